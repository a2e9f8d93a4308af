section MATCHP
/-! ===== drawers: more things than places ===== -/
theorem fb_holes : ∀ (m n : Nat) (f : Nat → Nat), (∀ i, i < n → f i < m) → (∀ i j, i < j → j < n → f i ≠ f j) → n ≤ m := by
  intro m
  induction m with
  | zero =>
    intro n f h1 _
    rcases Nat.eq_zero_or_pos n with h | h
    · omega
    · exact absurd (h1 0 h) (Nat.not_lt_zero _)
  | succ m ih =>
    intro n f h1 h2
    by_cases hx : ∃ i, i < n ∧ f i = m
    · obtain ⟨a, ha, hfa⟩ := hx
      have hg := ih (n - 1) (fun i => if i < a then f i else f (i + 1)) (by
        intro i hi
        by_cases q : i < a
        · simp only [if_pos q]
          have b1 := h1 i (by omega)
          have b2 := h2 i a q ha
          omega
        · simp only [if_neg q]
          have b1 := h1 (i + 1) (by omega)
          have b2 := h2 a (i + 1) (by omega) (by omega)
          omega) (by
        intro i j hij hj
        by_cases q : i < a
        · by_cases r : j < a
          · simp only [if_pos q, if_pos r]
            exact h2 i j hij (by omega)
          · simp only [if_pos q, if_neg r]
            exact h2 i (j + 1) (by omega) (by omega)
        · have r : ¬ j < a := by omega
          simp only [if_neg q, if_neg r]
          exact h2 (i + 1) (j + 1) (by omega) (by omega))
      omega
    · have hg := ih n f (fun i hi => by
        have b1 := h1 i hi
        have b2 : f i ≠ m := fun e => hx ⟨i, hi, e⟩
        omega) h2
      omega
/-- two of them in one place -/
theorem fb_twice {m n : Nat} {f : Nat → Nat} (h : ∀ i, i < n → f i < m) (hm : m < n) : ∃ i j, i < j ∧ j < n ∧ f i = f j := by
  refine Classical.byContradiction fun hx => ?_
  have := fb_holes m n f h (fun i j hij hj e => hx ⟨i, j, hij, hj, e⟩)
  omega
/-- as many as places, none twice: each place is taken -/
theorem fb_onto {n : Nat} {f : Nat → Nat} (h : ∀ i, i < n → f i < n) (h2 : ∀ i j, i < j → j < n → f i ≠ f j) {y : Nat} (hy : y < n) : ∃ i, i < n ∧ f i = y := by
  refine Classical.byContradiction fun hx => ?_
  have hne : ∀ i, i < n → f i ≠ y := fun i hi e => hx ⟨i, hi, e⟩
  have := fb_holes (n - 1) n (fun i => if f i < y then f i else f i - 1) (by
    intro i hi
    have b1 := h i hi
    have b2 := hne i hi
    by_cases q : f i < y
    · simp only [if_pos q]; omega
    · simp only [if_neg q]; omega) (by
    intro i j hij hj
    have b1 := hne i (by omega)
    have b2 := hne j hj
    have b3 := h2 i j hij hj
    by_cases q : f i < y
    · by_cases r : f j < y
      · simp only [if_pos q, if_pos r]; exact b3
      · simp only [if_pos q, if_neg r]; omega
    · by_cases r : f j < y
      · simp only [if_neg q, if_pos r]; omega
      · simp only [if_neg q, if_neg r]; omega)
  omega/-! ===== how many places have a property ===== -/
def fb_ct (p : Nat → Bool) : Nat → Nat
  | 0 => 0
  | n + 1 => fb_ct p n + (if p n then 1 else 0)
theorem fb_ct_succ (p : Nat → Bool) (n : Nat) : fb_ct p (n + 1) = fb_ct p n + (if p n then 1 else 0) := rfl
theorem fb_ct_le (p : Nat → Bool) : ∀ n, fb_ct p n ≤ n
  | 0 => Nat.le_refl _
  | n + 1 => by
    have h := fb_ct_le p n
    rw [fb_ct_succ]
    split <;> omega
theorem fb_ct_step (p : Nat → Bool) (m : Nat) : ∀ n, fb_ct p m ≤ fb_ct p (m + n)
  | 0 => Nat.le_refl _
  | n + 1 => by
    have h := fb_ct_step p m n
    show fb_ct p m ≤ fb_ct p (m + n + 1)
    rw [fb_ct_succ]
    omega
theorem fb_ct_mono (p : Nat → Bool) {m n : Nat} (h : m ≤ n) : fb_ct p m ≤ fb_ct p n := by
  have := fb_ct_step p m (n - m)
  rwa [Nat.add_sub_cancel' h] at this
theorem fb_ct_cong {p q : Nat → Bool} : ∀ {n : Nat}, (∀ k, k < n → p k = q k) → fb_ct p n = fb_ct q n
  | 0, _ => rfl
  | n + 1, h => by
    rw [fb_ct_succ, fb_ct_succ, fb_ct_cong (fun k hk => h k (by omega)), h n (by omega)]
/-- one place changed -/
theorem fb_ct_out (p : Nat → Bool) (b : Bool) {i n : Nat} (h : n ≤ i) : fb_ct (fun k => if k = i then b else p k) n = fb_ct p n :=
  fb_ct_cong fun k hk => if_neg (by omega)
theorem fb_ct_upd (p : Nat → Bool) (b : Bool) {i : Nat} : ∀ {n : Nat}, i < n → fb_ct (fun k => if k = i then b else p k) n + (if p i then 1 else 0) = fb_ct p n + (if b then 1 else 0)
  | 0, h => absurd h (Nat.not_lt_zero i)
  | n + 1, h => by
    rw [fb_ct_succ, fb_ct_succ]
    rcases Nat.lt_or_ge i n with q | q
    · have := fb_ct_upd p b q
      have e : (if n = i then b else p n) = p n := if_neg (by omega)
      rw [e]
      omega
    · have e : i = n := by omega
      subst e
      rw [fb_ct_out p b (Nat.le_refl _)]
      simp only [if_true]
      omega
theorem fb_ct_sub {p q : Nat → Bool} : ∀ {n : Nat}, (∀ k, k < n → p k = true → q k = true) → fb_ct p n ≤ fb_ct q n
  | 0, _ => Nat.le_refl _
  | n + 1, h => by
    have h1 := fb_ct_sub (n := n) (p := p) (q := q) (fun k hk => h k (by omega))
    have h2 := h n (by omega)
    rw [fb_ct_succ, fb_ct_succ]
    cases hp : p n <;> cases hq : q n <;> simp_all <;> omega
theorem fb_ct_or {p q : Nat → Bool} : ∀ {n : Nat}, (∀ k, k < n → ¬ (p k = true ∧ q k = true)) → fb_ct (fun k => p k || q k) n = fb_ct p n + fb_ct q n
  | 0, _ => rfl
  | n + 1, h => by
    have h1 := fb_ct_or (n := n) (p := p) (q := q) (fun k hk => h k (by omega))
    have h2 := h n (by omega)
    rw [fb_ct_succ, fb_ct_succ, fb_ct_succ, h1]
    cases hp : p n <;> cases hq : q n <;> simp_all <;> omega
theorem fb_ct_not (p : Nat → Bool) : ∀ n, fb_ct p n + fb_ct (fun k => !p k) n = n
  | 0 => rfl
  | n + 1 => by
    have h := fb_ct_not p n
    rw [fb_ct_succ, fb_ct_succ]
    cases p n <;> simp <;> omega
theorem fb_ct_split (p : Nat → Bool) (m : Nat) : ∀ n, fb_ct p (m + n) = fb_ct p m + fb_ct (fun k => p (m + k)) n
  | 0 => rfl
  | n + 1 => by
    have h := fb_ct_split p m n
    show fb_ct p (m + n + 1) = _
    rw [fb_ct_succ, fb_ct_succ, h, Nat.add_assoc]
theorem fb_ct_zero {p : Nat → Bool} : ∀ {n : Nat}, fb_ct p n = 0 ↔ ∀ k, k < n → p k = false
  | 0 => ⟨fun _ k hk => absurd hk (Nat.not_lt_zero k), fun _ => rfl⟩
  | n + 1 => by
    have h := fb_ct_zero (p := p) (n := n)
    rw [fb_ct_succ]
    constructor
    · intro e k hk
      have e1 : fb_ct p n = 0 := by omega
      rcases Nat.lt_or_ge k n with q | q
      · exact h.mp e1 k q
      · have ek : k = n := by omega
        subst ek
        cases hp : p k
        · rfl
        · simp [hp] at e
    · intro a
      rw [h.mpr (fun k hk => a k (by omega)), a n (by omega)]
      rfl
theorem fb_ct_pos {p : Nat → Bool} {n : Nat} : 0 < fb_ct p n ↔ ∃ k, k < n ∧ p k = true := by
  constructor
  · intro h
    refine Classical.byContradiction fun hx => ?_
    have := fb_ct_zero.mpr (fun k hk => by
      cases hp : p k
      · rfl
      · exact absurd ⟨k, hk, hp⟩ hx : ∀ k, k < n → p k = false)
    omega
  · rintro ⟨k, hk, hp⟩
    rcases Nat.eq_zero_or_pos (fb_ct p n) with e | e
    · have := fb_ct_zero.mp e k hk
      rw [this] at hp
      cases hp
    · exact e
theorem fb_ct_all {p : Nat → Bool} {n : Nat} : fb_ct p n = n ↔ ∀ k, k < n → p k = true := by
  have h := fb_ct_not p n
  constructor
  · intro e k hk
    have z : fb_ct (fun k => !p k) n = 0 := by omega
    have := fb_ct_zero.mp z k hk
    cases hp : p k
    · simp [hp] at this
    · rfl
  · intro a
    have z : fb_ct (fun k => !p k) n = 0 := fb_ct_zero.mpr (fun k hk => by simp [a k hk])
    omega
/-- the k-th place with the property -/
theorem fb_ct_kth {p : Nat → Bool} {k : Nat} : ∀ {n : Nat}, k < fb_ct p n → ∃ i, i < n ∧ p i = true ∧ fb_ct p i = k
  | 0, h => absurd h (Nat.not_lt_zero k)
  | n + 1, h => by
    rcases Nat.lt_or_ge k (fb_ct p n) with q | q
    · obtain ⟨i, h1, h2⟩ := fb_ct_kth q
      exact ⟨i, by omega, h2⟩
    · rw [fb_ct_succ] at h
      cases hp : p n
      · simp [hp] at h; omega
      · simp [hp] at h
        exact ⟨n, by omega, hp, by omega⟩
theorem fb_ct_kth_one {p : Nat → Bool} {i j : Nat} (hi : p i = true) (hj : p j = true) (e : fb_ct p i = fb_ct p j) : i = j := by
  have key : ∀ a b : Nat, a < b → p a = true → fb_ct p a < fb_ct p b := by
    intro a b hab ha
    have h := fb_ct_mono p (show a + 1 ≤ b from hab)
    rw [fb_ct_succ, ha] at h
    simp at h
    omega
  rcases Nat.lt_trichotomy i j with q | q | q
  · have := key i j q hi; omega
  · exact q
  · have := key j i q hj; omega/-! ===== sums over a range: one place changed, parts, bounds ===== -/
def fb_sm (f : Nat → Nat) : Nat → Nat
  | 0 => 0
  | n + 1 => fb_sm f n + f n
theorem fb_sm_succ (f : Nat → Nat) (n : Nat) : fb_sm f (n + 1) = fb_sm f n + f n := rfl
theorem fb_sm_cong {f g : Nat → Nat} : ∀ {n : Nat}, (∀ k, k < n → f k = g k) → fb_sm f n = fb_sm g n
  | 0, _ => rfl
  | n + 1, h => by rw [fb_sm_succ, fb_sm_succ, fb_sm_cong (fun k hk => h k (by omega)), h n (by omega)]
theorem fb_sm_out (f : Nat → Nat) (v : Nat) {i n : Nat} (h : n ≤ i) : fb_sm (fun k => if k = i then v else f k) n = fb_sm f n :=
  fb_sm_cong fun k hk => if_neg (by omega)
theorem fb_sm_upd (f : Nat → Nat) (v : Nat) {i : Nat} : ∀ {n : Nat}, i < n → fb_sm (fun k => if k = i then v else f k) n + f i = fb_sm f n + v
  | 0, h => absurd h (Nat.not_lt_zero i)
  | n + 1, h => by
    rw [fb_sm_succ, fb_sm_succ]
    rcases Nat.lt_or_ge i n with q | q
    · have := fb_sm_upd f v q
      have e : (if n = i then v else f n) = f n := if_neg (by omega)
      rw [e]
      omega
    · have e : i = n := by omega
      subst e
      rw [fb_sm_out f v (Nat.le_refl _)]
      simp only [if_true]
      omega
theorem fb_sm_add (f g : Nat → Nat) : ∀ n, fb_sm (fun k => f k + g k) n = fb_sm f n + fb_sm g n
  | 0 => rfl
  | n + 1 => by
    have h := fb_sm_add f g n
    rw [fb_sm_succ, fb_sm_succ, fb_sm_succ, h]
    omega
theorem fb_sm_le {f g : Nat → Nat} : ∀ {n : Nat}, (∀ k, k < n → f k ≤ g k) → fb_sm f n ≤ fb_sm g n
  | 0, _ => Nat.le_refl _
  | n + 1, h => by
    have h1 := fb_sm_le (n := n) (f := f) (g := g) (fun k hk => h k (by omega))
    have h2 := h n (by omega)
    rw [fb_sm_succ, fb_sm_succ]
    omega
theorem fb_sm_const (c : Nat) : ∀ n, fb_sm (fun _ => c) n = n * c
  | 0 => by rw [Nat.zero_mul]; rfl
  | n + 1 => by rw [fb_sm_succ, fb_sm_const c n, Nat.succ_mul]
theorem fb_sm_bound {f : Nat → Nat} {c n : Nat} (h : ∀ k, k < n → f k ≤ c) : fb_sm f n ≤ n * c := by
  rw [← fb_sm_const c n]
  exact fb_sm_le h
theorem fb_sm_mono (f : Nat → Nat) (m : Nat) : ∀ n, fb_sm f m ≤ fb_sm f (m + n)
  | 0 => Nat.le_refl _
  | n + 1 => by
    have h := fb_sm_mono f m n
    show fb_sm f m ≤ fb_sm f (m + n + 1)
    rw [fb_sm_succ]
    omega
theorem fb_sm_part (f : Nat → Nat) {i n : Nat} (h : i < n) : fb_sm f i + f i ≤ fb_sm f n := by
  have := fb_sm_mono f (i + 1) (n - (i + 1))
  rw [fb_sm_succ, show i + 1 + (n - (i + 1)) = n by omega] at this
  exact this
theorem fb_sm_split (f : Nat → Nat) (m : Nat) : ∀ n, fb_sm f (m + n) = fb_sm f m + fb_sm (fun k => f (m + k)) n
  | 0 => rfl
  | n + 1 => by
    have h := fb_sm_split f m n
    show fb_sm f (m + n + 1) = _
    rw [fb_sm_succ, fb_sm_succ, h, Nat.add_assoc]
theorem fb_sm_zero {f : Nat → Nat} {n : Nat} (h : fb_sm f n = 0) : ∀ k, k < n → f k = 0 := fun k hk => by
  have := fb_sm_part f hk
  omega
/-- the same over whole numbers -/
def fb_si (f : Nat → Int) : Nat → Int
  | 0 => 0
  | n + 1 => fb_si f n + f n
theorem fb_si_succ (f : Nat → Int) (n : Nat) : fb_si f (n + 1) = fb_si f n + f n := rfl
theorem fb_si_cong {f g : Nat → Int} : ∀ {n : Nat}, (∀ k, k < n → f k = g k) → fb_si f n = fb_si g n
  | 0, _ => rfl
  | n + 1, h => by rw [fb_si_succ, fb_si_succ, fb_si_cong (fun k hk => h k (by omega)), h n (by omega)]
theorem fb_si_out (f : Nat → Int) (v : Int) {i n : Nat} (h : n ≤ i) : fb_si (fun k => if k = i then v else f k) n = fb_si f n :=
  fb_si_cong fun k hk => if_neg (by omega)
theorem fb_si_upd (f : Nat → Int) (v : Int) {i : Nat} : ∀ {n : Nat}, i < n → fb_si (fun k => if k = i then v else f k) n = fb_si f n - f i + v
  | 0, h => absurd h (Nat.not_lt_zero i)
  | n + 1, h => by
    rw [fb_si_succ, fb_si_succ]
    rcases Nat.lt_or_ge i n with q | q
    · have := fb_si_upd f v q
      have e : (if n = i then v else f n) = f n := if_neg (by omega)
      rw [e]
      omega
    · have e : i = n := by omega
      subst e
      rw [fb_si_out f v (Nat.le_refl _)]
      simp only [if_true]
      omega
theorem fb_si_add (f g : Nat → Int) : ∀ n, fb_si (fun k => f k + g k) n = fb_si f n + fb_si g n
  | 0 => rfl
  | n + 1 => by
    have h := fb_si_add f g n
    rw [fb_si_succ, fb_si_succ, fb_si_succ, h]
    omega
theorem fb_si_sub (f g : Nat → Int) : ∀ n, fb_si (fun k => f k - g k) n = fb_si f n - fb_si g n
  | 0 => rfl
  | n + 1 => by
    have h := fb_si_sub f g n
    rw [fb_si_succ, fb_si_succ, fb_si_succ, h]
    omega
theorem fb_si_mul (c : Int) (f : Nat → Int) : ∀ n, fb_si (fun k => c * f k) n = c * fb_si f n
  | 0 => (Int.mul_zero c).symm
  | n + 1 => by
    have h := fb_si_mul c f n
    rw [fb_si_succ, fb_si_succ, h, Int.mul_add]
theorem fb_si_split (f : Nat → Int) (m : Nat) : ∀ n, fb_si f (m + n) = fb_si f m + fb_si (fun k => f (m + k)) n
  | 0 => (Int.add_zero _).symm
  | n + 1 => by
    have h := fb_si_split f m n
    show fb_si f (m + n + 1) = _
    rw [fb_si_succ, fb_si_succ, h, Int.add_assoc]
theorem fb_si_nat (f : Nat → Nat) : ∀ n, fb_si (fun k => (f k : Int)) n = (fb_sm f n : Int)
  | 0 => rfl
  | n + 1 => by
    have h := fb_si_nat f n
    rw [fb_si_succ, fb_sm_succ, h]
    omega
theorem fb_si_bound {f : Nat → Int} {c : Int} (hc : 0 ≤ c) : ∀ {n : Nat}, (∀ k, k < n → -c ≤ f k ∧ f k ≤ c) → -(n * c) ≤ fb_si f n ∧ fb_si f n ≤ n * c
  | 0, _ => by simp [fb_si]
  | n + 1, h => by
    have h1 := fb_si_bound (n := n) (f := f) hc (fun k hk => h k (by omega))
    have h2 := h n (by omega)
    have e : ((n + 1 : Nat) : Int) * c = n * c + c := by rw [Int.natCast_add, Int.add_mul]; simp
    rw [fb_si_succ, e]
    omega

/-- a search: the first of d places from a on -/
def fstF (p : Nat → Bool) : Nat → Nat → Option Nat
  | 0, _ => none
  | d + 1, a => if p a then some a else fstF p d (a + 1)
theorem fstF_some {p : Nat → Bool} : ∀ {d a x : Nat}, fstF p d a = some x → a ≤ x ∧ x < a + d ∧ p x = true ∧ ∀ y, a ≤ y → y < x → p y = false
  | 0, _, _, h => nomatch h
  | d + 1, a, x, h => by
    unfold fstF at h
    by_cases q : p a = true
    · rw [if_pos q] at h
      injection h with h
      subst h
      exact ⟨Nat.le_refl _, by omega, q, fun y h1 h2 => by omega⟩
    · rw [if_neg q] at h
      obtain ⟨h1, h2, h3, h4⟩ := fstF_some h
      refine ⟨by omega, by omega, h3, fun y h5 h6 => ?_⟩
      by_cases e : y = a
      · subst e; exact Bool.eq_false_iff.mpr q
      · exact h4 y (by omega) h6
theorem fstF_none {p : Nat → Bool} : ∀ {d a : Nat}, fstF p d a = none → ∀ y, a ≤ y → y < a + d → p y = false
  | 0, _, _, y, h1, h2 => by omega
  | d + 1, a, h, y, h1, h2 => by
    unfold fstF at h
    by_cases q : p a = true
    · rw [if_pos q] at h; exact nomatch h
    · rw [if_neg q] at h
      by_cases e : y = a
      · subst e; exact Bool.eq_false_iff.mpr q
      · exact fstF_none h y (by omega) (by omega)
def cntG (g : Nat → Option Nat) (P m : Nat) : Nat := fb_ct (fun p => decide (g p = some m)) P
def szG (g : Nat → Option Nat) (P : Nat) : Nat := fb_ct (fun p => (g p).isSome) P
def inR (R : Nat → Bool) (x : Option Nat) : Bool := match x with
  | some m => R m
  | none => false
theorem nR {R : Nat → Bool} : ¬ inR R none = true := Bool.false_ne_true
def inG (g : Nat → Option Nat) (R : Nat → Bool) (P : Nat) : Nat := fb_ct (fun p => inR R (g p)) P
/-- a matching: whom what suits, at most so many of each -/
def MtG (S : Nat → Nat → Bool) (cap : Nat → Nat) (P M : Nat) (g : Nat → Option Nat) : Prop := (∀ p m, p < P → g p = some m → m < M ∧ S p m = true) ∧ ∀ m, m < M → cntG g P m ≤ cap m
theorem sz_split (g : Nat → Option Nat) (R : Nat → Bool) (P : Nat) : szG g P = inG g R P + inG g (fun m => !R m) P := by
  unfold szG inG
  rw [← fb_ct_or]
  · exact fb_ct_cong fun k _ => by
      cases g k with
      | none => rfl
      | some m => show true = (R m || !R m); cases R m <;> rfl
  · intro k _ h
    cases e : g k with
    | none => rw [e] at h; exact absurd h.1 nR
    | some m => rw [e] at h; have h1 : R m = true := h.1; have h2 : (!R m) = true := h.2; rw [h1] at h2; exact absurd h2 (by decide)
theorem inG_sum {g : Nat → Option Nat} {R : Nat → Bool} {M : Nat} : ∀ {P : Nat}, (∀ p m, p < P → g p = some m → m < M) → inG g R P = fb_sm (fun m => if R m then cntG g P m else 0) M
  | 0, _ => by
    have e : ∀ M, fb_sm (fun m => if R m then cntG g 0 m else 0) M = 0 := by
      intro M
      induction M with
      | zero => rfl
      | succ M ih => rw [fb_sm_succ, ih]; simp [cntG, fb_ct]
    exact (e M).symm
  | P + 1, h => by
    have ih := inG_sum (g := g) (R := R) (M := M) (P := P) fun p m hp => h p m (by omega)
    show inG g R P + (if inR R (g P) = true then 1 else 0) = _
    rw [ih]
    cases e : g P with
    | none =>
      rw [if_neg nR, Nat.add_zero]
      exact fb_sm_cong fun k _ => by
        have : cntG g (P + 1) k = cntG g P k := by show cntG g P k + (if decide (g P = some k) = true then 1 else 0) = _; rw [e, if_neg (by simp)]; rfl
        rw [this]
    | some m =>
      have hm := h P m (by omega) e
      have hc : ∀ k, cntG g (P + 1) k = cntG g P k + if k = m then 1 else 0 := fun k => by
        show cntG g P k + (if decide (g P = some k) = true then 1 else 0) = _
        rw [e]
        by_cases q : k = m
        · subst q; simp
        · rw [if_neg (by simp; omega), if_neg q]
      have hu := fb_sm_upd (fun k => if R k then cntG g P k else 0) ((if R m then cntG g P m else 0) + if R m then 1 else 0) (i := m) (n := M) hm
      have hg : fb_sm (fun k => if R k then cntG g (P + 1) k else 0) M = fb_sm (fun k => if k = m then (if R m then cntG g P m else 0) + (if R m then 1 else 0) else (if R k then cntG g P k else 0)) M := fb_sm_cong fun k _ => by
        show (if R k then cntG g (P + 1) k else 0) = _
        rw [hc]
        by_cases q : k = m
        · subst q; cases R k <;> simp
        · rw [if_neg q, if_neg q, Nat.add_zero]
      rw [hg]
      show _ + (if R m = true then 1 else 0) = _
      have hu' : fb_sm (fun k => if k = m then (if R m then cntG g P m else 0) + (if R m then 1 else 0) else (if R k then cntG g P k else 0)) M + (if R m then cntG g P m else 0) = fb_sm (fun k => if R k then cntG g P k else 0) M + ((if R m then cntG g P m else 0) + if R m then 1 else 0) := hu
      omega
theorem cnt_up {g : Nat → Option Nat} {P p : Nat} (hp : p < P) (v : Option Nat) (m : Nat) : cntG (up1 g p v) P m + (if g p = some m then 1 else 0) = cntG g P m + (if v = some m then 1 else 0) := by
  have h := fb_ct_upd (fun k => decide (g k = some m)) (decide (v = some m)) (i := p) (n := P) hp
  have e : (fun k => if k = p then decide (v = some m) else decide (g k = some m)) = fun k => decide (up1 g p v k = some m) := funext fun k => by
    unfold up1
    split <;> rfl
  rw [e] at h
  simp only [decide_eq_true_eq] at h
  exact h
theorem sz_up {g : Nat → Option Nat} {P p : Nat} (hp : p < P) (v : Option Nat) : szG (up1 g p v) P + (if (g p).isSome then 1 else 0) = szG g P + (if v.isSome then 1 else 0) := by
  have h := fb_ct_upd (fun k => (g k).isSome) v.isSome (i := p) (n := P) hp
  have e : (fun k => if k = p then v.isSome else (g k).isSome) = fun k => (up1 g p v k).isSome := funext fun k => by
    unfold up1
    split <;> rfl
  rw [e] at h
  exact h
/-- koenig: no more can be matched behind a closed set of meals that are all taken -/
theorem koe {S : Nat → Nat → Bool} {cap : Nat → Nat} {P M first : Nat} {g g' : Nat → Option Nat} {R : Nat → Bool} (hg : ∀ p m, p < P → g p = some m → m < M ∧ S p m = true) (hg' : MtG S cap P M g') (hpre : ∀ p, p < first → g' p = g p)
    (hfull : ∀ m, m < M → R m = true → cntG g P m = cap m) (hcl : ∀ p, first ≤ p → p < P → (g p = none ∨ ∃ m, g p = some m ∧ R m = true) → ∀ m, m < M → S p m = true → R m = true) : szG g' P ≤ szG g P := by
  rw [sz_split g' R, sz_split g R]
  refine Nat.add_le_add ?_ ?_
  · rw [inG_sum (M := M) fun p m hp h => (hg'.1 p m hp h).1, inG_sum (M := M) fun p m hp h => (hg p m hp h).1]
    refine fb_sm_le fun m hm => ?_
    show (if R m = true then cntG g' P m else 0) ≤ if R m = true then cntG g P m else 0
    by_cases q : R m = true
    · rw [if_pos q, if_pos q, hfull m hm q]; exact hg'.2 m hm
    · rw [if_neg q]; exact Nat.zero_le _
  · refine fb_ct_sub fun p hp h => ?_
    cases e : g' p with
    | none => rw [e] at h; exact absurd h nR
    | some m =>
      rw [e] at h
      have hm := hg'.1 p m hp e
      have hR : ¬ R m = true := by
        have h : (!R m) = true := h
        intro q; rw [q] at h; exact absurd h (by decide)
      by_cases q : p < first
      · rw [← hpre p q, e]; exact h
      · have c := hcl p (by omega) hp
        cases e2 : g p with
        | none => exact absurd (c (Or.inl e2) m hm.1 hm.2) hR
        | some m2 =>
          by_cases q2 : R m2 = true
          · exact absurd (c (Or.inr ⟨m2, e2, q2⟩) m hm.1 hm.2) hR
          · show (!R m2) = true
            rw [Bool.eq_false_iff.mpr q2]; rfl
def leO (a b : Option Nat) : Prop := match a, b with
  | some x, some y => x ≤ y
  | some _, none => True
  | none, none => True
  | none, some _ => False
theorem leO_anti : ∀ {a b : Option Nat}, leO a b → leO b a → a = b
  | none, none, _, _ => rfl
  | none, some _, h, _ => h.elim
  | some _, none, _, h => h.elim
  | some x, some y, h1, h2 => congrArg some (Nat.le_antisymm h1 h2)
/-- as many as possible, and each in turn the first meal -/
def LexG (S : Nat → Nat → Bool) (cap : Nat → Nat) (P M : Nat) (g : Nat → Option Nat) (n : Nat) : Prop := (MtG S cap P M g ∧ szG g P = n ∧ ∀ g', MtG S cap P M g' → szG g' P ≤ n) ∧
  ∀ p, p < P → ∀ g', MtG S cap P M g' → szG g' P = n → (∀ i, i < p → g' i = g i) → leO (g p) (g' p)
theorem Lex_uniq {S : Nat → Nat → Bool} {cap : Nat → Nat} {P M n n' : Nat} {g g' : Nat → Option Nat} (h : LexG S cap P M g n) (h' : LexG S cap P M g' n') : ∀ p, p < P → g p = g' p := by
  have e : n = n' := Nat.le_antisymm (h.1.2.1 ▸ h'.1.2.2 g h.1.1) (h'.1.2.1 ▸ h.1.2.2 g' h'.1.1)
  subst e
  intro p
  induction p using Nat.strongRecOn with
  | ind p ih =>
    intro hp
    exact leO_anti (h.2 p hp g' h'.1.1 h'.1.2.1 fun i hi => (ih i hi (by omega)).symm) (h'.2 p hp g h.1.1 h.1.2.1 fun i hi => ih i hi (by omega))
theorem MtG.congr {S S' : Nat → Nat → Bool} {cap cap' : Nat → Nat} {P M : Nat} {g : Nat → Option Nat} (h : MtG S cap P M g) (hS : ∀ p m, p < P → m < M → S p m = S' p m) (hc : ∀ m, m < M → cap m = cap' m) : MtG S' cap' P M g :=
  ⟨fun p m hp e => ⟨(h.1 p m hp e).1, (hS p m hp (h.1 p m hp e).1) ▸ (h.1 p m hp e).2⟩, fun m hm => hc m hm ▸ h.2 m hm⟩
theorem MtG.cg {S : Nat → Nat → Bool} {cap : Nat → Nat} {P M : Nat} {g g' : Nat → Option Nat} (h : MtG S cap P M g) (he : ∀ p, p < P → g p = g' p) : MtG S cap P M g' :=
  ⟨fun p m hp e => h.1 p m hp ((he p hp).trans e), fun m hm => by
    have : cntG g P m = cntG g' P m := fb_ct_cong fun k hk => by rw [he k hk]
    exact this ▸ h.2 m hm⟩
theorem sz_cg {P : Nat} {g g' : Nat → Option Nat} (he : ∀ p, p < P → g p = g' p) : szG g P = szG g' P := fb_ct_cong fun k hk => by rw [he k hk]
theorem cnt_cg {P m : Nat} {g g' : Nat → Option Nat} (he : ∀ p, p < P → g p = g' p) : cntG g P m = cntG g' P m := fb_ct_cong fun k hk => by rw [he k hk]
end MATCHP
