section OSUM
theorem i32_arc (a b c : Int32) : a + b + c = a + c + b := by rw [Int32.add_assoc, Int32.add_comm b c, ← Int32.add_assoc]
variable {q : PDt} {d : FDt} {u : Nat → Int32}
/-- the units of n meals -/
def smI (u : Nat → Int32) (n : Nat) : Int32 := itN (fun m a => a + u m) 0 n
theorem smI_succ (u : Nat → Int32) (n : Nat) : smI u (n + 1) = smI u n + u n := rfl
theorem smI_out {k : Nat} {v : Int32} : ∀ {n : Nat}, n ≤ k → smI (up1 u k v) n = smI u n
  | 0, _ => rfl
  | n + 1, h => by rw [smI_succ, smI_succ, smI_out (Nat.le_of_succ_le h), up1_ne (by omega)]
theorem smI_up {k : Nat} : ∀ {n : Nat}, k < n → smI (up1 u k (u k + 1)) n = smI u n + 1
  | n + 1, h => by
    rw [smI_succ, smI_succ]
    by_cases z : k = n
    · subst z
      rw [smI_out (Nat.le_refl _), up1_eq, Int32.add_assoc]
    · rw [smI_up (by omega), up1_ne (fun y => z y.symm), i32_arc]
theorem smI_add (u v : Nat → Int32) : ∀ n, smI (fun i => u i + v i) n = smI u n + smI v n
  | 0 => rfl
  | n + 1 => by
    rw [smI_succ, smI_succ, smI_succ, smI_add u v n]
    rw [Int32.add_assoc, Int32.add_assoc]
    congr 1
    rw [← Int32.add_assoc, ← Int32.add_assoc, Int32.add_comm (smI v n) (u n)]
theorem smI_cong {v : Nat → Int32} : ∀ {n : Nat}, (∀ i, i < n → u i = v i) → smI u n = smI v n
  | 0, _ => rfl
  | n + 1, h => by rw [smI_succ, smI_succ, smI_cong (fun i hi => h i (by omega)), h n (by omega)]
theorem smI_dl {m M : Nat} (hm : m < M) : ∀ (n : Nat) (u r : Nat → Int32), smI (dlD m n u r) M = smI u M + nI n
  | 0, u, r => (Int32.add_zero _).symm
  | n + 1, u, r => by
    show smI (dlD m n (up1 u (grD r m) (u (grD r m) + 1)) (up1 r (grD r m) (-1))) M = _
    rw [smI_dl hm n, smI_up (Nat.lt_of_le_of_lt (grD_le r m) hm), Int32.add_assoc, Int32.add_comm 1 (nI n), nI_1]
theorem rs_sm (q : PDt) (c w : Int32) : ∀ m, rsD q c w m + smI (fuD q c w) m = w
  | 0 => Int32.add_zero _
  | m + 1 => by
    rw [smI_succ, show rsD q c w (m + 1) = rsD q c w m - fuD q c w m from rfl]
    have h := rs_sm q c w m
    rw [show rsD q c w m - fuD q c w m + (smI (fuD q c w) m + fuD q c w m) = (rsD q c w m + smI (fuD q c w) m) + (fuD q c w m - fuD q c w m) by
      rw [Int32.sub_eq_add_neg, Int32.sub_eq_add_neg, Int32.add_assoc, Int32.add_assoc, Int32.add_comm (-fuD q c w m), Int32.add_assoc], h, Int32.sub_self, Int32.add_zero]
/-- a menu's units add up to what is wanted -/
theorem smI_di (hq : GdP q) {c : Int32} {x : Nat} (hx : x ≤ 100) (hs : ¬ shD q c < 1) (hM : 0 < pM q) : smI (diD q c (nI x) u) (pM q) = smI u (pM q) + nI x := by
  obtain ⟨n, hn, hn1, _⟩ := dv_cnt hq hx hs
  unfold diD
  rw [if_neg hs, smI_dl (by omega), hn, nN_nI (by omega)]
  have e : smI (fun i => if i < pM q then u i + fuD q c (nI x) i else u i) (pM q) = smI u (pM q) + smI (fuD q c (nI x)) (pM q) := by
    rw [← smI_add]
    exact smI_cong fun i hi => if_pos hi
  have h := rs_sm q c (nI x) (pM q)
  rw [e, Int32.add_assoc, Int32.add_comm (smI (fuD q c (nI x)) (pM q)), ← hn, h]
/-- what law adds for a special passenger -/
def spQ (q : PDt) (d : FDt) (k : Nat) : Int32 := if dF d 1 k = 0 then 0 else match chD q (fitD q (dF d 0 k) (dF d 1 k)) (pM q) with
  | none => 0
  | some _ => 1
theorem smI_o1 (k : Nat) : smI (o1D q d k u) (pM q) = smI u (pM q) + spQ q d k := by
  unfold o1D spQ
  by_cases z : dF d 1 k = 0
  · rw [if_pos z, if_pos z, Int32.add_zero]
  · rw [if_neg z, if_neg z]
    cases e : chD q (fitD q (dF d 0 k) (dF d 1 k)) (pM q) with
    | none => exact (Int32.add_zero _).symm
    | some b => exact smI_up (chD_lt e)
theorem smI_o1s : ∀ n, smI (itN (o1D q d) u n) (pM q) = smI u (pM q) + smI (spQ q d) n
  | 0 => (Int32.add_zero _).symm
  | n + 1 => by
    rw [itN_succ, smI_o1, smI_o1s n, smI_succ, Int32.add_assoc]
/-- what law adds for a cabin -/
def caQ (q : PDt) (d : FDt) (c : Nat) : Int32 := if meD q (nI c) = 0 then 0 else ((paD d (nI c) - spD d (nI c)) * (100 + pF q 1 c) + 99) / 100
theorem dlD_out {m i : Nat} (h : m < i) : ∀ (n : Nat) (u r : Nat → Int32), dlD m n u r i = u i
  | 0, _, _ => rfl
  | n + 1, u, r => by
    show dlD m n (up1 u (grD r m) (u (grD r m) + 1)) (up1 r (grD r m) (-1)) i = _
    rw [dlD_out h n, up1_ne (by have := grD_le r m; omega)]
theorem di_out {c w : Int32} {i : Nat} (h : pM q ≤ i) (hM : 0 < pM q) : diD q c w u i = u i := by
  unfold diD
  split
  · rfl
  · rw [dlD_out (by omega), if_neg (by omega)]
theorem o1_out {i k : Nat} (h : pM q ≤ i) : o1D q d k u i = u i := by
  unfold o1D
  split
  · rfl
  · cases e : chD q (fitD q (dF d 0 k) (dF d 1 k)) (pM q) with
    | none => rfl
    | some b => exact up1_ne (by have := chD_lt e; omega)
/-- nothing is ordered of what is not there -/
theorem or_out {i : Nat} (h : pM q ≤ i) (hM : 0 < pM q) : orD q d i = 0 := by
  have h1 : ∀ n, itN (o1D q d) (fun _ => (0 : Int32)) n i = 0 := fun n => by
    induction n with
    | zero => rfl
    | succ n ih => rw [itN_succ, o1_out h, ih]
  have h2 : ∀ n, itN (o2D q d) (itN (o1D q d) (fun _ => (0 : Int32)) (dP d)) n i = 0 := fun n => by
    induction n with
    | zero => exact h1 _
    | succ n ih =>
      rw [itN_succ]
      unfold o2D
      split
      · exact ih
      · rw [di_out h hM]; exact ih
  exact h2 _
theorem smI_tail {n : Nat} (h : ∀ i, n ≤ i → u i = 0) : ∀ k, smI u (n + k) = smI u n
  | 0 => rfl
  | k + 1 => by rw [← Nat.add_assoc, smI_succ, smI_tail h k, h _ (Nat.le_add_right _ _), Int32.add_zero]
theorem or_12 (hM : 0 < pM q) (h12 : pM q ≤ 12) : smI (orD q d) 12 = smI (orD q d) (pM q) := by
  have h := smI_tail (u := orD q d) (n := pM q) (fun i hi => or_out hi hM) (12 - pM q)
  rw [show pM q + (12 - pM q) = 12 by omega] at h
  exact h
/-- a cabin's menu -/
theorem meD_bit (q : PDt) (c : Int32) : ∀ (M : Nat), M ≤ 12 → ∀ j, j < 32 → bt (itN (fun i a => if pF q 2 i = c then a ||| ((1 : Int32) <<< (nI i &&& 31)) else a) 0 M) j = decide (j < M ∧ pF q 2 j = c)
  | 0, _, j, hj => by rw [itN_zero, b_0]; simp
  | M + 1, hM, j, hj => by
    have ih := meD_bit q c M (by omega) j hj
    rw [itN_succ]
    by_cases h2 : pF q 2 M = c
    · rw [if_pos h2, b_or, ih, b_bit M (by omega) hj]
      by_cases h3 : j = M
      · subst h3
        rw [decide_eq_true (rfl : j = j), Bool.or_true]
        exact (decide_eq_true ⟨Nat.lt_succ_self _, h2⟩).symm
      · rw [decide_eq_false h3, Bool.or_false]
        exact decide_eq_decide.mpr ⟨fun h => ⟨by omega, h.2⟩, fun h => ⟨by omega, h.2⟩⟩
    · rw [if_neg h2, ih]
      refine decide_eq_decide.mpr ⟨fun h => ⟨by omega, h.2⟩, fun h => ⟨?_, h.2⟩⟩
      have : j ≠ M := by rintro rfl; exact h2 h.2
      omega
theorem meD_0 (hM : pM q ≤ 12) {c : Int32} : meD q c = 0 ↔ ∀ m, m < pM q → ¬ pF q 2 m = c := by
  constructor
  · intro h m hm e
    have hb := meD_bit q c (pM q) hM m (by omega)
    rw [show itN (fun i a => if pF q 2 i = c then a ||| ((1 : Int32) <<< (nI i &&& 31)) else a) 0 (pM q) = meD q c from rfl, h, b_0] at hb
    exact absurd (hb.trans (decide_eq_true ⟨hm, e⟩)) (by decide)
  · intro h
    refine b_ext fun j hj => ?_
    rw [b_0]
    exact (meD_bit q c (pM q) hM j hj).trans (decide_eq_false fun z => h j z.1 z.2)
/-- every menu meal has a share -/
def ShP (q : PDt) : Prop := ∀ m, m < pM q → pF q 2 m = -1 ∨ ∃ s, 1 ≤ s ∧ s < 100 ∧ pF q 3 m = nI s
theorem sh_me (hq : GdP q) (hs : ShP q) {c : Nat} (hc : c < 4) : shD q (nI c) < 1 ↔ meD q (nI c) = 0 := by
  obtain ⟨e, hb⟩ := shD_N (c := nI c) hq
  rw [meD_0 hq.M4, e]
  constructor
  · intro h m hm z
    have h0 : shS q (nI c) (pM q) = 0 := by
      have := (nI_ltI (a := shS q (nI c) (pM q)) (b := 1) (by omega) (by decide)).mp h
      omega
    have h1 := fb_sm_zero h0 m hm
    unfold shN at h1
    rw [if_pos z] at h1
    rcases hs m hm with y | ⟨s, s1, s2, y⟩
    · rw [z] at y
      rcases (by omega : c = 0 ∨ c = 1 ∨ c = 2 ∨ c = 3) with x | x | x | x <;> (subst x; exact absurd y (by decide))
    · rw [y, nN_nI (by omega)] at h1
      omega
  · intro h
    have h0 : shS q (nI c) (pM q) = 0 := by
      have : ∀ n, n ≤ pM q → fb_sm (shN q (nI c)) n = 0 := fun n => by
        induction n with
        | zero => intro _; rfl
        | succ n ih =>
          intro hn
          rw [fb_sm_succ, ih (by omega)]
          unfold shN
          rw [if_neg (h n (by omega))]
      exact this _ (Nat.le_refl _)
    rw [h0]
    decide
/-- a cabin's units -/
theorem smI_o2 (hq : GdP q) (hd : GdD q d) (hs : ShP q) (hM : 0 < pM q) {c : Nat} (hc : c < pC q) : smI (o2D q d c u) (pM q) = smI u (pM q) + caQ q d c := by
  obtain ⟨x, hx, e⟩ := waD_N hq hd hc
  have hC := hq.C4
  unfold o2D caQ
  by_cases h0 : paD d (nI c) - spD d (nI c) ≤ 0
  · rw [if_pos h0]
    have hp : paD d (nI c) - spD d (nI c) = 0 := by
      rw [← plD_eq, plD_N] at h0 ⊢
      have hl := plN_le d (nI c)
      have h4 := hd.P4
      have := (nI_leI (a := plN d (nI c)) (b := 0) (by omega) (by decide)).mp h0
      rw [show plN d (nI c) = 0 by omega]
      rfl
    have hz : ((0 : Int32) * (100 + pF q 1 c) + 99) / 100 = 0 := by rw [Int32.zero_mul]; decide
    rw [hp, hz]
    split <;> exact (Int32.add_zero _).symm
  · rw [if_neg h0]
    by_cases h1 : shD q (nI c) < 1
    · rw [if_pos ((sh_me hq hs (by omega)).mp h1), Int32.add_zero]
      unfold diD
      rw [if_pos h1]
    · rw [if_neg (fun z => h1 ((sh_me hq hs (by omega)).mpr z)), e, smI_di hq hx h1 hM]
      have e2 : waD q d c = nI x := e
      unfold waD at e2
      rw [e2]
theorem smI_0 : ∀ n, smI (fun _ => (0 : Int32)) n = 0
  | 0 => rfl
  | n + 1 => by rw [smI_succ, smI_0 n]; rfl
/-- the order's units -/
theorem or_sum (hq : GdP q) (hd : GdD q d) (hs : ShP q) (hM : 0 < pM q) : smI (orD q d) (pM q) = smI (caQ q d) (pC q) + smI (spQ q d) (dP d) := by
  have h : ∀ n, n ≤ pC q → smI (itN (o2D q d) (itN (o1D q d) (fun _ => (0 : Int32)) (dP d)) n) (pM q) = smI (caQ q d) n + smI (spQ q d) (dP d) := fun n => by
    induction n with
    | zero =>
      intro _
      rw [itN_zero, smI_o1s, smI_0]
      rfl
    | succ n ih =>
      intro hn
      rw [itN_succ, smI_o2 hq hd hs hM (by omega), ih (by omega), smI_succ, i32_arc]
  exact h _ (Nat.le_refl _)
/-- what is on the way -/
def owP (d : FDt) (n m : Nat) : Int32 := itN (fun i a => if dF d 3 i = nI m then a + dF d 4 i else a) 0 n
theorem smI_upv {k : Nat} {v : Int32} : ∀ {n : Nat}, k < n → smI (up1 u k (u k + v)) n = smI u n + v
  | n + 1, h => by
    rw [smI_succ, smI_succ]
    by_cases z : k = n
    · subst z
      rw [smI_out (Nat.le_refl _), up1_eq, Int32.add_assoc]
    · rw [smI_upv (by omega), up1_ne (fun y => z y.symm), i32_arc]
theorem ow_sum (hd : GdD q d) (hM : pM q ≤ 12) : ∀ n, n ≤ dU d → smI (owP d n) (pM q) = smI (fun i => dF d 4 i) n := by
  intro n
  induction n with
  | zero => intro _; exact smI_0 _
  | succ n ih =>
    intro hn
    obtain ⟨⟨k, hk, e⟩, _⟩ := hd.2.2.2.2.1 n (by omega)
    have h : ∀ i, i < pM q → owP d (n + 1) i = up1 (owP d n) k (owP d n k + dF d 4 n) i := fun i hi => by
      unfold owP
      rw [itN_succ, e]
      by_cases z : i = k
      · subst z
        rw [if_pos rfl, up1_eq]
      · rw [if_neg (fun y => z ((nI_eqI (by omega) (by omega)).mp y).symm), up1_ne z]
    rw [smI_cong h, smI_upv hk, ih (by omega), smI_succ]
end OSUM
