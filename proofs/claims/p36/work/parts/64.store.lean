section STOREP
variable {q : PDt} {d : FDt} {k : Nat}
def setU (d : FDt) (t k : Nat) (v : Int32) : FDt := (dP d, dU d, up2 (dF d) (7 + t) k v, dA d)
def incD (d : FDt) (t k : Nat) : FDt := setU d t k (dF d (7 + t) k + 1)
theorem setU_P (d : FDt) (t k : Nat) (v : Int32) : dP (setU d t k v) = dP d ∧ dU (setU d t k v) = dU d ∧ dA (setU d t k v) = dA d := ⟨rfl, rfl, rfl⟩
theorem setU_at (d : FDt) (t k : Nat) (v : Int32) : dF (setU d t k v) (7 + t) k = v := up2_eq _ _ _ _
theorem setU_lo (d : FDt) (t k : Nat) (v : Int32) {a i : Nat} (h : a < 7) : dF (setU d t k v) a i = dF d a i := up2_ne (by omega)
theorem setU_ne (d : FDt) {t k t2 k2 : Nat} (v : Int32) (h : t2 ≠ t ∨ k2 ≠ k) : dF (setU d t k v) (7 + t2) k2 = dF d (7 + t2) k2 := up2_ne (by omega)
theorem setU_set (d : FDt) (t k : Nat) (v x : Int32) : setU (setU d t k v) t k x = setU d t k x := by
  unfold setU
  refine congrArg (fun f => (dP d, dU d, f, dA d)) (funext fun a => funext fun b => ?_)
  show up2 (up2 (dF d) (7 + t) k v) (7 + t) k x a b = up2 (dF d) (7 + t) k x a b
  unfold up2
  by_cases h : a = 7 + t ∧ b = k
  · rw [if_pos h, if_pos h]
  · rw [if_neg h, if_neg h, if_neg h]
theorem setU_same (d : FDt) (t k : Nat) : setU d t k (dF d (7 + t) k) = d := by
  unfold setU
  have : up2 (dF d) (7 + t) k (dF d (7 + t) k) = dF d := funext fun a => funext fun b => by
    unfold up2
    by_cases h : a = 7 + t ∧ b = k
    · rw [if_pos h, h.1, h.2]
    · rw [if_neg h]
  rw [this]
  rfl
theorem fsD_congr {d2 : FDt} {t : Nat} (h : ∀ i, i < pM q → dF d2 (7 + t) i = dF d (7 + t) i) : fsD q d2 t = fsD q d t := itN_congr rfl fun i x hi => by rw [h i hi]
theorem ldD_congr {d2 : FDt} {i : Nat} (h : ∀ t, t < pT q → dF d2 (7 + t) i = dF d (7 + t) i) : ldD q d2 i = ldD q d i := itN_congr rfl fun t x ht => by rw [h t ht]
theorem owD_congr {d2 : FDt} {c : Int32} (hU : dU d2 = dU d) (h : ∀ a i, a < 7 → dF d2 a i = dF d a i) : owD d2 c = owD d c := by
  unfold owD
  rw [hU]
  exact itN_congr rfl fun i x hi => by rw [h 3 i (by decide), h 4 i (by decide)]
theorem fsD_inc_ne {t t2 : Nat} (h : t2 ≠ t) (v : Int32) : fsD q (setU d t k v) t2 = fsD q d t2 := fsD_congr fun i _ => setU_ne d v (Or.inl h)
/-- a trolley has room for a unit -/
def feB (q : PDt) (d : FDt) (k t : Nat) : Bool := decide (¬ adI (pF q 2 k) (pF q 7 t) = 0 ∧ ¬ fsD q d t < pF q 4 k)
theorem feB_ne {t t2 : Nat} (h : t2 ≠ t) (v : Int32) : feB q (setU d t k v) k t2 = feB q d k t2 := by unfold feB; rw [fsD_inc_ne h]
/-- the class's way: trolley t as far as it goes -/
def fiP (q : PDt) (k t : Nat) : Nat → FDt → Nat × FDt
  | 0, d => (0, d)
  | n + 1, d => if adI (pF q 2 k) (pF q 7 t) = 0 then (0, d) else if fsD q d t < pF q 4 k then (0, d) else ((fiP q k t n (incD d t k)).1 + 1, (fiP q k t n (incD d t k)).2)
def puP (q : PDt) (k : Nat) : Nat → Nat → Nat → FDt → Nat × FDt
  | 0, _, _, d => (0, d)
  | c + 1, t, n, d => ((fiP q k t n d).1 + (puP q k c (t + 1) (n - (fiP q k t n d).1) (fiP q k t n d).2).1, (puP q k c (t + 1) (n - (fiP q k t n d).1) (fiP q k t n d).2).2)
/-- the model's way: unit by unit, the first trolley with room -/
def on1 (q : PDt) (k : Nat) (d : FDt) : Option Nat := fstF (feB q d k) (pT q) 0
def stM (q : PDt) (k : Nat) : Nat → FDt → Nat × FDt
  | 0, d => (0, d)
  | n + 1, d => match on1 q k d with
    | none => (0, d)
    | some t => ((stM q k n (incD d t k)).1 + 1, (stM q k n (incD d t k)).2)
theorem fiP_f {t n : Nat} (h : feB q d k t = false) : fiP q k t n d = (0, d) := by
  cases n with
  | zero => rfl
  | succ n =>
    unfold fiP
    by_cases h1 : adI (pF q 2 k) (pF q 7 t) = 0
    · rw [if_pos h1]
    · rw [if_neg h1]
      by_cases h2 : fsD q d t < pF q 4 k
      · rw [if_pos h2]
      · unfold feB at h
        rw [decide_eq_false_iff_not] at h
        exact absurd ⟨h1, h2⟩ h
theorem fiP_t {t n : Nat} (h : feB q d k t = true) : fiP q k t (n + 1) d = ((fiP q k t n (incD d t k)).1 + 1, (fiP q k t n (incD d t k)).2) := by
  unfold feB at h
  rw [decide_eq_true_eq] at h
  show (if adI (pF q 2 k) (pF q 7 t) = 0 then (0, d) else if fsD q d t < pF q 4 k then (0, d) else _) = _
  rw [if_neg h.1, if_neg h.2]
theorem puP_zero : ∀ c t (d : FDt), puP q k c t 0 d = (0, d) := by
  intro c
  induction c with
  | zero => intro t d; rfl
  | succ c ih =>
    intro t d
    show ((fiP q k t 0 d).1 + (puP q k c (t + 1) (0 - (fiP q k t 0 d).1) (fiP q k t 0 d).2).1, (puP q k c (t + 1) (0 - (fiP q k t 0 d).1) (fiP q k t 0 d).2).2) = (0, d)
    have e : fiP q k t 0 d = (0, d) := rfl
    rw [e]
    show (0 + (puP q k c (t + 1) 0 d).1, (puP q k c (t + 1) 0 d).2) = (0, d)
    rw [ih]
    rfl
theorem fst_first {p : Nat → Bool} {n t : Nat} (ht : t < n) (hp : p t = true) (hn : ∀ y, y < t → p y = false) : fstF p n 0 = some t := by
  cases e : fstF p n 0 with
  | none => rw [fstF_none e t (Nat.zero_le _) (by omega)] at hp; cases hp
  | some x =>
    obtain ⟨_, h2, h3, h4⟩ := fstF_some e
    by_cases h : x < t
    · rw [hn x h] at h3; cases h3
    · by_cases h5 : t < x
      · rw [h4 t (Nat.zero_le _) h5] at hp; cases hp
      · rw [show x = t by omega]
theorem fst_none {p : Nat → Bool} {n : Nat} (hn : ∀ y, y < n → p y = false) : fstF p n 0 = none := by
  cases e : fstF p n 0 with
  | none => rfl
  | some x =>
    obtain ⟨_, h2, h3, _⟩ := fstF_some e
    rw [hn x (by omega)] at h3
    cases h3
theorem st_pu : ∀ c n t (d : FDt), t + c = pT q → (∀ y, y < t → feB q d k y = false) → stM q k n d = puP q k c t n d := by
  intro c
  induction c with
  | zero =>
    intro n t d ht hn
    have e : on1 q k d = none := fst_none (by rw [← ht]; exact hn)
    cases n with
    | zero => rfl
    | succ n =>
      show (match on1 q k d with | none => (0, d) | some t => _) = _
      rw [e]; rfl
  | succ c ih =>
    intro n
    induction n with
    | zero => intro t d _ _; rw [puP_zero]; rfl
    | succ n ihn =>
      intro t d ht hn
      cases hf : feB q d k t with
      | false =>
        have e := fiP_f (n := n + 1) hf
        show stM q k (n + 1) d = ((fiP q k t (n + 1) d).1 + (puP q k c (t + 1) (n + 1 - (fiP q k t (n + 1) d).1) (fiP q k t (n + 1) d).2).1, (puP q k c (t + 1) (n + 1 - (fiP q k t (n + 1) d).1) (fiP q k t (n + 1) d).2).2)
        rw [e]
        show stM q k (n + 1) d = (0 + (puP q k c (t + 1) (n + 1) d).1, (puP q k c (t + 1) (n + 1) d).2)
        rw [← ih (n + 1) (t + 1) d (by omega) (fun y hy => by
          by_cases h : y = t
          · rw [h]; exact hf
          · exact hn y (by omega)), Nat.zero_add]
      | true =>
        have e : on1 q k d = some t := fst_first (by omega) hf hn
        have e1 : stM q k (n + 1) d = ((stM q k n (incD d t k)).1 + 1, (stM q k n (incD d t k)).2) := by
          show (match on1 q k d with | none => (0, d) | some t => _) = _
          rw [e]
        have h2 := ihn t (incD d t k) ht (fun y hy => by unfold incD; rw [feB_ne (by omega)]; exact hn y hy)
        rw [e1, h2]
        show _ = ((fiP q k t (n + 1) d).1 + (puP q k c (t + 1) (n + 1 - (fiP q k t (n + 1) d).1) (fiP q k t (n + 1) d).2).1, (puP q k c (t + 1) (n + 1 - (fiP q k t (n + 1) d).1) (fiP q k t (n + 1) d).2).2)
        rw [fiP_t hf]
        show ((fiP q k t n (incD d t k)).1 + (puP q k c (t + 1) (n - (fiP q k t n (incD d t k)).1) (fiP q k t n (incD d t k)).2).1 + 1, (puP q k c (t + 1) (n - (fiP q k t n (incD d t k)).1) (fiP q k t n (incD d t k)).2).2) = ((fiP q k t n (incD d t k)).1 + 1 + (puP q k c (t + 1) (n + 1 - ((fiP q k t n (incD d t k)).1 + 1)) (fiP q k t n (incD d t k)).2).1, (puP q k c (t + 1) (n + 1 - ((fiP q k t n (incD d t k)).1 + 1)) (fiP q k t n (incD d t k)).2).2)
        rw [Nat.add_sub_add_right, Nat.add_right_comm]
theorem st_pu0 (q : PDt) (k n : Nat) (d : FDt) : stM q k n d = puP q k (pT q) 0 n d := st_pu (pT q) n 0 d (Nat.zero_add _) fun y hy => absurd hy (Nat.not_lt_zero y)
/-- what storing leaves -/
theorem stM_keeps (P : FDt → Prop) (hP : ∀ d t, P d → on1 q k d = some t → P (incD d t k)) : ∀ n (d : FDt), P d → P (stM q k n d).2 := by
  intro n
  induction n with
  | zero => intro d h; exact h
  | succ n ih =>
    intro d h
    show P (match on1 q k d with | none => (0, d) | some t => _ : Nat × FDt).2
    cases e : on1 q k d with
    | none => exact h
    | some t => exact ih _ (hP d t h e)
theorem stM_le : ∀ n (d : FDt), (stM q k n d).1 ≤ n := by
  intro n
  induction n with
  | zero => intro d; exact Nat.le_refl _
  | succ n ih =>
    intro d
    show (match on1 q k d with | none => (0, d) | some t => _ : Nat × FDt).1 ≤ _
    cases e : on1 q k d with
    | none => exact Nat.zero_le _
    | some t => exact Nat.succ_le_succ (ih _)
theorem on1_some {t : Nat} (h : on1 q k d = some t) : t < pT q ∧ ¬ adI (pF q 2 k) (pF q 7 t) = 0 ∧ ¬ fsD q d t < pF q 4 k := by
  obtain ⟨_, h2, h3, _⟩ := fstF_some h
  unfold feB at h3
  rw [decide_eq_true_eq] at h3
  exact ⟨by omega, h3⟩
/-- the free slots and what is held make the slots -/
def usN (q : PDt) (d : FDt) (t : Nat) (m : Nat) : Nat := fb_sm (fun i => unN d t i * nN (pF q 4 i)) m
theorem us_N (hq : GdP q) (hd : GdD q d) {t : Nat} (ht : t < 8) : ∀ m, m ≤ pM q → itN (fun i a => a - dF d (7 + t) i * pF q 4 i) (pF q 8 t) m = pF q 8 t - nI (usN q d t m) ∧ usN q d t m ≤ m * 120 := by
  intro m
  induction m with
  | zero => intro _; exact ⟨(Int32.sub_zero _).symm, Nat.zero_le _⟩
  | succ m ih =>
    intro hm
    have hM := hq.M4
    obtain ⟨z, z1, z3, ez⟩ := hq.size (show m < pM q by omega)
    obtain ⟨e, hu⟩ := GdD_unN hd ht (show m < 12 by omega)
    have hz : nN (pF q 4 m) = z := by rw [ez, nN_nI (by omega)]
    have hs : usN q d t (m + 1) = usN q d t m + unN d t m * z := by unfold usN; rw [fb_sm_succ, hz]
    have hb : unN d t m * z ≤ 40 * 3 := Nat.mul_le_mul hu z3
    obtain ⟨i1, i2⟩ := ih (by omega)
    rw [itN_succ, i1, hs, ez, e, nI_mulI, ← nI_add]
    refine ⟨?_, by omega⟩
    simp only [Int32.sub_eq_add_neg, Int32.neg_add, Int32.add_assoc]
theorem fs_sum (hq : GdP q) (hd : GdD q d) {t : Nat} (ht : t < pT q) : ∃ s f, s ≤ 40 ∧ pF q 8 t = nI s ∧ fsD q d t = nI f ∧ s = f + usN q d t (pM q) := by
  obtain ⟨s, h1, h2⟩ := hq.sl ht
  obtain ⟨f, h3, h4⟩ := hd.fs ht
  have hM := hq.M4
  have hT := hq.T4
  obtain ⟨e, hb⟩ := us_N hq hd (show t < 8 by omega) (pM q) (Nat.le_refl _)
  refine ⟨s, f, h1, h2, h4, ?_⟩
  have e2 : fsD q d t = pF q 8 t - nI (usN q d t (pM q)) := e
  rw [h4, h2] at e2
  have e3 : nI f + nI (usN q d t (pM q)) = nI s := by rw [e2, Int32.sub_add_cancel]
  rw [nI_add, nI_eqI (by omega) (by omega)] at e3
  exact e3.symm
theorem usN_part {m i : Nat} {t : Nat} (hi : i < m) : unN d t i * nN (pF q 4 i) ≤ usN q d t m := by
  have h := fb_sm_part (fun i => unN d t i * nN (pF q 4 i)) hi
  unfold usN
  omega
theorem fsD_inc (hk : k < pM q) {t : Nat} (v : Int32) : fsD q (setU d t k v) t + v * pF q 4 k = fsD q d t + dF d (7 + t) k * pF q 4 k := by
  have h : ∀ m, (k < m → itN (fun i a => a - dF (setU d t k v) (7 + t) i * pF q 4 i) (pF q 8 t) m + v * pF q 4 k = itN (fun i a => a - dF d (7 + t) i * pF q 4 i) (pF q 8 t) m + dF d (7 + t) k * pF q 4 k) ∧
      (m ≤ k → itN (fun i a => a - dF (setU d t k v) (7 + t) i * pF q 4 i) (pF q 8 t) m = itN (fun i a => a - dF d (7 + t) i * pF q 4 i) (pF q 8 t) m) := by
    intro m
    induction m with
    | zero => exact ⟨fun h => absurd h (Nat.not_lt_zero _), fun _ => rfl⟩
    | succ m ih =>
      refine ⟨fun h => ?_, fun h => ?_⟩
      · rw [itN_succ, itN_succ]
        by_cases e : m = k
        · subst e
          rw [ih.2 (Nat.le_refl _), setU_at, Int32.sub_add_cancel, Int32.sub_add_cancel]
        · have i1 := ih.1 (by omega)
          have e3 : ∀ (A A2 x u y : Int32), A2 + u = A + y → A2 - x + u = A - x + y := fun A A2 x u y h => by
            rw [Int32.sub_eq_add_neg, Int32.sub_eq_add_neg, show A2 + -x + u = A2 + u + -x by ac_rfl, h]
            ac_rfl
          rw [setU_ne d v (Or.inr e)]
          exact e3 _ _ _ _ _ i1
      · rw [itN_succ, itN_succ, ih.2 (by omega), setU_ne d v (Or.inr (by omega))]
  exact (h (pM q)).1 hk
theorem GdD.upU (hq : GdP q) (hd : GdD q d) (hk : k < pM q) {t n : Nat} (ht : t < pT q) (hn : n ≤ 40) (hf : ∃ f, f ≤ 40 ∧ fsD q (setU d t k (nI n)) t = nI f) : GdD q (setU d t k (nI n)) := by
  have hl : ∀ a i, a < 7 → dF (setU d t k (nI n)) a i = dF d a i := fun a i ha => setU_lo d t k _ ha
  refine ⟨hd.1, fun i hi => by rw [hl 0 i (by decide), hl 1 i (by decide), hl 2 i (by decide)]; exact hd.2.1 i hi, fun t2 k2 h1 h2 => ?_, fun t2 h1 => ?_, fun i hi => by rw [hl 3 i (by decide), hl 4 i (by decide)]; exact hd.2.2.2.2.1 i hi, by rw [hl 6 1 (by decide)]; exact hd.2.2.2.2.2.1, by rw [hl 6 0 (by decide)]; exact hd.2.2.2.2.2.2⟩
  · by_cases e : t2 = t ∧ k2 = k
    · rw [e.1, e.2, setU_at]; exact ⟨n, hn, rfl⟩
    · rw [setU_ne d _ (by omega)]; exact hd.un h1 h2
  · by_cases e : t2 = t
    · rw [e]; exact hf
    · rw [fsD_inc_ne e]; exact hd.fs h1
theorem GdD.inc (hq : GdP q) (hd : GdD q d) (hk : k < pM q) {t : Nat} (h : on1 q k d = some t) : GdD q (incD d t k) := by
  obtain ⟨ht, _, h3⟩ := on1_some h
  have hT := hq.T4
  have hM := hq.M4
  obtain ⟨s, f, s1, s2, s3, s4⟩ := fs_sum hq hd ht
  obtain ⟨z, z1, z2, z3⟩ := hq.size hk
  obtain ⟨e, hu⟩ := GdD_unN hd (show t < 8 by omega) (show k < 12 by omega)
  rw [s3, z3, nI_ltI (by omega) (by omega)] at h3
  have hp := usN_part (q := q) (d := d) (t := t) hk
  rw [z3, nN_nI (by omega)] at hp
  have hm : unN d t k ≤ unN d t k * z := Nat.le_mul_of_pos_right _ (by omega)
  have ei : dF d (7 + t) k + 1 = nI (unN d t k + 1) := by rw [e, nI_1]
  unfold incD
  rw [ei]
  refine hd.upU hq hk ht (by omega) ⟨f - z, by omega, ?_⟩
  have h9 := fsD_inc (q := q) (d := d) hk (t := t) (nI (unN d t k + 1))
  rw [s3, z3, e, nI_mulI, nI_mulI, nI_add, Nat.add_mul, Nat.one_mul] at h9
  have h10 : fsD q (setU d t k (nI (unN d t k + 1))) t = nI (f + unN d t k * z) - nI (unN d t k * z + z) := by rw [← h9, Int32.add_sub_cancel]
  rw [h10, nI_subI (by omega)]
  congr 1
  omega
theorem GdD.st (hq : GdP q) (hd : GdD q d) (hk : k < pM q) (n : Nat) : GdD q (stM q k n d).2 := stM_keeps (GdD q) (fun _ _ h e => h.inc hq hk e) n d hd
theorem stM_lo (n : Nat) (d : FDt) : dP (stM q k n d).2 = dP d ∧ dU (stM q k n d).2 = dU d ∧ dA (stM q k n d).2 = dA d ∧ (∀ a i, a < 7 → dF (stM q k n d).2 a i = dF d a i) ∧ ∀ t i, i ≠ k → dF (stM q k n d).2 (7 + t) i = dF d (7 + t) i :=
  stM_keeps (fun x => dP x = dP d ∧ dU x = dU d ∧ dA x = dA d ∧ (∀ a i, a < 7 → dF x a i = dF d a i) ∧ ∀ t i, i ≠ k → dF x (7 + t) i = dF d (7 + t) i) (fun x t h _ => ⟨h.1, h.2.1, h.2.2.1, fun a i ha => (setU_lo x t k _ ha).trans (h.2.2.2.1 a i ha), fun t2 i hi => (setU_ne x _ (Or.inr hi)).trans (h.2.2.2.2 t2 i hi)⟩) n d ⟨rfl, rfl, rfl, fun _ _ _ => rfl, fun _ _ _ => rfl⟩
theorem msD_congr {d2 : FDt} {i : Nat} (hU : dU d2 = dU d) (h7 : ∀ a i, a < 7 → dF d2 a i = dF d a i) (h : ∀ t, t < pT q → dF d2 (7 + t) i = dF d (7 + t) i) (n : Int32) : msD q d2 i n = msD q d i n := by unfold msD; rw [ldD_congr h, owD_congr hU h7]
end STOREP
