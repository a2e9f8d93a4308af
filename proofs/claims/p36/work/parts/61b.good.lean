section GOOD
variable {q : PDt} {d : FDt}
theorem nI_mulI (a b : Nat) : nI a * nI b = nI (a * b) := (Int32.ofNat_mul a b).symm
theorem nI_subI {a b : Nat} (h : b ≤ a) : nI a - nI b = nI (a - b) := by
  obtain ⟨c, rfl⟩ : ∃ c, a = c + b := ⟨a - b, by omega⟩
  rw [Nat.add_sub_cancel, ← nI_add, Int32.add_sub_cancel]
def GdP (q : PDt) : Prop :=
  (pC q ≤ 4 ∧ pM q ≤ 12 ∧ pT q ≤ 8) ∧
  (∀ i, i < pC q → (∃ s, 1 ≤ s ∧ s ≤ 40 ∧ pF q 0 i = nI s) ∧ ∃ s, s ≤ 50 ∧ pF q 1 i = nI s) ∧
  (∀ i, i < pM q → (pF q 2 i = -1 ∨ ∃ c, c < pC q ∧ pF q 2 i = nI c) ∧ (∃ s, s ≤ 99 ∧ pF q 3 i = nI s) ∧ (∃ z, 1 ≤ z ∧ z ≤ 3 ∧ pF q 4 i = nI z) ∧ (∃ z, z ≤ 9999 ∧ pF q 5 i = nI z) ∧ ∃ z, z < 256 ∧ pF q 6 i = nI z) ∧
  (∀ i, i < pT q → (∃ c, c < pC q ∧ pF q 7 i = nI c) ∧ ∃ s, s ≤ 40 ∧ pF q 8 i = nI s) ∧
  (∃ l, l ≤ 99 ∧ pF q 9 3 = nI l) ∧ (∃ l, l ≤ 999 ∧ pF q 9 1 = nI l) ∧ (∃ l, l ≤ 999 ∧ pF q 9 2 = nI l) ∧ (pF q 9 0 = 0 ∨ pF q 9 0 = 1) ∧ (pF q 9 0 = 0 → pC q = 0 ∧ pM q = 0 ∧ pT q = 0)
def GdD (q : PDt) (d : FDt) : Prop :=
  (dP d ≤ 40 ∧ dU d ≤ 6) ∧
  (∀ i, i < dP d → (∃ c, c < pC q ∧ dF d 0 i = nI c) ∧ (∃ n, n < 256 ∧ dF d 1 i = nI n) ∧ (dF d 2 i = -1 ∨ ∃ x, x < pM q ∧ dF d 2 i = nI x)) ∧
  (∀ t k, t < 8 → k < 12 → ∃ n, n ≤ 40 ∧ dF d (7 + t) k = nI n) ∧
  (∀ t, t < pT q → ∃ n, n ≤ 40 ∧ fsD q d t = nI n) ∧
  (∀ i, i < dU d → (∃ k, k < pM q ∧ dF d 3 i = nI k) ∧ ∃ n, 1 ≤ n ∧ n ≤ 99 ∧ dF d 4 i = nI n) ∧
  (∃ m, m ≤ 999 ∧ dF d 6 1 = nI m) ∧ (dF d 6 0 = 0 ∨ dF d 6 0 = 1)
theorem GdP.C4 (h : GdP q) : pC q ≤ 4 := h.1.1
theorem GdP.M4 (h : GdP q) : pM q ≤ 12 := h.1.2.1
theorem GdP.T4 (h : GdP q) : pT q ≤ 8 := h.1.2.2
theorem GdD.P4 (h : GdD q d) : dP d ≤ 40 := h.1.1
theorem GdD.U4 (h : GdD q d) : dU d ≤ 6 := h.1.2
theorem GdP.spare (h : GdP q) {i : Nat} (hi : i < pC q) : ∃ s, s ≤ 50 ∧ pF q 1 i = nI s := (h.2.1 i hi).2
theorem GdP.seats (h : GdP q) {i : Nat} (hi : i < pC q) : ∃ s, 1 ≤ s ∧ s ≤ 40 ∧ pF q 0 i = nI s := (h.2.1 i hi).1
theorem GdP.mc (h : GdP q) {i : Nat} (hi : i < pM q) : pF q 2 i = -1 ∨ ∃ c, c < pC q ∧ pF q 2 i = nI c := (h.2.2.1 i hi).1
theorem GdP.sh (h : GdP q) {i : Nat} (hi : i < pM q) : ∃ s, s ≤ 99 ∧ pF q 3 i = nI s := (h.2.2.1 i hi).2.1
theorem GdP.size (h : GdP q) {i : Nat} (hi : i < pM q) : ∃ z, 1 ≤ z ∧ z ≤ 3 ∧ pF q 4 i = nI z := (h.2.2.1 i hi).2.2.1
theorem GdP.cost (h : GdP q) {i : Nat} (hi : i < pM q) : ∃ z, z ≤ 9999 ∧ pF q 5 i = nI z := (h.2.2.1 i hi).2.2.2.1
theorem GdP.tc (h : GdP q) {i : Nat} (hi : i < pT q) : ∃ c, c < pC q ∧ pF q 7 i = nI c := (h.2.2.2.1 i hi).1
theorem GdP.sl (h : GdP q) {i : Nat} (hi : i < pT q) : ∃ s, s ≤ 40 ∧ pF q 8 i = nI s := (h.2.2.2.1 i hi).2
theorem GdP.lead (h : GdP q) : ∃ l, l ≤ 99 ∧ pF q 9 3 = nI l := h.2.2.2.2.1
theorem GdP.t01 (h : GdP q) : pF q 9 0 = 0 ∨ pF q 9 0 = 1 := h.2.2.2.2.2.2.2.1
theorem GdP.z (h : GdP q) : pF q 9 0 = 0 → pC q = 0 ∧ pM q = 0 ∧ pT q = 0 := h.2.2.2.2.2.2.2.2
theorem GdD.cab (h : GdD q d) {i : Nat} (hi : i < dP d) : ∃ c, c < pC q ∧ dF d 0 i = nI c := (h.2.1 i hi).1
theorem GdD.nee (h : GdD q d) {i : Nat} (hi : i < dP d) : ∃ n, n < 256 ∧ dF d 1 i = nI n := (h.2.1 i hi).2.1
theorem GdD.wis (h : GdD q d) {i : Nat} (hi : i < dP d) : dF d 2 i = -1 ∨ ∃ x, x < pM q ∧ dF d 2 i = nI x := (h.2.1 i hi).2.2
theorem GdD.un (h : GdD q d) {t k : Nat} (ht : t < 8) (hk : k < 12) : ∃ n, n ≤ 40 ∧ dF d (7 + t) k = nI n := h.2.2.1 t k ht hk
theorem GdD.fs (h : GdD q d) {t : Nat} (ht : t < pT q) : ∃ n, n ≤ 40 ∧ fsD q d t = nI n := h.2.2.2.1 t ht
theorem GdD.s01 (h : GdD q d) : dF d 6 0 = 0 ∨ dF d 6 0 = 1 := h.2.2.2.2.2.2
theorem GdD.min (h : GdD q d) : ∃ m, m ≤ 999 ∧ dF d 6 1 = nI m := h.2.2.2.2.2.1
theorem GdD.tu (h : GdD q d) {i : Nat} (hi : i < dU d) : (∃ k, k < pM q ∧ dF d 3 i = nI k) ∧ ∃ n, 1 ≤ n ∧ n ≤ 99 ∧ dF d 4 i = nI n := h.2.2.2.2.1 i hi
/-- the top-ups still to come, by their dues -/
def TuD (q : PDt) (d : FDt) : Prop := ∃ (l m : Nat) (e : Nat → Nat), pF q 9 3 = nI l ∧ dF d 6 1 = nI m ∧ l ≤ 99 ∧ m ≤ 999 ∧ (∀ i, i < dU d → dF d 5 i = nI (e i) ∧ e i < m ∧ m ≤ e i + l) ∧ ∀ i j, i < j → j < dU d → e j ≤ e i
theorem FitD.of (hq : GdP q) (hd : GdD q d) : FitD q d := ⟨⟨hq.C4, hq.M4, hq.T4, hd.P4, hd.U4⟩, hd.s01, hq.z⟩
/-- counts as numbers -/
theorem cntI (p : Nat → Prop) [DecidablePred p] : ∀ n, itN (fun i a => if p i then a + 1 else a) (0 : Int32) n = nI (fb_ct (fun i => decide (p i)) n)
  | 0 => rfl
  | n + 1 => by
    rw [itN_succ, cntI p n, fb_ct_succ]
    by_cases h : p n
    · rw [if_pos h, if_pos (decide_eq_true h), nI_1]
    · rw [if_neg h, if_neg (by rw [decide_eq_true_eq]; exact h), Nat.add_zero]
theorem sumI {f : Nat → Int32} {g : Nat → Nat} : ∀ {n : Nat}, (∀ i, i < n → f i = nI (g i)) → itN (fun i a => a + f i) (0 : Int32) n = nI (fb_sm g n)
  | 0, _ => rfl
  | n + 1, h => by rw [itN_succ, sumI (fun i hi => h i (Nat.lt_succ_of_lt hi)), h n (Nat.lt_succ_self n), nI_add, fb_sm_succ]
def paN (d : FDt) (c : Int32) : Nat := fb_ct (fun i => decide (dF d 0 i = c)) (dP d)
theorem paD_N (d : FDt) (c : Int32) : paD d c = nI (paN d c) := cntI _ _
theorem paN_le (d : FDt) (c : Int32) : paN d c ≤ dP d := fb_ct_le _ _
def plN (d : FDt) (c : Int32) : Nat := fb_ct (fun i => decide (dF d 0 i = c ∧ dF d 1 i = 0)) (dP d)
theorem plD_N (d : FDt) (c : Int32) : plD d c = nI (plN d c) := by
  rw [plN, ← cntI]
  exact itN_congr rfl fun i x hi => by
    by_cases h : dF d 0 i = c
    · by_cases h2 : dF d 1 i = 0
      · rw [if_pos h, if_pos h2, if_pos ⟨h, h2⟩]
      · rw [if_pos h, if_neg h2, if_neg (fun z => h2 z.2)]
    · rw [if_neg h, if_neg (fun z => h z.1)]
theorem plN_le (d : FDt) (c : Int32) : plN d c ≤ dP d := fb_ct_le _ _
/-- units as numbers -/
def unN (d : FDt) (t k : Nat) : Nat := nN (dF d (7 + t) k)
theorem GdD_unN (h : GdD q d) {t k : Nat} (ht : t < 8) (hk : k < 12) : dF d (7 + t) k = nI (unN d t k) ∧ unN d t k ≤ 40 := by
  obtain ⟨n, hn, e⟩ := h.un ht hk
  unfold unN
  rw [e, nN_nI (by omega)]
  exact ⟨rfl, hn⟩
def ldN (q : PDt) (d : FDt) (k : Nat) : Nat := fb_sm (fun t => unN d t k) (pT q)
theorem ldD_N (hq : GdP q) (hd : GdD q d) {k : Nat} (hk : k < 12) : ldD q d k = nI (ldN q d k) ∧ ldN q d k ≤ 320 := by
  have hT := hq.T4
  refine ⟨sumI fun t ht => (GdD_unN hd (Nat.lt_of_lt_of_le ht hT) hk).1, ?_⟩
  have := fb_sm_bound (f := fun t => unN d t k) (c := 40) (n := pT q) (fun t ht => (GdD_unN hd (Nat.lt_of_lt_of_le ht hT) hk).2)
  unfold ldN
  omega
end GOOD
