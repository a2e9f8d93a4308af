section MODELA
variable {μ W : Wd} {q : PDt} {d : FDt}
/-- numbers that fit -/
def FitD (q : PDt) (d : FDt) : Prop := (pC q ≤ 4 ∧ pM q ≤ 12 ∧ pT q ≤ 8 ∧ dP d ≤ 40 ∧ dU d ≤ 6) ∧ (dF d 6 0 = 0 ∨ dF d 6 0 = 1) ∧ (pF q 9 0 = 0 → pC q = 0 ∧ pM q = 0 ∧ pT q = 0)
theorem b01t {p : Prop} [Decidable p] : (if p then (1 : Int32) else 0) = 0 ↔ ¬ p := by
  by_cases h : p
  · rw [if_pos h]; exact ⟨fun e => absurd e (by decide), fun e => absurd h e⟩
  · rw [if_neg h]; exact ⟨fun _ => h, fun _ => rfl⟩
theorem b01f {p : Prop} [Decidable p] : ¬ (if p then (1 : Int32) else 0) = 0 ↔ p := by
  rw [b01t]; exact Classical.not_not
theorem ixu (t k : Nat) : (165 : Int32) + 12 * nI t + nI k = nI (165 + 12 * t + k) := by
  rw [show (165 : Int32) = nI 165 from rfl, show (12 : Int32) = nI 12 from rfl, nI, nI, nI, nI, ← Int32.ofNat_mul, ← Int32.ofNat_add, ← Int32.ofNat_add]; rfl
theorem ixp (t k : Nat) : (5 : Int32) + 4 * nI t + nI k = nI (5 + 4 * t + k) := by
  rw [show (5 : Int32) = nI 5 from rfl, show (4 : Int32) = nI 4 from rfl, nI, nI, nI, nI, ← Int32.ofNat_mul, ← Int32.ofNat_add, ← Int32.ofNat_add]; rfl
theorem ixc (t k : Nat) : (5 : Int32) + 2 * nI t + nI k = nI (5 + 2 * t + k) := by
  rw [show (5 : Int32) = nI 5 from rfl, show (2 : Int32) = nI 2 from rfl, nI, nI, nI, nI, ← Int32.ofNat_mul, ← Int32.ofNat_add, ← Int32.ofNat_add]; rfl
theorem ixm (t k : Nat) : (13 : Int32) + 5 * nI t + nI k = nI (13 + 5 * t + k) := by
  rw [show (13 : Int32) = nI 13 from rfl, show (5 : Int32) = nI 5 from rfl, nI, nI, nI, nI, ← Int32.ofNat_mul, ← Int32.ofNat_add, ← Int32.ofNat_add]; rfl
theorem ixt (t k : Nat) : (73 : Int32) + 2 * nI t + nI k = nI (73 + 2 * t + k) := by
  rw [show (73 : Int32) = nI 73 from rfl, show (2 : Int32) = nI 2 from rfl, nI, nI, nI, nI, ← Int32.ofNat_mul, ← Int32.ofNat_add, ← Int32.ofNat_add]; rfl
theorem ixb (t : Nat) : (261 : Int32) + 3 * nI t = nI (261 + 3 * t) := by
  rw [show (261 : Int32) = nI 261 from rfl, show (3 : Int32) = nI 3 from rfl, nI, nI, nI, ← Int32.ofNat_mul, ← Int32.ofNat_add]; rfl
/-- what 'in' answers -/
def inI (v a b : Int32) : Int32 := if v < a then 0 else if b < v then 0 else 1
theorem nI_m1 {j : Nat} (h : j < 2 ^ 31) : (-1 : Int32) < nI j := by
  rw [Int32.lt_iff_toInt_lt, nI_toInt h]
  show (-1 : Int) < _
  omega
theorem inI_t {k n : Nat} (hk : k < n) (hn : n < 2 ^ 31) : inI (nI k) 0 (nI n - 1) = 1 := by
  obtain ⟨m, rfl⟩ : ∃ m, n = m + 1 := ⟨n - 1, by omega⟩
  unfold inI
  rw [if_neg (nI_pos (by omega)), nI_pred, if_neg (nI_nlt (by omega) (by omega))]
theorem inI_f {x : Int32} {n : Nat} (h : ixO x n = none) (hn : n < 2 ^ 31) : inI x 0 (nI n - 1) = 0 := by
  unfold inI
  rcases ixO_none h with h | ⟨j, h1, h2, rfl⟩
  · rw [if_pos h]
  · rw [if_neg (nI_pos h2)]
    cases n with
    | zero => rw [if_pos (show nI 0 - 1 < nI j from nI_m1 h2)]
    | succ m => rw [nI_pred, if_pos (nI_lt (by omega) h2)]
theorem fit_m {q : PDt} {c n : Int32} {i : Nat} (hc : pF q 2 i = -1 ∨ pF q 2 i = c) (h : pF q 6 i &&& n = n) : fitD q c n i = true := by
  unfold fitD
  rw [decide_eq_true_eq]
  refine ⟨?_, ?_⟩
  · unfold adI
    rcases hc with e | e
    · rw [if_pos e]; decide
    · by_cases h1 : pF q 2 i = -1
      · rw [if_pos h1]; decide
      · rw [if_neg h1, if_pos e]; decide
  · refine b_ext fun j hj => ?_
    have hb : bt (pF q 6 i &&& n) j = bt n j := by rw [h]
    rw [b_and] at hb
    rw [b_and, b_not _ hj, b_0]
    revert hb
    generalize bt n j = x
    generalize bt (pF q 6 i) j = y
    revert x y
    decide
theorem nfit_c {q : PDt} {c n : Int32} {i : Nat} (h1 : ¬ pF q 2 i = -1) (h2 : ¬ pF q 2 i = c) : fitD q c n i = false := by
  unfold fitD
  rw [decide_eq_false_iff_not]
  exact fun h => h.1 (by unfold adI; rw [if_neg h1, if_neg h2])
theorem nfit_o {q : PDt} {c n : Int32} {i : Nat} (h : ¬ pF q 6 i &&& n = n) : fitD q c n i = false := by
  unfold fitD
  rw [decide_eq_false_iff_not]
  refine fun h2 => h (b_ext fun j hj => ?_)
  have hb : bt (n &&& (pF q 6 i ^^^ -1)) j = bt 0 j := by rw [h2.2]
  rw [b_and, b_not _ hj, b_0] at hb
  rw [b_and]
  revert hb
  generalize bt n j = x
  generalize bt (pF q 6 i) j = y
  revert x y
  decide
end MODELA
