section MODELS
variable {μ W : Wd} {q : PDt} {d : FDt} {k : Nat}
theorem ixq (x : Nat) : (165 : Int32) + nI x = nI (165 + x) := by rw [show (165 : Int32) = nI 165 from rfl, nI_add]
/-- the order's units stored, meal by meal -/
def soF (q : PDt) (u : Nat → Int32) : Nat → Nat → Int32 → FDt → Option Int32 × FDt
  | 0, _, a, d => (some a, d)
  | c + 1, m, a, d => if nI (stM q m (nN (msD q d m (u m))) d).1 < msD q d m (u m) then (none, (stM q m (nN (msD q d m (u m))) d).2) else soF q u c (m + 1) (a + msD q d m (u m)) (stM q m (nN (msD q d m (u m))) d).2
theorem msD_N (q : PDt) (d : FDt) (m : Nat) (n : Int32) : msD q d m n = nI (nN (msD q d m n)) ∧ nN (msD q d m n) < 2 ^ 31 := by
  have h : ¬ msD q d m n < 0 := by
    unfold msD
    split
    · rename_i h; exact fun z => Int32.lt_irrefl (Int32.lt_trans h z)
    · decide
  obtain ⟨j, hj, e⟩ := nI_of h
  rw [e, nN_nI hj]
  exact ⟨rfl, hj⟩
end MODELS
