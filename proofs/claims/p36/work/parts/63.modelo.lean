section MODELO
variable {μ W : Wd} {q : PDt} {d : FDt}
theorem rs_t {c x : Int32} {m : Nat} (h : pF q 2 m = c) : rsD q c x (m + 1) = rsD q c x m - x * pF q 3 m / shD q c := by
  show itN (fun i a => a - fuD q c x i) x (m + 1) = _
  rw [itN_succ]
  have e : fuD q c x m = x * pF q 3 m / shD q c := if_pos h
  rw [e]; rfl
theorem rs_f {c x : Int32} {m : Nat} (h : ¬ pF q 2 m = c) : rsD q c x (m + 1) = rsD q c x m := by
  show itN (fun i a => a - fuD q c x i) x (m + 1) = _
  rw [itN_succ]
  have e : fuD q c x m = 0 := if_neg h
  rw [e, Int32.sub_zero]; rfl
end MODELO
