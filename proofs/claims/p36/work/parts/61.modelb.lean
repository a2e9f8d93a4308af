section MODELB
theorem b10t {p : Prop} [Decidable p] : (if p then (0 : Int32) else 1) = 0 ↔ p := by
  by_cases h : p
  · rw [if_pos h]; exact ⟨fun _ => h, fun _ => rfl⟩
  · rw [if_neg h]; exact ⟨fun e => absurd e (by decide), fun e => absurd e h⟩
theorem b10f {p : Prop} [Decidable p] : ¬ (if p then (0 : Int32) else 1) = 0 ↔ ¬ p := by
  rw [b10t]
variable {μ W : Wd} {q : PDt} {d : FDt}
theorem sum2 (f : Nat → Nat → Int32) : ∀ (T M : Nat), itN (fun t a => a + itN (fun i a => a + f t i) 0 M) 0 T = itN (fun i a => a + itN (fun t a => a + f t i) 0 T) 0 M := by
  have hz : ∀ M, itN (fun _ a => a + (0 : Int32)) 0 M = 0 := fun M => by
    induction M with
    | zero => rfl
    | succ m ih => rw [itN_succ, ih]; rfl
  have hadd : ∀ (g h : Nat → Int32) (M : Nat), itN (fun i a => a + (g i + h i)) 0 M = itN (fun i a => a + g i) 0 M + itN (fun i a => a + h i) 0 M := fun g h M => by
    induction M with
    | zero => rfl
    | succ m ih => rw [itN_succ, itN_succ, itN_succ, ih]; ac_rfl
  intro T
  induction T with
  | zero => intro M; exact (hz M).symm
  | succ t ih => intro M; rw [itN_succ, ih M, ← hadd]; exact itN_congr rfl fun i x hi => rfl
theorem alD_m (q : PDt) (d : FDt) : itN (fun k a => a + ldD q d k) 0 (pM q) = alD q d := (sum2 (fun t k => dF d (7 + t) k) (pT q) (pM q)).symm
/-- those without diets in a cabin -/
def plD (d : FDt) (c : Int32) : Int32 := itN (fun i a => if dF d 0 i = c then (if dF d 1 i = 0 then a + 1 else a) else a) 0 (dP d)
theorem plD_eq (d : FDt) (c : Int32) : plD d c = paD d c - spD d c := by
  have h : plD d c + spD d c = paD d c := by
    unfold plD paD spD
    induction dP d with
    | zero => rfl
    | succ n ih =>
      rw [itN_succ, itN_succ, itN_succ]
      by_cases hc : dF d 0 n = c
      · rw [if_pos hc, if_pos hc, if_pos hc, ← ih]
        by_cases h0 : dF d 1 n = 0
        · rw [if_pos h0, if_pos h0]; ac_rfl
        · rw [if_neg h0, if_neg h0]; ac_rfl
      · rw [if_neg hc, if_neg hc, if_neg hc]; exact ih
  rw [← h, Int32.add_sub_cancel]
theorem shD_m (q : PDt) (c : Int32) : itN (fun i a => if pF q 2 i = c then a + pF q 3 i else a) 0 (pM q) = shD q c := itN_congr rfl fun i x hi => by
  by_cases h : pF q 2 i = c
  · rw [if_pos h, if_pos h]
  · rw [if_neg h, if_neg h]; exact (Int32.add_zero x).symm
theorem suD_m (q : PDt) (c n : Int32) : itN (fun m a => if fitD q c n m = true then a ||| ((1 : Int32) <<< (nI m &&& 31)) else a) 0 (pM q) = suD q c n := itN_congr rfl fun i x hi => by
  by_cases h : adI (pF q 2 i) c = 0
  · rw [if_pos h, if_neg (by unfold fitD; rw [decide_eq_true_eq]; exact fun z => z.1 h)]
  · rw [if_neg h]
    by_cases h2 : n &&& (pF q 6 i ^^^ -1) = 0
    · rw [if_pos h2, if_pos (by unfold fitD; rw [decide_eq_true_eq]; exact ⟨h, h2⟩)]
    · rw [if_neg h2, if_neg (by unfold fitD; rw [decide_eq_true_eq]; exact fun z => h2 z.2)]
end MODELB
