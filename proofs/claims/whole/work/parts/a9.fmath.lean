section FMATH
theorem fm_rr {f : FP.Core.Fmt} (hf : FP.Core.Good f) {A B lo hi : Nat} (hA : 0 < A) (hB : 0 < B) (h1 : B ≤ A * 2 ^ lo) (h2 : A ≤ B * 2 ^ hi) (h3 : f.qmin + ((f.p - 1 : Nat) : Int) ≤ -(lo : Int)) (h4 : (hi : Int) - ((f.p - 1 : Nat) : Int) ≤ f.qmax) :
    ∃ (c : Nat) (q : Int), FP.Core.roundRatio f false A B 0 = .fin false c q ∧ f.tails ≤ c ∧ c < 2 ^ f.p ∧ -(lo : Int) - ((f.p - 1 : Nat) : Int) ≤ q ∧ q ≤ (hi : Int) - ((f.p - 1 : Nat) : Int) := by
  have hp := hf.2
  have t1 := FP.Core.two_tails hf
  have t2 := FP.Core.tails_two hf
  have l1 : ¬ FP.Core.Below A B (-(lo : Int)) := by
    rw [show -(lo : Int) = ((0 : Nat) : Int) - (lo : Nat) by omega, FP.Core.below_iff, Nat.pow_zero, Nat.mul_one]
    omega
  have l2 : FP.Core.Below A B ((hi : Int) + 1) := by
    rw [show (hi : Int) + 1 = ((hi + 1 : Nat) : Int) - ((0 : Nat) : Int) by omega, FP.Core.below_iff, Nat.pow_zero, Nat.mul_one, Nat.pow_succ]
    have p1 : 0 < B * 2 ^ hi := Nat.mul_pos hB (Nat.two_pow_pos hi)
    rw [← Nat.mul_assoc]
    omega
  have L := FP.Core.leading_spec hA hB
  have g1 := FP.Core.lt_of_below l1 L.2
  have g2 := FP.Core.lt_of_below L.1 l2
  have hQ : FP.Core.quantum f A B 0 = FP.Core.leading A B - ((f.p - 1 : Nat) : Int) := by
    unfold FP.Core.quantum
    omega
  have c1 := FP.Core.nearest_units_le (f := f) hA hB 0
  have c2 : f.tails ≤ FP.Core.nearest (FP.Core.unitsNum A 0 (FP.Core.quantum f A B 0)) (FP.Core.unitsDen B 0 (FP.Core.quantum f A B 0)) := by
    refine FP.Core.nearest_ge (FP.Core.unitsDen_pos hB _ _) ?_
    have nb : ¬ FP.Core.Below A B (FP.Core.quantum f A B 0 - 0 + ((f.p - 1 : Nat) : Int)) := by
      rw [hQ, show FP.Core.leading A B - ((f.p - 1 : Nat) : Int) - 0 + ((f.p - 1 : Nat) : Int) = FP.Core.leading A B by omega]
      exact L.1
    rw [← FP.Core.units_below] at nb
    exact Nat.le_of_not_lt nb
  unfold FP.Core.roundRatio
  rw [if_neg (by omega)]
  unfold FP.Core.roundAt
  have hup : FP.Core.quantum f A B 0 = (hi : Int) - ((f.p - 1 : Nat) : Int) → FP.Core.nearest (FP.Core.unitsNum A 0 (FP.Core.quantum f A B 0)) (FP.Core.unitsDen B 0 (FP.Core.quantum f A B 0)) ≤ f.tails := fun e => by
    refine FP.Core.nearest_le (FP.Core.unitsDen_pos hB _ _) ?_
    rw [e]
    unfold FP.Core.unitsNum FP.Core.unitsDen FP.Core.Fmt.tails
    by_cases hh : hi ≤ f.p - 1
    · rw [show (0 - ((hi : Int) - ((f.p - 1 : Nat) : Int))).toNat = f.p - 1 - hi by omega, show ((hi : Int) - ((f.p - 1 : Nat) : Int) - 0).toNat = 0 by omega, Nat.pow_zero, Nat.mul_one]
      have e2 : 2 ^ (f.p - 1) = 2 ^ hi * 2 ^ (f.p - 1 - hi) := by rw [← Nat.pow_add]; congr 1; omega
      calc A * 2 ^ (f.p - 1 - hi) ≤ B * 2 ^ hi * 2 ^ (f.p - 1 - hi) := Nat.mul_le_mul_right _ h2
        _ = 2 ^ (f.p - 1) * B := by rw [e2]; ac_rfl
    · rw [show (0 - ((hi : Int) - ((f.p - 1 : Nat) : Int))).toNat = 0 by omega, show ((hi : Int) - ((f.p - 1 : Nat) : Int) - 0).toNat = hi - (f.p - 1) by omega, Nat.pow_zero, Nat.mul_one]
      have e2 : 2 ^ hi = 2 ^ (f.p - 1) * 2 ^ (hi - (f.p - 1)) := by rw [← Nat.pow_add]; congr 1; omega
      calc A ≤ B * 2 ^ hi := h2
        _ = 2 ^ (f.p - 1) * (B * 2 ^ (hi - (f.p - 1))) := by rw [e2]; ac_rfl
  generalize FP.Core.nearest (FP.Core.unitsNum A 0 (FP.Core.quantum f A B 0)) (FP.Core.unitsDen B 0 (FP.Core.quantum f A B 0)) = c at c1 c2 hup ⊢
  generalize FP.Core.quantum f A B 0 = Q at hQ hup ⊢
  unfold FP.Core.settle FP.Core.bound
  by_cases hc : c < 2 ^ f.p
  · rw [if_pos hc, if_pos (by omega)]
    exact ⟨c, Q, rfl, c2, hc, by omega, by omega⟩
  · have hne : Q ≠ (hi : Int) - ((f.p - 1 : Nat) : Int) := fun e => by
      have := hup e
      omega
    rw [if_neg hc, if_pos (by omega)]
    exact ⟨f.tails, Q + 1, rfl, Nat.le_refl _, by omega, by omega, by omega⟩
/-- a whole number is brought to p digits -/
theorem fm_dig {f : FP.Core.Fmt} (hf : FP.Core.Good f) {n : Nat} (h0 : 0 < n) (h : n < 2 ^ f.p) : ∃ k, k ≤ f.p - 1 ∧ f.tails ≤ n * 2 ^ k ∧ n * 2 ^ k < 2 ^ f.p := by
  have hp := hf.2
  have a1 : 2 ^ n.log2 ≤ n := Nat.log2_self_le (by omega)
  have a2 : n < 2 ^ (n.log2 + 1) := Nat.lt_log2_self
  have hl : n.log2 < f.p := (Nat.log2_lt (by omega)).mpr h
  refine ⟨f.p - 1 - n.log2, by omega, ?_, ?_⟩
  · unfold FP.Core.Fmt.tails
    have e : 2 ^ (f.p - 1) = 2 ^ n.log2 * 2 ^ (f.p - 1 - n.log2) := by rw [← Nat.pow_add]; congr 1; omega
    rw [e]
    exact Nat.mul_le_mul_right _ a1
  · have e : 2 ^ f.p = 2 ^ (n.log2 + 1) * 2 ^ (f.p - 1 - n.log2) := by rw [← Nat.pow_add]; congr 1; omega
    rw [e]
    exact Nat.mul_lt_mul_of_pos_right a2 (Nat.two_pow_pos _)
/-- a whole number of at most p digits in units of 2^e is a number of the format -/
theorem fm_int {f : FP.Core.Fmt} (hf : FP.Core.Good f) {n : Nat} (h0 : 0 < n) (h : n < 2 ^ f.p) (s : Bool) (e : Int) (he : f.qmin + ((f.p - 1 : Nat) : Int) ≤ e) (he2 : e ≤ f.qmax) : ∃ k : Nat, k ≤ f.p - 1 ∧ FP.Core.roundRatio f s n 1 e = .fin s (n * 2 ^ k) (e - k) ∧ f.tails ≤ n * 2 ^ k ∧ n * 2 ^ k < 2 ^ f.p := by
  obtain ⟨k, hk, k1, k2⟩ := fm_dig hf h0 h
  refine ⟨k, hk, FP.Core.roundRatio_exact hf (by decide) ⟨k2, by omega, by omega, Or.inr k1⟩ ?_, k1, k2⟩
  rw [show (e - (e - (k : Int))).toNat = k by omega, show (e - (k : Int) - e).toNat = 0 by omega, Nat.pow_zero, Nat.mul_one, Nat.mul_one]
/-- twice a number; half of it -/
theorem fm_dbl {f : FP.Core.Fmt} (hf : FP.Core.Good f) {c : Nat} {q : Int} (h1 : f.tails ≤ c) (h2 : c < 2 ^ f.p) (h3 : f.qmin ≤ q) (h4 : q + 1 ≤ f.qmax) : FP.Core.round f (FP.Core.exactProduct (.fin false c q) (.fin false f.tails (2 - (f.p : Int)))) = .fin false c (q + 1) := by
  have hp := hf.2
  show FP.Core.roundRatio f (false != false) (c * f.tails) 1 (q + (2 - (f.p : Int))) = _
  refine FP.Core.roundRatio_exact hf (by decide) ⟨h2, by omega, h4, Or.inr h1⟩ ?_
  rw [show (q + (2 - (f.p : Int)) - (q + 1)).toNat = 0 by omega, show (q + 1 - (q + (2 - (f.p : Int)))).toNat = f.p - 1 by omega, Nat.pow_zero, Nat.mul_one, Nat.mul_one]
  rfl
theorem fm_half {f : FP.Core.Fmt} (hf : FP.Core.Good f) {c : Nat} {q : Int} (h1 : f.tails ≤ c) (h2 : c < 2 ^ f.p) (h3 : f.qmin ≤ q) (h4 : q + 1 ≤ f.qmax) : FP.Core.quotient f (.fin false c (q + 1)) (.fin false f.tails (2 - (f.p : Int))) = .fin false c q := by
  have hp := hf.2
  have ht := FP.Core.tails_two hf
  show (if f.tails = 0 then _ else FP.Core.roundRatio f (false != false) c f.tails (q + 1 - (2 - (f.p : Int)))) = _
  rw [if_neg (by omega)]
  refine FP.Core.roundRatio_exact hf (by omega) ⟨h2, h3, by omega, Or.inr h1⟩ ?_
  rw [show (q + 1 - (2 - (f.p : Int)) - q).toNat = f.p - 1 by omega, show (q - (q + 1 - (2 - (f.p : Int)))).toNat = 0 by omega, Nat.pow_zero, Nat.mul_one]
  rfl
/-- against one -/
theorem fm_lt1 {f : FP.Core.Fmt} (hf : FP.Core.Good f) {c : Nat} {q : Int} (h2 : c < 2 ^ f.p) (hq : q < -((f.p - 1 : Nat) : Int)) : FP.Core.order (.fin false c q) (.fin false f.tails (-((f.p - 1 : Nat) : Int))) = some .lt := by
  have hp := hf.2
  have t1 := FP.Core.two_tails hf
  show some (compare (FP.Core.signed false (FP.Core.inUnits c q (min q (-((f.p - 1 : Nat) : Int))))) (FP.Core.signed false (FP.Core.inUnits f.tails (-((f.p - 1 : Nat) : Int)) (min q (-((f.p - 1 : Nat) : Int)))))) = _
  rw [show min q (-((f.p - 1 : Nat) : Int)) = q by omega]
  unfold FP.Core.signed FP.Core.inUnits
  rw [if_neg (by decide), if_neg (by decide), show (q - q).toNat = 0 by omega, Nat.pow_zero, Nat.mul_one]
  refine congrArg some (Int.compare_eq_lt.mpr (Int.ofNat_lt.mpr ?_))
  obtain ⟨d, hd⟩ : ∃ d, (-((f.p - 1 : Nat) : Int) - q).toNat = d + 1 := ⟨(-((f.p - 1 : Nat) : Int) - q).toNat - 1, by omega⟩
  rw [hd, Nat.pow_succ]
  have p1 := Nat.two_pow_pos d
  calc c < 2 * f.tails := by omega
    _ = f.tails * (1 * 2) := by omega
    _ ≤ f.tails * (2 ^ d * 2) := Nat.mul_le_mul_left _ (Nat.mul_le_mul_right _ p1)
theorem fm_ge1 {f : FP.Core.Fmt} (hf : FP.Core.Good f) {c : Nat} {q : Int} (h1 : f.tails ≤ c) (hq : -((f.p - 1 : Nat) : Int) ≤ q) : ∃ o, FP.Core.order (.fin false c q) (.fin false f.tails (-((f.p - 1 : Nat) : Int))) = some o ∧ o ≠ .lt := by
  refine ⟨_, rfl, fun h => ?_⟩
  rw [show min q (-((f.p - 1 : Nat) : Int)) = -((f.p - 1 : Nat) : Int) by omega] at h
  have h := Int.compare_eq_lt.mp h
  unfold FP.Core.signed FP.Core.inUnits at h
  rw [if_neg (by decide), if_neg (by decide), show (-((f.p - 1 : Nat) : Int) - -((f.p - 1 : Nat) : Int)).toNat = 0 by omega, Nat.pow_zero, Nat.mul_one] at h
  have h := Int.ofNat_lt.mp h
  have p1 := Nat.two_pow_pos (q - -((f.p - 1 : Nat) : Int)).toNat
  have := Nat.mul_le_mul h1 p1
  omega
/-- against two -/
theorem fm_lt2 {f : FP.Core.Fmt} (hf : FP.Core.Good f) {c : Nat} {q : Int} (h2 : c < 2 ^ f.p) (hq : q ≤ -((f.p - 1 : Nat) : Int)) : FP.Core.order (.fin false c q) (.fin false f.tails (2 - (f.p : Int))) = some .lt := by
  have hp := hf.2
  have t1 := FP.Core.two_tails hf
  show some (compare (FP.Core.signed false (FP.Core.inUnits c q (min q (2 - (f.p : Int))))) (FP.Core.signed false (FP.Core.inUnits f.tails (2 - (f.p : Int)) (min q (2 - (f.p : Int)))))) = _
  rw [show min q (2 - (f.p : Int)) = q by omega]
  unfold FP.Core.signed FP.Core.inUnits
  rw [if_neg (by decide), if_neg (by decide), show (q - q).toNat = 0 by omega, Nat.pow_zero, Nat.mul_one]
  refine congrArg some (Int.compare_eq_lt.mpr (Int.ofNat_lt.mpr ?_))
  obtain ⟨d, hd⟩ : ∃ d, (2 - (f.p : Int) - q).toNat = d + 1 := ⟨(2 - (f.p : Int) - q).toNat - 1, by omega⟩
  rw [hd, Nat.pow_succ]
  have p1 := Nat.two_pow_pos d
  calc c < 2 * f.tails := by omega
    _ = f.tails * (1 * 2) := by omega
    _ ≤ f.tails * (2 ^ d * 2) := Nat.mul_le_mul_left _ (Nat.mul_le_mul_right _ p1)
theorem fm_ge2 {f : FP.Core.Fmt} (hf : FP.Core.Good f) {c : Nat} {q : Int} (h1 : f.tails ≤ c) (hq : 2 - (f.p : Int) ≤ q) : ∃ o, FP.Core.order (.fin false c q) (.fin false f.tails (2 - (f.p : Int))) = some o ∧ o ≠ .lt := by
  refine ⟨_, rfl, fun h => ?_⟩
  rw [show min q (2 - (f.p : Int)) = 2 - (f.p : Int) by omega] at h
  have h := Int.compare_eq_lt.mp h
  unfold FP.Core.signed FP.Core.inUnits at h
  rw [if_neg (by decide), if_neg (by decide), show (2 - (f.p : Int) - (2 - (f.p : Int))).toNat = 0 by omega, Nat.pow_zero, Nat.mul_one] at h
  have h := Int.ofNat_lt.mp h
  have p1 := Nat.two_pow_pos (q - (2 - (f.p : Int))).toNat
  have := Nat.mul_le_mul h1 p1
  omega
/-- against nothing -/
theorem fm_gt0 {f : FP.Core.Fmt} {c : Nat} {q : Int} (h1 : 0 < c) (hq : f.qmin ≤ q) : FP.Core.order (.fin false c q) (.fin false 0 f.qmin) = some .gt := by
  show some (compare (FP.Core.signed false (FP.Core.inUnits c q (min q f.qmin))) (FP.Core.signed false (FP.Core.inUnits 0 f.qmin (min q f.qmin)))) = _
  unfold FP.Core.signed FP.Core.inUnits
  rw [if_neg (by decide), if_neg (by decide), Nat.zero_mul]
  refine congrArg some (Int.compare_eq_gt.mpr (Int.ofNat_lt.mpr ?_))
  exact Nat.mul_pos h1 (Nat.two_pow_pos _)
/-- a whole part -/
theorem fm_trunc {n k : Nat} : FP.Core.truncate false (n * 2 ^ k) (-(k : Int)) = (n : Int) := by
  unfold FP.Core.truncate FP.Core.signed
  rw [if_neg (by decide), show (-(k : Int)).toNat = 0 by omega, show (- -(k : Int)).toNat = k by omega, Nat.pow_zero, Nat.mul_one, Nat.mul_div_cancel _ (Nat.two_pow_pos k)]
/-- what lies above one, in units of the last digit, is a whole number -/
theorem fm_frac {f : FP.Core.Fmt} (hf : FP.Core.Good f) {c : Nat} (h1 : f.tails ≤ c) (h2 : c < 2 ^ f.p) (h0 : f.qmin + ((f.p - 1 : Nat) : Int) + ((f.p - 1 : Nat) : Int) ≤ 0) (h4 : 0 ≤ f.qmax) :
    ∃ (n1 n2 : Nat) (q1 q2 : Int), FP.Core.round f (FP.Core.exactSum (.fin false c (-((f.p - 1 : Nat) : Int))) (FP.Core.negate (.fin false f.tails (-((f.p - 1 : Nat) : Int))))) = .fin false n1 q1 ∧ FP.Core.round f (FP.Core.exactProduct (.fin false n1 q1) (.fin false f.tails 0)) = .fin false n2 q2 ∧ FP.Core.truncate false n2 q2 = ((c - f.tails : Nat) : Int) := by
  have hp := hf.2
  have t1 := FP.Core.two_tails hf
  have t2 := FP.Core.tails_two hf
  obtain ⟨m, rfl⟩ : ∃ m, c = f.tails + m := ⟨c - f.tails, by omega⟩
  have es : FP.Core.exactSum (.fin false (f.tails + m) (-((f.p - 1 : Nat) : Int))) (FP.Core.negate (.fin false f.tails (-((f.p - 1 : Nat) : Int)))) = .fin false m (-((f.p - 1 : Nat) : Int)) := by
    have mn : min (-((f.p - 1 : Nat) : Int)) (-((f.p - 1 : Nat) : Int)) = -((f.p - 1 : Nat) : Int) := by omega
    have su : FP.Core.sumUnits false (f.tails + m) (-((f.p - 1 : Nat) : Int)) true f.tails (-((f.p - 1 : Nat) : Int)) (-((f.p - 1 : Nat) : Int)) = (m : Int) := by
      unfold FP.Core.sumUnits FP.Core.signed FP.Core.inUnits
      rw [if_neg (by decide), if_pos rfl, show (-((f.p - 1 : Nat) : Int) - -((f.p - 1 : Nat) : Int)).toNat = 0 by omega, Nat.pow_zero, Nat.mul_one, Nat.mul_one]
      omega
    have sg : FP.Core.sumSign false true (m : Int) = false := by
      unfold FP.Core.sumSign
      by_cases hm : (m : Int) = 0
      · rw [if_pos hm]; rfl
      · rw [if_neg hm]
        exact decide_eq_false (by omega)
    show FP.Core.Datum.fin (FP.Core.sumSign false true (FP.Core.sumUnits false (f.tails + m) (-((f.p - 1 : Nat) : Int)) true f.tails (-((f.p - 1 : Nat) : Int)) (min (-((f.p - 1 : Nat) : Int)) (-((f.p - 1 : Nat) : Int))))) (FP.Core.sumUnits false (f.tails + m) (-((f.p - 1 : Nat) : Int)) true f.tails (-((f.p - 1 : Nat) : Int)) (min (-((f.p - 1 : Nat) : Int)) (-((f.p - 1 : Nat) : Int)))).natAbs (min (-((f.p - 1 : Nat) : Int)) (-((f.p - 1 : Nat) : Int))) = _
    rw [mn, su, sg]
    rfl
  rw [es, Nat.add_sub_cancel_left]
  by_cases hm : m = 0
  · subst hm
    refine ⟨0, 0, f.qmin, f.qmin, by show FP.Core.roundRatio f false 0 1 _ = _; unfold FP.Core.roundRatio; rw [if_pos rfl], ?_, ?_⟩
    · show FP.Core.roundRatio f (false != false) (0 * f.tails) 1 (f.qmin + 0) = _
      rw [Nat.zero_mul]
      exact if_pos rfl
    · unfold FP.Core.truncate FP.Core.signed
      rw [if_neg (by decide), Nat.zero_mul, Nat.zero_div]
  · obtain ⟨k, hk, e1, k1, k2⟩ := fm_int hf (n := m) (by omega) (by omega) false (-((f.p - 1 : Nat) : Int)) (by omega) (by omega)
    refine ⟨m * 2 ^ k, m * 2 ^ k, -((f.p - 1 : Nat) : Int) - k, -(k : Int), e1, ?_, fm_trunc⟩
    show FP.Core.roundRatio f (false != false) (m * 2 ^ k * f.tails) 1 (-((f.p - 1 : Nat) : Int) - k + 0) = _
    refine FP.Core.roundRatio_exact hf (by decide) ⟨k2, by omega, by omega, Or.inr k1⟩ ?_
    rw [show (-((f.p - 1 : Nat) : Int) - (k : Int) + 0 - -(k : Int)).toNat = 0 by omega, show (-(k : Int) - (-((f.p - 1 : Nat) : Int) - (k : Int) + 0)).toNat = f.p - 1 by omega, Nat.pow_zero, Nat.mul_one, Nat.mul_one]
    rfl
/-- the quotient of two whole numbers -/
theorem fm_quot {f : FP.Core.Fmt} (hf : FP.Core.Good f) {A B k l : Nat} (hB : 0 < B) : FP.Core.quotient f (.fin false (A * 2 ^ k) (-(k : Int))) (.fin false (B * 2 ^ l) (-(l : Int))) = FP.Core.roundRatio f false A B 0 := by
  have p1 := Nat.two_pow_pos l
  have hBl : 0 < B * 2 ^ l := Nat.mul_pos hB p1
  show (if B * 2 ^ l = 0 then _ else FP.Core.roundRatio f (false != false) (A * 2 ^ k) (B * 2 ^ l) (-(k : Int) - -(l : Int))) = _
  rw [if_neg (by omega)]
  refine FP.Core.roundRatio_congr hBl hB ?_
  by_cases h : k ≤ l
  · rw [show (-(k : Int) - -(l : Int) - 0).toNat = l - k by omega, show (0 - (-(k : Int) - -(l : Int))).toNat = 0 by omega, Nat.pow_zero, Nat.mul_one]
    have e : 2 ^ l = 2 ^ k * 2 ^ (l - k) := by rw [← Nat.pow_add]; congr 1; omega
    rw [e]
    ac_rfl
  · rw [show (-(k : Int) - -(l : Int) - 0).toNat = 0 by omega, show (0 - (-(k : Int) - -(l : Int))).toNat = k - l by omega, Nat.pow_zero, Nat.mul_one]
    have e : 2 ^ k = 2 ^ l * 2 ^ (k - l) := by rw [← Nat.pow_add]; congr 1; omega
    rw [e]
    ac_rfl
end FMATH
