section MODELB
theorem b10t {p : Prop} [Decidable p] : (if p then (0 : Int32) else 1) = 0 ↔ p := by
  by_cases h : p
  · rw [if_pos h]; exact ⟨fun _ => h, fun _ => rfl⟩
  · rw [if_neg h]; exact ⟨fun e => absurd e (by decide), fun e => absurd e h⟩
theorem b10f {p : Prop} [Decidable p] : ¬ (if p then (0 : Int32) else 1) = 0 ↔ ¬ p := by
  rw [b10t]
variable {μ W : Wd} {q : PDt} {d : FDt}
theorem sum2 (f : Nat → Nat → Int32) : ∀ (T M : Nat), itN (fun t a => a + itN (fun i a => a + f t i) 0 M) 0 T = itN (fun i a => a + itN (fun t a => a + f t i) 0 T) 0 M := by
  have hz : ∀ M, itN (fun _ a => a + (0 : Int32)) 0 M = 0 := fun M => by
    induction M with
    | zero => rfl
    | succ m ih => rw [itN_succ, ih]; rfl
  have hadd : ∀ (g h : Nat → Int32) (M : Nat), itN (fun i a => a + (g i + h i)) 0 M = itN (fun i a => a + g i) 0 M + itN (fun i a => a + h i) 0 M := fun g h M => by
    induction M with
    | zero => rfl
    | succ m ih => rw [itN_succ, itN_succ, itN_succ, ih]; ac_rfl
  intro T
  induction T with
  | zero => intro M; exact (hz M).symm
  | succ t ih => intro M; rw [itN_succ, ih M, ← hadd]; exact itN_congr rfl fun i x hi => rfl
theorem alD_m (q : PDt) (d : FDt) : itN (fun k a => a + ldD q d k) 0 (pM q) = alD q d := (sum2 (fun t k => dF d (7 + t) k) (pT q) (pM q)).symm
/-- those without diets in a cabin -/
def plD (d : FDt) (c : Int32) : Int32 := itN (fun i a => if dF d 0 i = c then (if dF d 1 i = 0 then a + 1 else a) else a) 0 (dP d)
theorem plD_eq (d : FDt) (c : Int32) : plD d c = paD d c - spD d c := by
  have h : plD d c + spD d c = paD d c := by
    unfold plD paD spD
    induction dP d with
    | zero => rfl
    | succ n ih =>
      rw [itN_succ, itN_succ, itN_succ]
      by_cases hc : dF d 0 n = c
      · rw [if_pos hc, if_pos hc, if_pos hc, ← ih]
        by_cases h0 : dF d 1 n = 0
        · rw [if_pos h0, if_pos h0]; ac_rfl
        · rw [if_neg h0, if_neg h0]; ac_rfl
      · rw [if_neg hc, if_neg hc, if_neg hc]; exact ih
  rw [← h, Int32.add_sub_cancel]
theorem shD_m (q : PDt) (c : Int32) : itN (fun i a => if pF q 2 i = c then a + pF q 3 i else a) 0 (pM q) = shD q c := itN_congr rfl fun i x hi => by
  by_cases h : pF q 2 i = c
  · rw [if_pos h, if_pos h]
  · rw [if_neg h, if_neg h]; exact (Int32.add_zero x).symm
theorem suD_m (q : PDt) (c n : Int32) : itN (fun m a => if fitD q c n m = true then a ||| ((1 : Int32) <<< (nI m &&& 31)) else a) 0 (pM q) = suD q c n := itN_congr rfl fun i x hi => by
  by_cases h : adI (pF q 2 i) c = 0
  · rw [if_pos h, if_neg (by unfold fitD; rw [decide_eq_true_eq]; exact fun z => z.1 h)]
  · rw [if_neg h]
    by_cases h2 : n &&& (pF q 6 i ^^^ -1) = 0
    · rw [if_pos h2, if_pos (by unfold fitD; rw [decide_eq_true_eq]; exact ⟨h, h2⟩)]
    · rw [if_neg h2, if_neg (by unfold fitD; rw [decide_eq_true_eq]; exact fun z => h2 z.2)]
abbrev R_X11_suiting : Room := { frames := 3, cells := 0, slots := 0, locals := 67 }
abbrev RX_X11_suiting : Room := { frames := 3, cells := 1, slots := 6, locals := 67 }

theorem lm_suiting_ (hw : Wf μ) (hv : MdV μ q d) {i : Nat} (hi : i < dP d) {o : Oc} {μ1 : Wd} (kx : AW Y_X11_suiting R_X11_suiting (0, 0) μ 37 [(0, .ref 338), (1, .int (nI i)), (2, .int (itN (fun m a => if fitD q (dF d 0 i) (dF d 1 i) m = true then a ||| ((1 : Int32) <<< (nI m &&& 31)) else a) 0 (pM q))), (3, .int (nI (pM q)))] [] o μ1) : ∀ dd m, m + dd = (pM q) → AW Y_X11_suiting R_X11_suiting (0, 0) μ 4 [(0, .ref 338), (1, .int (nI i)), (2, .int (itN (fun m a => if fitD q (dF d 0 i) (dF d 1 i) m = true then a ||| ((1 : Int32) <<< (nI m &&& 31)) else a) 0 m)), (3, .int (nI m))] [] o μ1 := by
  intro dd
  induction dd with
  | zero =>
    intro m hm
    obtain rfl : (pM q) = m := by omega
    refine a_iload_n dX11_suiting_4 rfl ?_
    refine a_aload_n dX11_suiting_5 rfl ?_
    refine a_inv (b2 := (0, 0)) (m_meals hw hv) rfl dX11_suiting_6 yk_X11_meals im_X11_meals se_X11_meals ml_X11_300 rfl (co_338 hw) (by decide) hc_X11 (by decide) (by decide) (Nat.le_of_ble_eq_true rfl) ?_
    refine a_icmp_ge (tgt := 37) dX11_suiting_9 (by decide) (fun h9 => ?_) (fun h9 => absurd h9 (fun z => z (nI_le (Nat.le_refl _) (by have := hv.M4; omega))))
    exact a_loc _ rfl kx
  | succ dd ih =>
    intro m hm
    have hM4 := hv.M4
    have hT4 := hv.T4
    have hP4 := hv.P4
    have hU4 := hv.U4
    refine a_iload_n dX11_suiting_4 rfl ?_
    refine a_aload_n dX11_suiting_5 rfl ?_
    refine a_inv (b2 := (0, 0)) (m_meals hw hv) rfl dX11_suiting_6 yk_X11_meals im_X11_meals se_X11_meals ml_X11_300 rfl (co_338 hw) (by decide) hc_X11 (by decide) (by decide) (Nat.le_of_ble_eq_true rfl) ?_
    refine a_icmp_ge (tgt := 37) dX11_suiting_9 (by decide) (fun h9 => absurd h9 (nI_ge (by omega) (by have := hv.M4; omega))) (fun h9 => ?_)
    refine a_aload_n dX11_suiting_12 rfl ?_
    refine a_iload_n dX11_suiting_13 rfl ?_
    refine a_iload_n dX11_suiting_14 rfl ?_
    refine a_inv (b2 := (0, 0)) (m_suits hw hv (show m < pM q by omega) hi) rfl dX11_suiting_15 yk_X11_suits im_X11_suits se_X11_suits ml_X11_303 rfl (co_338 hw) (by decide) hc_X11 (by decide) (by decide) (Nat.le_of_ble_eq_true rfl) ?_
    refine a_if_eq (tgt := 29) dX11_suiting_18 (by decide) (fun h18 => ?_) (fun h18 => ?_)
    · have h18 := b01t.mp h18
      refine a_iload_n dX11_suiting_29 rfl ?_
      refine a_istore_n dX11_suiting_30 (by decide) ?_
      refine a_iincN dX11_suiting_31 rfl (by decide) ?_
      refine a_goto (tgt := 4) dX11_suiting_34 (by decide) ?_
      have qih := ih (m + 1) (by omega)
      simp only [itN_succ] at qih
      first | exact a_loc _ rfl qih | (simp_all only [if_true, if_false, not_true_eq_false, not_false_eq_true, ne_eq]; exact a_loc _ rfl qih)
    · have h18 := b01f.mp h18
      refine a_iload_n dX11_suiting_21 rfl ?_
      refine a_iconst (1 : Int32) dX11_suiting_22 (by decide) ?_
      refine a_iload_n dX11_suiting_23 rfl ?_
      refine a_ishl dX11_suiting_24 ?_
      refine a_ior dX11_suiting_25 ?_
      refine a_goto (tgt := 30) dX11_suiting_26 (by decide) ?_
      refine a_istore_n dX11_suiting_30 (by decide) ?_
      refine a_iincN dX11_suiting_31 rfl (by decide) ?_
      refine a_goto (tgt := 4) dX11_suiting_34 (by decide) ?_
      have qih := ih (m + 1) (by omega)
      simp only [itN_succ] at qih
      first | exact a_loc _ rfl qih | (simp_all only [if_true, if_false, not_true_eq_false, not_false_eq_true, ne_eq]; exact a_loc _ rfl qih)
theorem m_suiting_ (hw : Wf μ) (hv : MdV μ q d) {i : Nat} (hi : i < dP d) : Ct Y_X11_suiting R_X11_suiting [.ref 338, .int (nI i)] μ (.inl (some (.int (itN (fun m a => if fitD q (dF d 0 i) (dF d 1 i) m = true then a ||| ((1 : Int32) <<< (nI m &&& 31)) else a) 0 ((pM q)))))) μ := by
  refine Ct.ent yk_X11_suiting (Nat.le_of_ble_eq_true rfl) ?_
  refine a_iconst (0 : Int32) dX11_suiting_0 (by decide) ?_
  refine a_istore_n dX11_suiting_1 (by decide) ?_
  refine a_iconst (0 : Int32) dX11_suiting_2 (by decide) ?_
  refine a_istore_n dX11_suiting_3 (by decide) ?_
  refine a_loc [(0, .ref 338), (1, .int (nI i)), (2, .int (itN (fun m a => if fitD q (dF d 0 i) (dF d 1 i) m = true then a ||| ((1 : Int32) <<< (nI m &&& 31)) else a) 0 0)), (3, .int (nI 0))] rfl ?_
  refine lm_suiting_ hw hv hi ?_ ((pM q)) 0 (by omega)
  refine a_iload_n dX11_suiting_37 rfl ?_
  exact a_out rfl rfl (a_ireturn dX11_suiting_38 rfl rfl)
theorem m_suiting (hw : Wf μ) (hv : MdV μ q d) {i : Nat} (hi : i < dP d) : Ct Y_X11_suiting R_X11_suiting [.ref 338, .int (nI i)] μ (.inl (some (.int (suD q (dF d 0 i) (dF d 1 i))))) μ := Ct.int (suD_m q _ _) (m_suiting_ hw hv hi)
abbrev R_X11_plainIn : Room := { frames := 3, cells := 0, slots := 0, locals := 64 }
abbrev RX_X11_plainIn : Room := { frames := 3, cells := 1, slots := 6, locals := 64 }

theorem lm_plainIn_ (hw : Wf μ) (hv : MdV μ q d) (c : Int32) {o : Oc} {μ1 : Wd} (kx : AW Y_X11_plainIn R_X11_plainIn (0, 0) μ 46 [(0, .ref 338), (1, .int c), (2, .int (itN (fun i a => if dF d 0 i = c then (if dF d 1 i = 0 then a + 1 else a) else a) 0 (dP d))), (3, .int (nI (dP d)))] [] o μ1) : ∀ dd m, m + dd = (dP d) → AW Y_X11_plainIn R_X11_plainIn (0, 0) μ 4 [(0, .ref 338), (1, .int c), (2, .int (itN (fun i a => if dF d 0 i = c then (if dF d 1 i = 0 then a + 1 else a) else a) 0 m)), (3, .int (nI m))] [] o μ1 := by
  intro dd
  induction dd with
  | zero =>
    intro m hm
    obtain rfl : (dP d) = m := by omega
    refine a_iload_n dX11_plainIn_4 rfl ?_
    refine a_aload_n dX11_plainIn_5 rfl ?_
    refine a_getR (cr_338_6 hw) dX11_plainIn_6 fs_X11_26 rfl (co_338 hw) ?_
    refine a_iconst (3 : Int32) dX11_plainIn_9 (by decide) ?_
    refine a_ild dX11_plainIn_10 (ca_344 hw) (ixn (m := 3) (by omega) (by decide)) ?_
    rw [hv.s3]
    refine a_icmp_ge (tgt := 46) dX11_plainIn_11 (by decide) (fun h11 => ?_) (fun h11 => absurd h11 (fun z => z (nI_le (Nat.le_refl _) (by have := hv.P4; omega))))
    exact a_loc _ rfl kx
  | succ dd ih =>
    intro m hm
    have hM4 := hv.M4
    have hT4 := hv.T4
    have hP4 := hv.P4
    have hU4 := hv.U4
    refine a_iload_n dX11_plainIn_4 rfl ?_
    refine a_aload_n dX11_plainIn_5 rfl ?_
    refine a_getR (cr_338_6 hw) dX11_plainIn_6 fs_X11_26 rfl (co_338 hw) ?_
    refine a_iconst (3 : Int32) dX11_plainIn_9 (by decide) ?_
    refine a_ild dX11_plainIn_10 (ca_344 hw) (ixn (m := 3) (by omega) (by decide)) ?_
    rw [hv.s3]
    refine a_icmp_ge (tgt := 46) dX11_plainIn_11 (by decide) (fun h11 => absurd h11 (nI_ge (by omega) (by have := hv.P4; omega))) (fun h11 => ?_)
    refine a_aload_n dX11_plainIn_14 rfl ?_
    refine a_iload_n dX11_plainIn_15 rfl ?_
    refine a_iconst (0 : Int32) dX11_plainIn_16 (by decide) ?_
    refine a_inv (b2 := (0, 0)) (m_of0 hw hv (show m < dP d by omega)) rfl dX11_plainIn_17 yk_X11_of im_X11_of se_X11_of ml_X11_294 rfl (co_338 hw) (by decide) hc_X11 (by decide) (by decide) (Nat.le_of_ble_eq_true rfl) ?_
    refine a_iload_n dX11_plainIn_20 rfl ?_
    refine a_icmp_ne (tgt := 38) dX11_plainIn_21 (by decide) (fun h21 => ?_) (fun h21 => ?_)
    · refine a_iload_n dX11_plainIn_38 rfl ?_
      refine a_istore_n dX11_plainIn_39 (by decide) ?_
      refine a_iincN dX11_plainIn_40 rfl (by decide) ?_
      refine a_goto (tgt := 4) dX11_plainIn_43 (by decide) ?_
      have qih := ih (m + 1) (by omega)
      simp only [itN_succ] at qih
      first | exact a_loc _ rfl qih | (simp_all only [if_true, if_false, not_true_eq_false, not_false_eq_true, ne_eq]; exact a_loc _ rfl qih)
    · refine a_aload_n dX11_plainIn_24 rfl ?_
      refine a_iload_n dX11_plainIn_25 rfl ?_
      refine a_inv (b2 := (0, 0)) (m_isSpecial hw hv (show m < dP d by omega)) rfl dX11_plainIn_26 yk_X11_isSpecial im_X11_isSpecial se_X11_isSpecial ml_X11_306 rfl (co_338 hw) (by decide) hc_X11 (by decide) (by decide) (Nat.le_of_ble_eq_true rfl) ?_
      refine a_if_ne (tgt := 38) dX11_plainIn_29 (by decide) (fun h29 => ?_) (fun h29 => ?_)
      · have h29 := b10f.mp h29
        refine a_iload_n dX11_plainIn_38 rfl ?_
        refine a_istore_n dX11_plainIn_39 (by decide) ?_
        refine a_iincN dX11_plainIn_40 rfl (by decide) ?_
        refine a_goto (tgt := 4) dX11_plainIn_43 (by decide) ?_
        have qih := ih (m + 1) (by omega)
        simp only [itN_succ] at qih
        first | exact a_loc _ rfl qih | (simp_all only [if_true, if_false, not_true_eq_false, not_false_eq_true, ne_eq]; exact a_loc _ rfl qih)
      · have h29 := b10t.mp h29
        refine a_iload_n dX11_plainIn_32 rfl ?_
        refine a_iconst (1 : Int32) dX11_plainIn_33 (by decide) ?_
        refine a_iadd dX11_plainIn_34 ?_
        refine a_goto (tgt := 39) dX11_plainIn_35 (by decide) ?_
        refine a_istore_n dX11_plainIn_39 (by decide) ?_
        refine a_iincN dX11_plainIn_40 rfl (by decide) ?_
        refine a_goto (tgt := 4) dX11_plainIn_43 (by decide) ?_
        have qih := ih (m + 1) (by omega)
        simp only [itN_succ] at qih
        first | exact a_loc _ rfl qih | (simp_all only [if_true, if_false, not_true_eq_false, not_false_eq_true, ne_eq]; exact a_loc _ rfl qih)
theorem m_plainIn_ (hw : Wf μ) (hv : MdV μ q d) (c : Int32) : Ct Y_X11_plainIn R_X11_plainIn [.ref 338, .int c] μ (.inl (some (.int (itN (fun i a => if dF d 0 i = c then (if dF d 1 i = 0 then a + 1 else a) else a) 0 ((dP d)))))) μ := by
  refine Ct.ent yk_X11_plainIn (Nat.le_of_ble_eq_true rfl) ?_
  refine a_iconst (0 : Int32) dX11_plainIn_0 (by decide) ?_
  refine a_istore_n dX11_plainIn_1 (by decide) ?_
  refine a_iconst (0 : Int32) dX11_plainIn_2 (by decide) ?_
  refine a_istore_n dX11_plainIn_3 (by decide) ?_
  refine a_loc [(0, .ref 338), (1, .int c), (2, .int (itN (fun i a => if dF d 0 i = c then (if dF d 1 i = 0 then a + 1 else a) else a) 0 0)), (3, .int (nI 0))] rfl ?_
  refine lm_plainIn_ hw hv c ?_ ((dP d)) 0 (by omega)
  refine a_iload_n dX11_plainIn_46 rfl ?_
  exact a_out rfl rfl (a_ireturn dX11_plainIn_47 rfl rfl)
theorem m_plainIn (hw : Wf μ) (hv : MdV μ q d) (c : Int32) : Ct Y_X11_plainIn R_X11_plainIn [.ref 338, .int c] μ (.inl (some (.int (plD d c)))) μ := Ct.int (rfl) (m_plainIn_ hw hv c)
abbrev R_X11_sharesOf : Room := { frames := 1, cells := 0, slots := 0, locals := 22 }
abbrev RX_X11_sharesOf : Room := { frames := 1, cells := 1, slots := 6, locals := 22 }

theorem lm_sharesOf_ (hw : Wf μ) (hv : MdV μ q d) (c : Int32) {o : Oc} {μ1 : Wd} (kx : AW Y_X11_sharesOf R_X11_sharesOf (0, 0) μ 41 [(0, .ref 338), (1, .int c), (2, .int (itN (fun i a => if pF q 2 i = c then a + pF q 3 i else a) 0 (pM q))), (3, .int (nI (pM q)))] [] o μ1) : ∀ dd m, m + dd = (pM q) → AW Y_X11_sharesOf R_X11_sharesOf (0, 0) μ 4 [(0, .ref 338), (1, .int c), (2, .int (itN (fun i a => if pF q 2 i = c then a + pF q 3 i else a) 0 m)), (3, .int (nI m))] [] o μ1 := by
  intro dd
  induction dd with
  | zero =>
    intro m hm
    obtain rfl : (pM q) = m := by omega
    refine a_iload_n dX11_sharesOf_4 rfl ?_
    refine a_aload_n dX11_sharesOf_5 rfl ?_
    refine a_inv (b2 := (0, 0)) (m_meals hw hv) rfl dX11_sharesOf_6 yk_X11_meals im_X11_meals se_X11_meals ml_X11_300 rfl (co_338 hw) (by decide) hc_X11 (by decide) (by decide) (Nat.le_of_ble_eq_true rfl) ?_
    refine a_icmp_ge (tgt := 41) dX11_sharesOf_9 (by decide) (fun h9 => ?_) (fun h9 => absurd h9 (fun z => z (nI_le (Nat.le_refl _) (by have := hv.M4; omega))))
    exact a_loc _ rfl kx
  | succ dd ih =>
    intro m hm
    have hM4 := hv.M4
    have hT4 := hv.T4
    have hP4 := hv.P4
    have hU4 := hv.U4
    refine a_iload_n dX11_sharesOf_4 rfl ?_
    refine a_aload_n dX11_sharesOf_5 rfl ?_
    refine a_inv (b2 := (0, 0)) (m_meals hw hv) rfl dX11_sharesOf_6 yk_X11_meals im_X11_meals se_X11_meals ml_X11_300 rfl (co_338 hw) (by decide) hc_X11 (by decide) (by decide) (Nat.le_of_ble_eq_true rfl) ?_
    refine a_icmp_ge (tgt := 41) dX11_sharesOf_9 (by decide) (fun h9 => absurd h9 (nI_ge (by omega) (by have := hv.M4; omega))) (fun h9 => ?_)
    refine a_aload_n dX11_sharesOf_12 rfl ?_
    refine a_iload_n dX11_sharesOf_13 rfl ?_
    refine a_iconst (0 : Int32) dX11_sharesOf_14 (by decide) ?_
    refine a_inv (b2 := (0, 0)) (m_ofMeal0 hw hv (show m < pM q by omega)) rfl dX11_sharesOf_15 yk_X11_ofMeal im_X11_ofMeal se_X11_ofMeal ml_X11_297 rfl (co_338 hw) (by decide) hc_X11 (by decide) (by decide) (Nat.le_of_ble_eq_true rfl) ?_
    refine a_iload_n dX11_sharesOf_18 rfl ?_
    refine a_icmp_ne (tgt := 33) dX11_sharesOf_19 (by decide) (fun h19 => ?_) (fun h19 => ?_)
    · refine a_iload_n dX11_sharesOf_33 rfl ?_
      refine a_istore_n dX11_sharesOf_34 (by decide) ?_
      refine a_iincN dX11_sharesOf_35 rfl (by decide) ?_
      refine a_goto (tgt := 4) dX11_sharesOf_38 (by decide) ?_
      have qih := ih (m + 1) (by omega)
      simp only [itN_succ] at qih
      first | exact a_loc _ rfl qih | (simp_all only [if_true, if_false, not_true_eq_false, not_false_eq_true, ne_eq]; exact a_loc _ rfl qih)
    · refine a_iload_n dX11_sharesOf_22 rfl ?_
      refine a_aload_n dX11_sharesOf_23 rfl ?_
      refine a_iload_n dX11_sharesOf_24 rfl ?_
      refine a_iconst (1 : Int32) dX11_sharesOf_25 (by decide) ?_
      refine a_inv (b2 := (0, 0)) (m_ofMeal1 hw hv (show m < pM q by omega)) rfl dX11_sharesOf_26 yk_X11_ofMeal im_X11_ofMeal se_X11_ofMeal ml_X11_297 rfl (co_338 hw) (by decide) hc_X11 (by decide) (by decide) (Nat.le_of_ble_eq_true rfl) ?_
      refine a_iadd dX11_sharesOf_29 ?_
      refine a_goto (tgt := 34) dX11_sharesOf_30 (by decide) ?_
      refine a_istore_n dX11_sharesOf_34 (by decide) ?_
      refine a_iincN dX11_sharesOf_35 rfl (by decide) ?_
      refine a_goto (tgt := 4) dX11_sharesOf_38 (by decide) ?_
      have qih := ih (m + 1) (by omega)
      simp only [itN_succ] at qih
      first | exact a_loc _ rfl qih | (simp_all only [if_true, if_false, not_true_eq_false, not_false_eq_true, ne_eq]; exact a_loc _ rfl qih)
theorem m_sharesOf_ (hw : Wf μ) (hv : MdV μ q d) (c : Int32) : Ct Y_X11_sharesOf R_X11_sharesOf [.ref 338, .int c] μ (.inl (some (.int (itN (fun i a => if pF q 2 i = c then a + pF q 3 i else a) 0 ((pM q)))))) μ := by
  refine Ct.ent yk_X11_sharesOf (Nat.le_of_ble_eq_true rfl) ?_
  refine a_iconst (0 : Int32) dX11_sharesOf_0 (by decide) ?_
  refine a_istore_n dX11_sharesOf_1 (by decide) ?_
  refine a_iconst (0 : Int32) dX11_sharesOf_2 (by decide) ?_
  refine a_istore_n dX11_sharesOf_3 (by decide) ?_
  refine a_loc [(0, .ref 338), (1, .int c), (2, .int (itN (fun i a => if pF q 2 i = c then a + pF q 3 i else a) 0 0)), (3, .int (nI 0))] rfl ?_
  refine lm_sharesOf_ hw hv c ?_ ((pM q)) 0 (by omega)
  refine a_iload_n dX11_sharesOf_41 rfl ?_
  exact a_out rfl rfl (a_ireturn dX11_sharesOf_42 rfl rfl)
theorem m_sharesOf (hw : Wf μ) (hv : MdV μ q d) (c : Int32) : Ct Y_X11_sharesOf R_X11_sharesOf [.ref 338, .int c] μ (.inl (some (.int (shD q c)))) μ := Ct.int (shD_m q c) (m_sharesOf_ hw hv c)
abbrev R_X11_menuOf : Room := { frames := 1, cells := 0, slots := 0, locals := 22 }
abbrev RX_X11_menuOf : Room := { frames := 1, cells := 1, slots := 6, locals := 22 }

theorem lm_menuOf_ (hw : Wf μ) (hv : MdV μ q d) (c : Int32) {o : Oc} {μ1 : Wd} (kx : AW Y_X11_menuOf R_X11_menuOf (0, 0) μ 38 [(0, .ref 338), (1, .int c), (2, .int (itN (fun i a => if pF q 2 i = c then a ||| ((1 : Int32) <<< (nI i &&& 31)) else a) 0 (pM q))), (3, .int (nI (pM q)))] [] o μ1) : ∀ dd m, m + dd = (pM q) → AW Y_X11_menuOf R_X11_menuOf (0, 0) μ 4 [(0, .ref 338), (1, .int c), (2, .int (itN (fun i a => if pF q 2 i = c then a ||| ((1 : Int32) <<< (nI i &&& 31)) else a) 0 m)), (3, .int (nI m))] [] o μ1 := by
  intro dd
  induction dd with
  | zero =>
    intro m hm
    obtain rfl : (pM q) = m := by omega
    refine a_iload_n dX11_menuOf_4 rfl ?_
    refine a_aload_n dX11_menuOf_5 rfl ?_
    refine a_inv (b2 := (0, 0)) (m_meals hw hv) rfl dX11_menuOf_6 yk_X11_meals im_X11_meals se_X11_meals ml_X11_300 rfl (co_338 hw) (by decide) hc_X11 (by decide) (by decide) (Nat.le_of_ble_eq_true rfl) ?_
    refine a_icmp_ge (tgt := 38) dX11_menuOf_9 (by decide) (fun h9 => ?_) (fun h9 => absurd h9 (fun z => z (nI_le (Nat.le_refl _) (by have := hv.M4; omega))))
    exact a_loc _ rfl kx
  | succ dd ih =>
    intro m hm
    have hM4 := hv.M4
    have hT4 := hv.T4
    have hP4 := hv.P4
    have hU4 := hv.U4
    refine a_iload_n dX11_menuOf_4 rfl ?_
    refine a_aload_n dX11_menuOf_5 rfl ?_
    refine a_inv (b2 := (0, 0)) (m_meals hw hv) rfl dX11_menuOf_6 yk_X11_meals im_X11_meals se_X11_meals ml_X11_300 rfl (co_338 hw) (by decide) hc_X11 (by decide) (by decide) (Nat.le_of_ble_eq_true rfl) ?_
    refine a_icmp_ge (tgt := 38) dX11_menuOf_9 (by decide) (fun h9 => absurd h9 (nI_ge (by omega) (by have := hv.M4; omega))) (fun h9 => ?_)
    refine a_aload_n dX11_menuOf_12 rfl ?_
    refine a_iload_n dX11_menuOf_13 rfl ?_
    refine a_iconst (0 : Int32) dX11_menuOf_14 (by decide) ?_
    refine a_inv (b2 := (0, 0)) (m_ofMeal0 hw hv (show m < pM q by omega)) rfl dX11_menuOf_15 yk_X11_ofMeal im_X11_ofMeal se_X11_ofMeal ml_X11_297 rfl (co_338 hw) (by decide) hc_X11 (by decide) (by decide) (Nat.le_of_ble_eq_true rfl) ?_
    refine a_iload_n dX11_menuOf_18 rfl ?_
    refine a_icmp_ne (tgt := 30) dX11_menuOf_19 (by decide) (fun h19 => ?_) (fun h19 => ?_)
    · refine a_iload_n dX11_menuOf_30 rfl ?_
      refine a_istore_n dX11_menuOf_31 (by decide) ?_
      refine a_iincN dX11_menuOf_32 rfl (by decide) ?_
      refine a_goto (tgt := 4) dX11_menuOf_35 (by decide) ?_
      have qih := ih (m + 1) (by omega)
      simp only [itN_succ] at qih
      first | exact a_loc _ rfl qih | (simp_all only [if_true, if_false, not_true_eq_false, not_false_eq_true, ne_eq]; exact a_loc _ rfl qih)
    · refine a_iload_n dX11_menuOf_22 rfl ?_
      refine a_iconst (1 : Int32) dX11_menuOf_23 (by decide) ?_
      refine a_iload_n dX11_menuOf_24 rfl ?_
      refine a_ishl dX11_menuOf_25 ?_
      refine a_ior dX11_menuOf_26 ?_
      refine a_goto (tgt := 31) dX11_menuOf_27 (by decide) ?_
      refine a_istore_n dX11_menuOf_31 (by decide) ?_
      refine a_iincN dX11_menuOf_32 rfl (by decide) ?_
      refine a_goto (tgt := 4) dX11_menuOf_35 (by decide) ?_
      have qih := ih (m + 1) (by omega)
      simp only [itN_succ] at qih
      first | exact a_loc _ rfl qih | (simp_all only [if_true, if_false, not_true_eq_false, not_false_eq_true, ne_eq]; exact a_loc _ rfl qih)
theorem m_menuOf_ (hw : Wf μ) (hv : MdV μ q d) (c : Int32) : Ct Y_X11_menuOf R_X11_menuOf [.ref 338, .int c] μ (.inl (some (.int (itN (fun i a => if pF q 2 i = c then a ||| ((1 : Int32) <<< (nI i &&& 31)) else a) 0 ((pM q)))))) μ := by
  refine Ct.ent yk_X11_menuOf (Nat.le_of_ble_eq_true rfl) ?_
  refine a_iconst (0 : Int32) dX11_menuOf_0 (by decide) ?_
  refine a_istore_n dX11_menuOf_1 (by decide) ?_
  refine a_iconst (0 : Int32) dX11_menuOf_2 (by decide) ?_
  refine a_istore_n dX11_menuOf_3 (by decide) ?_
  refine a_loc [(0, .ref 338), (1, .int c), (2, .int (itN (fun i a => if pF q 2 i = c then a ||| ((1 : Int32) <<< (nI i &&& 31)) else a) 0 0)), (3, .int (nI 0))] rfl ?_
  refine lm_menuOf_ hw hv c ?_ ((pM q)) 0 (by omega)
  refine a_iload_n dX11_menuOf_38 rfl ?_
  exact a_out rfl rfl (a_ireturn dX11_menuOf_39 rfl rfl)
theorem m_menuOf (hw : Wf μ) (hv : MdV μ q d) (c : Int32) : Ct Y_X11_menuOf R_X11_menuOf [.ref 338, .int c] μ (.inl (some (.int (meD q c)))) μ := Ct.int (rfl) (m_menuOf_ hw hv c)
abbrev R_X11_loadedOf : Room := { frames := 1, cells := 0, slots := 0, locals := 21 }
abbrev RX_X11_loadedOf : Room := { frames := 1, cells := 1, slots := 6, locals := 21 }

theorem lm_loadedOf_ (hw : Wf μ) (hv : MdV μ q d) {k : Nat} (hk : k < 12) {o : Oc} {μ1 : Wd} (kx : AW Y_X11_loadedOf R_X11_loadedOf (0, 0) μ 31 [(0, .ref 338), (1, .int (nI k)), (2, .int (itN (fun t a => a + dF d (7 + t) k) 0 (pT q))), (3, .int (nI (pT q)))] [] o μ1) : ∀ dd m, m + dd = (pT q) → AW Y_X11_loadedOf R_X11_loadedOf (0, 0) μ 4 [(0, .ref 338), (1, .int (nI k)), (2, .int (itN (fun t a => a + dF d (7 + t) k) 0 m)), (3, .int (nI m))] [] o μ1 := by
  intro dd
  induction dd with
  | zero =>
    intro m hm
    obtain rfl : (pT q) = m := by omega
    refine a_iload_n dX11_loadedOf_4 rfl ?_
    refine a_aload_n dX11_loadedOf_5 rfl ?_
    refine a_inv (b2 := (0, 0)) (m_trolleys hw hv) rfl dX11_loadedOf_6 yk_X11_trolleys im_X11_trolleys se_X11_trolleys ml_X11_330 rfl (co_338 hw) (by decide) hc_X11 (by decide) (by decide) (Nat.le_of_ble_eq_true rfl) ?_
    refine a_icmp_ge (tgt := 31) dX11_loadedOf_9 (by decide) (fun h9 => ?_) (fun h9 => absurd h9 (fun z => z (nI_le (Nat.le_refl _) (by have := hv.T4; omega))))
    exact a_loc _ rfl kx
  | succ dd ih =>
    intro m hm
    have hM4 := hv.M4
    have hT4 := hv.T4
    have hP4 := hv.P4
    have hU4 := hv.U4
    refine a_iload_n dX11_loadedOf_4 rfl ?_
    refine a_aload_n dX11_loadedOf_5 rfl ?_
    refine a_inv (b2 := (0, 0)) (m_trolleys hw hv) rfl dX11_loadedOf_6 yk_X11_trolleys im_X11_trolleys se_X11_trolleys ml_X11_330 rfl (co_338 hw) (by decide) hc_X11 (by decide) (by decide) (Nat.le_of_ble_eq_true rfl) ?_
    refine a_icmp_ge (tgt := 31) dX11_loadedOf_9 (by decide) (fun h9 => absurd h9 (nI_ge (by omega) (by have := hv.T4; omega))) (fun h9 => ?_)
    refine a_iload_n dX11_loadedOf_12 rfl ?_
    refine a_aload_n dX11_loadedOf_13 rfl ?_
    refine a_getR (cr_338_6 hw) dX11_loadedOf_14 fs_X11_26 rfl (co_338 hw) ?_
    refine a_iload_n dX11_loadedOf_17 rfl ?_
    refine a_iload_n dX11_loadedOf_18 rfl ?_
    refine a_invS (b2 := (0, 0)) (m_unitAt m k) rfl dX11_loadedOf_19 yk_X11_unitAt sm_X11_unitAt ml_X11_333 rfl (by decide) (by decide) (Nat.le_of_ble_eq_true rfl) ?_
    refine a_ild dX11_loadedOf_22 (ca_344 hw) (ixn (by omega) (by decide)) ?_
    rw [hv.un (show m < 8 by omega) hk]
    refine a_iadd dX11_loadedOf_23 ?_
    refine a_istore_n dX11_loadedOf_24 (by decide) ?_
    refine a_iincN dX11_loadedOf_25 rfl (by decide) ?_
    refine a_goto (tgt := 4) dX11_loadedOf_28 (by decide) ?_
    have qih := ih (m + 1) (by omega)
    simp only [itN_succ] at qih
    first | exact a_loc _ rfl qih | (simp_all only [if_true, if_false, not_true_eq_false, not_false_eq_true, ne_eq]; exact a_loc _ rfl qih)
theorem m_loadedOf_ (hw : Wf μ) (hv : MdV μ q d) {k : Nat} (hk : k < 12) : Ct Y_X11_loadedOf R_X11_loadedOf [.ref 338, .int (nI k)] μ (.inl (some (.int (itN (fun t a => a + dF d (7 + t) k) 0 ((pT q)))))) μ := by
  refine Ct.ent yk_X11_loadedOf (Nat.le_of_ble_eq_true rfl) ?_
  refine a_iconst (0 : Int32) dX11_loadedOf_0 (by decide) ?_
  refine a_istore_n dX11_loadedOf_1 (by decide) ?_
  refine a_iconst (0 : Int32) dX11_loadedOf_2 (by decide) ?_
  refine a_istore_n dX11_loadedOf_3 (by decide) ?_
  refine a_loc [(0, .ref 338), (1, .int (nI k)), (2, .int (itN (fun t a => a + dF d (7 + t) k) 0 0)), (3, .int (nI 0))] rfl ?_
  refine lm_loadedOf_ hw hv hk ?_ ((pT q)) 0 (by omega)
  refine a_iload_n dX11_loadedOf_31 rfl ?_
  exact a_out rfl rfl (a_ireturn dX11_loadedOf_32 rfl rfl)
theorem m_loadedOf (hw : Wf μ) (hv : MdV μ q d) {k : Nat} (hk : k < 12) : Ct Y_X11_loadedOf R_X11_loadedOf [.ref 338, .int (nI k)] μ (.inl (some (.int (ldD q d k)))) μ := Ct.int (rfl) (m_loadedOf_ hw hv hk)
abbrev R_X11_unitsIn : Room := { frames := 1, cells := 0, slots := 0, locals := 21 }
abbrev RX_X11_unitsIn : Room := { frames := 1, cells := 1, slots := 6, locals := 21 }

theorem lm_unitsIn_ (hw : Wf μ) (hv : MdV μ q d) {t : Nat} (ht : t < 8) {o : Oc} {μ1 : Wd} (kx : AW Y_X11_unitsIn R_X11_unitsIn (0, 0) μ 31 [(0, .ref 338), (1, .int (nI t)), (2, .int (itN (fun i a => a + dF d (7 + t) i) 0 (pM q))), (3, .int (nI (pM q)))] [] o μ1) : ∀ dd m, m + dd = (pM q) → AW Y_X11_unitsIn R_X11_unitsIn (0, 0) μ 4 [(0, .ref 338), (1, .int (nI t)), (2, .int (itN (fun i a => a + dF d (7 + t) i) 0 m)), (3, .int (nI m))] [] o μ1 := by
  intro dd
  induction dd with
  | zero =>
    intro m hm
    obtain rfl : (pM q) = m := by omega
    refine a_iload_n dX11_unitsIn_4 rfl ?_
    refine a_aload_n dX11_unitsIn_5 rfl ?_
    refine a_inv (b2 := (0, 0)) (m_meals hw hv) rfl dX11_unitsIn_6 yk_X11_meals im_X11_meals se_X11_meals ml_X11_300 rfl (co_338 hw) (by decide) hc_X11 (by decide) (by decide) (Nat.le_of_ble_eq_true rfl) ?_
    refine a_icmp_ge (tgt := 31) dX11_unitsIn_9 (by decide) (fun h9 => ?_) (fun h9 => absurd h9 (fun z => z (nI_le (Nat.le_refl _) (by have := hv.M4; omega))))
    exact a_loc _ rfl kx
  | succ dd ih =>
    intro m hm
    have hM4 := hv.M4
    have hT4 := hv.T4
    have hP4 := hv.P4
    have hU4 := hv.U4
    refine a_iload_n dX11_unitsIn_4 rfl ?_
    refine a_aload_n dX11_unitsIn_5 rfl ?_
    refine a_inv (b2 := (0, 0)) (m_meals hw hv) rfl dX11_unitsIn_6 yk_X11_meals im_X11_meals se_X11_meals ml_X11_300 rfl (co_338 hw) (by decide) hc_X11 (by decide) (by decide) (Nat.le_of_ble_eq_true rfl) ?_
    refine a_icmp_ge (tgt := 31) dX11_unitsIn_9 (by decide) (fun h9 => absurd h9 (nI_ge (by omega) (by have := hv.M4; omega))) (fun h9 => ?_)
    refine a_iload_n dX11_unitsIn_12 rfl ?_
    refine a_aload_n dX11_unitsIn_13 rfl ?_
    refine a_getR (cr_338_6 hw) dX11_unitsIn_14 fs_X11_26 rfl (co_338 hw) ?_
    refine a_iload_n dX11_unitsIn_17 rfl ?_
    refine a_iload_n dX11_unitsIn_18 rfl ?_
    refine a_invS (b2 := (0, 0)) (m_unitAt t m) rfl dX11_unitsIn_19 yk_X11_unitAt sm_X11_unitAt ml_X11_333 rfl (by decide) (by decide) (Nat.le_of_ble_eq_true rfl) ?_
    refine a_ild dX11_unitsIn_22 (ca_344 hw) (ixn (by omega) (by decide)) ?_
    rw [hv.un ht (show m < 12 by omega)]
    refine a_iadd dX11_unitsIn_23 ?_
    refine a_istore_n dX11_unitsIn_24 (by decide) ?_
    refine a_iincN dX11_unitsIn_25 rfl (by decide) ?_
    refine a_goto (tgt := 4) dX11_unitsIn_28 (by decide) ?_
    have qih := ih (m + 1) (by omega)
    simp only [itN_succ] at qih
    first | exact a_loc _ rfl qih | (simp_all only [if_true, if_false, not_true_eq_false, not_false_eq_true, ne_eq]; exact a_loc _ rfl qih)
theorem m_unitsIn_ (hw : Wf μ) (hv : MdV μ q d) {t : Nat} (ht : t < 8) : Ct Y_X11_unitsIn R_X11_unitsIn [.ref 338, .int (nI t)] μ (.inl (some (.int (itN (fun i a => a + dF d (7 + t) i) 0 ((pM q)))))) μ := by
  refine Ct.ent yk_X11_unitsIn (Nat.le_of_ble_eq_true rfl) ?_
  refine a_iconst (0 : Int32) dX11_unitsIn_0 (by decide) ?_
  refine a_istore_n dX11_unitsIn_1 (by decide) ?_
  refine a_iconst (0 : Int32) dX11_unitsIn_2 (by decide) ?_
  refine a_istore_n dX11_unitsIn_3 (by decide) ?_
  refine a_loc [(0, .ref 338), (1, .int (nI t)), (2, .int (itN (fun i a => a + dF d (7 + t) i) 0 0)), (3, .int (nI 0))] rfl ?_
  refine lm_unitsIn_ hw hv ht ?_ ((pM q)) 0 (by omega)
  refine a_iload_n dX11_unitsIn_31 rfl ?_
  exact a_out rfl rfl (a_ireturn dX11_unitsIn_32 rfl rfl)
theorem m_unitsIn (hw : Wf μ) (hv : MdV μ q d) {t : Nat} (ht : t < 8) : Ct Y_X11_unitsIn R_X11_unitsIn [.ref 338, .int (nI t)] μ (.inl (some (.int (uiD q d t)))) μ := Ct.int (rfl) (m_unitsIn_ hw hv ht)
abbrev R_X11_allLoaded : Room := { frames := 2, cells := 0, slots := 0, locals := 44 }
abbrev RX_X11_allLoaded : Room := { frames := 2, cells := 1, slots := 6, locals := 44 }

theorem lm_allLoaded_ (hw : Wf μ) (hv : MdV μ q d)  {o : Oc} {μ1 : Wd} (kx : AW Y_X11_allLoaded R_X11_allLoaded (0, 0) μ 26 [(0, .ref 338), (1, .int (itN (fun k a => a + ldD q d k) 0 (pM q))), (2, .int (nI (pM q)))] [] o μ1) : ∀ dd m, m + dd = (pM q) → AW Y_X11_allLoaded R_X11_allLoaded (0, 0) μ 4 [(0, .ref 338), (1, .int (itN (fun k a => a + ldD q d k) 0 m)), (2, .int (nI m))] [] o μ1 := by
  intro dd
  induction dd with
  | zero =>
    intro m hm
    obtain rfl : (pM q) = m := by omega
    refine a_iload_n dX11_allLoaded_4 rfl ?_
    refine a_aload_n dX11_allLoaded_5 rfl ?_
    refine a_inv (b2 := (0, 0)) (m_meals hw hv) rfl dX11_allLoaded_6 yk_X11_meals im_X11_meals se_X11_meals ml_X11_300 rfl (co_338 hw) (by decide) hc_X11 (by decide) (by decide) (Nat.le_of_ble_eq_true rfl) ?_
    refine a_icmp_ge (tgt := 26) dX11_allLoaded_9 (by decide) (fun h9 => ?_) (fun h9 => absurd h9 (fun z => z (nI_le (Nat.le_refl _) (by have := hv.M4; omega))))
    exact a_loc _ rfl kx
  | succ dd ih =>
    intro m hm
    have hM4 := hv.M4
    have hT4 := hv.T4
    have hP4 := hv.P4
    have hU4 := hv.U4
    refine a_iload_n dX11_allLoaded_4 rfl ?_
    refine a_aload_n dX11_allLoaded_5 rfl ?_
    refine a_inv (b2 := (0, 0)) (m_meals hw hv) rfl dX11_allLoaded_6 yk_X11_meals im_X11_meals se_X11_meals ml_X11_300 rfl (co_338 hw) (by decide) hc_X11 (by decide) (by decide) (Nat.le_of_ble_eq_true rfl) ?_
    refine a_icmp_ge (tgt := 26) dX11_allLoaded_9 (by decide) (fun h9 => absurd h9 (nI_ge (by omega) (by have := hv.M4; omega))) (fun h9 => ?_)
    refine a_iload_n dX11_allLoaded_12 rfl ?_
    refine a_aload_n dX11_allLoaded_13 rfl ?_
    refine a_iload_n dX11_allLoaded_14 rfl ?_
    refine a_inv (b2 := (0, 0)) (m_loadedOf hw hv (show m < 12 by omega)) rfl dX11_allLoaded_15 yk_X11_loadedOf im_X11_loadedOf se_X11_loadedOf ml_X11_336 rfl (co_338 hw) (by decide) hc_X11 (by decide) (by decide) (Nat.le_of_ble_eq_true rfl) ?_
    refine a_iadd dX11_allLoaded_18 ?_
    refine a_istore_n dX11_allLoaded_19 (by decide) ?_
    refine a_iincN dX11_allLoaded_20 rfl (by decide) ?_
    refine a_goto (tgt := 4) dX11_allLoaded_23 (by decide) ?_
    have qih := ih (m + 1) (by omega)
    simp only [itN_succ] at qih
    first | exact a_loc _ rfl qih | (simp_all only [if_true, if_false, not_true_eq_false, not_false_eq_true, ne_eq]; exact a_loc _ rfl qih)
theorem m_allLoaded_ (hw : Wf μ) (hv : MdV μ q d)  : Ct Y_X11_allLoaded R_X11_allLoaded [.ref 338] μ (.inl (some (.int (itN (fun k a => a + ldD q d k) 0 ((pM q)))))) μ := by
  refine Ct.ent yk_X11_allLoaded (Nat.le_of_ble_eq_true rfl) ?_
  refine a_iconst (0 : Int32) dX11_allLoaded_0 (by decide) ?_
  refine a_istore_n dX11_allLoaded_1 (by decide) ?_
  refine a_iconst (0 : Int32) dX11_allLoaded_2 (by decide) ?_
  refine a_istore_n dX11_allLoaded_3 (by decide) ?_
  refine a_loc [(0, .ref 338), (1, .int (itN (fun k a => a + ldD q d k) 0 0)), (2, .int (nI 0))] rfl ?_
  refine lm_allLoaded_ hw hv  ?_ ((pM q)) 0 (by omega)
  refine a_iload_n dX11_allLoaded_26 rfl ?_
  exact a_out rfl rfl (a_ireturn dX11_allLoaded_27 rfl rfl)
theorem m_allLoaded (hw : Wf μ) (hv : MdV μ q d)  : Ct Y_X11_allLoaded R_X11_allLoaded [.ref 338] μ (.inl (some (.int (alD q d)))) μ := Ct.int (alD_m q d) (m_allLoaded_ hw hv )
abbrev R_X11_comingOf : Room := { frames := 0, cells := 0, slots := 0, locals := 0 }
abbrev RX_X11_comingOf : Room := { frames := 0, cells := 1, slots := 6, locals := 0 }

theorem lm_comingOf_ (hw : Wf μ) (hv : MdV μ q d) (c : Int32) {o : Oc} {μ1 : Wd} (kx : AW Y_X11_comingOf R_X11_comingOf (0, 0) μ 57 [(0, .ref 338), (1, .int c), (2, .int (itN (fun i a => if dF d 3 i = c then a + dF d 4 i else a) 0 (dU d))), (3, .int (nI (dU d)))] [] o μ1) : ∀ dd m, m + dd = (dU d) → AW Y_X11_comingOf R_X11_comingOf (0, 0) μ 4 [(0, .ref 338), (1, .int c), (2, .int (itN (fun i a => if dF d 3 i = c then a + dF d 4 i else a) 0 m)), (3, .int (nI m))] [] o μ1 := by
  intro dd
  induction dd with
  | zero =>
    intro m hm
    obtain rfl : (dU d) = m := by omega
    refine a_iload_n dX11_comingOf_4 rfl ?_
    refine a_aload_n dX11_comingOf_5 rfl ?_
    refine a_getR (cr_338_6 hw) dX11_comingOf_6 fs_X11_26 rfl (co_338 hw) ?_
    refine a_iconst (4 : Int32) dX11_comingOf_9 (by decide) ?_
    refine a_ild dX11_comingOf_10 (ca_344 hw) (ixn (m := 4) (by omega) (by decide)) ?_
    rw [hv.s4]
    refine a_icmp_ge (tgt := 57) dX11_comingOf_11 (by decide) (fun h11 => ?_) (fun h11 => absurd h11 (fun z => z (nI_le (Nat.le_refl _) (by have := hv.U4; omega))))
    exact a_loc _ rfl kx
  | succ dd ih =>
    intro m hm
    have hM4 := hv.M4
    have hT4 := hv.T4
    have hP4 := hv.P4
    have hU4 := hv.U4
    refine a_iload_n dX11_comingOf_4 rfl ?_
    refine a_aload_n dX11_comingOf_5 rfl ?_
    refine a_getR (cr_338_6 hw) dX11_comingOf_6 fs_X11_26 rfl (co_338 hw) ?_
    refine a_iconst (4 : Int32) dX11_comingOf_9 (by decide) ?_
    refine a_ild dX11_comingOf_10 (ca_344 hw) (ixn (m := 4) (by omega) (by decide)) ?_
    rw [hv.s4]
    refine a_icmp_ge (tgt := 57) dX11_comingOf_11 (by decide) (fun h11 => absurd h11 (nI_ge (by omega) (by have := hv.U4; omega))) (fun h11 => ?_)
    refine a_aload_n dX11_comingOf_14 rfl ?_
    refine a_getR (cr_338_6 hw) dX11_comingOf_15 fs_X11_26 rfl (co_338 hw) ?_
    refine a_sipush (261 : Int32) dX11_comingOf_18 (by decide) ?_
    refine a_iconst (3 : Int32) dX11_comingOf_21 (by decide) ?_
    refine a_iload_n dX11_comingOf_22 rfl ?_
    refine a_imul dX11_comingOf_23 ?_
    refine a_iadd dX11_comingOf_24 ?_
    rw [ixb]
    refine a_ild dX11_comingOf_25 (ca_344 hw) (ixn (by omega) (by decide)) ?_
    rw [hv.tm (show m < dU d by omega)]
    refine a_iload_n dX11_comingOf_26 rfl ?_
    refine a_icmp_ne (tgt := 49) dX11_comingOf_27 (by decide) (fun h27 => ?_) (fun h27 => ?_)
    · refine a_iload_n dX11_comingOf_49 rfl ?_
      refine a_istore_n dX11_comingOf_50 (by decide) ?_
      refine a_iincN dX11_comingOf_51 rfl (by decide) ?_
      refine a_goto (tgt := 4) dX11_comingOf_54 (by decide) ?_
      have qih := ih (m + 1) (by omega)
      simp only [itN_succ] at qih
      first | exact a_loc _ rfl qih | (simp_all only [if_true, if_false, not_true_eq_false, not_false_eq_true, ne_eq]; exact a_loc _ rfl qih)
    · refine a_iload_n dX11_comingOf_30 rfl ?_
      refine a_aload_n dX11_comingOf_31 rfl ?_
      refine a_getR (cr_338_6 hw) dX11_comingOf_32 fs_X11_26 rfl (co_338 hw) ?_
      refine a_sipush (261 : Int32) dX11_comingOf_35 (by decide) ?_
      refine a_iconst (3 : Int32) dX11_comingOf_38 (by decide) ?_
      refine a_iload_n dX11_comingOf_39 rfl ?_
      refine a_imul dX11_comingOf_40 ?_
      refine a_iadd dX11_comingOf_41 ?_
      refine a_iconst (1 : Int32) dX11_comingOf_42 (by decide) ?_
      refine a_iadd dX11_comingOf_43 ?_
      rw [ixb, nI_1]
      refine a_ild dX11_comingOf_44 (ca_344 hw) (ixn (by omega) (by decide)) ?_
      rw [hv.tu (show m < dU d by omega)]
      refine a_iadd dX11_comingOf_45 ?_
      refine a_goto (tgt := 50) dX11_comingOf_46 (by decide) ?_
      refine a_istore_n dX11_comingOf_50 (by decide) ?_
      refine a_iincN dX11_comingOf_51 rfl (by decide) ?_
      refine a_goto (tgt := 4) dX11_comingOf_54 (by decide) ?_
      have qih := ih (m + 1) (by omega)
      simp only [itN_succ] at qih
      first | exact a_loc _ rfl qih | (simp_all only [if_true, if_false, not_true_eq_false, not_false_eq_true, ne_eq]; exact a_loc _ rfl qih)
theorem m_comingOf_ (hw : Wf μ) (hv : MdV μ q d) (c : Int32) : Ct Y_X11_comingOf R_X11_comingOf [.ref 338, .int c] μ (.inl (some (.int (itN (fun i a => if dF d 3 i = c then a + dF d 4 i else a) 0 ((dU d)))))) μ := by
  refine Ct.ent yk_X11_comingOf (Nat.le_of_ble_eq_true rfl) ?_
  refine a_iconst (0 : Int32) dX11_comingOf_0 (by decide) ?_
  refine a_istore_n dX11_comingOf_1 (by decide) ?_
  refine a_iconst (0 : Int32) dX11_comingOf_2 (by decide) ?_
  refine a_istore_n dX11_comingOf_3 (by decide) ?_
  refine a_loc [(0, .ref 338), (1, .int c), (2, .int (itN (fun i a => if dF d 3 i = c then a + dF d 4 i else a) 0 0)), (3, .int (nI 0))] rfl ?_
  refine lm_comingOf_ hw hv c ?_ ((dU d)) 0 (by omega)
  refine a_iload_n dX11_comingOf_57 rfl ?_
  exact a_out rfl rfl (a_ireturn dX11_comingOf_58 rfl rfl)
theorem m_comingOf (hw : Wf μ) (hv : MdV μ q d) (c : Int32) : Ct Y_X11_comingOf R_X11_comingOf [.ref 338, .int c] μ (.inl (some (.int (owD d c)))) μ := Ct.int (rfl) (m_comingOf_ hw hv c)
abbrev R_X11_freeOf : Room := { frames := 1, cells := 0, slots := 0, locals := 22 }
abbrev RX_X11_freeOf : Room := { frames := 1, cells := 1, slots := 6, locals := 22 }

theorem lm_freeOf_ (hw : Wf μ) (hv : MdV μ q d) {t : Nat} (ht : t < pT q) {o : Oc} {μ1 : Wd} (kx : AW Y_X11_freeOf R_X11_freeOf (0, 0) μ 43 [(0, .ref 338), (1, .int (nI t)), (2, .int (itN (fun i a => a - dF d (7 + t) i * pF q 4 i) (pF q 8 t) (pM q))), (3, .int (nI (pM q)))] [] o μ1) : ∀ dd m, m + dd = (pM q) → AW Y_X11_freeOf R_X11_freeOf (0, 0) μ 9 [(0, .ref 338), (1, .int (nI t)), (2, .int (itN (fun i a => a - dF d (7 + t) i * pF q 4 i) (pF q 8 t) m)), (3, .int (nI m))] [] o μ1 := by
  intro dd
  induction dd with
  | zero =>
    intro m hm
    obtain rfl : (pM q) = m := by omega
    refine a_iload_n dX11_freeOf_9 rfl ?_
    refine a_aload_n dX11_freeOf_10 rfl ?_
    refine a_inv (b2 := (0, 0)) (m_meals hw hv) rfl dX11_freeOf_11 yk_X11_meals im_X11_meals se_X11_meals ml_X11_300 rfl (co_338 hw) (by decide) hc_X11 (by decide) (by decide) (Nat.le_of_ble_eq_true rfl) ?_
    refine a_icmp_ge (tgt := 43) dX11_freeOf_14 (by decide) (fun h14 => ?_) (fun h14 => absurd h14 (fun z => z (nI_le (Nat.le_refl _) (by have := hv.M4; omega))))
    exact a_loc _ rfl kx
  | succ dd ih =>
    intro m hm
    have hM4 := hv.M4
    have hT4 := hv.T4
    have hP4 := hv.P4
    have hU4 := hv.U4
    refine a_iload_n dX11_freeOf_9 rfl ?_
    refine a_aload_n dX11_freeOf_10 rfl ?_
    refine a_inv (b2 := (0, 0)) (m_meals hw hv) rfl dX11_freeOf_11 yk_X11_meals im_X11_meals se_X11_meals ml_X11_300 rfl (co_338 hw) (by decide) hc_X11 (by decide) (by decide) (Nat.le_of_ble_eq_true rfl) ?_
    refine a_icmp_ge (tgt := 43) dX11_freeOf_14 (by decide) (fun h14 => absurd h14 (nI_ge (by omega) (by have := hv.M4; omega))) (fun h14 => ?_)
    refine a_iload_n dX11_freeOf_17 rfl ?_
    refine a_aload_n dX11_freeOf_18 rfl ?_
    refine a_getR (cr_338_6 hw) dX11_freeOf_19 fs_X11_26 rfl (co_338 hw) ?_
    refine a_iload_n dX11_freeOf_22 rfl ?_
    refine a_iload_n dX11_freeOf_23 rfl ?_
    refine a_invS (b2 := (0, 0)) (m_unitAt t m) rfl dX11_freeOf_24 yk_X11_unitAt sm_X11_unitAt ml_X11_333 rfl (by decide) (by decide) (Nat.le_of_ble_eq_true rfl) ?_
    refine a_ild dX11_freeOf_27 (ca_344 hw) (ixn (by omega) (by decide)) ?_
    rw [hv.un (show t < 8 by omega) (show m < 12 by omega)]
    refine a_aload_n dX11_freeOf_28 rfl ?_
    refine a_iload_n dX11_freeOf_29 rfl ?_
    refine a_iconst (2 : Int32) dX11_freeOf_30 (by decide) ?_
    refine a_inv (b2 := (0, 0)) (m_ofMeal2 hw hv (show m < pM q by omega)) rfl dX11_freeOf_31 yk_X11_ofMeal im_X11_ofMeal se_X11_ofMeal ml_X11_297 rfl (co_338 hw) (by decide) hc_X11 (by decide) (by decide) (Nat.le_of_ble_eq_true rfl) ?_
    refine a_imul dX11_freeOf_34 ?_
    refine a_isub dX11_freeOf_35 ?_
    refine a_istore_n dX11_freeOf_36 (by decide) ?_
    refine a_iincN dX11_freeOf_37 rfl (by decide) ?_
    refine a_goto (tgt := 9) dX11_freeOf_40 (by decide) ?_
    have qih := ih (m + 1) (by omega)
    simp only [itN_succ] at qih
    first | exact a_loc _ rfl qih | (simp_all only [if_true, if_false, not_true_eq_false, not_false_eq_true, ne_eq]; exact a_loc _ rfl qih)
theorem m_freeOf_ (hw : Wf μ) (hv : MdV μ q d) {t : Nat} (ht : t < pT q) : Ct Y_X11_freeOf R_X11_freeOf [.ref 338, .int (nI t)] μ (.inl (some (.int (itN (fun i a => a - dF d (7 + t) i * pF q 4 i) (pF q 8 t) ((pM q)))))) μ := by
  refine Ct.ent yk_X11_freeOf (Nat.le_of_ble_eq_true rfl) ?_
  refine a_aload_n dX11_freeOf_0 rfl ?_
  refine a_iload_n dX11_freeOf_1 rfl ?_
  refine a_iconst (1 : Int32) dX11_freeOf_2 (by decide) ?_
  refine a_inv (b2 := (0, 0)) (m_ofTrolley1 hw hv ht) rfl dX11_freeOf_3 yk_X11_ofTrolley im_X11_ofTrolley se_X11_ofTrolley ml_X11_342 rfl (co_338 hw) (by decide) hc_X11 (by decide) (by decide) (Nat.le_of_ble_eq_true rfl) ?_
  refine a_istore_n dX11_freeOf_6 (by decide) ?_
  refine a_iconst (0 : Int32) dX11_freeOf_7 (by decide) ?_
  refine a_istore_n dX11_freeOf_8 (by decide) ?_
  refine a_loc [(0, .ref 338), (1, .int (nI t)), (2, .int (itN (fun i a => a - dF d (7 + t) i * pF q 4 i) (pF q 8 t) 0)), (3, .int (nI 0))] rfl ?_
  refine lm_freeOf_ hw hv ht ?_ ((pM q)) 0 (by omega)
  refine a_iload_n dX11_freeOf_43 rfl ?_
  exact a_out rfl rfl (a_ireturn dX11_freeOf_44 rfl rfl)
theorem m_freeOf (hw : Wf μ) (hv : MdV μ q d) {t : Nat} (ht : t < pT q) : Ct Y_X11_freeOf R_X11_freeOf [.ref 338, .int (nI t)] μ (.inl (some (.int (fsD q d t)))) μ := Ct.int (rfl) (m_freeOf_ hw hv ht)
abbrev R_X11_takesMeal : Room := { frames := 1, cells := 0, slots := 0, locals := 22 }
abbrev RX_X11_takesMeal : Room := { frames := 1, cells := 1, slots := 6, locals := 22 }

theorem m_takesMeal (hw : Wf μ) (hv : MdV μ q d) {t m : Nat} (ht : t < pT q) (hm : m < pM q) : Ct Y_X11_takesMeal R_X11_takesMeal [.ref 338, .int (nI t), .int (nI m)] μ (.inl (some (.int (adI (pF q 2 m) (pF q 7 t))))) μ := by
  refine Ct.ent yk_X11_takesMeal (Nat.le_of_ble_eq_true rfl) ?_
  refine a_aload_n dX11_takesMeal_0 rfl ?_
  refine a_iload_n dX11_takesMeal_1 rfl ?_
  refine a_iconst (0 : Int32) dX11_takesMeal_2 (by decide) ?_
  refine a_inv (b2 := (0, 0)) (m_ofMeal0 hw hv hm) rfl dX11_takesMeal_3 yk_X11_ofMeal im_X11_ofMeal se_X11_ofMeal ml_X11_297 rfl (co_338 hw) (by decide) hc_X11 (by decide) (by decide) (Nat.le_of_ble_eq_true rfl) ?_
  refine a_istore_n dX11_takesMeal_6 (by decide) ?_
  refine a_iload_n dX11_takesMeal_7 rfl ?_
  refine a_iconst (-1 : Int32) dX11_takesMeal_8 (by decide) ?_
  refine a_icmp_eq (tgt := 22) dX11_takesMeal_9 (by decide) (fun h9 => ?_) (fun h9 => ?_)
  · refine a_iconst (1 : Int32) dX11_takesMeal_22 (by decide) ?_
    refine a_goto (tgt := 27) dX11_takesMeal_23 (by decide) ?_
    exact a_out (by simp_all [adI]) rfl (a_ireturn dX11_takesMeal_27 rfl rfl)
  · refine a_iload_n dX11_takesMeal_12 rfl ?_
    refine a_aload_n dX11_takesMeal_13 rfl ?_
    refine a_iload_n dX11_takesMeal_14 rfl ?_
    refine a_iconst (0 : Int32) dX11_takesMeal_15 (by decide) ?_
    refine a_inv (b2 := (0, 0)) (m_ofTrolley0 hw hv ht) rfl dX11_takesMeal_16 yk_X11_ofTrolley im_X11_ofTrolley se_X11_ofTrolley ml_X11_342 rfl (co_338 hw) (by decide) hc_X11 (by decide) (by decide) (Nat.le_of_ble_eq_true rfl) ?_
    refine a_icmp_ne (tgt := 26) dX11_takesMeal_19 (by decide) (fun h19 => ?_) (fun h19 => ?_)
    · refine a_iconst (0 : Int32) dX11_takesMeal_26 (by decide) ?_
      exact a_out (by simp_all [adI]) rfl (a_ireturn dX11_takesMeal_27 rfl rfl)
    · refine a_iconst (1 : Int32) dX11_takesMeal_22 (by decide) ?_
      refine a_goto (tgt := 27) dX11_takesMeal_23 (by decide) ?_
      exact a_out (by simp_all [adI]) rfl (a_ireturn dX11_takesMeal_27 rfl rfl)
abbrev R_X11_passengersIn : Room := { frames := 3, cells := 0, slots := 0, locals := 64 }
abbrev RX_X11_passengersIn : Room := { frames := 3, cells := 1, slots := 6, locals := 64 }

theorem lm_passengersIn0_ (hw : Wf μ) (hv : MdV μ q d) (c : Int32) {o : Oc} {μ1 : Wd} (kx : AW Y_X11_passengersIn R_X11_passengersIn (0, 0) μ 54 [(0, .ref 338), (1, .int c), (2, .int 0), (3, .int (itN (fun i a => if dF d 0 i = c then a + 1 else a) 0 (dP d))), (4, .int (nI (dP d)))] [] o μ1) : ∀ dd m, m + dd = (dP d) → AW Y_X11_passengersIn R_X11_passengersIn (0, 0) μ 5 [(0, .ref 338), (1, .int c), (2, .int 0), (3, .int (itN (fun i a => if dF d 0 i = c then a + 1 else a) 0 m)), (4, .int (nI m))] [] o μ1 := by
  intro dd
  induction dd with
  | zero =>
    intro m hm
    obtain rfl : (dP d) = m := by omega
    refine a_iload dX11_passengersIn_5 rfl ?_
    refine a_aload_n dX11_passengersIn_7 rfl ?_
    refine a_getR (cr_338_6 hw) dX11_passengersIn_8 fs_X11_26 rfl (co_338 hw) ?_
    refine a_iconst (3 : Int32) dX11_passengersIn_11 (by decide) ?_
    refine a_ild dX11_passengersIn_12 (ca_344 hw) (ixn (m := 3) (by omega) (by decide)) ?_
    rw [hv.s3]
    refine a_icmp_ge (tgt := 54) dX11_passengersIn_13 (by decide) (fun h13 => ?_) (fun h13 => absurd h13 (fun z => z (nI_le (Nat.le_refl _) (by have := hv.P4; omega))))
    exact a_loc _ rfl kx
  | succ dd ih =>
    intro m hm
    have hM4 := hv.M4
    have hT4 := hv.T4
    have hP4 := hv.P4
    have hU4 := hv.U4
    refine a_iload dX11_passengersIn_5 rfl ?_
    refine a_aload_n dX11_passengersIn_7 rfl ?_
    refine a_getR (cr_338_6 hw) dX11_passengersIn_8 fs_X11_26 rfl (co_338 hw) ?_
    refine a_iconst (3 : Int32) dX11_passengersIn_11 (by decide) ?_
    refine a_ild dX11_passengersIn_12 (ca_344 hw) (ixn (m := 3) (by omega) (by decide)) ?_
    rw [hv.s3]
    refine a_icmp_ge (tgt := 54) dX11_passengersIn_13 (by decide) (fun h13 => absurd h13 (nI_ge (by omega) (by have := hv.P4; omega))) (fun h13 => ?_)
    refine a_aload_n dX11_passengersIn_16 rfl ?_
    refine a_iload dX11_passengersIn_17 rfl ?_
    refine a_iconst (0 : Int32) dX11_passengersIn_19 (by decide) ?_
    refine a_inv (b2 := (0, 0)) (m_of0 hw hv (show m < dP d by omega)) rfl dX11_passengersIn_20 yk_X11_of im_X11_of se_X11_of ml_X11_294 rfl (co_338 hw) (by decide) hc_X11 (by decide) (by decide) (Nat.le_of_ble_eq_true rfl) ?_
    refine a_iload_n dX11_passengersIn_23 rfl ?_
    refine a_icmp_ne (tgt := 46) dX11_passengersIn_24 (by decide) (fun h24 => ?_) (fun h24 => ?_)
    · refine a_iload_n dX11_passengersIn_46 rfl ?_
      refine a_istore_n dX11_passengersIn_47 (by decide) ?_
      refine a_iincN dX11_passengersIn_48 rfl (by decide) ?_
      refine a_goto (tgt := 5) dX11_passengersIn_51 (by decide) ?_
      have qih := ih (m + 1) (by omega)
      simp only [itN_succ] at qih
      first | exact a_loc _ rfl qih | (simp_all only [if_true, if_false, not_true_eq_false, not_false_eq_true, ne_eq]; exact a_loc _ rfl qih)
    · refine a_iload_n dX11_passengersIn_27 rfl ?_
      refine a_if_eq (tgt := 40) dX11_passengersIn_28 (by decide) (fun h28 => ?_) (fun h28 => absurd h28 (fun z => z rfl))
      refine a_iload_n dX11_passengersIn_40 rfl ?_
      refine a_iconst (1 : Int32) dX11_passengersIn_41 (by decide) ?_
      refine a_iadd dX11_passengersIn_42 ?_
      refine a_goto (tgt := 47) dX11_passengersIn_43 (by decide) ?_
      refine a_istore_n dX11_passengersIn_47 (by decide) ?_
      refine a_iincN dX11_passengersIn_48 rfl (by decide) ?_
      refine a_goto (tgt := 5) dX11_passengersIn_51 (by decide) ?_
      have qih := ih (m + 1) (by omega)
      simp only [itN_succ] at qih
      first | exact a_loc _ rfl qih | (simp_all only [if_true, if_false, not_true_eq_false, not_false_eq_true, ne_eq]; exact a_loc _ rfl qih)
theorem m_passengersIn0_ (hw : Wf μ) (hv : MdV μ q d) (c : Int32) : Ct Y_X11_passengersIn R_X11_passengersIn [.ref 338, .int c, .int 0] μ (.inl (some (.int (itN (fun i a => if dF d 0 i = c then a + 1 else a) 0 ((dP d)))))) μ := by
  refine Ct.ent yk_X11_passengersIn (Nat.le_of_ble_eq_true rfl) ?_
  refine a_iconst (0 : Int32) dX11_passengersIn_0 (by decide) ?_
  refine a_istore_n dX11_passengersIn_1 (by decide) ?_
  refine a_iconst (0 : Int32) dX11_passengersIn_2 (by decide) ?_
  refine a_istore dX11_passengersIn_3 (by decide) ?_
  refine a_loc [(0, .ref 338), (1, .int c), (2, .int 0), (3, .int (itN (fun i a => if dF d 0 i = c then a + 1 else a) 0 0)), (4, .int (nI 0))] rfl ?_
  refine lm_passengersIn0_ hw hv c ?_ ((dP d)) 0 (by omega)
  refine a_iload_n dX11_passengersIn_54 rfl ?_
  exact a_out rfl rfl (a_ireturn dX11_passengersIn_55 rfl rfl)
theorem m_passengersIn0 (hw : Wf μ) (hv : MdV μ q d) (c : Int32) : Ct Y_X11_passengersIn R_X11_passengersIn [.ref 338, .int c, .int 0] μ (.inl (some (.int (paD d c)))) μ := Ct.int (rfl) (m_passengersIn0_ hw hv c)
abbrev R_X11_trolleysOf : Room := { frames := 2, cells := 0, slots := 0, locals := 45 }
abbrev RX_X11_trolleysOf : Room := { frames := 2, cells := 1, slots := 6, locals := 45 }

theorem lm_trolleysOf0_ (hw : Wf μ) (hv : MdV μ q d) (c : Int32) {o : Oc} {μ1 : Wd} (kx : AW Y_X11_trolleysOf R_X11_trolleysOf (0, 0) μ 50 [(0, .ref 338), (1, .int c), (2, .int 0), (3, .int (itN (fun i a => if pF q 7 i = c then a + 1 else a) 0 (pT q))), (4, .int (nI (pT q)))] [] o μ1) : ∀ dd m, m + dd = (pT q) → AW Y_X11_trolleysOf R_X11_trolleysOf (0, 0) μ 5 [(0, .ref 338), (1, .int c), (2, .int 0), (3, .int (itN (fun i a => if pF q 7 i = c then a + 1 else a) 0 m)), (4, .int (nI m))] [] o μ1 := by
  intro dd
  induction dd with
  | zero =>
    intro m hm
    obtain rfl : (pT q) = m := by omega
    refine a_iload dX11_trolleysOf_5 rfl ?_
    refine a_aload_n dX11_trolleysOf_7 rfl ?_
    refine a_inv (b2 := (0, 0)) (m_trolleys hw hv) rfl dX11_trolleysOf_8 yk_X11_trolleys im_X11_trolleys se_X11_trolleys ml_X11_330 rfl (co_338 hw) (by decide) hc_X11 (by decide) (by decide) (Nat.le_of_ble_eq_true rfl) ?_
    refine a_icmp_ge (tgt := 50) dX11_trolleysOf_11 (by decide) (fun h11 => ?_) (fun h11 => absurd h11 (fun z => z (nI_le (Nat.le_refl _) (by have := hv.T4; omega))))
    exact a_loc _ rfl kx
  | succ dd ih =>
    intro m hm
    have hM4 := hv.M4
    have hT4 := hv.T4
    have hP4 := hv.P4
    have hU4 := hv.U4
    refine a_iload dX11_trolleysOf_5 rfl ?_
    refine a_aload_n dX11_trolleysOf_7 rfl ?_
    refine a_inv (b2 := (0, 0)) (m_trolleys hw hv) rfl dX11_trolleysOf_8 yk_X11_trolleys im_X11_trolleys se_X11_trolleys ml_X11_330 rfl (co_338 hw) (by decide) hc_X11 (by decide) (by decide) (Nat.le_of_ble_eq_true rfl) ?_
    refine a_icmp_ge (tgt := 50) dX11_trolleysOf_11 (by decide) (fun h11 => absurd h11 (nI_ge (by omega) (by have := hv.T4; omega))) (fun h11 => ?_)
    refine a_aload_n dX11_trolleysOf_14 rfl ?_
    refine a_iload dX11_trolleysOf_15 rfl ?_
    refine a_iconst (0 : Int32) dX11_trolleysOf_17 (by decide) ?_
    refine a_inv (b2 := (0, 0)) (m_ofTrolley0 hw hv (show m < pT q by omega)) rfl dX11_trolleysOf_18 yk_X11_ofTrolley im_X11_ofTrolley se_X11_ofTrolley ml_X11_342 rfl (co_338 hw) (by decide) hc_X11 (by decide) (by decide) (Nat.le_of_ble_eq_true rfl) ?_
    refine a_iload_n dX11_trolleysOf_21 rfl ?_
    refine a_icmp_ne (tgt := 44) dX11_trolleysOf_22 (by decide) (fun h22 => ?_) (fun h22 => ?_)
    · refine a_iincN dX11_trolleysOf_44 rfl (by decide) ?_
      refine a_goto (tgt := 5) dX11_trolleysOf_47 (by decide) ?_
      have qih := ih (m + 1) (by omega)
      simp only [itN_succ] at qih
      first | exact a_loc _ rfl qih | (simp_all only [if_true, if_false, not_true_eq_false, not_false_eq_true, ne_eq]; exact a_loc _ rfl qih)
    · refine a_iload_n dX11_trolleysOf_25 rfl ?_
      refine a_if_eq (tgt := 40) dX11_trolleysOf_26 (by decide) (fun h26 => ?_) (fun h26 => absurd h26 (fun z => z rfl))
      refine a_iload_n dX11_trolleysOf_40 rfl ?_
      refine a_iconst (1 : Int32) dX11_trolleysOf_41 (by decide) ?_
      refine a_iadd dX11_trolleysOf_42 ?_
      refine a_istore_n dX11_trolleysOf_43 (by decide) ?_
      refine a_iincN dX11_trolleysOf_44 rfl (by decide) ?_
      refine a_goto (tgt := 5) dX11_trolleysOf_47 (by decide) ?_
      have qih := ih (m + 1) (by omega)
      simp only [itN_succ] at qih
      first | exact a_loc _ rfl qih | (simp_all only [if_true, if_false, not_true_eq_false, not_false_eq_true, ne_eq]; exact a_loc _ rfl qih)
theorem m_trolleysOf0_ (hw : Wf μ) (hv : MdV μ q d) (c : Int32) : Ct Y_X11_trolleysOf R_X11_trolleysOf [.ref 338, .int c, .int 0] μ (.inl (some (.int (itN (fun i a => if pF q 7 i = c then a + 1 else a) 0 ((pT q)))))) μ := by
  refine Ct.ent yk_X11_trolleysOf (Nat.le_of_ble_eq_true rfl) ?_
  refine a_iconst (0 : Int32) dX11_trolleysOf_0 (by decide) ?_
  refine a_istore_n dX11_trolleysOf_1 (by decide) ?_
  refine a_iconst (0 : Int32) dX11_trolleysOf_2 (by decide) ?_
  refine a_istore dX11_trolleysOf_3 (by decide) ?_
  refine a_loc [(0, .ref 338), (1, .int c), (2, .int 0), (3, .int (itN (fun i a => if pF q 7 i = c then a + 1 else a) 0 0)), (4, .int (nI 0))] rfl ?_
  refine lm_trolleysOf0_ hw hv c ?_ ((pT q)) 0 (by omega)
  refine a_iload_n dX11_trolleysOf_50 rfl ?_
  exact a_out rfl rfl (a_ireturn dX11_trolleysOf_51 rfl rfl)
theorem m_trolleysOf0 (hw : Wf μ) (hv : MdV μ q d) (c : Int32) : Ct Y_X11_trolleysOf R_X11_trolleysOf [.ref 338, .int c, .int 0] μ (.inl (some (.int (trD q c)))) μ := Ct.int (rfl) (m_trolleysOf0_ hw hv c)

theorem lm_passengersIn1_ (hw : Wf μ) (hv : MdV μ q d) (c : Int32) {o : Oc} {μ1 : Wd} (kx : AW Y_X11_passengersIn R_X11_passengersIn (0, 0) μ 54 [(0, .ref 338), (1, .int c), (2, .int 1), (3, .int (itN (fun i a => if dF d 0 i = c then (if dF d 1 i = 0 then a else a + 1) else a) 0 (dP d))), (4, .int (nI (dP d)))] [] o μ1) : ∀ dd m, m + dd = (dP d) → AW Y_X11_passengersIn R_X11_passengersIn (0, 0) μ 5 [(0, .ref 338), (1, .int c), (2, .int 1), (3, .int (itN (fun i a => if dF d 0 i = c then (if dF d 1 i = 0 then a else a + 1) else a) 0 m)), (4, .int (nI m))] [] o μ1 := by
  intro dd
  induction dd with
  | zero =>
    intro m hm
    obtain rfl : (dP d) = m := by omega
    refine a_iload dX11_passengersIn_5 rfl ?_
    refine a_aload_n dX11_passengersIn_7 rfl ?_
    refine a_getR (cr_338_6 hw) dX11_passengersIn_8 fs_X11_26 rfl (co_338 hw) ?_
    refine a_iconst (3 : Int32) dX11_passengersIn_11 (by decide) ?_
    refine a_ild dX11_passengersIn_12 (ca_344 hw) (ixn (m := 3) (by omega) (by decide)) ?_
    rw [hv.s3]
    refine a_icmp_ge (tgt := 54) dX11_passengersIn_13 (by decide) (fun h13 => ?_) (fun h13 => absurd h13 (fun z => z (nI_le (Nat.le_refl _) (by have := hv.P4; omega))))
    exact a_loc _ rfl kx
  | succ dd ih =>
    intro m hm
    have hM4 := hv.M4
    have hT4 := hv.T4
    have hP4 := hv.P4
    have hU4 := hv.U4
    refine a_iload dX11_passengersIn_5 rfl ?_
    refine a_aload_n dX11_passengersIn_7 rfl ?_
    refine a_getR (cr_338_6 hw) dX11_passengersIn_8 fs_X11_26 rfl (co_338 hw) ?_
    refine a_iconst (3 : Int32) dX11_passengersIn_11 (by decide) ?_
    refine a_ild dX11_passengersIn_12 (ca_344 hw) (ixn (m := 3) (by omega) (by decide)) ?_
    rw [hv.s3]
    refine a_icmp_ge (tgt := 54) dX11_passengersIn_13 (by decide) (fun h13 => absurd h13 (nI_ge (by omega) (by have := hv.P4; omega))) (fun h13 => ?_)
    refine a_aload_n dX11_passengersIn_16 rfl ?_
    refine a_iload dX11_passengersIn_17 rfl ?_
    refine a_iconst (0 : Int32) dX11_passengersIn_19 (by decide) ?_
    refine a_inv (b2 := (0, 0)) (m_of0 hw hv (show m < dP d by omega)) rfl dX11_passengersIn_20 yk_X11_of im_X11_of se_X11_of ml_X11_294 rfl (co_338 hw) (by decide) hc_X11 (by decide) (by decide) (Nat.le_of_ble_eq_true rfl) ?_
    refine a_iload_n dX11_passengersIn_23 rfl ?_
    refine a_icmp_ne (tgt := 46) dX11_passengersIn_24 (by decide) (fun h24 => ?_) (fun h24 => ?_)
    · refine a_iload_n dX11_passengersIn_46 rfl ?_
      refine a_istore_n dX11_passengersIn_47 (by decide) ?_
      refine a_iincN dX11_passengersIn_48 rfl (by decide) ?_
      refine a_goto (tgt := 5) dX11_passengersIn_51 (by decide) ?_
      have qih := ih (m + 1) (by omega)
      simp only [itN_succ] at qih
      first | exact a_loc _ rfl qih | (simp_all only [if_true, if_false, not_true_eq_false, not_false_eq_true, ne_eq]; exact a_loc _ rfl qih)
    · refine a_iload_n dX11_passengersIn_27 rfl ?_
      refine a_if_eq (tgt := 40) dX11_passengersIn_28 (by decide) (fun h28 => absurd h28 (by decide)) (fun h28 => ?_)
      refine a_aload_n dX11_passengersIn_31 rfl ?_
      refine a_iload dX11_passengersIn_32 rfl ?_
      refine a_inv (b2 := (0, 0)) (m_isSpecial hw hv (show m < dP d by omega)) rfl dX11_passengersIn_34 yk_X11_isSpecial im_X11_isSpecial se_X11_isSpecial ml_X11_306 rfl (co_338 hw) (by decide) hc_X11 (by decide) (by decide) (Nat.le_of_ble_eq_true rfl) ?_
      refine a_if_eq (tgt := 46) dX11_passengersIn_37 (by decide) (fun h37 => ?_) (fun h37 => ?_)
      · have h37 := b10t.mp h37
        refine a_iload_n dX11_passengersIn_46 rfl ?_
        refine a_istore_n dX11_passengersIn_47 (by decide) ?_
        refine a_iincN dX11_passengersIn_48 rfl (by decide) ?_
        refine a_goto (tgt := 5) dX11_passengersIn_51 (by decide) ?_
        have qih := ih (m + 1) (by omega)
        simp only [itN_succ] at qih
        first | exact a_loc _ rfl qih | (simp_all only [if_true, if_false, not_true_eq_false, not_false_eq_true, ne_eq]; exact a_loc _ rfl qih)
      · have h37 := b10f.mp h37
        refine a_iload_n dX11_passengersIn_40 rfl ?_
        refine a_iconst (1 : Int32) dX11_passengersIn_41 (by decide) ?_
        refine a_iadd dX11_passengersIn_42 ?_
        refine a_goto (tgt := 47) dX11_passengersIn_43 (by decide) ?_
        refine a_istore_n dX11_passengersIn_47 (by decide) ?_
        refine a_iincN dX11_passengersIn_48 rfl (by decide) ?_
        refine a_goto (tgt := 5) dX11_passengersIn_51 (by decide) ?_
        have qih := ih (m + 1) (by omega)
        simp only [itN_succ] at qih
        first | exact a_loc _ rfl qih | (simp_all only [if_true, if_false, not_true_eq_false, not_false_eq_true, ne_eq]; exact a_loc _ rfl qih)
theorem m_passengersIn1_ (hw : Wf μ) (hv : MdV μ q d) (c : Int32) : Ct Y_X11_passengersIn R_X11_passengersIn [.ref 338, .int c, .int 1] μ (.inl (some (.int (itN (fun i a => if dF d 0 i = c then (if dF d 1 i = 0 then a else a + 1) else a) 0 ((dP d)))))) μ := by
  refine Ct.ent yk_X11_passengersIn (Nat.le_of_ble_eq_true rfl) ?_
  refine a_iconst (0 : Int32) dX11_passengersIn_0 (by decide) ?_
  refine a_istore_n dX11_passengersIn_1 (by decide) ?_
  refine a_iconst (0 : Int32) dX11_passengersIn_2 (by decide) ?_
  refine a_istore dX11_passengersIn_3 (by decide) ?_
  refine a_loc [(0, .ref 338), (1, .int c), (2, .int 1), (3, .int (itN (fun i a => if dF d 0 i = c then (if dF d 1 i = 0 then a else a + 1) else a) 0 0)), (4, .int (nI 0))] rfl ?_
  refine lm_passengersIn1_ hw hv c ?_ ((dP d)) 0 (by omega)
  refine a_iload_n dX11_passengersIn_54 rfl ?_
  exact a_out rfl rfl (a_ireturn dX11_passengersIn_55 rfl rfl)
theorem m_passengersIn1 (hw : Wf μ) (hv : MdV μ q d) (c : Int32) : Ct Y_X11_passengersIn R_X11_passengersIn [.ref 338, .int c, .int 1] μ (.inl (some (.int (spD d c)))) μ := Ct.int (rfl) (m_passengersIn1_ hw hv c)

theorem lm_trolleysOf1_ (hw : Wf μ) (hv : MdV μ q d) (c : Int32) {o : Oc} {μ1 : Wd} (kx : AW Y_X11_trolleysOf R_X11_trolleysOf (0, 0) μ 50 [(0, .ref 338), (1, .int c), (2, .int 1), (3, .int (itN (fun t a => if pF q 7 t = c then a + fsD q d t else a) 0 (pT q))), (4, .int (nI (pT q)))] [] o μ1) : ∀ dd m, m + dd = (pT q) → AW Y_X11_trolleysOf R_X11_trolleysOf (0, 0) μ 5 [(0, .ref 338), (1, .int c), (2, .int 1), (3, .int (itN (fun t a => if pF q 7 t = c then a + fsD q d t else a) 0 m)), (4, .int (nI m))] [] o μ1 := by
  intro dd
  induction dd with
  | zero =>
    intro m hm
    obtain rfl : (pT q) = m := by omega
    refine a_iload dX11_trolleysOf_5 rfl ?_
    refine a_aload_n dX11_trolleysOf_7 rfl ?_
    refine a_inv (b2 := (0, 0)) (m_trolleys hw hv) rfl dX11_trolleysOf_8 yk_X11_trolleys im_X11_trolleys se_X11_trolleys ml_X11_330 rfl (co_338 hw) (by decide) hc_X11 (by decide) (by decide) (Nat.le_of_ble_eq_true rfl) ?_
    refine a_icmp_ge (tgt := 50) dX11_trolleysOf_11 (by decide) (fun h11 => ?_) (fun h11 => absurd h11 (fun z => z (nI_le (Nat.le_refl _) (by have := hv.T4; omega))))
    exact a_loc _ rfl kx
  | succ dd ih =>
    intro m hm
    have hM4 := hv.M4
    have hT4 := hv.T4
    have hP4 := hv.P4
    have hU4 := hv.U4
    refine a_iload dX11_trolleysOf_5 rfl ?_
    refine a_aload_n dX11_trolleysOf_7 rfl ?_
    refine a_inv (b2 := (0, 0)) (m_trolleys hw hv) rfl dX11_trolleysOf_8 yk_X11_trolleys im_X11_trolleys se_X11_trolleys ml_X11_330 rfl (co_338 hw) (by decide) hc_X11 (by decide) (by decide) (Nat.le_of_ble_eq_true rfl) ?_
    refine a_icmp_ge (tgt := 50) dX11_trolleysOf_11 (by decide) (fun h11 => absurd h11 (nI_ge (by omega) (by have := hv.T4; omega))) (fun h11 => ?_)
    refine a_aload_n dX11_trolleysOf_14 rfl ?_
    refine a_iload dX11_trolleysOf_15 rfl ?_
    refine a_iconst (0 : Int32) dX11_trolleysOf_17 (by decide) ?_
    refine a_inv (b2 := (0, 0)) (m_ofTrolley0 hw hv (show m < pT q by omega)) rfl dX11_trolleysOf_18 yk_X11_ofTrolley im_X11_ofTrolley se_X11_ofTrolley ml_X11_342 rfl (co_338 hw) (by decide) hc_X11 (by decide) (by decide) (Nat.le_of_ble_eq_true rfl) ?_
    refine a_iload_n dX11_trolleysOf_21 rfl ?_
    refine a_icmp_ne (tgt := 44) dX11_trolleysOf_22 (by decide) (fun h22 => ?_) (fun h22 => ?_)
    · refine a_iincN dX11_trolleysOf_44 rfl (by decide) ?_
      refine a_goto (tgt := 5) dX11_trolleysOf_47 (by decide) ?_
      have qih := ih (m + 1) (by omega)
      simp only [itN_succ] at qih
      first | exact a_loc _ rfl qih | (simp_all only [if_true, if_false, not_true_eq_false, not_false_eq_true, ne_eq]; exact a_loc _ rfl qih)
    · refine a_iload_n dX11_trolleysOf_25 rfl ?_
      refine a_if_eq (tgt := 40) dX11_trolleysOf_26 (by decide) (fun h26 => absurd h26 (by decide)) (fun h26 => ?_)
      refine a_iload_n dX11_trolleysOf_29 rfl ?_
      refine a_aload_n dX11_trolleysOf_30 rfl ?_
      refine a_iload dX11_trolleysOf_31 rfl ?_
      refine a_inv (b2 := (0, 0)) (m_freeOf hw hv (show m < pT q by omega)) rfl dX11_trolleysOf_33 yk_X11_freeOf im_X11_freeOf se_X11_freeOf ml_X11_348 rfl (co_338 hw) (by decide) hc_X11 (by decide) (by decide) (Nat.le_of_ble_eq_true rfl) ?_
      refine a_iadd dX11_trolleysOf_36 ?_
      refine a_goto (tgt := 43) dX11_trolleysOf_37 (by decide) ?_
      refine a_istore_n dX11_trolleysOf_43 (by decide) ?_
      refine a_iincN dX11_trolleysOf_44 rfl (by decide) ?_
      refine a_goto (tgt := 5) dX11_trolleysOf_47 (by decide) ?_
      have qih := ih (m + 1) (by omega)
      simp only [itN_succ] at qih
      first | exact a_loc _ rfl qih | (simp_all only [if_true, if_false, not_true_eq_false, not_false_eq_true, ne_eq]; exact a_loc _ rfl qih)
theorem m_trolleysOf1_ (hw : Wf μ) (hv : MdV μ q d) (c : Int32) : Ct Y_X11_trolleysOf R_X11_trolleysOf [.ref 338, .int c, .int 1] μ (.inl (some (.int (itN (fun t a => if pF q 7 t = c then a + fsD q d t else a) 0 ((pT q)))))) μ := by
  refine Ct.ent yk_X11_trolleysOf (Nat.le_of_ble_eq_true rfl) ?_
  refine a_iconst (0 : Int32) dX11_trolleysOf_0 (by decide) ?_
  refine a_istore_n dX11_trolleysOf_1 (by decide) ?_
  refine a_iconst (0 : Int32) dX11_trolleysOf_2 (by decide) ?_
  refine a_istore dX11_trolleysOf_3 (by decide) ?_
  refine a_loc [(0, .ref 338), (1, .int c), (2, .int 1), (3, .int (itN (fun t a => if pF q 7 t = c then a + fsD q d t else a) 0 0)), (4, .int (nI 0))] rfl ?_
  refine lm_trolleysOf1_ hw hv c ?_ ((pT q)) 0 (by omega)
  refine a_iload_n dX11_trolleysOf_50 rfl ?_
  exact a_out rfl rfl (a_ireturn dX11_trolleysOf_51 rfl rfl)
theorem m_trolleysOf1 (hw : Wf μ) (hv : MdV μ q d) (c : Int32) : Ct Y_X11_trolleysOf R_X11_trolleysOf [.ref 338, .int c, .int 1] μ (.inl (some (.int (fiD q d c)))) μ := Ct.int (rfl) (m_trolleysOf1_ hw hv c)
abbrev R_X11_cheapest : Room := { frames := 3, cells := 0, slots := 0, locals := 67 }
abbrev RX_X11_cheapest : Room := { frames := 3, cells := 1, slots := 6, locals := 67 }

theorem lm_cheapest (hw : Wf μ) (hv : MdV μ q d) {i : Nat} (hi : i < dP d) {o : Oc} {μ1 : Wd} (kx : AW Y_X11_cheapest R_X11_cheapest (0, 0) μ 49 [(0, .ref 338), (1, .int (nI i)), (2, .int (oI (itN (chS q (fitD q (dF d 0 i) (dF d 1 i))) none (pM q)))), (3, .int (nI (pM q)))] [] o μ1) : ∀ dd m, m + dd = (pM q) → AW Y_X11_cheapest R_X11_cheapest (0, 0) μ 4 [(0, .ref 338), (1, .int (nI i)), (2, .int (oI (itN (chS q (fitD q (dF d 0 i) (dF d 1 i))) none m))), (3, .int (nI m))] [] o μ1 := by
  intro dd
  induction dd with
  | zero =>
    intro m hm
    obtain rfl : (pM q) = m := by omega
    refine a_iload_n dX11_cheapest_4 rfl ?_
    refine a_aload_n dX11_cheapest_5 rfl ?_
    refine a_inv (b2 := (0, 0)) (m_meals hw hv) rfl dX11_cheapest_6 yk_X11_meals im_X11_meals se_X11_meals ml_X11_300 rfl (co_338 hw) (by decide) hc_X11 (by decide) (by decide) (Nat.le_of_ble_eq_true rfl) ?_
    refine a_icmp_ge (tgt := 49) dX11_cheapest_9 (by decide) (fun h9 => ?_) (fun h9 => absurd h9 (fun z => z (nI_le (Nat.le_refl _) (by have := hv.M4; omega))))
    exact a_loc _ rfl kx
  | succ dd ih =>
    intro m hm
    have qih := ih (m + 1) (by omega)
    have hlt : ∀ b, itN (chS q (fitD q (dF d 0 i) (dF d 1 i))) none m = some b → b < m := fun b => chD_lt
    rw [itN_succ] at qih
    generalize itN (chS q (fitD q (dF d 0 i) (dF d 1 i))) none m = a at qih hlt ⊢
    unfold chS at qih
    have hM4 := hv.M4
    have hT4 := hv.T4
    have hP4 := hv.P4
    have hU4 := hv.U4
    cases a with
    | none =>
      refine a_iload_n dX11_cheapest_4 rfl ?_
      refine a_aload_n dX11_cheapest_5 rfl ?_
      refine a_inv (b2 := (0, 0)) (m_meals hw hv) rfl dX11_cheapest_6 yk_X11_meals im_X11_meals se_X11_meals ml_X11_300 rfl (co_338 hw) (by decide) hc_X11 (by decide) (by decide) (Nat.le_of_ble_eq_true rfl) ?_
      refine a_icmp_ge (tgt := 49) dX11_cheapest_9 (by decide) (fun h9 => absurd h9 (nI_ge (by omega) (by have := hv.M4; omega))) (fun h9 => ?_)
      refine a_aload_n dX11_cheapest_12 rfl ?_
      refine a_iload_n dX11_cheapest_13 rfl ?_
      refine a_iload_n dX11_cheapest_14 rfl ?_
      refine a_inv (b2 := (0, 0)) (m_suits hw hv (show m < pM q by omega) hi) rfl dX11_cheapest_15 yk_X11_suits im_X11_suits se_X11_suits ml_X11_303 rfl (co_338 hw) (by decide) hc_X11 (by decide) (by decide) (Nat.le_of_ble_eq_true rfl) ?_
      refine a_if_eq (tgt := 43) dX11_cheapest_18 (by decide) (fun h18 => ?_) (fun h18 => ?_)
      · have h18 := b01t.mp h18
        refine a_iincN dX11_cheapest_43 rfl (by decide) ?_
        refine a_goto (tgt := 4) dX11_cheapest_46 (by decide) ?_
        simp_all only [if_true, if_false, not_true_eq_false, not_false_eq_true, true_iff, false_iff, iff_true, iff_false, ne_eq]
        exact a_loc _ rfl qih
      · have h18 := b01f.mp h18
        refine a_iload_n dX11_cheapest_21 rfl ?_
        refine a_iconst (-1 : Int32) dX11_cheapest_22 (by decide) ?_
        refine a_icmp_eq (tgt := 41) dX11_cheapest_23 (by decide) (fun h23 => ?_) (fun h23 => absurd h23 (fun z => z rfl))
        refine a_iload_n dX11_cheapest_41 rfl ?_
        refine a_istore_n dX11_cheapest_42 (by decide) ?_
        refine a_iincN dX11_cheapest_43 rfl (by decide) ?_
        refine a_goto (tgt := 4) dX11_cheapest_46 (by decide) ?_
        simp_all only [if_true, if_false, not_true_eq_false, not_false_eq_true, true_iff, false_iff, iff_true, iff_false, ne_eq]
        exact a_loc _ rfl qih
    | some b =>
      have hb : b < m := hlt b rfl
      refine a_iload_n dX11_cheapest_4 rfl ?_
      refine a_aload_n dX11_cheapest_5 rfl ?_
      refine a_inv (b2 := (0, 0)) (m_meals hw hv) rfl dX11_cheapest_6 yk_X11_meals im_X11_meals se_X11_meals ml_X11_300 rfl (co_338 hw) (by decide) hc_X11 (by decide) (by decide) (Nat.le_of_ble_eq_true rfl) ?_
      refine a_icmp_ge (tgt := 49) dX11_cheapest_9 (by decide) (fun h9 => absurd h9 (nI_ge (by omega) (by have := hv.M4; omega))) (fun h9 => ?_)
      refine a_aload_n dX11_cheapest_12 rfl ?_
      refine a_iload_n dX11_cheapest_13 rfl ?_
      refine a_iload_n dX11_cheapest_14 rfl ?_
      refine a_inv (b2 := (0, 0)) (m_suits hw hv (show m < pM q by omega) hi) rfl dX11_cheapest_15 yk_X11_suits im_X11_suits se_X11_suits ml_X11_303 rfl (co_338 hw) (by decide) hc_X11 (by decide) (by decide) (Nat.le_of_ble_eq_true rfl) ?_
      refine a_if_eq (tgt := 43) dX11_cheapest_18 (by decide) (fun h18 => ?_) (fun h18 => ?_)
      · have h18 := b01t.mp h18
        refine a_iincN dX11_cheapest_43 rfl (by decide) ?_
        refine a_goto (tgt := 4) dX11_cheapest_46 (by decide) ?_
        simp_all only [if_true, if_false, not_true_eq_false, not_false_eq_true, true_iff, false_iff, iff_true, iff_false, ne_eq]
        exact a_loc _ rfl qih
      · have h18 := b01f.mp h18
        refine a_iload_n dX11_cheapest_21 rfl ?_
        refine a_iconst (-1 : Int32) dX11_cheapest_22 (by decide) ?_
        refine a_icmp_eq (tgt := 41) dX11_cheapest_23 (by decide) (fun h23 => absurd h23 (nI_ne1 (by omega))) (fun h23 => ?_)
        refine a_aload_n dX11_cheapest_26 rfl ?_
        refine a_iload_n dX11_cheapest_27 rfl ?_
        refine a_iconst (3 : Int32) dX11_cheapest_28 (by decide) ?_
        refine a_inv (b2 := (0, 0)) (m_ofMeal3 hw hv (show m < pM q by omega)) rfl dX11_cheapest_29 yk_X11_ofMeal im_X11_ofMeal se_X11_ofMeal ml_X11_297 rfl (co_338 hw) (by decide) hc_X11 (by decide) (by decide) (Nat.le_of_ble_eq_true rfl) ?_
        refine a_aload_n dX11_cheapest_32 rfl ?_
        refine a_iload_n dX11_cheapest_33 rfl ?_
        refine a_iconst (3 : Int32) dX11_cheapest_34 (by decide) ?_
        refine a_inv (b2 := (0, 0)) (m_ofMeal3 hw hv (show b < pM q by omega)) rfl dX11_cheapest_35 yk_X11_ofMeal im_X11_ofMeal se_X11_ofMeal ml_X11_297 rfl (co_338 hw) (by decide) hc_X11 (by decide) (by decide) (Nat.le_of_ble_eq_true rfl) ?_
        refine a_icmp_ge (tgt := 43) dX11_cheapest_38 (by decide) (fun h38 => ?_) (fun h38 => ?_)
        · refine a_iincN dX11_cheapest_43 rfl (by decide) ?_
          refine a_goto (tgt := 4) dX11_cheapest_46 (by decide) ?_
          simp_all only [if_true, if_false, not_true_eq_false, not_false_eq_true, true_iff, false_iff, iff_true, iff_false, ne_eq]
          exact a_loc _ rfl qih
        · refine a_iload_n dX11_cheapest_41 rfl ?_
          refine a_istore_n dX11_cheapest_42 (by decide) ?_
          refine a_iincN dX11_cheapest_43 rfl (by decide) ?_
          refine a_goto (tgt := 4) dX11_cheapest_46 (by decide) ?_
          simp_all only [if_true, if_false, not_true_eq_false, not_false_eq_true, true_iff, false_iff, iff_true, iff_false, ne_eq]
          exact a_loc _ rfl qih
theorem m_cheapest (hw : Wf μ) (hv : MdV μ q d) {i : Nat} (hi : i < dP d) : Ct Y_X11_cheapest R_X11_cheapest [.ref 338, .int (nI i)] μ (.inl (some (.int (oI (chD q (fitD q (dF d 0 i) (dF d 1 i)) (pM q)))))) μ := by
  refine Ct.ent yk_X11_cheapest (Nat.le_of_ble_eq_true rfl) ?_
  refine a_iconst (-1 : Int32) dX11_cheapest_0 (by decide) ?_
  refine a_istore_n dX11_cheapest_1 (by decide) ?_
  refine a_iconst (0 : Int32) dX11_cheapest_2 (by decide) ?_
  refine a_istore_n dX11_cheapest_3 (by decide) ?_
  refine a_loc [(0, .ref 338), (1, .int (nI i)), (2, .int (oI (none))), (3, .int (nI 0))] rfl ?_
  refine lm_cheapest hw hv hi ?_ ((pM q)) 0 (by omega)
  refine a_iload_n dX11_cheapest_49 rfl ?_
  exact a_out rfl rfl (a_ireturn dX11_cheapest_50 rfl rfl)
end MODELB
