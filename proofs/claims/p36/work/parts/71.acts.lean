section ACTS
variable {μ W V : Wd} {p f : Nat} {q : PDt} {d d2 : FDt} {H : Hst} {S : Nat → Option FDt}
/-- what an act may have changed -/
abbrev sAct : Nat → Prop := fun i => i = 0 ∨ (24 ≤ i ∧ i ≤ 57) ∨ i = 82 ∨ (84 ≤ i ∧ i ≤ 287) ∨ (325 ≤ i ∧ i ≤ 337)
/-- an act is done: the flight d2, the past H, the slots S -/
def ActQ (μ V : Wd) (p : Nat) (q : PDt) (d : FDt) (H : Hst) (S : Nat → Option FDt) : Prop := CrV V p q d H S ∧ gI V 0 17 = 0 ∧ Out sAct μ V ∧ Own μ V
theorem ActQ.fin (hC : CrV W p q d H S) (h17 : gI W 0 17 = 0) (hO : Out sHi μ W) (hE : Own μ W) (hO3 : Out (sFl 24) W V) (hv3 : FV V 24 p d2) : ActQ μ V p q d2 H S :=
  ⟨hC.now hO3 hv3 h17, (hO3.i (fun y => by have := y.1; omega) 17).trans h17, (hO.mono (S' := sAct) (fun i y => by rcases y with y | y | y; exact Or.inl y; exact Or.inr (Or.inr (Or.inl y)); exact Or.inr (Or.inr (Or.inr (Or.inl y))))).trans (hO3.mono (S' := sAct) (fun i y => Or.inr (Or.inl ⟨y.1, by have := y.2; omega⟩))), hE.trans (Own.of hO3 (fun y => by have := y.1; omega))⟩
theorem ActQ.pre (hO : Out sAct μ W) (hE : Own μ W) (h : ActQ W V p q d H S) : ActQ μ V p q d H S := ⟨h.1, h.2.1, hO.trans h.2.2.1, hE.trans h.2.2.2⟩
theorem cell_eq (d : FDt) (a i : Nat) (v : Int32) : dF (cellD d a i v) a i = v := up2_eq _ _ _ _
theorem cell_ne (d : FDt) {a i b j : Nat} (v : Int32) (h : ¬ (b = a ∧ j = i)) : dF (cellD d a i v) b j = dF d b j := if_neg h
theorem FV.c0 (h : FV μ f p d) {i : Nat} (v : Int32) : FV (sI μ (f + 1) i v) f p (cellD d 0 i v) :=
  h.pas (gR_sI ..) (fun k => gL_sI ..) (fun j a b k => by rw [gI_sI, if_neg (by omega)]) (by rw [gI_sI, if_neg (by omega)]) (by rw [gI_sI, if_neg (by omega)]) (by rw [gI_sI, if_neg (by omega)]) rfl rfl (fun a j ha => cell_ne d v (by omega)) ⟨by rw [gI_sI, if_neg (by omega)]; exact h.hP, h.P4⟩ fun j hj => by
    have hj : j < dP d := hj
    have g1 : dF (cellD d 0 i v) 1 j = dF d 1 j := cell_ne d v (by omega)
    have g2 : dF (cellD d 0 i v) 2 j = dF d 2 j := cell_ne d v (by omega)
    rw [g1, g2, gI_sI, gI_sI, gI_sI, if_neg (show ¬ (f + 2 = f + 1 ∧ j = i) by omega), if_neg (show ¬ (f + 3 = f + 1 ∧ j = i) by omega)]
    refine ⟨?_, h.nee hj, h.wis hj⟩
    by_cases e : j = i
    · rw [if_pos ⟨rfl, e⟩, e]; exact (cell_eq d _ _ v).symm
    · rw [if_neg (fun z => e z.2), h.cab hj]; exact (cell_ne d v (by omega)).symm
theorem FV.c1 (h : FV μ f p d) {i : Nat} (v : Int32) : FV (sI μ (f + 2) i v) f p (cellD d 1 i v) :=
  h.pas (gR_sI ..) (fun k => gL_sI ..) (fun j a b k => by rw [gI_sI, if_neg (by omega)]) (by rw [gI_sI, if_neg (by omega)]) (by rw [gI_sI, if_neg (by omega)]) (by rw [gI_sI, if_neg (by omega)]) rfl rfl (fun a j ha => cell_ne d v (by omega)) ⟨by rw [gI_sI, if_neg (by omega)]; exact h.hP, h.P4⟩ fun j hj => by
    have hj : j < dP d := hj
    have g1 : dF (cellD d 1 i v) 0 j = dF d 0 j := cell_ne d v (by omega)
    have g2 : dF (cellD d 1 i v) 2 j = dF d 2 j := cell_ne d v (by omega)
    rw [g1, g2, gI_sI, gI_sI, gI_sI, if_neg (show ¬ (f + 1 = f + 2 ∧ j = i) by omega), if_neg (show ¬ (f + 3 = f + 2 ∧ j = i) by omega)]
    refine ⟨h.cab hj, ?_, h.wis hj⟩
    by_cases e : j = i
    · rw [if_pos ⟨rfl, e⟩, e]; exact (cell_eq d _ _ v).symm
    · rw [if_neg (fun z => e z.2), h.nee hj]; exact (cell_ne d v (by omega)).symm
theorem FV.c2 (h : FV μ f p d) {i : Nat} (v : Int32) : FV (sI μ (f + 3) i v) f p (cellD d 2 i v) :=
  h.pas (gR_sI ..) (fun k => gL_sI ..) (fun j a b k => by rw [gI_sI, if_neg (by omega)]) (by rw [gI_sI, if_neg (by omega)]) (by rw [gI_sI, if_neg (by omega)]) (by rw [gI_sI, if_neg (by omega)]) rfl rfl (fun a j ha => cell_ne d v (by omega)) ⟨by rw [gI_sI, if_neg (by omega)]; exact h.hP, h.P4⟩ fun j hj => by
    have hj : j < dP d := hj
    have g1 : dF (cellD d 2 i v) 0 j = dF d 0 j := cell_ne d v (by omega)
    have g2 : dF (cellD d 2 i v) 1 j = dF d 1 j := cell_ne d v (by omega)
    rw [g1, g2, gI_sI, gI_sI, gI_sI, if_neg (show ¬ (f + 1 = f + 3 ∧ j = i) by omega), if_neg (show ¬ (f + 2 = f + 3 ∧ j = i) by omega)]
    refine ⟨h.cab hj, h.nee hj, ?_⟩
    by_cases e : j = i
    · rw [if_pos ⟨rfl, e⟩, e]; exact (cell_eq d _ _ v).symm
    · rw [if_neg (fun z => e z.2), h.wis hj]; exact (cell_ne d v (by omega)).symm
theorem FV.c6 (h : FV μ f p d) (v : Int32) : FV (sI μ f 2 v) f p (cellD d 6 1 v) := by
  have eF : ∀ a i, a ≠ 6 → dF (cellD d 6 1 v) a i = dF d a i := fun a i ha => cell_ne d v (by omega)
  have e1 : ∀ a b, a ≠ f → gI (sI μ f 2 v) a b = gI μ a b := fun a b ha => by rw [gI_sI, if_neg (by omega)]
  refine ⟨h.fl, h.rp, ⟨by rw [gI_sI, if_neg (by omega)]; exact h.hP, h.P4⟩, ⟨by rw [gI_sI, if_neg (by omega)]; exact h.hU, h.U4⟩, fun i hi => ?_, fun i hi => ?_, ?_, ?_, fun t k ht hk => ?_, fun i hi => h.acc hi⟩
  · rw [e1 _ _ (by omega), e1 _ _ (by omega), e1 _ _ (by omega), eF 0 i (by decide), eF 1 i (by decide), eF 2 i (by decide)]
    exact ⟨h.cab hi, h.nee hi, h.wis hi⟩
  · rw [e1 _ _ (by omega), e1 _ _ (by omega), e1 _ _ (by omega), eF 3 i (by decide), eF 4 i (by decide), eF 5 i (by decide)]
    exact ⟨h.tm hi, h.tu hi, h.td hi⟩
  · rw [gI_sI, if_neg (by omega)]
    exact h.srv.trans (cell_ne d v (by omega)).symm
  · rw [gI_sI, if_pos ⟨rfl, rfl⟩]
    exact (cell_eq d _ _ v).symm
  · rw [e1 _ _ (by omega), eF (7 + t) k (by omega)]; exact h.un ht hk
abbrev R_X10_leave : Room := { frames := 9, cells := 0, slots := 0, locals := 182 }
abbrev RX_X10_leave : Room := { frames := 9, cells := 1, slots := 6, locals := 182 }

theorem c_leave (h : CrV μ p q d H S) (hd : GdD q d) (hgo : goD q d) {i : Nat} (hi : i < dP d) : CV Y_X10_leave R_X10_leave [.ref 0, .int (nI i)] μ (fun v V => v = some (.int (nI (dP d - 1))) ∧ ActQ μ V p q (leaveD d i) (pushH H d) S) := by
  have hw := h.wf
  have hv := h.fv
  have hq := h.pv
  have h01 := hd.s01
  have hC4 := hq.C4
  have hM4 := hq.M4
  have hT4 := hq.T4
  have hP4 := hv.P4
  have hU4 := hv.U4
  refine CV.ent yk_X10_leave (Nat.le_of_ble_eq_true rfl) ?_
  refine lf (a_aload_n dX10_leave_0 rfl) ?_
  refine lf (a_iload_n dX10_leave_1 rfl) ?_
  refine lf (a_inv (b2 := (0, 0)) (c_requirePassenger (by repeat (first | with_reducible exact hw | with_reducible exact hwc | with_reducible assumption | with_reducible apply Wf.sI | with_reducible apply Wf.sL | with_reducible apply Wf.cpI | with_reducible apply Wf.cpL | with_reducible apply Wf.cp2 | with_reducible apply Wf.sIs | with_reducible apply Wf.sLs | with_reducible apply Wf.cpU | with_reducible apply Wf.fillI | with_reducible apply Wf.clU | with_reducible apply Wf.dnF | with_reducible apply Wf.gbW)) hv hq hi) rfl dX10_leave_2 yk_X10_requirePassenger im_X10_requirePassenger se_X10_requirePassenger ml_X10_256 rfl (co_0 (by repeat (first | with_reducible exact hw | with_reducible exact hwc | with_reducible assumption | with_reducible apply Wf.sI | with_reducible apply Wf.sL | with_reducible apply Wf.cpI | with_reducible apply Wf.cpL | with_reducible apply Wf.cp2 | with_reducible apply Wf.sIs | with_reducible apply Wf.sLs | with_reducible apply Wf.cpU | with_reducible apply Wf.fillI | with_reducible apply Wf.clU | with_reducible apply Wf.dnF | with_reducible apply Wf.gbW))) (by decide) hc_X10 (by decide) (by decide) (Nat.le_of_ble_eq_true rfl)) ?_
  refine lf (a_aload_n dX10_leave_5 rfl) ?_
  refine lf (a_inv (b2 := (0, 0)) (c_requireFlight (by repeat (first | with_reducible exact hw | with_reducible exact hwc | with_reducible assumption | with_reducible apply Wf.sI | with_reducible apply Wf.sL | with_reducible apply Wf.cpI | with_reducible apply Wf.cpL | with_reducible apply Wf.cp2 | with_reducible apply Wf.sIs | with_reducible apply Wf.sLs | with_reducible apply Wf.cpU | with_reducible apply Wf.fillI | with_reducible apply Wf.clU | with_reducible apply Wf.dnF | with_reducible apply Wf.gbW)) hv hq hgo) rfl dX10_leave_6 yk_X10_requireFlight im_X10_requireFlight se_X10_requireFlight ml_X10_320 rfl (co_0 (by repeat (first | with_reducible exact hw | with_reducible exact hwc | with_reducible assumption | with_reducible apply Wf.sI | with_reducible apply Wf.sL | with_reducible apply Wf.cpI | with_reducible apply Wf.cpL | with_reducible apply Wf.cp2 | with_reducible apply Wf.sIs | with_reducible apply Wf.sLs | with_reducible apply Wf.cpU | with_reducible apply Wf.fillI | with_reducible apply Wf.clU | with_reducible apply Wf.dnF | with_reducible apply Wf.gbW))) (by decide) hc_X10 (by decide) (by decide) (Nat.le_of_ble_eq_true rfl)) ?_
  refine lf (a_aload_n dX10_leave_9 rfl) ?_
  obtain ⟨v_, W10, k10, rfl, hC, h17, hO1, hE1⟩ := (h.push h01)
  have hwc := hC.wf
  have hv2 := hC.fv
  have hq2 := hC.pv
  refine lf (a_inv (b2 := (0, 0)) k10 rfl dX10_leave_10 yk_X10_beginAct im_X10_beginAct se_X10_beginAct ml_X10_329 rfl (co_0 (by repeat (first | with_reducible exact hw | with_reducible exact hwc | with_reducible assumption | with_reducible apply Wf.sI | with_reducible apply Wf.sL | with_reducible apply Wf.cpI | with_reducible apply Wf.cpL | with_reducible apply Wf.cp2 | with_reducible apply Wf.sIs | with_reducible apply Wf.sLs | with_reducible apply Wf.cpU | with_reducible apply Wf.fillI | with_reducible apply Wf.clU | with_reducible apply Wf.dnF | with_reducible apply Wf.gbW))) (by decide) hc_X10 (by decide) (by decide) (Nat.le_of_ble_eq_true rfl)) ?_
  refine lf (a_aload_n dX10_leave_13 rfl) ?_
  refine lf (a_getR (cr_0_7 (by repeat (first | with_reducible exact hw | with_reducible exact hwc | with_reducible assumption | with_reducible apply Wf.sI | with_reducible apply Wf.sL | with_reducible apply Wf.cpI | with_reducible apply Wf.cpL | with_reducible apply Wf.cp2 | with_reducible apply Wf.sIs | with_reducible apply Wf.sLs | with_reducible apply Wf.cpU | with_reducible apply Wf.fillI | with_reducible apply Wf.clU | with_reducible apply Wf.dnF | with_reducible apply Wf.gbW))) dX10_leave_14 fs_X10_28 rfl (co_0 (by repeat (first | with_reducible exact hw | with_reducible exact hwc | with_reducible assumption | with_reducible apply Wf.sI | with_reducible apply Wf.sL | with_reducible apply Wf.cpI | with_reducible apply Wf.cpL | with_reducible apply Wf.cp2 | with_reducible apply Wf.sIs | with_reducible apply Wf.sLs | with_reducible apply Wf.cpU | with_reducible apply Wf.fillI | with_reducible apply Wf.clU | with_reducible apply Wf.dnF | with_reducible apply Wf.gbW)))) ?_
  refine lf (a_iload_n dX10_leave_17 rfl) ?_
  obtain ⟨v_, W18, k18, rfl, hv3, hO3⟩ := (v_X1_removePassenger hwc hv2 hi)
  have hwd := hO3.wf
  refine lf (a_inv (b2 := (0, 0)) k18 rfl dX10_leave_18 yk_X1_removePassenger im_X1_removePassenger se_X1_removePassenger ml_X10_338 rfl (fl_o (by repeat (first | with_reducible exact hw | with_reducible exact hwc | with_reducible assumption | with_reducible apply Wf.sI | with_reducible apply Wf.sL | with_reducible apply Wf.cpI | with_reducible apply Wf.cpL | with_reducible apply Wf.cp2 | with_reducible apply Wf.sIs | with_reducible apply Wf.sLs | with_reducible apply Wf.cpU | with_reducible apply Wf.fillI | with_reducible apply Wf.clU | with_reducible apply Wf.dnF | with_reducible apply Wf.gbW)) fl_now) (by decide) hc_X1 (by decide) (by decide) (Nat.le_of_ble_eq_true rfl)) ?_
  refine lf (a_aload_n dX10_leave_21 rfl) ?_
  refine lf (a_getR (cr_0_7 (by repeat (first | with_reducible exact hw | with_reducible exact hwc | with_reducible assumption | with_reducible apply Wf.sI | with_reducible apply Wf.sL | with_reducible apply Wf.cpI | with_reducible apply Wf.cpL | with_reducible apply Wf.cp2 | with_reducible apply Wf.sIs | with_reducible apply Wf.sLs | with_reducible apply Wf.cpU | with_reducible apply Wf.fillI | with_reducible apply Wf.clU | with_reducible apply Wf.dnF | with_reducible apply Wf.gbW))) dX10_leave_22 fs_X10_28 rfl (co_0 (by repeat (first | with_reducible exact hw | with_reducible exact hwc | with_reducible assumption | with_reducible apply Wf.sI | with_reducible apply Wf.sL | with_reducible apply Wf.cpI | with_reducible apply Wf.cpL | with_reducible apply Wf.cp2 | with_reducible apply Wf.sIs | with_reducible apply Wf.sLs | with_reducible apply Wf.cpU | with_reducible apply Wf.fillI | with_reducible apply Wf.clU | with_reducible apply Wf.dnF | with_reducible apply Wf.gbW)))) ?_
  refine lf (a_getI dX10_leave_25 fs_X10_132 rfl (fl_o (by repeat (first | with_reducible exact hw | with_reducible exact hwc | with_reducible assumption | with_reducible apply Wf.sI | with_reducible apply Wf.sL | with_reducible apply Wf.cpI | with_reducible apply Wf.cpL | with_reducible apply Wf.cp2 | with_reducible apply Wf.sIs | with_reducible apply Wf.sLs | with_reducible apply Wf.cpU | with_reducible apply Wf.fillI | with_reducible apply Wf.clU | with_reducible apply Wf.dnF | with_reducible apply Wf.gbW)) fl_now)) ?_
  rw [hv3.hP]
  refine ⟨_, _, (a_ireturn dX10_leave_28 rfl rfl), ?_⟩
  exact ⟨_, rfl, rfl, ActQ.fin hC h17 hO1 hE1 hO3 hv3⟩

theorem cx_leave (hw : Wf μ) (hv : FV μ 24 p d) (hq : PV μ p q) {x : Int32} (h : ixO x (dP d) = none) : Ct Y_X10_leave RX_X10_leave [.ref 0, .int x] μ (.inr NSE) μ := by
  have hC4 := hq.C4
  have hM4 := hq.M4
  have hT4 := hq.T4
  have hP4 := hv.P4
  have hU4 := hv.U4
  refine Ct.ent yk_X10_leave (Nat.le_of_ble_eq_true rfl) ?_
  refine a_aload_n dX10_leave_0 rfl ?_
  refine a_iload_n dX10_leave_1 rfl ?_
  exact a_out rfl rfl (a_invX (cx_requirePassenger hw hv hq h) rfl dX10_leave_2 yk_X10_requirePassenger im_X10_requirePassenger se_X10_requirePassenger ml_X10_256 rfl (co_0 hw) (by decide) hc_X10 (by decide) (by decide) (Nat.le_of_ble_eq_true rfl) rfl)

theorem cy_leave (hw : Wf μ) (hv : FV μ 24 p d) (hq : PV μ p q) (h : ¬ goD q d) {i : Nat} (hi : i < dP d) : Ct Y_X10_leave RX_X10_leave [.ref 0, .int (nI i)] μ (.inr ISE) (sI μ 0 6 1) := by
  have hC4 := hq.C4
  have hM4 := hq.M4
  have hT4 := hq.T4
  have hP4 := hv.P4
  have hU4 := hv.U4
  refine Ct.ent yk_X10_leave (Nat.le_of_ble_eq_true rfl) ?_
  refine a_aload_n dX10_leave_0 rfl ?_
  refine a_iload_n dX10_leave_1 rfl ?_
  refine a_inv (b2 := (1, 6)) (c_requirePassenger hw hv hq hi) rfl dX10_leave_2 yk_X10_requirePassenger im_X10_requirePassenger se_X10_requirePassenger ml_X10_256 rfl (co_0 hw) (by decide) hc_X10 (by decide) (by decide) (Nat.le_of_ble_eq_true rfl) ?_
  refine a_aload_n dX10_leave_5 rfl ?_
  exact a_out rfl rfl (a_invX (cx_requireFlight hw hv hq h) rfl dX10_leave_6 yk_X10_requireFlight im_X10_requireFlight se_X10_requireFlight ml_X10_320 rfl (co_0 hw) (by decide) hc_X10 (by decide) (by decide) (Nat.le_of_ble_eq_true rfl) rfl)
abbrev R_X10_setNeeds : Room := { frames := 9, cells := 0, slots := 0, locals := 182 }
abbrev RX_X10_setNeeds : Room := { frames := 9, cells := 1, slots := 6, locals := 182 }

theorem c_setNeeds (h : CrV μ p q d H S) (hd : GdD q d) (hgo : goD q d) {i n : Nat} (hi : i < dP d) (hn : n < 256) : CV Y_X10_setNeeds R_X10_setNeeds [.ref 0, .int (nI i), .int (nI n)] μ (fun v V => v = some (.int (dF d 1 i)) ∧ ActQ μ V p q (cellD d 1 i (nI n)) (pushH H d) S) := by
  have hw := h.wf
  have hv := h.fv
  have hq := h.pv
  have h01 := hd.s01
  have hC4 := hq.C4
  have hM4 := hq.M4
  have hT4 := hq.T4
  have hP4 := hv.P4
  have hU4 := hv.U4
  refine CV.ent yk_X10_setNeeds (Nat.le_of_ble_eq_true rfl) ?_
  refine lf (a_aload_n dX10_setNeeds_0 rfl) ?_
  refine lf (a_iload_n dX10_setNeeds_1 rfl) ?_
  refine lf (a_inv (b2 := (0, 0)) (c_requirePassenger (by repeat (first | with_reducible exact hw | with_reducible exact hwc | with_reducible assumption | with_reducible apply Wf.sI | with_reducible apply Wf.sL | with_reducible apply Wf.cpI | with_reducible apply Wf.cpL | with_reducible apply Wf.cp2 | with_reducible apply Wf.sIs | with_reducible apply Wf.sLs | with_reducible apply Wf.cpU | with_reducible apply Wf.fillI | with_reducible apply Wf.clU | with_reducible apply Wf.dnF | with_reducible apply Wf.gbW)) hv hq hi) rfl dX10_setNeeds_2 yk_X10_requirePassenger im_X10_requirePassenger se_X10_requirePassenger ml_X10_256 rfl (co_0 (by repeat (first | with_reducible exact hw | with_reducible exact hwc | with_reducible assumption | with_reducible apply Wf.sI | with_reducible apply Wf.sL | with_reducible apply Wf.cpI | with_reducible apply Wf.cpL | with_reducible apply Wf.cp2 | with_reducible apply Wf.sIs | with_reducible apply Wf.sLs | with_reducible apply Wf.cpU | with_reducible apply Wf.fillI | with_reducible apply Wf.clU | with_reducible apply Wf.dnF | with_reducible apply Wf.gbW))) (by decide) hc_X10 (by decide) (by decide) (Nat.le_of_ble_eq_true rfl)) ?_
  refine lf (a_aload_n dX10_setNeeds_5 rfl) ?_
  refine lf (a_iload_n dX10_setNeeds_6 rfl) ?_
  refine lf (a_inv (b2 := (0, 0)) (c_requireNeeds (by repeat (first | with_reducible exact hw | with_reducible exact hwc | with_reducible assumption | with_reducible apply Wf.sI | with_reducible apply Wf.sL | with_reducible apply Wf.cpI | with_reducible apply Wf.cpL | with_reducible apply Wf.cp2 | with_reducible apply Wf.sIs | with_reducible apply Wf.sLs | with_reducible apply Wf.cpU | with_reducible apply Wf.fillI | with_reducible apply Wf.clU | with_reducible apply Wf.dnF | with_reducible apply Wf.gbW)) hv hq hn) rfl dX10_setNeeds_7 yk_X10_requireNeeds im_X10_requireNeeds se_X10_requireNeeds ml_X10_315 rfl (co_0 (by repeat (first | with_reducible exact hw | with_reducible exact hwc | with_reducible assumption | with_reducible apply Wf.sI | with_reducible apply Wf.sL | with_reducible apply Wf.cpI | with_reducible apply Wf.cpL | with_reducible apply Wf.cp2 | with_reducible apply Wf.sIs | with_reducible apply Wf.sLs | with_reducible apply Wf.cpU | with_reducible apply Wf.fillI | with_reducible apply Wf.clU | with_reducible apply Wf.dnF | with_reducible apply Wf.gbW))) (by decide) hc_X10 (by decide) (by decide) (Nat.le_of_ble_eq_true rfl)) ?_
  refine lf (a_aload_n dX10_setNeeds_10 rfl) ?_
  refine lf (a_inv (b2 := (0, 0)) (c_requireFlight (by repeat (first | with_reducible exact hw | with_reducible exact hwc | with_reducible assumption | with_reducible apply Wf.sI | with_reducible apply Wf.sL | with_reducible apply Wf.cpI | with_reducible apply Wf.cpL | with_reducible apply Wf.cp2 | with_reducible apply Wf.sIs | with_reducible apply Wf.sLs | with_reducible apply Wf.cpU | with_reducible apply Wf.fillI | with_reducible apply Wf.clU | with_reducible apply Wf.dnF | with_reducible apply Wf.gbW)) hv hq hgo) rfl dX10_setNeeds_11 yk_X10_requireFlight im_X10_requireFlight se_X10_requireFlight ml_X10_320 rfl (co_0 (by repeat (first | with_reducible exact hw | with_reducible exact hwc | with_reducible assumption | with_reducible apply Wf.sI | with_reducible apply Wf.sL | with_reducible apply Wf.cpI | with_reducible apply Wf.cpL | with_reducible apply Wf.cp2 | with_reducible apply Wf.sIs | with_reducible apply Wf.sLs | with_reducible apply Wf.cpU | with_reducible apply Wf.fillI | with_reducible apply Wf.clU | with_reducible apply Wf.dnF | with_reducible apply Wf.gbW))) (by decide) hc_X10 (by decide) (by decide) (Nat.le_of_ble_eq_true rfl)) ?_
  refine lf (a_aload_n dX10_setNeeds_14 rfl) ?_
  obtain ⟨v_, W15, k15, rfl, hC, h17, hO1, hE1⟩ := (h.push h01)
  have hwc := hC.wf
  have hv2 := hC.fv
  have hq2 := hC.pv
  refine lf (a_inv (b2 := (0, 0)) k15 rfl dX10_setNeeds_15 yk_X10_beginAct im_X10_beginAct se_X10_beginAct ml_X10_329 rfl (co_0 (by repeat (first | with_reducible exact hw | with_reducible exact hwc | with_reducible assumption | with_reducible apply Wf.sI | with_reducible apply Wf.sL | with_reducible apply Wf.cpI | with_reducible apply Wf.cpL | with_reducible apply Wf.cp2 | with_reducible apply Wf.sIs | with_reducible apply Wf.sLs | with_reducible apply Wf.cpU | with_reducible apply Wf.fillI | with_reducible apply Wf.clU | with_reducible apply Wf.dnF | with_reducible apply Wf.gbW))) (by decide) hc_X10 (by decide) (by decide) (Nat.le_of_ble_eq_true rfl)) ?_
  refine lf (a_aload_n dX10_setNeeds_18 rfl) ?_
  refine lf (a_getR (cr_0_7 (by repeat (first | with_reducible exact hw | with_reducible exact hwc | with_reducible assumption | with_reducible apply Wf.sI | with_reducible apply Wf.sL | with_reducible apply Wf.cpI | with_reducible apply Wf.cpL | with_reducible apply Wf.cp2 | with_reducible apply Wf.sIs | with_reducible apply Wf.sLs | with_reducible apply Wf.cpU | with_reducible apply Wf.fillI | with_reducible apply Wf.clU | with_reducible apply Wf.dnF | with_reducible apply Wf.gbW))) dX10_setNeeds_19 fs_X10_28 rfl (co_0 (by repeat (first | with_reducible exact hw | with_reducible exact hwc | with_reducible assumption | with_reducible apply Wf.sI | with_reducible apply Wf.sL | with_reducible apply Wf.cpI | with_reducible apply Wf.cpL | with_reducible apply Wf.cp2 | with_reducible apply Wf.sIs | with_reducible apply Wf.sLs | with_reducible apply Wf.cpU | with_reducible apply Wf.fillI | with_reducible apply Wf.clU | with_reducible apply Wf.dnF | with_reducible apply Wf.gbW)))) ?_
  refine lf (a_getR (fl_r5 (by repeat (first | with_reducible exact hw | with_reducible exact hwc | with_reducible assumption | with_reducible apply Wf.sI | with_reducible apply Wf.sL | with_reducible apply Wf.cpI | with_reducible apply Wf.cpL | with_reducible apply Wf.cp2 | with_reducible apply Wf.sIs | with_reducible apply Wf.sLs | with_reducible apply Wf.cpU | with_reducible apply Wf.fillI | with_reducible apply Wf.clU | with_reducible apply Wf.dnF | with_reducible apply Wf.gbW)) fl_now) dX10_setNeeds_22 fs_X10_262 rfl (fl_o (by repeat (first | with_reducible exact hw | with_reducible exact hwc | with_reducible assumption | with_reducible apply Wf.sI | with_reducible apply Wf.sL | with_reducible apply Wf.cpI | with_reducible apply Wf.cpL | with_reducible apply Wf.cp2 | with_reducible apply Wf.sIs | with_reducible apply Wf.sLs | with_reducible apply Wf.cpU | with_reducible apply Wf.fillI | with_reducible apply Wf.clU | with_reducible apply Wf.dnF | with_reducible apply Wf.gbW)) fl_now)) ?_
  refine lf (a_iload_n dX10_setNeeds_25 rfl) ?_
  refine lf (a_ild dX10_setNeeds_26 (fl_a2 (by repeat (first | with_reducible exact hw | with_reducible exact hwc | with_reducible assumption | with_reducible apply Wf.sI | with_reducible apply Wf.sL | with_reducible apply Wf.cpI | with_reducible apply Wf.cpL | with_reducible apply Wf.cp2 | with_reducible apply Wf.sIs | with_reducible apply Wf.sLs | with_reducible apply Wf.cpU | with_reducible apply Wf.fillI | with_reducible apply Wf.clU | with_reducible apply Wf.dnF | with_reducible apply Wf.gbW)) fl_now) (ixn (show i < 40 by omega) (by decide))) ?_
  rw [hv2.nee hi]
  refine lf (a_istore_n dX10_setNeeds_27 (by decide)) ?_
  refine lf (a_aload_n dX10_setNeeds_28 rfl) ?_
  refine lf (a_getR (cr_0_7 (by repeat (first | with_reducible exact hw | with_reducible exact hwc | with_reducible assumption | with_reducible apply Wf.sI | with_reducible apply Wf.sL | with_reducible apply Wf.cpI | with_reducible apply Wf.cpL | with_reducible apply Wf.cp2 | with_reducible apply Wf.sIs | with_reducible apply Wf.sLs | with_reducible apply Wf.cpU | with_reducible apply Wf.fillI | with_reducible apply Wf.clU | with_reducible apply Wf.dnF | with_reducible apply Wf.gbW))) dX10_setNeeds_29 fs_X10_28 rfl (co_0 (by repeat (first | with_reducible exact hw | with_reducible exact hwc | with_reducible assumption | with_reducible apply Wf.sI | with_reducible apply Wf.sL | with_reducible apply Wf.cpI | with_reducible apply Wf.cpL | with_reducible apply Wf.cp2 | with_reducible apply Wf.sIs | with_reducible apply Wf.sLs | with_reducible apply Wf.cpU | with_reducible apply Wf.fillI | with_reducible apply Wf.clU | with_reducible apply Wf.dnF | with_reducible apply Wf.gbW)))) ?_
  refine lf (a_getR (fl_r5 (by repeat (first | with_reducible exact hw | with_reducible exact hwc | with_reducible assumption | with_reducible apply Wf.sI | with_reducible apply Wf.sL | with_reducible apply Wf.cpI | with_reducible apply Wf.cpL | with_reducible apply Wf.cp2 | with_reducible apply Wf.sIs | with_reducible apply Wf.sLs | with_reducible apply Wf.cpU | with_reducible apply Wf.fillI | with_reducible apply Wf.clU | with_reducible apply Wf.dnF | with_reducible apply Wf.gbW)) fl_now) dX10_setNeeds_32 fs_X10_262 rfl (fl_o (by repeat (first | with_reducible exact hw | with_reducible exact hwc | with_reducible assumption | with_reducible apply Wf.sI | with_reducible apply Wf.sL | with_reducible apply Wf.cpI | with_reducible apply Wf.cpL | with_reducible apply Wf.cp2 | with_reducible apply Wf.sIs | with_reducible apply Wf.sLs | with_reducible apply Wf.cpU | with_reducible apply Wf.fillI | with_reducible apply Wf.clU | with_reducible apply Wf.dnF | with_reducible apply Wf.gbW)) fl_now)) ?_
  refine lf (a_iload_n dX10_setNeeds_35 rfl) ?_
  refine lf (a_iload_n dX10_setNeeds_36 rfl) ?_
  refine lf (a_ist dX10_setNeeds_37 (fl_a2 (by repeat (first | with_reducible exact hw | with_reducible exact hwc | with_reducible assumption | with_reducible apply Wf.sI | with_reducible apply Wf.sL | with_reducible apply Wf.cpI | with_reducible apply Wf.cpL | with_reducible apply Wf.cp2 | with_reducible apply Wf.sIs | with_reducible apply Wf.sLs | with_reducible apply Wf.cpU | with_reducible apply Wf.fillI | with_reducible apply Wf.clU | with_reducible apply Wf.dnF | with_reducible apply Wf.gbW)) fl_now) (ixn (show i < 40 by omega) (by decide))) ?_
  refine lf (a_iload_n dX10_setNeeds_38 rfl) ?_
  refine ⟨_, _, (a_ireturn dX10_setNeeds_39 rfl rfl), ?_⟩
  have hv3 := hv2.c1 (i := i) (nI n)
  have hO3 : Out (sFl 24) W15 _ := (Out.rfl' hwc).sI (S := sFl 24) (i := 24 + 2) ⟨by omega, by omega⟩ i (nI n)
  exact ⟨_, rfl, rfl, ActQ.fin hC h17 hO1 hE1 hO3 hv3⟩

theorem cx_setNeeds (hw : Wf μ) (hv : FV μ 24 p d) (hq : PV μ p q) {x y : Int32} (h : ixO x (dP d) = none) : Ct Y_X10_setNeeds RX_X10_setNeeds [.ref 0, .int x, .int y] μ (.inr NSE) μ := by
  have hC4 := hq.C4
  have hM4 := hq.M4
  have hT4 := hq.T4
  have hP4 := hv.P4
  have hU4 := hv.U4
  refine Ct.ent yk_X10_setNeeds (Nat.le_of_ble_eq_true rfl) ?_
  refine a_aload_n dX10_setNeeds_0 rfl ?_
  refine a_iload_n dX10_setNeeds_1 rfl ?_
  exact a_out rfl rfl (a_invX (cx_requirePassenger hw hv hq h) rfl dX10_setNeeds_2 yk_X10_requirePassenger im_X10_requirePassenger se_X10_requirePassenger ml_X10_256 rfl (co_0 hw) (by decide) hc_X10 (by decide) (by decide) (Nat.le_of_ble_eq_true rfl) rfl)

theorem cy_setNeeds (hw : Wf μ) (hv : FV μ 24 p d) (hq : PV μ p q) {i : Nat} (hi : i < dP d) {y : Int32} (h : ixO y 256 = none) : Ct Y_X10_setNeeds RX_X10_setNeeds [.ref 0, .int (nI i), .int y] μ (.inr IAE) μ := by
  have hC4 := hq.C4
  have hM4 := hq.M4
  have hT4 := hq.T4
  have hP4 := hv.P4
  have hU4 := hv.U4
  refine Ct.ent yk_X10_setNeeds (Nat.le_of_ble_eq_true rfl) ?_
  refine a_aload_n dX10_setNeeds_0 rfl ?_
  refine a_iload_n dX10_setNeeds_1 rfl ?_
  refine a_inv (b2 := (1, 6)) (c_requirePassenger hw hv hq hi) rfl dX10_setNeeds_2 yk_X10_requirePassenger im_X10_requirePassenger se_X10_requirePassenger ml_X10_256 rfl (co_0 hw) (by decide) hc_X10 (by decide) (by decide) (Nat.le_of_ble_eq_true rfl) ?_
  refine a_aload_n dX10_setNeeds_5 rfl ?_
  refine a_iload_n dX10_setNeeds_6 rfl ?_
  exact a_out rfl rfl (a_invX (cx_requireNeeds hw hv hq h) rfl dX10_setNeeds_7 yk_X10_requireNeeds im_X10_requireNeeds se_X10_requireNeeds ml_X10_315 rfl (co_0 hw) (by decide) hc_X10 (by decide) (by decide) (Nat.le_of_ble_eq_true rfl) rfl)

theorem cz_setNeeds (hw : Wf μ) (hv : FV μ 24 p d) (hq : PV μ p q) (h : ¬ goD q d) {i n : Nat} (hi : i < dP d) (hn : n < 256) : Ct Y_X10_setNeeds RX_X10_setNeeds [.ref 0, .int (nI i), .int (nI n)] μ (.inr ISE) (sI μ 0 6 1) := by
  have hC4 := hq.C4
  have hM4 := hq.M4
  have hT4 := hq.T4
  have hP4 := hv.P4
  have hU4 := hv.U4
  refine Ct.ent yk_X10_setNeeds (Nat.le_of_ble_eq_true rfl) ?_
  refine a_aload_n dX10_setNeeds_0 rfl ?_
  refine a_iload_n dX10_setNeeds_1 rfl ?_
  refine a_inv (b2 := (1, 6)) (c_requirePassenger hw hv hq hi) rfl dX10_setNeeds_2 yk_X10_requirePassenger im_X10_requirePassenger se_X10_requirePassenger ml_X10_256 rfl (co_0 hw) (by decide) hc_X10 (by decide) (by decide) (Nat.le_of_ble_eq_true rfl) ?_
  refine a_aload_n dX10_setNeeds_5 rfl ?_
  refine a_iload_n dX10_setNeeds_6 rfl ?_
  refine a_inv (b2 := (1, 6)) (c_requireNeeds hw hv hq hn) rfl dX10_setNeeds_7 yk_X10_requireNeeds im_X10_requireNeeds se_X10_requireNeeds ml_X10_315 rfl (co_0 hw) (by decide) hc_X10 (by decide) (by decide) (Nat.le_of_ble_eq_true rfl) ?_
  refine a_aload_n dX10_setNeeds_10 rfl ?_
  exact a_out rfl rfl (a_invX (cx_requireFlight hw hv hq h) rfl dX10_setNeeds_11 yk_X10_requireFlight im_X10_requireFlight se_X10_requireFlight ml_X10_320 rfl (co_0 hw) (by decide) hc_X10 (by decide) (by decide) (Nat.le_of_ble_eq_true rfl) rfl)
end ACTS
