section ACTSB
variable {μ W V : Wd} {p f : Nat} {q : PDt} {d d2 : FDt} {H : Hst} {S : Nat → Option FDt}
theorem GdD.minC (h : GdD q d) {m : Nat} (hm : m ≤ 999) : GdD q (cellD d 6 1 (nI m)) := by
  have e : ∀ a i, a ≠ 6 → dF (cellD d 6 1 (nI m)) a i = dF d a i := fun a i ha => cell_ne d _ (fun z => ha z.1)
  refine ⟨h.1, fun i hi => by rw [e 0 i (by decide), e 1 i (by decide), e 2 i (by decide)]; exact h.2.1 i hi, fun t k ht hk => by rw [e (7 + t) k (by omega)]; exact h.un ht hk, fun t ht => ?_, fun i hi => by rw [e 3 i (by decide), e 4 i (by decide)]; exact h.tu hi, ⟨m, hm, cell_eq ..⟩, ?_⟩
  · rw [fsD_congr (d := d) fun i _ => e (7 + t) i (by omega)]; exact h.fs ht
  · rw [cell_ne d (nI m) (show ¬ ((6 : Nat) = 6 ∧ (0 : Nat) = 1) by decide)]; exact h.s01
theorem GdD.askC (h : GdD q d) (hU : dU d < 6) {k n : Nat} (hk : k < pM q) (g1 : 1 ≤ n) (g2 : n ≤ 99) : GdD q (askD q d (nI k) (nI n)) := by
  have e : ∀ a i, a < 3 ∨ 5 < a → dF (askD q d (nI k) (nI n)) a i = dF d a i := fun a i ha => if_neg (by omega)
  refine ⟨⟨h.P4, hU⟩, fun i hi => by rw [e 0 i (by decide), e 1 i (by decide), e 2 i (by decide)]; exact h.2.1 i hi, fun t x ht hx => by rw [e (7 + t) x (by omega)]; exact h.un ht hx, fun t ht => ?_, fun i hi => ?_, by rw [e 6 1 (by decide)]; exact h.min, by rw [e 6 0 (by decide)]; exact h.s01⟩
  · rw [fsD_congr (d := d) fun i _ => e (7 + t) i (by omega)]; exact h.fs ht
  · have hi : i < dU d + 1 := hi
    by_cases hl : i = dU d
    · have g3 : dF (askD q d (nI k) (nI n)) 3 i = nI k := (if_pos ⟨hl, by decide⟩).trans (if_pos rfl)
      have g4 : dF (askD q d (nI k) (nI n)) 4 i = nI n := (if_pos ⟨hl, by decide⟩).trans ((if_neg (by decide)).trans (if_pos rfl))
      rw [g3, g4]
      exact ⟨⟨k, hk, rfl⟩, n, g1, g2, rfl⟩
    · have g3 : dF (askD q d (nI k) (nI n)) 3 i = dF d 3 i := if_neg (fun z => hl z.1)
      have g4 : dF (askD q d (nI k) (nI n)) 4 i = dF d 4 i := if_neg (fun z => hl z.1)
      rw [g3, g4]
      exact h.tu (by omega)
abbrev R_X10_change : Room := { frames := 9, cells := 0, slots := 0, locals := 182 }
abbrev RX_X10_change : Room := { frames := 9, cells := 1, slots := 6, locals := 182 }

theorem c_change (h : CrV μ p q d H S) (hd : GdD q d) (hgo : goD q d) {i c : Nat} (hi : i < dP d) (hc : c < pC q) (hne : ¬ dF d 0 i = nI c) (hfr : ¬ pF q 0 c - paD d (nI c) < 1) : CV Y_X10_change R_X10_change [.ref 0, .int (nI i), .int (nI c)] μ (fun v V => v = some (.int (dF d 0 i)) ∧ ActQ μ V p q (cellD (cellD d 0 i (nI c)) 2 i (-1)) (pushH H d) S) := by
  have hw := h.wf
  have hv := h.fv
  have hq := h.pv
  have h01 := hd.s01
  have hC4 := hq.C4
  have hM4 := hq.M4
  have hT4 := hq.T4
  have hP4 := hv.P4
  have hU4 := hv.U4
  refine CV.ent yk_X10_change (Nat.le_of_ble_eq_true rfl) ?_
  refine lf (a_aload_n dX10_change_0 rfl) ?_
  refine lf (a_iload_n dX10_change_1 rfl) ?_
  refine lf (a_inv (b2 := (0, 0)) (c_requirePassenger (by repeat (first | with_reducible exact hw | with_reducible exact hwc | with_reducible assumption | with_reducible apply Wf.sI | with_reducible apply Wf.sL | with_reducible apply Wf.cpI | with_reducible apply Wf.cpL | with_reducible apply Wf.cp2 | with_reducible apply Wf.sIs | with_reducible apply Wf.sLs | with_reducible apply Wf.cpU | with_reducible apply Wf.fillI | with_reducible apply Wf.clU | with_reducible apply Wf.dnF | with_reducible apply Wf.gbW)) hv hq hi) rfl dX10_change_2 yk_X10_requirePassenger im_X10_requirePassenger se_X10_requirePassenger ml_X10_256 rfl (co_0 (by repeat (first | with_reducible exact hw | with_reducible exact hwc | with_reducible assumption | with_reducible apply Wf.sI | with_reducible apply Wf.sL | with_reducible apply Wf.cpI | with_reducible apply Wf.cpL | with_reducible apply Wf.cp2 | with_reducible apply Wf.sIs | with_reducible apply Wf.sLs | with_reducible apply Wf.cpU | with_reducible apply Wf.fillI | with_reducible apply Wf.clU | with_reducible apply Wf.dnF | with_reducible apply Wf.gbW))) (by decide) hc_X10 (by decide) (by decide) (Nat.le_of_ble_eq_true rfl)) ?_
  refine lf (a_aload_n dX10_change_5 rfl) ?_
  refine lf (a_iload_n dX10_change_6 rfl) ?_
  refine lf (a_inv (b2 := (0, 0)) (c_requireCabin (by repeat (first | with_reducible exact hw | with_reducible exact hwc | with_reducible assumption | with_reducible apply Wf.sI | with_reducible apply Wf.sL | with_reducible apply Wf.cpI | with_reducible apply Wf.cpL | with_reducible apply Wf.cp2 | with_reducible apply Wf.sIs | with_reducible apply Wf.sLs | with_reducible apply Wf.cpU | with_reducible apply Wf.fillI | with_reducible apply Wf.clU | with_reducible apply Wf.dnF | with_reducible apply Wf.gbW)) hv hq hc) rfl dX10_change_7 yk_X10_requireCabin im_X10_requireCabin se_X10_requireCabin ml_X10_175 rfl (co_0 (by repeat (first | with_reducible exact hw | with_reducible exact hwc | with_reducible assumption | with_reducible apply Wf.sI | with_reducible apply Wf.sL | with_reducible apply Wf.cpI | with_reducible apply Wf.cpL | with_reducible apply Wf.cp2 | with_reducible apply Wf.sIs | with_reducible apply Wf.sLs | with_reducible apply Wf.cpU | with_reducible apply Wf.fillI | with_reducible apply Wf.clU | with_reducible apply Wf.dnF | with_reducible apply Wf.gbW))) (by decide) hc_X10 (by decide) (by decide) (Nat.le_of_ble_eq_true rfl)) ?_
  refine lf (a_aload_n dX10_change_10 rfl) ?_
  refine lf (a_getR (cr_0_7 (by repeat (first | with_reducible exact hw | with_reducible exact hwc | with_reducible assumption | with_reducible apply Wf.sI | with_reducible apply Wf.sL | with_reducible apply Wf.cpI | with_reducible apply Wf.cpL | with_reducible apply Wf.cp2 | with_reducible apply Wf.sIs | with_reducible apply Wf.sLs | with_reducible apply Wf.cpU | with_reducible apply Wf.fillI | with_reducible apply Wf.clU | with_reducible apply Wf.dnF | with_reducible apply Wf.gbW))) dX10_change_11 fs_X10_28 rfl (co_0 (by repeat (first | with_reducible exact hw | with_reducible exact hwc | with_reducible assumption | with_reducible apply Wf.sI | with_reducible apply Wf.sL | with_reducible apply Wf.cpI | with_reducible apply Wf.cpL | with_reducible apply Wf.cp2 | with_reducible apply Wf.sIs | with_reducible apply Wf.sLs | with_reducible apply Wf.cpU | with_reducible apply Wf.fillI | with_reducible apply Wf.clU | with_reducible apply Wf.dnF | with_reducible apply Wf.gbW)))) ?_
  refine lf (a_getR (fl_r4 (by repeat (first | with_reducible exact hw | with_reducible exact hwc | with_reducible assumption | with_reducible apply Wf.sI | with_reducible apply Wf.sL | with_reducible apply Wf.cpI | with_reducible apply Wf.cpL | with_reducible apply Wf.cp2 | with_reducible apply Wf.sIs | with_reducible apply Wf.sLs | with_reducible apply Wf.cpU | with_reducible apply Wf.fillI | with_reducible apply Wf.clU | with_reducible apply Wf.dnF | with_reducible apply Wf.gbW)) fl_now) dX10_change_14 fs_X10_259 rfl (fl_o (by repeat (first | with_reducible exact hw | with_reducible exact hwc | with_reducible assumption | with_reducible apply Wf.sI | with_reducible apply Wf.sL | with_reducible apply Wf.cpI | with_reducible apply Wf.cpL | with_reducible apply Wf.cp2 | with_reducible apply Wf.sIs | with_reducible apply Wf.sLs | with_reducible apply Wf.cpU | with_reducible apply Wf.fillI | with_reducible apply Wf.clU | with_reducible apply Wf.dnF | with_reducible apply Wf.gbW)) fl_now)) ?_
  refine lf (a_iload_n dX10_change_17 rfl) ?_
  refine lf (a_ild dX10_change_18 (fl_a1 (by repeat (first | with_reducible exact hw | with_reducible exact hwc | with_reducible assumption | with_reducible apply Wf.sI | with_reducible apply Wf.sL | with_reducible apply Wf.cpI | with_reducible apply Wf.cpL | with_reducible apply Wf.cp2 | with_reducible apply Wf.sIs | with_reducible apply Wf.sLs | with_reducible apply Wf.cpU | with_reducible apply Wf.fillI | with_reducible apply Wf.clU | with_reducible apply Wf.dnF | with_reducible apply Wf.gbW)) fl_now) (ixn (show i < 40 by omega) (by decide))) ?_
  rw [hv.cab hi]
  refine lf (a_istore_n dX10_change_19 (by decide)) ?_
  refine lf (a_iload_n dX10_change_20 rfl) ?_
  refine lf (a_iload_n dX10_change_21 rfl) ?_
  refine lfn (a_icmp_ne (tgt := 36) dX10_change_22 (by decide)) (fun h22 => ?_) (fun h22 => absurd h22 hne)
  refine lf (a_aload_n dX10_change_36 rfl) ?_
  refine lf (a_inv (b2 := (0, 0)) (c_requireFlight (by repeat (first | with_reducible exact hw | with_reducible exact hwc | with_reducible assumption | with_reducible apply Wf.sI | with_reducible apply Wf.sL | with_reducible apply Wf.cpI | with_reducible apply Wf.cpL | with_reducible apply Wf.cp2 | with_reducible apply Wf.sIs | with_reducible apply Wf.sLs | with_reducible apply Wf.cpU | with_reducible apply Wf.fillI | with_reducible apply Wf.clU | with_reducible apply Wf.dnF | with_reducible apply Wf.gbW)) hv hq hgo) rfl dX10_change_37 yk_X10_requireFlight im_X10_requireFlight se_X10_requireFlight ml_X10_320 rfl (co_0 (by repeat (first | with_reducible exact hw | with_reducible exact hwc | with_reducible assumption | with_reducible apply Wf.sI | with_reducible apply Wf.sL | with_reducible apply Wf.cpI | with_reducible apply Wf.cpL | with_reducible apply Wf.cp2 | with_reducible apply Wf.sIs | with_reducible apply Wf.sLs | with_reducible apply Wf.cpU | with_reducible apply Wf.fillI | with_reducible apply Wf.clU | with_reducible apply Wf.dnF | with_reducible apply Wf.gbW))) (by decide) hc_X10 (by decide) (by decide) (Nat.le_of_ble_eq_true rfl)) ?_
  refine lf (a_aload_n dX10_change_40 rfl) ?_
  refine lf (a_iload_n dX10_change_41 rfl) ?_
  refine lf (a_inv (b2 := (0, 0)) (c_requireSeat (by repeat (first | with_reducible exact hw | with_reducible exact hwc | with_reducible assumption | with_reducible apply Wf.sI | with_reducible apply Wf.sL | with_reducible apply Wf.cpI | with_reducible apply Wf.cpL | with_reducible apply Wf.cp2 | with_reducible apply Wf.sIs | with_reducible apply Wf.sLs | with_reducible apply Wf.cpU | with_reducible apply Wf.fillI | with_reducible apply Wf.clU | with_reducible apply Wf.dnF | with_reducible apply Wf.gbW)) hv hq hc hfr) rfl dX10_change_42 yk_X10_requireSeat im_X10_requireSeat se_X10_requireSeat ml_X10_326 rfl (co_0 (by repeat (first | with_reducible exact hw | with_reducible exact hwc | with_reducible assumption | with_reducible apply Wf.sI | with_reducible apply Wf.sL | with_reducible apply Wf.cpI | with_reducible apply Wf.cpL | with_reducible apply Wf.cp2 | with_reducible apply Wf.sIs | with_reducible apply Wf.sLs | with_reducible apply Wf.cpU | with_reducible apply Wf.fillI | with_reducible apply Wf.clU | with_reducible apply Wf.dnF | with_reducible apply Wf.gbW))) (by decide) hc_X10 (by decide) (by decide) (Nat.le_of_ble_eq_true rfl)) ?_
  refine lf (a_aload_n dX10_change_45 rfl) ?_
  obtain ⟨v_, W46, k46, rfl, hC, h17, hO1, hE1⟩ := (h.push h01)
  have hwc := hC.wf
  have hv2 := hC.fv
  have hq2 := hC.pv
  refine lf (a_inv (b2 := (0, 0)) k46 rfl dX10_change_46 yk_X10_beginAct im_X10_beginAct se_X10_beginAct ml_X10_329 rfl (co_0 (by repeat (first | with_reducible exact hw | with_reducible exact hwc | with_reducible assumption | with_reducible apply Wf.sI | with_reducible apply Wf.sL | with_reducible apply Wf.cpI | with_reducible apply Wf.cpL | with_reducible apply Wf.cp2 | with_reducible apply Wf.sIs | with_reducible apply Wf.sLs | with_reducible apply Wf.cpU | with_reducible apply Wf.fillI | with_reducible apply Wf.clU | with_reducible apply Wf.dnF | with_reducible apply Wf.gbW))) (by decide) hc_X10 (by decide) (by decide) (Nat.le_of_ble_eq_true rfl)) ?_
  refine lf (a_aload_n dX10_change_49 rfl) ?_
  refine lf (a_getR (cr_0_7 (by repeat (first | with_reducible exact hw | with_reducible exact hwc | with_reducible assumption | with_reducible apply Wf.sI | with_reducible apply Wf.sL | with_reducible apply Wf.cpI | with_reducible apply Wf.cpL | with_reducible apply Wf.cp2 | with_reducible apply Wf.sIs | with_reducible apply Wf.sLs | with_reducible apply Wf.cpU | with_reducible apply Wf.fillI | with_reducible apply Wf.clU | with_reducible apply Wf.dnF | with_reducible apply Wf.gbW))) dX10_change_50 fs_X10_28 rfl (co_0 (by repeat (first | with_reducible exact hw | with_reducible exact hwc | with_reducible assumption | with_reducible apply Wf.sI | with_reducible apply Wf.sL | with_reducible apply Wf.cpI | with_reducible apply Wf.cpL | with_reducible apply Wf.cp2 | with_reducible apply Wf.sIs | with_reducible apply Wf.sLs | with_reducible apply Wf.cpU | with_reducible apply Wf.fillI | with_reducible apply Wf.clU | with_reducible apply Wf.dnF | with_reducible apply Wf.gbW)))) ?_
  refine lf (a_getR (fl_r4 (by repeat (first | with_reducible exact hw | with_reducible exact hwc | with_reducible assumption | with_reducible apply Wf.sI | with_reducible apply Wf.sL | with_reducible apply Wf.cpI | with_reducible apply Wf.cpL | with_reducible apply Wf.cp2 | with_reducible apply Wf.sIs | with_reducible apply Wf.sLs | with_reducible apply Wf.cpU | with_reducible apply Wf.fillI | with_reducible apply Wf.clU | with_reducible apply Wf.dnF | with_reducible apply Wf.gbW)) fl_now) dX10_change_53 fs_X10_259 rfl (fl_o (by repeat (first | with_reducible exact hw | with_reducible exact hwc | with_reducible assumption | with_reducible apply Wf.sI | with_reducible apply Wf.sL | with_reducible apply Wf.cpI | with_reducible apply Wf.cpL | with_reducible apply Wf.cp2 | with_reducible apply Wf.sIs | with_reducible apply Wf.sLs | with_reducible apply Wf.cpU | with_reducible apply Wf.fillI | with_reducible apply Wf.clU | with_reducible apply Wf.dnF | with_reducible apply Wf.gbW)) fl_now)) ?_
  refine lf (a_iload_n dX10_change_56 rfl) ?_
  refine lf (a_iload_n dX10_change_57 rfl) ?_
  refine lf (a_ist dX10_change_58 (fl_a1 (by repeat (first | with_reducible exact hw | with_reducible exact hwc | with_reducible assumption | with_reducible apply Wf.sI | with_reducible apply Wf.sL | with_reducible apply Wf.cpI | with_reducible apply Wf.cpL | with_reducible apply Wf.cp2 | with_reducible apply Wf.sIs | with_reducible apply Wf.sLs | with_reducible apply Wf.cpU | with_reducible apply Wf.fillI | with_reducible apply Wf.clU | with_reducible apply Wf.dnF | with_reducible apply Wf.gbW)) fl_now) (ixn (show i < 40 by omega) (by decide))) ?_
  refine lf (a_aload_n dX10_change_59 rfl) ?_
  refine lf (a_getR (cr_0_7 (by repeat (first | with_reducible exact hw | with_reducible exact hwc | with_reducible assumption | with_reducible apply Wf.sI | with_reducible apply Wf.sL | with_reducible apply Wf.cpI | with_reducible apply Wf.cpL | with_reducible apply Wf.cp2 | with_reducible apply Wf.sIs | with_reducible apply Wf.sLs | with_reducible apply Wf.cpU | with_reducible apply Wf.fillI | with_reducible apply Wf.clU | with_reducible apply Wf.dnF | with_reducible apply Wf.gbW))) dX10_change_60 fs_X10_28 rfl (co_0 (by repeat (first | with_reducible exact hw | with_reducible exact hwc | with_reducible assumption | with_reducible apply Wf.sI | with_reducible apply Wf.sL | with_reducible apply Wf.cpI | with_reducible apply Wf.cpL | with_reducible apply Wf.cp2 | with_reducible apply Wf.sIs | with_reducible apply Wf.sLs | with_reducible apply Wf.cpU | with_reducible apply Wf.fillI | with_reducible apply Wf.clU | with_reducible apply Wf.dnF | with_reducible apply Wf.gbW)))) ?_
  refine lf (a_getR (fl_r6 (by repeat (first | with_reducible exact hw | with_reducible exact hwc | with_reducible assumption | with_reducible apply Wf.sI | with_reducible apply Wf.sL | with_reducible apply Wf.cpI | with_reducible apply Wf.cpL | with_reducible apply Wf.cp2 | with_reducible apply Wf.sIs | with_reducible apply Wf.sLs | with_reducible apply Wf.cpU | with_reducible apply Wf.fillI | with_reducible apply Wf.clU | with_reducible apply Wf.dnF | with_reducible apply Wf.gbW)) fl_now) dX10_change_63 fs_X10_265 rfl (fl_o (by repeat (first | with_reducible exact hw | with_reducible exact hwc | with_reducible assumption | with_reducible apply Wf.sI | with_reducible apply Wf.sL | with_reducible apply Wf.cpI | with_reducible apply Wf.cpL | with_reducible apply Wf.cp2 | with_reducible apply Wf.sIs | with_reducible apply Wf.sLs | with_reducible apply Wf.cpU | with_reducible apply Wf.fillI | with_reducible apply Wf.clU | with_reducible apply Wf.dnF | with_reducible apply Wf.gbW)) fl_now)) ?_
  refine lf (a_iload_n dX10_change_66 rfl) ?_
  refine lf (a_iconst (-1 : Int32) dX10_change_67 (by decide)) ?_
  refine lf (a_ist dX10_change_68 (fl_a3 (by repeat (first | with_reducible exact hw | with_reducible exact hwc | with_reducible assumption | with_reducible apply Wf.sI | with_reducible apply Wf.sL | with_reducible apply Wf.cpI | with_reducible apply Wf.cpL | with_reducible apply Wf.cp2 | with_reducible apply Wf.sIs | with_reducible apply Wf.sLs | with_reducible apply Wf.cpU | with_reducible apply Wf.fillI | with_reducible apply Wf.clU | with_reducible apply Wf.dnF | with_reducible apply Wf.gbW)) fl_now) (ixn (show i < 40 by omega) (by decide))) ?_
  refine lf (a_iload_n dX10_change_69 rfl) ?_
  refine ⟨_, _, (a_ireturn dX10_change_70 rfl rfl), ?_⟩
  have hv3 := (hv2.c0 (i := i) (nI c)).c2 (i := i) (-1)
  have hO3 : Out (sFl 24) W46 _ := ((Out.rfl' hwc).sI (S := sFl 24) (i := 24 + 1) ⟨by omega, by omega⟩ i (nI c)).sI (S := sFl 24) (i := 24 + 3) ⟨by omega, by omega⟩ i (-1)
  exact ⟨_, rfl, rfl, ActQ.fin hC h17 hO1 hE1 hO3 hv3⟩

theorem cx_change (hw : Wf μ) (hv : FV μ 24 p d) (hq : PV μ p q) {x y : Int32} (h : ixO x (dP d) = none) : Ct Y_X10_change RX_X10_change [.ref 0, .int x, .int y] μ (.inr NSE) μ := by
  have hC4 := hq.C4
  have hM4 := hq.M4
  have hT4 := hq.T4
  have hP4 := hv.P4
  have hU4 := hv.U4
  refine Ct.ent yk_X10_change (Nat.le_of_ble_eq_true rfl) ?_
  refine a_aload_n dX10_change_0 rfl ?_
  refine a_iload_n dX10_change_1 rfl ?_
  exact a_out rfl rfl (a_invX (cx_requirePassenger hw hv hq h) rfl dX10_change_2 yk_X10_requirePassenger im_X10_requirePassenger se_X10_requirePassenger ml_X10_256 rfl (co_0 hw) (by decide) hc_X10 (by decide) (by decide) (Nat.le_of_ble_eq_true rfl) rfl)

theorem cy_change (hw : Wf μ) (hv : FV μ 24 p d) (hq : PV μ p q) {i : Nat} (hi : i < dP d) {y : Int32} (h : ixO y (pC q) = none) : Ct Y_X10_change RX_X10_change [.ref 0, .int (nI i), .int y] μ (.inr NSE) μ := by
  have hC4 := hq.C4
  have hM4 := hq.M4
  have hT4 := hq.T4
  have hP4 := hv.P4
  have hU4 := hv.U4
  refine Ct.ent yk_X10_change (Nat.le_of_ble_eq_true rfl) ?_
  refine a_aload_n dX10_change_0 rfl ?_
  refine a_iload_n dX10_change_1 rfl ?_
  refine a_inv (b2 := (1, 6)) (c_requirePassenger hw hv hq hi) rfl dX10_change_2 yk_X10_requirePassenger im_X10_requirePassenger se_X10_requirePassenger ml_X10_256 rfl (co_0 hw) (by decide) hc_X10 (by decide) (by decide) (Nat.le_of_ble_eq_true rfl) ?_
  refine a_aload_n dX10_change_5 rfl ?_
  refine a_iload_n dX10_change_6 rfl ?_
  exact a_out rfl rfl (a_invX (cx_requireCabin hw hv hq h) rfl dX10_change_7 yk_X10_requireCabin im_X10_requireCabin se_X10_requireCabin ml_X10_175 rfl (co_0 hw) (by decide) hc_X10 (by decide) (by decide) (Nat.le_of_ble_eq_true rfl) rfl)

theorem cz_change (hw : Wf μ) (hv : FV μ 24 p d) (hq : PV μ p q) {i c : Nat} (hi : i < dP d) (hc : c < pC q) (h : dF d 0 i = nI c) : Ct Y_X10_change RX_X10_change [.ref 0, .int (nI i), .int (nI c)] μ (.inr IAE) μ := by
  have hC4 := hq.C4
  have hM4 := hq.M4
  have hT4 := hq.T4
  have hP4 := hv.P4
  have hU4 := hv.U4
  refine Ct.ent yk_X10_change (Nat.le_of_ble_eq_true rfl) ?_
  refine a_aload_n dX10_change_0 rfl ?_
  refine a_iload_n dX10_change_1 rfl ?_
  refine a_inv (b2 := (1, 6)) (c_requirePassenger hw hv hq hi) rfl dX10_change_2 yk_X10_requirePassenger im_X10_requirePassenger se_X10_requirePassenger ml_X10_256 rfl (co_0 hw) (by decide) hc_X10 (by decide) (by decide) (Nat.le_of_ble_eq_true rfl) ?_
  refine a_aload_n dX10_change_5 rfl ?_
  refine a_iload_n dX10_change_6 rfl ?_
  refine a_inv (b2 := (1, 6)) (c_requireCabin hw hv hq hc) rfl dX10_change_7 yk_X10_requireCabin im_X10_requireCabin se_X10_requireCabin ml_X10_175 rfl (co_0 hw) (by decide) hc_X10 (by decide) (by decide) (Nat.le_of_ble_eq_true rfl) ?_
  refine a_aload_n dX10_change_10 rfl ?_
  refine a_getR (cr_0_7 hw) dX10_change_11 fs_X10_28 rfl (co_0 hw) ?_
  refine a_getR (fl_r4 hw fl_now) dX10_change_14 fs_X10_259 rfl (fl_o hw fl_now) ?_
  refine a_iload_n dX10_change_17 rfl ?_
  refine a_ild dX10_change_18 (fl_a1 hw fl_now) (ixn (show i < 40 by omega) (by decide)) ?_
  rw [hv.cab hi]
  refine a_istore_n dX10_change_19 (by decide) ?_
  refine a_iload_n dX10_change_20 rfl ?_
  refine a_iload_n dX10_change_21 rfl ?_
  refine a_icmp_ne (tgt := 36) dX10_change_22 (by decide) (fun h22 => absurd h22 (fun z => z h)) (fun h22 => ?_)
  exact a_throwSW (n := 56) (tx := "the passenger is in this cabin") (by decide) (by decide) xw_IAE rfl rfl dX10_change_25 dX10_change_28 dX10_change_29 dX10_change_32 dX10_change_35 (by decide) (by decide) (by decide) (by decide) (by decide)

theorem cp_change (hw : Wf μ) (hv : FV μ 24 p d) (hq : PV μ p q) (h : ¬ goD q d) {i c : Nat} (hi : i < dP d) (hc : c < pC q) (hne : ¬ dF d 0 i = nI c) : Ct Y_X10_change RX_X10_change [.ref 0, .int (nI i), .int (nI c)] μ (.inr ISE) (sI μ 0 6 1) := by
  have hC4 := hq.C4
  have hM4 := hq.M4
  have hT4 := hq.T4
  have hP4 := hv.P4
  have hU4 := hv.U4
  refine Ct.ent yk_X10_change (Nat.le_of_ble_eq_true rfl) ?_
  refine a_aload_n dX10_change_0 rfl ?_
  refine a_iload_n dX10_change_1 rfl ?_
  refine a_inv (b2 := (1, 6)) (c_requirePassenger hw hv hq hi) rfl dX10_change_2 yk_X10_requirePassenger im_X10_requirePassenger se_X10_requirePassenger ml_X10_256 rfl (co_0 hw) (by decide) hc_X10 (by decide) (by decide) (Nat.le_of_ble_eq_true rfl) ?_
  refine a_aload_n dX10_change_5 rfl ?_
  refine a_iload_n dX10_change_6 rfl ?_
  refine a_inv (b2 := (1, 6)) (c_requireCabin hw hv hq hc) rfl dX10_change_7 yk_X10_requireCabin im_X10_requireCabin se_X10_requireCabin ml_X10_175 rfl (co_0 hw) (by decide) hc_X10 (by decide) (by decide) (Nat.le_of_ble_eq_true rfl) ?_
  refine a_aload_n dX10_change_10 rfl ?_
  refine a_getR (cr_0_7 hw) dX10_change_11 fs_X10_28 rfl (co_0 hw) ?_
  refine a_getR (fl_r4 hw fl_now) dX10_change_14 fs_X10_259 rfl (fl_o hw fl_now) ?_
  refine a_iload_n dX10_change_17 rfl ?_
  refine a_ild dX10_change_18 (fl_a1 hw fl_now) (ixn (show i < 40 by omega) (by decide)) ?_
  rw [hv.cab hi]
  refine a_istore_n dX10_change_19 (by decide) ?_
  refine a_iload_n dX10_change_20 rfl ?_
  refine a_iload_n dX10_change_21 rfl ?_
  refine a_icmp_ne (tgt := 36) dX10_change_22 (by decide) (fun h22 => ?_) (fun h22 => absurd h22 hne)
  refine a_aload_n dX10_change_36 rfl ?_
  exact a_out rfl rfl (a_invX (cx_requireFlight hw hv hq h) rfl dX10_change_37 yk_X10_requireFlight im_X10_requireFlight se_X10_requireFlight ml_X10_320 rfl (co_0 hw) (by decide) hc_X10 (by decide) (by decide) (Nat.le_of_ble_eq_true rfl) rfl)

theorem cs_change (hw : Wf μ) (hv : FV μ 24 p d) (hq : PV μ p q) (hgo : goD q d) {i c : Nat} (hi : i < dP d) (hc : c < pC q) (hne : ¬ dF d 0 i = nI c) (h : pF q 0 c - paD d (nI c) < 1) : Ct Y_X10_change RX_X10_change [.ref 0, .int (nI i), .int (nI c)] μ (.inr ISE) (sI μ 0 6 9) := by
  have hC4 := hq.C4
  have hM4 := hq.M4
  have hT4 := hq.T4
  have hP4 := hv.P4
  have hU4 := hv.U4
  refine Ct.ent yk_X10_change (Nat.le_of_ble_eq_true rfl) ?_
  refine a_aload_n dX10_change_0 rfl ?_
  refine a_iload_n dX10_change_1 rfl ?_
  refine a_inv (b2 := (1, 6)) (c_requirePassenger hw hv hq hi) rfl dX10_change_2 yk_X10_requirePassenger im_X10_requirePassenger se_X10_requirePassenger ml_X10_256 rfl (co_0 hw) (by decide) hc_X10 (by decide) (by decide) (Nat.le_of_ble_eq_true rfl) ?_
  refine a_aload_n dX10_change_5 rfl ?_
  refine a_iload_n dX10_change_6 rfl ?_
  refine a_inv (b2 := (1, 6)) (c_requireCabin hw hv hq hc) rfl dX10_change_7 yk_X10_requireCabin im_X10_requireCabin se_X10_requireCabin ml_X10_175 rfl (co_0 hw) (by decide) hc_X10 (by decide) (by decide) (Nat.le_of_ble_eq_true rfl) ?_
  refine a_aload_n dX10_change_10 rfl ?_
  refine a_getR (cr_0_7 hw) dX10_change_11 fs_X10_28 rfl (co_0 hw) ?_
  refine a_getR (fl_r4 hw fl_now) dX10_change_14 fs_X10_259 rfl (fl_o hw fl_now) ?_
  refine a_iload_n dX10_change_17 rfl ?_
  refine a_ild dX10_change_18 (fl_a1 hw fl_now) (ixn (show i < 40 by omega) (by decide)) ?_
  rw [hv.cab hi]
  refine a_istore_n dX10_change_19 (by decide) ?_
  refine a_iload_n dX10_change_20 rfl ?_
  refine a_iload_n dX10_change_21 rfl ?_
  refine a_icmp_ne (tgt := 36) dX10_change_22 (by decide) (fun h22 => ?_) (fun h22 => absurd h22 hne)
  refine a_aload_n dX10_change_36 rfl ?_
  refine a_inv (b2 := (1, 6)) (c_requireFlight hw hv hq hgo) rfl dX10_change_37 yk_X10_requireFlight im_X10_requireFlight se_X10_requireFlight ml_X10_320 rfl (co_0 hw) (by decide) hc_X10 (by decide) (by decide) (Nat.le_of_ble_eq_true rfl) ?_
  refine a_aload_n dX10_change_40 rfl ?_
  refine a_iload_n dX10_change_41 rfl ?_
  exact a_out rfl rfl (a_invX (cx_requireSeat hw hv hq hc h) rfl dX10_change_42 yk_X10_requireSeat im_X10_requireSeat se_X10_requireSeat ml_X10_326 rfl (co_0 hw) (by decide) hc_X10 (by decide) (by decide) (Nat.le_of_ble_eq_true rfl) rfl)
abbrev R_X10_unload : Room := { frames := 9, cells := 0, slots := 0, locals := 182 }
abbrev RX_X10_unload : Room := { frames := 9, cells := 1, slots := 6, locals := 182 }

theorem c_unload (h : CrV μ p q d H S) (hd : GdD q d) (hgo : goD q d) {m n : Nat} (hm : m < pM q) (g1 : 1 ≤ n) (g2 : n ≤ 99) (hld : nI n ≤ ldD q d m) : CV Y_X10_unload R_X10_unload [.ref 0, .int (nI m), .int (nI n)] μ (fun v V => v = some (.int (ldD q (toD m (pT q) (nI n) d) m)) ∧ ActQ μ V p q (toD m (pT q) (nI n) d) (pushH H d) S) := by
  have hw := h.wf
  have hv := h.fv
  have hq := h.pv
  have h01 := hd.s01
  have hC4 := hq.C4
  have hM4 := hq.M4
  have hT4 := hq.T4
  have hP4 := hv.P4
  have hU4 := hv.U4
  refine CV.ent yk_X10_unload (Nat.le_of_ble_eq_true rfl) ?_
  refine lf (a_aload_n dX10_unload_0 rfl) ?_
  refine lf (a_iload_n dX10_unload_1 rfl) ?_
  refine lf (a_inv (b2 := (0, 0)) (c_requireMeal (by repeat (first | with_reducible exact hw | with_reducible exact hwc | with_reducible assumption | with_reducible apply Wf.sI | with_reducible apply Wf.sL | with_reducible apply Wf.cpI | with_reducible apply Wf.cpL | with_reducible apply Wf.cp2 | with_reducible apply Wf.sIs | with_reducible apply Wf.sLs | with_reducible apply Wf.cpU | with_reducible apply Wf.fillI | with_reducible apply Wf.clU | with_reducible apply Wf.dnF | with_reducible apply Wf.gbW)) hv hq hm) rfl dX10_unload_2 yk_X10_requireMeal im_X10_requireMeal se_X10_requireMeal ml_X10_212 rfl (co_0 (by repeat (first | with_reducible exact hw | with_reducible exact hwc | with_reducible assumption | with_reducible apply Wf.sI | with_reducible apply Wf.sL | with_reducible apply Wf.cpI | with_reducible apply Wf.cpL | with_reducible apply Wf.cp2 | with_reducible apply Wf.sIs | with_reducible apply Wf.sLs | with_reducible apply Wf.cpU | with_reducible apply Wf.fillI | with_reducible apply Wf.clU | with_reducible apply Wf.dnF | with_reducible apply Wf.gbW))) (by decide) hc_X10 (by decide) (by decide) (Nat.le_of_ble_eq_true rfl)) ?_
  refine lf (a_aload_n dX10_unload_5 rfl) ?_
  refine lf (a_iload_n dX10_unload_6 rfl) ?_
  refine lf (a_inv (b2 := (0, 0)) (c_requireUnits (by repeat (first | with_reducible exact hw | with_reducible exact hwc | with_reducible assumption | with_reducible apply Wf.sI | with_reducible apply Wf.sL | with_reducible apply Wf.cpI | with_reducible apply Wf.cpL | with_reducible apply Wf.cp2 | with_reducible apply Wf.sIs | with_reducible apply Wf.sLs | with_reducible apply Wf.cpU | with_reducible apply Wf.fillI | with_reducible apply Wf.clU | with_reducible apply Wf.dnF | with_reducible apply Wf.gbW)) hv hq g1 g2) rfl dX10_unload_7 yk_X10_requireUnits im_X10_requireUnits se_X10_requireUnits ml_X10_347 rfl (co_0 (by repeat (first | with_reducible exact hw | with_reducible exact hwc | with_reducible assumption | with_reducible apply Wf.sI | with_reducible apply Wf.sL | with_reducible apply Wf.cpI | with_reducible apply Wf.cpL | with_reducible apply Wf.cp2 | with_reducible apply Wf.sIs | with_reducible apply Wf.sLs | with_reducible apply Wf.cpU | with_reducible apply Wf.fillI | with_reducible apply Wf.clU | with_reducible apply Wf.dnF | with_reducible apply Wf.gbW))) (by decide) hc_X10 (by decide) (by decide) (Nat.le_of_ble_eq_true rfl)) ?_
  refine lf (a_aload_n dX10_unload_10 rfl) ?_
  refine lf (a_inv (b2 := (0, 0)) (c_requireFlight (by repeat (first | with_reducible exact hw | with_reducible exact hwc | with_reducible assumption | with_reducible apply Wf.sI | with_reducible apply Wf.sL | with_reducible apply Wf.cpI | with_reducible apply Wf.cpL | with_reducible apply Wf.cp2 | with_reducible apply Wf.sIs | with_reducible apply Wf.sLs | with_reducible apply Wf.cpU | with_reducible apply Wf.fillI | with_reducible apply Wf.clU | with_reducible apply Wf.dnF | with_reducible apply Wf.gbW)) hv hq hgo) rfl dX10_unload_11 yk_X10_requireFlight im_X10_requireFlight se_X10_requireFlight ml_X10_320 rfl (co_0 (by repeat (first | with_reducible exact hw | with_reducible exact hwc | with_reducible assumption | with_reducible apply Wf.sI | with_reducible apply Wf.sL | with_reducible apply Wf.cpI | with_reducible apply Wf.cpL | with_reducible apply Wf.cp2 | with_reducible apply Wf.sIs | with_reducible apply Wf.sLs | with_reducible apply Wf.cpU | with_reducible apply Wf.fillI | with_reducible apply Wf.clU | with_reducible apply Wf.dnF | with_reducible apply Wf.gbW))) (by decide) hc_X10 (by decide) (by decide) (Nat.le_of_ble_eq_true rfl)) ?_
  refine lf (a_aload_n dX10_unload_14 rfl) ?_
  refine lf (a_getR (cr_0_7 (by repeat (first | with_reducible exact hw | with_reducible exact hwc | with_reducible assumption | with_reducible apply Wf.sI | with_reducible apply Wf.sL | with_reducible apply Wf.cpI | with_reducible apply Wf.cpL | with_reducible apply Wf.cp2 | with_reducible apply Wf.sIs | with_reducible apply Wf.sLs | with_reducible apply Wf.cpU | with_reducible apply Wf.fillI | with_reducible apply Wf.clU | with_reducible apply Wf.dnF | with_reducible apply Wf.gbW))) dX10_unload_15 fs_X10_28 rfl (co_0 (by repeat (first | with_reducible exact hw | with_reducible exact hwc | with_reducible assumption | with_reducible apply Wf.sI | with_reducible apply Wf.sL | with_reducible apply Wf.cpI | with_reducible apply Wf.cpL | with_reducible apply Wf.cp2 | with_reducible apply Wf.sIs | with_reducible apply Wf.sLs | with_reducible apply Wf.cpU | with_reducible apply Wf.fillI | with_reducible apply Wf.clU | with_reducible apply Wf.dnF | with_reducible apply Wf.gbW)))) ?_
  refine lf (a_iload_n dX10_unload_18 rfl) ?_
  refine lf (a_inv (b2 := (0, 0)) (v_X1_loadedOf (by repeat (first | with_reducible exact hw | with_reducible exact hwc | with_reducible assumption | with_reducible apply Wf.sI | with_reducible apply Wf.sL | with_reducible apply Wf.cpI | with_reducible apply Wf.cpL | with_reducible apply Wf.cp2 | with_reducible apply Wf.sIs | with_reducible apply Wf.sLs | with_reducible apply Wf.cpU | with_reducible apply Wf.fillI | with_reducible apply Wf.clU | with_reducible apply Wf.dnF | with_reducible apply Wf.gbW)) hv hq (show m < 12 by omega)) rfl dX10_unload_19 yk_X1_loadedOf im_X1_loadedOf se_X1_loadedOf ml_X10_233 rfl (fl_o (by repeat (first | with_reducible exact hw | with_reducible exact hwc | with_reducible assumption | with_reducible apply Wf.sI | with_reducible apply Wf.sL | with_reducible apply Wf.cpI | with_reducible apply Wf.cpL | with_reducible apply Wf.cp2 | with_reducible apply Wf.sIs | with_reducible apply Wf.sLs | with_reducible apply Wf.cpU | with_reducible apply Wf.fillI | with_reducible apply Wf.clU | with_reducible apply Wf.dnF | with_reducible apply Wf.gbW)) fl_now) (by decide) hc_X1 (by decide) (by decide) (Nat.le_of_ble_eq_true rfl)) ?_
  refine lf (a_iload_n dX10_unload_22 rfl) ?_
  refine lf2 (a_icmp_ge (tgt := 31) dX10_unload_23 (by decide)) (fun h23 => ?_) (fun h23 => absurd h23 (fun z => z hld))
  refine lf (a_aload_n dX10_unload_31 rfl) ?_
  obtain ⟨v_, W32, k32, rfl, hC, h17, hO1, hE1⟩ := (h.push h01)
  have hwc := hC.wf
  have hv2 := hC.fv
  have hq2 := hC.pv
  refine lf (a_inv (b2 := (0, 0)) k32 rfl dX10_unload_32 yk_X10_beginAct im_X10_beginAct se_X10_beginAct ml_X10_329 rfl (co_0 (by repeat (first | with_reducible exact hw | with_reducible exact hwc | with_reducible assumption | with_reducible apply Wf.sI | with_reducible apply Wf.sL | with_reducible apply Wf.cpI | with_reducible apply Wf.cpL | with_reducible apply Wf.cp2 | with_reducible apply Wf.sIs | with_reducible apply Wf.sLs | with_reducible apply Wf.cpU | with_reducible apply Wf.fillI | with_reducible apply Wf.clU | with_reducible apply Wf.dnF | with_reducible apply Wf.gbW))) (by decide) hc_X10 (by decide) (by decide) (Nat.le_of_ble_eq_true rfl)) ?_
  refine lf (a_aload_n dX10_unload_35 rfl) ?_
  refine lf (a_getR (cr_0_7 (by repeat (first | with_reducible exact hw | with_reducible exact hwc | with_reducible assumption | with_reducible apply Wf.sI | with_reducible apply Wf.sL | with_reducible apply Wf.cpI | with_reducible apply Wf.cpL | with_reducible apply Wf.cp2 | with_reducible apply Wf.sIs | with_reducible apply Wf.sLs | with_reducible apply Wf.cpU | with_reducible apply Wf.fillI | with_reducible apply Wf.clU | with_reducible apply Wf.dnF | with_reducible apply Wf.gbW))) dX10_unload_36 fs_X10_28 rfl (co_0 (by repeat (first | with_reducible exact hw | with_reducible exact hwc | with_reducible assumption | with_reducible apply Wf.sI | with_reducible apply Wf.sL | with_reducible apply Wf.cpI | with_reducible apply Wf.cpL | with_reducible apply Wf.cp2 | with_reducible apply Wf.sIs | with_reducible apply Wf.sLs | with_reducible apply Wf.cpU | with_reducible apply Wf.fillI | with_reducible apply Wf.clU | with_reducible apply Wf.dnF | with_reducible apply Wf.gbW)))) ?_
  refine lf (a_iload_n dX10_unload_39 rfl) ?_
  refine lf (a_iload_n dX10_unload_40 rfl) ?_
  obtain ⟨v_, W41, k41, rfl, hv3, hO3⟩ := (v_X1_takeOut hwc hv2 hq2 (show m < 12 by omega) (nI n))
  have hwd := hO3.wf
  have hq3 := hq2.fl hv2.fl hO3
  refine lf (a_inv (b2 := (0, 0)) k41 rfl dX10_unload_41 yk_X1_takeOut im_X1_takeOut se_X1_takeOut ml_X10_350 rfl (fl_o (by repeat (first | with_reducible exact hw | with_reducible exact hwc | with_reducible assumption | with_reducible apply Wf.sI | with_reducible apply Wf.sL | with_reducible apply Wf.cpI | with_reducible apply Wf.cpL | with_reducible apply Wf.cp2 | with_reducible apply Wf.sIs | with_reducible apply Wf.sLs | with_reducible apply Wf.cpU | with_reducible apply Wf.fillI | with_reducible apply Wf.clU | with_reducible apply Wf.dnF | with_reducible apply Wf.gbW)) fl_now) (by decide) hc_X1 (by decide) (by decide) (Nat.le_of_ble_eq_true rfl)) ?_
  refine lf (a_aload_n dX10_unload_44 rfl) ?_
  refine lf (a_getR (cr_0_7 (by repeat (first | with_reducible exact hw | with_reducible exact hwc | with_reducible assumption | with_reducible apply Wf.sI | with_reducible apply Wf.sL | with_reducible apply Wf.cpI | with_reducible apply Wf.cpL | with_reducible apply Wf.cp2 | with_reducible apply Wf.sIs | with_reducible apply Wf.sLs | with_reducible apply Wf.cpU | with_reducible apply Wf.fillI | with_reducible apply Wf.clU | with_reducible apply Wf.dnF | with_reducible apply Wf.gbW))) dX10_unload_45 fs_X10_28 rfl (co_0 (by repeat (first | with_reducible exact hw | with_reducible exact hwc | with_reducible assumption | with_reducible apply Wf.sI | with_reducible apply Wf.sL | with_reducible apply Wf.cpI | with_reducible apply Wf.cpL | with_reducible apply Wf.cp2 | with_reducible apply Wf.sIs | with_reducible apply Wf.sLs | with_reducible apply Wf.cpU | with_reducible apply Wf.fillI | with_reducible apply Wf.clU | with_reducible apply Wf.dnF | with_reducible apply Wf.gbW)))) ?_
  refine lf (a_iload_n dX10_unload_48 rfl) ?_
  refine lf (a_inv (b2 := (0, 0)) (v_X1_loadedOf hwd hv3 hq3 (show m < 12 by omega)) rfl dX10_unload_49 yk_X1_loadedOf im_X1_loadedOf se_X1_loadedOf ml_X10_233 rfl (fl_o (by repeat (first | with_reducible exact hw | with_reducible exact hwc | with_reducible assumption | with_reducible apply Wf.sI | with_reducible apply Wf.sL | with_reducible apply Wf.cpI | with_reducible apply Wf.cpL | with_reducible apply Wf.cp2 | with_reducible apply Wf.sIs | with_reducible apply Wf.sLs | with_reducible apply Wf.cpU | with_reducible apply Wf.fillI | with_reducible apply Wf.clU | with_reducible apply Wf.dnF | with_reducible apply Wf.gbW)) fl_now) (by decide) hc_X1 (by decide) (by decide) (Nat.le_of_ble_eq_true rfl)) ?_
  refine ⟨_, _, (a_ireturn dX10_unload_52 rfl rfl), ?_⟩
  exact ⟨_, rfl, rfl, ActQ.fin hC h17 hO1 hE1 hO3 hv3⟩

theorem cx_unload (hw : Wf μ) (hv : FV μ 24 p d) (hq : PV μ p q) {x y : Int32} (h : ixO x (pM q) = none) : Ct Y_X10_unload RX_X10_unload [.ref 0, .int x, .int y] μ (.inr NSE) μ := by
  have hC4 := hq.C4
  have hM4 := hq.M4
  have hT4 := hq.T4
  have hP4 := hv.P4
  have hU4 := hv.U4
  refine Ct.ent yk_X10_unload (Nat.le_of_ble_eq_true rfl) ?_
  refine a_aload_n dX10_unload_0 rfl ?_
  refine a_iload_n dX10_unload_1 rfl ?_
  exact a_out rfl rfl (a_invX (cx_requireMeal hw hv hq h) rfl dX10_unload_2 yk_X10_requireMeal im_X10_requireMeal se_X10_requireMeal ml_X10_212 rfl (co_0 hw) (by decide) hc_X10 (by decide) (by decide) (Nat.le_of_ble_eq_true rfl) rfl)

theorem cy_unload (hw : Wf μ) (hv : FV μ 24 p d) (hq : PV μ p q) {m : Nat} (hm : m < pM q) {y : Int32} (h : unO y = none) : Ct Y_X10_unload RX_X10_unload [.ref 0, .int (nI m), .int y] μ (.inr IAE) μ := by
  have hC4 := hq.C4
  have hM4 := hq.M4
  have hT4 := hq.T4
  have hP4 := hv.P4
  have hU4 := hv.U4
  refine Ct.ent yk_X10_unload (Nat.le_of_ble_eq_true rfl) ?_
  refine a_aload_n dX10_unload_0 rfl ?_
  refine a_iload_n dX10_unload_1 rfl ?_
  refine a_inv (b2 := (1, 6)) (c_requireMeal hw hv hq hm) rfl dX10_unload_2 yk_X10_requireMeal im_X10_requireMeal se_X10_requireMeal ml_X10_212 rfl (co_0 hw) (by decide) hc_X10 (by decide) (by decide) (Nat.le_of_ble_eq_true rfl) ?_
  refine a_aload_n dX10_unload_5 rfl ?_
  refine a_iload_n dX10_unload_6 rfl ?_
  exact a_out rfl rfl (a_invX (cx_requireUnits hw hv hq h) rfl dX10_unload_7 yk_X10_requireUnits im_X10_requireUnits se_X10_requireUnits ml_X10_347 rfl (co_0 hw) (by decide) hc_X10 (by decide) (by decide) (Nat.le_of_ble_eq_true rfl) rfl)

theorem cp_unload (hw : Wf μ) (hv : FV μ 24 p d) (hq : PV μ p q) (h : ¬ goD q d) {m n : Nat} (hm : m < pM q) (g1 : 1 ≤ n) (g2 : n ≤ 99) : Ct Y_X10_unload RX_X10_unload [.ref 0, .int (nI m), .int (nI n)] μ (.inr ISE) (sI μ 0 6 1) := by
  have hC4 := hq.C4
  have hM4 := hq.M4
  have hT4 := hq.T4
  have hP4 := hv.P4
  have hU4 := hv.U4
  refine Ct.ent yk_X10_unload (Nat.le_of_ble_eq_true rfl) ?_
  refine a_aload_n dX10_unload_0 rfl ?_
  refine a_iload_n dX10_unload_1 rfl ?_
  refine a_inv (b2 := (1, 6)) (c_requireMeal hw hv hq hm) rfl dX10_unload_2 yk_X10_requireMeal im_X10_requireMeal se_X10_requireMeal ml_X10_212 rfl (co_0 hw) (by decide) hc_X10 (by decide) (by decide) (Nat.le_of_ble_eq_true rfl) ?_
  refine a_aload_n dX10_unload_5 rfl ?_
  refine a_iload_n dX10_unload_6 rfl ?_
  refine a_inv (b2 := (1, 6)) (c_requireUnits hw hv hq g1 g2) rfl dX10_unload_7 yk_X10_requireUnits im_X10_requireUnits se_X10_requireUnits ml_X10_347 rfl (co_0 hw) (by decide) hc_X10 (by decide) (by decide) (Nat.le_of_ble_eq_true rfl) ?_
  refine a_aload_n dX10_unload_10 rfl ?_
  exact a_out rfl rfl (a_invX (cx_requireFlight hw hv hq h) rfl dX10_unload_11 yk_X10_requireFlight im_X10_requireFlight se_X10_requireFlight ml_X10_320 rfl (co_0 hw) (by decide) hc_X10 (by decide) (by decide) (Nat.le_of_ble_eq_true rfl) rfl)

theorem cr_unload (hw : Wf μ) (hv : FV μ 24 p d) (hq : PV μ p q) (hgo : goD q d) {m n : Nat} (hm : m < pM q) (g1 : 1 ≤ n) (g2 : n ≤ 99) (hld : ¬ nI n ≤ ldD q d m) : Ct Y_X10_unload RX_X10_unload [.ref 0, .int (nI m), .int (nI n)] μ (.inr ISE) (sI μ 0 6 4) := by
  have hC4 := hq.C4
  have hM4 := hq.M4
  have hT4 := hq.T4
  have hP4 := hv.P4
  have hU4 := hv.U4
  refine Ct.ent yk_X10_unload (Nat.le_of_ble_eq_true rfl) ?_
  refine a_aload_n dX10_unload_0 rfl ?_
  refine a_iload_n dX10_unload_1 rfl ?_
  refine a_inv (b2 := (1, 6)) (c_requireMeal hw hv hq hm) rfl dX10_unload_2 yk_X10_requireMeal im_X10_requireMeal se_X10_requireMeal ml_X10_212 rfl (co_0 hw) (by decide) hc_X10 (by decide) (by decide) (Nat.le_of_ble_eq_true rfl) ?_
  refine a_aload_n dX10_unload_5 rfl ?_
  refine a_iload_n dX10_unload_6 rfl ?_
  refine a_inv (b2 := (1, 6)) (c_requireUnits hw hv hq g1 g2) rfl dX10_unload_7 yk_X10_requireUnits im_X10_requireUnits se_X10_requireUnits ml_X10_347 rfl (co_0 hw) (by decide) hc_X10 (by decide) (by decide) (Nat.le_of_ble_eq_true rfl) ?_
  refine a_aload_n dX10_unload_10 rfl ?_
  refine a_inv (b2 := (1, 6)) (c_requireFlight hw hv hq hgo) rfl dX10_unload_11 yk_X10_requireFlight im_X10_requireFlight se_X10_requireFlight ml_X10_320 rfl (co_0 hw) (by decide) hc_X10 (by decide) (by decide) (Nat.le_of_ble_eq_true rfl) ?_
  refine a_aload_n dX10_unload_14 rfl ?_
  refine a_getR (cr_0_7 hw) dX10_unload_15 fs_X10_28 rfl (co_0 hw) ?_
  refine a_iload_n dX10_unload_18 rfl ?_
  refine a_inv (b2 := (1, 6)) (v_X1_loadedOf hw hv hq (show m < 12 by omega)) rfl dX10_unload_19 yk_X1_loadedOf im_X1_loadedOf se_X1_loadedOf ml_X10_233 rfl (fl_o hw fl_now) (by decide) hc_X1 (by decide) (by decide) (Nat.le_of_ble_eq_true rfl) ?_
  refine a_iload_n dX10_unload_22 rfl ?_
  refine a_icmp_ge (tgt := 31) dX10_unload_23 (by decide) (fun h23 => absurd h23 hld) (fun h23 => ?_)
  refine a_aload_n dX10_unload_26 rfl ?_
  refine a_iconst (4 : Int32) dX10_unload_27 (by decide) ?_
  exact a_out rfl rfl (a_invX (cx_refuse hw 4) rfl dX10_unload_28 yk_X10_refuse im_X10_refuse se_X10_refuse ml_X10_323 rfl (co_0 hw) (by decide) hc_X10 (by decide) (by decide) (Nat.le_of_ble_eq_true rfl) rfl)
abbrev R_X10_advance : Room := { frames := 9, cells := 0, slots := 0, locals := 182 }
abbrev RX_X10_advance : Room := { frames := 9, cells := 1, slots := 6, locals := 182 }

theorem c_advance (h : CrV μ p q d H S) (hd : GdD q d) (hq1 : GdP q) (hgo : goD q d) {n : Nat} (g1 : 1 ≤ n) (g2 : n ≤ 999) (hmi : nI n ≤ dF d 6 1) (hd3 : GdD q (cellD d 6 1 (dF d 6 1 - nI n))) : CV Y_X10_advance R_X10_advance [.ref 0, .int (nI n)] μ (fun v V => v = some (.int ((laD q (cellD d 6 1 (dF d 6 1 - nI n))).1)) ∧ ActQ μ V p q ((laD q (cellD d 6 1 (dF d 6 1 - nI n))).2) (pushH H d) S) := by
  have hw := h.wf
  have hv := h.fv
  have hq := h.pv
  have h01 := hd.s01
  have hC4 := hq.C4
  have hM4 := hq.M4
  have hT4 := hq.T4
  have hP4 := hv.P4
  have hU4 := hv.U4
  refine CV.ent yk_X10_advance (Nat.le_of_ble_eq_true rfl) ?_
  refine lf (a_iload_n dX10_advance_0 rfl) ?_
  refine lf (a_iconst (1 : Int32) dX10_advance_1 (by decide)) ?_
  refine lf2 (a_icmp_lt (tgt := 12) dX10_advance_2 (by decide)) (fun h2 => absurd h2 (nI_nlt (b := 1) g1 (by omega))) (fun h2 => ?_)
  refine lf (a_iload_n dX10_advance_5 rfl) ?_
  refine lf (a_sipush (999 : Int32) dX10_advance_6 (by decide)) ?_
  refine lf2 (a_icmp_le (tgt := 23) dX10_advance_9 (by decide)) (fun h9 => ?_) (fun h9 => absurd h9 (fun z => z (nI_le (b := 999) g2 (by decide))))
  refine lf (a_aload_n dX10_advance_23 rfl) ?_
  refine lf (a_inv (b2 := (0, 0)) (c_requireFlight (by repeat (first | with_reducible exact hw | with_reducible exact hwc | with_reducible assumption | with_reducible apply Wf.sI | with_reducible apply Wf.sL | with_reducible apply Wf.cpI | with_reducible apply Wf.cpL | with_reducible apply Wf.cp2 | with_reducible apply Wf.sIs | with_reducible apply Wf.sLs | with_reducible apply Wf.cpU | with_reducible apply Wf.fillI | with_reducible apply Wf.clU | with_reducible apply Wf.dnF | with_reducible apply Wf.gbW)) hv hq hgo) rfl dX10_advance_24 yk_X10_requireFlight im_X10_requireFlight se_X10_requireFlight ml_X10_320 rfl (co_0 (by repeat (first | with_reducible exact hw | with_reducible exact hwc | with_reducible assumption | with_reducible apply Wf.sI | with_reducible apply Wf.sL | with_reducible apply Wf.cpI | with_reducible apply Wf.cpL | with_reducible apply Wf.cp2 | with_reducible apply Wf.sIs | with_reducible apply Wf.sLs | with_reducible apply Wf.cpU | with_reducible apply Wf.fillI | with_reducible apply Wf.clU | with_reducible apply Wf.dnF | with_reducible apply Wf.gbW))) (by decide) hc_X10 (by decide) (by decide) (Nat.le_of_ble_eq_true rfl)) ?_
  refine lf (a_aload_n dX10_advance_27 rfl) ?_
  refine lf (a_getR (cr_0_7 (by repeat (first | with_reducible exact hw | with_reducible exact hwc | with_reducible assumption | with_reducible apply Wf.sI | with_reducible apply Wf.sL | with_reducible apply Wf.cpI | with_reducible apply Wf.cpL | with_reducible apply Wf.cp2 | with_reducible apply Wf.sIs | with_reducible apply Wf.sLs | with_reducible apply Wf.cpU | with_reducible apply Wf.fillI | with_reducible apply Wf.clU | with_reducible apply Wf.dnF | with_reducible apply Wf.gbW))) dX10_advance_28 fs_X10_28 rfl (co_0 (by repeat (first | with_reducible exact hw | with_reducible exact hwc | with_reducible assumption | with_reducible apply Wf.sI | with_reducible apply Wf.sL | with_reducible apply Wf.cpI | with_reducible apply Wf.cpL | with_reducible apply Wf.cp2 | with_reducible apply Wf.sIs | with_reducible apply Wf.sLs | with_reducible apply Wf.cpU | with_reducible apply Wf.fillI | with_reducible apply Wf.clU | with_reducible apply Wf.dnF | with_reducible apply Wf.gbW)))) ?_
  refine lf (a_getI dX10_advance_31 fs_X10_148 rfl (fl_o (by repeat (first | with_reducible exact hw | with_reducible exact hwc | with_reducible assumption | with_reducible apply Wf.sI | with_reducible apply Wf.sL | with_reducible apply Wf.cpI | with_reducible apply Wf.cpL | with_reducible apply Wf.cp2 | with_reducible apply Wf.sIs | with_reducible apply Wf.sLs | with_reducible apply Wf.cpU | with_reducible apply Wf.fillI | with_reducible apply Wf.clU | with_reducible apply Wf.dnF | with_reducible apply Wf.gbW)) fl_now)) ?_
  rw [hv.min]
  refine lf (a_iload_n dX10_advance_34 rfl) ?_
  refine lf2 (a_icmp_ge (tgt := 44) dX10_advance_35 (by decide)) (fun h35 => ?_) (fun h35 => absurd h35 (fun z => z hmi))
  refine lf (a_aload_n dX10_advance_44 rfl) ?_
  obtain ⟨v_, W45, k45, rfl, hC, h17, hO1, hE1⟩ := (h.push h01)
  have hwc := hC.wf
  have hv2 := hC.fv
  have hq2 := hC.pv
  refine lf (a_inv (b2 := (0, 0)) k45 rfl dX10_advance_45 yk_X10_beginAct im_X10_beginAct se_X10_beginAct ml_X10_329 rfl (co_0 (by repeat (first | with_reducible exact hw | with_reducible exact hwc | with_reducible assumption | with_reducible apply Wf.sI | with_reducible apply Wf.sL | with_reducible apply Wf.cpI | with_reducible apply Wf.cpL | with_reducible apply Wf.cp2 | with_reducible apply Wf.sIs | with_reducible apply Wf.sLs | with_reducible apply Wf.cpU | with_reducible apply Wf.fillI | with_reducible apply Wf.clU | with_reducible apply Wf.dnF | with_reducible apply Wf.gbW))) (by decide) hc_X10 (by decide) (by decide) (Nat.le_of_ble_eq_true rfl)) ?_
  refine lf (a_aload_n dX10_advance_48 rfl) ?_
  refine lf (a_getR (cr_0_7 (by repeat (first | with_reducible exact hw | with_reducible exact hwc | with_reducible assumption | with_reducible apply Wf.sI | with_reducible apply Wf.sL | with_reducible apply Wf.cpI | with_reducible apply Wf.cpL | with_reducible apply Wf.cp2 | with_reducible apply Wf.sIs | with_reducible apply Wf.sLs | with_reducible apply Wf.cpU | with_reducible apply Wf.fillI | with_reducible apply Wf.clU | with_reducible apply Wf.dnF | with_reducible apply Wf.gbW))) dX10_advance_49 fs_X10_28 rfl (co_0 (by repeat (first | with_reducible exact hw | with_reducible exact hwc | with_reducible assumption | with_reducible apply Wf.sI | with_reducible apply Wf.sL | with_reducible apply Wf.cpI | with_reducible apply Wf.cpL | with_reducible apply Wf.cp2 | with_reducible apply Wf.sIs | with_reducible apply Wf.sLs | with_reducible apply Wf.cpU | with_reducible apply Wf.fillI | with_reducible apply Wf.clU | with_reducible apply Wf.dnF | with_reducible apply Wf.gbW)))) ?_
  refine lf (a_dup dX10_advance_52 rfl) ?_
  refine lf (a_getI dX10_advance_53 fs_X10_148 rfl (fl_o (by repeat (first | with_reducible exact hw | with_reducible exact hwc | with_reducible assumption | with_reducible apply Wf.sI | with_reducible apply Wf.sL | with_reducible apply Wf.cpI | with_reducible apply Wf.cpL | with_reducible apply Wf.cp2 | with_reducible apply Wf.sIs | with_reducible apply Wf.sLs | with_reducible apply Wf.cpU | with_reducible apply Wf.fillI | with_reducible apply Wf.clU | with_reducible apply Wf.dnF | with_reducible apply Wf.gbW)) fl_now)) ?_
  rw [hv2.min]
  refine lf (a_iload_n dX10_advance_56 rfl) ?_
  refine lf (a_isub dX10_advance_57) ?_
  refine lf (a_putI dX10_advance_58 fs_X10_148 rfl rfl rfl (fl_o (by repeat (first | with_reducible exact hw | with_reducible exact hwc | with_reducible assumption | with_reducible apply Wf.sI | with_reducible apply Wf.sL | with_reducible apply Wf.cpI | with_reducible apply Wf.cpL | with_reducible apply Wf.cp2 | with_reducible apply Wf.sIs | with_reducible apply Wf.sLs | with_reducible apply Wf.cpU | with_reducible apply Wf.fillI | with_reducible apply Wf.clU | with_reducible apply Wf.dnF | with_reducible apply Wf.gbW)) fl_now)) ?_
  have hvx := hv2.c6 (dF d 6 1 - nI n)
  have hOx : Out (sFl 24) W45 _ := (Out.rfl' hwc).sI (S := sFl 24) (i := 24) ⟨by omega, by omega⟩ 2 (dF d 6 1 - nI n)
  have hwx := hOx.wf
  have hqx := hq2.fl hv2.fl hOx
  refine lf (a_aload_n dX10_advance_61 rfl) ?_
  refine lf (a_getR (cr_0_7 (by repeat (first | with_reducible exact hw | with_reducible exact hwc | with_reducible assumption | with_reducible apply Wf.sI | with_reducible apply Wf.sL | with_reducible apply Wf.cpI | with_reducible apply Wf.cpL | with_reducible apply Wf.cp2 | with_reducible apply Wf.sIs | with_reducible apply Wf.sLs | with_reducible apply Wf.cpU | with_reducible apply Wf.fillI | with_reducible apply Wf.clU | with_reducible apply Wf.dnF | with_reducible apply Wf.gbW))) dX10_advance_62 fs_X10_28 rfl (co_0 (by repeat (first | with_reducible exact hw | with_reducible exact hwc | with_reducible assumption | with_reducible apply Wf.sI | with_reducible apply Wf.sL | with_reducible apply Wf.cpI | with_reducible apply Wf.cpL | with_reducible apply Wf.cp2 | with_reducible apply Wf.sIs | with_reducible apply Wf.sLs | with_reducible apply Wf.cpU | with_reducible apply Wf.fillI | with_reducible apply Wf.clU | with_reducible apply Wf.dnF | with_reducible apply Wf.gbW)))) ?_
  obtain ⟨v_, W65, k65, rfl, hv4, hO4⟩ := (v_X1_letArrive hwx hvx hqx hq1 hd3)
  refine lf (a_inv (b2 := (0, 0)) k65 rfl dX10_advance_65 yk_X1_letArrive im_X1_letArrive se_X1_letArrive ml_X10_357 rfl (fl_o (by repeat (first | with_reducible exact hw | with_reducible exact hwc | with_reducible assumption | with_reducible apply Wf.sI | with_reducible apply Wf.sL | with_reducible apply Wf.cpI | with_reducible apply Wf.cpL | with_reducible apply Wf.cp2 | with_reducible apply Wf.sIs | with_reducible apply Wf.sLs | with_reducible apply Wf.cpU | with_reducible apply Wf.fillI | with_reducible apply Wf.clU | with_reducible apply Wf.dnF | with_reducible apply Wf.gbW)) fl_now) (by decide) hc_X1 (by decide) (by decide) (Nat.le_of_ble_eq_true rfl)) ?_
  refine ⟨_, _, (a_ireturn dX10_advance_68 rfl rfl), ?_⟩
  exact ⟨_, rfl, rfl, ActQ.fin hC h17 hO1 hE1 (hOx.trans hO4) hv4⟩

theorem cx_advance (hw : Wf μ) (hv : FV μ 24 p d) (hq : PV μ p q) {x : Int32} (h : x < 1 ∨ 999 < x) : Ct Y_X10_advance RX_X10_advance [.ref 0, .int x] μ (.inr IAE) μ := by
  have hC4 := hq.C4
  have hM4 := hq.M4
  have hT4 := hq.T4
  have hP4 := hv.P4
  have hU4 := hv.U4
  refine Ct.ent yk_X10_advance (Nat.le_of_ble_eq_true rfl) ?_
  by_cases h0 : x < 1
  · refine a_iload_n dX10_advance_0 rfl ?_
    refine a_iconst (1 : Int32) dX10_advance_1 (by decide) ?_
    refine a_icmp_lt (tgt := 12) dX10_advance_2 (by decide) (fun h2 => ?_) (fun h2 => absurd h2 (fun z => z h0))
    exact a_throwSW (n := 58) (tx := "minutes out of range") (by decide) (by decide) xw_IAE rfl rfl dX10_advance_12 dX10_advance_15 dX10_advance_16 dX10_advance_19 dX10_advance_22 (by decide) (by decide) (by decide) (by decide) (by decide)
  · refine a_iload_n dX10_advance_0 rfl ?_
    refine a_iconst (1 : Int32) dX10_advance_1 (by decide) ?_
    refine a_icmp_lt (tgt := 12) dX10_advance_2 (by decide) (fun h2 => absurd h2 h0) (fun h2 => ?_)
    refine a_iload_n dX10_advance_5 rfl ?_
    refine a_sipush (999 : Int32) dX10_advance_6 (by decide) ?_
    refine a_icmp_le (tgt := 23) dX10_advance_9 (by decide) (fun h9 => absurd h9 (Int32.not_le.mpr (h.resolve_left h0))) (fun h9 => ?_)
    exact a_throwSW (n := 58) (tx := "minutes out of range") (by decide) (by decide) xw_IAE rfl rfl dX10_advance_12 dX10_advance_15 dX10_advance_16 dX10_advance_19 dX10_advance_22 (by decide) (by decide) (by decide) (by decide) (by decide)

theorem cp_advance (hw : Wf μ) (hv : FV μ 24 p d) (hq : PV μ p q) (h : ¬ goD q d) {n : Nat} (g1 : 1 ≤ n) (g2 : n ≤ 999) : Ct Y_X10_advance RX_X10_advance [.ref 0, .int (nI n)] μ (.inr ISE) (sI μ 0 6 1) := by
  have hC4 := hq.C4
  have hM4 := hq.M4
  have hT4 := hq.T4
  have hP4 := hv.P4
  have hU4 := hv.U4
  refine Ct.ent yk_X10_advance (Nat.le_of_ble_eq_true rfl) ?_
  refine a_iload_n dX10_advance_0 rfl ?_
  refine a_iconst (1 : Int32) dX10_advance_1 (by decide) ?_
  refine a_icmp_lt (tgt := 12) dX10_advance_2 (by decide) (fun h2 => absurd h2 (nI_nlt (b := 1) g1 (by omega))) (fun h2 => ?_)
  refine a_iload_n dX10_advance_5 rfl ?_
  refine a_sipush (999 : Int32) dX10_advance_6 (by decide) ?_
  refine a_icmp_le (tgt := 23) dX10_advance_9 (by decide) (fun h9 => ?_) (fun h9 => absurd h9 (fun z => z (nI_le (b := 999) g2 (by decide))))
  refine a_aload_n dX10_advance_23 rfl ?_
  exact a_out rfl rfl (a_invX (cx_requireFlight hw hv hq h) rfl dX10_advance_24 yk_X10_requireFlight im_X10_requireFlight se_X10_requireFlight ml_X10_320 rfl (co_0 hw) (by decide) hc_X10 (by decide) (by decide) (Nat.le_of_ble_eq_true rfl) rfl)

theorem cr_advance (hw : Wf μ) (hv : FV μ 24 p d) (hq : PV μ p q) (hgo : goD q d) {n : Nat} (g1 : 1 ≤ n) (g2 : n ≤ 999) (hmi : ¬ nI n ≤ dF d 6 1) : Ct Y_X10_advance RX_X10_advance [.ref 0, .int (nI n)] μ (.inr ISE) (sI μ 0 6 7) := by
  have hC4 := hq.C4
  have hM4 := hq.M4
  have hT4 := hq.T4
  have hP4 := hv.P4
  have hU4 := hv.U4
  refine Ct.ent yk_X10_advance (Nat.le_of_ble_eq_true rfl) ?_
  refine a_iload_n dX10_advance_0 rfl ?_
  refine a_iconst (1 : Int32) dX10_advance_1 (by decide) ?_
  refine a_icmp_lt (tgt := 12) dX10_advance_2 (by decide) (fun h2 => absurd h2 (nI_nlt (b := 1) g1 (by omega))) (fun h2 => ?_)
  refine a_iload_n dX10_advance_5 rfl ?_
  refine a_sipush (999 : Int32) dX10_advance_6 (by decide) ?_
  refine a_icmp_le (tgt := 23) dX10_advance_9 (by decide) (fun h9 => ?_) (fun h9 => absurd h9 (fun z => z (nI_le (b := 999) g2 (by decide))))
  refine a_aload_n dX10_advance_23 rfl ?_
  refine a_inv (b2 := (1, 6)) (c_requireFlight hw hv hq hgo) rfl dX10_advance_24 yk_X10_requireFlight im_X10_requireFlight se_X10_requireFlight ml_X10_320 rfl (co_0 hw) (by decide) hc_X10 (by decide) (by decide) (Nat.le_of_ble_eq_true rfl) ?_
  refine a_aload_n dX10_advance_27 rfl ?_
  refine a_getR (cr_0_7 hw) dX10_advance_28 fs_X10_28 rfl (co_0 hw) ?_
  refine a_getI dX10_advance_31 fs_X10_148 rfl (fl_o hw fl_now) ?_
  rw [hv.min]
  refine a_iload_n dX10_advance_34 rfl ?_
  refine a_icmp_ge (tgt := 44) dX10_advance_35 (by decide) (fun h35 => absurd h35 hmi) (fun h35 => ?_)
  refine a_aload_n dX10_advance_38 rfl ?_
  refine a_bipush (7 : Int32) dX10_advance_39 (by decide) ?_
  exact a_out rfl rfl (a_invX (cx_refuse hw 7) rfl dX10_advance_41 yk_X10_refuse im_X10_refuse se_X10_refuse ml_X10_323 rfl (co_0 hw) (by decide) hc_X10 (by decide) (by decide) (Nat.le_of_ble_eq_true rfl) rfl)
abbrev R_X10_topUp : Room := { frames := 9, cells := 0, slots := 0, locals := 182 }
abbrev RX_X10_topUp : Room := { frames := 9, cells := 1, slots := 6, locals := 182 }

theorem c_topUp (h : CrV μ p q d H S) (hd : GdD q d) (hq1 : GdP q) (hgo : goD q d) {m n : Nat} (hm : m < pM q) (g1 : 1 ≤ n) (g2 : n ≤ 99) (hU : dU d < 6) (hle : pF q 9 3 ≤ dF d 6 1) : CV Y_X10_topUp R_X10_topUp [.ref 0, .int (nI m), .int (nI n)] μ (fun v V => v = some (.int (nI (dU (laD q (askD q d (nI m) (nI n))).2))) ∧ ActQ μ V p q ((laD q (askD q d (nI m) (nI n))).2) (pushH H d) S) := by
  have hw := h.wf
  have hv := h.fv
  have hq := h.pv
  have h01 := hd.s01
  have hC4 := hq.C4
  have hM4 := hq.M4
  have hT4 := hq.T4
  have hP4 := hv.P4
  have hU4 := hv.U4
  refine CV.ent yk_X10_topUp (Nat.le_of_ble_eq_true rfl) ?_
  refine lf (a_aload_n dX10_topUp_0 rfl) ?_
  refine lf (a_iload_n dX10_topUp_1 rfl) ?_
  refine lf (a_inv (b2 := (0, 0)) (c_requireMeal (by repeat (first | with_reducible exact hw | with_reducible exact hwc | with_reducible assumption | with_reducible apply Wf.sI | with_reducible apply Wf.sL | with_reducible apply Wf.cpI | with_reducible apply Wf.cpL | with_reducible apply Wf.cp2 | with_reducible apply Wf.sIs | with_reducible apply Wf.sLs | with_reducible apply Wf.cpU | with_reducible apply Wf.fillI | with_reducible apply Wf.clU | with_reducible apply Wf.dnF | with_reducible apply Wf.gbW)) hv hq hm) rfl dX10_topUp_2 yk_X10_requireMeal im_X10_requireMeal se_X10_requireMeal ml_X10_212 rfl (co_0 (by repeat (first | with_reducible exact hw | with_reducible exact hwc | with_reducible assumption | with_reducible apply Wf.sI | with_reducible apply Wf.sL | with_reducible apply Wf.cpI | with_reducible apply Wf.cpL | with_reducible apply Wf.cp2 | with_reducible apply Wf.sIs | with_reducible apply Wf.sLs | with_reducible apply Wf.cpU | with_reducible apply Wf.fillI | with_reducible apply Wf.clU | with_reducible apply Wf.dnF | with_reducible apply Wf.gbW))) (by decide) hc_X10 (by decide) (by decide) (Nat.le_of_ble_eq_true rfl)) ?_
  refine lf (a_aload_n dX10_topUp_5 rfl) ?_
  refine lf (a_iload_n dX10_topUp_6 rfl) ?_
  refine lf (a_inv (b2 := (0, 0)) (c_requireUnits (by repeat (first | with_reducible exact hw | with_reducible exact hwc | with_reducible assumption | with_reducible apply Wf.sI | with_reducible apply Wf.sL | with_reducible apply Wf.cpI | with_reducible apply Wf.cpL | with_reducible apply Wf.cp2 | with_reducible apply Wf.sIs | with_reducible apply Wf.sLs | with_reducible apply Wf.cpU | with_reducible apply Wf.fillI | with_reducible apply Wf.clU | with_reducible apply Wf.dnF | with_reducible apply Wf.gbW)) hv hq g1 g2) rfl dX10_topUp_7 yk_X10_requireUnits im_X10_requireUnits se_X10_requireUnits ml_X10_347 rfl (co_0 (by repeat (first | with_reducible exact hw | with_reducible exact hwc | with_reducible assumption | with_reducible apply Wf.sI | with_reducible apply Wf.sL | with_reducible apply Wf.cpI | with_reducible apply Wf.cpL | with_reducible apply Wf.cp2 | with_reducible apply Wf.sIs | with_reducible apply Wf.sLs | with_reducible apply Wf.cpU | with_reducible apply Wf.fillI | with_reducible apply Wf.clU | with_reducible apply Wf.dnF | with_reducible apply Wf.gbW))) (by decide) hc_X10 (by decide) (by decide) (Nat.le_of_ble_eq_true rfl)) ?_
  refine lf (a_aload_n dX10_topUp_10 rfl) ?_
  refine lf (a_inv (b2 := (0, 0)) (c_requireFlight (by repeat (first | with_reducible exact hw | with_reducible exact hwc | with_reducible assumption | with_reducible apply Wf.sI | with_reducible apply Wf.sL | with_reducible apply Wf.cpI | with_reducible apply Wf.cpL | with_reducible apply Wf.cp2 | with_reducible apply Wf.sIs | with_reducible apply Wf.sLs | with_reducible apply Wf.cpU | with_reducible apply Wf.fillI | with_reducible apply Wf.clU | with_reducible apply Wf.dnF | with_reducible apply Wf.gbW)) hv hq hgo) rfl dX10_topUp_11 yk_X10_requireFlight im_X10_requireFlight se_X10_requireFlight ml_X10_320 rfl (co_0 (by repeat (first | with_reducible exact hw | with_reducible exact hwc | with_reducible assumption | with_reducible apply Wf.sI | with_reducible apply Wf.sL | with_reducible apply Wf.cpI | with_reducible apply Wf.cpL | with_reducible apply Wf.cp2 | with_reducible apply Wf.sIs | with_reducible apply Wf.sLs | with_reducible apply Wf.cpU | with_reducible apply Wf.fillI | with_reducible apply Wf.clU | with_reducible apply Wf.dnF | with_reducible apply Wf.gbW))) (by decide) hc_X10 (by decide) (by decide) (Nat.le_of_ble_eq_true rfl)) ?_
  refine lf (a_aload_n dX10_topUp_14 rfl) ?_
  refine lf (a_getR (cr_0_7 (by repeat (first | with_reducible exact hw | with_reducible exact hwc | with_reducible assumption | with_reducible apply Wf.sI | with_reducible apply Wf.sL | with_reducible apply Wf.cpI | with_reducible apply Wf.cpL | with_reducible apply Wf.cp2 | with_reducible apply Wf.sIs | with_reducible apply Wf.sLs | with_reducible apply Wf.cpU | with_reducible apply Wf.fillI | with_reducible apply Wf.clU | with_reducible apply Wf.dnF | with_reducible apply Wf.gbW))) dX10_topUp_15 fs_X10_28 rfl (co_0 (by repeat (first | with_reducible exact hw | with_reducible exact hwc | with_reducible assumption | with_reducible apply Wf.sI | with_reducible apply Wf.sL | with_reducible apply Wf.cpI | with_reducible apply Wf.cpL | with_reducible apply Wf.cp2 | with_reducible apply Wf.sIs | with_reducible apply Wf.sLs | with_reducible apply Wf.cpU | with_reducible apply Wf.fillI | with_reducible apply Wf.clU | with_reducible apply Wf.dnF | with_reducible apply Wf.gbW)))) ?_
  refine lf (a_getI dX10_topUp_18 fs_X10_151 rfl (fl_o (by repeat (first | with_reducible exact hw | with_reducible exact hwc | with_reducible assumption | with_reducible apply Wf.sI | with_reducible apply Wf.sL | with_reducible apply Wf.cpI | with_reducible apply Wf.cpL | with_reducible apply Wf.cp2 | with_reducible apply Wf.sIs | with_reducible apply Wf.sLs | with_reducible apply Wf.cpU | with_reducible apply Wf.fillI | with_reducible apply Wf.clU | with_reducible apply Wf.dnF | with_reducible apply Wf.gbW)) fl_now)) ?_
  rw [hv.hU]
  refine lf (a_bipush (6 : Int32) dX10_topUp_21 (by decide)) ?_
  refine lf2 (a_icmp_lt (tgt := 31) dX10_topUp_23 (by decide)) (fun h23 => ?_) (fun h23 => absurd h23 (fun z => z (nI_lt (b := 6) hU (by decide))))
  refine lf (a_aload_n dX10_topUp_31 rfl) ?_
  refine lf (a_getR (cr_0_7 (by repeat (first | with_reducible exact hw | with_reducible exact hwc | with_reducible assumption | with_reducible apply Wf.sI | with_reducible apply Wf.sL | with_reducible apply Wf.cpI | with_reducible apply Wf.cpL | with_reducible apply Wf.cp2 | with_reducible apply Wf.sIs | with_reducible apply Wf.sLs | with_reducible apply Wf.cpU | with_reducible apply Wf.fillI | with_reducible apply Wf.clU | with_reducible apply Wf.dnF | with_reducible apply Wf.gbW))) dX10_topUp_32 fs_X10_28 rfl (co_0 (by repeat (first | with_reducible exact hw | with_reducible exact hwc | with_reducible assumption | with_reducible apply Wf.sI | with_reducible apply Wf.sL | with_reducible apply Wf.cpI | with_reducible apply Wf.cpL | with_reducible apply Wf.cp2 | with_reducible apply Wf.sIs | with_reducible apply Wf.sLs | with_reducible apply Wf.cpU | with_reducible apply Wf.fillI | with_reducible apply Wf.clU | with_reducible apply Wf.dnF | with_reducible apply Wf.gbW)))) ?_
  refine lf (a_getI dX10_topUp_35 fs_X10_148 rfl (fl_o (by repeat (first | with_reducible exact hw | with_reducible exact hwc | with_reducible assumption | with_reducible apply Wf.sI | with_reducible apply Wf.sL | with_reducible apply Wf.cpI | with_reducible apply Wf.cpL | with_reducible apply Wf.cp2 | with_reducible apply Wf.sIs | with_reducible apply Wf.sLs | with_reducible apply Wf.cpU | with_reducible apply Wf.fillI | with_reducible apply Wf.clU | with_reducible apply Wf.dnF | with_reducible apply Wf.gbW)) fl_now)) ?_
  rw [hv.min]
  refine lf (a_aload_n dX10_topUp_38 rfl) ?_
  refine lf (a_getR (cr_0_7 (by repeat (first | with_reducible exact hw | with_reducible exact hwc | with_reducible assumption | with_reducible apply Wf.sI | with_reducible apply Wf.sL | with_reducible apply Wf.cpI | with_reducible apply Wf.cpL | with_reducible apply Wf.cp2 | with_reducible apply Wf.sIs | with_reducible apply Wf.sLs | with_reducible apply Wf.cpU | with_reducible apply Wf.fillI | with_reducible apply Wf.clU | with_reducible apply Wf.dnF | with_reducible apply Wf.gbW))) dX10_topUp_39 fs_X10_28 rfl (co_0 (by repeat (first | with_reducible exact hw | with_reducible exact hwc | with_reducible assumption | with_reducible apply Wf.sI | with_reducible apply Wf.sL | with_reducible apply Wf.cpI | with_reducible apply Wf.cpL | with_reducible apply Wf.cp2 | with_reducible apply Wf.sIs | with_reducible apply Wf.sLs | with_reducible apply Wf.cpU | with_reducible apply Wf.fillI | with_reducible apply Wf.clU | with_reducible apply Wf.dnF | with_reducible apply Wf.gbW)))) ?_
  refine lf (a_getR (hv.rp) dX10_topUp_42 fs_X10_116 rfl (fl_o (by repeat (first | with_reducible exact hw | with_reducible exact hwc | with_reducible assumption | with_reducible apply Wf.sI | with_reducible apply Wf.sL | with_reducible apply Wf.cpI | with_reducible apply Wf.cpL | with_reducible apply Wf.cp2 | with_reducible apply Wf.sIs | with_reducible apply Wf.sLs | with_reducible apply Wf.cpU | with_reducible apply Wf.fillI | with_reducible apply Wf.clU | with_reducible apply Wf.dnF | with_reducible apply Wf.gbW)) fl_now)) ?_
  refine lf (a_getI dX10_topUp_45 fs_X10_170 rfl (pl_o (by repeat (first | with_reducible exact hw | with_reducible exact hwc | with_reducible assumption | with_reducible apply Wf.sI | with_reducible apply Wf.sL | with_reducible apply Wf.cpI | with_reducible apply Wf.cpL | with_reducible apply Wf.cp2 | with_reducible apply Wf.sIs | with_reducible apply Wf.sLs | with_reducible apply Wf.cpU | with_reducible apply Wf.fillI | with_reducible apply Wf.clU | with_reducible apply Wf.dnF | with_reducible apply Wf.gbW)) hq.pl)) ?_
  rw [hq.lead]
  refine lf2 (a_icmp_ge (tgt := 57) dX10_topUp_48 (by decide)) (fun h48 => ?_) (fun h48 => absurd h48 (fun z => z hle))
  refine lf (a_aload_n dX10_topUp_57 rfl) ?_
  obtain ⟨v_, W58, k58, rfl, hC, h17, hO1, hE1⟩ := (h.push h01)
  have hwc := hC.wf
  have hv2 := hC.fv
  have hq2 := hC.pv
  refine lf (a_inv (b2 := (0, 0)) k58 rfl dX10_topUp_58 yk_X10_beginAct im_X10_beginAct se_X10_beginAct ml_X10_329 rfl (co_0 (by repeat (first | with_reducible exact hw | with_reducible exact hwc | with_reducible assumption | with_reducible apply Wf.sI | with_reducible apply Wf.sL | with_reducible apply Wf.cpI | with_reducible apply Wf.cpL | with_reducible apply Wf.cp2 | with_reducible apply Wf.sIs | with_reducible apply Wf.sLs | with_reducible apply Wf.cpU | with_reducible apply Wf.fillI | with_reducible apply Wf.clU | with_reducible apply Wf.dnF | with_reducible apply Wf.gbW))) (by decide) hc_X10 (by decide) (by decide) (Nat.le_of_ble_eq_true rfl)) ?_
  refine lf (a_aload_n dX10_topUp_61 rfl) ?_
  refine lf (a_getR (cr_0_7 (by repeat (first | with_reducible exact hw | with_reducible exact hwc | with_reducible assumption | with_reducible apply Wf.sI | with_reducible apply Wf.sL | with_reducible apply Wf.cpI | with_reducible apply Wf.cpL | with_reducible apply Wf.cp2 | with_reducible apply Wf.sIs | with_reducible apply Wf.sLs | with_reducible apply Wf.cpU | with_reducible apply Wf.fillI | with_reducible apply Wf.clU | with_reducible apply Wf.dnF | with_reducible apply Wf.gbW))) dX10_topUp_62 fs_X10_28 rfl (co_0 (by repeat (first | with_reducible exact hw | with_reducible exact hwc | with_reducible assumption | with_reducible apply Wf.sI | with_reducible apply Wf.sL | with_reducible apply Wf.cpI | with_reducible apply Wf.cpL | with_reducible apply Wf.cp2 | with_reducible apply Wf.sIs | with_reducible apply Wf.sLs | with_reducible apply Wf.cpU | with_reducible apply Wf.fillI | with_reducible apply Wf.clU | with_reducible apply Wf.dnF | with_reducible apply Wf.gbW)))) ?_
  refine lf (a_iload_n dX10_topUp_65 rfl) ?_
  refine lf (a_iload_n dX10_topUp_66 rfl) ?_
  obtain ⟨v_, W67, k67, rfl, hv3, hO3⟩ := (v_X1_askFor hwc hv2 hq2 hU (nI m) (nI n))
  have hwd := hO3.wf
  have hq3 := hq2.fl hv2.fl hO3
  refine lf (a_inv (b2 := (0, 0)) k67 rfl dX10_topUp_67 yk_X1_askFor im_X1_askFor se_X1_askFor ml_X10_354 rfl (fl_o (by repeat (first | with_reducible exact hw | with_reducible exact hwc | with_reducible assumption | with_reducible apply Wf.sI | with_reducible apply Wf.sL | with_reducible apply Wf.cpI | with_reducible apply Wf.cpL | with_reducible apply Wf.cp2 | with_reducible apply Wf.sIs | with_reducible apply Wf.sLs | with_reducible apply Wf.cpU | with_reducible apply Wf.fillI | with_reducible apply Wf.clU | with_reducible apply Wf.dnF | with_reducible apply Wf.gbW)) fl_now) (by decide) hc_X1 (by decide) (by decide) (Nat.le_of_ble_eq_true rfl)) ?_
  refine lf (a_aload_n dX10_topUp_70 rfl) ?_
  refine lf (a_getR (cr_0_7 (by repeat (first | with_reducible exact hw | with_reducible exact hwc | with_reducible assumption | with_reducible apply Wf.sI | with_reducible apply Wf.sL | with_reducible apply Wf.cpI | with_reducible apply Wf.cpL | with_reducible apply Wf.cp2 | with_reducible apply Wf.sIs | with_reducible apply Wf.sLs | with_reducible apply Wf.cpU | with_reducible apply Wf.fillI | with_reducible apply Wf.clU | with_reducible apply Wf.dnF | with_reducible apply Wf.gbW))) dX10_topUp_71 fs_X10_28 rfl (co_0 (by repeat (first | with_reducible exact hw | with_reducible exact hwc | with_reducible assumption | with_reducible apply Wf.sI | with_reducible apply Wf.sL | with_reducible apply Wf.cpI | with_reducible apply Wf.cpL | with_reducible apply Wf.cp2 | with_reducible apply Wf.sIs | with_reducible apply Wf.sLs | with_reducible apply Wf.cpU | with_reducible apply Wf.fillI | with_reducible apply Wf.clU | with_reducible apply Wf.dnF | with_reducible apply Wf.gbW)))) ?_
  obtain ⟨v_, W74, k74, rfl, hv4, hO4⟩ := (v_X1_letArrive hwd hv3 hq3 hq1 (hd.askC hU hm g1 g2))
  have hwe := hO4.wf
  refine lf (a_inv (b2 := (0, 0)) k74 rfl dX10_topUp_74 yk_X1_letArrive im_X1_letArrive se_X1_letArrive ml_X10_357 rfl (fl_o (by repeat (first | with_reducible exact hw | with_reducible exact hwc | with_reducible assumption | with_reducible apply Wf.sI | with_reducible apply Wf.sL | with_reducible apply Wf.cpI | with_reducible apply Wf.cpL | with_reducible apply Wf.cp2 | with_reducible apply Wf.sIs | with_reducible apply Wf.sLs | with_reducible apply Wf.cpU | with_reducible apply Wf.fillI | with_reducible apply Wf.clU | with_reducible apply Wf.dnF | with_reducible apply Wf.gbW)) fl_now) (by decide) hc_X1 (by decide) (by decide) (Nat.le_of_ble_eq_true rfl)) ?_
  refine lf (a_pop dX10_topUp_77 rfl) ?_
  refine lf (a_aload_n dX10_topUp_78 rfl) ?_
  refine lf (a_getR (cr_0_7 (by repeat (first | with_reducible exact hw | with_reducible exact hwc | with_reducible assumption | with_reducible apply Wf.sI | with_reducible apply Wf.sL | with_reducible apply Wf.cpI | with_reducible apply Wf.cpL | with_reducible apply Wf.cp2 | with_reducible apply Wf.sIs | with_reducible apply Wf.sLs | with_reducible apply Wf.cpU | with_reducible apply Wf.fillI | with_reducible apply Wf.clU | with_reducible apply Wf.dnF | with_reducible apply Wf.gbW))) dX10_topUp_79 fs_X10_28 rfl (co_0 (by repeat (first | with_reducible exact hw | with_reducible exact hwc | with_reducible assumption | with_reducible apply Wf.sI | with_reducible apply Wf.sL | with_reducible apply Wf.cpI | with_reducible apply Wf.cpL | with_reducible apply Wf.cp2 | with_reducible apply Wf.sIs | with_reducible apply Wf.sLs | with_reducible apply Wf.cpU | with_reducible apply Wf.fillI | with_reducible apply Wf.clU | with_reducible apply Wf.dnF | with_reducible apply Wf.gbW)))) ?_
  refine lf (a_getI dX10_topUp_82 fs_X10_151 rfl (fl_o (by repeat (first | with_reducible exact hw | with_reducible exact hwc | with_reducible assumption | with_reducible apply Wf.sI | with_reducible apply Wf.sL | with_reducible apply Wf.cpI | with_reducible apply Wf.cpL | with_reducible apply Wf.cp2 | with_reducible apply Wf.sIs | with_reducible apply Wf.sLs | with_reducible apply Wf.cpU | with_reducible apply Wf.fillI | with_reducible apply Wf.clU | with_reducible apply Wf.dnF | with_reducible apply Wf.gbW)) fl_now)) ?_
  rw [hv4.hU]
  refine ⟨_, _, (a_ireturn dX10_topUp_85 rfl rfl), ?_⟩
  exact ⟨_, rfl, rfl, ActQ.fin hC h17 hO1 hE1 (hO3.trans hO4) hv4⟩

theorem cx_topUp (hw : Wf μ) (hv : FV μ 24 p d) (hq : PV μ p q) {x y : Int32} (h : ixO x (pM q) = none) : Ct Y_X10_topUp RX_X10_topUp [.ref 0, .int x, .int y] μ (.inr NSE) μ := by
  have hC4 := hq.C4
  have hM4 := hq.M4
  have hT4 := hq.T4
  have hP4 := hv.P4
  have hU4 := hv.U4
  refine Ct.ent yk_X10_topUp (Nat.le_of_ble_eq_true rfl) ?_
  refine a_aload_n dX10_topUp_0 rfl ?_
  refine a_iload_n dX10_topUp_1 rfl ?_
  exact a_out rfl rfl (a_invX (cx_requireMeal hw hv hq h) rfl dX10_topUp_2 yk_X10_requireMeal im_X10_requireMeal se_X10_requireMeal ml_X10_212 rfl (co_0 hw) (by decide) hc_X10 (by decide) (by decide) (Nat.le_of_ble_eq_true rfl) rfl)

theorem cy_topUp (hw : Wf μ) (hv : FV μ 24 p d) (hq : PV μ p q) {m : Nat} (hm : m < pM q) {y : Int32} (h : unO y = none) : Ct Y_X10_topUp RX_X10_topUp [.ref 0, .int (nI m), .int y] μ (.inr IAE) μ := by
  have hC4 := hq.C4
  have hM4 := hq.M4
  have hT4 := hq.T4
  have hP4 := hv.P4
  have hU4 := hv.U4
  refine Ct.ent yk_X10_topUp (Nat.le_of_ble_eq_true rfl) ?_
  refine a_aload_n dX10_topUp_0 rfl ?_
  refine a_iload_n dX10_topUp_1 rfl ?_
  refine a_inv (b2 := (1, 6)) (c_requireMeal hw hv hq hm) rfl dX10_topUp_2 yk_X10_requireMeal im_X10_requireMeal se_X10_requireMeal ml_X10_212 rfl (co_0 hw) (by decide) hc_X10 (by decide) (by decide) (Nat.le_of_ble_eq_true rfl) ?_
  refine a_aload_n dX10_topUp_5 rfl ?_
  refine a_iload_n dX10_topUp_6 rfl ?_
  exact a_out rfl rfl (a_invX (cx_requireUnits hw hv hq h) rfl dX10_topUp_7 yk_X10_requireUnits im_X10_requireUnits se_X10_requireUnits ml_X10_347 rfl (co_0 hw) (by decide) hc_X10 (by decide) (by decide) (Nat.le_of_ble_eq_true rfl) rfl)

theorem cp_topUp (hw : Wf μ) (hv : FV μ 24 p d) (hq : PV μ p q) (h : ¬ goD q d) {m n : Nat} (hm : m < pM q) (g1 : 1 ≤ n) (g2 : n ≤ 99) : Ct Y_X10_topUp RX_X10_topUp [.ref 0, .int (nI m), .int (nI n)] μ (.inr ISE) (sI μ 0 6 1) := by
  have hC4 := hq.C4
  have hM4 := hq.M4
  have hT4 := hq.T4
  have hP4 := hv.P4
  have hU4 := hv.U4
  refine Ct.ent yk_X10_topUp (Nat.le_of_ble_eq_true rfl) ?_
  refine a_aload_n dX10_topUp_0 rfl ?_
  refine a_iload_n dX10_topUp_1 rfl ?_
  refine a_inv (b2 := (1, 6)) (c_requireMeal hw hv hq hm) rfl dX10_topUp_2 yk_X10_requireMeal im_X10_requireMeal se_X10_requireMeal ml_X10_212 rfl (co_0 hw) (by decide) hc_X10 (by decide) (by decide) (Nat.le_of_ble_eq_true rfl) ?_
  refine a_aload_n dX10_topUp_5 rfl ?_
  refine a_iload_n dX10_topUp_6 rfl ?_
  refine a_inv (b2 := (1, 6)) (c_requireUnits hw hv hq g1 g2) rfl dX10_topUp_7 yk_X10_requireUnits im_X10_requireUnits se_X10_requireUnits ml_X10_347 rfl (co_0 hw) (by decide) hc_X10 (by decide) (by decide) (Nat.le_of_ble_eq_true rfl) ?_
  refine a_aload_n dX10_topUp_10 rfl ?_
  exact a_out rfl rfl (a_invX (cx_requireFlight hw hv hq h) rfl dX10_topUp_11 yk_X10_requireFlight im_X10_requireFlight se_X10_requireFlight ml_X10_320 rfl (co_0 hw) (by decide) hc_X10 (by decide) (by decide) (Nat.le_of_ble_eq_true rfl) rfl)

theorem cr_topUp (hw : Wf μ) (hv : FV μ 24 p d) (hq : PV μ p q) (hgo : goD q d) {m n : Nat} (hm : m < pM q) (g1 : 1 ≤ n) (g2 : n ≤ 99) (hU : 6 ≤ dU d) : Ct Y_X10_topUp RX_X10_topUp [.ref 0, .int (nI m), .int (nI n)] μ (.inr ISE) (sI μ 0 6 5) := by
  have hC4 := hq.C4
  have hM4 := hq.M4
  have hT4 := hq.T4
  have hP4 := hv.P4
  have hU4 := hv.U4
  refine Ct.ent yk_X10_topUp (Nat.le_of_ble_eq_true rfl) ?_
  refine a_aload_n dX10_topUp_0 rfl ?_
  refine a_iload_n dX10_topUp_1 rfl ?_
  refine a_inv (b2 := (1, 6)) (c_requireMeal hw hv hq hm) rfl dX10_topUp_2 yk_X10_requireMeal im_X10_requireMeal se_X10_requireMeal ml_X10_212 rfl (co_0 hw) (by decide) hc_X10 (by decide) (by decide) (Nat.le_of_ble_eq_true rfl) ?_
  refine a_aload_n dX10_topUp_5 rfl ?_
  refine a_iload_n dX10_topUp_6 rfl ?_
  refine a_inv (b2 := (1, 6)) (c_requireUnits hw hv hq g1 g2) rfl dX10_topUp_7 yk_X10_requireUnits im_X10_requireUnits se_X10_requireUnits ml_X10_347 rfl (co_0 hw) (by decide) hc_X10 (by decide) (by decide) (Nat.le_of_ble_eq_true rfl) ?_
  refine a_aload_n dX10_topUp_10 rfl ?_
  refine a_inv (b2 := (1, 6)) (c_requireFlight hw hv hq hgo) rfl dX10_topUp_11 yk_X10_requireFlight im_X10_requireFlight se_X10_requireFlight ml_X10_320 rfl (co_0 hw) (by decide) hc_X10 (by decide) (by decide) (Nat.le_of_ble_eq_true rfl) ?_
  refine a_aload_n dX10_topUp_14 rfl ?_
  refine a_getR (cr_0_7 hw) dX10_topUp_15 fs_X10_28 rfl (co_0 hw) ?_
  refine a_getI dX10_topUp_18 fs_X10_151 rfl (fl_o hw fl_now) ?_
  rw [hv.hU]
  refine a_bipush (6 : Int32) dX10_topUp_21 (by decide) ?_
  refine a_icmp_lt (tgt := 31) dX10_topUp_23 (by decide) (fun h23 => absurd h23 (nI_nlt (b := 6) hU (by omega))) (fun h23 => ?_)
  refine a_aload_n dX10_topUp_26 rfl ?_
  refine a_iconst (5 : Int32) dX10_topUp_27 (by decide) ?_
  exact a_out rfl rfl (a_invX (cx_refuse hw 5) rfl dX10_topUp_28 yk_X10_refuse im_X10_refuse se_X10_refuse ml_X10_323 rfl (co_0 hw) (by decide) hc_X10 (by decide) (by decide) (Nat.le_of_ble_eq_true rfl) rfl)

theorem cs_topUp (hw : Wf μ) (hv : FV μ 24 p d) (hq : PV μ p q) (hgo : goD q d) {m n : Nat} (hm : m < pM q) (g1 : 1 ≤ n) (g2 : n ≤ 99) (hU : dU d < 6) (hle : ¬ pF q 9 3 ≤ dF d 6 1) : Ct Y_X10_topUp RX_X10_topUp [.ref 0, .int (nI m), .int (nI n)] μ (.inr ISE) (sI μ 0 6 6) := by
  have hC4 := hq.C4
  have hM4 := hq.M4
  have hT4 := hq.T4
  have hP4 := hv.P4
  have hU4 := hv.U4
  refine Ct.ent yk_X10_topUp (Nat.le_of_ble_eq_true rfl) ?_
  refine a_aload_n dX10_topUp_0 rfl ?_
  refine a_iload_n dX10_topUp_1 rfl ?_
  refine a_inv (b2 := (1, 6)) (c_requireMeal hw hv hq hm) rfl dX10_topUp_2 yk_X10_requireMeal im_X10_requireMeal se_X10_requireMeal ml_X10_212 rfl (co_0 hw) (by decide) hc_X10 (by decide) (by decide) (Nat.le_of_ble_eq_true rfl) ?_
  refine a_aload_n dX10_topUp_5 rfl ?_
  refine a_iload_n dX10_topUp_6 rfl ?_
  refine a_inv (b2 := (1, 6)) (c_requireUnits hw hv hq g1 g2) rfl dX10_topUp_7 yk_X10_requireUnits im_X10_requireUnits se_X10_requireUnits ml_X10_347 rfl (co_0 hw) (by decide) hc_X10 (by decide) (by decide) (Nat.le_of_ble_eq_true rfl) ?_
  refine a_aload_n dX10_topUp_10 rfl ?_
  refine a_inv (b2 := (1, 6)) (c_requireFlight hw hv hq hgo) rfl dX10_topUp_11 yk_X10_requireFlight im_X10_requireFlight se_X10_requireFlight ml_X10_320 rfl (co_0 hw) (by decide) hc_X10 (by decide) (by decide) (Nat.le_of_ble_eq_true rfl) ?_
  refine a_aload_n dX10_topUp_14 rfl ?_
  refine a_getR (cr_0_7 hw) dX10_topUp_15 fs_X10_28 rfl (co_0 hw) ?_
  refine a_getI dX10_topUp_18 fs_X10_151 rfl (fl_o hw fl_now) ?_
  rw [hv.hU]
  refine a_bipush (6 : Int32) dX10_topUp_21 (by decide) ?_
  refine a_icmp_lt (tgt := 31) dX10_topUp_23 (by decide) (fun h23 => ?_) (fun h23 => absurd h23 (fun z => z (nI_lt (b := 6) hU (by decide))))
  refine a_aload_n dX10_topUp_31 rfl ?_
  refine a_getR (cr_0_7 hw) dX10_topUp_32 fs_X10_28 rfl (co_0 hw) ?_
  refine a_getI dX10_topUp_35 fs_X10_148 rfl (fl_o hw fl_now) ?_
  rw [hv.min]
  refine a_aload_n dX10_topUp_38 rfl ?_
  refine a_getR (cr_0_7 hw) dX10_topUp_39 fs_X10_28 rfl (co_0 hw) ?_
  refine a_getR (hv.rp) dX10_topUp_42 fs_X10_116 rfl (fl_o hw fl_now) ?_
  refine a_getI dX10_topUp_45 fs_X10_170 rfl (pl_o hw hq.pl) ?_
  rw [hq.lead]
  refine a_icmp_ge (tgt := 57) dX10_topUp_48 (by decide) (fun h48 => absurd h48 hle) (fun h48 => ?_)
  refine a_aload_n dX10_topUp_51 rfl ?_
  refine a_bipush (6 : Int32) dX10_topUp_52 (by decide) ?_
  exact a_out rfl rfl (a_invX (cx_refuse hw 6) rfl dX10_topUp_54 yk_X10_refuse im_X10_refuse se_X10_refuse ml_X10_323 rfl (co_0 hw) (by decide) hc_X10 (by decide) (by decide) (Nat.le_of_ble_eq_true rfl) rfl)
end ACTSB
