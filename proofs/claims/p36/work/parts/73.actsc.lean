section ACTSC
variable {μ W V : Wd} {p f g : Nat} {q : PDt} {d d2 : FDt} {H : Hst} {S : Nat → Option FDt}
abbrev R_X10_board : Room := { frames := 9, cells := 0, slots := 0, locals := 182 }
abbrev RX_X10_board : Room := { frames := 9, cells := 1, slots := 6, locals := 182 }

theorem c_board_n (h : CrV μ p q d H S) (hd : GdD q d) (hgo : goD q d) {c n : Nat} (hc : c < pC q) (hn : n < 256) (hP : dP d < 40) (hfr : ¬ pF q 0 c - paD d (nI c) < 1) : CV Y_X10_board R_X10_board [.ref 0, .int (nI c), .int (nI n), .int (-1)] μ (fun v V => v = some (.int (nI (dP d))) ∧ ActQ μ V p q (brdD d (nI c) (nI n) (-1)) (pushH H d) S) := by
  have hw := h.wf
  have hv := h.fv
  have hq := h.pv
  have h01 := hd.s01
  have hC4 := hq.C4
  have hM4 := hq.M4
  have hT4 := hq.T4
  have hP4 := hv.P4
  have hU4 := hv.U4
  refine CV.ent yk_X10_board (Nat.le_of_ble_eq_true rfl) ?_
  refine lf (a_aload_n dX10_board_0 rfl) ?_
  refine lf (a_iload_n dX10_board_1 rfl) ?_
  refine lf (a_inv (b2 := (0, 0)) (c_requireCabin (by repeat (first | with_reducible exact hw | with_reducible exact hwc | with_reducible assumption | with_reducible apply Wf.sI | with_reducible apply Wf.sL | with_reducible apply Wf.cpI | with_reducible apply Wf.cpL | with_reducible apply Wf.cp2 | with_reducible apply Wf.sIs | with_reducible apply Wf.sLs | with_reducible apply Wf.cpU | with_reducible apply Wf.fillI | with_reducible apply Wf.clU | with_reducible apply Wf.dnF | with_reducible apply Wf.gbW)) hv hq hc) rfl dX10_board_2 yk_X10_requireCabin im_X10_requireCabin se_X10_requireCabin ml_X10_175 rfl (co_0 (by repeat (first | with_reducible exact hw | with_reducible exact hwc | with_reducible assumption | with_reducible apply Wf.sI | with_reducible apply Wf.sL | with_reducible apply Wf.cpI | with_reducible apply Wf.cpL | with_reducible apply Wf.cp2 | with_reducible apply Wf.sIs | with_reducible apply Wf.sLs | with_reducible apply Wf.cpU | with_reducible apply Wf.fillI | with_reducible apply Wf.clU | with_reducible apply Wf.dnF | with_reducible apply Wf.gbW))) (by decide) hc_X10 (by decide) (by decide) (Nat.le_of_ble_eq_true rfl)) ?_
  refine lf (a_iload_n dX10_board_5 rfl) ?_
  refine lf (a_iconst (-1 : Int32) dX10_board_6 (by decide)) ?_
  refine lf2 (a_icmp_eq (tgt := 15) dX10_board_7 (by decide)) (fun h7 => ?_) (fun h7 => absurd h7 (by decide))
  refine lf (a_aload_n dX10_board_15 rfl) ?_
  refine lf (a_iload_n dX10_board_16 rfl) ?_
  refine lf (a_inv (b2 := (0, 0)) (c_requireNeeds (by repeat (first | with_reducible exact hw | with_reducible exact hwc | with_reducible assumption | with_reducible apply Wf.sI | with_reducible apply Wf.sL | with_reducible apply Wf.cpI | with_reducible apply Wf.cpL | with_reducible apply Wf.cp2 | with_reducible apply Wf.sIs | with_reducible apply Wf.sLs | with_reducible apply Wf.cpU | with_reducible apply Wf.fillI | with_reducible apply Wf.clU | with_reducible apply Wf.dnF | with_reducible apply Wf.gbW)) hv hq hn) rfl dX10_board_17 yk_X10_requireNeeds im_X10_requireNeeds se_X10_requireNeeds ml_X10_315 rfl (co_0 (by repeat (first | with_reducible exact hw | with_reducible exact hwc | with_reducible assumption | with_reducible apply Wf.sI | with_reducible apply Wf.sL | with_reducible apply Wf.cpI | with_reducible apply Wf.cpL | with_reducible apply Wf.cp2 | with_reducible apply Wf.sIs | with_reducible apply Wf.sLs | with_reducible apply Wf.cpU | with_reducible apply Wf.fillI | with_reducible apply Wf.clU | with_reducible apply Wf.dnF | with_reducible apply Wf.gbW))) (by decide) hc_X10 (by decide) (by decide) (Nat.le_of_ble_eq_true rfl)) ?_
  refine lf (a_iload_n dX10_board_20 rfl) ?_
  refine lf (a_iconst (-1 : Int32) dX10_board_21 (by decide)) ?_
  refine lf2 (a_icmp_eq (tgt := 55) dX10_board_22 (by decide)) (fun h22 => ?_) (fun h22 => absurd h22 (by decide))
  refine lf (a_aload_n dX10_board_55 rfl) ?_
  refine lf (a_inv (b2 := (0, 0)) (c_requireFlight (by repeat (first | with_reducible exact hw | with_reducible exact hwc | with_reducible assumption | with_reducible apply Wf.sI | with_reducible apply Wf.sL | with_reducible apply Wf.cpI | with_reducible apply Wf.cpL | with_reducible apply Wf.cp2 | with_reducible apply Wf.sIs | with_reducible apply Wf.sLs | with_reducible apply Wf.cpU | with_reducible apply Wf.fillI | with_reducible apply Wf.clU | with_reducible apply Wf.dnF | with_reducible apply Wf.gbW)) hv hq hgo) rfl dX10_board_56 yk_X10_requireFlight im_X10_requireFlight se_X10_requireFlight ml_X10_320 rfl (co_0 (by repeat (first | with_reducible exact hw | with_reducible exact hwc | with_reducible assumption | with_reducible apply Wf.sI | with_reducible apply Wf.sL | with_reducible apply Wf.cpI | with_reducible apply Wf.cpL | with_reducible apply Wf.cp2 | with_reducible apply Wf.sIs | with_reducible apply Wf.sLs | with_reducible apply Wf.cpU | with_reducible apply Wf.fillI | with_reducible apply Wf.clU | with_reducible apply Wf.dnF | with_reducible apply Wf.gbW))) (by decide) hc_X10 (by decide) (by decide) (Nat.le_of_ble_eq_true rfl)) ?_
  refine lf (a_aload_n dX10_board_59 rfl) ?_
  refine lf (a_getR (cr_0_7 (by repeat (first | with_reducible exact hw | with_reducible exact hwc | with_reducible assumption | with_reducible apply Wf.sI | with_reducible apply Wf.sL | with_reducible apply Wf.cpI | with_reducible apply Wf.cpL | with_reducible apply Wf.cp2 | with_reducible apply Wf.sIs | with_reducible apply Wf.sLs | with_reducible apply Wf.cpU | with_reducible apply Wf.fillI | with_reducible apply Wf.clU | with_reducible apply Wf.dnF | with_reducible apply Wf.gbW))) dX10_board_60 fs_X10_28 rfl (co_0 (by repeat (first | with_reducible exact hw | with_reducible exact hwc | with_reducible assumption | with_reducible apply Wf.sI | with_reducible apply Wf.sL | with_reducible apply Wf.cpI | with_reducible apply Wf.cpL | with_reducible apply Wf.cp2 | with_reducible apply Wf.sIs | with_reducible apply Wf.sLs | with_reducible apply Wf.cpU | with_reducible apply Wf.fillI | with_reducible apply Wf.clU | with_reducible apply Wf.dnF | with_reducible apply Wf.gbW)))) ?_
  refine lf (a_getI dX10_board_63 fs_X10_132 rfl (fl_o (by repeat (first | with_reducible exact hw | with_reducible exact hwc | with_reducible assumption | with_reducible apply Wf.sI | with_reducible apply Wf.sL | with_reducible apply Wf.cpI | with_reducible apply Wf.cpL | with_reducible apply Wf.cp2 | with_reducible apply Wf.sIs | with_reducible apply Wf.sLs | with_reducible apply Wf.cpU | with_reducible apply Wf.fillI | with_reducible apply Wf.clU | with_reducible apply Wf.dnF | with_reducible apply Wf.gbW)) fl_now)) ?_
  rw [hv.hP]
  refine lf (a_bipush (40 : Int32) dX10_board_66 (by decide)) ?_
  refine lf2 (a_icmp_lt (tgt := 77) dX10_board_68 (by decide)) (fun h68 => ?_) (fun h68 => absurd h68 (fun z => z (nI_lt (b := 40) hP (by decide))))
  refine lf (a_aload_n dX10_board_77 rfl) ?_
  refine lf (a_iload_n dX10_board_78 rfl) ?_
  refine lf (a_inv (b2 := (0, 0)) (c_requireSeat (by repeat (first | with_reducible exact hw | with_reducible exact hwc | with_reducible assumption | with_reducible apply Wf.sI | with_reducible apply Wf.sL | with_reducible apply Wf.cpI | with_reducible apply Wf.cpL | with_reducible apply Wf.cp2 | with_reducible apply Wf.sIs | with_reducible apply Wf.sLs | with_reducible apply Wf.cpU | with_reducible apply Wf.fillI | with_reducible apply Wf.clU | with_reducible apply Wf.dnF | with_reducible apply Wf.gbW)) hv hq hc hfr) rfl dX10_board_79 yk_X10_requireSeat im_X10_requireSeat se_X10_requireSeat ml_X10_326 rfl (co_0 (by repeat (first | with_reducible exact hw | with_reducible exact hwc | with_reducible assumption | with_reducible apply Wf.sI | with_reducible apply Wf.sL | with_reducible apply Wf.cpI | with_reducible apply Wf.cpL | with_reducible apply Wf.cp2 | with_reducible apply Wf.sIs | with_reducible apply Wf.sLs | with_reducible apply Wf.cpU | with_reducible apply Wf.fillI | with_reducible apply Wf.clU | with_reducible apply Wf.dnF | with_reducible apply Wf.gbW))) (by decide) hc_X10 (by decide) (by decide) (Nat.le_of_ble_eq_true rfl)) ?_
  refine lf (a_aload_n dX10_board_82 rfl) ?_
  obtain ⟨v_, W83, k83, rfl, hC, h17, hO1, hE1⟩ := (h.push h01)
  have hwc := hC.wf
  have hv2 := hC.fv
  have hq2 := hC.pv
  refine lf (a_inv (b2 := (0, 0)) k83 rfl dX10_board_83 yk_X10_beginAct im_X10_beginAct se_X10_beginAct ml_X10_329 rfl (co_0 (by repeat (first | with_reducible exact hw | with_reducible exact hwc | with_reducible assumption | with_reducible apply Wf.sI | with_reducible apply Wf.sL | with_reducible apply Wf.cpI | with_reducible apply Wf.cpL | with_reducible apply Wf.cp2 | with_reducible apply Wf.sIs | with_reducible apply Wf.sLs | with_reducible apply Wf.cpU | with_reducible apply Wf.fillI | with_reducible apply Wf.clU | with_reducible apply Wf.dnF | with_reducible apply Wf.gbW))) (by decide) hc_X10 (by decide) (by decide) (Nat.le_of_ble_eq_true rfl)) ?_
  refine lf (a_aload_n dX10_board_86 rfl) ?_
  refine lf (a_getR (cr_0_7 (by repeat (first | with_reducible exact hw | with_reducible exact hwc | with_reducible assumption | with_reducible apply Wf.sI | with_reducible apply Wf.sL | with_reducible apply Wf.cpI | with_reducible apply Wf.cpL | with_reducible apply Wf.cp2 | with_reducible apply Wf.sIs | with_reducible apply Wf.sLs | with_reducible apply Wf.cpU | with_reducible apply Wf.fillI | with_reducible apply Wf.clU | with_reducible apply Wf.dnF | with_reducible apply Wf.gbW))) dX10_board_87 fs_X10_28 rfl (co_0 (by repeat (first | with_reducible exact hw | with_reducible exact hwc | with_reducible assumption | with_reducible apply Wf.sI | with_reducible apply Wf.sL | with_reducible apply Wf.cpI | with_reducible apply Wf.cpL | with_reducible apply Wf.cp2 | with_reducible apply Wf.sIs | with_reducible apply Wf.sLs | with_reducible apply Wf.cpU | with_reducible apply Wf.fillI | with_reducible apply Wf.clU | with_reducible apply Wf.dnF | with_reducible apply Wf.gbW)))) ?_
  refine lf (a_iload_n dX10_board_90 rfl) ?_
  refine lf (a_iload_n dX10_board_91 rfl) ?_
  refine lf (a_iload_n dX10_board_92 rfl) ?_
  obtain ⟨v_, W93, k93, rfl, hv3, hO3⟩ := (v_X1_seat hwc hv2 hP (nI c) (nI n) (-1))
  have hwd := hO3.wf
  refine lf (a_inv (b2 := (0, 0)) k93 rfl dX10_board_93 yk_X1_seat im_X1_seat se_X1_seat ml_X10_332 rfl (fl_o (by repeat (first | with_reducible exact hw | with_reducible exact hwc | with_reducible assumption | with_reducible apply Wf.sI | with_reducible apply Wf.sL | with_reducible apply Wf.cpI | with_reducible apply Wf.cpL | with_reducible apply Wf.cp2 | with_reducible apply Wf.sIs | with_reducible apply Wf.sLs | with_reducible apply Wf.cpU | with_reducible apply Wf.fillI | with_reducible apply Wf.clU | with_reducible apply Wf.dnF | with_reducible apply Wf.gbW)) fl_now) (by decide) hc_X1 (by decide) (by decide) (Nat.le_of_ble_eq_true rfl)) ?_
  refine lf (a_aload_n dX10_board_96 rfl) ?_
  refine lf (a_getR (cr_0_7 (by repeat (first | with_reducible exact hw | with_reducible exact hwc | with_reducible assumption | with_reducible apply Wf.sI | with_reducible apply Wf.sL | with_reducible apply Wf.cpI | with_reducible apply Wf.cpL | with_reducible apply Wf.cp2 | with_reducible apply Wf.sIs | with_reducible apply Wf.sLs | with_reducible apply Wf.cpU | with_reducible apply Wf.fillI | with_reducible apply Wf.clU | with_reducible apply Wf.dnF | with_reducible apply Wf.gbW))) dX10_board_97 fs_X10_28 rfl (co_0 (by repeat (first | with_reducible exact hw | with_reducible exact hwc | with_reducible assumption | with_reducible apply Wf.sI | with_reducible apply Wf.sL | with_reducible apply Wf.cpI | with_reducible apply Wf.cpL | with_reducible apply Wf.cp2 | with_reducible apply Wf.sIs | with_reducible apply Wf.sLs | with_reducible apply Wf.cpU | with_reducible apply Wf.fillI | with_reducible apply Wf.clU | with_reducible apply Wf.dnF | with_reducible apply Wf.gbW)))) ?_
  refine lf (a_getI dX10_board_100 fs_X10_132 rfl (fl_o (by repeat (first | with_reducible exact hw | with_reducible exact hwc | with_reducible assumption | with_reducible apply Wf.sI | with_reducible apply Wf.sL | with_reducible apply Wf.cpI | with_reducible apply Wf.cpL | with_reducible apply Wf.cp2 | with_reducible apply Wf.sIs | with_reducible apply Wf.sLs | with_reducible apply Wf.cpU | with_reducible apply Wf.fillI | with_reducible apply Wf.clU | with_reducible apply Wf.dnF | with_reducible apply Wf.gbW)) fl_now)) ?_
  rw [hv3.hP, show dP (brdD d (nI c) (nI n) (-1)) = dP d + 1 from rfl]
  refine lf (a_iconst (1 : Int32) dX10_board_103 (by decide)) ?_
  refine lf (a_isub dX10_board_104) ?_
  rw [nI_sub1]
  refine ⟨_, _, (a_ireturn dX10_board_105 rfl rfl), ?_⟩
  exact ⟨_, rfl, rfl, ActQ.fin hC h17 hO1 hE1 hO3 hv3⟩

theorem cp_board_n (hw : Wf μ) (hv : FV μ 24 p d) (hq : PV μ p q) (h : ¬ goD q d) {c n : Nat} (hc : c < pC q) (hn : n < 256) : Ct Y_X10_board RX_X10_board [.ref 0, .int (nI c), .int (nI n), .int (-1)] μ (.inr ISE) (sI μ 0 6 1) := by
  have hC4 := hq.C4
  have hM4 := hq.M4
  have hT4 := hq.T4
  have hP4 := hv.P4
  have hU4 := hv.U4
  refine Ct.ent yk_X10_board (Nat.le_of_ble_eq_true rfl) ?_
  refine a_aload_n dX10_board_0 rfl ?_
  refine a_iload_n dX10_board_1 rfl ?_
  refine a_inv (b2 := (1, 6)) (c_requireCabin hw hv hq hc) rfl dX10_board_2 yk_X10_requireCabin im_X10_requireCabin se_X10_requireCabin ml_X10_175 rfl (co_0 hw) (by decide) hc_X10 (by decide) (by decide) (Nat.le_of_ble_eq_true rfl) ?_
  refine a_iload_n dX10_board_5 rfl ?_
  refine a_iconst (-1 : Int32) dX10_board_6 (by decide) ?_
  refine a_icmp_eq (tgt := 15) dX10_board_7 (by decide) (fun h7 => ?_) (fun h7 => absurd h7 (by decide))
  refine a_aload_n dX10_board_15 rfl ?_
  refine a_iload_n dX10_board_16 rfl ?_
  refine a_inv (b2 := (1, 6)) (c_requireNeeds hw hv hq hn) rfl dX10_board_17 yk_X10_requireNeeds im_X10_requireNeeds se_X10_requireNeeds ml_X10_315 rfl (co_0 hw) (by decide) hc_X10 (by decide) (by decide) (Nat.le_of_ble_eq_true rfl) ?_
  refine a_iload_n dX10_board_20 rfl ?_
  refine a_iconst (-1 : Int32) dX10_board_21 (by decide) ?_
  refine a_icmp_eq (tgt := 55) dX10_board_22 (by decide) (fun h22 => ?_) (fun h22 => absurd h22 (by decide))
  refine a_aload_n dX10_board_55 rfl ?_
  exact a_out rfl rfl (a_invX (cx_requireFlight hw hv hq h) rfl dX10_board_56 yk_X10_requireFlight im_X10_requireFlight se_X10_requireFlight ml_X10_320 rfl (co_0 hw) (by decide) hc_X10 (by decide) (by decide) (Nat.le_of_ble_eq_true rfl) rfl)

theorem cr_board_n (hw : Wf μ) (hv : FV μ 24 p d) (hq : PV μ p q) (hgo : goD q d) {c n : Nat} (hc : c < pC q) (hn : n < 256) (hP : 40 ≤ dP d) : Ct Y_X10_board RX_X10_board [.ref 0, .int (nI c), .int (nI n), .int (-1)] μ (.inr ISE) (sI μ 0 6 8) := by
  have hC4 := hq.C4
  have hM4 := hq.M4
  have hT4 := hq.T4
  have hP4 := hv.P4
  have hU4 := hv.U4
  refine Ct.ent yk_X10_board (Nat.le_of_ble_eq_true rfl) ?_
  refine a_aload_n dX10_board_0 rfl ?_
  refine a_iload_n dX10_board_1 rfl ?_
  refine a_inv (b2 := (1, 6)) (c_requireCabin hw hv hq hc) rfl dX10_board_2 yk_X10_requireCabin im_X10_requireCabin se_X10_requireCabin ml_X10_175 rfl (co_0 hw) (by decide) hc_X10 (by decide) (by decide) (Nat.le_of_ble_eq_true rfl) ?_
  refine a_iload_n dX10_board_5 rfl ?_
  refine a_iconst (-1 : Int32) dX10_board_6 (by decide) ?_
  refine a_icmp_eq (tgt := 15) dX10_board_7 (by decide) (fun h7 => ?_) (fun h7 => absurd h7 (by decide))
  refine a_aload_n dX10_board_15 rfl ?_
  refine a_iload_n dX10_board_16 rfl ?_
  refine a_inv (b2 := (1, 6)) (c_requireNeeds hw hv hq hn) rfl dX10_board_17 yk_X10_requireNeeds im_X10_requireNeeds se_X10_requireNeeds ml_X10_315 rfl (co_0 hw) (by decide) hc_X10 (by decide) (by decide) (Nat.le_of_ble_eq_true rfl) ?_
  refine a_iload_n dX10_board_20 rfl ?_
  refine a_iconst (-1 : Int32) dX10_board_21 (by decide) ?_
  refine a_icmp_eq (tgt := 55) dX10_board_22 (by decide) (fun h22 => ?_) (fun h22 => absurd h22 (by decide))
  refine a_aload_n dX10_board_55 rfl ?_
  refine a_inv (b2 := (1, 6)) (c_requireFlight hw hv hq hgo) rfl dX10_board_56 yk_X10_requireFlight im_X10_requireFlight se_X10_requireFlight ml_X10_320 rfl (co_0 hw) (by decide) hc_X10 (by decide) (by decide) (Nat.le_of_ble_eq_true rfl) ?_
  refine a_aload_n dX10_board_59 rfl ?_
  refine a_getR (cr_0_7 hw) dX10_board_60 fs_X10_28 rfl (co_0 hw) ?_
  refine a_getI dX10_board_63 fs_X10_132 rfl (fl_o hw fl_now) ?_
  rw [hv.hP]
  refine a_bipush (40 : Int32) dX10_board_66 (by decide) ?_
  refine a_icmp_lt (tgt := 77) dX10_board_68 (by decide) (fun h68 => absurd h68 (nI_nlt (b := 40) hP (by omega))) (fun h68 => ?_)
  refine a_aload_n dX10_board_71 rfl ?_
  refine a_bipush (8 : Int32) dX10_board_72 (by decide) ?_
  exact a_out rfl rfl (a_invX (cx_refuse hw 8) rfl dX10_board_74 yk_X10_refuse im_X10_refuse se_X10_refuse ml_X10_323 rfl (co_0 hw) (by decide) hc_X10 (by decide) (by decide) (Nat.le_of_ble_eq_true rfl) rfl)

theorem cs_board_n (hw : Wf μ) (hv : FV μ 24 p d) (hq : PV μ p q) (hgo : goD q d) {c n : Nat} (hc : c < pC q) (hn : n < 256) (hP : dP d < 40) (h : pF q 0 c - paD d (nI c) < 1) : Ct Y_X10_board RX_X10_board [.ref 0, .int (nI c), .int (nI n), .int (-1)] μ (.inr ISE) (sI μ 0 6 9) := by
  have hC4 := hq.C4
  have hM4 := hq.M4
  have hT4 := hq.T4
  have hP4 := hv.P4
  have hU4 := hv.U4
  refine Ct.ent yk_X10_board (Nat.le_of_ble_eq_true rfl) ?_
  refine a_aload_n dX10_board_0 rfl ?_
  refine a_iload_n dX10_board_1 rfl ?_
  refine a_inv (b2 := (1, 6)) (c_requireCabin hw hv hq hc) rfl dX10_board_2 yk_X10_requireCabin im_X10_requireCabin se_X10_requireCabin ml_X10_175 rfl (co_0 hw) (by decide) hc_X10 (by decide) (by decide) (Nat.le_of_ble_eq_true rfl) ?_
  refine a_iload_n dX10_board_5 rfl ?_
  refine a_iconst (-1 : Int32) dX10_board_6 (by decide) ?_
  refine a_icmp_eq (tgt := 15) dX10_board_7 (by decide) (fun h7 => ?_) (fun h7 => absurd h7 (by decide))
  refine a_aload_n dX10_board_15 rfl ?_
  refine a_iload_n dX10_board_16 rfl ?_
  refine a_inv (b2 := (1, 6)) (c_requireNeeds hw hv hq hn) rfl dX10_board_17 yk_X10_requireNeeds im_X10_requireNeeds se_X10_requireNeeds ml_X10_315 rfl (co_0 hw) (by decide) hc_X10 (by decide) (by decide) (Nat.le_of_ble_eq_true rfl) ?_
  refine a_iload_n dX10_board_20 rfl ?_
  refine a_iconst (-1 : Int32) dX10_board_21 (by decide) ?_
  refine a_icmp_eq (tgt := 55) dX10_board_22 (by decide) (fun h22 => ?_) (fun h22 => absurd h22 (by decide))
  refine a_aload_n dX10_board_55 rfl ?_
  refine a_inv (b2 := (1, 6)) (c_requireFlight hw hv hq hgo) rfl dX10_board_56 yk_X10_requireFlight im_X10_requireFlight se_X10_requireFlight ml_X10_320 rfl (co_0 hw) (by decide) hc_X10 (by decide) (by decide) (Nat.le_of_ble_eq_true rfl) ?_
  refine a_aload_n dX10_board_59 rfl ?_
  refine a_getR (cr_0_7 hw) dX10_board_60 fs_X10_28 rfl (co_0 hw) ?_
  refine a_getI dX10_board_63 fs_X10_132 rfl (fl_o hw fl_now) ?_
  rw [hv.hP]
  refine a_bipush (40 : Int32) dX10_board_66 (by decide) ?_
  refine a_icmp_lt (tgt := 77) dX10_board_68 (by decide) (fun h68 => ?_) (fun h68 => absurd h68 (fun z => z (nI_lt (b := 40) hP (by decide))))
  refine a_aload_n dX10_board_77 rfl ?_
  refine a_iload_n dX10_board_78 rfl ?_
  exact a_out rfl rfl (a_invX (cx_requireSeat hw hv hq hc h) rfl dX10_board_79 yk_X10_requireSeat im_X10_requireSeat se_X10_requireSeat ml_X10_326 rfl (co_0 hw) (by decide) hc_X10 (by decide) (by decide) (Nat.le_of_ble_eq_true rfl) rfl)

theorem cz_board_n (hw : Wf μ) (hv : FV μ 24 p d) (hq : PV μ p q) {c : Nat} (hc : c < pC q) {y : Int32} (h : ixO y 256 = none) : Ct Y_X10_board RX_X10_board [.ref 0, .int (nI c), .int y, .int (-1)] μ (.inr IAE) μ := by
  have hC4 := hq.C4
  have hM4 := hq.M4
  have hT4 := hq.T4
  have hP4 := hv.P4
  have hU4 := hv.U4
  refine Ct.ent yk_X10_board (Nat.le_of_ble_eq_true rfl) ?_
  refine a_aload_n dX10_board_0 rfl ?_
  refine a_iload_n dX10_board_1 rfl ?_
  refine a_inv (b2 := (1, 6)) (c_requireCabin hw hv hq hc) rfl dX10_board_2 yk_X10_requireCabin im_X10_requireCabin se_X10_requireCabin ml_X10_175 rfl (co_0 hw) (by decide) hc_X10 (by decide) (by decide) (Nat.le_of_ble_eq_true rfl) ?_
  refine a_iload_n dX10_board_5 rfl ?_
  refine a_iconst (-1 : Int32) dX10_board_6 (by decide) ?_
  refine a_icmp_eq (tgt := 15) dX10_board_7 (by decide) (fun h7 => ?_) (fun h7 => absurd h7 (by decide))
  refine a_aload_n dX10_board_15 rfl ?_
  refine a_iload_n dX10_board_16 rfl ?_
  exact a_out rfl rfl (a_invX (cx_requireNeeds hw hv hq h) rfl dX10_board_17 yk_X10_requireNeeds im_X10_requireNeeds se_X10_requireNeeds ml_X10_315 rfl (co_0 hw) (by decide) hc_X10 (by decide) (by decide) (Nat.le_of_ble_eq_true rfl) rfl)

theorem c_board_w (h : CrV μ p q d H S) (hd : GdD q d) (hgo : goD q d) {c n : Nat} (hc : c < pC q) (hn : n < 256) {m : Nat} (hm : m < pM q) (hwm : pF q 2 m = nI c) (hP : dP d < 40) (hfr : ¬ pF q 0 c - paD d (nI c) < 1) : CV Y_X10_board R_X10_board [.ref 0, .int (nI c), .int (nI n), .int (nI m)] μ (fun v V => v = some (.int (nI (dP d))) ∧ ActQ μ V p q (brdD d (nI c) (nI n) (nI m)) (pushH H d) S) := by
  have hw := h.wf
  have hv := h.fv
  have hq := h.pv
  have h01 := hd.s01
  have hC4 := hq.C4
  have hM4 := hq.M4
  have hT4 := hq.T4
  have hP4 := hv.P4
  have hU4 := hv.U4
  refine CV.ent yk_X10_board (Nat.le_of_ble_eq_true rfl) ?_
  refine lf (a_aload_n dX10_board_0 rfl) ?_
  refine lf (a_iload_n dX10_board_1 rfl) ?_
  refine lf (a_inv (b2 := (0, 0)) (c_requireCabin (by repeat (first | with_reducible exact hw | with_reducible exact hwc | with_reducible assumption | with_reducible apply Wf.sI | with_reducible apply Wf.sL | with_reducible apply Wf.cpI | with_reducible apply Wf.cpL | with_reducible apply Wf.cp2 | with_reducible apply Wf.sIs | with_reducible apply Wf.sLs | with_reducible apply Wf.cpU | with_reducible apply Wf.fillI | with_reducible apply Wf.clU | with_reducible apply Wf.dnF | with_reducible apply Wf.gbW)) hv hq hc) rfl dX10_board_2 yk_X10_requireCabin im_X10_requireCabin se_X10_requireCabin ml_X10_175 rfl (co_0 (by repeat (first | with_reducible exact hw | with_reducible exact hwc | with_reducible assumption | with_reducible apply Wf.sI | with_reducible apply Wf.sL | with_reducible apply Wf.cpI | with_reducible apply Wf.cpL | with_reducible apply Wf.cp2 | with_reducible apply Wf.sIs | with_reducible apply Wf.sLs | with_reducible apply Wf.cpU | with_reducible apply Wf.fillI | with_reducible apply Wf.clU | with_reducible apply Wf.dnF | with_reducible apply Wf.gbW))) (by decide) hc_X10 (by decide) (by decide) (Nat.le_of_ble_eq_true rfl)) ?_
  refine lf (a_iload_n dX10_board_5 rfl) ?_
  refine lf (a_iconst (-1 : Int32) dX10_board_6 (by decide)) ?_
  refine lf2 (a_icmp_eq (tgt := 15) dX10_board_7 (by decide)) (fun h7 => absurd h7 (nI_ne1 (by omega))) (fun h7 => ?_)
  refine lf (a_aload_n dX10_board_10 rfl) ?_
  refine lf (a_iload_n dX10_board_11 rfl) ?_
  refine lf (a_inv (b2 := (0, 0)) (c_requireMeal (by repeat (first | with_reducible exact hw | with_reducible exact hwc | with_reducible assumption | with_reducible apply Wf.sI | with_reducible apply Wf.sL | with_reducible apply Wf.cpI | with_reducible apply Wf.cpL | with_reducible apply Wf.cp2 | with_reducible apply Wf.sIs | with_reducible apply Wf.sLs | with_reducible apply Wf.cpU | with_reducible apply Wf.fillI | with_reducible apply Wf.clU | with_reducible apply Wf.dnF | with_reducible apply Wf.gbW)) hv hq hm) rfl dX10_board_12 yk_X10_requireMeal im_X10_requireMeal se_X10_requireMeal ml_X10_212 rfl (co_0 (by repeat (first | with_reducible exact hw | with_reducible exact hwc | with_reducible assumption | with_reducible apply Wf.sI | with_reducible apply Wf.sL | with_reducible apply Wf.cpI | with_reducible apply Wf.cpL | with_reducible apply Wf.cp2 | with_reducible apply Wf.sIs | with_reducible apply Wf.sLs | with_reducible apply Wf.cpU | with_reducible apply Wf.fillI | with_reducible apply Wf.clU | with_reducible apply Wf.dnF | with_reducible apply Wf.gbW))) (by decide) hc_X10 (by decide) (by decide) (Nat.le_of_ble_eq_true rfl)) ?_
  refine lf (a_aload_n dX10_board_15 rfl) ?_
  refine lf (a_iload_n dX10_board_16 rfl) ?_
  refine lf (a_inv (b2 := (0, 0)) (c_requireNeeds (by repeat (first | with_reducible exact hw | with_reducible exact hwc | with_reducible assumption | with_reducible apply Wf.sI | with_reducible apply Wf.sL | with_reducible apply Wf.cpI | with_reducible apply Wf.cpL | with_reducible apply Wf.cp2 | with_reducible apply Wf.sIs | with_reducible apply Wf.sLs | with_reducible apply Wf.cpU | with_reducible apply Wf.fillI | with_reducible apply Wf.clU | with_reducible apply Wf.dnF | with_reducible apply Wf.gbW)) hv hq hn) rfl dX10_board_17 yk_X10_requireNeeds im_X10_requireNeeds se_X10_requireNeeds ml_X10_315 rfl (co_0 (by repeat (first | with_reducible exact hw | with_reducible exact hwc | with_reducible assumption | with_reducible apply Wf.sI | with_reducible apply Wf.sL | with_reducible apply Wf.cpI | with_reducible apply Wf.cpL | with_reducible apply Wf.cp2 | with_reducible apply Wf.sIs | with_reducible apply Wf.sLs | with_reducible apply Wf.cpU | with_reducible apply Wf.fillI | with_reducible apply Wf.clU | with_reducible apply Wf.dnF | with_reducible apply Wf.gbW))) (by decide) hc_X10 (by decide) (by decide) (Nat.le_of_ble_eq_true rfl)) ?_
  refine lf (a_iload_n dX10_board_20 rfl) ?_
  refine lf (a_iconst (-1 : Int32) dX10_board_21 (by decide)) ?_
  refine lf2 (a_icmp_eq (tgt := 55) dX10_board_22 (by decide)) (fun h22 => absurd h22 (nI_ne1 (by omega))) (fun h22 => ?_)
  refine lf (a_aload_n dX10_board_25 rfl) ?_
  refine lf (a_getR (cr_0_7 (by repeat (first | with_reducible exact hw | with_reducible exact hwc | with_reducible assumption | with_reducible apply Wf.sI | with_reducible apply Wf.sL | with_reducible apply Wf.cpI | with_reducible apply Wf.cpL | with_reducible apply Wf.cp2 | with_reducible apply Wf.sIs | with_reducible apply Wf.sLs | with_reducible apply Wf.cpU | with_reducible apply Wf.fillI | with_reducible apply Wf.clU | with_reducible apply Wf.dnF | with_reducible apply Wf.gbW))) dX10_board_26 fs_X10_28 rfl (co_0 (by repeat (first | with_reducible exact hw | with_reducible exact hwc | with_reducible assumption | with_reducible apply Wf.sI | with_reducible apply Wf.sL | with_reducible apply Wf.cpI | with_reducible apply Wf.cpL | with_reducible apply Wf.cp2 | with_reducible apply Wf.sIs | with_reducible apply Wf.sLs | with_reducible apply Wf.cpU | with_reducible apply Wf.fillI | with_reducible apply Wf.clU | with_reducible apply Wf.dnF | with_reducible apply Wf.gbW)))) ?_
  refine lf (a_getR hv.rp dX10_board_29 fs_X10_116 rfl (fl_o (by repeat (first | with_reducible exact hw | with_reducible exact hwc | with_reducible assumption | with_reducible apply Wf.sI | with_reducible apply Wf.sL | with_reducible apply Wf.cpI | with_reducible apply Wf.cpL | with_reducible apply Wf.cp2 | with_reducible apply Wf.sIs | with_reducible apply Wf.sLs | with_reducible apply Wf.cpU | with_reducible apply Wf.fillI | with_reducible apply Wf.clU | with_reducible apply Wf.dnF | with_reducible apply Wf.gbW)) fl_now)) ?_
  refine lf (a_getR (pl_r4 (by repeat (first | with_reducible exact hw | with_reducible exact hwc | with_reducible assumption | with_reducible apply Wf.sI | with_reducible apply Wf.sL | with_reducible apply Wf.cpI | with_reducible apply Wf.cpL | with_reducible apply Wf.cp2 | with_reducible apply Wf.sIs | with_reducible apply Wf.sLs | with_reducible apply Wf.cpU | with_reducible apply Wf.fillI | with_reducible apply Wf.clU | with_reducible apply Wf.dnF | with_reducible apply Wf.gbW)) hq.pl) dX10_board_32 fs_X10_215 rfl (pl_o (by repeat (first | with_reducible exact hw | with_reducible exact hwc | with_reducible assumption | with_reducible apply Wf.sI | with_reducible apply Wf.sL | with_reducible apply Wf.cpI | with_reducible apply Wf.cpL | with_reducible apply Wf.cp2 | with_reducible apply Wf.sIs | with_reducible apply Wf.sLs | with_reducible apply Wf.cpU | with_reducible apply Wf.fillI | with_reducible apply Wf.clU | with_reducible apply Wf.dnF | with_reducible apply Wf.gbW)) hq.pl)) ?_
  refine lf (a_iload_n dX10_board_35 rfl) ?_
  refine lf (a_aald (j := m) dX10_board_36 (pl_a6 (by repeat (first | with_reducible exact hw | with_reducible exact hwc | with_reducible assumption | with_reducible apply Wf.sI | with_reducible apply Wf.sL | with_reducible apply Wf.cpI | with_reducible apply Wf.cpL | with_reducible apply Wf.cp2 | with_reducible apply Wf.sIs | with_reducible apply Wf.sLs | with_reducible apply Wf.cpU | with_reducible apply Wf.fillI | with_reducible apply Wf.clU | with_reducible apply Wf.dnF | with_reducible apply Wf.gbW)) hq.pl) (by decide) (ixn (by omega) (by decide)) (pl_rm (by repeat (first | with_reducible exact hw | with_reducible exact hwc | with_reducible assumption | with_reducible apply Wf.sI | with_reducible apply Wf.sL | with_reducible apply Wf.cpI | with_reducible apply Wf.cpL | with_reducible apply Wf.cp2 | with_reducible apply Wf.sIs | with_reducible apply Wf.sLs | with_reducible apply Wf.cpU | with_reducible apply Wf.fillI | with_reducible apply Wf.clU | with_reducible apply Wf.dnF | with_reducible apply Wf.gbW)) hq.pl (by omega))) ?_
  refine lf (a_getI dX10_board_37 fs_X10_219 rfl (pl_m (by repeat (first | with_reducible exact hw | with_reducible exact hwc | with_reducible assumption | with_reducible apply Wf.sI | with_reducible apply Wf.sL | with_reducible apply Wf.cpI | with_reducible apply Wf.cpL | with_reducible apply Wf.cp2 | with_reducible apply Wf.sIs | with_reducible apply Wf.sLs | with_reducible apply Wf.cpU | with_reducible apply Wf.fillI | with_reducible apply Wf.clU | with_reducible apply Wf.dnF | with_reducible apply Wf.gbW)) hq.pl (by omega))) ?_
  rw [hq.m1 hm]
  refine lf (a_iload_n dX10_board_40 rfl) ?_
  refine lf2 (a_icmp_eq (tgt := 55) dX10_board_41 (by decide)) (fun h41 => ?_) (fun h41 => absurd h41 (fun z => z hwm))
  refine lf (a_aload_n dX10_board_55 rfl) ?_
  refine lf (a_inv (b2 := (0, 0)) (c_requireFlight (by repeat (first | with_reducible exact hw | with_reducible exact hwc | with_reducible assumption | with_reducible apply Wf.sI | with_reducible apply Wf.sL | with_reducible apply Wf.cpI | with_reducible apply Wf.cpL | with_reducible apply Wf.cp2 | with_reducible apply Wf.sIs | with_reducible apply Wf.sLs | with_reducible apply Wf.cpU | with_reducible apply Wf.fillI | with_reducible apply Wf.clU | with_reducible apply Wf.dnF | with_reducible apply Wf.gbW)) hv hq hgo) rfl dX10_board_56 yk_X10_requireFlight im_X10_requireFlight se_X10_requireFlight ml_X10_320 rfl (co_0 (by repeat (first | with_reducible exact hw | with_reducible exact hwc | with_reducible assumption | with_reducible apply Wf.sI | with_reducible apply Wf.sL | with_reducible apply Wf.cpI | with_reducible apply Wf.cpL | with_reducible apply Wf.cp2 | with_reducible apply Wf.sIs | with_reducible apply Wf.sLs | with_reducible apply Wf.cpU | with_reducible apply Wf.fillI | with_reducible apply Wf.clU | with_reducible apply Wf.dnF | with_reducible apply Wf.gbW))) (by decide) hc_X10 (by decide) (by decide) (Nat.le_of_ble_eq_true rfl)) ?_
  refine lf (a_aload_n dX10_board_59 rfl) ?_
  refine lf (a_getR (cr_0_7 (by repeat (first | with_reducible exact hw | with_reducible exact hwc | with_reducible assumption | with_reducible apply Wf.sI | with_reducible apply Wf.sL | with_reducible apply Wf.cpI | with_reducible apply Wf.cpL | with_reducible apply Wf.cp2 | with_reducible apply Wf.sIs | with_reducible apply Wf.sLs | with_reducible apply Wf.cpU | with_reducible apply Wf.fillI | with_reducible apply Wf.clU | with_reducible apply Wf.dnF | with_reducible apply Wf.gbW))) dX10_board_60 fs_X10_28 rfl (co_0 (by repeat (first | with_reducible exact hw | with_reducible exact hwc | with_reducible assumption | with_reducible apply Wf.sI | with_reducible apply Wf.sL | with_reducible apply Wf.cpI | with_reducible apply Wf.cpL | with_reducible apply Wf.cp2 | with_reducible apply Wf.sIs | with_reducible apply Wf.sLs | with_reducible apply Wf.cpU | with_reducible apply Wf.fillI | with_reducible apply Wf.clU | with_reducible apply Wf.dnF | with_reducible apply Wf.gbW)))) ?_
  refine lf (a_getI dX10_board_63 fs_X10_132 rfl (fl_o (by repeat (first | with_reducible exact hw | with_reducible exact hwc | with_reducible assumption | with_reducible apply Wf.sI | with_reducible apply Wf.sL | with_reducible apply Wf.cpI | with_reducible apply Wf.cpL | with_reducible apply Wf.cp2 | with_reducible apply Wf.sIs | with_reducible apply Wf.sLs | with_reducible apply Wf.cpU | with_reducible apply Wf.fillI | with_reducible apply Wf.clU | with_reducible apply Wf.dnF | with_reducible apply Wf.gbW)) fl_now)) ?_
  rw [hv.hP]
  refine lf (a_bipush (40 : Int32) dX10_board_66 (by decide)) ?_
  refine lf2 (a_icmp_lt (tgt := 77) dX10_board_68 (by decide)) (fun h68 => ?_) (fun h68 => absurd h68 (fun z => z (nI_lt (b := 40) hP (by decide))))
  refine lf (a_aload_n dX10_board_77 rfl) ?_
  refine lf (a_iload_n dX10_board_78 rfl) ?_
  refine lf (a_inv (b2 := (0, 0)) (c_requireSeat (by repeat (first | with_reducible exact hw | with_reducible exact hwc | with_reducible assumption | with_reducible apply Wf.sI | with_reducible apply Wf.sL | with_reducible apply Wf.cpI | with_reducible apply Wf.cpL | with_reducible apply Wf.cp2 | with_reducible apply Wf.sIs | with_reducible apply Wf.sLs | with_reducible apply Wf.cpU | with_reducible apply Wf.fillI | with_reducible apply Wf.clU | with_reducible apply Wf.dnF | with_reducible apply Wf.gbW)) hv hq hc hfr) rfl dX10_board_79 yk_X10_requireSeat im_X10_requireSeat se_X10_requireSeat ml_X10_326 rfl (co_0 (by repeat (first | with_reducible exact hw | with_reducible exact hwc | with_reducible assumption | with_reducible apply Wf.sI | with_reducible apply Wf.sL | with_reducible apply Wf.cpI | with_reducible apply Wf.cpL | with_reducible apply Wf.cp2 | with_reducible apply Wf.sIs | with_reducible apply Wf.sLs | with_reducible apply Wf.cpU | with_reducible apply Wf.fillI | with_reducible apply Wf.clU | with_reducible apply Wf.dnF | with_reducible apply Wf.gbW))) (by decide) hc_X10 (by decide) (by decide) (Nat.le_of_ble_eq_true rfl)) ?_
  refine lf (a_aload_n dX10_board_82 rfl) ?_
  obtain ⟨v_, W83, k83, rfl, hC, h17, hO1, hE1⟩ := (h.push h01)
  have hwc := hC.wf
  have hv2 := hC.fv
  have hq2 := hC.pv
  refine lf (a_inv (b2 := (0, 0)) k83 rfl dX10_board_83 yk_X10_beginAct im_X10_beginAct se_X10_beginAct ml_X10_329 rfl (co_0 (by repeat (first | with_reducible exact hw | with_reducible exact hwc | with_reducible assumption | with_reducible apply Wf.sI | with_reducible apply Wf.sL | with_reducible apply Wf.cpI | with_reducible apply Wf.cpL | with_reducible apply Wf.cp2 | with_reducible apply Wf.sIs | with_reducible apply Wf.sLs | with_reducible apply Wf.cpU | with_reducible apply Wf.fillI | with_reducible apply Wf.clU | with_reducible apply Wf.dnF | with_reducible apply Wf.gbW))) (by decide) hc_X10 (by decide) (by decide) (Nat.le_of_ble_eq_true rfl)) ?_
  refine lf (a_aload_n dX10_board_86 rfl) ?_
  refine lf (a_getR (cr_0_7 (by repeat (first | with_reducible exact hw | with_reducible exact hwc | with_reducible assumption | with_reducible apply Wf.sI | with_reducible apply Wf.sL | with_reducible apply Wf.cpI | with_reducible apply Wf.cpL | with_reducible apply Wf.cp2 | with_reducible apply Wf.sIs | with_reducible apply Wf.sLs | with_reducible apply Wf.cpU | with_reducible apply Wf.fillI | with_reducible apply Wf.clU | with_reducible apply Wf.dnF | with_reducible apply Wf.gbW))) dX10_board_87 fs_X10_28 rfl (co_0 (by repeat (first | with_reducible exact hw | with_reducible exact hwc | with_reducible assumption | with_reducible apply Wf.sI | with_reducible apply Wf.sL | with_reducible apply Wf.cpI | with_reducible apply Wf.cpL | with_reducible apply Wf.cp2 | with_reducible apply Wf.sIs | with_reducible apply Wf.sLs | with_reducible apply Wf.cpU | with_reducible apply Wf.fillI | with_reducible apply Wf.clU | with_reducible apply Wf.dnF | with_reducible apply Wf.gbW)))) ?_
  refine lf (a_iload_n dX10_board_90 rfl) ?_
  refine lf (a_iload_n dX10_board_91 rfl) ?_
  refine lf (a_iload_n dX10_board_92 rfl) ?_
  obtain ⟨v_, W93, k93, rfl, hv3, hO3⟩ := (v_X1_seat hwc hv2 hP (nI c) (nI n) (nI m))
  have hwd := hO3.wf
  refine lf (a_inv (b2 := (0, 0)) k93 rfl dX10_board_93 yk_X1_seat im_X1_seat se_X1_seat ml_X10_332 rfl (fl_o (by repeat (first | with_reducible exact hw | with_reducible exact hwc | with_reducible assumption | with_reducible apply Wf.sI | with_reducible apply Wf.sL | with_reducible apply Wf.cpI | with_reducible apply Wf.cpL | with_reducible apply Wf.cp2 | with_reducible apply Wf.sIs | with_reducible apply Wf.sLs | with_reducible apply Wf.cpU | with_reducible apply Wf.fillI | with_reducible apply Wf.clU | with_reducible apply Wf.dnF | with_reducible apply Wf.gbW)) fl_now) (by decide) hc_X1 (by decide) (by decide) (Nat.le_of_ble_eq_true rfl)) ?_
  refine lf (a_aload_n dX10_board_96 rfl) ?_
  refine lf (a_getR (cr_0_7 (by repeat (first | with_reducible exact hw | with_reducible exact hwc | with_reducible assumption | with_reducible apply Wf.sI | with_reducible apply Wf.sL | with_reducible apply Wf.cpI | with_reducible apply Wf.cpL | with_reducible apply Wf.cp2 | with_reducible apply Wf.sIs | with_reducible apply Wf.sLs | with_reducible apply Wf.cpU | with_reducible apply Wf.fillI | with_reducible apply Wf.clU | with_reducible apply Wf.dnF | with_reducible apply Wf.gbW))) dX10_board_97 fs_X10_28 rfl (co_0 (by repeat (first | with_reducible exact hw | with_reducible exact hwc | with_reducible assumption | with_reducible apply Wf.sI | with_reducible apply Wf.sL | with_reducible apply Wf.cpI | with_reducible apply Wf.cpL | with_reducible apply Wf.cp2 | with_reducible apply Wf.sIs | with_reducible apply Wf.sLs | with_reducible apply Wf.cpU | with_reducible apply Wf.fillI | with_reducible apply Wf.clU | with_reducible apply Wf.dnF | with_reducible apply Wf.gbW)))) ?_
  refine lf (a_getI dX10_board_100 fs_X10_132 rfl (fl_o (by repeat (first | with_reducible exact hw | with_reducible exact hwc | with_reducible assumption | with_reducible apply Wf.sI | with_reducible apply Wf.sL | with_reducible apply Wf.cpI | with_reducible apply Wf.cpL | with_reducible apply Wf.cp2 | with_reducible apply Wf.sIs | with_reducible apply Wf.sLs | with_reducible apply Wf.cpU | with_reducible apply Wf.fillI | with_reducible apply Wf.clU | with_reducible apply Wf.dnF | with_reducible apply Wf.gbW)) fl_now)) ?_
  rw [hv3.hP, show dP (brdD d (nI c) (nI n) (nI m)) = dP d + 1 from rfl]
  refine lf (a_iconst (1 : Int32) dX10_board_103 (by decide)) ?_
  refine lf (a_isub dX10_board_104) ?_
  rw [nI_sub1]
  refine ⟨_, _, (a_ireturn dX10_board_105 rfl rfl), ?_⟩
  exact ⟨_, rfl, rfl, ActQ.fin hC h17 hO1 hE1 hO3 hv3⟩

theorem cp_board_w (hw : Wf μ) (hv : FV μ 24 p d) (hq : PV μ p q) (h : ¬ goD q d) {c n : Nat} (hc : c < pC q) (hn : n < 256) {m : Nat} (hm : m < pM q) (hwm : pF q 2 m = nI c) : Ct Y_X10_board RX_X10_board [.ref 0, .int (nI c), .int (nI n), .int (nI m)] μ (.inr ISE) (sI μ 0 6 1) := by
  have hC4 := hq.C4
  have hM4 := hq.M4
  have hT4 := hq.T4
  have hP4 := hv.P4
  have hU4 := hv.U4
  refine Ct.ent yk_X10_board (Nat.le_of_ble_eq_true rfl) ?_
  refine a_aload_n dX10_board_0 rfl ?_
  refine a_iload_n dX10_board_1 rfl ?_
  refine a_inv (b2 := (1, 6)) (c_requireCabin hw hv hq hc) rfl dX10_board_2 yk_X10_requireCabin im_X10_requireCabin se_X10_requireCabin ml_X10_175 rfl (co_0 hw) (by decide) hc_X10 (by decide) (by decide) (Nat.le_of_ble_eq_true rfl) ?_
  refine a_iload_n dX10_board_5 rfl ?_
  refine a_iconst (-1 : Int32) dX10_board_6 (by decide) ?_
  refine a_icmp_eq (tgt := 15) dX10_board_7 (by decide) (fun h7 => absurd h7 (nI_ne1 (by omega))) (fun h7 => ?_)
  refine a_aload_n dX10_board_10 rfl ?_
  refine a_iload_n dX10_board_11 rfl ?_
  refine a_inv (b2 := (1, 6)) (c_requireMeal hw hv hq hm) rfl dX10_board_12 yk_X10_requireMeal im_X10_requireMeal se_X10_requireMeal ml_X10_212 rfl (co_0 hw) (by decide) hc_X10 (by decide) (by decide) (Nat.le_of_ble_eq_true rfl) ?_
  refine a_aload_n dX10_board_15 rfl ?_
  refine a_iload_n dX10_board_16 rfl ?_
  refine a_inv (b2 := (1, 6)) (c_requireNeeds hw hv hq hn) rfl dX10_board_17 yk_X10_requireNeeds im_X10_requireNeeds se_X10_requireNeeds ml_X10_315 rfl (co_0 hw) (by decide) hc_X10 (by decide) (by decide) (Nat.le_of_ble_eq_true rfl) ?_
  refine a_iload_n dX10_board_20 rfl ?_
  refine a_iconst (-1 : Int32) dX10_board_21 (by decide) ?_
  refine a_icmp_eq (tgt := 55) dX10_board_22 (by decide) (fun h22 => absurd h22 (nI_ne1 (by omega))) (fun h22 => ?_)
  refine a_aload_n dX10_board_25 rfl ?_
  refine a_getR (cr_0_7 hw) dX10_board_26 fs_X10_28 rfl (co_0 hw) ?_
  refine a_getR hv.rp dX10_board_29 fs_X10_116 rfl (fl_o hw fl_now) ?_
  refine a_getR (pl_r4 hw hq.pl) dX10_board_32 fs_X10_215 rfl (pl_o hw hq.pl) ?_
  refine a_iload_n dX10_board_35 rfl ?_
  refine a_aald (j := m) dX10_board_36 (pl_a6 hw hq.pl) (by decide) (ixn (by omega) (by decide)) (pl_rm hw hq.pl (by omega)) ?_
  refine a_getI dX10_board_37 fs_X10_219 rfl (pl_m hw hq.pl (by omega)) ?_
  rw [hq.m1 hm]
  refine a_iload_n dX10_board_40 rfl ?_
  refine a_icmp_eq (tgt := 55) dX10_board_41 (by decide) (fun h41 => ?_) (fun h41 => absurd h41 (fun z => z hwm))
  refine a_aload_n dX10_board_55 rfl ?_
  exact a_out rfl rfl (a_invX (cx_requireFlight hw hv hq h) rfl dX10_board_56 yk_X10_requireFlight im_X10_requireFlight se_X10_requireFlight ml_X10_320 rfl (co_0 hw) (by decide) hc_X10 (by decide) (by decide) (Nat.le_of_ble_eq_true rfl) rfl)

theorem cr_board_w (hw : Wf μ) (hv : FV μ 24 p d) (hq : PV μ p q) (hgo : goD q d) {c n : Nat} (hc : c < pC q) (hn : n < 256) {m : Nat} (hm : m < pM q) (hwm : pF q 2 m = nI c) (hP : 40 ≤ dP d) : Ct Y_X10_board RX_X10_board [.ref 0, .int (nI c), .int (nI n), .int (nI m)] μ (.inr ISE) (sI μ 0 6 8) := by
  have hC4 := hq.C4
  have hM4 := hq.M4
  have hT4 := hq.T4
  have hP4 := hv.P4
  have hU4 := hv.U4
  refine Ct.ent yk_X10_board (Nat.le_of_ble_eq_true rfl) ?_
  refine a_aload_n dX10_board_0 rfl ?_
  refine a_iload_n dX10_board_1 rfl ?_
  refine a_inv (b2 := (1, 6)) (c_requireCabin hw hv hq hc) rfl dX10_board_2 yk_X10_requireCabin im_X10_requireCabin se_X10_requireCabin ml_X10_175 rfl (co_0 hw) (by decide) hc_X10 (by decide) (by decide) (Nat.le_of_ble_eq_true rfl) ?_
  refine a_iload_n dX10_board_5 rfl ?_
  refine a_iconst (-1 : Int32) dX10_board_6 (by decide) ?_
  refine a_icmp_eq (tgt := 15) dX10_board_7 (by decide) (fun h7 => absurd h7 (nI_ne1 (by omega))) (fun h7 => ?_)
  refine a_aload_n dX10_board_10 rfl ?_
  refine a_iload_n dX10_board_11 rfl ?_
  refine a_inv (b2 := (1, 6)) (c_requireMeal hw hv hq hm) rfl dX10_board_12 yk_X10_requireMeal im_X10_requireMeal se_X10_requireMeal ml_X10_212 rfl (co_0 hw) (by decide) hc_X10 (by decide) (by decide) (Nat.le_of_ble_eq_true rfl) ?_
  refine a_aload_n dX10_board_15 rfl ?_
  refine a_iload_n dX10_board_16 rfl ?_
  refine a_inv (b2 := (1, 6)) (c_requireNeeds hw hv hq hn) rfl dX10_board_17 yk_X10_requireNeeds im_X10_requireNeeds se_X10_requireNeeds ml_X10_315 rfl (co_0 hw) (by decide) hc_X10 (by decide) (by decide) (Nat.le_of_ble_eq_true rfl) ?_
  refine a_iload_n dX10_board_20 rfl ?_
  refine a_iconst (-1 : Int32) dX10_board_21 (by decide) ?_
  refine a_icmp_eq (tgt := 55) dX10_board_22 (by decide) (fun h22 => absurd h22 (nI_ne1 (by omega))) (fun h22 => ?_)
  refine a_aload_n dX10_board_25 rfl ?_
  refine a_getR (cr_0_7 hw) dX10_board_26 fs_X10_28 rfl (co_0 hw) ?_
  refine a_getR hv.rp dX10_board_29 fs_X10_116 rfl (fl_o hw fl_now) ?_
  refine a_getR (pl_r4 hw hq.pl) dX10_board_32 fs_X10_215 rfl (pl_o hw hq.pl) ?_
  refine a_iload_n dX10_board_35 rfl ?_
  refine a_aald (j := m) dX10_board_36 (pl_a6 hw hq.pl) (by decide) (ixn (by omega) (by decide)) (pl_rm hw hq.pl (by omega)) ?_
  refine a_getI dX10_board_37 fs_X10_219 rfl (pl_m hw hq.pl (by omega)) ?_
  rw [hq.m1 hm]
  refine a_iload_n dX10_board_40 rfl ?_
  refine a_icmp_eq (tgt := 55) dX10_board_41 (by decide) (fun h41 => ?_) (fun h41 => absurd h41 (fun z => z hwm))
  refine a_aload_n dX10_board_55 rfl ?_
  refine a_inv (b2 := (1, 6)) (c_requireFlight hw hv hq hgo) rfl dX10_board_56 yk_X10_requireFlight im_X10_requireFlight se_X10_requireFlight ml_X10_320 rfl (co_0 hw) (by decide) hc_X10 (by decide) (by decide) (Nat.le_of_ble_eq_true rfl) ?_
  refine a_aload_n dX10_board_59 rfl ?_
  refine a_getR (cr_0_7 hw) dX10_board_60 fs_X10_28 rfl (co_0 hw) ?_
  refine a_getI dX10_board_63 fs_X10_132 rfl (fl_o hw fl_now) ?_
  rw [hv.hP]
  refine a_bipush (40 : Int32) dX10_board_66 (by decide) ?_
  refine a_icmp_lt (tgt := 77) dX10_board_68 (by decide) (fun h68 => absurd h68 (nI_nlt (b := 40) hP (by omega))) (fun h68 => ?_)
  refine a_aload_n dX10_board_71 rfl ?_
  refine a_bipush (8 : Int32) dX10_board_72 (by decide) ?_
  exact a_out rfl rfl (a_invX (cx_refuse hw 8) rfl dX10_board_74 yk_X10_refuse im_X10_refuse se_X10_refuse ml_X10_323 rfl (co_0 hw) (by decide) hc_X10 (by decide) (by decide) (Nat.le_of_ble_eq_true rfl) rfl)

theorem cs_board_w (hw : Wf μ) (hv : FV μ 24 p d) (hq : PV μ p q) (hgo : goD q d) {c n : Nat} (hc : c < pC q) (hn : n < 256) {m : Nat} (hm : m < pM q) (hwm : pF q 2 m = nI c) (hP : dP d < 40) (h : pF q 0 c - paD d (nI c) < 1) : Ct Y_X10_board RX_X10_board [.ref 0, .int (nI c), .int (nI n), .int (nI m)] μ (.inr ISE) (sI μ 0 6 9) := by
  have hC4 := hq.C4
  have hM4 := hq.M4
  have hT4 := hq.T4
  have hP4 := hv.P4
  have hU4 := hv.U4
  refine Ct.ent yk_X10_board (Nat.le_of_ble_eq_true rfl) ?_
  refine a_aload_n dX10_board_0 rfl ?_
  refine a_iload_n dX10_board_1 rfl ?_
  refine a_inv (b2 := (1, 6)) (c_requireCabin hw hv hq hc) rfl dX10_board_2 yk_X10_requireCabin im_X10_requireCabin se_X10_requireCabin ml_X10_175 rfl (co_0 hw) (by decide) hc_X10 (by decide) (by decide) (Nat.le_of_ble_eq_true rfl) ?_
  refine a_iload_n dX10_board_5 rfl ?_
  refine a_iconst (-1 : Int32) dX10_board_6 (by decide) ?_
  refine a_icmp_eq (tgt := 15) dX10_board_7 (by decide) (fun h7 => absurd h7 (nI_ne1 (by omega))) (fun h7 => ?_)
  refine a_aload_n dX10_board_10 rfl ?_
  refine a_iload_n dX10_board_11 rfl ?_
  refine a_inv (b2 := (1, 6)) (c_requireMeal hw hv hq hm) rfl dX10_board_12 yk_X10_requireMeal im_X10_requireMeal se_X10_requireMeal ml_X10_212 rfl (co_0 hw) (by decide) hc_X10 (by decide) (by decide) (Nat.le_of_ble_eq_true rfl) ?_
  refine a_aload_n dX10_board_15 rfl ?_
  refine a_iload_n dX10_board_16 rfl ?_
  refine a_inv (b2 := (1, 6)) (c_requireNeeds hw hv hq hn) rfl dX10_board_17 yk_X10_requireNeeds im_X10_requireNeeds se_X10_requireNeeds ml_X10_315 rfl (co_0 hw) (by decide) hc_X10 (by decide) (by decide) (Nat.le_of_ble_eq_true rfl) ?_
  refine a_iload_n dX10_board_20 rfl ?_
  refine a_iconst (-1 : Int32) dX10_board_21 (by decide) ?_
  refine a_icmp_eq (tgt := 55) dX10_board_22 (by decide) (fun h22 => absurd h22 (nI_ne1 (by omega))) (fun h22 => ?_)
  refine a_aload_n dX10_board_25 rfl ?_
  refine a_getR (cr_0_7 hw) dX10_board_26 fs_X10_28 rfl (co_0 hw) ?_
  refine a_getR hv.rp dX10_board_29 fs_X10_116 rfl (fl_o hw fl_now) ?_
  refine a_getR (pl_r4 hw hq.pl) dX10_board_32 fs_X10_215 rfl (pl_o hw hq.pl) ?_
  refine a_iload_n dX10_board_35 rfl ?_
  refine a_aald (j := m) dX10_board_36 (pl_a6 hw hq.pl) (by decide) (ixn (by omega) (by decide)) (pl_rm hw hq.pl (by omega)) ?_
  refine a_getI dX10_board_37 fs_X10_219 rfl (pl_m hw hq.pl (by omega)) ?_
  rw [hq.m1 hm]
  refine a_iload_n dX10_board_40 rfl ?_
  refine a_icmp_eq (tgt := 55) dX10_board_41 (by decide) (fun h41 => ?_) (fun h41 => absurd h41 (fun z => z hwm))
  refine a_aload_n dX10_board_55 rfl ?_
  refine a_inv (b2 := (1, 6)) (c_requireFlight hw hv hq hgo) rfl dX10_board_56 yk_X10_requireFlight im_X10_requireFlight se_X10_requireFlight ml_X10_320 rfl (co_0 hw) (by decide) hc_X10 (by decide) (by decide) (Nat.le_of_ble_eq_true rfl) ?_
  refine a_aload_n dX10_board_59 rfl ?_
  refine a_getR (cr_0_7 hw) dX10_board_60 fs_X10_28 rfl (co_0 hw) ?_
  refine a_getI dX10_board_63 fs_X10_132 rfl (fl_o hw fl_now) ?_
  rw [hv.hP]
  refine a_bipush (40 : Int32) dX10_board_66 (by decide) ?_
  refine a_icmp_lt (tgt := 77) dX10_board_68 (by decide) (fun h68 => ?_) (fun h68 => absurd h68 (fun z => z (nI_lt (b := 40) hP (by decide))))
  refine a_aload_n dX10_board_77 rfl ?_
  refine a_iload_n dX10_board_78 rfl ?_
  exact a_out rfl rfl (a_invX (cx_requireSeat hw hv hq hc h) rfl dX10_board_79 yk_X10_requireSeat im_X10_requireSeat se_X10_requireSeat ml_X10_326 rfl (co_0 hw) (by decide) hc_X10 (by decide) (by decide) (Nat.le_of_ble_eq_true rfl) rfl)

theorem cz_board_w (hw : Wf μ) (hv : FV μ 24 p d) (hq : PV μ p q) {c : Nat} (hc : c < pC q) {m : Nat} (hm : m < pM q) {y : Int32} (h : ixO y 256 = none) : Ct Y_X10_board RX_X10_board [.ref 0, .int (nI c), .int y, .int (nI m)] μ (.inr IAE) μ := by
  have hC4 := hq.C4
  have hM4 := hq.M4
  have hT4 := hq.T4
  have hP4 := hv.P4
  have hU4 := hv.U4
  refine Ct.ent yk_X10_board (Nat.le_of_ble_eq_true rfl) ?_
  refine a_aload_n dX10_board_0 rfl ?_
  refine a_iload_n dX10_board_1 rfl ?_
  refine a_inv (b2 := (1, 6)) (c_requireCabin hw hv hq hc) rfl dX10_board_2 yk_X10_requireCabin im_X10_requireCabin se_X10_requireCabin ml_X10_175 rfl (co_0 hw) (by decide) hc_X10 (by decide) (by decide) (Nat.le_of_ble_eq_true rfl) ?_
  refine a_iload_n dX10_board_5 rfl ?_
  refine a_iconst (-1 : Int32) dX10_board_6 (by decide) ?_
  refine a_icmp_eq (tgt := 15) dX10_board_7 (by decide) (fun h7 => absurd h7 (nI_ne1 (by omega))) (fun h7 => ?_)
  refine a_aload_n dX10_board_10 rfl ?_
  refine a_iload_n dX10_board_11 rfl ?_
  refine a_inv (b2 := (1, 6)) (c_requireMeal hw hv hq hm) rfl dX10_board_12 yk_X10_requireMeal im_X10_requireMeal se_X10_requireMeal ml_X10_212 rfl (co_0 hw) (by decide) hc_X10 (by decide) (by decide) (Nat.le_of_ble_eq_true rfl) ?_
  refine a_aload_n dX10_board_15 rfl ?_
  refine a_iload_n dX10_board_16 rfl ?_
  exact a_out rfl rfl (a_invX (cx_requireNeeds hw hv hq h) rfl dX10_board_17 yk_X10_requireNeeds im_X10_requireNeeds se_X10_requireNeeds ml_X10_315 rfl (co_0 hw) (by decide) hc_X10 (by decide) (by decide) (Nat.le_of_ble_eq_true rfl) rfl)

theorem cm_board (hw : Wf μ) (hv : FV μ 24 p d) (hq : PV μ p q) {c n : Nat} (hc : c < pC q) (hn : n < 256) {m : Nat} (hm : m < pM q) (hwm : ¬ pF q 2 m = nI c) : Ct Y_X10_board RX_X10_board [.ref 0, .int (nI c), .int (nI n), .int (nI m)] μ (.inr IAE) μ := by
  have hC4 := hq.C4
  have hM4 := hq.M4
  have hT4 := hq.T4
  have hP4 := hv.P4
  have hU4 := hv.U4
  refine Ct.ent yk_X10_board (Nat.le_of_ble_eq_true rfl) ?_
  refine a_aload_n dX10_board_0 rfl ?_
  refine a_iload_n dX10_board_1 rfl ?_
  refine a_inv (b2 := (1, 6)) (c_requireCabin hw hv hq hc) rfl dX10_board_2 yk_X10_requireCabin im_X10_requireCabin se_X10_requireCabin ml_X10_175 rfl (co_0 hw) (by decide) hc_X10 (by decide) (by decide) (Nat.le_of_ble_eq_true rfl) ?_
  refine a_iload_n dX10_board_5 rfl ?_
  refine a_iconst (-1 : Int32) dX10_board_6 (by decide) ?_
  refine a_icmp_eq (tgt := 15) dX10_board_7 (by decide) (fun h7 => absurd h7 (nI_ne1 (by omega))) (fun h7 => ?_)
  refine a_aload_n dX10_board_10 rfl ?_
  refine a_iload_n dX10_board_11 rfl ?_
  refine a_inv (b2 := (1, 6)) (c_requireMeal hw hv hq hm) rfl dX10_board_12 yk_X10_requireMeal im_X10_requireMeal se_X10_requireMeal ml_X10_212 rfl (co_0 hw) (by decide) hc_X10 (by decide) (by decide) (Nat.le_of_ble_eq_true rfl) ?_
  refine a_aload_n dX10_board_15 rfl ?_
  refine a_iload_n dX10_board_16 rfl ?_
  refine a_inv (b2 := (1, 6)) (c_requireNeeds hw hv hq hn) rfl dX10_board_17 yk_X10_requireNeeds im_X10_requireNeeds se_X10_requireNeeds ml_X10_315 rfl (co_0 hw) (by decide) hc_X10 (by decide) (by decide) (Nat.le_of_ble_eq_true rfl) ?_
  refine a_iload_n dX10_board_20 rfl ?_
  refine a_iconst (-1 : Int32) dX10_board_21 (by decide) ?_
  refine a_icmp_eq (tgt := 55) dX10_board_22 (by decide) (fun h22 => absurd h22 (nI_ne1 (by omega))) (fun h22 => ?_)
  refine a_aload_n dX10_board_25 rfl ?_
  refine a_getR (cr_0_7 hw) dX10_board_26 fs_X10_28 rfl (co_0 hw) ?_
  refine a_getR hv.rp dX10_board_29 fs_X10_116 rfl (fl_o hw fl_now) ?_
  refine a_getR (pl_r4 hw hq.pl) dX10_board_32 fs_X10_215 rfl (pl_o hw hq.pl) ?_
  refine a_iload_n dX10_board_35 rfl ?_
  refine a_aald (j := m) dX10_board_36 (pl_a6 hw hq.pl) (by decide) (ixn (by omega) (by decide)) (pl_rm hw hq.pl (by omega)) ?_
  refine a_getI dX10_board_37 fs_X10_219 rfl (pl_m hw hq.pl (by omega)) ?_
  rw [hq.m1 hm]
  refine a_iload_n dX10_board_40 rfl ?_
  refine a_icmp_eq (tgt := 55) dX10_board_41 (by decide) (fun h41 => absurd h41 hwm) (fun h41 => ?_)
  exact a_throwSW (n := 55) (tx := "the wish is not on the menu") (by decide) (by decide) xw_IAE rfl rfl dX10_board_44 dX10_board_47 dX10_board_48 dX10_board_51 dX10_board_54 (by decide) (by decide) (by decide) (by decide) (by decide)

theorem cx_board (hw : Wf μ) (hv : FV μ 24 p d) (hq : PV μ p q) {x y z : Int32} (h : ixO x (pC q) = none) : Ct Y_X10_board RX_X10_board [.ref 0, .int x, .int y, .int z] μ (.inr NSE) μ := by
  have hC4 := hq.C4
  have hM4 := hq.M4
  have hT4 := hq.T4
  have hP4 := hv.P4
  have hU4 := hv.U4
  refine Ct.ent yk_X10_board (Nat.le_of_ble_eq_true rfl) ?_
  refine a_aload_n dX10_board_0 rfl ?_
  refine a_iload_n dX10_board_1 rfl ?_
  exact a_out rfl rfl (a_invX (cx_requireCabin hw hv hq h) rfl dX10_board_2 yk_X10_requireCabin im_X10_requireCabin se_X10_requireCabin ml_X10_175 rfl (co_0 hw) (by decide) hc_X10 (by decide) (by decide) (Nat.le_of_ble_eq_true rfl) rfl)

theorem cy_board (hw : Wf μ) (hv : FV μ 24 p d) (hq : PV μ p q) {c : Nat} (hc : c < pC q) {y z : Int32} (hz : ¬ z = -1) (h : ixO z (pM q) = none) : Ct Y_X10_board RX_X10_board [.ref 0, .int (nI c), .int y, .int z] μ (.inr NSE) μ := by
  have hC4 := hq.C4
  have hM4 := hq.M4
  have hT4 := hq.T4
  have hP4 := hv.P4
  have hU4 := hv.U4
  refine Ct.ent yk_X10_board (Nat.le_of_ble_eq_true rfl) ?_
  refine a_aload_n dX10_board_0 rfl ?_
  refine a_iload_n dX10_board_1 rfl ?_
  refine a_inv (b2 := (1, 6)) (c_requireCabin hw hv hq hc) rfl dX10_board_2 yk_X10_requireCabin im_X10_requireCabin se_X10_requireCabin ml_X10_175 rfl (co_0 hw) (by decide) hc_X10 (by decide) (by decide) (Nat.le_of_ble_eq_true rfl) ?_
  refine a_iload_n dX10_board_5 rfl ?_
  refine a_iconst (-1 : Int32) dX10_board_6 (by decide) ?_
  refine a_icmp_eq (tgt := 15) dX10_board_7 (by decide) (fun h7 => absurd h7 hz) (fun h7 => ?_)
  refine a_aload_n dX10_board_10 rfl ?_
  refine a_iload_n dX10_board_11 rfl ?_
  exact a_out rfl rfl (a_invX (cx_requireMeal hw hv hq h) rfl dX10_board_12 yk_X10_requireMeal im_X10_requireMeal se_X10_requireMeal ml_X10_212 rfl (co_0 hw) (by decide) hc_X10 (by decide) (by decide) (Nat.le_of_ble_eq_true rfl) rfl)
theorem v_X1_copy (hw : Wf μ) (hf : Fl f) (hv : FV μ g p d) (hfg : f ≠ g) (h01 : dF d 6 0 = 0 ∨ dF d 6 0 = 1) : CV Y_X1_copy R_X1_copy [.ref f, .ref g] μ (fun v V => v = none ∧ FV V f p d ∧ Out (sFl f) μ V) := by
  have hc := t_X1_copy hw hf hv.fl hfg hv.rp (by rw [hv.srv]; exact h01)
  have hcp := cp_all hw hf hv hfg
  revert hc hcp
  generalize cpF μ f g p = V
  intro hc hcp
  exact ⟨none, V, hc, rfl, hcp.2.2, hcp.2.1⟩
/-- the trial and the reckonings aside, nothing changes -/
abbrev sTr : Nat → Prop := fun i => (41 ≤ i ∧ i ≤ 57) ∨ (325 ≤ i ∧ i ≤ 333)
theorem CrV.tr (h : CrV μ p q d H S) (ho : Out sTr μ W) : CrV W p q d H S := by
  have hpp := h.pv.pl
  exact ⟨ho.1, h.pv.out ho (fun i a b y => by rcases hpp with e | e <;> (subst e; rcases y with y | y <;> omega)), h.fv.out ho (fun i a b y => by rcases y with y | y <;> omega), h.hs.out ho (fun i y => by rcases y with y | y <;> omega), h.sl.out ho (fun i y => by rcases y with y | y <;> omega), h.sv.out ho (fun i a b y => by rcases y with y | y <;> omega) (ho.i (fun y => by rcases y with y | y <;> omega) 17)⟩
theorem tr_act (ho : Out sTr μ W) : Out sAct μ W ∧ Own μ W := ⟨ho.mono (S' := sAct) (fun i y => by rcases y with y | y; exact Or.inr (Or.inl ⟨by omega, y.2⟩); exact Or.inr (Or.inr (Or.inr (Or.inr ⟨y.1, by omega⟩)))), Own.of ho (fun y => by rcases y with y | y <;> omega)⟩
theorem tr_41 (ho : Out (sFl 41) μ W) : Out sTr μ W := ho.mono (S' := sTr) (fun i y => Or.inl ⟨y.1, by have := y.2; omega⟩)
/-- an act is refused for the reason v -/
def RfQ (μ V : Wd) (v : Int32) : Prop := ∃ W : Wd, V = sI W 0 6 v ∧ Out sTr μ W
abbrev R_X10_store : Room := { frames := 10, cells := 0, slots := 0, locals := 202 }
abbrev RX_X10_store : Room := { frames := 10, cells := 1, slots := 6, locals := 202 }

theorem c_store (h : CrV μ p q d H S) (hd : GdD q d) (hop : phD q d = 1) {m n : Nat} (hm : m < pM q) (g1 : 1 ≤ n) (g2 : n ≤ 99) (hst : nI n ≤ nI (stM q m n d).1) (h01s : dF (stM q m n d).2 6 0 = 0 ∨ dF (stM q m n d).2 6 0 = 1) : CV Y_X10_store R_X10_store [.ref 0, .int (nI m), .int (nI n)] μ (fun v V => v = some (.int (ldD q (stM q m n d).2 m)) ∧ ActQ μ V p q (stM q m n d).2 (pushH H d) S) := by
  have hw := h.wf
  have hv := h.fv
  have hq := h.pv
  have h01 := hd.s01
  have hC4 := hq.C4
  have hM4 := hq.M4
  have hT4 := hq.T4
  have hP4 := hv.P4
  have hU4 := hv.U4
  refine CV.ent yk_X10_store (Nat.le_of_ble_eq_true rfl) ?_
  refine lf (a_aload_n dX10_store_0 rfl) ?_
  refine lf (a_iload_n dX10_store_1 rfl) ?_
  refine lf (a_inv (b2 := (0, 0)) (c_requireMeal (by repeat (first | with_reducible exact hw | with_reducible exact hwc | with_reducible assumption | with_reducible apply Wf.sI | with_reducible apply Wf.sL | with_reducible apply Wf.cpI | with_reducible apply Wf.cpL | with_reducible apply Wf.cp2 | with_reducible apply Wf.sIs | with_reducible apply Wf.sLs | with_reducible apply Wf.cpU | with_reducible apply Wf.fillI | with_reducible apply Wf.clU | with_reducible apply Wf.dnF | with_reducible apply Wf.gbW)) hv hq hm) rfl dX10_store_2 yk_X10_requireMeal im_X10_requireMeal se_X10_requireMeal ml_X10_212 rfl (co_0 (by repeat (first | with_reducible exact hw | with_reducible exact hwc | with_reducible assumption | with_reducible apply Wf.sI | with_reducible apply Wf.sL | with_reducible apply Wf.cpI | with_reducible apply Wf.cpL | with_reducible apply Wf.cp2 | with_reducible apply Wf.sIs | with_reducible apply Wf.sLs | with_reducible apply Wf.cpU | with_reducible apply Wf.fillI | with_reducible apply Wf.clU | with_reducible apply Wf.dnF | with_reducible apply Wf.gbW))) (by decide) hc_X10 (by decide) (by decide) (Nat.le_of_ble_eq_true rfl)) ?_
  refine lf (a_aload_n dX10_store_5 rfl) ?_
  refine lf (a_iload_n dX10_store_6 rfl) ?_
  refine lf (a_inv (b2 := (0, 0)) (c_requireUnits (by repeat (first | with_reducible exact hw | with_reducible exact hwc | with_reducible assumption | with_reducible apply Wf.sI | with_reducible apply Wf.sL | with_reducible apply Wf.cpI | with_reducible apply Wf.cpL | with_reducible apply Wf.cp2 | with_reducible apply Wf.sIs | with_reducible apply Wf.sLs | with_reducible apply Wf.cpU | with_reducible apply Wf.fillI | with_reducible apply Wf.clU | with_reducible apply Wf.dnF | with_reducible apply Wf.gbW)) hv hq g1 g2) rfl dX10_store_7 yk_X10_requireUnits im_X10_requireUnits se_X10_requireUnits ml_X10_347 rfl (co_0 (by repeat (first | with_reducible exact hw | with_reducible exact hwc | with_reducible assumption | with_reducible apply Wf.sI | with_reducible apply Wf.sL | with_reducible apply Wf.cpI | with_reducible apply Wf.cpL | with_reducible apply Wf.cp2 | with_reducible apply Wf.sIs | with_reducible apply Wf.sLs | with_reducible apply Wf.cpU | with_reducible apply Wf.fillI | with_reducible apply Wf.clU | with_reducible apply Wf.dnF | with_reducible apply Wf.gbW))) (by decide) hc_X10 (by decide) (by decide) (Nat.le_of_ble_eq_true rfl)) ?_
  refine lf (a_aload_n dX10_store_10 rfl) ?_
  refine lf (a_inv (b2 := (0, 0)) (c_requireOpen (by repeat (first | with_reducible exact hw | with_reducible exact hwc | with_reducible assumption | with_reducible apply Wf.sI | with_reducible apply Wf.sL | with_reducible apply Wf.cpI | with_reducible apply Wf.cpL | with_reducible apply Wf.cp2 | with_reducible apply Wf.sIs | with_reducible apply Wf.sLs | with_reducible apply Wf.cpU | with_reducible apply Wf.fillI | with_reducible apply Wf.clU | with_reducible apply Wf.dnF | with_reducible apply Wf.gbW)) hv hq hop) rfl dX10_store_11 yk_X10_requireOpen im_X10_requireOpen se_X10_requireOpen ml_X10_341 rfl (co_0 (by repeat (first | with_reducible exact hw | with_reducible exact hwc | with_reducible assumption | with_reducible apply Wf.sI | with_reducible apply Wf.sL | with_reducible apply Wf.cpI | with_reducible apply Wf.cpL | with_reducible apply Wf.cp2 | with_reducible apply Wf.sIs | with_reducible apply Wf.sLs | with_reducible apply Wf.cpU | with_reducible apply Wf.fillI | with_reducible apply Wf.clU | with_reducible apply Wf.dnF | with_reducible apply Wf.gbW))) (by decide) hc_X10 (by decide) (by decide) (Nat.le_of_ble_eq_true rfl)) ?_
  refine lf (a_aload_n dX10_store_14 rfl) ?_
  refine lf (a_getR (cr_0_8 (by repeat (first | with_reducible exact hw | with_reducible exact hwc | with_reducible assumption | with_reducible apply Wf.sI | with_reducible apply Wf.sL | with_reducible apply Wf.cpI | with_reducible apply Wf.cpL | with_reducible apply Wf.cp2 | with_reducible apply Wf.sIs | with_reducible apply Wf.sLs | with_reducible apply Wf.cpU | with_reducible apply Wf.fillI | with_reducible apply Wf.clU | with_reducible apply Wf.dnF | with_reducible apply Wf.gbW))) dX10_store_15 fs_X10_32 rfl (co_0 (by repeat (first | with_reducible exact hw | with_reducible exact hwc | with_reducible assumption | with_reducible apply Wf.sI | with_reducible apply Wf.sL | with_reducible apply Wf.cpI | with_reducible apply Wf.cpL | with_reducible apply Wf.cp2 | with_reducible apply Wf.sIs | with_reducible apply Wf.sLs | with_reducible apply Wf.cpU | with_reducible apply Wf.fillI | with_reducible apply Wf.clU | with_reducible apply Wf.dnF | with_reducible apply Wf.gbW)))) ?_
  refine lf (a_aload_n dX10_store_18 rfl) ?_
  refine lf (a_getR (cr_0_7 (by repeat (first | with_reducible exact hw | with_reducible exact hwc | with_reducible assumption | with_reducible apply Wf.sI | with_reducible apply Wf.sL | with_reducible apply Wf.cpI | with_reducible apply Wf.cpL | with_reducible apply Wf.cp2 | with_reducible apply Wf.sIs | with_reducible apply Wf.sLs | with_reducible apply Wf.cpU | with_reducible apply Wf.fillI | with_reducible apply Wf.clU | with_reducible apply Wf.dnF | with_reducible apply Wf.gbW))) dX10_store_19 fs_X10_28 rfl (co_0 (by repeat (first | with_reducible exact hw | with_reducible exact hwc | with_reducible assumption | with_reducible apply Wf.sI | with_reducible apply Wf.sL | with_reducible apply Wf.cpI | with_reducible apply Wf.cpL | with_reducible apply Wf.cp2 | with_reducible apply Wf.sIs | with_reducible apply Wf.sLs | with_reducible apply Wf.cpU | with_reducible apply Wf.fillI | with_reducible apply Wf.clU | with_reducible apply Wf.dnF | with_reducible apply Wf.gbW)))) ?_
  obtain ⟨v_, W22, k22, rfl, hvt, hOt⟩ := (v_X1_copy hw fl_trial hv (by decide) h01)
  have hwt := hOt.wf
  have hqt := hq.fl fl_trial hOt
  refine lf (a_inv (b2 := (0, 0)) k22 rfl dX10_store_22 yk_X1_copy im_X1_copy se_X1_copy ml_X10_123 rfl (fl_o (by repeat (first | with_reducible exact hw | with_reducible exact hwc | with_reducible assumption | with_reducible apply Wf.sI | with_reducible apply Wf.sL | with_reducible apply Wf.cpI | with_reducible apply Wf.cpL | with_reducible apply Wf.cp2 | with_reducible apply Wf.sIs | with_reducible apply Wf.sLs | with_reducible apply Wf.cpU | with_reducible apply Wf.fillI | with_reducible apply Wf.clU | with_reducible apply Wf.dnF | with_reducible apply Wf.gbW)) fl_trial) (by decide) hc_X1 (by decide) (by decide) (Nat.le_of_ble_eq_true rfl)) ?_
  refine lf (a_aload_n dX10_store_25 rfl) ?_
  refine lf (a_getR (cr_0_8 (by repeat (first | with_reducible exact hw | with_reducible exact hwc | with_reducible assumption | with_reducible apply Wf.sI | with_reducible apply Wf.sL | with_reducible apply Wf.cpI | with_reducible apply Wf.cpL | with_reducible apply Wf.cp2 | with_reducible apply Wf.sIs | with_reducible apply Wf.sLs | with_reducible apply Wf.cpU | with_reducible apply Wf.fillI | with_reducible apply Wf.clU | with_reducible apply Wf.dnF | with_reducible apply Wf.gbW))) dX10_store_26 fs_X10_32 rfl (co_0 (by repeat (first | with_reducible exact hw | with_reducible exact hwc | with_reducible assumption | with_reducible apply Wf.sI | with_reducible apply Wf.sL | with_reducible apply Wf.cpI | with_reducible apply Wf.cpL | with_reducible apply Wf.cp2 | with_reducible apply Wf.sIs | with_reducible apply Wf.sLs | with_reducible apply Wf.cpU | with_reducible apply Wf.fillI | with_reducible apply Wf.clU | with_reducible apply Wf.dnF | with_reducible apply Wf.gbW)))) ?_
  refine lf (a_iload_n dX10_store_29 rfl) ?_
  refine lf (a_iload_n dX10_store_30 rfl) ?_
  obtain ⟨v_, W31, k31, rfl, hvu, hOu⟩ := (v_X1_put hwt hvt hqt hm (n := n) (by omega))
  have hwu := hOu.wf
  have hOU := tr_41 (hOt.trans hOu)
  have hA := tr_act hOU
  have hCu := h.tr hOU
  refine lf (a_inv (b2 := (0, 0)) k31 rfl dX10_store_31 yk_X1_put im_X1_put se_X1_put ml_X10_344 rfl (fl_o (by repeat (first | with_reducible exact hw | with_reducible exact hwc | with_reducible assumption | with_reducible apply Wf.sI | with_reducible apply Wf.sL | with_reducible apply Wf.cpI | with_reducible apply Wf.cpL | with_reducible apply Wf.cp2 | with_reducible apply Wf.sIs | with_reducible apply Wf.sLs | with_reducible apply Wf.cpU | with_reducible apply Wf.fillI | with_reducible apply Wf.clU | with_reducible apply Wf.dnF | with_reducible apply Wf.gbW)) fl_trial) (by decide) hc_X1 (by decide) (by decide) (Nat.le_of_ble_eq_true rfl)) ?_
  refine lf (a_iload_n dX10_store_34 rfl) ?_
  refine lf2 (a_icmp_ge (tgt := 43) dX10_store_35 (by decide)) (fun h35 => ?_) (fun h35 => absurd h35 (fun z => z hst))
  refine lf (a_aload_n dX10_store_43 rfl) ?_
  obtain ⟨v_, W44, k44, rfl, hC, h17, hO1, hE1⟩ := (hCu.push h01)
  have hwc := hC.wf
  have hv2 := hC.fv
  have hq2 := hC.pv
  have hvt2 := hvu.out hO1 (fun i a b y => by rcases y with y | y | y <;> omega)
  refine lf (a_inv (b2 := (0, 0)) k44 rfl dX10_store_44 yk_X10_beginAct im_X10_beginAct se_X10_beginAct ml_X10_329 rfl (co_0 (by repeat (first | with_reducible exact hw | with_reducible exact hwc | with_reducible assumption | with_reducible apply Wf.sI | with_reducible apply Wf.sL | with_reducible apply Wf.cpI | with_reducible apply Wf.cpL | with_reducible apply Wf.cp2 | with_reducible apply Wf.sIs | with_reducible apply Wf.sLs | with_reducible apply Wf.cpU | with_reducible apply Wf.fillI | with_reducible apply Wf.clU | with_reducible apply Wf.dnF | with_reducible apply Wf.gbW))) (by decide) hc_X10 (by decide) (by decide) (Nat.le_of_ble_eq_true rfl)) ?_
  refine lf (a_aload_n dX10_store_47 rfl) ?_
  refine lf (a_getR (cr_0_7 (by repeat (first | with_reducible exact hw | with_reducible exact hwc | with_reducible assumption | with_reducible apply Wf.sI | with_reducible apply Wf.sL | with_reducible apply Wf.cpI | with_reducible apply Wf.cpL | with_reducible apply Wf.cp2 | with_reducible apply Wf.sIs | with_reducible apply Wf.sLs | with_reducible apply Wf.cpU | with_reducible apply Wf.fillI | with_reducible apply Wf.clU | with_reducible apply Wf.dnF | with_reducible apply Wf.gbW))) dX10_store_48 fs_X10_28 rfl (co_0 (by repeat (first | with_reducible exact hw | with_reducible exact hwc | with_reducible assumption | with_reducible apply Wf.sI | with_reducible apply Wf.sL | with_reducible apply Wf.cpI | with_reducible apply Wf.cpL | with_reducible apply Wf.cp2 | with_reducible apply Wf.sIs | with_reducible apply Wf.sLs | with_reducible apply Wf.cpU | with_reducible apply Wf.fillI | with_reducible apply Wf.clU | with_reducible apply Wf.dnF | with_reducible apply Wf.gbW)))) ?_
  refine lf (a_aload_n dX10_store_51 rfl) ?_
  refine lf (a_getR (cr_0_8 (by repeat (first | with_reducible exact hw | with_reducible exact hwc | with_reducible assumption | with_reducible apply Wf.sI | with_reducible apply Wf.sL | with_reducible apply Wf.cpI | with_reducible apply Wf.cpL | with_reducible apply Wf.cp2 | with_reducible apply Wf.sIs | with_reducible apply Wf.sLs | with_reducible apply Wf.cpU | with_reducible apply Wf.fillI | with_reducible apply Wf.clU | with_reducible apply Wf.dnF | with_reducible apply Wf.gbW))) dX10_store_52 fs_X10_32 rfl (co_0 (by repeat (first | with_reducible exact hw | with_reducible exact hwc | with_reducible assumption | with_reducible apply Wf.sI | with_reducible apply Wf.sL | with_reducible apply Wf.cpI | with_reducible apply Wf.cpL | with_reducible apply Wf.cp2 | with_reducible apply Wf.sIs | with_reducible apply Wf.sLs | with_reducible apply Wf.cpU | with_reducible apply Wf.fillI | with_reducible apply Wf.clU | with_reducible apply Wf.dnF | with_reducible apply Wf.gbW)))) ?_
  obtain ⟨v_, W55, k55, rfl, hv3, hO3⟩ := (v_X1_copy hwc fl_now hvt2 (by decide) h01s)
  have hwd := hO3.wf
  have hq3 := hq2.fl hv2.fl hO3
  refine lf (a_inv (b2 := (0, 0)) k55 rfl dX10_store_55 yk_X1_copy im_X1_copy se_X1_copy ml_X10_123 rfl (fl_o (by repeat (first | with_reducible exact hw | with_reducible exact hwc | with_reducible assumption | with_reducible apply Wf.sI | with_reducible apply Wf.sL | with_reducible apply Wf.cpI | with_reducible apply Wf.cpL | with_reducible apply Wf.cp2 | with_reducible apply Wf.sIs | with_reducible apply Wf.sLs | with_reducible apply Wf.cpU | with_reducible apply Wf.fillI | with_reducible apply Wf.clU | with_reducible apply Wf.dnF | with_reducible apply Wf.gbW)) fl_now) (by decide) hc_X1 (by decide) (by decide) (Nat.le_of_ble_eq_true rfl)) ?_
  refine lf (a_aload_n dX10_store_58 rfl) ?_
  refine lf (a_getR (cr_0_7 (by repeat (first | with_reducible exact hw | with_reducible exact hwc | with_reducible assumption | with_reducible apply Wf.sI | with_reducible apply Wf.sL | with_reducible apply Wf.cpI | with_reducible apply Wf.cpL | with_reducible apply Wf.cp2 | with_reducible apply Wf.sIs | with_reducible apply Wf.sLs | with_reducible apply Wf.cpU | with_reducible apply Wf.fillI | with_reducible apply Wf.clU | with_reducible apply Wf.dnF | with_reducible apply Wf.gbW))) dX10_store_59 fs_X10_28 rfl (co_0 (by repeat (first | with_reducible exact hw | with_reducible exact hwc | with_reducible assumption | with_reducible apply Wf.sI | with_reducible apply Wf.sL | with_reducible apply Wf.cpI | with_reducible apply Wf.cpL | with_reducible apply Wf.cp2 | with_reducible apply Wf.sIs | with_reducible apply Wf.sLs | with_reducible apply Wf.cpU | with_reducible apply Wf.fillI | with_reducible apply Wf.clU | with_reducible apply Wf.dnF | with_reducible apply Wf.gbW)))) ?_
  refine lf (a_iload_n dX10_store_62 rfl) ?_
  refine lf (a_inv (b2 := (0, 0)) (v_X1_loadedOf hwd hv3 hq3 (show m < 12 by omega)) rfl dX10_store_63 yk_X1_loadedOf im_X1_loadedOf se_X1_loadedOf ml_X10_233 rfl (fl_o (by repeat (first | with_reducible exact hw | with_reducible exact hwc | with_reducible assumption | with_reducible apply Wf.sI | with_reducible apply Wf.sL | with_reducible apply Wf.cpI | with_reducible apply Wf.cpL | with_reducible apply Wf.cp2 | with_reducible apply Wf.sIs | with_reducible apply Wf.sLs | with_reducible apply Wf.cpU | with_reducible apply Wf.fillI | with_reducible apply Wf.clU | with_reducible apply Wf.dnF | with_reducible apply Wf.gbW)) fl_now) (by decide) hc_X1 (by decide) (by decide) (Nat.le_of_ble_eq_true rfl)) ?_
  refine ⟨_, _, (a_ireturn dX10_store_66 rfl rfl), ?_⟩
  exact ⟨_, rfl, rfl, ActQ.pre hA.1 hA.2 (ActQ.fin hC h17 hO1 hE1 hO3 hv3)⟩
theorem cr_store (h : CrV μ p q d H S) (hd : GdD q d) (hop : phD q d = 1) {m n : Nat} (hm : m < pM q) (g1 : 1 ≤ n) (g2 : n ≤ 99) (hst : ¬ nI n ≤ nI (stM q m n d).1) : CO Y_X10_store RX_X10_store [.ref 0, .int (nI m), .int (nI n)] μ (fun o V => o = .inr ISE ∧ RfQ μ V 3) := by
  have hw := h.wf
  have hv := h.fv
  have hq := h.pv
  have h01 := hd.s01
  have hC4 := hq.C4
  have hM4 := hq.M4
  have hT4 := hq.T4
  have hP4 := hv.P4
  have hU4 := hv.U4
  refine CO.ent yk_X10_store (Nat.le_of_ble_eq_true rfl) ?_
  refine lf (a_aload_n dX10_store_0 rfl) ?_
  refine lf (a_iload_n dX10_store_1 rfl) ?_
  refine lf (a_inv (b2 := (1, 6)) (c_requireMeal (by repeat (first | with_reducible exact hw | with_reducible exact hwc | with_reducible assumption | with_reducible apply Wf.sI | with_reducible apply Wf.sL | with_reducible apply Wf.cpI | with_reducible apply Wf.cpL | with_reducible apply Wf.cp2 | with_reducible apply Wf.sIs | with_reducible apply Wf.sLs | with_reducible apply Wf.cpU | with_reducible apply Wf.fillI | with_reducible apply Wf.clU | with_reducible apply Wf.dnF | with_reducible apply Wf.gbW)) hv hq hm) rfl dX10_store_2 yk_X10_requireMeal im_X10_requireMeal se_X10_requireMeal ml_X10_212 rfl (co_0 (by repeat (first | with_reducible exact hw | with_reducible exact hwc | with_reducible assumption | with_reducible apply Wf.sI | with_reducible apply Wf.sL | with_reducible apply Wf.cpI | with_reducible apply Wf.cpL | with_reducible apply Wf.cp2 | with_reducible apply Wf.sIs | with_reducible apply Wf.sLs | with_reducible apply Wf.cpU | with_reducible apply Wf.fillI | with_reducible apply Wf.clU | with_reducible apply Wf.dnF | with_reducible apply Wf.gbW))) (by decide) hc_X10 (by decide) (by decide) (Nat.le_of_ble_eq_true rfl)) ?_
  refine lf (a_aload_n dX10_store_5 rfl) ?_
  refine lf (a_iload_n dX10_store_6 rfl) ?_
  refine lf (a_inv (b2 := (1, 6)) (c_requireUnits (by repeat (first | with_reducible exact hw | with_reducible exact hwc | with_reducible assumption | with_reducible apply Wf.sI | with_reducible apply Wf.sL | with_reducible apply Wf.cpI | with_reducible apply Wf.cpL | with_reducible apply Wf.cp2 | with_reducible apply Wf.sIs | with_reducible apply Wf.sLs | with_reducible apply Wf.cpU | with_reducible apply Wf.fillI | with_reducible apply Wf.clU | with_reducible apply Wf.dnF | with_reducible apply Wf.gbW)) hv hq g1 g2) rfl dX10_store_7 yk_X10_requireUnits im_X10_requireUnits se_X10_requireUnits ml_X10_347 rfl (co_0 (by repeat (first | with_reducible exact hw | with_reducible exact hwc | with_reducible assumption | with_reducible apply Wf.sI | with_reducible apply Wf.sL | with_reducible apply Wf.cpI | with_reducible apply Wf.cpL | with_reducible apply Wf.cp2 | with_reducible apply Wf.sIs | with_reducible apply Wf.sLs | with_reducible apply Wf.cpU | with_reducible apply Wf.fillI | with_reducible apply Wf.clU | with_reducible apply Wf.dnF | with_reducible apply Wf.gbW))) (by decide) hc_X10 (by decide) (by decide) (Nat.le_of_ble_eq_true rfl)) ?_
  refine lf (a_aload_n dX10_store_10 rfl) ?_
  refine lf (a_inv (b2 := (1, 6)) (c_requireOpen (by repeat (first | with_reducible exact hw | with_reducible exact hwc | with_reducible assumption | with_reducible apply Wf.sI | with_reducible apply Wf.sL | with_reducible apply Wf.cpI | with_reducible apply Wf.cpL | with_reducible apply Wf.cp2 | with_reducible apply Wf.sIs | with_reducible apply Wf.sLs | with_reducible apply Wf.cpU | with_reducible apply Wf.fillI | with_reducible apply Wf.clU | with_reducible apply Wf.dnF | with_reducible apply Wf.gbW)) hv hq hop) rfl dX10_store_11 yk_X10_requireOpen im_X10_requireOpen se_X10_requireOpen ml_X10_341 rfl (co_0 (by repeat (first | with_reducible exact hw | with_reducible exact hwc | with_reducible assumption | with_reducible apply Wf.sI | with_reducible apply Wf.sL | with_reducible apply Wf.cpI | with_reducible apply Wf.cpL | with_reducible apply Wf.cp2 | with_reducible apply Wf.sIs | with_reducible apply Wf.sLs | with_reducible apply Wf.cpU | with_reducible apply Wf.fillI | with_reducible apply Wf.clU | with_reducible apply Wf.dnF | with_reducible apply Wf.gbW))) (by decide) hc_X10 (by decide) (by decide) (Nat.le_of_ble_eq_true rfl)) ?_
  refine lf (a_aload_n dX10_store_14 rfl) ?_
  refine lf (a_getR (cr_0_8 (by repeat (first | with_reducible exact hw | with_reducible exact hwc | with_reducible assumption | with_reducible apply Wf.sI | with_reducible apply Wf.sL | with_reducible apply Wf.cpI | with_reducible apply Wf.cpL | with_reducible apply Wf.cp2 | with_reducible apply Wf.sIs | with_reducible apply Wf.sLs | with_reducible apply Wf.cpU | with_reducible apply Wf.fillI | with_reducible apply Wf.clU | with_reducible apply Wf.dnF | with_reducible apply Wf.gbW))) dX10_store_15 fs_X10_32 rfl (co_0 (by repeat (first | with_reducible exact hw | with_reducible exact hwc | with_reducible assumption | with_reducible apply Wf.sI | with_reducible apply Wf.sL | with_reducible apply Wf.cpI | with_reducible apply Wf.cpL | with_reducible apply Wf.cp2 | with_reducible apply Wf.sIs | with_reducible apply Wf.sLs | with_reducible apply Wf.cpU | with_reducible apply Wf.fillI | with_reducible apply Wf.clU | with_reducible apply Wf.dnF | with_reducible apply Wf.gbW)))) ?_
  refine lf (a_aload_n dX10_store_18 rfl) ?_
  refine lf (a_getR (cr_0_7 (by repeat (first | with_reducible exact hw | with_reducible exact hwc | with_reducible assumption | with_reducible apply Wf.sI | with_reducible apply Wf.sL | with_reducible apply Wf.cpI | with_reducible apply Wf.cpL | with_reducible apply Wf.cp2 | with_reducible apply Wf.sIs | with_reducible apply Wf.sLs | with_reducible apply Wf.cpU | with_reducible apply Wf.fillI | with_reducible apply Wf.clU | with_reducible apply Wf.dnF | with_reducible apply Wf.gbW))) dX10_store_19 fs_X10_28 rfl (co_0 (by repeat (first | with_reducible exact hw | with_reducible exact hwc | with_reducible assumption | with_reducible apply Wf.sI | with_reducible apply Wf.sL | with_reducible apply Wf.cpI | with_reducible apply Wf.cpL | with_reducible apply Wf.cp2 | with_reducible apply Wf.sIs | with_reducible apply Wf.sLs | with_reducible apply Wf.cpU | with_reducible apply Wf.fillI | with_reducible apply Wf.clU | with_reducible apply Wf.dnF | with_reducible apply Wf.gbW)))) ?_
  obtain ⟨v_, W22, k22, rfl, hvt, hOt⟩ := (v_X1_copy hw fl_trial hv (by decide) h01)
  have hwt := hOt.wf
  have hqt := hq.fl fl_trial hOt
  refine lf (a_inv (b2 := (1, 6)) k22 rfl dX10_store_22 yk_X1_copy im_X1_copy se_X1_copy ml_X10_123 rfl (fl_o (by repeat (first | with_reducible exact hw | with_reducible exact hwc | with_reducible assumption | with_reducible apply Wf.sI | with_reducible apply Wf.sL | with_reducible apply Wf.cpI | with_reducible apply Wf.cpL | with_reducible apply Wf.cp2 | with_reducible apply Wf.sIs | with_reducible apply Wf.sLs | with_reducible apply Wf.cpU | with_reducible apply Wf.fillI | with_reducible apply Wf.clU | with_reducible apply Wf.dnF | with_reducible apply Wf.gbW)) fl_trial) (by decide) hc_X1 (by decide) (by decide) (Nat.le_of_ble_eq_true rfl)) ?_
  refine lf (a_aload_n dX10_store_25 rfl) ?_
  refine lf (a_getR (cr_0_8 (by repeat (first | with_reducible exact hw | with_reducible exact hwc | with_reducible assumption | with_reducible apply Wf.sI | with_reducible apply Wf.sL | with_reducible apply Wf.cpI | with_reducible apply Wf.cpL | with_reducible apply Wf.cp2 | with_reducible apply Wf.sIs | with_reducible apply Wf.sLs | with_reducible apply Wf.cpU | with_reducible apply Wf.fillI | with_reducible apply Wf.clU | with_reducible apply Wf.dnF | with_reducible apply Wf.gbW))) dX10_store_26 fs_X10_32 rfl (co_0 (by repeat (first | with_reducible exact hw | with_reducible exact hwc | with_reducible assumption | with_reducible apply Wf.sI | with_reducible apply Wf.sL | with_reducible apply Wf.cpI | with_reducible apply Wf.cpL | with_reducible apply Wf.cp2 | with_reducible apply Wf.sIs | with_reducible apply Wf.sLs | with_reducible apply Wf.cpU | with_reducible apply Wf.fillI | with_reducible apply Wf.clU | with_reducible apply Wf.dnF | with_reducible apply Wf.gbW)))) ?_
  refine lf (a_iload_n dX10_store_29 rfl) ?_
  refine lf (a_iload_n dX10_store_30 rfl) ?_
  obtain ⟨v_, W31, k31, rfl, hvu, hOu⟩ := (v_X1_put hwt hvt hqt hm (n := n) (by omega))
  have hwu := hOu.wf
  have hOU := tr_41 (hOt.trans hOu)
  have hA := tr_act hOU
  have hCu := h.tr hOU
  refine lf (a_inv (b2 := (1, 6)) k31 rfl dX10_store_31 yk_X1_put im_X1_put se_X1_put ml_X10_344 rfl (fl_o (by repeat (first | with_reducible exact hw | with_reducible exact hwc | with_reducible assumption | with_reducible apply Wf.sI | with_reducible apply Wf.sL | with_reducible apply Wf.cpI | with_reducible apply Wf.cpL | with_reducible apply Wf.cp2 | with_reducible apply Wf.sIs | with_reducible apply Wf.sLs | with_reducible apply Wf.cpU | with_reducible apply Wf.fillI | with_reducible apply Wf.clU | with_reducible apply Wf.dnF | with_reducible apply Wf.gbW)) fl_trial) (by decide) hc_X1 (by decide) (by decide) (Nat.le_of_ble_eq_true rfl)) ?_
  refine lf (a_iload_n dX10_store_34 rfl) ?_
  refine lf2 (a_icmp_ge (tgt := 43) dX10_store_35 (by decide)) (fun h35 => absurd h35 hst) (fun h35 => ?_)
  refine lf (a_aload_n dX10_store_38 rfl) ?_
  refine lf (a_iconst (3 : Int32) dX10_store_39 (by decide)) ?_
  exact ⟨_, _, a_invX (cx_refuse hwu 3) rfl dX10_store_40 yk_X10_refuse im_X10_refuse se_X10_refuse ml_X10_323 rfl (co_0 hwu) (by decide) hc_X10 (by decide) (by decide) (Nat.le_of_ble_eq_true rfl) rfl, rfl, _, rfl, hOU⟩

theorem cx_store (hw : Wf μ) (hv : FV μ 24 p d) (hq : PV μ p q) {x y : Int32} (h : ixO x (pM q) = none) : Ct Y_X10_store RX_X10_store [.ref 0, .int x, .int y] μ (.inr NSE) μ := by
  have hC4 := hq.C4
  have hM4 := hq.M4
  have hT4 := hq.T4
  have hP4 := hv.P4
  have hU4 := hv.U4
  refine Ct.ent yk_X10_store (Nat.le_of_ble_eq_true rfl) ?_
  refine a_aload_n dX10_store_0 rfl ?_
  refine a_iload_n dX10_store_1 rfl ?_
  exact a_out rfl rfl (a_invX (cx_requireMeal hw hv hq h) rfl dX10_store_2 yk_X10_requireMeal im_X10_requireMeal se_X10_requireMeal ml_X10_212 rfl (co_0 hw) (by decide) hc_X10 (by decide) (by decide) (Nat.le_of_ble_eq_true rfl) rfl)

theorem cy_store (hw : Wf μ) (hv : FV μ 24 p d) (hq : PV μ p q) {m : Nat} (hm : m < pM q) {y : Int32} (h : unO y = none) : Ct Y_X10_store RX_X10_store [.ref 0, .int (nI m), .int y] μ (.inr IAE) μ := by
  have hC4 := hq.C4
  have hM4 := hq.M4
  have hT4 := hq.T4
  have hP4 := hv.P4
  have hU4 := hv.U4
  refine Ct.ent yk_X10_store (Nat.le_of_ble_eq_true rfl) ?_
  refine a_aload_n dX10_store_0 rfl ?_
  refine a_iload_n dX10_store_1 rfl ?_
  refine a_inv (b2 := (1, 6)) (c_requireMeal hw hv hq hm) rfl dX10_store_2 yk_X10_requireMeal im_X10_requireMeal se_X10_requireMeal ml_X10_212 rfl (co_0 hw) (by decide) hc_X10 (by decide) (by decide) (Nat.le_of_ble_eq_true rfl) ?_
  refine a_aload_n dX10_store_5 rfl ?_
  refine a_iload_n dX10_store_6 rfl ?_
  exact a_out rfl rfl (a_invX (cx_requireUnits hw hv hq h) rfl dX10_store_7 yk_X10_requireUnits im_X10_requireUnits se_X10_requireUnits ml_X10_347 rfl (co_0 hw) (by decide) hc_X10 (by decide) (by decide) (Nat.le_of_ble_eq_true rfl) rfl)

theorem cp_store (hw : Wf μ) (hv : FV μ 24 p d) (hq : PV μ p q) (h : ¬ goD q d) {m n : Nat} (hm : m < pM q) (g1 : 1 ≤ n) (g2 : n ≤ 99) : Ct Y_X10_store RX_X10_store [.ref 0, .int (nI m), .int (nI n)] μ (.inr ISE) (sI μ 0 6 1) := by
  have hC4 := hq.C4
  have hM4 := hq.M4
  have hT4 := hq.T4
  have hP4 := hv.P4
  have hU4 := hv.U4
  refine Ct.ent yk_X10_store (Nat.le_of_ble_eq_true rfl) ?_
  refine a_aload_n dX10_store_0 rfl ?_
  refine a_iload_n dX10_store_1 rfl ?_
  refine a_inv (b2 := (1, 6)) (c_requireMeal hw hv hq hm) rfl dX10_store_2 yk_X10_requireMeal im_X10_requireMeal se_X10_requireMeal ml_X10_212 rfl (co_0 hw) (by decide) hc_X10 (by decide) (by decide) (Nat.le_of_ble_eq_true rfl) ?_
  refine a_aload_n dX10_store_5 rfl ?_
  refine a_iload_n dX10_store_6 rfl ?_
  refine a_inv (b2 := (1, 6)) (c_requireUnits hw hv hq g1 g2) rfl dX10_store_7 yk_X10_requireUnits im_X10_requireUnits se_X10_requireUnits ml_X10_347 rfl (co_0 hw) (by decide) hc_X10 (by decide) (by decide) (Nat.le_of_ble_eq_true rfl) ?_
  refine a_aload_n dX10_store_10 rfl ?_
  exact a_out rfl rfl (a_invX (cy_requireOpen hw hv hq h) rfl dX10_store_11 yk_X10_requireOpen im_X10_requireOpen se_X10_requireOpen ml_X10_341 rfl (co_0 hw) (by decide) hc_X10 (by decide) (by decide) (Nat.le_of_ble_eq_true rfl) rfl)

theorem cs_store (hw : Wf μ) (hv : FV μ 24 p d) (hq : PV μ p q) (h : phD q d = 2) {m n : Nat} (hm : m < pM q) (g1 : 1 ≤ n) (g2 : n ≤ 99) : Ct Y_X10_store RX_X10_store [.ref 0, .int (nI m), .int (nI n)] μ (.inr ISE) (sI μ 0 6 2) := by
  have hC4 := hq.C4
  have hM4 := hq.M4
  have hT4 := hq.T4
  have hP4 := hv.P4
  have hU4 := hv.U4
  refine Ct.ent yk_X10_store (Nat.le_of_ble_eq_true rfl) ?_
  refine a_aload_n dX10_store_0 rfl ?_
  refine a_iload_n dX10_store_1 rfl ?_
  refine a_inv (b2 := (1, 6)) (c_requireMeal hw hv hq hm) rfl dX10_store_2 yk_X10_requireMeal im_X10_requireMeal se_X10_requireMeal ml_X10_212 rfl (co_0 hw) (by decide) hc_X10 (by decide) (by decide) (Nat.le_of_ble_eq_true rfl) ?_
  refine a_aload_n dX10_store_5 rfl ?_
  refine a_iload_n dX10_store_6 rfl ?_
  refine a_inv (b2 := (1, 6)) (c_requireUnits hw hv hq g1 g2) rfl dX10_store_7 yk_X10_requireUnits im_X10_requireUnits se_X10_requireUnits ml_X10_347 rfl (co_0 hw) (by decide) hc_X10 (by decide) (by decide) (Nat.le_of_ble_eq_true rfl) ?_
  refine a_aload_n dX10_store_10 rfl ?_
  exact a_out rfl rfl (a_invX (cx_requireOpen hw hv hq h) rfl dX10_store_11 yk_X10_requireOpen im_X10_requireOpen se_X10_requireOpen ml_X10_341 rfl (co_0 hw) (by decide) hc_X10 (by decide) (by decide) (Nat.le_of_ble_eq_true rfl) rfl)
end ACTSC
