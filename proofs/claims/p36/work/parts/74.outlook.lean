section OUTLOOK
variable {μ W : Wd} {p : Nat} {q : PDt} {d : FDt}
theorem wm_cg {P : Nat} {g g' : Nat → Option Nat} (he : ∀ i, i < P → g i = g' i) : wmG d g P = wmG d g' P := fb_ct_cong fun k hk => by rw [he k hk]
theorem was_cg {rs rs' : Nat → Nat} {M : Nat} (he : ∀ i, i < M → rs i = rs' i) : waS rs M = waS rs' M := itN_congr rfl fun i x hi => by rw [he i hi]
theorem wcs_cg {rs rs' : Nat → Nat} {M : Nat} (he : ∀ i, i < M → rs i = rs' i) : wcS q rs M = wcS q rs' M := itN_congr rfl fun i x hi => by rw [he i hi]
/-- what outlook answers -/
noncomputable def olV (q : PDt) (d : FDt) : Nat → Int32
  | 0 => nI (svR q d).2.2
  | 1 => nI (szG (svR q d).1 (dP d))
  | 2 => nI (dP d) - nI (szG (svR q d).1 (dP d))
  | 3 => waS (svR q d).2.1 (pM q)
  | 4 => wcS q (svR q d).2.1 (pM q)
  | _ => nI (wmG d (svR q d).1 (dP d))
theorem SvOK.all (h : SvOK μ q d) (hM : pM q ≤ 12) (hw : WiD q d) : gI μ 334 3 = nI (svR q d).2.2 ∧ gI μ 334 4 = nI (szG (svR q d).1 (dP d)) ∧ gI μ 334 5 = waS (svR q d).2.1 (pM q) ∧ gI μ 334 6 = wcS q (svR q d).2.1 (pM q) ∧ gI μ 334 7 = nI (wmG d (svR q d).1 (dP d)) := by
  obtain ⟨G, rs, n, h1, ⟨_, _, h4, h5⟩, h6, h7, h8⟩ := h
  obtain ⟨u1, u2, u3⟩ := SvS.uniq hM hw h1 (svR_of h1)
  exact ⟨by rw [h6, u3], by rw [h4, sz_cg u1], by rw [h7, was_cg u2], by rw [h8, wcs_cg u2], by rw [h5, wm_cg u1]⟩
abbrev R_X10_outlook : Room := { frames := 7, cells := 0, slots := 0, locals := 144 }
abbrev RX_X10_outlook : Room := { frames := 7, cells := 1, slots := 6, locals := 144 }

theorem c_outlook_0 (hw : Wf μ) (hv : FV μ 24 p d) (hq : PV μ p q) (hq1 : GdP q) (hd : GdD q d) (hs : SvA μ q d) : CV Y_X10_outlook R_X10_outlook [.ref 0, .int (nI 0)] μ (fun v V => v = some (.int (olV q d 0)) ∧ AskQ μ q d V) := by
  refine CV.ent yk_X10_outlook (Nat.le_of_ble_eq_true rfl) ?_
  have hC4 := hq.C4
  have hM4 := hq.M4
  have hT4 := hq.T4
  have hP4 := hv.P4
  have hU4 := hv.U4
  refine lf (a_iload_n dX10_outlook_0 rfl) ?_
  refine lf (a_tsIn (tgt := 40) dX10_outlook_1 (by decide) (by decide) rfl (by decide)) ?_
  refine lf (a_aload_n dX10_outlook_40 rfl) ?_
  obtain ⟨v_, W41, k41, rfl, hF, h17, hok⟩ := (c_freshService hw hv hq hq1 hd hs)
  have hwc := hF.1.1
  obtain ⟨o3, o4, o5, o6, o7⟩ := hok.all hq.M4 (WiD.of hd)
  refine lf (a_inv (b2 := (0, 0)) k41 rfl dX10_outlook_41 yk_X10_freshService im_X10_freshService se_X10_freshService ml_X10_243 rfl (co_0 (by repeat (first | with_reducible exact hw | with_reducible exact hwc | with_reducible assumption | with_reducible apply Wf.sI | with_reducible apply Wf.sL | with_reducible apply Wf.cpI | with_reducible apply Wf.cpL | with_reducible apply Wf.cp2 | with_reducible apply Wf.sIs | with_reducible apply Wf.sLs | with_reducible apply Wf.cpU | with_reducible apply Wf.fillI | with_reducible apply Wf.clU | with_reducible apply Wf.dnF | with_reducible apply Wf.gbW))) (by decide) hc_X10 (by decide) (by decide) (Nat.le_of_ble_eq_true rfl)) ?_
  refine lf (a_getI dX10_outlook_44 fs_X10_362 rfl (co_334 (by repeat (first | with_reducible exact hw | with_reducible exact hwc | with_reducible assumption | with_reducible apply Wf.sI | with_reducible apply Wf.sL | with_reducible apply Wf.cpI | with_reducible apply Wf.cpL | with_reducible apply Wf.cp2 | with_reducible apply Wf.sIs | with_reducible apply Wf.sLs | with_reducible apply Wf.cpU | with_reducible apply Wf.fillI | with_reducible apply Wf.clU | with_reducible apply Wf.dnF | with_reducible apply Wf.gbW)))) ?_
  rw [o3]
  refine ⟨_, _, (a_ireturn dX10_outlook_47 rfl rfl), ?_⟩
  exact ⟨_, rfl, rfl, AskQ.svc hF h17 hok⟩
theorem c_outlook_1 (hw : Wf μ) (hv : FV μ 24 p d) (hq : PV μ p q) (hq1 : GdP q) (hd : GdD q d) (hs : SvA μ q d) : CV Y_X10_outlook R_X10_outlook [.ref 0, .int (nI 1)] μ (fun v V => v = some (.int (olV q d 1)) ∧ AskQ μ q d V) := by
  refine CV.ent yk_X10_outlook (Nat.le_of_ble_eq_true rfl) ?_
  have hC4 := hq.C4
  have hM4 := hq.M4
  have hT4 := hq.T4
  have hP4 := hv.P4
  have hU4 := hv.U4
  refine lf (a_iload_n dX10_outlook_0 rfl) ?_
  refine lf (a_tsIn (tgt := 48) dX10_outlook_1 (by decide) (by decide) rfl (by decide)) ?_
  refine lf (a_aload_n dX10_outlook_48 rfl) ?_
  obtain ⟨v_, W49, k49, rfl, hF, h17, hok⟩ := (c_freshService hw hv hq hq1 hd hs)
  have hwc := hF.1.1
  obtain ⟨o3, o4, o5, o6, o7⟩ := hok.all hq.M4 (WiD.of hd)
  refine lf (a_inv (b2 := (0, 0)) k49 rfl dX10_outlook_49 yk_X10_freshService im_X10_freshService se_X10_freshService ml_X10_243 rfl (co_0 (by repeat (first | with_reducible exact hw | with_reducible exact hwc | with_reducible assumption | with_reducible apply Wf.sI | with_reducible apply Wf.sL | with_reducible apply Wf.cpI | with_reducible apply Wf.cpL | with_reducible apply Wf.cp2 | with_reducible apply Wf.sIs | with_reducible apply Wf.sLs | with_reducible apply Wf.cpU | with_reducible apply Wf.fillI | with_reducible apply Wf.clU | with_reducible apply Wf.dnF | with_reducible apply Wf.gbW))) (by decide) hc_X10 (by decide) (by decide) (Nat.le_of_ble_eq_true rfl)) ?_
  refine lf (a_getI dX10_outlook_52 fs_X10_365 rfl (co_334 (by repeat (first | with_reducible exact hw | with_reducible exact hwc | with_reducible assumption | with_reducible apply Wf.sI | with_reducible apply Wf.sL | with_reducible apply Wf.cpI | with_reducible apply Wf.cpL | with_reducible apply Wf.cp2 | with_reducible apply Wf.sIs | with_reducible apply Wf.sLs | with_reducible apply Wf.cpU | with_reducible apply Wf.fillI | with_reducible apply Wf.clU | with_reducible apply Wf.dnF | with_reducible apply Wf.gbW)))) ?_
  rw [o4]
  refine ⟨_, _, (a_ireturn dX10_outlook_55 rfl rfl), ?_⟩
  exact ⟨_, rfl, rfl, AskQ.svc hF h17 hok⟩
theorem c_outlook_2 (hw : Wf μ) (hv : FV μ 24 p d) (hq : PV μ p q) (hq1 : GdP q) (hd : GdD q d) (hs : SvA μ q d) : CV Y_X10_outlook R_X10_outlook [.ref 0, .int (nI 2)] μ (fun v V => v = some (.int (olV q d 2)) ∧ AskQ μ q d V) := by
  refine CV.ent yk_X10_outlook (Nat.le_of_ble_eq_true rfl) ?_
  have hC4 := hq.C4
  have hM4 := hq.M4
  have hT4 := hq.T4
  have hP4 := hv.P4
  have hU4 := hv.U4
  refine lf (a_iload_n dX10_outlook_0 rfl) ?_
  refine lf (a_tsIn (tgt := 56) dX10_outlook_1 (by decide) (by decide) rfl (by decide)) ?_
  refine lf (a_aload_n dX10_outlook_56 rfl) ?_
  refine lf (a_getR (cr_0_7 (by repeat (first | with_reducible exact hw | with_reducible exact hwc | with_reducible assumption | with_reducible apply Wf.sI | with_reducible apply Wf.sL | with_reducible apply Wf.cpI | with_reducible apply Wf.cpL | with_reducible apply Wf.cp2 | with_reducible apply Wf.sIs | with_reducible apply Wf.sLs | with_reducible apply Wf.cpU | with_reducible apply Wf.fillI | with_reducible apply Wf.clU | with_reducible apply Wf.dnF | with_reducible apply Wf.gbW))) dX10_outlook_57 fs_X10_28 rfl (co_0 (by repeat (first | with_reducible exact hw | with_reducible exact hwc | with_reducible assumption | with_reducible apply Wf.sI | with_reducible apply Wf.sL | with_reducible apply Wf.cpI | with_reducible apply Wf.cpL | with_reducible apply Wf.cp2 | with_reducible apply Wf.sIs | with_reducible apply Wf.sLs | with_reducible apply Wf.cpU | with_reducible apply Wf.fillI | with_reducible apply Wf.clU | with_reducible apply Wf.dnF | with_reducible apply Wf.gbW)))) ?_
  refine lf (a_getI dX10_outlook_60 fs_X10_132 rfl (fl_o (by repeat (first | with_reducible exact hw | with_reducible exact hwc | with_reducible assumption | with_reducible apply Wf.sI | with_reducible apply Wf.sL | with_reducible apply Wf.cpI | with_reducible apply Wf.cpL | with_reducible apply Wf.cp2 | with_reducible apply Wf.sIs | with_reducible apply Wf.sLs | with_reducible apply Wf.cpU | with_reducible apply Wf.fillI | with_reducible apply Wf.clU | with_reducible apply Wf.dnF | with_reducible apply Wf.gbW)) fl_now)) ?_
  rw [hv.hP]
  refine lf (a_aload_n dX10_outlook_63 rfl) ?_
  obtain ⟨v_, W64, k64, rfl, hF, h17, hok⟩ := (c_freshService hw hv hq hq1 hd hs)
  have hwc := hF.1.1
  obtain ⟨o3, o4, o5, o6, o7⟩ := hok.all hq.M4 (WiD.of hd)
  refine lf (a_inv (b2 := (0, 0)) k64 rfl dX10_outlook_64 yk_X10_freshService im_X10_freshService se_X10_freshService ml_X10_243 rfl (co_0 (by repeat (first | with_reducible exact hw | with_reducible exact hwc | with_reducible assumption | with_reducible apply Wf.sI | with_reducible apply Wf.sL | with_reducible apply Wf.cpI | with_reducible apply Wf.cpL | with_reducible apply Wf.cp2 | with_reducible apply Wf.sIs | with_reducible apply Wf.sLs | with_reducible apply Wf.cpU | with_reducible apply Wf.fillI | with_reducible apply Wf.clU | with_reducible apply Wf.dnF | with_reducible apply Wf.gbW))) (by decide) hc_X10 (by decide) (by decide) (Nat.le_of_ble_eq_true rfl)) ?_
  refine lf (a_getI dX10_outlook_67 fs_X10_365 rfl (co_334 (by repeat (first | with_reducible exact hw | with_reducible exact hwc | with_reducible assumption | with_reducible apply Wf.sI | with_reducible apply Wf.sL | with_reducible apply Wf.cpI | with_reducible apply Wf.cpL | with_reducible apply Wf.cp2 | with_reducible apply Wf.sIs | with_reducible apply Wf.sLs | with_reducible apply Wf.cpU | with_reducible apply Wf.fillI | with_reducible apply Wf.clU | with_reducible apply Wf.dnF | with_reducible apply Wf.gbW)))) ?_
  rw [o4]
  refine lf (a_isub dX10_outlook_70) ?_
  refine ⟨_, _, (a_ireturn dX10_outlook_71 rfl rfl), ?_⟩
  exact ⟨_, rfl, rfl, AskQ.svc hF h17 hok⟩
theorem c_outlook_3 (hw : Wf μ) (hv : FV μ 24 p d) (hq : PV μ p q) (hq1 : GdP q) (hd : GdD q d) (hs : SvA μ q d) : CV Y_X10_outlook R_X10_outlook [.ref 0, .int (nI 3)] μ (fun v V => v = some (.int (olV q d 3)) ∧ AskQ μ q d V) := by
  refine CV.ent yk_X10_outlook (Nat.le_of_ble_eq_true rfl) ?_
  have hC4 := hq.C4
  have hM4 := hq.M4
  have hT4 := hq.T4
  have hP4 := hv.P4
  have hU4 := hv.U4
  refine lf (a_iload_n dX10_outlook_0 rfl) ?_
  refine lf (a_tsIn (tgt := 72) dX10_outlook_1 (by decide) (by decide) rfl (by decide)) ?_
  refine lf (a_aload_n dX10_outlook_72 rfl) ?_
  obtain ⟨v_, W73, k73, rfl, hF, h17, hok⟩ := (c_freshService hw hv hq hq1 hd hs)
  have hwc := hF.1.1
  obtain ⟨o3, o4, o5, o6, o7⟩ := hok.all hq.M4 (WiD.of hd)
  refine lf (a_inv (b2 := (0, 0)) k73 rfl dX10_outlook_73 yk_X10_freshService im_X10_freshService se_X10_freshService ml_X10_243 rfl (co_0 (by repeat (first | with_reducible exact hw | with_reducible exact hwc | with_reducible assumption | with_reducible apply Wf.sI | with_reducible apply Wf.sL | with_reducible apply Wf.cpI | with_reducible apply Wf.cpL | with_reducible apply Wf.cp2 | with_reducible apply Wf.sIs | with_reducible apply Wf.sLs | with_reducible apply Wf.cpU | with_reducible apply Wf.fillI | with_reducible apply Wf.clU | with_reducible apply Wf.dnF | with_reducible apply Wf.gbW))) (by decide) hc_X10 (by decide) (by decide) (Nat.le_of_ble_eq_true rfl)) ?_
  refine lf (a_getI dX10_outlook_76 fs_X10_368 rfl (co_334 (by repeat (first | with_reducible exact hw | with_reducible exact hwc | with_reducible assumption | with_reducible apply Wf.sI | with_reducible apply Wf.sL | with_reducible apply Wf.cpI | with_reducible apply Wf.cpL | with_reducible apply Wf.cp2 | with_reducible apply Wf.sIs | with_reducible apply Wf.sLs | with_reducible apply Wf.cpU | with_reducible apply Wf.fillI | with_reducible apply Wf.clU | with_reducible apply Wf.dnF | with_reducible apply Wf.gbW)))) ?_
  rw [o5]
  refine ⟨_, _, (a_ireturn dX10_outlook_79 rfl rfl), ?_⟩
  exact ⟨_, rfl, rfl, AskQ.svc hF h17 hok⟩
theorem c_outlook_4 (hw : Wf μ) (hv : FV μ 24 p d) (hq : PV μ p q) (hq1 : GdP q) (hd : GdD q d) (hs : SvA μ q d) : CV Y_X10_outlook R_X10_outlook [.ref 0, .int (nI 4)] μ (fun v V => v = some (.int (olV q d 4)) ∧ AskQ μ q d V) := by
  refine CV.ent yk_X10_outlook (Nat.le_of_ble_eq_true rfl) ?_
  have hC4 := hq.C4
  have hM4 := hq.M4
  have hT4 := hq.T4
  have hP4 := hv.P4
  have hU4 := hv.U4
  refine lf (a_iload_n dX10_outlook_0 rfl) ?_
  refine lf (a_tsIn (tgt := 80) dX10_outlook_1 (by decide) (by decide) rfl (by decide)) ?_
  refine lf (a_aload_n dX10_outlook_80 rfl) ?_
  obtain ⟨v_, W81, k81, rfl, hF, h17, hok⟩ := (c_freshService hw hv hq hq1 hd hs)
  have hwc := hF.1.1
  obtain ⟨o3, o4, o5, o6, o7⟩ := hok.all hq.M4 (WiD.of hd)
  refine lf (a_inv (b2 := (0, 0)) k81 rfl dX10_outlook_81 yk_X10_freshService im_X10_freshService se_X10_freshService ml_X10_243 rfl (co_0 (by repeat (first | with_reducible exact hw | with_reducible exact hwc | with_reducible assumption | with_reducible apply Wf.sI | with_reducible apply Wf.sL | with_reducible apply Wf.cpI | with_reducible apply Wf.cpL | with_reducible apply Wf.cp2 | with_reducible apply Wf.sIs | with_reducible apply Wf.sLs | with_reducible apply Wf.cpU | with_reducible apply Wf.fillI | with_reducible apply Wf.clU | with_reducible apply Wf.dnF | with_reducible apply Wf.gbW))) (by decide) hc_X10 (by decide) (by decide) (Nat.le_of_ble_eq_true rfl)) ?_
  refine lf (a_getI dX10_outlook_84 fs_X10_371 rfl (co_334 (by repeat (first | with_reducible exact hw | with_reducible exact hwc | with_reducible assumption | with_reducible apply Wf.sI | with_reducible apply Wf.sL | with_reducible apply Wf.cpI | with_reducible apply Wf.cpL | with_reducible apply Wf.cp2 | with_reducible apply Wf.sIs | with_reducible apply Wf.sLs | with_reducible apply Wf.cpU | with_reducible apply Wf.fillI | with_reducible apply Wf.clU | with_reducible apply Wf.dnF | with_reducible apply Wf.gbW)))) ?_
  rw [o6]
  refine ⟨_, _, (a_ireturn dX10_outlook_87 rfl rfl), ?_⟩
  exact ⟨_, rfl, rfl, AskQ.svc hF h17 hok⟩
theorem c_outlook_5 (hw : Wf μ) (hv : FV μ 24 p d) (hq : PV μ p q) (hq1 : GdP q) (hd : GdD q d) (hs : SvA μ q d) : CV Y_X10_outlook R_X10_outlook [.ref 0, .int (nI 5)] μ (fun v V => v = some (.int (olV q d 5)) ∧ AskQ μ q d V) := by
  refine CV.ent yk_X10_outlook (Nat.le_of_ble_eq_true rfl) ?_
  have hC4 := hq.C4
  have hM4 := hq.M4
  have hT4 := hq.T4
  have hP4 := hv.P4
  have hU4 := hv.U4
  refine lf (a_iload_n dX10_outlook_0 rfl) ?_
  refine lf (a_tsIn (tgt := 88) dX10_outlook_1 (by decide) (by decide) rfl (by decide)) ?_
  refine lf (a_aload_n dX10_outlook_88 rfl) ?_
  obtain ⟨v_, W89, k89, rfl, hF, h17, hok⟩ := (c_freshService hw hv hq hq1 hd hs)
  have hwc := hF.1.1
  obtain ⟨o3, o4, o5, o6, o7⟩ := hok.all hq.M4 (WiD.of hd)
  refine lf (a_inv (b2 := (0, 0)) k89 rfl dX10_outlook_89 yk_X10_freshService im_X10_freshService se_X10_freshService ml_X10_243 rfl (co_0 (by repeat (first | with_reducible exact hw | with_reducible exact hwc | with_reducible assumption | with_reducible apply Wf.sI | with_reducible apply Wf.sL | with_reducible apply Wf.cpI | with_reducible apply Wf.cpL | with_reducible apply Wf.cp2 | with_reducible apply Wf.sIs | with_reducible apply Wf.sLs | with_reducible apply Wf.cpU | with_reducible apply Wf.fillI | with_reducible apply Wf.clU | with_reducible apply Wf.dnF | with_reducible apply Wf.gbW))) (by decide) hc_X10 (by decide) (by decide) (Nat.le_of_ble_eq_true rfl)) ?_
  refine lf (a_getI dX10_outlook_92 fs_X10_374 rfl (co_334 (by repeat (first | with_reducible exact hw | with_reducible exact hwc | with_reducible assumption | with_reducible apply Wf.sI | with_reducible apply Wf.sL | with_reducible apply Wf.cpI | with_reducible apply Wf.cpL | with_reducible apply Wf.cp2 | with_reducible apply Wf.sIs | with_reducible apply Wf.sLs | with_reducible apply Wf.cpU | with_reducible apply Wf.fillI | with_reducible apply Wf.clU | with_reducible apply Wf.dnF | with_reducible apply Wf.gbW)))) ?_
  rw [o7]
  refine ⟨_, _, (a_ireturn dX10_outlook_95 rfl rfl), ?_⟩
  exact ⟨_, rfl, rfl, AskQ.svc hF h17 hok⟩
theorem c_outlook (hw : Wf μ) (hv : FV μ 24 p d) (hq : PV μ p q) (hq1 : GdP q) (hd : GdD q d) (hs : SvA μ q d) {k : Nat} (hk : k < 6) : CV Y_X10_outlook R_X10_outlook [.ref 0, .int (nI k)] μ (fun v V => v = some (.int (olV q d k)) ∧ AskQ μ q d V) := by
  rcases (by omega : k = 0 ∨ k = 1 ∨ k = 2 ∨ k = 3 ∨ k = 4 ∨ k = 5) with rfl | rfl | rfl | rfl | rfl | rfl
  · exact c_outlook_0 hw hv hq hq1 hd hs
  · exact c_outlook_1 hw hv hq hq1 hd hs
  · exact c_outlook_2 hw hv hq hq1 hd hs
  · exact c_outlook_3 hw hv hq hq1 hd hs
  · exact c_outlook_4 hw hv hq hq1 hd hs
  · exact c_outlook_5 hw hv hq hq1 hd hs

theorem cx_outlook (hw : Wf μ) (hv : FV μ 24 p d) (hq : PV μ p q) {y : Int32} (h : ixO y 6 = none) : Ct Y_X10_outlook RX_X10_outlook [.ref 0, .int y] μ (.inr IAE) μ := by
  have hC4 := hq.C4
  have hM4 := hq.M4
  have hT4 := hq.T4
  have hP4 := hv.P4
  have hU4 := hv.U4
  have g2 := ix_out h
  refine Ct.ent yk_X10_outlook (Nat.le_of_ble_eq_true rfl) ?_
  refine a_iload_n dX10_outlook_0 rfl ?_
  refine a_tsOut (tgt := 96) dX10_outlook_1 (by omega) (by decide) ?_
  exact a_throwSW (n := 21) (tx := "nothing such of the service") (by decide) (by decide) xw_IAE rfl rfl dX10_outlook_96 dX10_outlook_99 dX10_outlook_100 dX10_outlook_103 dX10_outlook_106 (by decide) (by decide) (by decide) (by decide) (by decide)
abbrev R_X10_mealFor : Room := { frames := 8, cells := 0, slots := 0, locals := 161 }
abbrev RX_X10_mealFor : Room := { frames := 8, cells := 1, slots := 6, locals := 161 }

theorem c_mealFor (hw : Wf μ) (hv : FV μ 24 p d) (hq : PV μ p q) (hq1 : GdP q) (hd : GdD q d) (hs : SvA μ q d) {i : Nat} (hi : i < dP d) : CV Y_X10_mealFor R_X10_mealFor [.ref 0, .int (nI i)] μ (fun v V => v = some (.int (oI ((svR q d).1 i))) ∧ AskQ μ q d V) := by
  refine CV.ent yk_X10_mealFor (Nat.le_of_ble_eq_true rfl) ?_
  have hC4 := hq.C4
  have hM4 := hq.M4
  have hT4 := hq.T4
  have hP4 := hv.P4
  have hU4 := hv.U4
  refine lf (a_aload_n dX10_mealFor_0 rfl) ?_
  refine lf (a_iload_n dX10_mealFor_1 rfl) ?_
  refine lf (a_inv (b2 := (0, 0)) (c_requirePassenger (by repeat (first | with_reducible exact hw | with_reducible exact hwc | with_reducible assumption | with_reducible apply Wf.sI | with_reducible apply Wf.sL | with_reducible apply Wf.cpI | with_reducible apply Wf.cpL | with_reducible apply Wf.cp2 | with_reducible apply Wf.sIs | with_reducible apply Wf.sLs | with_reducible apply Wf.cpU | with_reducible apply Wf.fillI | with_reducible apply Wf.clU | with_reducible apply Wf.dnF | with_reducible apply Wf.gbW)) hv hq hi) rfl dX10_mealFor_2 yk_X10_requirePassenger im_X10_requirePassenger se_X10_requirePassenger ml_X10_256 rfl (co_0 (by repeat (first | with_reducible exact hw | with_reducible exact hwc | with_reducible assumption | with_reducible apply Wf.sI | with_reducible apply Wf.sL | with_reducible apply Wf.cpI | with_reducible apply Wf.cpL | with_reducible apply Wf.cp2 | with_reducible apply Wf.sIs | with_reducible apply Wf.sLs | with_reducible apply Wf.cpU | with_reducible apply Wf.fillI | with_reducible apply Wf.clU | with_reducible apply Wf.dnF | with_reducible apply Wf.gbW))) (by decide) hc_X10 (by decide) (by decide) (Nat.le_of_ble_eq_true rfl)) ?_
  refine lf (a_aload_n dX10_mealFor_5 rfl) ?_
  obtain ⟨v_, W6, k6, rfl, hF, h17, hok⟩ := (c_freshService hw hv hq hq1 hd hs)
  have hwc := hF.1.1
  refine lf (a_inv (b2 := (0, 0)) k6 rfl dX10_mealFor_6 yk_X10_freshService im_X10_freshService se_X10_freshService ml_X10_243 rfl (co_0 (by repeat (first | with_reducible exact hw | with_reducible exact hwc | with_reducible assumption | with_reducible apply Wf.sI | with_reducible apply Wf.sL | with_reducible apply Wf.cpI | with_reducible apply Wf.cpL | with_reducible apply Wf.cp2 | with_reducible apply Wf.sIs | with_reducible apply Wf.sLs | with_reducible apply Wf.cpU | with_reducible apply Wf.fillI | with_reducible apply Wf.clU | with_reducible apply Wf.dnF | with_reducible apply Wf.gbW))) (by decide) hc_X10 (by decide) (by decide) (Nat.le_of_ble_eq_true rfl)) ?_
  refine lf (a_getR (cr_334_0 (by repeat (first | with_reducible exact hw | with_reducible exact hwc | with_reducible assumption | with_reducible apply Wf.sI | with_reducible apply Wf.sL | with_reducible apply Wf.cpI | with_reducible apply Wf.cpL | with_reducible apply Wf.cp2 | with_reducible apply Wf.sIs | with_reducible apply Wf.sLs | with_reducible apply Wf.cpU | with_reducible apply Wf.fillI | with_reducible apply Wf.clU | with_reducible apply Wf.dnF | with_reducible apply Wf.gbW))) dX10_mealFor_9 fs_X10_268 rfl (co_334 (by repeat (first | with_reducible exact hw | with_reducible exact hwc | with_reducible assumption | with_reducible apply Wf.sI | with_reducible apply Wf.sL | with_reducible apply Wf.cpI | with_reducible apply Wf.cpL | with_reducible apply Wf.cp2 | with_reducible apply Wf.sIs | with_reducible apply Wf.sLs | with_reducible apply Wf.cpU | with_reducible apply Wf.fillI | with_reducible apply Wf.clU | with_reducible apply Wf.dnF | with_reducible apply Wf.gbW)))) ?_
  refine lf (a_iload_n dX10_mealFor_12 rfl) ?_
  refine lf (a_ild dX10_mealFor_13 (ca_335 (by repeat (first | with_reducible exact hw | with_reducible exact hwc | with_reducible assumption | with_reducible apply Wf.sI | with_reducible apply Wf.sL | with_reducible apply Wf.cpI | with_reducible apply Wf.cpL | with_reducible apply Wf.cp2 | with_reducible apply Wf.sIs | with_reducible apply Wf.sLs | with_reducible apply Wf.cpU | with_reducible apply Wf.fillI | with_reducible apply Wf.clU | with_reducible apply Wf.dnF | with_reducible apply Wf.gbW))) (ixn (show i < 40 by omega) (by decide))) ?_
  rw [hok.got hq.M4 (WiD.of hd) hi]
  refine ⟨_, _, (a_ireturn dX10_mealFor_14 rfl rfl), ?_⟩
  exact ⟨_, rfl, rfl, AskQ.svc hF h17 hok⟩

theorem cx_mealFor (hw : Wf μ) (hv : FV μ 24 p d) (hq : PV μ p q) {x : Int32} (h : ixO x (dP d) = none) : Ct Y_X10_mealFor RX_X10_mealFor [.ref 0, .int x] μ (.inr NSE) μ := by
  have hC4 := hq.C4
  have hM4 := hq.M4
  have hT4 := hq.T4
  have hP4 := hv.P4
  have hU4 := hv.U4
  refine Ct.ent yk_X10_mealFor (Nat.le_of_ble_eq_true rfl) ?_
  refine a_aload_n dX10_mealFor_0 rfl ?_
  refine a_iload_n dX10_mealFor_1 rfl ?_
  exact a_out rfl rfl (a_invX (cx_requirePassenger hw hv hq h) rfl dX10_mealFor_2 yk_X10_requirePassenger im_X10_requirePassenger se_X10_requirePassenger ml_X10_256 rfl (co_0 hw) (by decide) hc_X10 (by decide) (by decide) (Nat.le_of_ble_eq_true rfl) rfl)
abbrev R_X10_account : Room := { frames := 7, cells := 0, slots := 0, locals := 140 }
abbrev RX_X10_account : Room := { frames := 7, cells := 1, slots := 6, locals := 140 }

theorem c_account (hw : Wf μ) (hv : FV μ 24 p d) (hq : PV μ p q) {k : Nat} (hk : k < 6) : Ct Y_X10_account R_X10_account [.ref 0, .int (nI k)] μ (.inl (some (.long (dA d k)))) μ := by
  have hC4 := hq.C4
  have hM4 := hq.M4
  have hT4 := hq.T4
  have hP4 := hv.P4
  have hU4 := hv.U4
  refine Ct.ent yk_X10_account (Nat.le_of_ble_eq_true rfl) ?_
  refine a_iload_n dX10_account_0 rfl ?_
  refine a_if_lt (tgt := 10) dX10_account_1 (by decide) (fun h1 => absurd h1 (nI_pos (by omega))) (fun h1 => ?_)
  refine a_iload_n dX10_account_4 rfl ?_
  refine a_bipush (6 : Int32) dX10_account_5 (by decide) ?_
  refine a_icmp_lt (tgt := 21) dX10_account_7 (by decide) (fun h7 => ?_) (fun h7 => absurd h7 (fun z => z (nI_lt (b := 6) hk (by decide))))
  refine a_aload_n dX10_account_21 rfl ?_
  refine a_getR (cr_0_7 hw) dX10_account_22 fs_X10_28 rfl (co_0 hw) ?_
  refine a_getR (fl_r12 hw fl_now) dX10_account_25 fs_X10_379 rfl (fl_o hw fl_now) ?_
  refine a_iload_n dX10_account_28 rfl ?_
  refine a_lld dX10_account_29 (fl_a16 hw fl_now) (ixn hk (by decide)) ?_
  rw [show (24 + 16 : Nat) = 24 + 16 from rfl, hv.acc hk]
  exact a_out rfl rfl (a_lreturn dX10_account_30 rfl)

theorem cx_account (hw : Wf μ) (hv : FV μ 24 p d) (hq : PV μ p q) {x : Int32} (h : ixO x 6 = none) : Ct Y_X10_account RX_X10_account [.ref 0, .int x] μ (.inr IAE) μ := by
  have hC4 := hq.C4
  have hM4 := hq.M4
  have hT4 := hq.T4
  have hP4 := hv.P4
  have hU4 := hv.U4
  refine Ct.ent yk_X10_account (Nat.le_of_ble_eq_true rfl) ?_
  rcases ixO_none h with h0 | ⟨j, g1, g2, rfl⟩
  · refine a_iload_n dX10_account_0 rfl ?_
    refine a_if_lt (tgt := 10) dX10_account_1 (by decide) (fun h1 => ?_) (fun h1 => absurd h1 (fun z => z h0))
    exact a_throwSW (n := 23) (tx := "no such account") (by decide) (by decide) xw_IAE rfl rfl dX10_account_10 dX10_account_13 dX10_account_14 dX10_account_17 dX10_account_20 (by decide) (by decide) (by decide) (by decide) (by decide)
  · refine a_iload_n dX10_account_0 rfl ?_
    refine a_if_lt (tgt := 10) dX10_account_1 (by decide) (fun h1 => absurd h1 (nI_pos g2)) (fun h1 => ?_)
    refine a_iload_n dX10_account_4 rfl ?_
    refine a_bipush (6 : Int32) dX10_account_5 (by decide) ?_
    refine a_icmp_lt (tgt := 21) dX10_account_7 (by decide) (fun h7 => absurd h7 (nI_nlt (b := 6) g1 g2)) (fun h7 => ?_)
    exact a_throwSW (n := 23) (tx := "no such account") (by decide) (by decide) xw_IAE rfl rfl dX10_account_10 dX10_account_13 dX10_account_14 dX10_account_17 dX10_account_20 (by decide) (by decide) (by decide) (by decide) (by decide)
end OUTLOOK
