section MODELU
variable {μ W : Wd} {q : PDt} {d : FDt}
theorem ixb2 (i k : Nat) : (261 : Int32) + 3 * nI i + nI k = nI (261 + 3 * i + k) := by rw [ixb, nI_add]
theorem tu_row (h : MdV μ q d) {i k : Nat} (hi : i < dU d) (hk : k < 3) : gI μ 344 (261 + 3 * i + k) = tpV d i k := by
  rcases (by omega : k = 0 ∨ k = 1 ∨ k = 2) with rfl | rfl | rfl
  · exact h.tm hi
  · exact h.tu hi
  · exact h.td hi
abbrev R_X11_topUpAt : Room := { frames := 1, cells := 0, slots := 0, locals := 22 }
abbrev RX_X11_topUpAt : Room := { frames := 1, cells := 1, slots := 6, locals := 22 }

theorem m_topUpAt (hw : Wf μ) (hv : MdV μ q d) {i k : Nat} (hi : i < dU d) (hk : k < 3) : Ct Y_X11_topUpAt R_X11_topUpAt [.ref 338, .int (nI i), .int (nI k)] μ (.inl (some (.int (tpV d i k)))) (sI μ 338 0 0) := by
  refine Ct.ent yk_X11_topUpAt (Nat.le_of_ble_eq_true rfl) ?_
  have hU4 := hv.U4
  have h1 : inI (nI i) 0 (nI (dU d) - 1) = 1 := (inI_ix (x := nI i) (n := dU d) (by omega)).trans (isO_lt hi (by omega))
  have h2 : inI (nI k) 0 2 = 1 := (inI_ix (x := nI k) (n := 3) (by decide)).trans (isO_lt hk (by decide))
  refine a_aload_n dX11_topUpAt_0 rfl ?_
  refine a_iload_n dX11_topUpAt_1 rfl ?_
  refine a_iconst (0 : Int32) dX11_topUpAt_2 (by decide) ?_
  refine a_aload_n dX11_topUpAt_3 rfl ?_
  refine a_getR (cr_338_6 (by repeat (first | with_reducible exact hw | with_reducible exact hwc | with_reducible assumption | with_reducible apply Wf.sI | with_reducible apply Wf.sL | with_reducible apply Wf.cpI | with_reducible apply Wf.cpL | with_reducible apply Wf.cp2 | with_reducible apply Wf.sIs | with_reducible apply Wf.sLs | with_reducible apply Wf.cpU | with_reducible apply Wf.fillI | with_reducible apply Wf.clU | with_reducible apply Wf.dnF | with_reducible apply Wf.gbW))) dX11_topUpAt_4 fs_X11_26 rfl (co_338 (by repeat (first | with_reducible exact hw | with_reducible exact hwc | with_reducible assumption | with_reducible apply Wf.sI | with_reducible apply Wf.sL | with_reducible apply Wf.cpI | with_reducible apply Wf.cpL | with_reducible apply Wf.cp2 | with_reducible apply Wf.sIs | with_reducible apply Wf.sLs | with_reducible apply Wf.cpU | with_reducible apply Wf.fillI | with_reducible apply Wf.clU | with_reducible apply Wf.dnF | with_reducible apply Wf.gbW))) ?_
  refine a_iconst (4 : Int32) dX11_topUpAt_7 (by decide) ?_
  refine a_ild dX11_topUpAt_8 (ca_344 (by repeat (first | with_reducible exact hw | with_reducible exact hwc | with_reducible assumption | with_reducible apply Wf.sI | with_reducible apply Wf.sL | with_reducible apply Wf.cpI | with_reducible apply Wf.cpL | with_reducible apply Wf.cp2 | with_reducible apply Wf.sIs | with_reducible apply Wf.sLs | with_reducible apply Wf.cpU | with_reducible apply Wf.fillI | with_reducible apply Wf.clU | with_reducible apply Wf.dnF | with_reducible apply Wf.gbW))) (ixn (m := 4) (by omega) (by decide)) ?_
  rw [hv.s4]
  refine a_iconst (1 : Int32) dX11_topUpAt_9 (by decide) ?_
  refine a_isub dX11_topUpAt_10 ?_
  refine a_invS (b2 := (0, 0)) (Ct.int h1 (m_in (nI i) 0 (nI (dU d) - 1))) rfl dX11_topUpAt_11 yk_X11_in sm_X11_in ml_X11_102 rfl (by decide) (by decide) (Nat.le_of_ble_eq_true rfl) ?_
  refine a_if_ne (tgt := 21) dX11_topUpAt_14 (by decide) (fun h14 => ?_) (fun h14 => absurd h14 (by decide))
  refine a_iload_n dX11_topUpAt_21 rfl ?_
  refine a_iconst (0 : Int32) dX11_topUpAt_22 (by decide) ?_
  refine a_iconst (2 : Int32) dX11_topUpAt_23 (by decide) ?_
  refine a_invS (b2 := (0, 0)) (Ct.int h2 (m_in (nI k) 0 2)) rfl dX11_topUpAt_24 yk_X11_in sm_X11_in ml_X11_102 rfl (by decide) (by decide) (Nat.le_of_ble_eq_true rfl) ?_
  refine a_if_eq (tgt := 34) dX11_topUpAt_27 (by decide) (fun h27 => absurd h27 (by decide)) (fun h27 => ?_)
  refine a_iconst (0 : Int32) dX11_topUpAt_30 (by decide) ?_
  refine a_goto (tgt := 35) dX11_topUpAt_31 (by decide) ?_
  refine a_inv (b2 := (0, 0)) (m_isRefused0 (by repeat (first | with_reducible exact hw | with_reducible exact hwc | with_reducible assumption | with_reducible apply Wf.sI | with_reducible apply Wf.sL | with_reducible apply Wf.cpI | with_reducible apply Wf.cpL | with_reducible apply Wf.cp2 | with_reducible apply Wf.sIs | with_reducible apply Wf.sLs | with_reducible apply Wf.cpU | with_reducible apply Wf.fillI | with_reducible apply Wf.clU | with_reducible apply Wf.dnF | with_reducible apply Wf.gbW))) rfl dX11_topUpAt_35 yk_X11_isRefused im_X11_isRefused se_X11_isRefused ml_X11_98 rfl (co_338 (by repeat (first | with_reducible exact hw | with_reducible exact hwc | with_reducible assumption | with_reducible apply Wf.sI | with_reducible apply Wf.sL | with_reducible apply Wf.cpI | with_reducible apply Wf.cpL | with_reducible apply Wf.cp2 | with_reducible apply Wf.sIs | with_reducible apply Wf.sLs | with_reducible apply Wf.cpU | with_reducible apply Wf.fillI | with_reducible apply Wf.clU | with_reducible apply Wf.dnF | with_reducible apply Wf.gbW))) (by decide) hc_X11 (by decide) (by decide) (Nat.le_of_ble_eq_true rfl) ?_
  refine a_if_eq (tgt := 43) dX11_topUpAt_38 (by decide) (fun h38 => ?_) (fun h38 => absurd h38 (fun z => z rfl))
  refine a_aload_n dX11_topUpAt_43 rfl ?_
  refine a_getR (cr_338_6 (by repeat (first | with_reducible exact hw | with_reducible exact hwc | with_reducible assumption | with_reducible apply Wf.sI | with_reducible apply Wf.sL | with_reducible apply Wf.cpI | with_reducible apply Wf.cpL | with_reducible apply Wf.cp2 | with_reducible apply Wf.sIs | with_reducible apply Wf.sLs | with_reducible apply Wf.cpU | with_reducible apply Wf.fillI | with_reducible apply Wf.clU | with_reducible apply Wf.dnF | with_reducible apply Wf.gbW))) dX11_topUpAt_44 fs_X11_26 rfl (co_338 (by repeat (first | with_reducible exact hw | with_reducible exact hwc | with_reducible assumption | with_reducible apply Wf.sI | with_reducible apply Wf.sL | with_reducible apply Wf.cpI | with_reducible apply Wf.cpL | with_reducible apply Wf.cp2 | with_reducible apply Wf.sIs | with_reducible apply Wf.sLs | with_reducible apply Wf.cpU | with_reducible apply Wf.fillI | with_reducible apply Wf.clU | with_reducible apply Wf.dnF | with_reducible apply Wf.gbW))) ?_
  refine a_sipush (261 : Int32) dX11_topUpAt_47 (by decide) ?_
  refine a_iconst (3 : Int32) dX11_topUpAt_50 (by decide) ?_
  refine a_iload_n dX11_topUpAt_51 rfl ?_
  refine a_imul dX11_topUpAt_52 ?_
  refine a_iadd dX11_topUpAt_53 ?_
  refine a_iload_n dX11_topUpAt_54 rfl ?_
  refine a_iadd dX11_topUpAt_55 ?_
  rw [ixb2]
  refine a_ild dX11_topUpAt_56 (ca_344 (by repeat (first | with_reducible exact hw | with_reducible exact hwc | with_reducible assumption | with_reducible apply Wf.sI | with_reducible apply Wf.sL | with_reducible apply Wf.cpI | with_reducible apply Wf.cpL | with_reducible apply Wf.cp2 | with_reducible apply Wf.sIs | with_reducible apply Wf.sLs | with_reducible apply Wf.cpU | with_reducible apply Wf.fillI | with_reducible apply Wf.clU | with_reducible apply Wf.dnF | with_reducible apply Wf.gbW))) (ixn (show 261 + 3 * i + k < 291 by omega) (by omega)) ?_
  rw [gI_sI, if_neg (by omega), tu_row hv hi hk]
  exact a_out rfl rfl (a_ireturn dX11_topUpAt_57 rfl rfl)

theorem mx_topUpAt (hw : Wf μ) (hv : MdV μ q d) {x y : Int32} (h : ixO x (dU d) = none) : Ct Y_X11_topUpAt R_X11_topUpAt [.ref 338, .int x, .int y] μ (.inl (some (.int (0)))) (sI μ 338 0 1) := by
  refine Ct.ent yk_X11_topUpAt (Nat.le_of_ble_eq_true rfl) ?_
  have hU4 := hv.U4
  have h1 : inI x 0 (nI (dU d) - 1) = 0 := (inI_ix (x := x) (n := dU d) (by omega)).trans (isO_none h)
  refine a_aload_n dX11_topUpAt_0 rfl ?_
  refine a_iload_n dX11_topUpAt_1 rfl ?_
  refine a_iconst (0 : Int32) dX11_topUpAt_2 (by decide) ?_
  refine a_aload_n dX11_topUpAt_3 rfl ?_
  refine a_getR (cr_338_6 (by repeat (first | with_reducible exact hw | with_reducible exact hwc | with_reducible assumption | with_reducible apply Wf.sI | with_reducible apply Wf.sL | with_reducible apply Wf.cpI | with_reducible apply Wf.cpL | with_reducible apply Wf.cp2 | with_reducible apply Wf.sIs | with_reducible apply Wf.sLs | with_reducible apply Wf.cpU | with_reducible apply Wf.fillI | with_reducible apply Wf.clU | with_reducible apply Wf.dnF | with_reducible apply Wf.gbW))) dX11_topUpAt_4 fs_X11_26 rfl (co_338 (by repeat (first | with_reducible exact hw | with_reducible exact hwc | with_reducible assumption | with_reducible apply Wf.sI | with_reducible apply Wf.sL | with_reducible apply Wf.cpI | with_reducible apply Wf.cpL | with_reducible apply Wf.cp2 | with_reducible apply Wf.sIs | with_reducible apply Wf.sLs | with_reducible apply Wf.cpU | with_reducible apply Wf.fillI | with_reducible apply Wf.clU | with_reducible apply Wf.dnF | with_reducible apply Wf.gbW))) ?_
  refine a_iconst (4 : Int32) dX11_topUpAt_7 (by decide) ?_
  refine a_ild dX11_topUpAt_8 (ca_344 (by repeat (first | with_reducible exact hw | with_reducible exact hwc | with_reducible assumption | with_reducible apply Wf.sI | with_reducible apply Wf.sL | with_reducible apply Wf.cpI | with_reducible apply Wf.cpL | with_reducible apply Wf.cp2 | with_reducible apply Wf.sIs | with_reducible apply Wf.sLs | with_reducible apply Wf.cpU | with_reducible apply Wf.fillI | with_reducible apply Wf.clU | with_reducible apply Wf.dnF | with_reducible apply Wf.gbW))) (ixn (m := 4) (by omega) (by decide)) ?_
  rw [hv.s4]
  refine a_iconst (1 : Int32) dX11_topUpAt_9 (by decide) ?_
  refine a_isub dX11_topUpAt_10 ?_
  refine a_invS (b2 := (0, 0)) (Ct.int h1 (m_in x 0 (nI (dU d) - 1))) rfl dX11_topUpAt_11 yk_X11_in sm_X11_in ml_X11_102 rfl (by decide) (by decide) (Nat.le_of_ble_eq_true rfl) ?_
  refine a_if_ne (tgt := 21) dX11_topUpAt_14 (by decide) (fun h14 => absurd h14 (fun z => z rfl)) (fun h14 => ?_)
  refine a_iconst (1 : Int32) dX11_topUpAt_17 (by decide) ?_
  refine a_goto (tgt := 35) dX11_topUpAt_18 (by decide) ?_
  refine a_inv (b2 := (0, 0)) (m_isRefused1 (by repeat (first | with_reducible exact hw | with_reducible exact hwc | with_reducible assumption | with_reducible apply Wf.sI | with_reducible apply Wf.sL | with_reducible apply Wf.cpI | with_reducible apply Wf.cpL | with_reducible apply Wf.cp2 | with_reducible apply Wf.sIs | with_reducible apply Wf.sLs | with_reducible apply Wf.cpU | with_reducible apply Wf.fillI | with_reducible apply Wf.clU | with_reducible apply Wf.dnF | with_reducible apply Wf.gbW)) (v := 1) (by decide)) rfl dX11_topUpAt_35 yk_X11_isRefused im_X11_isRefused se_X11_isRefused ml_X11_98 rfl (co_338 (by repeat (first | with_reducible exact hw | with_reducible exact hwc | with_reducible assumption | with_reducible apply Wf.sI | with_reducible apply Wf.sL | with_reducible apply Wf.cpI | with_reducible apply Wf.cpL | with_reducible apply Wf.cp2 | with_reducible apply Wf.sIs | with_reducible apply Wf.sLs | with_reducible apply Wf.cpU | with_reducible apply Wf.fillI | with_reducible apply Wf.clU | with_reducible apply Wf.dnF | with_reducible apply Wf.gbW))) (by decide) hc_X11 (by decide) (by decide) (Nat.le_of_ble_eq_true rfl) ?_
  refine a_if_eq (tgt := 43) dX11_topUpAt_38 (by decide) (fun h38 => absurd h38 (by decide)) (fun h38 => ?_)
  refine a_iconst (0 : Int32) dX11_topUpAt_41 (by decide) ?_
  exact a_out rfl rfl (a_ireturn dX11_topUpAt_42 rfl rfl)

theorem my_topUpAt (hw : Wf μ) (hv : MdV μ q d) {i : Nat} (hi : i < dU d) {y : Int32} (h : ixO y 3 = none) : Ct Y_X11_topUpAt R_X11_topUpAt [.ref 338, .int (nI i), .int y] μ (.inl (some (.int (0)))) (sI μ 338 0 2) := by
  refine Ct.ent yk_X11_topUpAt (Nat.le_of_ble_eq_true rfl) ?_
  have hU4 := hv.U4
  have h1 : inI (nI i) 0 (nI (dU d) - 1) = 1 := (inI_ix (x := nI i) (n := dU d) (by omega)).trans (isO_lt hi (by omega))
  have h2 : inI y 0 2 = 0 := (inI_ix (x := y) (n := 3) (by decide)).trans (isO_none h)
  refine a_aload_n dX11_topUpAt_0 rfl ?_
  refine a_iload_n dX11_topUpAt_1 rfl ?_
  refine a_iconst (0 : Int32) dX11_topUpAt_2 (by decide) ?_
  refine a_aload_n dX11_topUpAt_3 rfl ?_
  refine a_getR (cr_338_6 (by repeat (first | with_reducible exact hw | with_reducible exact hwc | with_reducible assumption | with_reducible apply Wf.sI | with_reducible apply Wf.sL | with_reducible apply Wf.cpI | with_reducible apply Wf.cpL | with_reducible apply Wf.cp2 | with_reducible apply Wf.sIs | with_reducible apply Wf.sLs | with_reducible apply Wf.cpU | with_reducible apply Wf.fillI | with_reducible apply Wf.clU | with_reducible apply Wf.dnF | with_reducible apply Wf.gbW))) dX11_topUpAt_4 fs_X11_26 rfl (co_338 (by repeat (first | with_reducible exact hw | with_reducible exact hwc | with_reducible assumption | with_reducible apply Wf.sI | with_reducible apply Wf.sL | with_reducible apply Wf.cpI | with_reducible apply Wf.cpL | with_reducible apply Wf.cp2 | with_reducible apply Wf.sIs | with_reducible apply Wf.sLs | with_reducible apply Wf.cpU | with_reducible apply Wf.fillI | with_reducible apply Wf.clU | with_reducible apply Wf.dnF | with_reducible apply Wf.gbW))) ?_
  refine a_iconst (4 : Int32) dX11_topUpAt_7 (by decide) ?_
  refine a_ild dX11_topUpAt_8 (ca_344 (by repeat (first | with_reducible exact hw | with_reducible exact hwc | with_reducible assumption | with_reducible apply Wf.sI | with_reducible apply Wf.sL | with_reducible apply Wf.cpI | with_reducible apply Wf.cpL | with_reducible apply Wf.cp2 | with_reducible apply Wf.sIs | with_reducible apply Wf.sLs | with_reducible apply Wf.cpU | with_reducible apply Wf.fillI | with_reducible apply Wf.clU | with_reducible apply Wf.dnF | with_reducible apply Wf.gbW))) (ixn (m := 4) (by omega) (by decide)) ?_
  rw [hv.s4]
  refine a_iconst (1 : Int32) dX11_topUpAt_9 (by decide) ?_
  refine a_isub dX11_topUpAt_10 ?_
  refine a_invS (b2 := (0, 0)) (Ct.int h1 (m_in (nI i) 0 (nI (dU d) - 1))) rfl dX11_topUpAt_11 yk_X11_in sm_X11_in ml_X11_102 rfl (by decide) (by decide) (Nat.le_of_ble_eq_true rfl) ?_
  refine a_if_ne (tgt := 21) dX11_topUpAt_14 (by decide) (fun h14 => ?_) (fun h14 => absurd h14 (by decide))
  refine a_iload_n dX11_topUpAt_21 rfl ?_
  refine a_iconst (0 : Int32) dX11_topUpAt_22 (by decide) ?_
  refine a_iconst (2 : Int32) dX11_topUpAt_23 (by decide) ?_
  refine a_invS (b2 := (0, 0)) (Ct.int h2 (m_in y 0 2)) rfl dX11_topUpAt_24 yk_X11_in sm_X11_in ml_X11_102 rfl (by decide) (by decide) (Nat.le_of_ble_eq_true rfl) ?_
  refine a_if_eq (tgt := 34) dX11_topUpAt_27 (by decide) (fun h27 => ?_) (fun h27 => absurd h27 (fun z => z rfl))
  refine a_iconst (2 : Int32) dX11_topUpAt_34 (by decide) ?_
  refine a_inv (b2 := (0, 0)) (m_isRefused1 (by repeat (first | with_reducible exact hw | with_reducible exact hwc | with_reducible assumption | with_reducible apply Wf.sI | with_reducible apply Wf.sL | with_reducible apply Wf.cpI | with_reducible apply Wf.cpL | with_reducible apply Wf.cp2 | with_reducible apply Wf.sIs | with_reducible apply Wf.sLs | with_reducible apply Wf.cpU | with_reducible apply Wf.fillI | with_reducible apply Wf.clU | with_reducible apply Wf.dnF | with_reducible apply Wf.gbW)) (v := 2) (by decide)) rfl dX11_topUpAt_35 yk_X11_isRefused im_X11_isRefused se_X11_isRefused ml_X11_98 rfl (co_338 (by repeat (first | with_reducible exact hw | with_reducible exact hwc | with_reducible assumption | with_reducible apply Wf.sI | with_reducible apply Wf.sL | with_reducible apply Wf.cpI | with_reducible apply Wf.cpL | with_reducible apply Wf.cp2 | with_reducible apply Wf.sIs | with_reducible apply Wf.sLs | with_reducible apply Wf.cpU | with_reducible apply Wf.fillI | with_reducible apply Wf.clU | with_reducible apply Wf.dnF | with_reducible apply Wf.gbW))) (by decide) hc_X11 (by decide) (by decide) (Nat.le_of_ble_eq_true rfl) ?_
  refine a_if_eq (tgt := 43) dX11_topUpAt_38 (by decide) (fun h38 => absurd h38 (by decide)) (fun h38 => ?_)
  refine a_iconst (0 : Int32) dX11_topUpAt_41 (by decide) ?_
  exact a_out rfl rfl (a_ireturn dX11_topUpAt_42 rfl rfl)
end MODELU
