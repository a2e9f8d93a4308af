section MODELT
variable {μ W : Wd} {q : PDt} {d : FDt}
abbrev R_X11_reason : Room := { frames := 1, cells := 0, slots := 0, locals := 21 }
abbrev RX_X11_reason : Room := { frames := 1, cells := 1, slots := 6, locals := 21 }

theorem m_reason (hw : Wf μ) : Ct Y_X11_reason R_X11_reason [.ref 338] μ (.inl (some (.int (gI μ 338 15)))) (sI μ 338 0 0) := by
  refine Ct.ent yk_X11_reason (Nat.le_of_ble_eq_true rfl) ?_
  refine a_aload_n dX11_reason_0 rfl ?_
  refine a_aload_n dX11_reason_1 rfl ?_
  refine a_getI dX11_reason_2 fs_X11_285 rfl (co_338 hw) ?_
  refine a_inv (b2 := (0, 0)) (m_told hw (gI μ 338 15)) rfl dX11_reason_5 yk_X11_told im_X11_told se_X11_told ml_X11_124 rfl (co_338 hw) (by decide) hc_X11 (by decide) (by decide) (Nat.le_of_ble_eq_true rfl) ?_
  exact a_out rfl rfl (a_ireturn dX11_reason_8 rfl rfl)
abbrev R_X11_errorCode : Room := { frames := 1, cells := 0, slots := 0, locals := 21 }
abbrev RX_X11_errorCode : Room := { frames := 1, cells := 1, slots := 6, locals := 21 }

theorem m_errorCode (hw : Wf μ) : Ct Y_X11_errorCode R_X11_errorCode [.ref 338] μ (.inl (some (.int (gI μ 338 23)))) (sI μ 338 0 0) := by
  refine Ct.ent yk_X11_errorCode (Nat.le_of_ble_eq_true rfl) ?_
  refine a_aload_n dX11_errorCode_0 rfl ?_
  refine a_aload_n dX11_errorCode_1 rfl ?_
  refine a_getI dX11_errorCode_2 fs_X11_121 rfl (co_338 hw) ?_
  refine a_inv (b2 := (0, 0)) (m_told hw (gI μ 338 23)) rfl dX11_errorCode_5 yk_X11_told im_X11_told se_X11_told ml_X11_124 rfl (co_338 hw) (by decide) hc_X11 (by decide) (by decide) (Nat.le_of_ble_eq_true rfl) ?_
  exact a_out rfl rfl (a_ireturn dX11_errorCode_8 rfl rfl)
abbrev R_X11_errorPosition : Room := { frames := 1, cells := 0, slots := 0, locals := 21 }
abbrev RX_X11_errorPosition : Room := { frames := 1, cells := 1, slots := 6, locals := 21 }

theorem m_errorPosition (hw : Wf μ) : Ct Y_X11_errorPosition R_X11_errorPosition [.ref 338] μ (.inl (some (.int (gI μ 338 24)))) (sI μ 338 0 0) := by
  refine Ct.ent yk_X11_errorPosition (Nat.le_of_ble_eq_true rfl) ?_
  refine a_aload_n dX11_errorPosition_0 rfl ?_
  refine a_aload_n dX11_errorPosition_1 rfl ?_
  refine a_getI dX11_errorPosition_2 fs_X11_54 rfl (co_338 hw) ?_
  refine a_inv (b2 := (0, 0)) (m_told hw (gI μ 338 24)) rfl dX11_errorPosition_5 yk_X11_told im_X11_told se_X11_told ml_X11_124 rfl (co_338 hw) (by decide) hc_X11 (by decide) (by decide) (Nat.le_of_ble_eq_true rfl) ?_
  exact a_out rfl rfl (a_ireturn dX11_errorPosition_8 rfl rfl)
abbrev R_X11_account : Room := { frames := 1, cells := 0, slots := 0, locals := 22 }
abbrev RX_X11_account : Room := { frames := 1, cells := 1, slots := 6, locals := 22 }

theorem m_account (hw : Wf μ) {k : Nat} (hk : k < 6) : Ct Y_X11_account R_X11_account [.ref 338, .int (nI k)] μ (.inl (some (.long (gL μ 348 k)))) (sI μ 338 0 0) := by
  refine Ct.ent yk_X11_account (Nat.le_of_ble_eq_true rfl) ?_
  have h1 : inI (nI k) 0 5 = 1 := (inI_ix (x := nI k) (n := 6) (by decide)).trans (isO_lt hk (by decide))
  refine a_aload_n dX11_account_0 rfl ?_
  refine a_iload_n dX11_account_1 rfl ?_
  refine a_iconst (0 : Int32) dX11_account_2 (by decide) ?_
  refine a_iconst (5 : Int32) dX11_account_3 (by decide) ?_
  refine a_invS (b2 := (0, 0)) (Ct.int h1 (m_in (nI k) 0 5)) rfl dX11_account_4 yk_X11_in sm_X11_in ml_X11_102 rfl (by decide) (by decide) (Nat.le_of_ble_eq_true rfl) ?_
  refine a_if_eq (tgt := 14) dX11_account_7 (by decide) (fun h7 => absurd h7 (by decide)) (fun h7 => ?_)
  refine a_iconst (0 : Int32) dX11_account_10 (by decide) ?_
  refine a_goto (tgt := 15) dX11_account_11 (by decide) ?_
  refine a_inv (b2 := (0, 0)) (m_isRefused0 (by repeat (first | with_reducible exact hw | with_reducible exact hwc | with_reducible assumption | with_reducible apply Wf.sI | with_reducible apply Wf.sL | with_reducible apply Wf.cpI | with_reducible apply Wf.cpL | with_reducible apply Wf.cp2 | with_reducible apply Wf.sIs | with_reducible apply Wf.sLs | with_reducible apply Wf.cpU | with_reducible apply Wf.fillI | with_reducible apply Wf.clU | with_reducible apply Wf.dnF | with_reducible apply Wf.gbW))) rfl dX11_account_15 yk_X11_isRefused im_X11_isRefused se_X11_isRefused ml_X11_98 rfl (co_338 (by repeat (first | with_reducible exact hw | with_reducible exact hwc | with_reducible assumption | with_reducible apply Wf.sI | with_reducible apply Wf.sL | with_reducible apply Wf.cpI | with_reducible apply Wf.cpL | with_reducible apply Wf.cp2 | with_reducible apply Wf.sIs | with_reducible apply Wf.sLs | with_reducible apply Wf.cpU | with_reducible apply Wf.fillI | with_reducible apply Wf.clU | with_reducible apply Wf.dnF | with_reducible apply Wf.gbW))) (by decide) hc_X11 (by decide) (by decide) (Nat.le_of_ble_eq_true rfl) ?_
  refine a_if_eq (tgt := 23) dX11_account_18 (by decide) (fun h18 => ?_) (fun h18 => absurd h18 (fun z => z rfl))
  refine a_aload_n dX11_account_23 rfl ?_
  refine a_getR (cr_338_10 (by repeat (first | with_reducible exact hw | with_reducible exact hwc | with_reducible assumption | with_reducible apply Wf.sI | with_reducible apply Wf.sL | with_reducible apply Wf.cpI | with_reducible apply Wf.cpL | with_reducible apply Wf.cp2 | with_reducible apply Wf.sIs | with_reducible apply Wf.sLs | with_reducible apply Wf.cpU | with_reducible apply Wf.fillI | with_reducible apply Wf.clU | with_reducible apply Wf.dnF | with_reducible apply Wf.gbW))) dX11_account_24 fs_X11_38 rfl (co_338 (by repeat (first | with_reducible exact hw | with_reducible exact hwc | with_reducible assumption | with_reducible apply Wf.sI | with_reducible apply Wf.sL | with_reducible apply Wf.cpI | with_reducible apply Wf.cpL | with_reducible apply Wf.cp2 | with_reducible apply Wf.sIs | with_reducible apply Wf.sLs | with_reducible apply Wf.cpU | with_reducible apply Wf.fillI | with_reducible apply Wf.clU | with_reducible apply Wf.dnF | with_reducible apply Wf.gbW))) ?_
  refine a_iload_n dX11_account_27 rfl ?_
  refine a_lld dX11_account_28 (ca_348 (by repeat (first | with_reducible exact hw | with_reducible exact hwc | with_reducible assumption | with_reducible apply Wf.sI | with_reducible apply Wf.sL | with_reducible apply Wf.cpI | with_reducible apply Wf.cpL | with_reducible apply Wf.cp2 | with_reducible apply Wf.sIs | with_reducible apply Wf.sLs | with_reducible apply Wf.cpU | with_reducible apply Wf.fillI | with_reducible apply Wf.clU | with_reducible apply Wf.dnF | with_reducible apply Wf.gbW))) (ixn hk (by decide)) ?_
  rw [gL_sI]
  exact a_out rfl rfl (a_lreturn dX11_account_29 rfl)
theorem mx_account (hw : Wf μ) {x : Int32} (h : ixO x 6 = none) : Ct Y_X11_account R_X11_account [.ref 338, .int x] μ (.inl (some (.long 0))) (sI μ 338 0 1) := by
  refine Ct.ent yk_X11_account (Nat.le_of_ble_eq_true rfl) ?_
  have h1 : inI x 0 5 = 0 := (inI_ix (x := x) (n := 6) (by decide)).trans (isO_none h)
  refine a_aload_n dX11_account_0 rfl ?_
  refine a_iload_n dX11_account_1 rfl ?_
  refine a_iconst (0 : Int32) dX11_account_2 (by decide) ?_
  refine a_iconst (5 : Int32) dX11_account_3 (by decide) ?_
  refine a_invS (b2 := (0, 0)) (Ct.int h1 (m_in x 0 5)) rfl dX11_account_4 yk_X11_in sm_X11_in ml_X11_102 rfl (by decide) (by decide) (Nat.le_of_ble_eq_true rfl) ?_
  refine a_if_eq (tgt := 14) dX11_account_7 (by decide) (fun h7 => ?_) (fun h7 => absurd h7 (fun z => z rfl))
  refine a_iconst (1 : Int32) dX11_account_14 (by decide) ?_
  refine a_inv (b2 := (0, 0)) (m_isRefused1 (by repeat (first | with_reducible exact hw | with_reducible exact hwc | with_reducible assumption | with_reducible apply Wf.sI | with_reducible apply Wf.sL | with_reducible apply Wf.cpI | with_reducible apply Wf.cpL | with_reducible apply Wf.cp2 | with_reducible apply Wf.sIs | with_reducible apply Wf.sLs | with_reducible apply Wf.cpU | with_reducible apply Wf.fillI | with_reducible apply Wf.clU | with_reducible apply Wf.dnF | with_reducible apply Wf.gbW)) (v := 1) (by decide)) rfl dX11_account_15 yk_X11_isRefused im_X11_isRefused se_X11_isRefused ml_X11_98 rfl (co_338 (by repeat (first | with_reducible exact hw | with_reducible exact hwc | with_reducible assumption | with_reducible apply Wf.sI | with_reducible apply Wf.sL | with_reducible apply Wf.cpI | with_reducible apply Wf.cpL | with_reducible apply Wf.cp2 | with_reducible apply Wf.sIs | with_reducible apply Wf.sLs | with_reducible apply Wf.cpU | with_reducible apply Wf.fillI | with_reducible apply Wf.clU | with_reducible apply Wf.dnF | with_reducible apply Wf.gbW))) (by decide) hc_X11 (by decide) (by decide) (Nat.le_of_ble_eq_true rfl) ?_
  refine a_if_eq (tgt := 23) dX11_account_18 (by decide) (fun h18 => absurd h18 (by decide)) (fun h18 => ?_)
  refine a_lconst (0 : Int64) dX11_account_21 (by decide) ?_
  exact a_out rfl rfl (a_lreturn dX11_account_22 rfl)
abbrev R_X11_outputByte : Room := { frames := 1, cells := 0, slots := 0, locals := 22 }
abbrev RX_X11_outputByte : Room := { frames := 1, cells := 1, slots := 6, locals := 22 }

theorem m_outputByte (hw : Wf μ) {n k : Nat} (hl : gI μ 338 38 = nI n) (hn : n ≤ 150) (hk : k < n) : Ct Y_X11_outputByte R_X11_outputByte [.ref 338, .int (nI k)] μ (.inl (some (.int (gI μ 362 k)))) (sI μ 338 0 0) := by
  refine Ct.ent yk_X11_outputByte (Nat.le_of_ble_eq_true rfl) ?_
  have h1 : inI (nI k) 0 (nI n - 1) = 1 := (inI_ix (x := nI k) (n := n) (by omega)).trans (isO_lt hk (by omega))
  refine a_aload_n dX11_outputByte_0 rfl ?_
  refine a_iload_n dX11_outputByte_1 rfl ?_
  refine a_iconst (0 : Int32) dX11_outputByte_2 (by decide) ?_
  refine a_aload_n dX11_outputByte_3 rfl ?_
  refine a_getI dX11_outputByte_4 fs_X11_499 rfl (co_338 (by repeat (first | with_reducible exact hw | with_reducible exact hwc | with_reducible assumption | with_reducible apply Wf.sI | with_reducible apply Wf.sL | with_reducible apply Wf.cpI | with_reducible apply Wf.cpL | with_reducible apply Wf.cp2 | with_reducible apply Wf.sIs | with_reducible apply Wf.sLs | with_reducible apply Wf.cpU | with_reducible apply Wf.fillI | with_reducible apply Wf.clU | with_reducible apply Wf.dnF | with_reducible apply Wf.gbW))) ?_
  rw [hl]
  refine a_iconst (1 : Int32) dX11_outputByte_7 (by decide) ?_
  refine a_isub dX11_outputByte_8 ?_
  refine a_invS (b2 := (0, 0)) (Ct.int h1 (m_in (nI k) 0 (nI n - 1))) rfl dX11_outputByte_9 yk_X11_in sm_X11_in ml_X11_102 rfl (by decide) (by decide) (Nat.le_of_ble_eq_true rfl) ?_
  refine a_if_eq (tgt := 19) dX11_outputByte_12 (by decide) (fun h12 => absurd h12 (by decide)) (fun h12 => ?_)
  refine a_iconst (0 : Int32) dX11_outputByte_15 (by decide) ?_
  refine a_goto (tgt := 20) dX11_outputByte_16 (by decide) ?_
  refine a_inv (b2 := (0, 0)) (m_isRefused0 (by repeat (first | with_reducible exact hw | with_reducible exact hwc | with_reducible assumption | with_reducible apply Wf.sI | with_reducible apply Wf.sL | with_reducible apply Wf.cpI | with_reducible apply Wf.cpL | with_reducible apply Wf.cp2 | with_reducible apply Wf.sIs | with_reducible apply Wf.sLs | with_reducible apply Wf.cpU | with_reducible apply Wf.fillI | with_reducible apply Wf.clU | with_reducible apply Wf.dnF | with_reducible apply Wf.gbW))) rfl dX11_outputByte_20 yk_X11_isRefused im_X11_isRefused se_X11_isRefused ml_X11_98 rfl (co_338 (by repeat (first | with_reducible exact hw | with_reducible exact hwc | with_reducible assumption | with_reducible apply Wf.sI | with_reducible apply Wf.sL | with_reducible apply Wf.cpI | with_reducible apply Wf.cpL | with_reducible apply Wf.cp2 | with_reducible apply Wf.sIs | with_reducible apply Wf.sLs | with_reducible apply Wf.cpU | with_reducible apply Wf.fillI | with_reducible apply Wf.clU | with_reducible apply Wf.dnF | with_reducible apply Wf.gbW))) (by decide) hc_X11 (by decide) (by decide) (Nat.le_of_ble_eq_true rfl) ?_
  refine a_if_eq (tgt := 28) dX11_outputByte_23 (by decide) (fun h23 => ?_) (fun h23 => absurd h23 (fun z => z rfl))
  refine a_aload_n dX11_outputByte_28 rfl ?_
  refine a_getR (cr_338_37 (by repeat (first | with_reducible exact hw | with_reducible exact hwc | with_reducible assumption | with_reducible apply Wf.sI | with_reducible apply Wf.sL | with_reducible apply Wf.cpI | with_reducible apply Wf.cpL | with_reducible apply Wf.cp2 | with_reducible apply Wf.sIs | with_reducible apply Wf.sLs | with_reducible apply Wf.cpU | with_reducible apply Wf.fillI | with_reducible apply Wf.clU | with_reducible apply Wf.dnF | with_reducible apply Wf.gbW))) dX11_outputByte_29 fs_X11_85 rfl (co_338 (by repeat (first | with_reducible exact hw | with_reducible exact hwc | with_reducible assumption | with_reducible apply Wf.sI | with_reducible apply Wf.sL | with_reducible apply Wf.cpI | with_reducible apply Wf.cpL | with_reducible apply Wf.cp2 | with_reducible apply Wf.sIs | with_reducible apply Wf.sLs | with_reducible apply Wf.cpU | with_reducible apply Wf.fillI | with_reducible apply Wf.clU | with_reducible apply Wf.dnF | with_reducible apply Wf.gbW))) ?_
  refine a_iload_n dX11_outputByte_32 rfl ?_
  refine a_ild dX11_outputByte_33 (ca_362 (by repeat (first | with_reducible exact hw | with_reducible exact hwc | with_reducible assumption | with_reducible apply Wf.sI | with_reducible apply Wf.sL | with_reducible apply Wf.cpI | with_reducible apply Wf.cpL | with_reducible apply Wf.cp2 | with_reducible apply Wf.sIs | with_reducible apply Wf.sLs | with_reducible apply Wf.cpU | with_reducible apply Wf.fillI | with_reducible apply Wf.clU | with_reducible apply Wf.dnF | with_reducible apply Wf.gbW))) (ixn (show k < _ from Nat.lt_of_lt_of_le hk hn) (by decide)) ?_
  rw [gI_sI, if_neg (by omega)]
  exact a_out rfl rfl (a_ireturn dX11_outputByte_34 rfl rfl)
theorem mx_outputByte (hw : Wf μ) {n : Nat} (hl : gI μ 338 38 = nI n) (hn : n ≤ 150) {x : Int32} (h : ixO x n = none) : Ct Y_X11_outputByte R_X11_outputByte [.ref 338, .int x] μ (.inl (some (.int 0))) (sI μ 338 0 1) := by
  refine Ct.ent yk_X11_outputByte (Nat.le_of_ble_eq_true rfl) ?_
  have h1 : inI x 0 (nI n - 1) = 0 := (inI_ix (x := x) (n := n) (by omega)).trans (isO_none h)
  refine a_aload_n dX11_outputByte_0 rfl ?_
  refine a_iload_n dX11_outputByte_1 rfl ?_
  refine a_iconst (0 : Int32) dX11_outputByte_2 (by decide) ?_
  refine a_aload_n dX11_outputByte_3 rfl ?_
  refine a_getI dX11_outputByte_4 fs_X11_499 rfl (co_338 (by repeat (first | with_reducible exact hw | with_reducible exact hwc | with_reducible assumption | with_reducible apply Wf.sI | with_reducible apply Wf.sL | with_reducible apply Wf.cpI | with_reducible apply Wf.cpL | with_reducible apply Wf.cp2 | with_reducible apply Wf.sIs | with_reducible apply Wf.sLs | with_reducible apply Wf.cpU | with_reducible apply Wf.fillI | with_reducible apply Wf.clU | with_reducible apply Wf.dnF | with_reducible apply Wf.gbW))) ?_
  rw [hl]
  refine a_iconst (1 : Int32) dX11_outputByte_7 (by decide) ?_
  refine a_isub dX11_outputByte_8 ?_
  refine a_invS (b2 := (0, 0)) (Ct.int h1 (m_in x 0 (nI n - 1))) rfl dX11_outputByte_9 yk_X11_in sm_X11_in ml_X11_102 rfl (by decide) (by decide) (Nat.le_of_ble_eq_true rfl) ?_
  refine a_if_eq (tgt := 19) dX11_outputByte_12 (by decide) (fun h12 => ?_) (fun h12 => absurd h12 (fun z => z rfl))
  refine a_iconst (1 : Int32) dX11_outputByte_19 (by decide) ?_
  refine a_inv (b2 := (0, 0)) (m_isRefused1 (by repeat (first | with_reducible exact hw | with_reducible exact hwc | with_reducible assumption | with_reducible apply Wf.sI | with_reducible apply Wf.sL | with_reducible apply Wf.cpI | with_reducible apply Wf.cpL | with_reducible apply Wf.cp2 | with_reducible apply Wf.sIs | with_reducible apply Wf.sLs | with_reducible apply Wf.cpU | with_reducible apply Wf.fillI | with_reducible apply Wf.clU | with_reducible apply Wf.dnF | with_reducible apply Wf.gbW)) (v := 1) (by decide)) rfl dX11_outputByte_20 yk_X11_isRefused im_X11_isRefused se_X11_isRefused ml_X11_98 rfl (co_338 (by repeat (first | with_reducible exact hw | with_reducible exact hwc | with_reducible assumption | with_reducible apply Wf.sI | with_reducible apply Wf.sL | with_reducible apply Wf.cpI | with_reducible apply Wf.cpL | with_reducible apply Wf.cp2 | with_reducible apply Wf.sIs | with_reducible apply Wf.sLs | with_reducible apply Wf.cpU | with_reducible apply Wf.fillI | with_reducible apply Wf.clU | with_reducible apply Wf.dnF | with_reducible apply Wf.gbW))) (by decide) hc_X11 (by decide) (by decide) (Nat.le_of_ble_eq_true rfl) ?_
  refine a_if_eq (tgt := 28) dX11_outputByte_23 (by decide) (fun h23 => absurd h23 (by decide)) (fun h23 => ?_)
  refine a_iconst (0 : Int32) dX11_outputByte_26 (by decide) ?_
  exact a_out rfl rfl (a_ireturn dX11_outputByte_27 rfl rfl)
end MODELT
