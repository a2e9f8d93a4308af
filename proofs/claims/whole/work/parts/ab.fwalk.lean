section FWALK
variable {μ : Wd} {N : Nat} {p : Nat} {q : PDt} {d : FDt}
abbrev RF_X10_wasteShare : Room := { frames := 0, cells := 0, slots := 0, locals := 0 }
abbrev RF_X10_bitsOfShare : Room := { frames := 0, cells := 0, slots := 0, locals := 0 }
abbrev RF_X10_wasteBits : Room := { frames := 1, cells := 0, slots := 0, locals := 23 }
abbrev RF_X10_bitsOfCost : Room := { frames := 0, cells := 0, slots := 0, locals := 0 }
abbrev RF_X10_costBits : Room := { frames := 1, cells := 0, slots := 0, locals := 26 }
abbrev RF_X11_shareNow : Room := { frames := 0, cells := 0, slots := 0, locals := 0 }
abbrev RF_X11_wasteShare : Room := { frames := 1, cells := 0, slots := 0, locals := 20 }
abbrev RF_X11_wasteBits : Room := { frames := 4, cells := 0, slots := 0, locals := 93 }
abbrev RF_X11_costBits : Room := { frames := 4, cells := 0, slots := 0, locals := 93 }
abbrev RJ_f : Room := { frames := 3, cells := 0, slots := 0, locals := 70 }
abbrev RJ_n : Room := { frames := 0, cells := 0, slots := 0, locals := 0 }
theorem nI_m1x (n : Nat) : nI (n + 1) + (-1 : Int32) = nI n := by
  rw [← nI_add n 1, Int32.add_assoc, show nI 1 + (-1 : Int32) = 0 by decide, Int32.add_zero]
theorem lcmp_0 {x : Int64} (h : x = 0) : lg_cmp x 0 = 0 := (lg_cmp_eq x 0).mpr h
theorem lcmp_1 {x : Int64} (h : ¬ x = 0) : ¬ lg_cmp x 0 = 0 := fun z => h ((lg_cmp_eq x 0).mp z)
theorem c_shr (hw : Wf μ) (hv : FV μ 24 p d) (hx : ¬ dA d 0 = 0 → vf_n32 (FP.fdiv (FP.l2f (dA d 2)) (FP.l2f (dA d 0)))) : Ct Y_X10_wasteShare RF_X10_wasteShare [.ref 0] μ (.inl (some (.float (shF d)))) μ := by
  refine Ct.ent yk_X10_wasteShare (Nat.le_of_ble_eq_true rfl) ?_
  refine a_aload_n dX10_wasteShare_0 rfl ?_
  refine a_getR (cr_0_7 hw) dX10_wasteShare_1 fs_X10_28 rfl (co_0 hw) ?_
  refine a_getR (fl_r12 hw fl_now) dX10_wasteShare_4 fs_X10_379 rfl (fl_o hw fl_now) ?_
  refine a_iconst (0 : Int32) dX10_wasteShare_7 (by decide) ?_
  refine a_lld dX10_wasteShare_8 (fl_a16 hw fl_now) (ixn (m := 0) (by decide) (by decide)) ?_
  rw [show (24 + 16 : Nat) = 24 + 16 from rfl, hv.acc (i := 0) (by decide)]
  refine a_lstore_n dX10_wasteShare_9 (by decide) ?_
  refine a_lload_n dX10_wasteShare_10 rfl ?_
  refine a_lconst (0 : Int64) dX10_wasteShare_11 (by decide) ?_
  refine a_lcmp dX10_wasteShare_12 ?_
  unfold shF
  by_cases h0 : dA d 0 = 0
  · rw [if_pos h0]
    refine a_if_ne (tgt := 18) dX10_wasteShare_13 (by decide) (fun h => absurd (lcmp_0 h0) h) (fun h => ?_)
    refine a_fconst0 dX10_wasteShare_16 ?_
    exact a_out rfl rfl (a_freturn dX10_wasteShare_17 rfl)
  · rw [if_neg h0]
    refine a_if_ne (tgt := 18) dX10_wasteShare_13 (by decide) (fun h => ?_) (fun h => absurd h (lcmp_1 h0))
    refine a_aload_n dX10_wasteShare_18 rfl ?_
    refine a_getR (cr_0_7 hw) dX10_wasteShare_19 fs_X10_28 rfl (co_0 hw) ?_
    refine a_getR (fl_r12 hw fl_now) dX10_wasteShare_22 fs_X10_379 rfl (fl_o hw fl_now) ?_
    refine a_iconst (2 : Int32) dX10_wasteShare_25 (by decide) ?_
    refine a_lld dX10_wasteShare_26 (fl_a16 hw fl_now) (ixn (m := 2) (by decide) (by decide)) ?_
    rw [show (24 + 16 : Nat) = 24 + 16 from rfl, hv.acc (i := 2) (by decide)]
    refine a_l2f dX10_wasteShare_27 ?_
    refine a_lload_n dX10_wasteShare_28 rfl ?_
    refine a_l2f dX10_wasteShare_29 ?_
    refine a_fdiv dX10_wasteShare_30 (hx h0) ?_
    exact a_out rfl rfl (a_freturn dX10_wasteShare_31 rfl)
/-- the bits of a share, reckoned -/
theorem t_bs0 : Ct Y_X10_bitsOfShare RF_X10_bitsOfShare [.float FP.fconst0] μ (.inl (some (.int 0))) μ := by
  refine Ct.ent yk_X10_bitsOfShare (Nat.le_of_ble_eq_true rfl) ?_
  refine a_fload_n dX10_bitsOfShare_0 rfl ?_
  refine a_fconst0 dX10_bitsOfShare_1 ?_
  refine a_fcmp dX10_bitsOfShare_2 ?_
  rw [show FP.fcmp FP.fconst0 FP.fconst0 = some .eq by decide +kernel]
  refine a_if_gt (tgt := 8) dX10_bitsOfShare_3 (by decide) (fun h => absurd h (by decide)) (fun h => ?_)
  refine a_iconst (0 : Int32) dX10_bitsOfShare_6 (by decide) ?_
  exact a_out rfl rfl (a_ireturn dX10_bitsOfShare_7 rfl rfl)
theorem l_bs9 {c K : Nat} (h : NF c) (hK : K ≤ 126) {x3 : Value} : AW Y_X10_bitsOfShare RF_X10_bitsOfShare (0, 0) μ 40 [(0, .float (FX c K)), (1, .int (nI (127 - K))), (2, .float (FX c 0)), (3, x3)] [] (.inl (some (.int (nI ((127 - K) * 8388608 + (c - 8388608)))))) μ := by
  refine a_iload_n dX10_bitsOfShare_40 rfl ?_
  refine a_bipush (23 : Int32) dX10_bitsOfShare_41 (by decide) ?_
  refine a_ishl dX10_bitsOfShare_43 ?_
  rw [pk_shlN (n := 127 - K) ((23 : Int32) &&& 31) 23 (by decide) (by omega)]
  refine a_fload_n dX10_bitsOfShare_44 rfl ?_
  refine a_fconst1 dX10_bitsOfShare_45 ?_
  refine a_fsub dX10_bitsOfShare_46 (FX_fr h).1 ?_
  refine a_ldcwF dX10_bitsOfShare_47 kf_475 ?_
  refine a_fmul dX10_bitsOfShare_50 (FX_fr h).2.1 ?_
  refine a_f2i dX10_bitsOfShare_51 ?_
  rw [(FX_fr h).2.2]
  refine a_iadd dX10_bitsOfShare_52 ?_
  rw [nI_add]
  exact a_out rfl rfl (a_ireturn dX10_bitsOfShare_53 rfl rfl)
theorem cmp_g0 {o : Ordering} (h : o ≠ .lt) (op : CmpOp) : 0 ≤ Op.cmpValue (some o) op := by
  cases o
  · exact absurd rfl h
  · exact (by decide : (0 : Int32) ≤ 0)
  · exact (by decide : (0 : Int32) ≤ 1)
theorem l_bs {c K : Nat} (h : NF c) (hK : K ≤ 126) : ∀ r j, r + j = K → AW Y_X10_bitsOfShare RF_X10_bitsOfShare (0, 0) μ 15 [(0, .float (FX c K)), (1, .int (nI (127 - j))), (2, .float (FX c r)), (3, .int (nI j))] [] (.inl (some (.int (nI ((127 - K) * 8388608 + (c - 8388608)))))) μ := by
  intro r
  induction r with
  | zero =>
    intro j hj
    obtain rfl : j = K := by omega
    refine a_iload_n dX10_bitsOfShare_15 rfl ?_
    refine a_bipush (126 : Int32) dX10_bitsOfShare_16 (by decide) ?_
    refine a_icmp_ge (tgt := 40) dX10_bitsOfShare_18 (by decide) (fun h18 => l_bs9 h hK) (fun h18 => ?_)
    refine a_fload_n dX10_bitsOfShare_21 rfl ?_
    refine a_fconst1 dX10_bitsOfShare_22 ?_
    refine a_fcmp dX10_bitsOfShare_23 ?_
    obtain ⟨o9, g1, g2⟩ := FX_ge1 h
    rw [g1]
    exact a_if_ge (tgt := 40) dX10_bitsOfShare_24 (by decide) (fun h24 => l_bs9 h hK) (fun h24 => absurd (cmp_g0 g2 _) h24)
  | succ r ih =>
    intro j hj
    refine a_iload_n dX10_bitsOfShare_15 rfl ?_
    refine a_bipush (126 : Int32) dX10_bitsOfShare_16 (by decide) ?_
    refine a_icmp_ge (tgt := 40) dX10_bitsOfShare_18 (by decide) (fun h18 => absurd h18 (nI_ge (a := j) (b := 126) (by omega) (by decide))) (fun h18 => ?_)
    refine a_fload_n dX10_bitsOfShare_21 rfl ?_
    refine a_fconst1 dX10_bitsOfShare_22 ?_
    refine a_fcmp dX10_bitsOfShare_23 ?_
    rw [FX_lt1 h (by omega)]
    refine a_if_ge (tgt := 40) dX10_bitsOfShare_24 (by decide) (fun h24 => absurd h24 (by decide)) (fun h24 => ?_)
    refine a_fload_n dX10_bitsOfShare_27 rfl ?_
    refine a_fconst2 dX10_bitsOfShare_28 ?_
    refine a_fmul dX10_bitsOfShare_29 (by rw [FX_mul h (by omega)]; exact FX_n h (by omega)) ?_
    rw [FX_mul h (by omega)]
    refine a_fstore_n dX10_bitsOfShare_30 (by decide) ?_
    refine a_iinc (-1 : Int32) dX10_bitsOfShare_31 (by decide) rfl (by decide) ?_
    rw [show nI (127 - j) + (-1 : Int32) = nI (127 - (j + 1)) by
      have e : 127 - j = (127 - (j + 1)) + 1 := by omega
      rw [e]
      exact nI_m1x _]
    refine a_iincN dX10_bitsOfShare_34 rfl (by decide) ?_
    refine a_goto (tgt := 15) dX10_bitsOfShare_37 (by decide) ?_
    exact a_loc _ rfl (ih (j + 1) (by omega))
theorem t_bs {c K : Nat} (h : NF c) (hK : K ≤ 126) : Ct Y_X10_bitsOfShare RF_X10_bitsOfShare [.float (FX c K)] μ (.inl (some (.int (nI ((127 - K) * 8388608 + (c - 8388608)))))) μ := by
  refine Ct.ent yk_X10_bitsOfShare (Nat.le_of_ble_eq_true rfl) ?_
  refine a_fload_n dX10_bitsOfShare_0 rfl ?_
  refine a_fconst0 dX10_bitsOfShare_1 ?_
  refine a_fcmp dX10_bitsOfShare_2 ?_
  rw [FX_gt0 h hK]
  refine a_if_gt (tgt := 8) dX10_bitsOfShare_3 (by decide) (fun h3 => ?_) (fun h3 => absurd (by decide) h3)
  refine a_bipush (127 : Int32) dX10_bitsOfShare_8 (by decide) ?_
  refine a_istore_n dX10_bitsOfShare_10 (by decide) ?_
  refine a_fload_n dX10_bitsOfShare_11 rfl ?_
  refine a_fstore_n dX10_bitsOfShare_12 (by decide) ?_
  refine a_iconst (0 : Int32) dX10_bitsOfShare_13 (by decide) ?_
  refine a_istore_n dX10_bitsOfShare_14 (by decide) ?_
  exact a_loc _ rfl (l_bs h hK K 0 (by omega))
/-- a share's bits -/
def shB (x : UInt32) : Int32 := x.toInt32
theorem FX_b {c K : Nat} (h : NF c) (hK : K ≤ 126) : shB (FX c K) = nI ((127 - K) * 8388608 + (c - 8388608)) := by
  unfold shB FX FP.Core.of32
  rw [FX_enc h hK]
  rfl
theorem t_bsV {x : UInt32} (h : ShV x) : Ct Y_X10_bitsOfShare RF_X10_bitsOfShare [.float x] μ (.inl (some (.int (shB x)))) μ := by
  rcases h with e | ⟨c, K, h1, h2, e⟩
  · subst e; exact t_bs0
  · subst e; rw [FX_b h1 h2]; exact t_bs h1 h2
theorem ShV.eq {x : UInt32} (h : ShV x) : FP.fcmp x x = some .eq := by
  rcases h with e | ⟨c, K, h1, h2, e⟩
  · subst e; decide +kernel
  · subst e; exact fcmp_self (FX_val h1 h2)
theorem c_wBits (hw : Wf μ) (hv : FV μ 24 p d) (hx : ShV (shF d) ∧ (¬ dA d 0 = 0 → vf_n32 (FP.fdiv (FP.l2f (dA d 2)) (FP.l2f (dA d 0))))) : Ct Y_X10_wasteBits RF_X10_wasteBits [.ref 0] μ (.inl (some (.int (shB (shF d))))) μ := by
  refine Ct.ent yk_X10_wasteBits (Nat.le_of_ble_eq_true rfl) ?_
  refine a_aload_n dX10_wasteBits_0 rfl ?_
  refine a_inv (b2 := (0, 0)) (c_shr hw hv hx.2) rfl dX10_wasteBits_1 yk_X10_wasteShare im_X10_wasteShare se_X10_wasteShare ml_X10_389 rfl (co_0 hw) (by decide) hc_X10 (by decide) (by decide) (Nat.le_of_ble_eq_true rfl) ?_
  refine a_invS (b2 := (0, 0)) (t_bsV hx.1) rfl dX10_wasteBits_4 yk_X10_bitsOfShare sm_X10_bitsOfShare ml_X10_393 rfl (by decide) (by decide) (Nat.le_of_ble_eq_true rfl) ?_
  exact a_out rfl rfl (a_ireturn dX10_wasteBits_7 rfl rfl)
/-- the model's side -/
theorem t_fnan {x : UInt32} (h : FP.fcmp x x = some .eq) : Ct Y_Jxf58ca_isNaN_12338 RJ_n [.float x] μ (.inl (some (.int 0))) μ := by
  refine Ct.entF yk_f_n (Nat.le_of_ble_eq_true rfl) ?_
  refine a_fload_n dJxf58ca_isNaN_12338_0 rfl ?_
  refine a_fload_n dJxf58ca_isNaN_12338_1 rfl ?_
  refine a_fcmp dJxf58ca_isNaN_12338_2 ?_
  rw [h]
  refine a_if_eq (tgt := 10) dJxf58ca_isNaN_12338_3 (by decide) (fun h3 => ?_) (fun h3 => absurd rfl h3)
  refine a_iconst (0 : Int32) dJxf58ca_isNaN_12338_10 (by decide) ?_
  exact a_out rfl rfl (a_ireturn dJxf58ca_isNaN_12338_11 rfl rfl)
theorem t_fbits {x : UInt32} (h : FP.fcmp x x = some .eq) : Ct Y_Jxf58ca_floatToIntBits_5c35a RJ_f [.float x] μ (.inl (some (.int (shB x)))) μ := by
  refine Ct.entF yk_f_b (Nat.le_of_ble_eq_true rfl) ?_
  refine a_fload_n dJxf58ca_floatToIntBits_5c35a_0 rfl ?_
  refine a_invSF (b2 := (0, 0)) (t_fnan h) rfl dJxf58ca_floatToIntBits_5c35a_1 yk_f_n sf_n lf_n rfl (by decide) (by decide) (Nat.le_of_ble_eq_true rfl) ?_
  refine a_if_ne (tgt := 12) dJxf58ca_floatToIntBits_5c35a_4 (by decide) (fun h4 => absurd rfl h4) (fun h4 => ?_)
  refine a_fload_n dJxf58ca_floatToIntBits_5c35a_7 rfl ?_
  refine a_f2raw dJxf58ca_floatToIntBits_5c35a_8 lf_r (by decide) (by decide) (Nat.le_of_ble_eq_true rfl) ?_
  exact a_out rfl rfl (a_ireturn dJxf58ca_floatToIntBits_5c35a_11 rfl rfl)
theorem t_dnan {x : UInt64} (h : FP.dcmp x x = some .eq) : Ct Y_Jxe99ae_isNaN_b9ae7 RJ_n [.double x] μ (.inl (some (.int 0))) μ := by
  refine Ct.ent yk_Jxe99ae_isNaN_b9ae7 (Nat.le_of_ble_eq_true rfl) ?_
  refine a_dload_n dJxe99ae_isNaN_b9ae7_0 rfl ?_
  refine a_dload_n dJxe99ae_isNaN_b9ae7_1 rfl ?_
  refine a_dcmp dJxe99ae_isNaN_b9ae7_2 ?_
  rw [h]
  refine a_if_eq (tgt := 10) dJxe99ae_isNaN_b9ae7_3 (by decide) (fun h3 => ?_) (fun h3 => absurd rfl h3)
  refine a_iconst (0 : Int32) dJxe99ae_isNaN_b9ae7_10 (by decide) ?_
  exact a_out rfl rfl (a_ireturn dJxe99ae_isNaN_b9ae7_11 rfl rfl)
theorem t_dbits {x : UInt64} (h : FP.dcmp x x = some .eq) : Ct Y_Jxe99ae_doubleToLongBits_ccdee RJ_f [.double x] μ (.inl (some (.long x.toInt64))) μ := by
  refine Ct.ent yk_Jxe99ae_doubleToLongBits_ccdee (Nat.le_of_ble_eq_true rfl) ?_
  refine a_dload_n dJxe99ae_doubleToLongBits_ccdee_0 rfl ?_
  refine a_invS (b2 := (0, 0)) (t_dnan h) rfl dJxe99ae_doubleToLongBits_ccdee_1 yk_Jxe99ae_isNaN_b9ae7 sm_Jxe99ae_isNaN_b9ae7 ld_n rfl (by decide) (by decide) (Nat.le_of_ble_eq_true rfl) ?_
  refine a_if_ne (tgt := 12) dJxe99ae_doubleToLongBits_ccdee_4 (by decide) (fun h4 => absurd rfl h4) (fun h4 => ?_)
  refine a_dload_n dJxe99ae_doubleToLongBits_ccdee_7 rfl ?_
  refine a_d2raw dJxe99ae_doubleToLongBits_ccdee_8 ld_r (by decide) (by decide) (Nat.le_of_ble_eq_true rfl) ?_
  exact a_out rfl rfl (a_lreturn dJxe99ae_doubleToLongBits_ccdee_11 rfl)
theorem m_shr (hw : Wf μ) (ha : ∀ k, k < 6 → gL μ 348 k = dA d k) (hx : ¬ dA d 0 = 0 → vf_n32 (FP.fdiv (FP.l2f (dA d 2)) (FP.l2f (dA d 0)))) : Ct Y_X11_shareNow RF_X11_shareNow [.ref 338] μ (.inl (some (.float (shF d)))) μ := by
  refine Ct.ent yk_X11_shareNow (Nat.le_of_ble_eq_true rfl) ?_
  refine a_aload_n dX11_shareNow_0 rfl ?_
  refine a_getR (cr_338_10 hw) dX11_shareNow_1 fs_X11_38 rfl (co_338 hw) ?_
  refine a_iconst (0 : Int32) dX11_shareNow_4 (by decide) ?_
  refine a_lld dX11_shareNow_5 (ca_348 hw) (ixn (m := 0) (by decide) (by decide)) ?_
  rw [ha 0 (by decide)]
  refine a_lconst (0 : Int64) dX11_shareNow_6 (by decide) ?_
  refine a_lcmp dX11_shareNow_7 ?_
  unfold shF
  by_cases h0 : dA d 0 = 0
  · rw [if_pos h0]
    refine a_if_ne (tgt := 15) dX11_shareNow_8 (by decide) (fun h => absurd (lcmp_0 h0) h) (fun h => ?_)
    refine a_fconst0 dX11_shareNow_11 ?_
    refine a_goto (tgt := 30) dX11_shareNow_12 (by decide) ?_
    exact a_out rfl rfl (a_freturn dX11_shareNow_30 rfl)
  · rw [if_neg h0]
    refine a_if_ne (tgt := 15) dX11_shareNow_8 (by decide) (fun h => ?_) (fun h => absurd h (lcmp_1 h0))
    refine a_aload_n dX11_shareNow_15 rfl ?_
    refine a_getR (cr_338_10 hw) dX11_shareNow_16 fs_X11_38 rfl (co_338 hw) ?_
    refine a_iconst (2 : Int32) dX11_shareNow_19 (by decide) ?_
    refine a_lld dX11_shareNow_20 (ca_348 hw) (ixn (m := 2) (by decide) (by decide)) ?_
    rw [ha 2 (by decide)]
    refine a_l2f dX11_shareNow_21 ?_
    refine a_aload_n dX11_shareNow_22 rfl ?_
    refine a_getR (cr_338_10 hw) dX11_shareNow_23 fs_X11_38 rfl (co_338 hw) ?_
    refine a_iconst (0 : Int32) dX11_shareNow_26 (by decide) ?_
    refine a_lld dX11_shareNow_27 (ca_348 hw) (ixn (m := 0) (by decide) (by decide)) ?_
    rw [ha 0 (by decide)]
    refine a_l2f dX11_shareNow_28 ?_
    refine a_fdiv dX11_shareNow_29 (hx h0) ?_
    exact a_out rfl rfl (a_freturn dX11_shareNow_30 rfl)
theorem m_wShare (hw : Wf μ) (ha : ∀ k, k < 6 → gL μ 348 k = dA d k) (hx : ¬ dA d 0 = 0 → vf_n32 (FP.fdiv (FP.l2f (dA d 2)) (FP.l2f (dA d 0)))) : Ct Y_X11_wasteShare RF_X11_wasteShare [.ref 338] μ (.inl (some (.float (shF d)))) (sI μ 338 0 0) := by
  refine Ct.ent yk_X11_wasteShare (Nat.le_of_ble_eq_true rfl) ?_
  refine a_aload_n dX11_wasteShare_0 rfl ?_
  refine a_iconst (0 : Int32) dX11_wasteShare_1 (by decide) ?_
  refine a_putI dX11_wasteShare_2 fs_X11_88 rfl rfl rfl (co_338 hw) ?_
  refine a_aload_n dX11_wasteShare_5 rfl ?_
  refine a_inv (b2 := (0, 0)) (m_shr (μ := sI μ 338 0 0) hw.sI (fun k hk => ha k hk) hx) rfl dX11_wasteShare_6 yk_X11_shareNow im_X11_shareNow se_X11_shareNow ml_X11_483 rfl (co_338 hw.sI) (by decide) hc_X11 (by decide) (by decide) (Nat.le_of_ble_eq_true rfl) ?_
  exact a_out rfl rfl (a_freturn dX11_wasteShare_9 rfl)
theorem m_wBits (hw : Wf μ) (ha : ∀ k, k < 6 → gL μ 348 k = dA d k) (hx : ShV (shF d) ∧ (¬ dA d 0 = 0 → vf_n32 (FP.fdiv (FP.l2f (dA d 2)) (FP.l2f (dA d 0))))) : Ct Y_X11_wasteBits RF_X11_wasteBits [.ref 338] μ (.inl (some (.int (shB (shF d))))) (sI μ 338 0 0) := by
  refine Ct.ent yk_X11_wasteBits (Nat.le_of_ble_eq_true rfl) ?_
  refine a_aload_n dX11_wasteBits_0 rfl ?_
  refine a_iconst (0 : Int32) dX11_wasteBits_1 (by decide) ?_
  refine a_putI dX11_wasteBits_2 fs_X11_88 rfl rfl rfl (co_338 hw) ?_
  refine a_aload_n dX11_wasteBits_5 rfl ?_
  refine a_inv (b2 := (0, 0)) (m_shr (μ := sI μ 338 0 0) hw.sI (fun k hk => ha k hk) hx.2) rfl dX11_wasteBits_6 yk_X11_shareNow im_X11_shareNow se_X11_shareNow ml_X11_483 rfl (co_338 hw.sI) (by decide) hc_X11 (by decide) (by decide) (Nat.le_of_ble_eq_true rfl) ?_
  refine a_invSF (b2 := (0, 0)) (t_fbits hx.1.eq) rfl dX11_wasteBits_9 yk_f_b sf_b ml_X11_487 rfl (by decide) (by decide) (Nat.le_of_ble_eq_true rfl) ?_
  exact a_out rfl rfl (a_ireturn dX11_wasteBits_12 rfl rfl)
/-- a cost's bits -/
def coB (x : UInt64) : Int64 := x.toInt64
theorem shl52 (n : Nat) : lN n <<< ((52 : Int32).toInt64 &&& 63) = lN (n * 2 ^ 52) := by
  rw [show ((52 : Int32).toInt64 &&& 63) = lN 52 by decide +kernel]
  apply Int64.toBitVec_inj.mp
  rw [Int64.toBitVec_shiftLeft]
  show BitVec.ofNat 64 n <<< (BitVec.ofNat 64 52).smod 64 = BitVec.ofNat 64 (n * 2 ^ 52)
  rw [show (BitVec.ofNat 64 52).smod 64 = BitVec.ofNat 64 52 by decide +kernel]
  apply BitVec.eq_of_toNat_eq
  rw [BitVec.shiftLeft_eq', BitVec.toNat_shiftLeft, BitVec.toNat_ofNat, BitVec.toNat_ofNat, BitVec.toNat_ofNat, Nat.mod_eq_of_lt (show 52 < 2 ^ 64 by omega), Nat.shiftLeft_eq, Nat.mul_mod, Nat.mod_mod, ← Nat.mul_mod]
theorem l_bc9 {c E : Nat} (h : ND c) {x : UInt64} {x6 : Value} : AW Y_X10_bitsOfCost RF_X10_bitsOfCost (0, 0) μ 89 [(0, .double x), (2, .long (lN E)), (4, .double (DX c (-52))), (6, x6)] [] (.inl (some (.long (lN (E * 2 ^ 52 + (c - 4503599627370496)))))) μ := by
  refine a_lload_n dX10_bitsOfCost_89 rfl ?_
  refine a_bipush (52 : Int32) dX10_bitsOfCost_90 (by decide) ?_
  refine a_lshl dX10_bitsOfCost_92 ?_
  rw [shl52]
  refine a_dload dX10_bitsOfCost_93 rfl ?_
  refine a_dconst1 dX10_bitsOfCost_95 ?_
  refine a_dsub dX10_bitsOfCost_96 (DX_fr h).1 ?_
  refine a_ldc2d dX10_bitsOfCost_97 kd_480 ?_
  refine a_dmul dX10_bitsOfCost_100 (DX_fr h).2.1 ?_
  refine a_d2l dX10_bitsOfCost_101 ?_
  rw [(DX_fr h).2.2]
  refine a_ladd dX10_bitsOfCost_102 ?_
  rw [lN_add]
  exact a_out rfl rfl (a_lreturn dX10_bitsOfCost_103 rfl)
/-- the second loop: r halvings are left -/
theorem l_bc2 {c E K : Nat} (h : ND c) (hK : K ≤ 1000) {x : UInt64} : ∀ r j, r + j = K → AW Y_X10_bitsOfCost RF_X10_bitsOfCost (0, 0) μ 54 [(0, .double x), (2, .long (lN (E + j))), (4, .double (DX c (-52 + (r : Int)))), (6, .int (nI j))] [] (.inl (some (.long (lN ((E + K) * 2 ^ 52 + (c - 4503599627370496)))))) μ := by
  intro r
  induction r with
  | zero =>
    intro j hj
    obtain rfl : j = K := by omega
    rw [show (-52 + ((0 : Nat) : Int)) = -52 by omega]
    refine a_iload dX10_bitsOfCost_54 rfl ?_
    refine a_sipush (1023 : Int32) dX10_bitsOfCost_56 (by decide) ?_
    refine a_icmp_ge (tgt := 89) dX10_bitsOfCost_59 (by decide) (fun h59 => l_bc9 h) (fun h59 => ?_)
    refine a_dload dX10_bitsOfCost_62 rfl ?_
    refine a_ldc2d dX10_bitsOfCost_64 kd_478 ?_
    refine a_dcmp dX10_bitsOfCost_67 ?_
    rw [DX_lt2 h (by omega) (by omega)]
    exact a_if_lt (tgt := 89) dX10_bitsOfCost_68 (by decide) (fun h68 => l_bc9 h) (fun h68 => absurd (by decide) h68)
  | succ r ih =>
    intro j hj
    refine a_iload dX10_bitsOfCost_54 rfl ?_
    refine a_sipush (1023 : Int32) dX10_bitsOfCost_56 (by decide) ?_
    refine a_icmp_ge (tgt := 89) dX10_bitsOfCost_59 (by decide) (fun h59 => absurd h59 (nI_ge (a := j) (b := 1023) (by omega) (by decide))) (fun h59 => ?_)
    refine a_dload dX10_bitsOfCost_62 rfl ?_
    refine a_ldc2d dX10_bitsOfCost_64 kd_478 ?_
    refine a_dcmp dX10_bitsOfCost_67 ?_
    obtain ⟨o9, g1, g2⟩ := DX_ge2 (c := c) (q := -52 + ((r + 1 : Nat) : Int)) h (by omega) (by omega)
    rw [g1]
    refine a_if_lt (tgt := 89) dX10_bitsOfCost_68 (by decide) (fun h68 => absurd h68 (Int32.not_lt.mpr (cmp_g0 g2 _))) (fun h68 => ?_)
    refine a_dload dX10_bitsOfCost_71 rfl ?_
    refine a_ldc2d dX10_bitsOfCost_73 kd_478 ?_
    have hd : FP.ddiv (DX c (-52 + ((r + 1 : Nat) : Int))) 4611686018427387904 = DX c (-52 + (r : Int)) := by
      rw [show (-52 + ((r + 1 : Nat) : Int)) = (-52 + (r : Int)) + 1 by omega]
      exact DX_div h (by omega) (by omega)
    refine a_ddiv dX10_bitsOfCost_76 (by rw [hd]; exact DX_n h (by omega) (by omega)) ?_
    rw [hd]
    refine a_dstore dX10_bitsOfCost_77 (by decide) ?_
    refine a_lload_n dX10_bitsOfCost_79 rfl ?_
    refine a_lconst (1 : Int64) dX10_bitsOfCost_80 (by decide) ?_
    refine a_ladd dX10_bitsOfCost_81 ?_
    rw [lN_1]
    refine a_lstore_n dX10_bitsOfCost_82 (by decide) ?_
    refine a_iincN dX10_bitsOfCost_83 rfl (by decide) ?_
    refine a_goto (tgt := 54) dX10_bitsOfCost_86 (by decide) ?_
    exact a_loc _ rfl (ih (j + 1) (by omega))
/-- the first loop: r doublings are left -/
theorem l_bc1 {c K : Nat} (h : ND c) (hK : K ≤ 1022) {x : UInt64} : ∀ r j, r + j = K → AW Y_X10_bitsOfCost RF_X10_bitsOfCost (0, 0) μ 18 [(0, .double x), (2, .long (lN (1023 - j))), (4, .double (DX c (-52 - (r : Int)))), (6, .int (nI j))] [] (.inl (some (.long (lN ((1023 - K) * 2 ^ 52 + (c - 4503599627370496)))))) μ := by
  have out : ∀ x6 : Value, AW Y_X10_bitsOfCost RF_X10_bitsOfCost (0, 0) μ 51 [(0, .double x), (2, .long (lN (1023 - K))), (4, .double (DX c (-52))), (6, x6)] [] (.inl (some (.long (lN ((1023 - K) * 2 ^ 52 + (c - 4503599627370496)))))) μ := fun x6 => by
    refine a_iconst (0 : Int32) dX10_bitsOfCost_51 (by decide) ?_
    refine a_istore dX10_bitsOfCost_52 (by decide) ?_
    exact a_loc _ rfl (l_bc2 (E := 1023 - K) (K := 0) h (by omega) 0 0 rfl)
  intro r
  induction r with
  | zero =>
    intro j hj
    obtain rfl : j = K := by omega
    rw [show (-52 - ((0 : Nat) : Int)) = -52 by omega]
    refine a_iload dX10_bitsOfCost_18 rfl ?_
    refine a_sipush (1022 : Int32) dX10_bitsOfCost_20 (by decide) ?_
    refine a_icmp_ge (tgt := 51) dX10_bitsOfCost_23 (by decide) (fun h23 => out _) (fun h23 => ?_)
    refine a_dload dX10_bitsOfCost_26 rfl ?_
    refine a_dconst1 dX10_bitsOfCost_28 ?_
    refine a_dcmp dX10_bitsOfCost_29 ?_
    obtain ⟨o9, g1, g2⟩ := DX_ge1 (c := c) (q := -52) h (by omega) (by omega)
    rw [g1]
    exact a_if_ge (tgt := 51) dX10_bitsOfCost_30 (by decide) (fun h30 => out _) (fun h30 => absurd (cmp_g0 g2 _) h30)
  | succ r ih =>
    intro j hj
    refine a_iload dX10_bitsOfCost_18 rfl ?_
    refine a_sipush (1022 : Int32) dX10_bitsOfCost_20 (by decide) ?_
    refine a_icmp_ge (tgt := 51) dX10_bitsOfCost_23 (by decide) (fun h23 => absurd h23 (nI_ge (a := j) (b := 1022) (by omega) (by decide))) (fun h23 => ?_)
    refine a_dload dX10_bitsOfCost_26 rfl ?_
    refine a_dconst1 dX10_bitsOfCost_28 ?_
    refine a_dcmp dX10_bitsOfCost_29 ?_
    rw [DX_lt1 h (by omega) (by omega)]
    refine a_if_ge (tgt := 51) dX10_bitsOfCost_30 (by decide) (fun h30 => absurd h30 (by decide)) (fun h30 => ?_)
    refine a_dload dX10_bitsOfCost_33 rfl ?_
    refine a_ldc2d dX10_bitsOfCost_35 kd_478 ?_
    have hd : FP.dmul (DX c (-52 - ((r + 1 : Nat) : Int))) 4611686018427387904 = DX c (-52 - (r : Int)) := by
      rw [DX_mul h (by omega) (by omega), show (-52 - ((r + 1 : Nat) : Int)) + 1 = (-52 - (r : Int)) by omega]
    refine a_dmul dX10_bitsOfCost_38 (by rw [hd]; exact DX_n h (by omega) (by omega)) ?_
    rw [hd]
    refine a_dstore dX10_bitsOfCost_39 (by decide) ?_
    refine a_lload_n dX10_bitsOfCost_41 rfl ?_
    refine a_lconst (1 : Int64) dX10_bitsOfCost_42 (by decide) ?_
    refine a_lsub dX10_bitsOfCost_43 ?_
    rw [show lN (1023 - j) - (1 : Int64) = lN (1023 - (j + 1)) from (lN_sub (a := 1023 - j) (b := 1) (by omega)).trans (by congr 1)]
    refine a_lstore_n dX10_bitsOfCost_44 (by decide) ?_
    refine a_iincN dX10_bitsOfCost_45 rfl (by decide) ?_
    refine a_goto (tgt := 18) dX10_bitsOfCost_48 (by decide) ?_
    exact a_loc _ rfl (ih (j + 1) (by omega))
theorem t_bc0 : Ct Y_X10_bitsOfCost RF_X10_bitsOfCost [.double FP.dconst0] μ (.inl (some (.long 0))) μ := by
  refine Ct.ent yk_X10_bitsOfCost (Nat.le_of_ble_eq_true rfl) ?_
  refine a_dload_n dX10_bitsOfCost_0 rfl ?_
  refine a_dconst0 dX10_bitsOfCost_1 ?_
  refine a_dcmp dX10_bitsOfCost_2 ?_
  rw [show FP.dcmp FP.dconst0 FP.dconst0 = some .eq by decide +kernel]
  refine a_if_gt (tgt := 8) dX10_bitsOfCost_3 (by decide) (fun h => absurd h (by decide)) (fun h => ?_)
  refine a_lconst (0 : Int64) dX10_bitsOfCost_6 (by decide) ?_
  exact a_out rfl rfl (a_lreturn dX10_bitsOfCost_7 rfl)
theorem t_bc {c : Nat} {q9 : Int} (h : ND c) (h1 : -1000 ≤ q9) (h2 : q9 ≤ 900) : Ct Y_X10_bitsOfCost RF_X10_bitsOfCost [.double (DX c q9)] μ (.inl (some (.long (lN ((q9 + 1075).toNat * 2 ^ 52 + (c - 4503599627370496)))))) μ := by
  refine Ct.ent yk_X10_bitsOfCost (Nat.le_of_ble_eq_true rfl) ?_
  refine a_dload_n dX10_bitsOfCost_0 rfl ?_
  refine a_dconst0 dX10_bitsOfCost_1 ?_
  refine a_dcmp dX10_bitsOfCost_2 ?_
  rw [DX_gt0 h (by omega) (by omega)]
  refine a_if_gt (tgt := 8) dX10_bitsOfCost_3 (by decide) (fun h3 => ?_) (fun h3 => absurd (by decide) h3)
  refine a_ldc2 (v := 1023) dX10_bitsOfCost_8 kl_476 ?_
  refine a_lstore_n dX10_bitsOfCost_11 (by decide) ?_
  refine a_dload_n dX10_bitsOfCost_12 rfl ?_
  refine a_dstore dX10_bitsOfCost_13 (by decide) ?_
  refine a_iconst (0 : Int32) dX10_bitsOfCost_15 (by decide) ?_
  refine a_istore dX10_bitsOfCost_16 (by decide) ?_
  by_cases hq : q9 ≤ -52
  · obtain ⟨K, rfl⟩ : ∃ K : Nat, q9 = -52 - (K : Int) := ⟨(-52 - q9).toNat, by omega⟩
    rw [show (-52 - (K : Int) + 1075).toNat = 1023 - K by omega]
    exact a_loc _ rfl (l_bc1 h (by omega) K 0 (by omega))
  · obtain ⟨K, rfl⟩ : ∃ K : Nat, q9 = -52 + (K : Int) := ⟨(q9 + 52).toNat, by omega⟩
    rw [show (-52 + (K : Int) + 1075).toNat = 1023 + K by omega]
    refine a_loc [(0, .double (DX c (-52 + (K : Int)))), (2, .long (lN 1023)), (4, .double (DX c (-52 + (K : Int)))), (6, .int (nI 0))] rfl ?_
    refine a_iload dX10_bitsOfCost_18 rfl ?_
    refine a_sipush (1022 : Int32) dX10_bitsOfCost_20 (by decide) ?_
    refine a_icmp_ge (tgt := 51) dX10_bitsOfCost_23 (by decide) (fun h23 => absurd h23 (by decide)) (fun h23 => ?_)
    refine a_dload dX10_bitsOfCost_26 rfl ?_
    refine a_dconst1 dX10_bitsOfCost_28 ?_
    refine a_dcmp dX10_bitsOfCost_29 ?_
    obtain ⟨o9, g1, g2⟩ := DX_ge1 (c := c) (q := -52 + (K : Int)) h (by omega) (by omega)
    rw [g1]
    refine a_if_ge (tgt := 51) dX10_bitsOfCost_30 (by decide) (fun h30 => ?_) (fun h30 => absurd (cmp_g0 g2 _) h30)
    refine a_iconst (0 : Int32) dX10_bitsOfCost_51 (by decide) ?_
    refine a_istore dX10_bitsOfCost_52 (by decide) ?_
    exact a_loc _ rfl (l_bc2 (E := 1023) (K := K) h (by omega) K 0 (by omega))
theorem DX_b {c : Nat} {q9 : Int} (h : ND c) (h1 : -1000 ≤ q9) (h2 : q9 ≤ 900) : coB (DX c q9) = lN ((q9 + 1075).toNat * 2 ^ 52 + (c - 4503599627370496)) := by
  unfold coB DX FP.Core.of64
  rw [DX_enc h, show (q9 + 1074).toNat + 1 = (q9 + 1075).toNat by omega]
  rfl
theorem t_bcV {x : UInt64} (h : CoV x) : Ct Y_X10_bitsOfCost RF_X10_bitsOfCost [.double x] μ (.inl (some (.long (coB x)))) μ := by
  rcases h with e | ⟨c, q9, h1, h2, h3, e⟩
  · subst e; exact t_bc0
  · subst e; rw [DX_b h1 h2 h3]; exact t_bc h1 h2 h3
theorem CoV.eq {x : UInt64} (h : CoV x) : FP.dcmp x x = some .eq := by
  rcases h with e | ⟨c, q9, h1, h2, h3, e⟩
  · subst e; decide +kernel
  · subst e; exact dcmp_self (DX_val h1 (by omega) (by omega))
def coF (d : FDt) : Int64 := if dA d 5 = 0 then 0 else coB (coD d)
theorem c_cBits (hw : Wf μ) (hv : FV μ 24 p d) (hx : ¬ dA d 5 = 0 → CoV (coD d) ∧ vf_n64 (FP.ddiv (FP.l2d (dA d 3)) (FP.l2d (dA d 5)))) : Ct Y_X10_costBits RF_X10_costBits [.ref 0] μ (.inl (some (.long (coF d)))) μ := by
  refine Ct.ent yk_X10_costBits (Nat.le_of_ble_eq_true rfl) ?_
  refine a_aload_n dX10_costBits_0 rfl ?_
  refine a_getR (cr_0_7 hw) dX10_costBits_1 fs_X10_28 rfl (co_0 hw) ?_
  refine a_getR (fl_r12 hw fl_now) dX10_costBits_4 fs_X10_379 rfl (fl_o hw fl_now) ?_
  refine a_iconst (5 : Int32) dX10_costBits_7 (by decide) ?_
  refine a_lld dX10_costBits_8 (fl_a16 hw fl_now) (ixn (m := 5) (by decide) (by decide)) ?_
  rw [show (24 + 16 : Nat) = 24 + 16 from rfl, hv.acc (i := 5) (by decide)]
  refine a_lstore_n dX10_costBits_9 (by decide) ?_
  refine a_lload_n dX10_costBits_10 rfl ?_
  refine a_lconst (0 : Int64) dX10_costBits_11 (by decide) ?_
  refine a_lcmp dX10_costBits_12 ?_
  unfold coF
  by_cases h0 : dA d 5 = 0
  · rw [if_pos h0]
    refine a_if_ne (tgt := 18) dX10_costBits_13 (by decide) (fun h => absurd (lcmp_0 h0) h) (fun h => ?_)
    refine a_lconst (0 : Int64) dX10_costBits_16 (by decide) ?_
    exact a_out rfl rfl (a_lreturn dX10_costBits_17 rfl)
  · rw [if_neg h0]
    refine a_if_ne (tgt := 18) dX10_costBits_13 (by decide) (fun h => ?_) (fun h => absurd h (lcmp_1 h0))
    refine a_aload_n dX10_costBits_18 rfl ?_
    refine a_getR (cr_0_7 hw) dX10_costBits_19 fs_X10_28 rfl (co_0 hw) ?_
    refine a_getR (fl_r12 hw fl_now) dX10_costBits_22 fs_X10_379 rfl (fl_o hw fl_now) ?_
    refine a_iconst (3 : Int32) dX10_costBits_25 (by decide) ?_
    refine a_lld dX10_costBits_26 (fl_a16 hw fl_now) (ixn (m := 3) (by decide) (by decide)) ?_
    rw [show (24 + 16 : Nat) = 24 + 16 from rfl, hv.acc (i := 3) (by decide)]
    refine a_l2d dX10_costBits_27 ?_
    refine a_lload_n dX10_costBits_28 rfl ?_
    refine a_l2d dX10_costBits_29 ?_
    refine a_ddiv dX10_costBits_30 (hx h0).2 ?_
    refine a_invS (b2 := (0, 0)) (t_bcV (hx h0).1) rfl dX10_costBits_31 yk_X10_bitsOfCost sm_X10_bitsOfCost ml_X10_397 rfl (by decide) (by decide) (Nat.le_of_ble_eq_true rfl) ?_
    exact a_out rfl rfl (a_lreturn dX10_costBits_34 rfl)
theorem m_cBits (hw : Wf μ) (ha : ∀ k, k < 6 → gL μ 348 k = dA d k) (hx : ¬ dA d 5 = 0 → CoV (coD d) ∧ vf_n64 (FP.ddiv (FP.l2d (dA d 3)) (FP.l2d (dA d 5)))) : Ct Y_X11_costBits RF_X11_costBits [.ref 338] μ (.inl (some (.long (coF d)))) (sI μ 338 0 0) := by
  refine Ct.ent yk_X11_costBits (Nat.le_of_ble_eq_true rfl) ?_
  refine a_aload_n dX11_costBits_0 rfl ?_
  refine a_iconst (0 : Int32) dX11_costBits_1 (by decide) ?_
  refine a_putI dX11_costBits_2 fs_X11_88 rfl rfl rfl (co_338 hw) ?_
  refine a_aload_n dX11_costBits_5 rfl ?_
  refine a_getR (cr_338_10 hw.sI) dX11_costBits_6 fs_X11_38 rfl (co_338 hw.sI) ?_
  refine a_iconst (5 : Int32) dX11_costBits_9 (by decide) ?_
  refine a_lld dX11_costBits_10 (ca_348 hw.sI) (ixn (m := 5) (by decide) (by decide)) ?_
  rw [gL_sI, ha 5 (by decide)]
  refine a_lconst (0 : Int64) dX11_costBits_11 (by decide) ?_
  refine a_lcmp dX11_costBits_12 ?_
  unfold coF
  by_cases h0 : dA d 5 = 0
  · rw [if_pos h0]
    refine a_if_ne (tgt := 20) dX11_costBits_13 (by decide) (fun h => absurd (lcmp_0 h0) h) (fun h => ?_)
    refine a_lconst (0 : Int64) dX11_costBits_16 (by decide) ?_
    refine a_goto (tgt := 38) dX11_costBits_17 (by decide) ?_
    exact a_out rfl rfl (a_lreturn dX11_costBits_38 rfl)
  · rw [if_neg h0]
    refine a_if_ne (tgt := 20) dX11_costBits_13 (by decide) (fun h => ?_) (fun h => absurd h (lcmp_1 h0))
    refine a_aload_n dX11_costBits_20 rfl ?_
    refine a_getR (cr_338_10 hw.sI) dX11_costBits_21 fs_X11_38 rfl (co_338 hw.sI) ?_
    refine a_iconst (3 : Int32) dX11_costBits_24 (by decide) ?_
    refine a_lld dX11_costBits_25 (ca_348 hw.sI) (ixn (m := 3) (by decide) (by decide)) ?_
    rw [gL_sI, ha 3 (by decide)]
    refine a_l2d dX11_costBits_26 ?_
    refine a_aload_n dX11_costBits_27 rfl ?_
    refine a_getR (cr_338_10 hw.sI) dX11_costBits_28 fs_X11_38 rfl (co_338 hw.sI) ?_
    refine a_iconst (5 : Int32) dX11_costBits_31 (by decide) ?_
    refine a_lld dX11_costBits_32 (ca_348 hw.sI) (ixn (m := 5) (by decide) (by decide)) ?_
    rw [gL_sI, ha 5 (by decide)]
    refine a_l2d dX11_costBits_33 ?_
    refine a_ddiv dX11_costBits_34 (hx h0).2 ?_
    refine a_invS (b2 := (0, 0)) (t_dbits (hx h0).1.eq) rfl dX11_costBits_35 yk_Jxe99ae_doubleToLongBits_ccdee sm_Jxe99ae_doubleToLongBits_ccdee ml_X11_493 rfl (by decide) (by decide) (Nat.le_of_ble_eq_true rfl) ?_
    exact a_out rfl rfl (a_lreturn dX11_costBits_38 rfl)
theorem o_wasteBits (h : RelV N μ) (hN : N ≤ 511) : EqR Y_X10_wasteBits RF_X10_wasteBits Y_X11_wasteBits RF_X11_wasteBits N μ := by
  obtain ⟨p, p0, q, d, H, S, L, B, os, nm, h⟩ := h
  have hw := h.cr.wf
  have hx := share_v h.ind.2.2.2.2 hN
  obtain ⟨a1, a2, a3⟩ := rel_mq h (MqQ.of hw 0)
  exact ⟨_, _, Exists.intro _ rfl, c_wBits hw h.cr.fv hx, m_wBits hw h.mn.2.2 hx, a1.v, a2, a3⟩
theorem o_costBits (h : RelV N μ) (hN : N ≤ 511) : EqR Y_X10_costBits RF_X10_costBits Y_X11_costBits RF_X11_costBits N μ := by
  obtain ⟨p, p0, q, d, H, S, L, B, os, nm, h⟩ := h
  have hw := h.cr.wf
  have hx := cost_v h.ind.2.2.2.2 hN
  obtain ⟨a1, a2, a3⟩ := rel_mq h (MqQ.of hw 0)
  exact ⟨_, _, Exists.intro _ rfl, c_cBits hw h.cr.fv hx, m_cBits hw h.mn.2.2 hx, a1.v, a2, a3⟩
/-- a share as a double is a number -/
theorem f2d_v {x : UInt32} (h : ShV x) : vf_n64 (FP.f2d x) ∧ FP.dcmp (FP.f2d x) (FP.f2d x) = some .eq := by
  obtain ⟨e1, e2, e3, e4, e5⟩ := b64c
  obtain ⟨n, q9, hf, hv, hvn⟩ : ∃ (n : Nat) (q9 : Int), FP.Core.fits FP.Core.b64 (.fin false n q9) ∧ FP.Core.round FP.Core.b64 (FP.Core.val32 x) = .fin false n q9 ∧ FP.Core.val32 x ≠ .nan := by
    rcases h with e | ⟨c, K, h1, h2, e⟩
    · subst e
      rw [v_f0]
      exact ⟨0, FP.Core.b64.qmin, FP.Core.zero_fits FP.Core.good_b64 false, by show FP.Core.roundRatio FP.Core.b64 false 0 1 _ = _; unfold FP.Core.roundRatio; rw [if_pos rfl], fun z => by cases z⟩
    · subst e
      rw [FX_val h1 h2]
      have g1 := h1.1
      have g2 := h1.2
      obtain ⟨k, hk, r1, r2, r3⟩ := fm_int FP.Core.good_b64 (n := c) (by omega) (by omega) false (-23 - (K : Int)) (by omega) (by omega)
      exact ⟨_, _, ⟨r3, by omega, by omega, Or.inr r2⟩, r1, fun z => by cases z⟩
  have e : FP.f2d x = FP.Core.of64 (.fin false n q9) := by
    have hn : FP.fIsNaN x = false := decide_eq_false hvn
    rw [FP.f2d_core hn]
    show FP.Core.of64 (FP.Core.round FP.Core.b64 (FP.Core.val32 x)) = _
    rw [hv]
  rw [e]
  exact ⟨n64_fin hf, dcmp_self (FP.Core.val64_of64 hf)⟩
theorem s_wasteBits {μ : Wd} {N i bb : Nat} {X : Nat × (Nat → Int32)} (h : RelV N μ) (hX : gX μ = X) (hi : i + 6 ≤ X.1) (hL : X.1 ≤ 3072) (kx : ∀ V, RelV (N + 1) V → gX V = X → WP Y_L_law RLaw (60 * bb, 300 * bb) V 1976 (LAw i) [] QLw) (hN : N ≤ 511) : WP Y_L_law RLaw (60 * (bb + 1), 300 * (bb + 1)) μ 1681 (LAw i) [] QLw := by
  have hw := h.wf
  obtain ⟨v, V, tv, kc, km, hr, hv, hx⟩ := o_wasteBits h hN
  obtain ⟨v, rfl⟩ := tv
  have hV := hr.wf
  have hX2 : gX V = X := hx.trans hX
  refine lf (a_aload_n dL_law_1681 rfl) ?_
  refine lf (a_inv (b2 := (60 * (bb + 1), 300 * (bb + 1))) kc rfl dL_law_1682 yk_X10_wasteBits im_X10_wasteBits se_X10_wasteBits ml_L_201 rfl (co_0 (by repeat (first | with_reducible exact hw | with_reducible exact hwc | with_reducible assumption | with_reducible apply Wf.sI | with_reducible apply Wf.sL | with_reducible apply Wf.cpI | with_reducible apply Wf.cpL | with_reducible apply Wf.cp2 | with_reducible apply Wf.sIs | with_reducible apply Wf.sLs | with_reducible apply Wf.cpU | with_reducible apply Wf.fillI | with_reducible apply Wf.clU | with_reducible apply Wf.dnF | with_reducible apply Wf.gbW))) (by decide) hc_X10 (by decide) ⟨by show 0 + 60 * (bb + 1) ≤ 60 * (bb + 1); omega, by show 0 + 300 * (bb + 1) ≤ 300 * (bb + 1); omega⟩ (Nat.le_of_ble_eq_true rfl)) ?_
  refine lf (a_aload_n dL_law_1685 rfl) ?_
  refine lf (a_inv (b2 := (60 * (bb + 1), 300 * (bb + 1))) km rfl dL_law_1686 yk_X11_wasteBits im_X11_wasteBits se_X11_wasteBits ml_L_204 rfl (co_338 (by repeat (first | with_reducible exact hw | with_reducible exact hwc | with_reducible assumption | with_reducible apply Wf.sI | with_reducible apply Wf.sL | with_reducible apply Wf.cpI | with_reducible apply Wf.cpL | with_reducible apply Wf.cp2 | with_reducible apply Wf.sIs | with_reducible apply Wf.sLs | with_reducible apply Wf.cpU | with_reducible apply Wf.fillI | with_reducible apply Wf.clU | with_reducible apply Wf.dnF | with_reducible apply Wf.gbW))) (by decide) hc_X11 (by decide) ⟨by show 0 + 60 * (bb + 1) ≤ 60 * (bb + 1); omega, by show 0 + 300 * (bb + 1) ≤ 300 * (bb + 1); omega⟩ (Nat.le_of_ble_eq_true rfl)) ?_
  refine lf2 (a_icmp_eq (tgt := 1976) dL_law_1689 (by decide)) (fun h1689 => ?_) (fun h1689 => absurd h1689 (fun z => z rfl))
  exact lf (a_room (b' := (60 * bb, 300 * bb)) (by show 60 * bb ≤ 60 * (bb + 1); omega) (by show 300 * bb ≤ 300 * (bb + 1); omega)) (lf (a_loc (LAw i) rfl) (kx V hr hX2))
theorem s_costBits {μ : Wd} {N i bb : Nat} {X : Nat × (Nat → Int32)} (h : RelV N μ) (hX : gX μ = X) (hi : i + 6 ≤ X.1) (hL : X.1 ≤ 3072) (kx : ∀ V, RelV (N + 1) V → gX V = X → WP Y_L_law RLaw (60 * bb, 300 * bb) V 1976 (LAw i) [] QLw) (hN : N ≤ 511) : WP Y_L_law RLaw (60 * (bb + 1), 300 * (bb + 1)) μ 1694 (LAw i) [] QLw := by
  have hw := h.wf
  obtain ⟨v, V, tv, kc, km, hr, hv, hx⟩ := o_costBits h hN
  obtain ⟨v, rfl⟩ := tv
  have hV := hr.wf
  have hX2 : gX V = X := hx.trans hX
  refine lf (a_aload_n dL_law_1694 rfl) ?_
  refine lf (a_inv (b2 := (60 * (bb + 1), 300 * (bb + 1))) kc rfl dL_law_1695 yk_X10_costBits im_X10_costBits se_X10_costBits ml_L_205 rfl (co_0 (by repeat (first | with_reducible exact hw | with_reducible exact hwc | with_reducible assumption | with_reducible apply Wf.sI | with_reducible apply Wf.sL | with_reducible apply Wf.cpI | with_reducible apply Wf.cpL | with_reducible apply Wf.cp2 | with_reducible apply Wf.sIs | with_reducible apply Wf.sLs | with_reducible apply Wf.cpU | with_reducible apply Wf.fillI | with_reducible apply Wf.clU | with_reducible apply Wf.dnF | with_reducible apply Wf.gbW))) (by decide) hc_X10 (by decide) ⟨by show 0 + 60 * (bb + 1) ≤ 60 * (bb + 1); omega, by show 0 + 300 * (bb + 1) ≤ 300 * (bb + 1); omega⟩ (Nat.le_of_ble_eq_true rfl)) ?_
  refine lf (a_aload_n dL_law_1698 rfl) ?_
  refine lf (a_inv (b2 := (60 * (bb + 1), 300 * (bb + 1))) km rfl dL_law_1699 yk_X11_costBits im_X11_costBits se_X11_costBits ml_L_209 rfl (co_338 (by repeat (first | with_reducible exact hw | with_reducible exact hwc | with_reducible assumption | with_reducible apply Wf.sI | with_reducible apply Wf.sL | with_reducible apply Wf.cpI | with_reducible apply Wf.cpL | with_reducible apply Wf.cp2 | with_reducible apply Wf.sIs | with_reducible apply Wf.sLs | with_reducible apply Wf.cpU | with_reducible apply Wf.fillI | with_reducible apply Wf.clU | with_reducible apply Wf.dnF | with_reducible apply Wf.gbW))) (by decide) hc_X11 (by decide) ⟨by show 0 + 60 * (bb + 1) ≤ 60 * (bb + 1); omega, by show 0 + 300 * (bb + 1) ≤ 300 * (bb + 1); omega⟩ (Nat.le_of_ble_eq_true rfl)) ?_
  refine lf (a_lcmp dL_law_1702) ?_
  refine lf2 (a_if_eq (tgt := 1976) dL_law_1703 (by decide)) (fun h1703 => ?_) (fun h1703 => absurd h1703 (fun z => z (lcmp_self _)))
  exact lf (a_room (b' := (60 * bb, 300 * bb)) (by show 60 * bb ≤ 60 * (bb + 1); omega) (by show 300 * bb ≤ 300 * (bb + 1); omega)) (lf (a_loc (LAw i) rfl) (kx V hr hX2))
theorem s_wasteShare {μ : Wd} {N i bb : Nat} {X : Nat × (Nat → Int32)} (h : RelV N μ) (hX : gX μ = X) (hi : i + 6 ≤ X.1) (hL : X.1 ≤ 3072) (kx : ∀ V, RelV (N + 1) V → gX V = X → WP Y_L_law RLaw (60 * bb, 300 * bb) V 1976 (LAw i) [] QLw) (hN : N ≤ 511) : WP Y_L_law RLaw (60 * (bb + 1), 300 * (bb + 1)) μ 1638 (LAw i) [] QLw := by
  have hw := h.wf
  obtain ⟨p, p0, q, d, H, S, L, B, os, nm, h⟩ := h
  have hs := share_v h.ind.2.2.2.2 hN
  obtain ⟨a1, a2, a3⟩ := rel_mq h (MqQ.of hw 0)
  have hd := f2d_v hs.1
  refine lf (a_aload_n dL_law_1638 rfl) ?_
  refine lf (a_inv (b2 := (60 * (bb + 1), 300 * (bb + 1))) (c_shr hw h.cr.fv hs.2) rfl dL_law_1639 yk_X10_wasteShare im_X10_wasteShare se_X10_wasteShare ml_L_196 rfl (co_0 hw) (by decide) hc_X10 (by decide) ⟨by show 0 + 60 * (bb + 1) ≤ 60 * (bb + 1); omega, by show 0 + 300 * (bb + 1) ≤ 300 * (bb + 1); omega⟩ (Nat.le_of_ble_eq_true rfl)) ?_
  refine lf (a_f2d dL_law_1642 hd.1) ?_
  refine lf (a_dstore dL_law_1643 (by decide)) ?_
  refine lf (a_aload_n dL_law_1645 rfl) ?_
  refine lf (a_inv (b2 := (60 * (bb + 1), 300 * (bb + 1))) (m_wShare hw h.mn.2.2 hs.2) rfl dL_law_1646 yk_X11_wasteShare im_X11_wasteShare se_X11_wasteShare ml_L_200 rfl (co_338 hw) (by decide) hc_X11 (by decide) ⟨by show 0 + 60 * (bb + 1) ≤ 60 * (bb + 1); omega, by show 0 + 300 * (bb + 1) ≤ 300 * (bb + 1); omega⟩ (Nat.le_of_ble_eq_true rfl)) ?_
  refine lf (a_f2d dL_law_1649 hd.1) ?_
  refine lf (a_dstore dL_law_1650 (by decide)) ?_
  refine lf (a_dload dL_law_1652 rfl) ?_
  refine lf (a_dload dL_law_1654 rfl) ?_
  refine lf (a_dcmp dL_law_1656) ?_
  rw [hd.2]
  refine lf2 (a_if_eq (tgt := 1678) dL_law_1657 (by decide)) (fun h1657 => ?_) (fun h1657 => absurd rfl h1657)
  refine lf (a_goto (tgt := 1976) dL_law_1678 (by decide)) ?_
  exact lf (a_room (b' := (60 * bb, 300 * bb)) (by show 60 * bb ≤ 60 * (bb + 1); omega) (by show 300 * bb ≤ 300 * (bb + 1); omega)) (lf (a_loc (LAw i) rfl) (kx _ a1.v (a3.trans hX)))
end FWALK
