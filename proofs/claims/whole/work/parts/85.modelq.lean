section MODELQ
variable {μ W : Wd} {q : PDt} {d : FDt}
def isO (x : Int32) (n : Nat) : Int32 := match ixO x n with
  | some _ => 1
  | none => 0
theorem isO_some {x : Int32} {n k : Nat} (h : ixO x n = some k) : isO x n = 1 := by unfold isO; rw [h]
theorem isO_none {x : Int32} {n : Nat} (h : ixO x n = none) : isO x n = 0 := by unfold isO; rw [h]
theorem inI_ix {x : Int32} {n : Nat} (hn : n ≤ 256) : inI x 0 (nI n - 1) = isO x n := by
  cases h : ixO x n with
  | some k =>
    obtain ⟨h1, rfl⟩ := ixO_some h
    rw [isO_some h]
    cases n with
    | zero => exact absurd h1 (Nat.not_lt_zero _)
    | succ m =>
      rw [nI_sub1]
      unfold inI
      rw [if_neg (nI_pos (by omega)), if_neg (nI_nlt (a := m) (b := k) (by omega) (by omega))]
  | none =>
    rw [isO_none h]
    rcases ixO_none h with h0 | ⟨j, g1, g2, rfl⟩
    · unfold inI; rw [if_pos h0]
    · unfold inI
      rw [if_neg (nI_pos g2)]
      cases n with
      | zero => rw [show nI 0 - 1 = (-1 : Int32) by decide, if_pos (nI_m1 g2)]
      | succ m => rw [nI_sub1, if_pos (nI_lt (show m < j by omega) g2)]
theorem inI_un {x : Int32} : inI x 1 99 = match unO x with
    | some _ => 1
    | none => 0 := by
  cases h : unO x with
  | some k =>
    obtain ⟨g1, g2, rfl⟩ := unO_some h
    unfold inI
    exact (if_neg (nI_nlt (b := 1) g1 (by omega))).trans (if_neg (nI_nlt (a := 99) (b := k) g2 (by decide)))
  | none =>
    unfold inI
    rcases unO_none h with h0 | ⟨j, g1, g2, rfl⟩
    · rw [if_pos h0]
    · exact (if_neg (nI_nlt (b := 1) (by omega) g2)).trans (if_pos (nI_lt (a := 99) g1 g2))
abbrev R_X11_isCabin : Room := { frames := 1, cells := 0, slots := 0, locals := 22 }
abbrev RX_X11_isCabin : Room := { frames := 1, cells := 1, slots := 6, locals := 22 }

theorem m_isCabin (hw : Wf μ) (hv : MdV μ q d) (x : Int32) : Ct Y_X11_isCabin R_X11_isCabin [.ref 338, .int x] μ (.inl (some (.int (isO x (pC q))))) μ := by
  refine Ct.ent yk_X11_isCabin (Nat.le_of_ble_eq_true rfl) ?_
  refine a_iload_n dX11_isCabin_0 rfl ?_
  refine a_iconst (0 : Int32) dX11_isCabin_1 (by decide) ?_
  refine a_aload_n dX11_isCabin_2 rfl ?_
  refine a_inv (b2 := (0, 0)) (m_cabins hw hv) rfl dX11_isCabin_3 yk_X11_cabins im_X11_cabins se_X11_cabins ml_X11_324 rfl (co_338 hw) (by decide) hc_X11 (by decide) (by decide) (Nat.le_of_ble_eq_true rfl) ?_
  refine a_iconst (1 : Int32) dX11_isCabin_6 (by decide) ?_
  refine a_isub dX11_isCabin_7 ?_
  refine a_invS (b2 := (0, 0)) (Ct.int (inI_ix (x := x) (n := pC q) (by have := hv.C4; omega)) (m_in x 0 (nI (pC q) - 1))) rfl dX11_isCabin_8 yk_X11_in sm_X11_in ml_X11_102 rfl (by decide) (by decide) (Nat.le_of_ble_eq_true rfl) ?_
  exact a_out rfl rfl (a_ireturn dX11_isCabin_11 rfl (by unfold isO; split <;> rfl))
abbrev R_X11_isMeal : Room := { frames := 1, cells := 0, slots := 0, locals := 22 }
abbrev RX_X11_isMeal : Room := { frames := 1, cells := 1, slots := 6, locals := 22 }

theorem m_isMeal (hw : Wf μ) (hv : MdV μ q d) (x : Int32) : Ct Y_X11_isMeal R_X11_isMeal [.ref 338, .int x] μ (.inl (some (.int (isO x (pM q))))) μ := by
  refine Ct.ent yk_X11_isMeal (Nat.le_of_ble_eq_true rfl) ?_
  refine a_iload_n dX11_isMeal_0 rfl ?_
  refine a_iconst (0 : Int32) dX11_isMeal_1 (by decide) ?_
  refine a_aload_n dX11_isMeal_2 rfl ?_
  refine a_inv (b2 := (0, 0)) (m_meals hw hv) rfl dX11_isMeal_3 yk_X11_meals im_X11_meals se_X11_meals ml_X11_300 rfl (co_338 hw) (by decide) hc_X11 (by decide) (by decide) (Nat.le_of_ble_eq_true rfl) ?_
  refine a_iconst (1 : Int32) dX11_isMeal_6 (by decide) ?_
  refine a_isub dX11_isMeal_7 ?_
  refine a_invS (b2 := (0, 0)) (Ct.int (inI_ix (x := x) (n := pM q) (by have := hv.M4; omega)) (m_in x 0 (nI (pM q) - 1))) rfl dX11_isMeal_8 yk_X11_in sm_X11_in ml_X11_102 rfl (by decide) (by decide) (Nat.le_of_ble_eq_true rfl) ?_
  exact a_out rfl rfl (a_ireturn dX11_isMeal_11 rfl (by unfold isO; split <;> rfl))
abbrev R_X11_isTrolley : Room := { frames := 1, cells := 0, slots := 0, locals := 22 }
abbrev RX_X11_isTrolley : Room := { frames := 1, cells := 1, slots := 6, locals := 22 }

theorem m_isTrolley (hw : Wf μ) (hv : MdV μ q d) (x : Int32) : Ct Y_X11_isTrolley R_X11_isTrolley [.ref 338, .int x] μ (.inl (some (.int (isO x (pT q))))) μ := by
  refine Ct.ent yk_X11_isTrolley (Nat.le_of_ble_eq_true rfl) ?_
  refine a_iload_n dX11_isTrolley_0 rfl ?_
  refine a_iconst (0 : Int32) dX11_isTrolley_1 (by decide) ?_
  refine a_aload_n dX11_isTrolley_2 rfl ?_
  refine a_inv (b2 := (0, 0)) (m_trolleys hw hv) rfl dX11_isTrolley_3 yk_X11_trolleys im_X11_trolleys se_X11_trolleys ml_X11_330 rfl (co_338 hw) (by decide) hc_X11 (by decide) (by decide) (Nat.le_of_ble_eq_true rfl) ?_
  refine a_iconst (1 : Int32) dX11_isTrolley_6 (by decide) ?_
  refine a_isub dX11_isTrolley_7 ?_
  refine a_invS (b2 := (0, 0)) (Ct.int (inI_ix (x := x) (n := pT q) (by have := hv.T4; omega)) (m_in x 0 (nI (pT q) - 1))) rfl dX11_isTrolley_8 yk_X11_in sm_X11_in ml_X11_102 rfl (by decide) (by decide) (Nat.le_of_ble_eq_true rfl) ?_
  exact a_out rfl rfl (a_ireturn dX11_isTrolley_11 rfl (by unfold isO; split <;> rfl))
abbrev R_X11_isPassenger : Room := { frames := 1, cells := 0, slots := 0, locals := 22 }
abbrev RX_X11_isPassenger : Room := { frames := 1, cells := 1, slots := 6, locals := 22 }

theorem m_isPassenger (hw : Wf μ) (hv : MdV μ q d) (x : Int32) : Ct Y_X11_isPassenger R_X11_isPassenger [.ref 338, .int x] μ (.inl (some (.int (isO x (dP d))))) μ := by
  refine Ct.ent yk_X11_isPassenger (Nat.le_of_ble_eq_true rfl) ?_
  refine a_iload_n dX11_isPassenger_0 rfl ?_
  refine a_iconst (0 : Int32) dX11_isPassenger_1 (by decide) ?_
  refine a_aload_n dX11_isPassenger_2 rfl ?_
  refine a_getR (cr_338_6 hw) dX11_isPassenger_3 fs_X11_26 rfl (co_338 hw) ?_
  refine a_iconst (3 : Int32) dX11_isPassenger_6 (by decide) ?_
  refine a_ild dX11_isPassenger_7 (ca_344 hw) (ixn (m := 3) (by omega) (by decide)) ?_
  rw [hv.s3]
  refine a_iconst (1 : Int32) dX11_isPassenger_8 (by decide) ?_
  refine a_isub dX11_isPassenger_9 ?_
  refine a_invS (b2 := (0, 0)) (Ct.int (inI_ix (x := x) (n := dP d) (by have := hv.P4; omega)) (m_in x 0 (nI (dP d) - 1))) rfl dX11_isPassenger_10 yk_X11_in sm_X11_in ml_X11_102 rfl (by decide) (by decide) (Nat.le_of_ble_eq_true rfl) ?_
  exact a_out rfl rfl (a_ireturn dX11_isPassenger_13 rfl (by unfold isO; split <;> rfl))
abbrev R_X11_isGoing : Room := { frames := 1, cells := 0, slots := 0, locals := 22 }
abbrev RX_X11_isGoing : Room := { frames := 1, cells := 1, slots := 6, locals := 22 }

theorem m_isGoing (hw : Wf μ) (hv : MdV μ q d)  : Ct Y_X11_isGoing R_X11_isGoing [.ref 338] μ (.inl (some (.int (inI (phD q d) 1 2)))) μ := by
  refine Ct.ent yk_X11_isGoing (Nat.le_of_ble_eq_true rfl) ?_
  refine a_aload_n dX11_isGoing_0 rfl ?_
  refine a_inv (b2 := (0, 0)) (m_phase hw hv) rfl dX11_isGoing_1 yk_X11_phase im_X11_phase se_X11_phase ml_X11_106 rfl (co_338 hw) (by decide) hc_X11 (by decide) (by decide) (Nat.le_of_ble_eq_true rfl) ?_
  refine a_iconst (1 : Int32) dX11_isGoing_4 (by decide) ?_
  refine a_iconst (2 : Int32) dX11_isGoing_5 (by decide) ?_
  refine a_invS (b2 := (0, 0)) (m_in (phD q d) 1 2) rfl dX11_isGoing_6 yk_X11_in sm_X11_in ml_X11_102 rfl (by decide) (by decide) (Nat.le_of_ble_eq_true rfl) ?_
  exact a_out rfl rfl (a_ireturn dX11_isGoing_9 rfl (by unfold inI; split <;> first | rfl | (split <;> rfl)))
abbrev R_X11_hasSeat : Room := { frames := 4, cells := 0, slots := 0, locals := 88 }
abbrev RX_X11_hasSeat : Room := { frames := 4, cells := 1, slots := 6, locals := 88 }

theorem m_hasSeat (hw : Wf μ) (hv : MdV μ q d) {c : Nat} (hc : c < pC q) : Ct Y_X11_hasSeat R_X11_hasSeat [.ref 338, .int (nI c)] μ (.inl (some (.int (if paD d (nI c) < pF q 0 c then 1 else 0)))) μ := by
  refine Ct.ent yk_X11_hasSeat (Nat.le_of_ble_eq_true rfl) ?_
  refine a_aload_n dX11_hasSeat_0 rfl ?_
  refine a_iload_n dX11_hasSeat_1 rfl ?_
  refine a_iconst (0 : Int32) dX11_hasSeat_2 (by decide) ?_
  refine a_inv (b2 := (0, 0)) (m_passengersIn0 hw hv (nI c)) rfl dX11_hasSeat_3 yk_X11_passengersIn im_X11_passengersIn se_X11_passengersIn ml_X11_366 rfl (co_338 hw) (by decide) hc_X11 (by decide) (by decide) (Nat.le_of_ble_eq_true rfl) ?_
  refine a_aload_n dX11_hasSeat_6 rfl ?_
  refine a_iload_n dX11_hasSeat_7 rfl ?_
  refine a_iconst (0 : Int32) dX11_hasSeat_8 (by decide) ?_
  refine a_inv (b2 := (0, 0)) (m_ofCabin0 hw hv hc) rfl dX11_hasSeat_9 yk_X11_ofCabin im_X11_ofCabin se_X11_ofCabin ml_X11_315 rfl (co_338 hw) (by decide) hc_X11 (by decide) (by decide) (Nat.le_of_ble_eq_true rfl) ?_
  refine a_icmp_ge (tgt := 19) dX11_hasSeat_12 (by decide) (fun h12 => ?_) (fun h12 => ?_)
  · refine a_iconst (0 : Int32) dX11_hasSeat_19 (by decide) ?_
    exact a_out (by first | (rw [if_pos (Int32.not_le.mp h12)]; done) | (rw [if_neg (Int32.not_lt.mpr h12)]; done) | simp_all) rfl (a_ireturn dX11_hasSeat_20 rfl rfl)
  · refine a_iconst (1 : Int32) dX11_hasSeat_15 (by decide) ?_
    refine a_goto (tgt := 20) dX11_hasSeat_16 (by decide) ?_
    exact a_out (by first | (rw [if_pos (Int32.not_le.mp h12)]; done) | (rw [if_neg (Int32.not_lt.mpr h12)]; done) | simp_all) rfl (a_ireturn dX11_hasSeat_20 rfl rfl)
abbrev R_X11_wrongUnits : Room := { frames := 2, cells := 0, slots := 0, locals := 43 }
abbrev RX_X11_wrongUnits : Room := { frames := 2, cells := 1, slots := 6, locals := 43 }

theorem m_wrongUnits (hw : Wf μ) (hv : MdV μ q d) (x y : Int32) : Ct Y_X11_wrongUnits R_X11_wrongUnits [.ref 338, .int x, .int y] μ (.inl (some (.int (match ixO x (pM q) with | none => 1 | some _ => match unO y with | none => 2 | some _ => 0)))) μ := by
  refine Ct.ent yk_X11_wrongUnits (Nat.le_of_ble_eq_true rfl) ?_
  cases hx : ixO x (pM q) with
  | none =>
    have h1 := isO_none hx
    refine a_aload_n dX11_wrongUnits_0 rfl ?_
    refine a_iload_n dX11_wrongUnits_1 rfl ?_
    refine a_inv (b2 := (0, 0)) (Ct.int h1 (m_isMeal hw hv x)) rfl dX11_wrongUnits_2 yk_X11_isMeal im_X11_isMeal se_X11_isMeal ml_X11_379 rfl (co_338 hw) (by decide) hc_X11 (by decide) (by decide) (Nat.le_of_ble_eq_true rfl) ?_
    refine a_if_ne (tgt := 12) dX11_wrongUnits_5 (by decide) (fun h5 => absurd h5 (fun z => z rfl)) (fun h5 => ?_)
    refine a_iconst (1 : Int32) dX11_wrongUnits_8 (by decide) ?_
    refine a_goto (tgt := 27) dX11_wrongUnits_9 (by decide) ?_
    exact a_out rfl rfl (a_ireturn dX11_wrongUnits_27 rfl rfl)
  | some k =>
    have h1 := isO_some hx
    cases hy : unO y with
    | none =>
      have h2 : inI y 1 99 = 0 := by rw [inI_un, hy]
      refine a_aload_n dX11_wrongUnits_0 rfl ?_
      refine a_iload_n dX11_wrongUnits_1 rfl ?_
      refine a_inv (b2 := (0, 0)) (Ct.int h1 (m_isMeal hw hv x)) rfl dX11_wrongUnits_2 yk_X11_isMeal im_X11_isMeal se_X11_isMeal ml_X11_379 rfl (co_338 hw) (by decide) hc_X11 (by decide) (by decide) (Nat.le_of_ble_eq_true rfl) ?_
      refine a_if_ne (tgt := 12) dX11_wrongUnits_5 (by decide) (fun h5 => ?_) (fun h5 => absurd h5 (by decide))
      refine a_iload_n dX11_wrongUnits_12 rfl ?_
      refine a_iconst (1 : Int32) dX11_wrongUnits_13 (by decide) ?_
      refine a_bipush (99 : Int32) dX11_wrongUnits_14 (by decide) ?_
      refine a_invS (b2 := (0, 0)) (Ct.int h2 (m_in y 1 99)) rfl dX11_wrongUnits_16 yk_X11_in sm_X11_in ml_X11_102 rfl (by decide) (by decide) (Nat.le_of_ble_eq_true rfl) ?_
      refine a_if_eq (tgt := 26) dX11_wrongUnits_19 (by decide) (fun h19 => ?_) (fun h19 => absurd h19 (fun z => z rfl))
      refine a_iconst (2 : Int32) dX11_wrongUnits_26 (by decide) ?_
      exact a_out rfl rfl (a_ireturn dX11_wrongUnits_27 rfl rfl)
    | some k2 =>
      have h2 : inI y 1 99 = 1 := by rw [inI_un, hy]
      refine a_aload_n dX11_wrongUnits_0 rfl ?_
      refine a_iload_n dX11_wrongUnits_1 rfl ?_
      refine a_inv (b2 := (0, 0)) (Ct.int h1 (m_isMeal hw hv x)) rfl dX11_wrongUnits_2 yk_X11_isMeal im_X11_isMeal se_X11_isMeal ml_X11_379 rfl (co_338 hw) (by decide) hc_X11 (by decide) (by decide) (Nat.le_of_ble_eq_true rfl) ?_
      refine a_if_ne (tgt := 12) dX11_wrongUnits_5 (by decide) (fun h5 => ?_) (fun h5 => absurd h5 (by decide))
      refine a_iload_n dX11_wrongUnits_12 rfl ?_
      refine a_iconst (1 : Int32) dX11_wrongUnits_13 (by decide) ?_
      refine a_bipush (99 : Int32) dX11_wrongUnits_14 (by decide) ?_
      refine a_invS (b2 := (0, 0)) (Ct.int h2 (m_in y 1 99)) rfl dX11_wrongUnits_16 yk_X11_in sm_X11_in ml_X11_102 rfl (by decide) (by decide) (Nat.le_of_ble_eq_true rfl) ?_
      refine a_if_eq (tgt := 26) dX11_wrongUnits_19 (by decide) (fun h19 => absurd h19 (by decide)) (fun h19 => ?_)
      refine a_iconst (0 : Int32) dX11_wrongUnits_22 (by decide) ?_
      refine a_goto (tgt := 27) dX11_wrongUnits_23 (by decide) ?_
      exact a_out rfl rfl (a_ireturn dX11_wrongUnits_27 rfl rfl)
end MODELQ
