section SERVICES
variable {μ W V : Wd} {q : PDt} {d : FDt} {k : Nat} {fx : Nat → Option (Option Nat)} {g G : Nat → Option Nat} {rs cap : Nat → Nat}
abbrev sMd : Nat → Prop := fun i => 356 ≤ i ∧ i ≤ 361
abbrev sSp : Nat → Prop := fun i => i = 356 ∨ i = 359
theorem MdV.md (h : MdV μ q d) (ho : Out sMd μ W) : MdV W q d := h.out ho (fun z => by have := z.1; omega) (fun z => by have := z.1; omega)
theorem sSp_d {i : Nat} (h : sSp i) : sMd i := by rcases h with e | e <;> exact ⟨by omega, by omega⟩
abbrev R_X11_mostUnits : Room := { frames := 1, cells := 0, slots := 0, locals := 22 }
abbrev RX_X11_mostUnits : Room := { frames := 1, cells := 1, slots := 6, locals := 22 }

theorem lm_mostUnits (hw : Wf μ) (hv : MdV μ q d) {c : Int32} {rs : Nat → Nat} (hrs : ∀ m, m < pM q → gI μ 359 m = nI (rs m)) (hrb : ∀ m, m < pM q → rs m < 2 ^ 30) {o : Oc} {μ1 : Wd} (kx : AW Y_X11_mostUnits R_X11_mostUnits (0, 0) μ 71 [(0, .ref 338), (1, .int c), (2, .int (oI (itN (mlS q rs c) none (pM q)))), (3, .int (nI (pM q)))] [] o μ1) : ∀ dd m, m + dd = (pM q) → AW Y_X11_mostUnits R_X11_mostUnits (0, 0) μ 4 [(0, .ref 338), (1, .int c), (2, .int (oI (itN (mlS q rs c) none m))), (3, .int (nI m))] [] o μ1 := by
  intro dd
  induction dd with
  | zero =>
    intro m hm
    obtain rfl : (pM q) = m := by omega
    refine a_iload_n dX11_mostUnits_4 rfl ?_
    refine a_aload_n dX11_mostUnits_5 rfl ?_
    refine a_inv (b2 := (0, 0)) (m_meals hw hv) rfl dX11_mostUnits_6 yk_X11_meals im_X11_meals se_X11_meals ml_X11_300 rfl (co_338 hw) (by decide) hc_X11 (by decide) (by decide) (Nat.le_of_ble_eq_true rfl) ?_
    refine a_icmp_ge (tgt := 71) dX11_mostUnits_9 (by decide) (fun h9 => ?_) (fun h9 => absurd h9 (fun z => z (nI_le (Nat.le_refl _) (by have := hv.M4; omega))))
    exact a_loc _ rfl kx
  | succ dd ih =>
    intro m hm
    have qih := ih (m + 1) (by omega)
    have hlt : ∀ b, itN (mlS q rs c) none m = some b → b < m := fun b hb => (mlD_lt (M := m) hb).1
    rw [itN_succ] at qih
    generalize itN (mlS q rs c) none m = a at qih hlt ⊢
    unfold mlS at qih
    have hM4 := hv.M4
    have hT4 := hv.T4
    have hP4 := hv.P4
    have hU4 := hv.U4
    cases a with
    | none =>
      refine a_iload_n dX11_mostUnits_4 rfl ?_
      refine a_aload_n dX11_mostUnits_5 rfl ?_
      refine a_inv (b2 := (0, 0)) (m_meals hw hv) rfl dX11_mostUnits_6 yk_X11_meals im_X11_meals se_X11_meals ml_X11_300 rfl (co_338 hw) (by decide) hc_X11 (by decide) (by decide) (Nat.le_of_ble_eq_true rfl) ?_
      refine a_icmp_ge (tgt := 71) dX11_mostUnits_9 (by decide) (fun h9 => absurd h9 (nI_ge (by omega) (by have := hv.M4; omega))) (fun h9 => ?_)
      refine a_aload_n dX11_mostUnits_12 rfl ?_
      refine a_iload_n dX11_mostUnits_13 rfl ?_
      refine a_iconst (0 : Int32) dX11_mostUnits_14 (by decide) ?_
      refine a_inv (b2 := (0, 0)) (m_ofMeal0 hw hv (show m < pM q by omega)) rfl dX11_mostUnits_15 yk_X11_ofMeal im_X11_ofMeal se_X11_ofMeal ml_X11_297 rfl (co_338 hw) (by decide) hc_X11 (by decide) (by decide) (Nat.le_of_ble_eq_true rfl) ?_
      refine a_iload_n dX11_mostUnits_18 rfl ?_
      refine a_icmp_ne (tgt := 35) dX11_mostUnits_19 (by decide) (fun h19 => ?_) (fun h19 => ?_)
      · refine a_iconst (0 : Int32) dX11_mostUnits_35 (by decide) ?_
        refine a_istore dX11_mostUnits_36 (by decide) ?_
        refine a_iload dX11_mostUnits_38 rfl ?_
        refine a_if_eq (tgt := 65) dX11_mostUnits_40 (by decide) (fun h40 => ?_) (fun h40 => absurd h40 (by decide))
        refine a_iincN dX11_mostUnits_65 rfl (by decide) ?_
        refine a_goto (tgt := 4) dX11_mostUnits_68 (by decide) ?_
        simp_all only [if_true, if_false, not_true_eq_false, not_false_eq_true, true_iff, false_iff, iff_true, iff_false, ne_eq]
        exact a_loc _ rfl qih
      · refine a_aload_n dX11_mostUnits_22 rfl ?_
        refine a_getR (cr_338_34 hw) dX11_mostUnits_23 fs_X11_76 rfl (co_338 hw) ?_
        refine a_iload_n dX11_mostUnits_26 rfl ?_
        refine a_ild dX11_mostUnits_27 (ca_359 hw) (ixn (by omega) (by decide)) ?_
        have hbm := hrb m (by omega)
        rw [hrs m (by omega)]
        refine a_if_le (tgt := 35) dX11_mostUnits_28 (by decide) (fun h28 => ?_) (fun h28 => ?_)
        · have h28 := (nI_leI (b := 0) (by omega) (by decide)).mp h28
          first | (have h28b : rs m ≤ rs b := by omega) | skip
          refine a_iconst (0 : Int32) dX11_mostUnits_35 (by decide) ?_
          refine a_istore dX11_mostUnits_36 (by decide) ?_
          refine a_iload dX11_mostUnits_38 rfl ?_
          refine a_if_eq (tgt := 65) dX11_mostUnits_40 (by decide) (fun h40 => ?_) (fun h40 => absurd h40 (by decide))
          refine a_iincN dX11_mostUnits_65 rfl (by decide) ?_
          refine a_goto (tgt := 4) dX11_mostUnits_68 (by decide) ?_
          simp_all only [if_true, if_false, not_true_eq_false, not_false_eq_true, true_iff, false_iff, iff_true, iff_false, ne_eq]
          exact a_loc _ rfl qih
        · have h28 : ¬ rs m ≤ 0 := fun z => h28 ((nI_leI (b := 0) (by omega) (by decide)).mpr z)
          refine a_iconst (1 : Int32) dX11_mostUnits_31 (by decide) ?_
          refine a_goto (tgt := 36) dX11_mostUnits_32 (by decide) ?_
          refine a_istore dX11_mostUnits_36 (by decide) ?_
          refine a_iload dX11_mostUnits_38 rfl ?_
          refine a_if_eq (tgt := 65) dX11_mostUnits_40 (by decide) (fun h40 => absurd h40 (by decide)) (fun h40 => ?_)
          refine a_iload_n dX11_mostUnits_43 rfl ?_
          refine a_iconst (-1 : Int32) dX11_mostUnits_44 (by decide) ?_
          refine a_icmp_eq (tgt := 63) dX11_mostUnits_45 (by decide) (fun h45 => ?_) (fun h45 => absurd h45 (fun z => z rfl))
          refine a_iload_n dX11_mostUnits_63 rfl ?_
          refine a_istore_n dX11_mostUnits_64 (by decide) ?_
          refine a_iincN dX11_mostUnits_65 rfl (by decide) ?_
          refine a_goto (tgt := 4) dX11_mostUnits_68 (by decide) ?_
          simp_all only [if_true, if_false, not_true_eq_false, not_false_eq_true, true_iff, false_iff, iff_true, iff_false, ne_eq]
          exact a_loc _ rfl qih
    | some b =>
      have hb : b < m := hlt b rfl
      refine a_iload_n dX11_mostUnits_4 rfl ?_
      refine a_aload_n dX11_mostUnits_5 rfl ?_
      refine a_inv (b2 := (0, 0)) (m_meals hw hv) rfl dX11_mostUnits_6 yk_X11_meals im_X11_meals se_X11_meals ml_X11_300 rfl (co_338 hw) (by decide) hc_X11 (by decide) (by decide) (Nat.le_of_ble_eq_true rfl) ?_
      refine a_icmp_ge (tgt := 71) dX11_mostUnits_9 (by decide) (fun h9 => absurd h9 (nI_ge (by omega) (by have := hv.M4; omega))) (fun h9 => ?_)
      refine a_aload_n dX11_mostUnits_12 rfl ?_
      refine a_iload_n dX11_mostUnits_13 rfl ?_
      refine a_iconst (0 : Int32) dX11_mostUnits_14 (by decide) ?_
      refine a_inv (b2 := (0, 0)) (m_ofMeal0 hw hv (show m < pM q by omega)) rfl dX11_mostUnits_15 yk_X11_ofMeal im_X11_ofMeal se_X11_ofMeal ml_X11_297 rfl (co_338 hw) (by decide) hc_X11 (by decide) (by decide) (Nat.le_of_ble_eq_true rfl) ?_
      refine a_iload_n dX11_mostUnits_18 rfl ?_
      refine a_icmp_ne (tgt := 35) dX11_mostUnits_19 (by decide) (fun h19 => ?_) (fun h19 => ?_)
      · refine a_iconst (0 : Int32) dX11_mostUnits_35 (by decide) ?_
        refine a_istore dX11_mostUnits_36 (by decide) ?_
        refine a_iload dX11_mostUnits_38 rfl ?_
        refine a_if_eq (tgt := 65) dX11_mostUnits_40 (by decide) (fun h40 => ?_) (fun h40 => absurd h40 (by decide))
        refine a_iincN dX11_mostUnits_65 rfl (by decide) ?_
        refine a_goto (tgt := 4) dX11_mostUnits_68 (by decide) ?_
        simp_all only [if_true, if_false, not_true_eq_false, not_false_eq_true, true_iff, false_iff, iff_true, iff_false, ne_eq]
        exact a_loc _ rfl qih
      · refine a_aload_n dX11_mostUnits_22 rfl ?_
        refine a_getR (cr_338_34 hw) dX11_mostUnits_23 fs_X11_76 rfl (co_338 hw) ?_
        refine a_iload_n dX11_mostUnits_26 rfl ?_
        refine a_ild dX11_mostUnits_27 (ca_359 hw) (ixn (by omega) (by decide)) ?_
        have hbm := hrb m (by omega)
        rw [hrs m (by omega)]
        refine a_if_le (tgt := 35) dX11_mostUnits_28 (by decide) (fun h28 => ?_) (fun h28 => ?_)
        · have h28 := (nI_leI (b := 0) (by omega) (by decide)).mp h28
          first | (have h28b : rs m ≤ rs b := by omega) | skip
          refine a_iconst (0 : Int32) dX11_mostUnits_35 (by decide) ?_
          refine a_istore dX11_mostUnits_36 (by decide) ?_
          refine a_iload dX11_mostUnits_38 rfl ?_
          refine a_if_eq (tgt := 65) dX11_mostUnits_40 (by decide) (fun h40 => ?_) (fun h40 => absurd h40 (by decide))
          refine a_iincN dX11_mostUnits_65 rfl (by decide) ?_
          refine a_goto (tgt := 4) dX11_mostUnits_68 (by decide) ?_
          simp_all only [if_true, if_false, not_true_eq_false, not_false_eq_true, true_iff, false_iff, iff_true, iff_false, ne_eq]
          exact a_loc _ rfl qih
        · have h28 : ¬ rs m ≤ 0 := fun z => h28 ((nI_leI (b := 0) (by omega) (by decide)).mpr z)
          refine a_iconst (1 : Int32) dX11_mostUnits_31 (by decide) ?_
          refine a_goto (tgt := 36) dX11_mostUnits_32 (by decide) ?_
          refine a_istore dX11_mostUnits_36 (by decide) ?_
          refine a_iload dX11_mostUnits_38 rfl ?_
          refine a_if_eq (tgt := 65) dX11_mostUnits_40 (by decide) (fun h40 => absurd h40 (by decide)) (fun h40 => ?_)
          refine a_iload_n dX11_mostUnits_43 rfl ?_
          refine a_iconst (-1 : Int32) dX11_mostUnits_44 (by decide) ?_
          refine a_icmp_eq (tgt := 63) dX11_mostUnits_45 (by decide) (fun h45 => absurd h45 (nI_ne1 (by omega))) (fun h45 => ?_)
          refine a_aload_n dX11_mostUnits_48 rfl ?_
          refine a_getR (cr_338_34 hw) dX11_mostUnits_49 fs_X11_76 rfl (co_338 hw) ?_
          refine a_iload_n dX11_mostUnits_52 rfl ?_
          refine a_ild dX11_mostUnits_53 (ca_359 hw) (ixn (by omega) (by decide)) ?_
          rw [hrs m (by omega)]
          refine a_aload_n dX11_mostUnits_54 rfl ?_
          refine a_getR (cr_338_34 hw) dX11_mostUnits_55 fs_X11_76 rfl (co_338 hw) ?_
          refine a_iload_n dX11_mostUnits_58 rfl ?_
          refine a_ild dX11_mostUnits_59 (ca_359 hw) (ixn (by omega) (by decide)) ?_
          have hbb := hrb b (by omega)
          rw [hrs b (by omega)]
          refine a_icmp_le (tgt := 65) dX11_mostUnits_60 (by decide) (fun h60 => ?_) (fun h60 => ?_)
          · have h60 := (nI_leI (by omega) (by omega)).mp h60
            refine a_iincN dX11_mostUnits_65 rfl (by decide) ?_
            refine a_goto (tgt := 4) dX11_mostUnits_68 (by decide) ?_
            simp_all only [if_true, if_false, not_true_eq_false, not_false_eq_true, true_iff, false_iff, iff_true, iff_false, ne_eq]
            exact a_loc _ rfl qih
          · have h60 : ¬ rs m ≤ rs b := fun z => h60 ((nI_leI (by omega) (by omega)).mpr z)
            refine a_iload_n dX11_mostUnits_63 rfl ?_
            refine a_istore_n dX11_mostUnits_64 (by decide) ?_
            refine a_iincN dX11_mostUnits_65 rfl (by decide) ?_
            refine a_goto (tgt := 4) dX11_mostUnits_68 (by decide) ?_
            simp_all only [if_true, if_false, not_true_eq_false, not_false_eq_true, true_iff, false_iff, iff_true, iff_false, ne_eq]
            exact a_loc _ rfl qih
theorem m_mostUnits (hw : Wf μ) (hv : MdV μ q d) {c : Int32} {rs : Nat → Nat} (hrs : ∀ m, m < pM q → gI μ 359 m = nI (rs m)) (hrb : ∀ m, m < pM q → rs m < 2 ^ 30) : Ct Y_X11_mostUnits R_X11_mostUnits [.ref 338, .int c] μ (.inl (some (.int (oI (mlD q rs c (pM q)))))) μ := by
  refine Ct.ent yk_X11_mostUnits (Nat.le_of_ble_eq_true rfl) ?_
  refine a_iconst (-1 : Int32) dX11_mostUnits_0 (by decide) ?_
  refine a_istore_n dX11_mostUnits_1 (by decide) ?_
  refine a_iconst (0 : Int32) dX11_mostUnits_2 (by decide) ?_
  refine a_istore_n dX11_mostUnits_3 (by decide) ?_
  refine a_loc [(0, .ref 338), (1, .int c), (2, .int (oI (none))), (3, .int (nI 0))] rfl ?_
  refine lm_mostUnits hw hv hrs hrb ?_ ((pM q)) 0 (by omega)
  refine a_iload_n dX11_mostUnits_71 rfl ?_
  exact a_out rfl rfl (a_ireturn dX11_mostUnits_72 rfl rfl)
abbrev R_X11_servesPlain : Room := { frames := 2, cells := 0, slots := 0, locals := 46 }
abbrev RX_X11_servesPlain : Room := { frames := 2, cells := 1, slots := 6, locals := 46 }

def SpQ (μ : Wd) (i : Nat) (x : Option Nat) (rs : Nat → Nat) (M : Nat) (V : Wd) : Prop := Out sSp μ V ∧ gI V 356 i = oI x ∧ (∀ j, j ≠ i → gI V 356 j = gI μ 356 j) ∧ ∀ m, m < M → gI V 359 m = nI (deR rs x m)
theorem sp_T (hw : Wf W) {i M : Nat} (hi : i < 40) (hM : M ≤ 12) {x : Option Nat} (hx : ∀ b, x = some b → b < M ∧ 0 < rs b) (hr9 : ∀ m, m < M → gI W 359 m = nI (rs m)) : WP Y_X11_servesPlain R_X11_servesPlain (0, 0) W 36 [(0, .ref 338), (1, .int (nI i)), (3, .int (oI x))] [] (fun o V => ∃ v, o = .inl v ∧ v = none ∧ SpQ W i x rs M V) := by
  cases x with
  | none =>
    refine lf (a_aload_n dX11_servesPlain_36 rfl) ?_
    refine lf (a_getR (cr_338_31 (by repeat (first | with_reducible exact hw | with_reducible exact hwc | with_reducible assumption | with_reducible apply Wf.sI | with_reducible apply Wf.sL | with_reducible apply Wf.cpI | with_reducible apply Wf.cpL | with_reducible apply Wf.cp2 | with_reducible apply Wf.sIs | with_reducible apply Wf.sLs | with_reducible apply Wf.cpU | with_reducible apply Wf.fillI | with_reducible apply Wf.clU | with_reducible apply Wf.dnF | with_reducible apply Wf.gbW))) dX11_servesPlain_37 fs_X11_67 rfl (co_338 (by repeat (first | with_reducible exact hw | with_reducible exact hwc | with_reducible assumption | with_reducible apply Wf.sI | with_reducible apply Wf.sL | with_reducible apply Wf.cpI | with_reducible apply Wf.cpL | with_reducible apply Wf.cp2 | with_reducible apply Wf.sIs | with_reducible apply Wf.sLs | with_reducible apply Wf.cpU | with_reducible apply Wf.fillI | with_reducible apply Wf.clU | with_reducible apply Wf.dnF | with_reducible apply Wf.gbW)))) ?_
    refine lf (a_iload_n dX11_servesPlain_40 rfl) ?_
    refine lf (a_iload_n dX11_servesPlain_41 rfl) ?_
    refine lf (a_ist dX11_servesPlain_42 (ca_356 (by repeat (first | with_reducible exact hw | with_reducible exact hwc | with_reducible assumption | with_reducible apply Wf.sI | with_reducible apply Wf.sL | with_reducible apply Wf.cpI | with_reducible apply Wf.cpL | with_reducible apply Wf.cp2 | with_reducible apply Wf.sIs | with_reducible apply Wf.sLs | with_reducible apply Wf.cpU | with_reducible apply Wf.fillI | with_reducible apply Wf.clU | with_reducible apply Wf.dnF | with_reducible apply Wf.gbW))) (ixn hi (by decide))) ?_
    refine lf (a_iload_n dX11_servesPlain_43 rfl) ?_
    refine lf (a_iconst (-1 : Int32) dX11_servesPlain_44 (by decide)) ?_
    refine lf2 (a_icmp_eq (tgt := 62) dX11_servesPlain_45 (by decide)) (fun h45 => ?_) (fun h45 => absurd h45 (fun z => z rfl))
    refine ⟨_, _, (a_return dX11_servesPlain_62 rfl), ?_⟩
    exact ⟨_, rfl, rfl, (Out.rfl' hw).sI (S := sSp) (Or.inl rfl) _ _, by rw [gI_sI, if_pos ⟨rfl, rfl⟩], fun j hj => by rw [gI_sI, if_neg (fun z => hj z.2)], fun m hm => by rw [gI_sI, if_neg (by omega)]; exact hr9 m hm⟩
  | some b =>
    obtain ⟨hb, hp⟩ := hx b rfl
    obtain ⟨c, hc⟩ : ∃ c, rs b = c + 1 := ⟨rs b - 1, by omega⟩
    have t9 := hr9 b hb
    rw [hc] at t9
    refine lf (a_aload_n dX11_servesPlain_36 rfl) ?_
    refine lf (a_getR (cr_338_31 (by repeat (first | with_reducible exact hw | with_reducible exact hwc | with_reducible assumption | with_reducible apply Wf.sI | with_reducible apply Wf.sL | with_reducible apply Wf.cpI | with_reducible apply Wf.cpL | with_reducible apply Wf.cp2 | with_reducible apply Wf.sIs | with_reducible apply Wf.sLs | with_reducible apply Wf.cpU | with_reducible apply Wf.fillI | with_reducible apply Wf.clU | with_reducible apply Wf.dnF | with_reducible apply Wf.gbW))) dX11_servesPlain_37 fs_X11_67 rfl (co_338 (by repeat (first | with_reducible exact hw | with_reducible exact hwc | with_reducible assumption | with_reducible apply Wf.sI | with_reducible apply Wf.sL | with_reducible apply Wf.cpI | with_reducible apply Wf.cpL | with_reducible apply Wf.cp2 | with_reducible apply Wf.sIs | with_reducible apply Wf.sLs | with_reducible apply Wf.cpU | with_reducible apply Wf.fillI | with_reducible apply Wf.clU | with_reducible apply Wf.dnF | with_reducible apply Wf.gbW)))) ?_
    refine lf (a_iload_n dX11_servesPlain_40 rfl) ?_
    refine lf (a_iload_n dX11_servesPlain_41 rfl) ?_
    refine lf (a_ist dX11_servesPlain_42 (ca_356 (by repeat (first | with_reducible exact hw | with_reducible exact hwc | with_reducible assumption | with_reducible apply Wf.sI | with_reducible apply Wf.sL | with_reducible apply Wf.cpI | with_reducible apply Wf.cpL | with_reducible apply Wf.cp2 | with_reducible apply Wf.sIs | with_reducible apply Wf.sLs | with_reducible apply Wf.cpU | with_reducible apply Wf.fillI | with_reducible apply Wf.clU | with_reducible apply Wf.dnF | with_reducible apply Wf.gbW))) (ixn hi (by decide))) ?_
    refine lf (a_iload_n dX11_servesPlain_43 rfl) ?_
    refine lf (a_iconst (-1 : Int32) dX11_servesPlain_44 (by decide)) ?_
    refine lf2 (a_icmp_eq (tgt := 62) dX11_servesPlain_45 (by decide)) (fun h45 => absurd h45 (nI_ne1 (n := b) (by omega))) (fun h45 => ?_)
    refine lf (a_aload_n dX11_servesPlain_48 rfl) ?_
    refine lf (a_getR (cr_338_34 (by repeat (first | with_reducible exact hw | with_reducible exact hwc | with_reducible assumption | with_reducible apply Wf.sI | with_reducible apply Wf.sL | with_reducible apply Wf.cpI | with_reducible apply Wf.cpL | with_reducible apply Wf.cp2 | with_reducible apply Wf.sIs | with_reducible apply Wf.sLs | with_reducible apply Wf.cpU | with_reducible apply Wf.fillI | with_reducible apply Wf.clU | with_reducible apply Wf.dnF | with_reducible apply Wf.gbW))) dX11_servesPlain_49 fs_X11_76 rfl (co_338 (by repeat (first | with_reducible exact hw | with_reducible exact hwc | with_reducible assumption | with_reducible apply Wf.sI | with_reducible apply Wf.sL | with_reducible apply Wf.cpI | with_reducible apply Wf.cpL | with_reducible apply Wf.cp2 | with_reducible apply Wf.sIs | with_reducible apply Wf.sLs | with_reducible apply Wf.cpU | with_reducible apply Wf.fillI | with_reducible apply Wf.clU | with_reducible apply Wf.dnF | with_reducible apply Wf.gbW)))) ?_
    refine lf (a_iload_n dX11_servesPlain_52 rfl) ?_
    refine lf (a_aload_n dX11_servesPlain_53 rfl) ?_
    refine lf (a_getR (cr_338_34 (by repeat (first | with_reducible exact hw | with_reducible exact hwc | with_reducible assumption | with_reducible apply Wf.sI | with_reducible apply Wf.sL | with_reducible apply Wf.cpI | with_reducible apply Wf.cpL | with_reducible apply Wf.cp2 | with_reducible apply Wf.sIs | with_reducible apply Wf.sLs | with_reducible apply Wf.cpU | with_reducible apply Wf.fillI | with_reducible apply Wf.clU | with_reducible apply Wf.dnF | with_reducible apply Wf.gbW))) dX11_servesPlain_54 fs_X11_76 rfl (co_338 (by repeat (first | with_reducible exact hw | with_reducible exact hwc | with_reducible assumption | with_reducible apply Wf.sI | with_reducible apply Wf.sL | with_reducible apply Wf.cpI | with_reducible apply Wf.cpL | with_reducible apply Wf.cp2 | with_reducible apply Wf.sIs | with_reducible apply Wf.sLs | with_reducible apply Wf.cpU | with_reducible apply Wf.fillI | with_reducible apply Wf.clU | with_reducible apply Wf.dnF | with_reducible apply Wf.gbW)))) ?_
    refine lf (a_iload_n dX11_servesPlain_57 rfl) ?_
    refine lf (a_ild dX11_servesPlain_58 (ca_359 (by repeat (first | with_reducible exact hw | with_reducible exact hwc | with_reducible assumption | with_reducible apply Wf.sI | with_reducible apply Wf.sL | with_reducible apply Wf.cpI | with_reducible apply Wf.cpL | with_reducible apply Wf.cp2 | with_reducible apply Wf.sIs | with_reducible apply Wf.sLs | with_reducible apply Wf.cpU | with_reducible apply Wf.fillI | with_reducible apply Wf.clU | with_reducible apply Wf.dnF | with_reducible apply Wf.gbW))) (ixn (show b < 12 by omega) (by decide))) ?_
    rw [gI_sI, if_neg (by omega), t9]
    refine lf (a_iconst (1 : Int32) dX11_servesPlain_59 (by decide)) ?_
    refine lf (a_isub dX11_servesPlain_60) ?_
    rw [nI_sub1]
    refine lf (a_ist dX11_servesPlain_61 (ca_359 (by repeat (first | with_reducible exact hw | with_reducible exact hwc | with_reducible assumption | with_reducible apply Wf.sI | with_reducible apply Wf.sL | with_reducible apply Wf.cpI | with_reducible apply Wf.cpL | with_reducible apply Wf.cp2 | with_reducible apply Wf.sIs | with_reducible apply Wf.sLs | with_reducible apply Wf.cpU | with_reducible apply Wf.fillI | with_reducible apply Wf.clU | with_reducible apply Wf.dnF | with_reducible apply Wf.gbW))) (ixn (show b < 12 by omega) (by decide))) ?_
    refine ⟨_, _, (a_return dX11_servesPlain_62 rfl), ?_⟩
    refine ⟨_, rfl, rfl, ((Out.rfl' hw).sI (S := sSp) (Or.inl rfl) _ _).sI (S := sSp) (Or.inr rfl) _ _, by rw [gI_sI, if_neg (by omega), gI_sI, if_pos ⟨rfl, rfl⟩] <;> rfl, fun j hj => by rw [gI_sI, if_neg (by omega), gI_sI, if_neg (fun z => hj z.2)], fun m hm => ?_⟩
    show _ = nI (up1 rs b (rs b - 1) m)
    rw [gI_sI]
    by_cases e : m = b
    · rw [if_pos ⟨rfl, e⟩, e, up1_eq, hc, Nat.add_sub_cancel]
    · rw [if_neg (fun z => e z.2), up1_ne e, gI_sI, if_neg (by omega)]; exact hr9 m hm
theorem m_servesPlain (hw : Wf μ) (hv : MdV μ q d) {i : Nat} (hi : i < dP d) (hwi : WiD q d) (hrs : ∀ m, m < pM q → gI μ 359 m = nI (rs m)) (hrb : ∀ m, m < pM q → rs m < 2 ^ 30) : CV Y_X11_servesPlain R_X11_servesPlain [.ref 338, .int (nI i)] μ (fun v V => v = none ∧ SpQ μ i (plX q d rs i) rs (pM q) V) := by
  have hM4 := hv.M4
  have hP4 := hv.P4
  have hx := plX_ok hM4 hwi hi (rs := rs)
  refine CV.ent yk_X11_servesPlain (Nat.le_of_ble_eq_true rfl) ?_
  rcases hwi i hi with e | ⟨x, hxm, e⟩
  · have px : plX q d rs i = mlD q rs (dF d 0 i) (pM q) := by unfold plX; rw [if_pos e]
    rw [px] at hx ⊢
    refine lf (a_aload_n dX11_servesPlain_0 rfl) ?_
    refine lf (a_iload_n dX11_servesPlain_1 rfl) ?_
    refine lf (a_iconst (2 : Int32) dX11_servesPlain_2 (by decide)) ?_
    refine lf (a_inv (b2 := (0, 0)) (Ct.int e (m_of2 hw hv hi)) rfl dX11_servesPlain_3 yk_X11_of im_X11_of se_X11_of ml_X11_294 rfl (co_338 hw) (by decide) hc_X11 (by decide) (by decide) (Nat.le_of_ble_eq_true rfl)) ?_
    refine lf (a_istore_n dX11_servesPlain_6 (by decide)) ?_
    refine lf (a_iload_n dX11_servesPlain_7 rfl) ?_
    refine lf (a_iconst (-1 : Int32) dX11_servesPlain_8 (by decide)) ?_
    refine lf2 (a_icmp_eq (tgt := 25) dX11_servesPlain_9 (by decide)) (fun h9 => ?_) (fun h9 => absurd h9 (fun z => z rfl))
    refine lf (a_aload_n dX11_servesPlain_25 rfl) ?_
    refine lf (a_aload_n dX11_servesPlain_26 rfl) ?_
    refine lf (a_iload_n dX11_servesPlain_27 rfl) ?_
    refine lf (a_iconst (0 : Int32) dX11_servesPlain_28 (by decide)) ?_
    refine lf (a_inv (b2 := (0, 0)) (m_of0 hw hv hi) rfl dX11_servesPlain_29 yk_X11_of im_X11_of se_X11_of ml_X11_294 rfl (co_338 hw) (by decide) hc_X11 (by decide) (by decide) (Nat.le_of_ble_eq_true rfl)) ?_
    refine lf (a_inv (b2 := (0, 0)) (m_mostUnits hw hv hrs hrb) rfl dX11_servesPlain_32 yk_X11_mostUnits im_X11_mostUnits se_X11_mostUnits ml_X11_452 rfl (co_338 hw) (by decide) hc_X11 (by decide) (by decide) (Nat.le_of_ble_eq_true rfl)) ?_
    refine lf (a_istore_n dX11_servesPlain_35 (by decide)) ?_
    exact lf (a_loc [(0, .ref 338), (1, .int (nI i)), (3, .int (oI (mlD q rs (dF d 0 i) (pM q))))] rfl) (sp_T hw (by omega) hM4 hx hrs)
  · have t9 := hrs x hxm
    have hb := hrb x hxm
    have px : plX q d rs i = if rs x ≤ 0 then mlD q rs (dF d 0 i) (pM q) else some x := by
      unfold plX
      rw [if_neg (by rw [e]; exact nI_ne1 (n := x) (by omega)), e, nN_nI (by omega)]
    by_cases hz : rs x ≤ 0
    · rw [if_pos hz] at px
      rw [px] at hx ⊢
      refine lf (a_aload_n dX11_servesPlain_0 rfl) ?_
      refine lf (a_iload_n dX11_servesPlain_1 rfl) ?_
      refine lf (a_iconst (2 : Int32) dX11_servesPlain_2 (by decide)) ?_
      refine lf (a_inv (b2 := (0, 0)) (Ct.int e (m_of2 hw hv hi)) rfl dX11_servesPlain_3 yk_X11_of im_X11_of se_X11_of ml_X11_294 rfl (co_338 hw) (by decide) hc_X11 (by decide) (by decide) (Nat.le_of_ble_eq_true rfl)) ?_
      refine lf (a_istore_n dX11_servesPlain_6 (by decide)) ?_
      refine lf (a_iload_n dX11_servesPlain_7 rfl) ?_
      refine lf (a_iconst (-1 : Int32) dX11_servesPlain_8 (by decide)) ?_
      refine lf2 (a_icmp_eq (tgt := 25) dX11_servesPlain_9 (by decide)) (fun h9 => absurd h9 (nI_ne1 (n := x) (by omega))) (fun h9 => ?_)
      refine lf (a_aload_n dX11_servesPlain_12 rfl) ?_
      refine lf (a_getR (cr_338_34 hw) dX11_servesPlain_13 fs_X11_76 rfl (co_338 hw)) ?_
      refine lf (a_iload_n dX11_servesPlain_16 rfl) ?_
      refine lf (a_ild dX11_servesPlain_17 (ca_359 hw) (ixn (show x < 12 by omega) (by decide))) ?_
      rw [t9]
      refine lf2 (a_if_le (tgt := 25) dX11_servesPlain_18 (by decide)) (fun h18 => ?_) (fun h18 => absurd h18 (fun z => z ((nI_leI (b := 0) (by omega) (by decide)).mpr hz)))
      refine lf (a_aload_n dX11_servesPlain_25 rfl) ?_
      refine lf (a_aload_n dX11_servesPlain_26 rfl) ?_
      refine lf (a_iload_n dX11_servesPlain_27 rfl) ?_
      refine lf (a_iconst (0 : Int32) dX11_servesPlain_28 (by decide)) ?_
      refine lf (a_inv (b2 := (0, 0)) (m_of0 hw hv hi) rfl dX11_servesPlain_29 yk_X11_of im_X11_of se_X11_of ml_X11_294 rfl (co_338 hw) (by decide) hc_X11 (by decide) (by decide) (Nat.le_of_ble_eq_true rfl)) ?_
      refine lf (a_inv (b2 := (0, 0)) (m_mostUnits hw hv hrs hrb) rfl dX11_servesPlain_32 yk_X11_mostUnits im_X11_mostUnits se_X11_mostUnits ml_X11_452 rfl (co_338 hw) (by decide) hc_X11 (by decide) (by decide) (Nat.le_of_ble_eq_true rfl)) ?_
      refine lf (a_istore_n dX11_servesPlain_35 (by decide)) ?_
      exact lf (a_loc [(0, .ref 338), (1, .int (nI i)), (3, .int (oI (mlD q rs (dF d 0 i) (pM q))))] rfl) (sp_T hw (by omega) hM4 hx hrs)
    · rw [if_neg hz] at px
      rw [px] at hx ⊢
      refine lf (a_aload_n dX11_servesPlain_0 rfl) ?_
      refine lf (a_iload_n dX11_servesPlain_1 rfl) ?_
      refine lf (a_iconst (2 : Int32) dX11_servesPlain_2 (by decide)) ?_
      refine lf (a_inv (b2 := (0, 0)) (Ct.int e (m_of2 hw hv hi)) rfl dX11_servesPlain_3 yk_X11_of im_X11_of se_X11_of ml_X11_294 rfl (co_338 hw) (by decide) hc_X11 (by decide) (by decide) (Nat.le_of_ble_eq_true rfl)) ?_
      refine lf (a_istore_n dX11_servesPlain_6 (by decide)) ?_
      refine lf (a_iload_n dX11_servesPlain_7 rfl) ?_
      refine lf (a_iconst (-1 : Int32) dX11_servesPlain_8 (by decide)) ?_
      refine lf2 (a_icmp_eq (tgt := 25) dX11_servesPlain_9 (by decide)) (fun h9 => absurd h9 (nI_ne1 (n := x) (by omega))) (fun h9 => ?_)
      refine lf (a_aload_n dX11_servesPlain_12 rfl) ?_
      refine lf (a_getR (cr_338_34 hw) dX11_servesPlain_13 fs_X11_76 rfl (co_338 hw)) ?_
      refine lf (a_iload_n dX11_servesPlain_16 rfl) ?_
      refine lf (a_ild dX11_servesPlain_17 (ca_359 hw) (ixn (show x < 12 by omega) (by decide))) ?_
      rw [t9]
      refine lf2 (a_if_le (tgt := 25) dX11_servesPlain_18 (by decide)) (fun h18 => absurd h18 (fun z => hz ((nI_leI (b := 0) (by omega) (by decide)).mp z))) (fun h18 => ?_)
      refine lf (a_iload_n dX11_servesPlain_21 rfl) ?_
      refine lf (a_goto (tgt := 35) dX11_servesPlain_22 (by decide)) ?_
      refine lf (a_istore_n dX11_servesPlain_35 (by decide)) ?_
      exact lf (a_loc [(0, .ref 338), (1, .int (nI i)), (3, .int (oI (some x)))] rfl) (sp_T hw (by omega) hM4 hx hrs)
abbrev R_X11_laysService : Room := { frames := 8, cells := 0, slots := 0, locals := 184 }
abbrev RX_X11_laysService : Room := { frames := 8, cells := 1, slots := 6, locals := 184 }

theorem ls_1 (hv0 : MdV μ q d) (h57 : ∀ i, i < dP d → gI μ 357 i = fI (fx i)) (hgm : ∀ i m, i < dP d → joF fx i = some m → m < pM q) (hgc : ∀ m, m < pM q → cntG (joF fx) (dP d) m ≤ cap m) (hcb : ∀ m, m < pM q → cap m < 2 ^ 30) {Q : Oc → Wd → Prop} (kx : ∀ W : Wd, Out sSp μ W → (∀ i, i < dP d → gI W 356 i = oI (joF fx i)) → (∀ m, m < pM q → gI W 359 m = nI (cap m - cntG (joF fx) (dP d) m)) → WP Y_X11_laysService R_X11_laysService (0, 0) W 126 [(0, .ref 338), (1, .int (nI (dP d)))] [] Q) : ∀ (dd p : Nat) (W : Wd), p + dd = dP d → Out sSp μ W → (∀ i, i < p → gI W 356 i = oI (joF fx i)) → (∀ m, m < pM q → gI W 359 m = nI (cap m - cntG (joF fx) p m)) → WP Y_X11_laysService R_X11_laysService (0, 0) W 51 [(0, .ref 338), (1, .int (nI p))] [] Q := by
  have hM4 := hv0.M4
  have hP4 := hv0.P4
  intro dd
  induction dd with
  | zero =>
    intro p W hp hO h56 h59
    obtain rfl : dP d = p := by omega
    have hw := hO.1
    have hv := hv0.md (hO.mono (fun i y => sSp_d y))
    refine lf (a_iload_n dX11_laysService_51 rfl) ?_
    refine lf (a_aload_n dX11_laysService_52 rfl) ?_
    refine lf (a_getR (cr_338_6 hw) dX11_laysService_53 fs_X11_26 rfl (co_338 hw)) ?_
    refine lf (a_iconst (3 : Int32) dX11_laysService_56 (by decide)) ?_
    refine lf (a_ild dX11_laysService_57 (ca_344 hw) (ixn (m := 3) (by omega) (by decide))) ?_
    rw [hv.s3]
    refine lf2 (a_icmp_ge (tgt := 126) dX11_laysService_58 (by decide)) (fun h58 => ?_) (fun h58 => absurd h58 (fun z => z (nI_le (Nat.le_refl _) (by omega))))
    exact lf (a_loc _ rfl) (kx W hO h56 h59)
  | succ dd ih =>
    intro p W hp hO h56 h59
    have hpp : p < dP d := by omega
    have hw := hO.1
    have hv := hv0.md (hO.mono (fun i y => sSp_d y))
    have t7 : gI W 357 p = fI (fx p) := (hO.i (fun z => by rcases z with z | z <;> omega) p).trans (h57 p hpp)
    have hlo : ∀ m, joF fx p ≠ some m → cntG (joF fx) (p + 1) m = cntG (joF fx) p m := fun m hm => by rw [cnt_succ, if_neg hm]; rfl
    have hO1 : ∀ v, Out sSp μ (sI W 356 p v) := fun v => hO.sI (S := sSp) (Or.inl rfl) _ _
    have h561 : ∀ (v : Int32), v = oI (joF fx p) → ∀ (X : Wd), (∀ i, gI X 356 i = gI (sI W 356 p v) 356 i) → ∀ i, i < p + 1 → gI X 356 i = oI (joF fx i) := fun v hv2 X hX i hi => by
      rw [hX, gI_sI]
      by_cases e : i = p
      · rw [if_pos ⟨rfl, e⟩, e, hv2]
      · rw [if_neg (fun z => e z.2)]; exact h56 i (by omega)
    cases hj : joF fx p with
    | none =>
      have hneg : fI (fx p) < 0 := by
        unfold joF at hj
        cases e : fx p with
        | none => decide
        | some x =>
          rw [e] at hj
          have : x = none := hj
          rw [this]; decide
      refine lf (a_iload_n dX11_laysService_51 rfl) ?_
      refine lf (a_aload_n dX11_laysService_52 rfl) ?_
      refine lf (a_getR (cr_338_6 (by repeat (first | with_reducible exact hw | with_reducible exact hwc | with_reducible assumption | with_reducible apply Wf.sI | with_reducible apply Wf.sL | with_reducible apply Wf.cpI | with_reducible apply Wf.cpL | with_reducible apply Wf.cp2 | with_reducible apply Wf.sIs | with_reducible apply Wf.sLs | with_reducible apply Wf.cpU | with_reducible apply Wf.fillI | with_reducible apply Wf.clU | with_reducible apply Wf.dnF | with_reducible apply Wf.gbW))) dX11_laysService_53 fs_X11_26 rfl (co_338 (by repeat (first | with_reducible exact hw | with_reducible exact hwc | with_reducible assumption | with_reducible apply Wf.sI | with_reducible apply Wf.sL | with_reducible apply Wf.cpI | with_reducible apply Wf.cpL | with_reducible apply Wf.cp2 | with_reducible apply Wf.sIs | with_reducible apply Wf.sLs | with_reducible apply Wf.cpU | with_reducible apply Wf.fillI | with_reducible apply Wf.clU | with_reducible apply Wf.dnF | with_reducible apply Wf.gbW)))) ?_
      refine lf (a_iconst (3 : Int32) dX11_laysService_56 (by decide)) ?_
      refine lf (a_ild dX11_laysService_57 (ca_344 (by repeat (first | with_reducible exact hw | with_reducible exact hwc | with_reducible assumption | with_reducible apply Wf.sI | with_reducible apply Wf.sL | with_reducible apply Wf.cpI | with_reducible apply Wf.cpL | with_reducible apply Wf.cp2 | with_reducible apply Wf.sIs | with_reducible apply Wf.sLs | with_reducible apply Wf.cpU | with_reducible apply Wf.fillI | with_reducible apply Wf.clU | with_reducible apply Wf.dnF | with_reducible apply Wf.gbW))) (ixn (m := 3) (by omega) (by decide))) ?_
      rw [hv.s3]
      refine lf2 (a_icmp_ge (tgt := 126) dX11_laysService_58 (by decide)) (fun h58 => absurd h58 (nI_ge hpp (by omega))) (fun h58 => ?_)
      refine lf (a_aload_n dX11_laysService_61 rfl) ?_
      refine lf (a_getR (cr_338_31 (by repeat (first | with_reducible exact hw | with_reducible exact hwc | with_reducible assumption | with_reducible apply Wf.sI | with_reducible apply Wf.sL | with_reducible apply Wf.cpI | with_reducible apply Wf.cpL | with_reducible apply Wf.cp2 | with_reducible apply Wf.sIs | with_reducible apply Wf.sLs | with_reducible apply Wf.cpU | with_reducible apply Wf.fillI | with_reducible apply Wf.clU | with_reducible apply Wf.dnF | with_reducible apply Wf.gbW))) dX11_laysService_62 fs_X11_67 rfl (co_338 (by repeat (first | with_reducible exact hw | with_reducible exact hwc | with_reducible assumption | with_reducible apply Wf.sI | with_reducible apply Wf.sL | with_reducible apply Wf.cpI | with_reducible apply Wf.cpL | with_reducible apply Wf.cp2 | with_reducible apply Wf.sIs | with_reducible apply Wf.sLs | with_reducible apply Wf.cpU | with_reducible apply Wf.fillI | with_reducible apply Wf.clU | with_reducible apply Wf.dnF | with_reducible apply Wf.gbW)))) ?_
      refine lf (a_iload_n dX11_laysService_65 rfl) ?_
      refine lf (a_aload_n dX11_laysService_66 rfl) ?_
      refine lf (a_getR (cr_338_32 (by repeat (first | with_reducible exact hw | with_reducible exact hwc | with_reducible assumption | with_reducible apply Wf.sI | with_reducible apply Wf.sL | with_reducible apply Wf.cpI | with_reducible apply Wf.cpL | with_reducible apply Wf.cp2 | with_reducible apply Wf.sIs | with_reducible apply Wf.sLs | with_reducible apply Wf.cpU | with_reducible apply Wf.fillI | with_reducible apply Wf.clU | with_reducible apply Wf.dnF | with_reducible apply Wf.gbW))) dX11_laysService_67 fs_X11_70 rfl (co_338 (by repeat (first | with_reducible exact hw | with_reducible exact hwc | with_reducible assumption | with_reducible apply Wf.sI | with_reducible apply Wf.sL | with_reducible apply Wf.cpI | with_reducible apply Wf.cpL | with_reducible apply Wf.cp2 | with_reducible apply Wf.sIs | with_reducible apply Wf.sLs | with_reducible apply Wf.cpU | with_reducible apply Wf.fillI | with_reducible apply Wf.clU | with_reducible apply Wf.dnF | with_reducible apply Wf.gbW)))) ?_
      refine lf (a_iload_n dX11_laysService_70 rfl) ?_
      refine lf (a_ild dX11_laysService_71 (ca_357 (by repeat (first | with_reducible exact hw | with_reducible exact hwc | with_reducible assumption | with_reducible apply Wf.sI | with_reducible apply Wf.sL | with_reducible apply Wf.cpI | with_reducible apply Wf.cpL | with_reducible apply Wf.cp2 | with_reducible apply Wf.sIs | with_reducible apply Wf.sLs | with_reducible apply Wf.cpU | with_reducible apply Wf.fillI | with_reducible apply Wf.clU | with_reducible apply Wf.dnF | with_reducible apply Wf.gbW))) (ixn (show p < 40 by omega) (by decide))) ?_
      rw [t7]
      refine lf2 (a_if_lt (tgt := 84) dX11_laysService_72 (by decide)) (fun h72 => ?_) (fun h72 => absurd h72 (fun z => z hneg))
      refine lf (a_iconst (-1 : Int32) dX11_laysService_84 (by decide)) ?_
      refine lf (a_ist dX11_laysService_85 (ca_356 (by repeat (first | with_reducible exact hw | with_reducible exact hwc | with_reducible assumption | with_reducible apply Wf.sI | with_reducible apply Wf.sL | with_reducible apply Wf.cpI | with_reducible apply Wf.cpL | with_reducible apply Wf.cp2 | with_reducible apply Wf.sIs | with_reducible apply Wf.sLs | with_reducible apply Wf.cpU | with_reducible apply Wf.fillI | with_reducible apply Wf.clU | with_reducible apply Wf.dnF | with_reducible apply Wf.gbW))) (ixn (show p < 40 by omega) (by decide))) ?_
      refine lf (a_aload_n dX11_laysService_86 rfl) ?_
      refine lf (a_getR (cr_338_31 (by repeat (first | with_reducible exact hw | with_reducible exact hwc | with_reducible assumption | with_reducible apply Wf.sI | with_reducible apply Wf.sL | with_reducible apply Wf.cpI | with_reducible apply Wf.cpL | with_reducible apply Wf.cp2 | with_reducible apply Wf.sIs | with_reducible apply Wf.sLs | with_reducible apply Wf.cpU | with_reducible apply Wf.fillI | with_reducible apply Wf.clU | with_reducible apply Wf.dnF | with_reducible apply Wf.gbW))) dX11_laysService_87 fs_X11_67 rfl (co_338 (by repeat (first | with_reducible exact hw | with_reducible exact hwc | with_reducible assumption | with_reducible apply Wf.sI | with_reducible apply Wf.sL | with_reducible apply Wf.cpI | with_reducible apply Wf.cpL | with_reducible apply Wf.cp2 | with_reducible apply Wf.sIs | with_reducible apply Wf.sLs | with_reducible apply Wf.cpU | with_reducible apply Wf.fillI | with_reducible apply Wf.clU | with_reducible apply Wf.dnF | with_reducible apply Wf.gbW)))) ?_
      refine lf (a_iload_n dX11_laysService_90 rfl) ?_
      refine lf (a_ild dX11_laysService_91 (ca_356 (by repeat (first | with_reducible exact hw | with_reducible exact hwc | with_reducible assumption | with_reducible apply Wf.sI | with_reducible apply Wf.sL | with_reducible apply Wf.cpI | with_reducible apply Wf.cpL | with_reducible apply Wf.cp2 | with_reducible apply Wf.sIs | with_reducible apply Wf.sLs | with_reducible apply Wf.cpU | with_reducible apply Wf.fillI | with_reducible apply Wf.clU | with_reducible apply Wf.dnF | with_reducible apply Wf.gbW))) (ixn (show p < 40 by omega) (by decide))) ?_
      rw [gI_sI, if_pos ⟨rfl, rfl⟩]
      refine lf (a_iconst (-1 : Int32) dX11_laysService_92 (by decide)) ?_
      refine lf2 (a_icmp_eq (tgt := 120) dX11_laysService_93 (by decide)) (fun h93 => ?_) (fun h93 => absurd h93 (fun z => z rfl))
      refine lf (a_iincN dX11_laysService_120 rfl (by decide)) ?_
      refine lf (a_goto (tgt := 51) dX11_laysService_123 (by decide)) ?_
      refine lf (a_loc _ rfl) (ih (p + 1) _ (by omega) (hO1 _) (h561 _ (by rw [hj]; rfl) _ (fun _ => rfl)) (fun m hm => ?_))
      rw [gI_sI, if_neg (by omega), hlo m (by rw [hj]; exact fun z => nomatch z)]
      exact h59 m hm
    | some x =>
      have hxm := hgm p x hpp hj
      have eF : fI (fx p) = nI x := by
        unfold joF at hj
        cases e : fx p with
        | none => rw [e] at hj; cases hj
        | some y2 =>
          rw [e] at hj
          have : y2 = some x := hj
          rw [this]; rfl
      rw [eF] at t7
      have hcs : cntG (joF fx) (p + 1) x = cntG (joF fx) p x + 1 := by rw [cnt_succ, if_pos hj]
      have hcm : cntG (joF fx) (p + 1) x ≤ cntG (joF fx) (dP d) x := cnt_mono _ (by omega) x
      have hcc := hgc x hxm
      have hcx := hcb x hxm
      obtain ⟨c, hc⟩ : ∃ c, cap x - cntG (joF fx) p x = c + 1 := ⟨cap x - cntG (joF fx) p x - 1, by omega⟩
      have t9 := h59 x hxm
      rw [hc] at t9
      refine lf (a_iload_n dX11_laysService_51 rfl) ?_
      refine lf (a_aload_n dX11_laysService_52 rfl) ?_
      refine lf (a_getR (cr_338_6 (by repeat (first | with_reducible exact hw | with_reducible exact hwc | with_reducible assumption | with_reducible apply Wf.sI | with_reducible apply Wf.sL | with_reducible apply Wf.cpI | with_reducible apply Wf.cpL | with_reducible apply Wf.cp2 | with_reducible apply Wf.sIs | with_reducible apply Wf.sLs | with_reducible apply Wf.cpU | with_reducible apply Wf.fillI | with_reducible apply Wf.clU | with_reducible apply Wf.dnF | with_reducible apply Wf.gbW))) dX11_laysService_53 fs_X11_26 rfl (co_338 (by repeat (first | with_reducible exact hw | with_reducible exact hwc | with_reducible assumption | with_reducible apply Wf.sI | with_reducible apply Wf.sL | with_reducible apply Wf.cpI | with_reducible apply Wf.cpL | with_reducible apply Wf.cp2 | with_reducible apply Wf.sIs | with_reducible apply Wf.sLs | with_reducible apply Wf.cpU | with_reducible apply Wf.fillI | with_reducible apply Wf.clU | with_reducible apply Wf.dnF | with_reducible apply Wf.gbW)))) ?_
      refine lf (a_iconst (3 : Int32) dX11_laysService_56 (by decide)) ?_
      refine lf (a_ild dX11_laysService_57 (ca_344 (by repeat (first | with_reducible exact hw | with_reducible exact hwc | with_reducible assumption | with_reducible apply Wf.sI | with_reducible apply Wf.sL | with_reducible apply Wf.cpI | with_reducible apply Wf.cpL | with_reducible apply Wf.cp2 | with_reducible apply Wf.sIs | with_reducible apply Wf.sLs | with_reducible apply Wf.cpU | with_reducible apply Wf.fillI | with_reducible apply Wf.clU | with_reducible apply Wf.dnF | with_reducible apply Wf.gbW))) (ixn (m := 3) (by omega) (by decide))) ?_
      rw [hv.s3]
      refine lf2 (a_icmp_ge (tgt := 126) dX11_laysService_58 (by decide)) (fun h58 => absurd h58 (nI_ge hpp (by omega))) (fun h58 => ?_)
      refine lf (a_aload_n dX11_laysService_61 rfl) ?_
      refine lf (a_getR (cr_338_31 (by repeat (first | with_reducible exact hw | with_reducible exact hwc | with_reducible assumption | with_reducible apply Wf.sI | with_reducible apply Wf.sL | with_reducible apply Wf.cpI | with_reducible apply Wf.cpL | with_reducible apply Wf.cp2 | with_reducible apply Wf.sIs | with_reducible apply Wf.sLs | with_reducible apply Wf.cpU | with_reducible apply Wf.fillI | with_reducible apply Wf.clU | with_reducible apply Wf.dnF | with_reducible apply Wf.gbW))) dX11_laysService_62 fs_X11_67 rfl (co_338 (by repeat (first | with_reducible exact hw | with_reducible exact hwc | with_reducible assumption | with_reducible apply Wf.sI | with_reducible apply Wf.sL | with_reducible apply Wf.cpI | with_reducible apply Wf.cpL | with_reducible apply Wf.cp2 | with_reducible apply Wf.sIs | with_reducible apply Wf.sLs | with_reducible apply Wf.cpU | with_reducible apply Wf.fillI | with_reducible apply Wf.clU | with_reducible apply Wf.dnF | with_reducible apply Wf.gbW)))) ?_
      refine lf (a_iload_n dX11_laysService_65 rfl) ?_
      refine lf (a_aload_n dX11_laysService_66 rfl) ?_
      refine lf (a_getR (cr_338_32 (by repeat (first | with_reducible exact hw | with_reducible exact hwc | with_reducible assumption | with_reducible apply Wf.sI | with_reducible apply Wf.sL | with_reducible apply Wf.cpI | with_reducible apply Wf.cpL | with_reducible apply Wf.cp2 | with_reducible apply Wf.sIs | with_reducible apply Wf.sLs | with_reducible apply Wf.cpU | with_reducible apply Wf.fillI | with_reducible apply Wf.clU | with_reducible apply Wf.dnF | with_reducible apply Wf.gbW))) dX11_laysService_67 fs_X11_70 rfl (co_338 (by repeat (first | with_reducible exact hw | with_reducible exact hwc | with_reducible assumption | with_reducible apply Wf.sI | with_reducible apply Wf.sL | with_reducible apply Wf.cpI | with_reducible apply Wf.cpL | with_reducible apply Wf.cp2 | with_reducible apply Wf.sIs | with_reducible apply Wf.sLs | with_reducible apply Wf.cpU | with_reducible apply Wf.fillI | with_reducible apply Wf.clU | with_reducible apply Wf.dnF | with_reducible apply Wf.gbW)))) ?_
      refine lf (a_iload_n dX11_laysService_70 rfl) ?_
      refine lf (a_ild dX11_laysService_71 (ca_357 (by repeat (first | with_reducible exact hw | with_reducible exact hwc | with_reducible assumption | with_reducible apply Wf.sI | with_reducible apply Wf.sL | with_reducible apply Wf.cpI | with_reducible apply Wf.cpL | with_reducible apply Wf.cp2 | with_reducible apply Wf.sIs | with_reducible apply Wf.sLs | with_reducible apply Wf.cpU | with_reducible apply Wf.fillI | with_reducible apply Wf.clU | with_reducible apply Wf.dnF | with_reducible apply Wf.gbW))) (ixn (show p < 40 by omega) (by decide))) ?_
      rw [t7]
      refine lf2 (a_if_lt (tgt := 84) dX11_laysService_72 (by decide)) (fun h72 => absurd h72 (nI_pos (n := x) (by omega))) (fun h72 => ?_)
      refine lf (a_aload_n dX11_laysService_75 rfl) ?_
      refine lf (a_getR (cr_338_32 (by repeat (first | with_reducible exact hw | with_reducible exact hwc | with_reducible assumption | with_reducible apply Wf.sI | with_reducible apply Wf.sL | with_reducible apply Wf.cpI | with_reducible apply Wf.cpL | with_reducible apply Wf.cp2 | with_reducible apply Wf.sIs | with_reducible apply Wf.sLs | with_reducible apply Wf.cpU | with_reducible apply Wf.fillI | with_reducible apply Wf.clU | with_reducible apply Wf.dnF | with_reducible apply Wf.gbW))) dX11_laysService_76 fs_X11_70 rfl (co_338 (by repeat (first | with_reducible exact hw | with_reducible exact hwc | with_reducible assumption | with_reducible apply Wf.sI | with_reducible apply Wf.sL | with_reducible apply Wf.cpI | with_reducible apply Wf.cpL | with_reducible apply Wf.cp2 | with_reducible apply Wf.sIs | with_reducible apply Wf.sLs | with_reducible apply Wf.cpU | with_reducible apply Wf.fillI | with_reducible apply Wf.clU | with_reducible apply Wf.dnF | with_reducible apply Wf.gbW)))) ?_
      refine lf (a_iload_n dX11_laysService_79 rfl) ?_
      refine lf (a_ild dX11_laysService_80 (ca_357 (by repeat (first | with_reducible exact hw | with_reducible exact hwc | with_reducible assumption | with_reducible apply Wf.sI | with_reducible apply Wf.sL | with_reducible apply Wf.cpI | with_reducible apply Wf.cpL | with_reducible apply Wf.cp2 | with_reducible apply Wf.sIs | with_reducible apply Wf.sLs | with_reducible apply Wf.cpU | with_reducible apply Wf.fillI | with_reducible apply Wf.clU | with_reducible apply Wf.dnF | with_reducible apply Wf.gbW))) (ixn (show p < 40 by omega) (by decide))) ?_
      rw [t7]
      refine lf (a_goto (tgt := 85) dX11_laysService_81 (by decide)) ?_
      refine lf (a_ist dX11_laysService_85 (ca_356 (by repeat (first | with_reducible exact hw | with_reducible exact hwc | with_reducible assumption | with_reducible apply Wf.sI | with_reducible apply Wf.sL | with_reducible apply Wf.cpI | with_reducible apply Wf.cpL | with_reducible apply Wf.cp2 | with_reducible apply Wf.sIs | with_reducible apply Wf.sLs | with_reducible apply Wf.cpU | with_reducible apply Wf.fillI | with_reducible apply Wf.clU | with_reducible apply Wf.dnF | with_reducible apply Wf.gbW))) (ixn (show p < 40 by omega) (by decide))) ?_
      refine lf (a_aload_n dX11_laysService_86 rfl) ?_
      refine lf (a_getR (cr_338_31 (by repeat (first | with_reducible exact hw | with_reducible exact hwc | with_reducible assumption | with_reducible apply Wf.sI | with_reducible apply Wf.sL | with_reducible apply Wf.cpI | with_reducible apply Wf.cpL | with_reducible apply Wf.cp2 | with_reducible apply Wf.sIs | with_reducible apply Wf.sLs | with_reducible apply Wf.cpU | with_reducible apply Wf.fillI | with_reducible apply Wf.clU | with_reducible apply Wf.dnF | with_reducible apply Wf.gbW))) dX11_laysService_87 fs_X11_67 rfl (co_338 (by repeat (first | with_reducible exact hw | with_reducible exact hwc | with_reducible assumption | with_reducible apply Wf.sI | with_reducible apply Wf.sL | with_reducible apply Wf.cpI | with_reducible apply Wf.cpL | with_reducible apply Wf.cp2 | with_reducible apply Wf.sIs | with_reducible apply Wf.sLs | with_reducible apply Wf.cpU | with_reducible apply Wf.fillI | with_reducible apply Wf.clU | with_reducible apply Wf.dnF | with_reducible apply Wf.gbW)))) ?_
      refine lf (a_iload_n dX11_laysService_90 rfl) ?_
      refine lf (a_ild dX11_laysService_91 (ca_356 (by repeat (first | with_reducible exact hw | with_reducible exact hwc | with_reducible assumption | with_reducible apply Wf.sI | with_reducible apply Wf.sL | with_reducible apply Wf.cpI | with_reducible apply Wf.cpL | with_reducible apply Wf.cp2 | with_reducible apply Wf.sIs | with_reducible apply Wf.sLs | with_reducible apply Wf.cpU | with_reducible apply Wf.fillI | with_reducible apply Wf.clU | with_reducible apply Wf.dnF | with_reducible apply Wf.gbW))) (ixn (show p < 40 by omega) (by decide))) ?_
      rw [gI_sI, if_pos ⟨rfl, rfl⟩]
      refine lf (a_iconst (-1 : Int32) dX11_laysService_92 (by decide)) ?_
      refine lf2 (a_icmp_eq (tgt := 120) dX11_laysService_93 (by decide)) (fun h93 => absurd h93 (nI_ne1 (n := x) (by omega))) (fun h93 => ?_)
      refine lf (a_aload_n dX11_laysService_96 rfl) ?_
      refine lf (a_getR (cr_338_34 (by repeat (first | with_reducible exact hw | with_reducible exact hwc | with_reducible assumption | with_reducible apply Wf.sI | with_reducible apply Wf.sL | with_reducible apply Wf.cpI | with_reducible apply Wf.cpL | with_reducible apply Wf.cp2 | with_reducible apply Wf.sIs | with_reducible apply Wf.sLs | with_reducible apply Wf.cpU | with_reducible apply Wf.fillI | with_reducible apply Wf.clU | with_reducible apply Wf.dnF | with_reducible apply Wf.gbW))) dX11_laysService_97 fs_X11_76 rfl (co_338 (by repeat (first | with_reducible exact hw | with_reducible exact hwc | with_reducible assumption | with_reducible apply Wf.sI | with_reducible apply Wf.sL | with_reducible apply Wf.cpI | with_reducible apply Wf.cpL | with_reducible apply Wf.cp2 | with_reducible apply Wf.sIs | with_reducible apply Wf.sLs | with_reducible apply Wf.cpU | with_reducible apply Wf.fillI | with_reducible apply Wf.clU | with_reducible apply Wf.dnF | with_reducible apply Wf.gbW)))) ?_
      refine lf (a_aload_n dX11_laysService_100 rfl) ?_
      refine lf (a_getR (cr_338_31 (by repeat (first | with_reducible exact hw | with_reducible exact hwc | with_reducible assumption | with_reducible apply Wf.sI | with_reducible apply Wf.sL | with_reducible apply Wf.cpI | with_reducible apply Wf.cpL | with_reducible apply Wf.cp2 | with_reducible apply Wf.sIs | with_reducible apply Wf.sLs | with_reducible apply Wf.cpU | with_reducible apply Wf.fillI | with_reducible apply Wf.clU | with_reducible apply Wf.dnF | with_reducible apply Wf.gbW))) dX11_laysService_101 fs_X11_67 rfl (co_338 (by repeat (first | with_reducible exact hw | with_reducible exact hwc | with_reducible assumption | with_reducible apply Wf.sI | with_reducible apply Wf.sL | with_reducible apply Wf.cpI | with_reducible apply Wf.cpL | with_reducible apply Wf.cp2 | with_reducible apply Wf.sIs | with_reducible apply Wf.sLs | with_reducible apply Wf.cpU | with_reducible apply Wf.fillI | with_reducible apply Wf.clU | with_reducible apply Wf.dnF | with_reducible apply Wf.gbW)))) ?_
      refine lf (a_iload_n dX11_laysService_104 rfl) ?_
      refine lf (a_ild dX11_laysService_105 (ca_356 (by repeat (first | with_reducible exact hw | with_reducible exact hwc | with_reducible assumption | with_reducible apply Wf.sI | with_reducible apply Wf.sL | with_reducible apply Wf.cpI | with_reducible apply Wf.cpL | with_reducible apply Wf.cp2 | with_reducible apply Wf.sIs | with_reducible apply Wf.sLs | with_reducible apply Wf.cpU | with_reducible apply Wf.fillI | with_reducible apply Wf.clU | with_reducible apply Wf.dnF | with_reducible apply Wf.gbW))) (ixn (show p < 40 by omega) (by decide))) ?_
      rw [gI_sI, if_pos ⟨rfl, rfl⟩]
      refine lf (a_aload_n dX11_laysService_106 rfl) ?_
      refine lf (a_getR (cr_338_34 (by repeat (first | with_reducible exact hw | with_reducible exact hwc | with_reducible assumption | with_reducible apply Wf.sI | with_reducible apply Wf.sL | with_reducible apply Wf.cpI | with_reducible apply Wf.cpL | with_reducible apply Wf.cp2 | with_reducible apply Wf.sIs | with_reducible apply Wf.sLs | with_reducible apply Wf.cpU | with_reducible apply Wf.fillI | with_reducible apply Wf.clU | with_reducible apply Wf.dnF | with_reducible apply Wf.gbW))) dX11_laysService_107 fs_X11_76 rfl (co_338 (by repeat (first | with_reducible exact hw | with_reducible exact hwc | with_reducible assumption | with_reducible apply Wf.sI | with_reducible apply Wf.sL | with_reducible apply Wf.cpI | with_reducible apply Wf.cpL | with_reducible apply Wf.cp2 | with_reducible apply Wf.sIs | with_reducible apply Wf.sLs | with_reducible apply Wf.cpU | with_reducible apply Wf.fillI | with_reducible apply Wf.clU | with_reducible apply Wf.dnF | with_reducible apply Wf.gbW)))) ?_
      refine lf (a_aload_n dX11_laysService_110 rfl) ?_
      refine lf (a_getR (cr_338_31 (by repeat (first | with_reducible exact hw | with_reducible exact hwc | with_reducible assumption | with_reducible apply Wf.sI | with_reducible apply Wf.sL | with_reducible apply Wf.cpI | with_reducible apply Wf.cpL | with_reducible apply Wf.cp2 | with_reducible apply Wf.sIs | with_reducible apply Wf.sLs | with_reducible apply Wf.cpU | with_reducible apply Wf.fillI | with_reducible apply Wf.clU | with_reducible apply Wf.dnF | with_reducible apply Wf.gbW))) dX11_laysService_111 fs_X11_67 rfl (co_338 (by repeat (first | with_reducible exact hw | with_reducible exact hwc | with_reducible assumption | with_reducible apply Wf.sI | with_reducible apply Wf.sL | with_reducible apply Wf.cpI | with_reducible apply Wf.cpL | with_reducible apply Wf.cp2 | with_reducible apply Wf.sIs | with_reducible apply Wf.sLs | with_reducible apply Wf.cpU | with_reducible apply Wf.fillI | with_reducible apply Wf.clU | with_reducible apply Wf.dnF | with_reducible apply Wf.gbW)))) ?_
      refine lf (a_iload_n dX11_laysService_114 rfl) ?_
      refine lf (a_ild dX11_laysService_115 (ca_356 (by repeat (first | with_reducible exact hw | with_reducible exact hwc | with_reducible assumption | with_reducible apply Wf.sI | with_reducible apply Wf.sL | with_reducible apply Wf.cpI | with_reducible apply Wf.cpL | with_reducible apply Wf.cp2 | with_reducible apply Wf.sIs | with_reducible apply Wf.sLs | with_reducible apply Wf.cpU | with_reducible apply Wf.fillI | with_reducible apply Wf.clU | with_reducible apply Wf.dnF | with_reducible apply Wf.gbW))) (ixn (show p < 40 by omega) (by decide))) ?_
      rw [gI_sI, if_pos ⟨rfl, rfl⟩]
      refine lf (a_ild dX11_laysService_116 (ca_359 (by repeat (first | with_reducible exact hw | with_reducible exact hwc | with_reducible assumption | with_reducible apply Wf.sI | with_reducible apply Wf.sL | with_reducible apply Wf.cpI | with_reducible apply Wf.cpL | with_reducible apply Wf.cp2 | with_reducible apply Wf.sIs | with_reducible apply Wf.sLs | with_reducible apply Wf.cpU | with_reducible apply Wf.fillI | with_reducible apply Wf.clU | with_reducible apply Wf.dnF | with_reducible apply Wf.gbW))) (ixn (show x < 12 by omega) (by decide))) ?_
      rw [gI_sI, if_neg (by omega), t9]
      refine lf (a_iconst (1 : Int32) dX11_laysService_117 (by decide)) ?_
      refine lf (a_isub dX11_laysService_118) ?_
      rw [nI_sub1]
      refine lf (a_ist dX11_laysService_119 (ca_359 (by repeat (first | with_reducible exact hw | with_reducible exact hwc | with_reducible assumption | with_reducible apply Wf.sI | with_reducible apply Wf.sL | with_reducible apply Wf.cpI | with_reducible apply Wf.cpL | with_reducible apply Wf.cp2 | with_reducible apply Wf.sIs | with_reducible apply Wf.sLs | with_reducible apply Wf.cpU | with_reducible apply Wf.fillI | with_reducible apply Wf.clU | with_reducible apply Wf.dnF | with_reducible apply Wf.gbW))) (ixn (show x < 12 by omega) (by decide))) ?_
      refine lf (a_iincN dX11_laysService_120 rfl (by decide)) ?_
      refine lf (a_goto (tgt := 51) dX11_laysService_123 (by decide)) ?_
      refine lf (a_loc _ rfl) (ih (p + 1) _ (by omega) ((hO1 _).sI (S := sSp) (Or.inr rfl) _ _) (h561 (nI x) (by rw [hj] <;> rfl) _ (fun i => by rw [gI_sI, if_neg (by omega)])) (fun m hm => ?_))
      rw [gI_sI]
      by_cases e : m = x
      · rw [if_pos ⟨rfl, e⟩, e, hcs]
        exact congrArg nI (by omega)
      · rw [if_neg (fun z => e z.2), gI_sI, if_neg (by omega), hlo m (by rw [hj]; exact fun z => e (Option.some.inj z).symm)]
        exact h59 m hm
theorem ls_2 (hv0 : MdV μ q d) (hwi : WiD q d) {rs0 : Nat → Nat} (hsp : SvP q d cap 0 (g, rs0)) (hcb : ∀ m, m < pM q → cap m < 2 ^ 30) : ∀ (dd p : Nat) (W : Wd), p + dd = dP d → Out sSp μ W → (∀ i, i < dP d → gI W 356 i = oI ((svD q d g rs0 p).1 i)) → (∀ m, m < pM q → gI W 359 m = nI ((svD q d g rs0 p).2 m)) → WP Y_X11_laysService R_X11_laysService (0, 0) W 128 [(0, .ref 338), (1, .int (nI p))] [] (fun o V => ∃ v, o = .inl v ∧ v = none ∧ Out sSp μ V ∧ ∀ i, i < dP d → gI V 356 i = oI ((svD q d g rs0 (dP d)).1 i)) := by
  have hM4 := hv0.M4
  have hP4 := hv0.P4
  intro dd
  induction dd with
  | zero =>
    intro p W hp hO h56 h59
    obtain rfl : dP d = p := by omega
    have hw := hO.1
    have hv := hv0.md (hO.mono (fun i y => sSp_d y))
    refine lf (a_iload_n dX11_laysService_128 rfl) ?_
    refine lf (a_aload_n dX11_laysService_129 rfl) ?_
    refine lf (a_getR (cr_338_6 hw) dX11_laysService_130 fs_X11_26 rfl (co_338 hw)) ?_
    refine lf (a_iconst (3 : Int32) dX11_laysService_133 (by decide)) ?_
    refine lf (a_ild dX11_laysService_134 (ca_344 hw) (ixn (m := 3) (by omega) (by decide))) ?_
    rw [hv.s3]
    refine lf2 (a_icmp_ge (tgt := 157) dX11_laysService_135 (by decide)) (fun h135 => ?_) (fun h135 => absurd h135 (fun z => z (nI_le (Nat.le_refl _) (by omega))))
    refine ⟨_, _, (a_return dX11_laysService_157 rfl), ?_⟩
    exact ⟨_, rfl, rfl, hO, h56⟩
  | succ dd ih =>
    intro p W hp hO h56 h59
    have hpp : p < dP d := by omega
    have hw := hO.1
    have hv := hv0.md (hO.mono (fun i y => sSp_d y))
    have hP := svD_P hM4 hwi hsp p (by omega)
    have hrb : ∀ m, m < pM q → (svD q d g rs0 p).2 m < 2 ^ 30 := fun m hm => by
      have z1 := hP.1 m hm
      have z2 := hcb m hm
      omega
    by_cases h0 : dF d 1 p = 0
    · obtain ⟨v, U, hc, rfl, hO2, g1, g2, g3⟩ := m_servesPlain hw hv hpp hwi h59 hrb
      have hwc := hO2.1
      have e := plS_0 (q := q) (s := svD q d g rs0 p) h0
      refine lf (a_iload_n dX11_laysService_128 rfl) ?_
      refine lf (a_aload_n dX11_laysService_129 rfl) ?_
      refine lf (a_getR (cr_338_6 hw) dX11_laysService_130 fs_X11_26 rfl (co_338 hw)) ?_
      refine lf (a_iconst (3 : Int32) dX11_laysService_133 (by decide)) ?_
      refine lf (a_ild dX11_laysService_134 (ca_344 hw) (ixn (m := 3) (by omega) (by decide))) ?_
      rw [hv.s3]
      refine lf2 (a_icmp_ge (tgt := 157) dX11_laysService_135 (by decide)) (fun h135 => absurd h135 (nI_ge hpp (by omega))) (fun h135 => ?_)
      refine lf (a_aload_n dX11_laysService_138 rfl) ?_
      refine lf (a_iload_n dX11_laysService_139 rfl) ?_
      refine lf (a_inv (b2 := (0, 0)) (Ct.int (if_pos h0) (m_isSpecial hw hv hpp)) rfl dX11_laysService_140 yk_X11_isSpecial im_X11_isSpecial se_X11_isSpecial ml_X11_306 rfl (co_338 hw) (by decide) hc_X11 (by decide) (by decide) (Nat.le_of_ble_eq_true rfl)) ?_
      refine lfn (a_if_ne (tgt := 151) dX11_laysService_143 (by decide)) (fun h143 => absurd h143 (fun z => z rfl)) (fun h143 => ?_)
      refine lf (a_aload_n dX11_laysService_146 rfl) ?_
      refine lf (a_iload_n dX11_laysService_147 rfl) ?_
      refine lf (a_inv (b2 := (0, 0)) hc rfl dX11_laysService_148 yk_X11_servesPlain im_X11_servesPlain se_X11_servesPlain ml_X11_462 rfl (co_338 hw) (by decide) hc_X11 (by decide) (by decide) (Nat.le_of_ble_eq_true rfl)) ?_
      refine lf (a_iincN dX11_laysService_151 rfl (by decide)) ?_
      refine lf (a_goto (tgt := 128) dX11_laysService_154 (by decide)) ?_
      refine lf (a_loc _ rfl) (ih (p + 1) U (by omega) (hO.trans hO2) (fun i hi => ?_) (fun m hm => ?_))
      · rw [svD_succ, e]
        show _ = oI (up1 _ _ _ i)
        by_cases e2 : i = p
        · rw [e2, up1_eq]; exact g1
        · rw [up1_ne e2, g2 i e2]; exact h56 i hi
      · rw [svD_succ, e]
        exact g3 m hm
    · refine lf (a_iload_n dX11_laysService_128 rfl) ?_
      refine lf (a_aload_n dX11_laysService_129 rfl) ?_
      refine lf (a_getR (cr_338_6 hw) dX11_laysService_130 fs_X11_26 rfl (co_338 hw)) ?_
      refine lf (a_iconst (3 : Int32) dX11_laysService_133 (by decide)) ?_
      refine lf (a_ild dX11_laysService_134 (ca_344 hw) (ixn (m := 3) (by omega) (by decide))) ?_
      rw [hv.s3]
      refine lf2 (a_icmp_ge (tgt := 157) dX11_laysService_135 (by decide)) (fun h135 => absurd h135 (nI_ge hpp (by omega))) (fun h135 => ?_)
      refine lf (a_aload_n dX11_laysService_138 rfl) ?_
      refine lf (a_iload_n dX11_laysService_139 rfl) ?_
      refine lf (a_inv (b2 := (0, 0)) (Ct.int (if_neg h0) (m_isSpecial hw hv hpp)) rfl dX11_laysService_140 yk_X11_isSpecial im_X11_isSpecial se_X11_isSpecial ml_X11_306 rfl (co_338 hw) (by decide) hc_X11 (by decide) (by decide) (Nat.le_of_ble_eq_true rfl)) ?_
      refine lfn (a_if_ne (tgt := 151) dX11_laysService_143 (by decide)) (fun h143 => ?_) (fun h143 => absurd h143 (by decide))
      refine lf (a_iincN dX11_laysService_151 rfl (by decide)) ?_
      refine lf (a_goto (tgt := 128) dX11_laysService_154 (by decide)) ?_
      exact lf (a_loc _ rfl) (ih (p + 1) W (by omega) hO (by rw [svD_succ, plS_1 h0]; exact h56) (by rw [svD_succ, plS_1 h0]; exact h59))
theorem ls_0 (hv0 : MdV μ q d) (hgo : ∀ i, i < dP d → gI μ 344 (5 + 4 * i + 3) = oI (G i)) : ∀ (dd p : Nat) (W : Wd), p + dd = dP d → Out sSp μ W → (∀ i, i < p → gI W 356 i = oI (G i)) → WP Y_X11_laysService R_X11_laysService (0, 0) W 12 [(0, .ref 338), (1, .int (nI p))] [] (fun o V => ∃ v, o = .inl v ∧ v = none ∧ Out sSp μ V ∧ ∀ i, i < dP d → gI V 356 i = oI (G i)) := by
  have hP4 := hv0.P4
  intro dd
  induction dd with
  | zero =>
    intro p W hp hO h56
    obtain rfl : dP d = p := by omega
    have hw := hO.1
    have hv := hv0.md (hO.mono (fun i y => sSp_d y))
    refine lf (a_iload_n dX11_laysService_12 rfl) ?_
    refine lf (a_aload_n dX11_laysService_13 rfl) ?_
    refine lf (a_getR (cr_338_6 hw) dX11_laysService_14 fs_X11_26 rfl (co_338 hw)) ?_
    refine lf (a_iconst (3 : Int32) dX11_laysService_17 (by decide)) ?_
    refine lf (a_ild dX11_laysService_18 (ca_344 hw) (ixn (m := 3) (by omega) (by decide))) ?_
    rw [hv.s3]
    refine lf2 (a_icmp_ge (tgt := 40) dX11_laysService_19 (by decide)) (fun h19 => ?_) (fun h19 => absurd h19 (fun z => z (nI_le (Nat.le_refl _) (by omega))))
    refine ⟨_, _, (a_return dX11_laysService_40 rfl), ?_⟩
    exact ⟨_, rfl, rfl, hO, h56⟩
  | succ dd ih =>
    intro p W hp hO h56
    have hpp : p < dP d := by omega
    have hw := hO.1
    have hv := hv0.md (hO.mono (fun i y => sSp_d y))
    have hg : gI W 344 (5 + 4 * p + 3) = oI (G p) := (hO.i (fun z => by rcases z with z | z <;> omega) _).trans (hgo p hpp)
    refine lf (a_iload_n dX11_laysService_12 rfl) ?_
    refine lf (a_aload_n dX11_laysService_13 rfl) ?_
    refine lf (a_getR (cr_338_6 (by repeat (first | with_reducible exact hw | with_reducible exact hwc | with_reducible assumption | with_reducible apply Wf.sI | with_reducible apply Wf.sL | with_reducible apply Wf.cpI | with_reducible apply Wf.cpL | with_reducible apply Wf.cp2 | with_reducible apply Wf.sIs | with_reducible apply Wf.sLs | with_reducible apply Wf.cpU | with_reducible apply Wf.fillI | with_reducible apply Wf.clU | with_reducible apply Wf.dnF | with_reducible apply Wf.gbW))) dX11_laysService_14 fs_X11_26 rfl (co_338 (by repeat (first | with_reducible exact hw | with_reducible exact hwc | with_reducible assumption | with_reducible apply Wf.sI | with_reducible apply Wf.sL | with_reducible apply Wf.cpI | with_reducible apply Wf.cpL | with_reducible apply Wf.cp2 | with_reducible apply Wf.sIs | with_reducible apply Wf.sLs | with_reducible apply Wf.cpU | with_reducible apply Wf.fillI | with_reducible apply Wf.clU | with_reducible apply Wf.dnF | with_reducible apply Wf.gbW)))) ?_
    refine lf (a_iconst (3 : Int32) dX11_laysService_17 (by decide)) ?_
    refine lf (a_ild dX11_laysService_18 (ca_344 (by repeat (first | with_reducible exact hw | with_reducible exact hwc | with_reducible assumption | with_reducible apply Wf.sI | with_reducible apply Wf.sL | with_reducible apply Wf.cpI | with_reducible apply Wf.cpL | with_reducible apply Wf.cp2 | with_reducible apply Wf.sIs | with_reducible apply Wf.sLs | with_reducible apply Wf.cpU | with_reducible apply Wf.fillI | with_reducible apply Wf.clU | with_reducible apply Wf.dnF | with_reducible apply Wf.gbW))) (ixn (m := 3) (by omega) (by decide))) ?_
    rw [hv.s3]
    refine lf2 (a_icmp_ge (tgt := 40) dX11_laysService_19 (by decide)) (fun h19 => absurd h19 (nI_ge hpp (by omega))) (fun h19 => ?_)
    refine lf (a_aload_n dX11_laysService_22 rfl) ?_
    refine lf (a_getR (cr_338_31 (by repeat (first | with_reducible exact hw | with_reducible exact hwc | with_reducible assumption | with_reducible apply Wf.sI | with_reducible apply Wf.sL | with_reducible apply Wf.cpI | with_reducible apply Wf.cpL | with_reducible apply Wf.cp2 | with_reducible apply Wf.sIs | with_reducible apply Wf.sLs | with_reducible apply Wf.cpU | with_reducible apply Wf.fillI | with_reducible apply Wf.clU | with_reducible apply Wf.dnF | with_reducible apply Wf.gbW))) dX11_laysService_23 fs_X11_67 rfl (co_338 (by repeat (first | with_reducible exact hw | with_reducible exact hwc | with_reducible assumption | with_reducible apply Wf.sI | with_reducible apply Wf.sL | with_reducible apply Wf.cpI | with_reducible apply Wf.cpL | with_reducible apply Wf.cp2 | with_reducible apply Wf.sIs | with_reducible apply Wf.sLs | with_reducible apply Wf.cpU | with_reducible apply Wf.fillI | with_reducible apply Wf.clU | with_reducible apply Wf.dnF | with_reducible apply Wf.gbW)))) ?_
    refine lf (a_iload_n dX11_laysService_26 rfl) ?_
    refine lf (a_aload_n dX11_laysService_27 rfl) ?_
    refine lf (a_iload_n dX11_laysService_28 rfl) ?_
    refine lf (a_iconst (3 : Int32) dX11_laysService_29 (by decide)) ?_
    refine lf (a_inv (b2 := (0, 0)) (Ct.int hg (m_of3 (by repeat (first | with_reducible exact hw | with_reducible exact hwc | with_reducible assumption | with_reducible apply Wf.sI | with_reducible apply Wf.sL | with_reducible apply Wf.cpI | with_reducible apply Wf.cpL | with_reducible apply Wf.cp2 | with_reducible apply Wf.sIs | with_reducible apply Wf.sLs | with_reducible apply Wf.cpU | with_reducible apply Wf.fillI | with_reducible apply Wf.clU | with_reducible apply Wf.dnF | with_reducible apply Wf.gbW)) hv (show p < 40 by omega))) rfl dX11_laysService_30 yk_X11_of im_X11_of se_X11_of ml_X11_294 rfl (co_338 (by repeat (first | with_reducible exact hw | with_reducible exact hwc | with_reducible assumption | with_reducible apply Wf.sI | with_reducible apply Wf.sL | with_reducible apply Wf.cpI | with_reducible apply Wf.cpL | with_reducible apply Wf.cp2 | with_reducible apply Wf.sIs | with_reducible apply Wf.sLs | with_reducible apply Wf.cpU | with_reducible apply Wf.fillI | with_reducible apply Wf.clU | with_reducible apply Wf.dnF | with_reducible apply Wf.gbW))) (by decide) hc_X11 (by decide) (by decide) (Nat.le_of_ble_eq_true rfl)) ?_
    refine lf (a_ist dX11_laysService_33 (ca_356 (by repeat (first | with_reducible exact hw | with_reducible exact hwc | with_reducible assumption | with_reducible apply Wf.sI | with_reducible apply Wf.sL | with_reducible apply Wf.cpI | with_reducible apply Wf.cpL | with_reducible apply Wf.cp2 | with_reducible apply Wf.sIs | with_reducible apply Wf.sLs | with_reducible apply Wf.cpU | with_reducible apply Wf.fillI | with_reducible apply Wf.clU | with_reducible apply Wf.dnF | with_reducible apply Wf.gbW))) (ixn (show p < 40 by omega) (by decide))) ?_
    refine lf (a_iincN dX11_laysService_34 rfl (by decide)) ?_
    refine lf (a_goto (tgt := 12) dX11_laysService_37 (by decide)) ?_
    refine lf (a_loc _ rfl) (ih (p + 1) _ (by omega) (hO.sI (S := sSp) (Or.inl rfl) _ _) (fun i hi => ?_))
    rw [gI_sI]
    by_cases e : i = p
    · rw [if_pos ⟨rfl, e⟩, e]
    · rw [if_neg (fun z => e z.2)]; exact h56 i (by omega)
/-- a service that has been is known -/
def SeD (q : PDt) (d : FDt) : Prop := dF d 6 0 = 0 ∨ ∃ (G : Nat → Option Nat) (rs : Nat → Nat) (n : Nat), SvS q d G rs n
def LvQ (μ : Wd) (q : PDt) (d : FDt) (V : Wd) : Prop := Out sMd μ V ∧ SvS q d (svR q d).1 (svR q d).2.1 (svR q d).2.2 ∧ ∀ i, i < dP d → gI V 356 i = oI ((svR q d).1 i)
theorem SvP.of {n : Nat} (h : LexG (fun p m => bt (suM q d p) m) cap (dP d) (pM q) g n) : SvP q d cap 0 (g, fun m => cap m - cntG g (dP d) m) :=
  ⟨fun m hm => by have := h.1.1.2 m hm; show cap m - cntG g (dP d) m + cntG g (dP d) m = cap m; omega, fun j _ hj h0 => lex_plain h hj h0, fun j m hj e => (h.1.1.1 j m hj e).1⟩
theorem m_laysService (hw : Wf μ) (hv : MdV μ q d) (hq0 : GdP q) (hd0 : GdD q d) (hx : MxV (gI μ 344) q d) (he : SeD q d) : CV Y_X11_laysService R_X11_laysService [.ref 338] μ (fun v V => v = none ∧ LvQ μ q d V) := by
  have hM4 := hv.M4
  have hP4 := hv.P4
  have hwi := WiD.of hd0
  have hcap : ∀ m, m < pM q → ldD q d m = nI (ldN q d m) := fun m hm => (ldD_N hq0 hd0 (show m < 12 by omega)).1
  have hcb : ∀ m, m < pM q → ldN q d m < 2 ^ 30 := fun m hm => by have := (ldD_N hq0 hd0 (show m < 12 by omega)).2; omega
  refine CV.ent yk_X11_laysService (Nat.le_of_ble_eq_true rfl) ?_
  by_cases h60 : dF d 6 0 = 0
  · obtain ⟨v, T, hc1, rfl, hO1, fx, n, hf7, hlex⟩ := m_matchesSpecial hw hv hcap hcb
    have hwT := hO1.1
    have hvT := hv.mb hO1
    obtain ⟨v2, U, hc2, rfl, hO2, hU⟩ := m_laysUnits hwT hvT
    have hwU := hO2.1
    have hOU : Out sMd μ U := (hO1.mono (fun i y => ⟨by have := y.1; omega, y.2⟩)).trans (hO2.mono (fun i y => ⟨by omega, by omega⟩))
    have hvU := hv.md hOU
    have hr57 : ∀ i, i < dP d → gI U 357 i = fI (fx i) := fun i hi => (hO2.i (by decide) i).trans (hf7 i hi)
    refine lf (a_aload_n dX11_laysService_0 rfl) ?_
    refine lf (a_getR (cr_338_6 hw) dX11_laysService_1 fs_X11_26 rfl (co_338 hw)) ?_
    refine lf (a_iconst (1 : Int32) dX11_laysService_4 (by decide)) ?_
    refine lf (a_ild dX11_laysService_5 (ca_344 hw) (ixn (m := 1) (by omega) (by decide))) ?_
    rw [hv.s1]
    refine lf (a_iconst (1 : Int32) dX11_laysService_6 (by decide)) ?_
    refine lfn (a_icmp_ne (tgt := 41) dX11_laysService_7 (by decide)) (fun h7 => ?_) (fun h7 => absurd h7 (by rw [h60]; decide))
    refine lf (a_aload_n dX11_laysService_41 rfl) ?_
    refine lf (a_inv (b2 := (0, 0)) hc1 rfl dX11_laysService_42 yk_X11_matchesSpecial im_X11_matchesSpecial se_X11_matchesSpecial ml_X11_459 rfl (co_338 hw) (by decide) hc_X11 (by decide) (by decide) (Nat.le_of_ble_eq_true rfl)) ?_
    refine lf (a_aload_n dX11_laysService_45 rfl) ?_
    refine lf (a_inv (b2 := (0, 0)) hc2 rfl dX11_laysService_46 yk_X11_laysUnits im_X11_laysUnits se_X11_laysUnits ml_X11_443 rfl (co_338 hwT) (by decide) hc_X11 (by decide) (by decide) (Nat.le_of_ble_eq_true rfl)) ?_
    refine lf (a_iconst (0 : Int32) dX11_laysService_49 (by decide)) ?_
    refine lf (a_istore_n dX11_laysService_50 (by decide)) ?_
    refine lf (a_loc [(0, .ref 338), (1, .int (nI 0))] rfl) (ls_1 hvU (fx := fx) (cap := ldN q d) hr57 (fun i m hi e => (hlex.1.1.1 i m hi e).1) (fun m hm => hlex.1.1.2 m hm) hcb (fun W hO3 h56 h59 => ?_) (dP d) 0 U (Nat.zero_add _) (Out.rfl' hwU) (fun i hi => absurd hi (Nat.not_lt_zero i)) (fun m hm => (hU m hm).trans (hcap m hm)))
    refine WP.mono ?_ (fun o V hQ => hQ)
    have hw3 := hO3.1
    have hv3 := hvU.md (hO3.mono (fun i y => sSp_d y))
    refine lf (a_iconst (0 : Int32) dX11_laysService_126 (by decide)) ?_
    refine lf (a_istore_n dX11_laysService_127 (by decide)) ?_
    refine (lf (a_loc [(0, .ref 338), (1, .int (nI 0))] rfl) (ls_2 hv3 hwi (SvP.of hlex) hcb (dP d) 0 W (Nat.zero_add _) (Out.rfl' hw3) h56 h59)).mono ?_
    rintro o V ⟨v, e1, e2, hO4, hG⟩
    have hS : SvS q d (svD q d (joF fx) (fun m => ldN q d m - cntG (joF fx) (dP d) m) (dP d)).1 (svD q d (joF fx) (fun m => ldN q d m - cntG (joF fx) (dP d) m) (dP d)).2 n := ⟨joF fx, hlex, rfl⟩
    exact ⟨v, e1, e2, hOU.trans ((hO3.trans hO4).mono (fun i y => sSp_d y)), svR_of hS, fun i hi => (hG i hi).trans (by rw [(SvS.uniq hM4 hwi hS (svR_of hS)).1 i hi])⟩
  · have h61 : dF d 6 0 = 1 := hv.s01.resolve_left h60
    have hS := he.resolve_left h60
    obtain ⟨G, rs, n, hS⟩ := hS
    have hgo : ∀ i, i < dP d → gI μ 344 (5 + 4 * i + 3) = oI ((svR q d).1 i) := fun i hi => by rw [hx.1 i hi, if_neg h60]
    refine lf (a_aload_n dX11_laysService_0 rfl) ?_
    refine lf (a_getR (cr_338_6 hw) dX11_laysService_1 fs_X11_26 rfl (co_338 hw)) ?_
    refine lf (a_iconst (1 : Int32) dX11_laysService_4 (by decide)) ?_
    refine lf (a_ild dX11_laysService_5 (ca_344 hw) (ixn (m := 1) (by omega) (by decide))) ?_
    rw [hv.s1]
    refine lf (a_iconst (1 : Int32) dX11_laysService_6 (by decide)) ?_
    refine lfn (a_icmp_ne (tgt := 41) dX11_laysService_7 (by decide)) (fun h7 => absurd h7 (fun z => z (by rw [h61]))) (fun h7 => ?_)
    refine lf (a_iconst (0 : Int32) dX11_laysService_10 (by decide)) ?_
    refine lf (a_istore_n dX11_laysService_11 (by decide)) ?_
    refine (lf (a_loc [(0, .ref 338), (1, .int (nI 0))] rfl) (ls_0 hv hgo (dP d) 0 μ (Nat.zero_add _) (Out.rfl' hw) (fun i hi => absurd hi (Nat.not_lt_zero i)))).mono ?_
    rintro o V ⟨v, e1, e2, hO4, hG⟩
    exact ⟨v, e1, e2, hO4.mono (fun i y => sSp_d y), svR_of hS, hG⟩
end SERVICES
