section MODELO
variable {μ W : Wd} {q : PDt} {d : FDt}
abbrev sOM : Nat → Prop := fun i => i = 353 ∨ i = 354
theorem sOM3 : sOM 353 := Or.inl rfl
theorem sOM4 : sOM 354 := Or.inr rfl
theorem MdV.om (h : MdV μ q d) (ho : Out sOM μ W) : MdV W q d := h.out ho (fun z => z.elim (by decide) (by decide)) (fun z => z.elim (by decide) (by decide))
theorem rs_t {c x : Int32} {m : Nat} (h : pF q 2 m = c) : rsD q c x (m + 1) = rsD q c x m - x * pF q 3 m / shD q c := by
  show itN (fun i a => a - fuD q c x i) x (m + 1) = _
  rw [itN_succ]
  have e : fuD q c x m = x * pF q 3 m / shD q c := if_pos h
  rw [e]; rfl
theorem rs_f {c x : Int32} {m : Nat} (h : ¬ pF q 2 m = c) : rsD q c x (m + 1) = rsD q c x m := by
  show itN (fun i a => a - fuD q c x i) x (m + 1) = _
  rw [itN_succ]
  have e : fuD q c x m = 0 := if_neg h
  rw [e, Int32.sub_zero]; rfl
abbrev R_X11_greatestRemainder : Room := { frames := 1, cells := 0, slots := 0, locals := 22 }
abbrev RX_X11_greatestRemainder : Room := { frames := 1, cells := 1, slots := 6, locals := 22 }

theorem lm_greatestRemainder (hw : Wf μ) (hv : MdV μ q d) {c : Int32} {r : Nat → Int32} (hr : ∀ i, i < pM q → pF q 2 i = c → gI μ 354 i = r i) {o : Oc} {μ1 : Wd} (kx : AW Y_X11_greatestRemainder R_X11_greatestRemainder (0, 0) μ 50 [(0, .ref 338), (1, .int c), (2, .int (oI (itN (gmS q c r) none (pM q)))), (3, .int (nI (pM q)))] [] o μ1) : ∀ dd m, m + dd = (pM q) → AW Y_X11_greatestRemainder R_X11_greatestRemainder (0, 0) μ 4 [(0, .ref 338), (1, .int c), (2, .int (oI (itN (gmS q c r) none m))), (3, .int (nI m))] [] o μ1 := by
  intro dd
  induction dd with
  | zero =>
    intro m hm
    obtain rfl : (pM q) = m := by omega
    refine a_iload_n dX11_greatestRemainder_4 rfl ?_
    refine a_aload_n dX11_greatestRemainder_5 rfl ?_
    refine a_inv (b2 := (0, 0)) (m_meals hw hv) rfl dX11_greatestRemainder_6 yk_X11_meals im_X11_meals se_X11_meals ml_X11_300 rfl (co_338 hw) (by decide) hc_X11 (by decide) (by decide) (Nat.le_of_ble_eq_true rfl) ?_
    refine a_icmp_ge (tgt := 50) dX11_greatestRemainder_9 (by decide) (fun h9 => ?_) (fun h9 => absurd h9 (fun z => z (nI_le (Nat.le_refl _) (by have := hv.M4; omega))))
    exact a_loc _ rfl kx
  | succ dd ih =>
    intro m hm
    have qih := ih (m + 1) (by omega)
    have hlt : ∀ b, itN (gmS q c r) none m = some b → b < m ∧ pF q 2 b = c := fun b hb => gmD_lt hb
    rw [itN_succ] at qih
    generalize itN (gmS q c r) none m = a at qih hlt ⊢
    unfold gmS at qih
    have hM4 := hv.M4
    have hT4 := hv.T4
    have hP4 := hv.P4
    have hU4 := hv.U4
    cases a with
    | none =>
      refine a_iload_n dX11_greatestRemainder_4 rfl ?_
      refine a_aload_n dX11_greatestRemainder_5 rfl ?_
      refine a_inv (b2 := (0, 0)) (m_meals hw hv) rfl dX11_greatestRemainder_6 yk_X11_meals im_X11_meals se_X11_meals ml_X11_300 rfl (co_338 hw) (by decide) hc_X11 (by decide) (by decide) (Nat.le_of_ble_eq_true rfl) ?_
      refine a_icmp_ge (tgt := 50) dX11_greatestRemainder_9 (by decide) (fun h9 => absurd h9 (nI_ge (by omega) (by have := hv.M4; omega))) (fun h9 => ?_)
      refine a_aload_n dX11_greatestRemainder_12 rfl ?_
      refine a_iload_n dX11_greatestRemainder_13 rfl ?_
      refine a_iconst (0 : Int32) dX11_greatestRemainder_14 (by decide) ?_
      refine a_inv (b2 := (0, 0)) (m_ofMeal0 hw hv (show m < pM q by omega)) rfl dX11_greatestRemainder_15 yk_X11_ofMeal im_X11_ofMeal se_X11_ofMeal ml_X11_297 rfl (co_338 hw) (by decide) hc_X11 (by decide) (by decide) (Nat.le_of_ble_eq_true rfl) ?_
      refine a_iload_n dX11_greatestRemainder_18 rfl ?_
      refine a_icmp_ne (tgt := 44) dX11_greatestRemainder_19 (by decide) (fun h19 => ?_) (fun h19 => ?_)
      · refine a_iincN dX11_greatestRemainder_44 rfl (by decide) ?_
        refine a_goto (tgt := 4) dX11_greatestRemainder_47 (by decide) ?_
        simp_all only [if_true, if_false, not_true_eq_false, not_false_eq_true, true_iff, false_iff, iff_true, iff_false, ne_eq]
        exact a_loc _ rfl qih
      · refine a_iload_n dX11_greatestRemainder_22 rfl ?_
        refine a_iconst (-1 : Int32) dX11_greatestRemainder_23 (by decide) ?_
        refine a_icmp_eq (tgt := 42) dX11_greatestRemainder_24 (by decide) (fun h24 => ?_) (fun h24 => absurd h24 (fun z => z rfl))
        refine a_iload_n dX11_greatestRemainder_42 rfl ?_
        refine a_istore_n dX11_greatestRemainder_43 (by decide) ?_
        refine a_iincN dX11_greatestRemainder_44 rfl (by decide) ?_
        refine a_goto (tgt := 4) dX11_greatestRemainder_47 (by decide) ?_
        simp_all only [if_true, if_false, not_true_eq_false, not_false_eq_true, true_iff, false_iff, iff_true, iff_false, ne_eq]
        exact a_loc _ rfl qih
    | some b =>
      obtain ⟨hb, hbc⟩ := hlt b rfl
      refine a_iload_n dX11_greatestRemainder_4 rfl ?_
      refine a_aload_n dX11_greatestRemainder_5 rfl ?_
      refine a_inv (b2 := (0, 0)) (m_meals hw hv) rfl dX11_greatestRemainder_6 yk_X11_meals im_X11_meals se_X11_meals ml_X11_300 rfl (co_338 hw) (by decide) hc_X11 (by decide) (by decide) (Nat.le_of_ble_eq_true rfl) ?_
      refine a_icmp_ge (tgt := 50) dX11_greatestRemainder_9 (by decide) (fun h9 => absurd h9 (nI_ge (by omega) (by have := hv.M4; omega))) (fun h9 => ?_)
      refine a_aload_n dX11_greatestRemainder_12 rfl ?_
      refine a_iload_n dX11_greatestRemainder_13 rfl ?_
      refine a_iconst (0 : Int32) dX11_greatestRemainder_14 (by decide) ?_
      refine a_inv (b2 := (0, 0)) (m_ofMeal0 hw hv (show m < pM q by omega)) rfl dX11_greatestRemainder_15 yk_X11_ofMeal im_X11_ofMeal se_X11_ofMeal ml_X11_297 rfl (co_338 hw) (by decide) hc_X11 (by decide) (by decide) (Nat.le_of_ble_eq_true rfl) ?_
      refine a_iload_n dX11_greatestRemainder_18 rfl ?_
      refine a_icmp_ne (tgt := 44) dX11_greatestRemainder_19 (by decide) (fun h19 => ?_) (fun h19 => ?_)
      · refine a_iincN dX11_greatestRemainder_44 rfl (by decide) ?_
        refine a_goto (tgt := 4) dX11_greatestRemainder_47 (by decide) ?_
        simp_all only [if_true, if_false, not_true_eq_false, not_false_eq_true, true_iff, false_iff, iff_true, iff_false, ne_eq]
        exact a_loc _ rfl qih
      · refine a_iload_n dX11_greatestRemainder_22 rfl ?_
        refine a_iconst (-1 : Int32) dX11_greatestRemainder_23 (by decide) ?_
        refine a_icmp_eq (tgt := 42) dX11_greatestRemainder_24 (by decide) (fun h24 => absurd h24 (nI_ne1 (by omega))) (fun h24 => ?_)
        refine a_aload_n dX11_greatestRemainder_27 rfl ?_
        refine a_getR (cr_338_29 hw) dX11_greatestRemainder_28 fs_X11_61 rfl (co_338 hw) ?_
        refine a_iload_n dX11_greatestRemainder_31 rfl ?_
        refine a_ild dX11_greatestRemainder_32 (ca_354 hw) (ixn (by omega) (by decide)) ?_
        rw [hr m (by omega) h19]
        refine a_aload_n dX11_greatestRemainder_33 rfl ?_
        refine a_getR (cr_338_29 hw) dX11_greatestRemainder_34 fs_X11_61 rfl (co_338 hw) ?_
        refine a_iload_n dX11_greatestRemainder_37 rfl ?_
        refine a_ild dX11_greatestRemainder_38 (ca_354 hw) (ixn (by omega) (by decide)) ?_
        rw [hr b (by omega) hbc]
        refine a_icmp_le (tgt := 44) dX11_greatestRemainder_39 (by decide) (fun h39 => ?_) (fun h39 => ?_)
        · refine a_iincN dX11_greatestRemainder_44 rfl (by decide) ?_
          refine a_goto (tgt := 4) dX11_greatestRemainder_47 (by decide) ?_
          simp_all only [if_true, if_false, not_true_eq_false, not_false_eq_true, true_iff, false_iff, iff_true, iff_false, ne_eq]
          exact a_loc _ rfl qih
        · refine a_iload_n dX11_greatestRemainder_42 rfl ?_
          refine a_istore_n dX11_greatestRemainder_43 (by decide) ?_
          refine a_iincN dX11_greatestRemainder_44 rfl (by decide) ?_
          refine a_goto (tgt := 4) dX11_greatestRemainder_47 (by decide) ?_
          simp_all only [if_true, if_false, not_true_eq_false, not_false_eq_true, true_iff, false_iff, iff_true, iff_false, ne_eq]
          exact a_loc _ rfl qih
theorem m_greatestRemainder (hw : Wf μ) (hv : MdV μ q d) {c : Int32} {r : Nat → Int32} (hr : ∀ i, i < pM q → pF q 2 i = c → gI μ 354 i = r i) : Ct Y_X11_greatestRemainder R_X11_greatestRemainder [.ref 338, .int c] μ (.inl (some (.int (oI (gmD q c r (pM q)))))) μ := by
  refine Ct.ent yk_X11_greatestRemainder (Nat.le_of_ble_eq_true rfl) ?_
  refine a_iconst (-1 : Int32) dX11_greatestRemainder_0 (by decide) ?_
  refine a_istore_n dX11_greatestRemainder_1 (by decide) ?_
  refine a_iconst (0 : Int32) dX11_greatestRemainder_2 (by decide) ?_
  refine a_istore_n dX11_greatestRemainder_3 (by decide) ?_
  refine a_loc [(0, .ref 338), (1, .int c), (2, .int (oI (none))), (3, .int (nI 0))] rfl ?_
  refine lm_greatestRemainder hw hv hr ?_ ((pM q)) 0 (by omega)
  refine a_iload_n dX11_greatestRemainder_50 rfl ?_
  exact a_out rfl rfl (a_ireturn dX11_greatestRemainder_51 rfl rfl)
abbrev R_X11_ordersFor : Room := { frames := 4, cells := 0, slots := 0, locals := 87 }
abbrev RX_X11_ordersFor : Room := { frames := 4, cells := 1, slots := 6, locals := 87 }

theorem l_X11_ordersFor_124 (hv0 : MdV μ q d) {c : Int32} : ∀ (n : Nat) (u r : Nat → Int32) (W : Wd) (v6 : Value), Out sOM μ W → (∀ i, i < 12 → gI W 353 i = u i) → (∀ i, i < pM q → pF q 2 i = c → gI W 354 i = r i) → (∀ i, i < pM q → ¬ pF q 2 i = c → r i = -1) → (∀ i, i < pM q → -1 ≤ r i) → n ≤ psR r (pM q) → n ≤ 100 →
    WP Y_X11_ordersFor R_X11_ordersFor (0, 0) W 124 [(0, .ref 338), (1, .int c), (5, .int (nI n))] [] (fun o V => ∃ v, o = .inl v ∧ v = none ∧ Out sOM μ V ∧ ∀ i, i < 12 → gI V 353 i = dlD (pM q - 1) n u r i) := by
  have hM4 := hv0.M4
  intro n
  induction n with
  | zero =>
    intro u r W v6 hO hu hr h2 h3 h4 h5
    have hw := hO.1
    refine lf (a_iload dX11_ordersFor_124 rfl) ?_
    refine lf2 (a_if_le (tgt := 169) dX11_ordersFor_126 (by decide)) (fun h126 => ?_) (fun h126 => absurd h126 (fun z => z (by decide)))
    refine ⟨_, _, (a_return dX11_ordersFor_169 rfl), ?_⟩
    exact ⟨_, rfl, rfl, hO, hu⟩
  | succ n ih =>
    intro u r W v6 hO hu hr h2 h3 h4 h5
    have hw := hO.1
    have hv := hv0.om hO
    obtain ⟨g1, g2, g3, g4, g5⟩ := gm_step h2 h3 h4
    have hg : grD r (pM q - 1) < 12 := by omega
    refine lf (a_iload dX11_ordersFor_124 rfl) ?_
    refine lf2 (a_if_le (tgt := 169) dX11_ordersFor_126 (by decide)) (fun h126 => absurd h126 (nI_nle (Nat.succ_pos n) (by omega))) (fun h126 => ?_)
    refine lf (a_aload_n dX11_ordersFor_129 rfl) ?_
    refine lf (a_iload_n dX11_ordersFor_130 rfl) ?_
    refine lf (a_inv (b2 := (0, 0)) (Ct.int (y := nI (grD r (pM q - 1))) (by rw [g1]; rfl) (m_greatestRemainder (by repeat (first | with_reducible exact hw | with_reducible exact hwc | with_reducible assumption | with_reducible apply Wf.sI | with_reducible apply Wf.sL | with_reducible apply Wf.cpI | with_reducible apply Wf.cpL | with_reducible apply Wf.cp2 | with_reducible apply Wf.sIs | with_reducible apply Wf.sLs | with_reducible apply Wf.cpU | with_reducible apply Wf.fillI | with_reducible apply Wf.clU | with_reducible apply Wf.dnF | with_reducible apply Wf.gbW)) hv hr)) rfl dX11_ordersFor_131 yk_X11_greatestRemainder im_X11_greatestRemainder se_X11_greatestRemainder ml_X11_318 rfl (co_338 (by repeat (first | with_reducible exact hw | with_reducible exact hwc | with_reducible assumption | with_reducible apply Wf.sI | with_reducible apply Wf.sL | with_reducible apply Wf.cpI | with_reducible apply Wf.cpL | with_reducible apply Wf.cp2 | with_reducible apply Wf.sIs | with_reducible apply Wf.sLs | with_reducible apply Wf.cpU | with_reducible apply Wf.fillI | with_reducible apply Wf.clU | with_reducible apply Wf.dnF | with_reducible apply Wf.gbW))) (by decide) hc_X11 (by decide) (by decide) (Nat.le_of_ble_eq_true rfl)) ?_
    refine lf (a_istore dX11_ordersFor_134 (by decide)) ?_
    refine lf (a_aload_n dX11_ordersFor_136 rfl) ?_
    refine lf (a_getR (cr_338_28 (by repeat (first | with_reducible exact hw | with_reducible exact hwc | with_reducible assumption | with_reducible apply Wf.sI | with_reducible apply Wf.sL | with_reducible apply Wf.cpI | with_reducible apply Wf.cpL | with_reducible apply Wf.cp2 | with_reducible apply Wf.sIs | with_reducible apply Wf.sLs | with_reducible apply Wf.cpU | with_reducible apply Wf.fillI | with_reducible apply Wf.clU | with_reducible apply Wf.dnF | with_reducible apply Wf.gbW))) dX11_ordersFor_137 fs_X11_58 rfl (co_338 (by repeat (first | with_reducible exact hw | with_reducible exact hwc | with_reducible assumption | with_reducible apply Wf.sI | with_reducible apply Wf.sL | with_reducible apply Wf.cpI | with_reducible apply Wf.cpL | with_reducible apply Wf.cp2 | with_reducible apply Wf.sIs | with_reducible apply Wf.sLs | with_reducible apply Wf.cpU | with_reducible apply Wf.fillI | with_reducible apply Wf.clU | with_reducible apply Wf.dnF | with_reducible apply Wf.gbW)))) ?_
    refine lf (a_iload dX11_ordersFor_140 rfl) ?_
    refine lf (a_aload_n dX11_ordersFor_142 rfl) ?_
    refine lf (a_getR (cr_338_28 (by repeat (first | with_reducible exact hw | with_reducible exact hwc | with_reducible assumption | with_reducible apply Wf.sI | with_reducible apply Wf.sL | with_reducible apply Wf.cpI | with_reducible apply Wf.cpL | with_reducible apply Wf.cp2 | with_reducible apply Wf.sIs | with_reducible apply Wf.sLs | with_reducible apply Wf.cpU | with_reducible apply Wf.fillI | with_reducible apply Wf.clU | with_reducible apply Wf.dnF | with_reducible apply Wf.gbW))) dX11_ordersFor_143 fs_X11_58 rfl (co_338 (by repeat (first | with_reducible exact hw | with_reducible exact hwc | with_reducible assumption | with_reducible apply Wf.sI | with_reducible apply Wf.sL | with_reducible apply Wf.cpI | with_reducible apply Wf.cpL | with_reducible apply Wf.cp2 | with_reducible apply Wf.sIs | with_reducible apply Wf.sLs | with_reducible apply Wf.cpU | with_reducible apply Wf.fillI | with_reducible apply Wf.clU | with_reducible apply Wf.dnF | with_reducible apply Wf.gbW)))) ?_
    refine lf (a_iload dX11_ordersFor_146 rfl) ?_
    refine lf (a_ild dX11_ordersFor_148 (ca_353 (by repeat (first | with_reducible exact hw | with_reducible exact hwc | with_reducible assumption | with_reducible apply Wf.sI | with_reducible apply Wf.sL | with_reducible apply Wf.cpI | with_reducible apply Wf.cpL | with_reducible apply Wf.cp2 | with_reducible apply Wf.sIs | with_reducible apply Wf.sLs | with_reducible apply Wf.cpU | with_reducible apply Wf.fillI | with_reducible apply Wf.clU | with_reducible apply Wf.dnF | with_reducible apply Wf.gbW))) (ixn (show grD r (pM q - 1) < 12 by omega) (by decide))) ?_
    rw [hu _ hg]
    refine lf (a_iconst (1 : Int32) dX11_ordersFor_149 (by decide)) ?_
    refine lf (a_iadd dX11_ordersFor_150) ?_
    refine lf (a_ist dX11_ordersFor_151 (ca_353 (by repeat (first | with_reducible exact hw | with_reducible exact hwc | with_reducible assumption | with_reducible apply Wf.sI | with_reducible apply Wf.sL | with_reducible apply Wf.cpI | with_reducible apply Wf.cpL | with_reducible apply Wf.cp2 | with_reducible apply Wf.sIs | with_reducible apply Wf.sLs | with_reducible apply Wf.cpU | with_reducible apply Wf.fillI | with_reducible apply Wf.clU | with_reducible apply Wf.dnF | with_reducible apply Wf.gbW))) (ixn (show grD r (pM q - 1) < 12 by omega) (by decide))) ?_
    refine lf (a_aload_n dX11_ordersFor_152 rfl) ?_
    refine lf (a_getR (cr_338_29 (by repeat (first | with_reducible exact hw | with_reducible exact hwc | with_reducible assumption | with_reducible apply Wf.sI | with_reducible apply Wf.sL | with_reducible apply Wf.cpI | with_reducible apply Wf.cpL | with_reducible apply Wf.cp2 | with_reducible apply Wf.sIs | with_reducible apply Wf.sLs | with_reducible apply Wf.cpU | with_reducible apply Wf.fillI | with_reducible apply Wf.clU | with_reducible apply Wf.dnF | with_reducible apply Wf.gbW))) dX11_ordersFor_153 fs_X11_61 rfl (co_338 (by repeat (first | with_reducible exact hw | with_reducible exact hwc | with_reducible assumption | with_reducible apply Wf.sI | with_reducible apply Wf.sL | with_reducible apply Wf.cpI | with_reducible apply Wf.cpL | with_reducible apply Wf.cp2 | with_reducible apply Wf.sIs | with_reducible apply Wf.sLs | with_reducible apply Wf.cpU | with_reducible apply Wf.fillI | with_reducible apply Wf.clU | with_reducible apply Wf.dnF | with_reducible apply Wf.gbW)))) ?_
    refine lf (a_iload dX11_ordersFor_156 rfl) ?_
    refine lf (a_iconst (-1 : Int32) dX11_ordersFor_158 (by decide)) ?_
    refine lf (a_ist dX11_ordersFor_159 (ca_354 (by repeat (first | with_reducible exact hw | with_reducible exact hwc | with_reducible assumption | with_reducible apply Wf.sI | with_reducible apply Wf.sL | with_reducible apply Wf.cpI | with_reducible apply Wf.cpL | with_reducible apply Wf.cp2 | with_reducible apply Wf.sIs | with_reducible apply Wf.sLs | with_reducible apply Wf.cpU | with_reducible apply Wf.fillI | with_reducible apply Wf.clU | with_reducible apply Wf.dnF | with_reducible apply Wf.gbW))) (ixn (show grD r (pM q - 1) < 12 by omega) (by decide))) ?_
    refine lf (a_iload dX11_ordersFor_160 rfl) ?_
    refine lf (a_iconst (1 : Int32) dX11_ordersFor_162 (by decide)) ?_
    refine lf (a_isub dX11_ordersFor_163) ?_
    refine lf (a_istore dX11_ordersFor_164 (by decide)) ?_
    refine lf (a_goto (tgt := 124) dX11_ordersFor_166 (by decide)) ?_
    refine lf (a_loc [(0, .ref 338), (1, .int c), (5, .int (nI n))] (by rw [nI_sub1]; rfl)) (ih (up1 u (grD r (pM q - 1)) (u (grD r (pM q - 1)) + 1)) (up1 r (grD r (pM q - 1)) (-1)) _ .null ?_ (fun i hi => ?_) (fun i hi hc => ?_) g4 g5 g3 (by omega))
    · repeat (first | with_reducible exact hO | with_reducible exact sOM3 | with_reducible exact sOM4 | with_reducible refine Out.sI ?_ ?_ _ _)
    · simp only [gI_sI]
      unfold up1
      by_cases hx : i = grD r (pM q - 1)
      · simp [hx]
      · simp only [hx, and_false, if_false]; exact hu i hi
    · simp only [gI_sI]
      unfold up1
      by_cases hx : i = grD r (pM q - 1)
      · simp [hx]
      · simp only [hx, and_false, if_false]; exact hr i hi hc
theorem l_X11_ordersFor_47 (hv0 : MdV μ q d) (hq0 : GdP q) {c : Nat} (hc : c < pC q) {u : Nat → Int32} {x : Nat} (hs0 : ¬ shD q (nI c) = 0) {Q : Oc → Wd → Prop} (kx : ∀ W : Wd, (Out sOM μ W ∧ (∀ i, i < 12 → gI W 353 i = if i < (pM q) then u i + fuD q (nI c) (nI x) i else u i) ∧ ∀ i, i < (pM q) → pF q 2 i = nI c → gI W 354 i = reD q (nI c) (nI x) i) → WP Y_X11_ordersFor R_X11_ordersFor (0, 0) W 124 [(0, .ref 338), (1, .int (nI c)), (2, .int (plD d (nI c))), (3, .int (shD q (nI c))), (4, .int (nI x)), (5, .int (rsD q (nI c) (nI x) (pM q))), (6, .int (nI (pM q)))] [] Q) : ∀ dd m (W : Wd), m + dd = (pM q) → (Out sOM μ W ∧ (∀ i, i < 12 → gI W 353 i = if i < m then u i + fuD q (nI c) (nI x) i else u i) ∧ ∀ i, i < m → pF q 2 i = nI c → gI W 354 i = reD q (nI c) (nI x) i) → WP Y_X11_ordersFor R_X11_ordersFor (0, 0) W 47 [(0, .ref 338), (1, .int (nI c)), (2, .int (plD d (nI c))), (3, .int (shD q (nI c))), (4, .int (nI x)), (5, .int (rsD q (nI c) (nI x) m)), (6, .int (nI m))] [] Q := by
  have hM4 := hv0.M4
  intro dd
  induction dd with
  | zero =>
    intro m W hm hI
    obtain rfl : (pM q) = m := by omega
    have hw := hI.1.1
    have hv := hv0.om hI.1
    refine lf (a_iload dX11_ordersFor_47 rfl) ?_
    refine lf (a_aload_n dX11_ordersFor_49 rfl) ?_
    refine lf (a_inv (b2 := (0, 0)) (m_meals hw hv) rfl dX11_ordersFor_50 yk_X11_meals im_X11_meals se_X11_meals ml_X11_300 rfl (co_338 hw) (by decide) hc_X11 (by decide) (by decide) (Nat.le_of_ble_eq_true rfl)) ?_
    refine lf2 (a_icmp_ge (tgt := 124) dX11_ordersFor_53 (by decide)) (fun h53 => ?_) (fun h53 => absurd h53 (fun z => z (nI_le (Nat.le_refl _) (by omega))))
    exact lf (a_loc _ rfl) (kx W hI)
  | succ dd ih =>
    intro m W hm hI
    have hw := hI.1.1
    have hv := hv0.om hI.1
    have z := ih (m + 1)
    refine lf (a_iload dX11_ordersFor_47 rfl) ?_
    refine lf (a_aload_n dX11_ordersFor_49 rfl) ?_
    refine lf (a_inv (b2 := (0, 0)) (m_meals (by repeat (first | with_reducible exact hw | with_reducible exact hwc | with_reducible assumption | with_reducible apply Wf.sI | with_reducible apply Wf.sL | with_reducible apply Wf.cpI | with_reducible apply Wf.cpL | with_reducible apply Wf.cp2 | with_reducible apply Wf.sIs | with_reducible apply Wf.sLs | with_reducible apply Wf.cpU | with_reducible apply Wf.fillI | with_reducible apply Wf.clU | with_reducible apply Wf.dnF | with_reducible apply Wf.gbW)) hv) rfl dX11_ordersFor_50 yk_X11_meals im_X11_meals se_X11_meals ml_X11_300 rfl (co_338 (by repeat (first | with_reducible exact hw | with_reducible exact hwc | with_reducible assumption | with_reducible apply Wf.sI | with_reducible apply Wf.sL | with_reducible apply Wf.cpI | with_reducible apply Wf.cpL | with_reducible apply Wf.cp2 | with_reducible apply Wf.sIs | with_reducible apply Wf.sLs | with_reducible apply Wf.cpU | with_reducible apply Wf.fillI | with_reducible apply Wf.clU | with_reducible apply Wf.dnF | with_reducible apply Wf.gbW))) (by decide) hc_X11 (by decide) (by decide) (Nat.le_of_ble_eq_true rfl)) ?_
    refine lf2 (a_icmp_ge (tgt := 124) dX11_ordersFor_53 (by decide)) (fun h53 => absurd h53 (nI_ge (by omega) (by omega))) (fun h53 => ?_)
    refine lf (a_aload_n dX11_ordersFor_56 rfl) ?_
    refine lf (a_iload dX11_ordersFor_57 rfl) ?_
    refine lf (a_iconst (0 : Int32) dX11_ordersFor_59 (by decide)) ?_
    refine lf (a_inv (b2 := (0, 0)) (m_ofMeal0 (by repeat (first | with_reducible exact hw | with_reducible exact hwc | with_reducible assumption | with_reducible apply Wf.sI | with_reducible apply Wf.sL | with_reducible apply Wf.cpI | with_reducible apply Wf.cpL | with_reducible apply Wf.cp2 | with_reducible apply Wf.sIs | with_reducible apply Wf.sLs | with_reducible apply Wf.cpU | with_reducible apply Wf.fillI | with_reducible apply Wf.clU | with_reducible apply Wf.dnF | with_reducible apply Wf.gbW)) hv (show m < pM q by omega)) rfl dX11_ordersFor_60 yk_X11_ofMeal im_X11_ofMeal se_X11_ofMeal ml_X11_297 rfl (co_338 (by repeat (first | with_reducible exact hw | with_reducible exact hwc | with_reducible assumption | with_reducible apply Wf.sI | with_reducible apply Wf.sL | with_reducible apply Wf.cpI | with_reducible apply Wf.cpL | with_reducible apply Wf.cp2 | with_reducible apply Wf.sIs | with_reducible apply Wf.sLs | with_reducible apply Wf.cpU | with_reducible apply Wf.fillI | with_reducible apply Wf.clU | with_reducible apply Wf.dnF | with_reducible apply Wf.gbW))) (by decide) hc_X11 (by decide) (by decide) (Nat.le_of_ble_eq_true rfl)) ?_
    refine lf (a_iload_n dX11_ordersFor_63 rfl) ?_
    refine lfn (a_icmp_ne (tgt := 118) dX11_ordersFor_64 (by decide)) (fun h64 => ?_) (fun h64 => ?_)
    · rw [rs_f h64] at z
      refine lf (a_iincN dX11_ordersFor_118 rfl (by decide)) ?_
      refine lf (a_goto (tgt := 47) dX11_ordersFor_121 (by decide)) ?_
      first
      | (refine lf (a_loc _ rfl) (z _ (by omega) ⟨hI.1, fun i hi => ?_, fun i hi hc => ?_⟩)
         · rw [hI.2.1 i hi]
           by_cases h1 : i < m
           · rw [if_pos h1, if_pos (by omega)]
           · by_cases h2 : i = m
             · subst h2
               have e : fuD q (nI c) (nI x) i = 0 := if_neg h64
               rw [if_neg h1, if_pos (by omega), e, Int32.add_zero]
             · rw [if_neg h1, if_neg (by omega)]
         · exact hI.2.2 i (by have : i ≠ m := fun e => h64 (e ▸ hc); omega) hc)
      | (refine lf (a_loc _ rfl) (z _ (by omega) ⟨?_, fun i hi => ?_, fun i hi hc => ?_⟩)
         · repeat (first | with_reducible exact hI.1 | with_reducible exact sOM3 | with_reducible exact sOM4 | with_reducible refine Out.sI ?_ ?_ _ _)
         · simp only [gI_sI]
           by_cases h2 : i = m
           · subst h2
             have e : fuD q (nI c) (nI x) i = nI x * pF q 3 i / shD q (nI c) := if_pos h64
             simp [e]
           · have h3 := hI.2.1 i hi
             by_cases h1 : i < m
             · rw [if_pos h1] at h3
               simp [h2, h3, show i < m + 1 by omega]
             · rw [if_neg h1] at h3
               simp [h2, h3, show ¬ i < m + 1 by omega]
         · simp only [gI_sI]
           by_cases h2 : i = m
           · subst h2
             have e : reD q (nI c) (nI x) i = nI x * pF q 3 i - (nI x * pF q 3 i / shD q (nI c)) * shD q (nI c) := if_pos h64
             simp [e]
           · have h3 := hI.2.2 i (by omega) hc
             simp [h2, h3])
    · rw [rs_t h64] at z
      refine lf (a_iload dX11_ordersFor_67 rfl) ?_
      refine lf (a_aload_n dX11_ordersFor_69 rfl) ?_
      refine lf (a_iload dX11_ordersFor_70 rfl) ?_
      refine lf (a_iconst (1 : Int32) dX11_ordersFor_72 (by decide)) ?_
      refine lf (a_inv (b2 := (0, 0)) (m_ofMeal1 (by repeat (first | with_reducible exact hw | with_reducible exact hwc | with_reducible assumption | with_reducible apply Wf.sI | with_reducible apply Wf.sL | with_reducible apply Wf.cpI | with_reducible apply Wf.cpL | with_reducible apply Wf.cp2 | with_reducible apply Wf.sIs | with_reducible apply Wf.sLs | with_reducible apply Wf.cpU | with_reducible apply Wf.fillI | with_reducible apply Wf.clU | with_reducible apply Wf.dnF | with_reducible apply Wf.gbW)) hv (show m < pM q by omega)) rfl dX11_ordersFor_73 yk_X11_ofMeal im_X11_ofMeal se_X11_ofMeal ml_X11_297 rfl (co_338 (by repeat (first | with_reducible exact hw | with_reducible exact hwc | with_reducible assumption | with_reducible apply Wf.sI | with_reducible apply Wf.sL | with_reducible apply Wf.cpI | with_reducible apply Wf.cpL | with_reducible apply Wf.cp2 | with_reducible apply Wf.sIs | with_reducible apply Wf.sLs | with_reducible apply Wf.cpU | with_reducible apply Wf.fillI | with_reducible apply Wf.clU | with_reducible apply Wf.dnF | with_reducible apply Wf.gbW))) (by decide) hc_X11 (by decide) (by decide) (Nat.le_of_ble_eq_true rfl)) ?_
      refine lf (a_imul dX11_ordersFor_76) ?_
      refine lf (a_istore dX11_ordersFor_77 (by decide)) ?_
      refine lf (a_aload_n dX11_ordersFor_79 rfl) ?_
      refine lf (a_getR (cr_338_28 (by repeat (first | with_reducible exact hw | with_reducible exact hwc | with_reducible assumption | with_reducible apply Wf.sI | with_reducible apply Wf.sL | with_reducible apply Wf.cpI | with_reducible apply Wf.cpL | with_reducible apply Wf.cp2 | with_reducible apply Wf.sIs | with_reducible apply Wf.sLs | with_reducible apply Wf.cpU | with_reducible apply Wf.fillI | with_reducible apply Wf.clU | with_reducible apply Wf.dnF | with_reducible apply Wf.gbW))) dX11_ordersFor_80 fs_X11_58 rfl (co_338 (by repeat (first | with_reducible exact hw | with_reducible exact hwc | with_reducible assumption | with_reducible apply Wf.sI | with_reducible apply Wf.sL | with_reducible apply Wf.cpI | with_reducible apply Wf.cpL | with_reducible apply Wf.cp2 | with_reducible apply Wf.sIs | with_reducible apply Wf.sLs | with_reducible apply Wf.cpU | with_reducible apply Wf.fillI | with_reducible apply Wf.clU | with_reducible apply Wf.dnF | with_reducible apply Wf.gbW)))) ?_
      refine lf (a_iload dX11_ordersFor_83 rfl) ?_
      refine lf (a_aload_n dX11_ordersFor_85 rfl) ?_
      refine lf (a_getR (cr_338_28 (by repeat (first | with_reducible exact hw | with_reducible exact hwc | with_reducible assumption | with_reducible apply Wf.sI | with_reducible apply Wf.sL | with_reducible apply Wf.cpI | with_reducible apply Wf.cpL | with_reducible apply Wf.cp2 | with_reducible apply Wf.sIs | with_reducible apply Wf.sLs | with_reducible apply Wf.cpU | with_reducible apply Wf.fillI | with_reducible apply Wf.clU | with_reducible apply Wf.dnF | with_reducible apply Wf.gbW))) dX11_ordersFor_86 fs_X11_58 rfl (co_338 (by repeat (first | with_reducible exact hw | with_reducible exact hwc | with_reducible assumption | with_reducible apply Wf.sI | with_reducible apply Wf.sL | with_reducible apply Wf.cpI | with_reducible apply Wf.cpL | with_reducible apply Wf.cp2 | with_reducible apply Wf.sIs | with_reducible apply Wf.sLs | with_reducible apply Wf.cpU | with_reducible apply Wf.fillI | with_reducible apply Wf.clU | with_reducible apply Wf.dnF | with_reducible apply Wf.gbW)))) ?_
      refine lf (a_iload dX11_ordersFor_89 rfl) ?_
      refine lf (a_ild dX11_ordersFor_91 (ca_353 (by repeat (first | with_reducible exact hw | with_reducible exact hwc | with_reducible assumption | with_reducible apply Wf.sI | with_reducible apply Wf.sL | with_reducible apply Wf.cpI | with_reducible apply Wf.cpL | with_reducible apply Wf.cp2 | with_reducible apply Wf.sIs | with_reducible apply Wf.sLs | with_reducible apply Wf.cpU | with_reducible apply Wf.fillI | with_reducible apply Wf.clU | with_reducible apply Wf.dnF | with_reducible apply Wf.gbW))) (ixn (by omega) (by decide))) ?_
      rw [hI.2.1 m (by omega), if_neg (Nat.lt_irrefl m)]
      refine lf (a_iload dX11_ordersFor_92 rfl) ?_
      refine lf (a_iload_n dX11_ordersFor_94 rfl) ?_
      refine lf (a_idiv dX11_ordersFor_95 hs0) ?_
      refine lf (a_iadd dX11_ordersFor_96) ?_
      refine lf (a_ist dX11_ordersFor_97 (ca_353 (by repeat (first | with_reducible exact hw | with_reducible exact hwc | with_reducible assumption | with_reducible apply Wf.sI | with_reducible apply Wf.sL | with_reducible apply Wf.cpI | with_reducible apply Wf.cpL | with_reducible apply Wf.cp2 | with_reducible apply Wf.sIs | with_reducible apply Wf.sLs | with_reducible apply Wf.cpU | with_reducible apply Wf.fillI | with_reducible apply Wf.clU | with_reducible apply Wf.dnF | with_reducible apply Wf.gbW))) (ixn (by omega) (by decide))) ?_
      refine lf (a_aload_n dX11_ordersFor_98 rfl) ?_
      refine lf (a_getR (cr_338_29 (by repeat (first | with_reducible exact hw | with_reducible exact hwc | with_reducible assumption | with_reducible apply Wf.sI | with_reducible apply Wf.sL | with_reducible apply Wf.cpI | with_reducible apply Wf.cpL | with_reducible apply Wf.cp2 | with_reducible apply Wf.sIs | with_reducible apply Wf.sLs | with_reducible apply Wf.cpU | with_reducible apply Wf.fillI | with_reducible apply Wf.clU | with_reducible apply Wf.dnF | with_reducible apply Wf.gbW))) dX11_ordersFor_99 fs_X11_61 rfl (co_338 (by repeat (first | with_reducible exact hw | with_reducible exact hwc | with_reducible assumption | with_reducible apply Wf.sI | with_reducible apply Wf.sL | with_reducible apply Wf.cpI | with_reducible apply Wf.cpL | with_reducible apply Wf.cp2 | with_reducible apply Wf.sIs | with_reducible apply Wf.sLs | with_reducible apply Wf.cpU | with_reducible apply Wf.fillI | with_reducible apply Wf.clU | with_reducible apply Wf.dnF | with_reducible apply Wf.gbW)))) ?_
      refine lf (a_iload dX11_ordersFor_102 rfl) ?_
      refine lf (a_iload dX11_ordersFor_104 rfl) ?_
      refine lf (a_iload_n dX11_ordersFor_106 rfl) ?_
      refine lf (a_irem dX11_ordersFor_107 hs0) ?_
      refine lf (a_ist dX11_ordersFor_108 (ca_354 (by repeat (first | with_reducible exact hw | with_reducible exact hwc | with_reducible assumption | with_reducible apply Wf.sI | with_reducible apply Wf.sL | with_reducible apply Wf.cpI | with_reducible apply Wf.cpL | with_reducible apply Wf.cp2 | with_reducible apply Wf.sIs | with_reducible apply Wf.sLs | with_reducible apply Wf.cpU | with_reducible apply Wf.fillI | with_reducible apply Wf.clU | with_reducible apply Wf.dnF | with_reducible apply Wf.gbW))) (ixn (by omega) (by decide))) ?_
      refine lf (a_iload dX11_ordersFor_109 rfl) ?_
      refine lf (a_iload dX11_ordersFor_111 rfl) ?_
      refine lf (a_iload_n dX11_ordersFor_113 rfl) ?_
      refine lf (a_idiv dX11_ordersFor_114 hs0) ?_
      refine lf (a_isub dX11_ordersFor_115) ?_
      refine lf (a_istore dX11_ordersFor_116 (by decide)) ?_
      refine lf (a_iincN dX11_ordersFor_118 rfl (by decide)) ?_
      refine lf (a_goto (tgt := 47) dX11_ordersFor_121 (by decide)) ?_
      first
      | (refine lf (a_loc _ rfl) (z _ (by omega) ⟨hI.1, fun i hi => ?_, fun i hi hc => ?_⟩)
         · rw [hI.2.1 i hi]
           by_cases h1 : i < m
           · rw [if_pos h1, if_pos (by omega)]
           · by_cases h2 : i = m
             · subst h2
               have e : fuD q (nI c) (nI x) i = 0 := if_neg h64
               rw [if_neg h1, if_pos (by omega), e, Int32.add_zero]
             · rw [if_neg h1, if_neg (by omega)]
         · exact hI.2.2 i (by have : i ≠ m := fun e => h64 (e ▸ hc); omega) hc)
      | (refine lf (a_loc _ rfl) (z _ (by omega) ⟨?_, fun i hi => ?_, fun i hi hc => ?_⟩)
         · repeat (first | with_reducible exact hI.1 | with_reducible exact sOM3 | with_reducible exact sOM4 | with_reducible refine Out.sI ?_ ?_ _ _)
         · simp only [gI_sI]
           by_cases h2 : i = m
           · subst h2
             have e : fuD q (nI c) (nI x) i = nI x * pF q 3 i / shD q (nI c) := if_pos h64
             simp [e]
           · have h3 := hI.2.1 i hi
             by_cases h1 : i < m
             · rw [if_pos h1] at h3
               simp [h2, h3, show i < m + 1 by omega]
             · rw [if_neg h1] at h3
               simp [h2, h3, show ¬ i < m + 1 by omega]
         · simp only [gI_sI]
           by_cases h2 : i = m
           · subst h2
             have e : reD q (nI c) (nI x) i = nI x * pF q 3 i - (nI x * pF q 3 i / shD q (nI c)) * shD q (nI c) := if_pos h64
             simp [e]
           · have h3 := hI.2.2 i (by omega) hc
             simp [h2, h3])
theorem m_ordersFor (hw : Wf μ) (hv : MdV μ q d) (hq0 : GdP q) (hd0 : GdD q d) {c : Nat} (hc : c < pC q) {u : Nat → Int32} (hu : ∀ i, i < 12 → gI μ 353 i = u i) : CV Y_X11_ordersFor R_X11_ordersFor [.ref 338, .int (nI c)] μ (fun v V => v = none ∧ Out sOM μ V ∧ ∀ i, i < 12 → gI V 353 i = o2D q d c u i) := by
  refine CV.ent yk_X11_ordersFor (Nat.le_of_ble_eq_true rfl) ?_
  have hM4 := hv.M4
  obtain ⟨x, hx, hwa⟩ := waD_N hq0 hd0 hc
  have hpl := plN_le d (nI c)
  have hP4 := hd0.P4
  have hmid : (plD d (nI c) * (100 + pF q 1 c) + 99) / 100 = nI x := by rw [← hwa, waD, plD_eq]
  have hsh := shD_N (c := nI c) hq0
  refine lf (a_aload_n dX11_ordersFor_0 rfl) ?_
  refine lf (a_iload_n dX11_ordersFor_1 rfl) ?_
  refine lf (a_inv (b2 := (0, 0)) (m_plainIn hw hv (nI c)) rfl dX11_ordersFor_2 yk_X11_plainIn im_X11_plainIn se_X11_plainIn ml_X11_309 rfl (co_338 hw) (by decide) hc_X11 (by decide) (by decide) (Nat.le_of_ble_eq_true rfl)) ?_
  refine lf (a_istore_n dX11_ordersFor_5 (by decide)) ?_
  refine lf (a_aload_n dX11_ordersFor_6 rfl) ?_
  refine lf (a_iload_n dX11_ordersFor_7 rfl) ?_
  refine lf (a_inv (b2 := (0, 0)) (m_sharesOf hw hv (nI c)) rfl dX11_ordersFor_8 yk_X11_sharesOf im_X11_sharesOf se_X11_sharesOf ml_X11_312 rfl (co_338 hw) (by decide) hc_X11 (by decide) (by decide) (Nat.le_of_ble_eq_true rfl)) ?_
  refine lf (a_istore_n dX11_ordersFor_11 (by decide)) ?_
  refine lf (a_iload_n dX11_ordersFor_12 rfl) ?_
  refine lf2 (a_if_eq (tgt := 20) dX11_ordersFor_13 (by decide)) (fun h13 => ?_) (fun h13 => ?_)
  · refine ⟨_, _, (a_return dX11_ordersFor_20 rfl), ?_⟩
    refine ⟨_, rfl, rfl, Out.rfl' hw, fun i hi => ?_⟩
    first
    | (have h1 : paD d (nI c) - spD d (nI c) ≤ 0 := by
         rw [← plD_eq, h13]
         decide
       rw [o2D, if_pos h1]; exact hu i hi)
    | (rw [o2D, if_neg h1, diD, if_pos (by rw [h17]; decide)]; exact hu i hi)
  · have h1 : ¬ paD d (nI c) - spD d (nI c) ≤ 0 := by
      rw [← plD_eq, plD_N]
      rw [plD_N] at h13
      exact nI_nle (Nat.pos_of_ne_zero fun z => h13 (by rw [z]; rfl)) (by omega)
    refine lf (a_iload_n dX11_ordersFor_16 rfl) ?_
    refine lfn (a_if_ne (tgt := 21) dX11_ordersFor_17 (by decide)) (fun h17 => ?_) (fun h17 => ?_)
    · have h2 : ¬ shD q (nI c) < 1 := by
        rw [hsh.1] at h17 ⊢
        exact fun z => h17 (by rw [show (1 : Int32) = nI 1 from rfl, nI_ltI (by omega) (by decide)] at z; rw [show shS q (nI c) (pM q) = 0 by omega]; rfl)
      refine lf (a_iload_n dX11_ordersFor_21 rfl) ?_
      refine lf (a_bipush (100 : Int32) dX11_ordersFor_22 (by decide)) ?_
      refine lf (a_aload_n dX11_ordersFor_24 rfl) ?_
      refine lf (a_iload_n dX11_ordersFor_25 rfl) ?_
      refine lf (a_iconst (1 : Int32) dX11_ordersFor_26 (by decide)) ?_
      refine lf (a_inv (b2 := (0, 0)) (m_ofCabin1 hw hv hc) rfl dX11_ordersFor_27 yk_X11_ofCabin im_X11_ofCabin se_X11_ofCabin ml_X11_315 rfl (co_338 hw) (by decide) hc_X11 (by decide) (by decide) (Nat.le_of_ble_eq_true rfl)) ?_
      refine lf (a_iadd dX11_ordersFor_30) ?_
      refine lf (a_imul dX11_ordersFor_31) ?_
      refine lf (a_bipush (99 : Int32) dX11_ordersFor_32 (by decide)) ?_
      refine lf (a_iadd dX11_ordersFor_34) ?_
      refine lf (a_bipush (100 : Int32) dX11_ordersFor_35 (by decide)) ?_
      refine lf (a_idiv dX11_ordersFor_37 (by decide)) ?_
      rw [hmid]
      refine lf (a_istore dX11_ordersFor_38 (by decide)) ?_
      refine lf (a_iload dX11_ordersFor_40 rfl) ?_
      refine lf (a_istore dX11_ordersFor_42 (by decide)) ?_
      refine lf (a_iconst (0 : Int32) dX11_ordersFor_44 (by decide)) ?_
      refine lf (a_istore dX11_ordersFor_45 (by decide)) ?_
      refine lf (a_loc [(0, .ref 338), (1, .int (nI c)), (2, .int (plD d (nI c))), (3, .int (shD q (nI c))), (4, .int (nI x)), (5, .int (rsD q (nI c) (nI x) 0)), (6, .int (nI 0))] rfl) (l_X11_ordersFor_47 hv hq0 hc (u := u) (x := x) h17 (fun W hI => ?_) (pM q) 0 μ (by omega) ⟨Out.rfl' hw, fun i hi => by rw [if_neg (Nat.not_lt_zero i)]; exact hu i hi, fun i hi => absurd hi (Nat.not_lt_zero i)⟩)
      obtain ⟨n, e1, e2, e3⟩ := dv_cnt (c := nI c) hq0 hx h2
      refine lf (a_loc [(0, .ref 338), (1, .int (nI c)), (5, .int (nI n))] (by rw [← e1]; rfl)) ((l_X11_ordersFor_124 hv n _ (reD q (nI c) (nI x)) W .null hI.1 hI.2.1 (fun i hi hc => hI.2.2 i hi hc) (fun i hi hc => (dv_N hq0 hx h2 hi).2.2.1 hc) (fun i hi => (dv_N hq0 hx h2 hi).2.2.2) e3 e2).mono ?_)
      rintro o V ⟨v, k1, k2, k3, k4⟩
      refine ⟨v, k1, k2, k3, fun i hi => ?_⟩
      rw [k4 i hi, o2D, if_neg h1, diD, if_neg h2, hwa, e1, nN_nI (by omega)]
    · refine ⟨_, _, (a_return dX11_ordersFor_20 rfl), ?_⟩
      refine ⟨_, rfl, rfl, Out.rfl' hw, fun i hi => ?_⟩
      first
      | (have h1 : paD d (nI c) - spD d (nI c) ≤ 0 := by
           rw [← plD_eq, h13]
           decide
         rw [o2D, if_pos h1]; exact hu i hi)
      | (rw [o2D, if_neg h1, diD, if_pos (by rw [h17]; decide)]; exact hu i hi)
abbrev R_X11_laysOrder : Room := { frames := 5, cells := 0, slots := 0, locals := 114 }
abbrev RX_X11_laysOrder : Room := { frames := 5, cells := 1, slots := 6, locals := 114 }

theorem l_X11_laysOrder_2 (hv0 : MdV μ q d) {Q : Oc → Wd → Prop} (kx : ∀ W : Wd, (Out sOM μ W ∧ ∀ i, i < 12 → gI W 353 i = 0) → WP Y_X11_laysOrder R_X11_laysOrder (0, 0) W 21 [(0, .ref 338), (1, .int (nI 12))] [] Q) : ∀ dd m (W : Wd), m + dd = 12 → (Out sOM μ W ∧ ∀ i, i < m → gI W 353 i = 0) → WP Y_X11_laysOrder R_X11_laysOrder (0, 0) W 2 [(0, .ref 338), (1, .int (nI m))] [] Q := by
  intro dd
  induction dd with
  | zero =>
    intro m W hm hI
    obtain rfl : 12 = m := by omega
    have hw := hI.1.1
    have hv := hv0.om hI.1
    refine lf (a_iload_n dX11_laysOrder_2 rfl) ?_
    refine lf (a_bipush (12 : Int32) dX11_laysOrder_3 (by decide)) ?_
    refine lf2 (a_icmp_ge (tgt := 21) dX11_laysOrder_5 (by decide)) (fun h5 => ?_) (fun h5 => absurd h5 (fun z => z (nI_le (b := 12) (Nat.le_refl _) (by omega))))
    exact lf (a_loc _ rfl) (kx W hI)
  | succ dd ih =>
    intro m W hm hI
    have hw := hI.1.1
    have hv := hv0.om hI.1
    have z := ih (m + 1)
    refine lf (a_iload_n dX11_laysOrder_2 rfl) ?_
    refine lf (a_bipush (12 : Int32) dX11_laysOrder_3 (by decide)) ?_
    refine lf2 (a_icmp_ge (tgt := 21) dX11_laysOrder_5 (by decide)) (fun h5 => absurd h5 (nI_ge (b := 12) (by omega) (by omega))) (fun h5 => ?_)
    refine lf (a_aload_n dX11_laysOrder_8 rfl) ?_
    refine lf (a_getR (cr_338_28 (by repeat (first | with_reducible exact hw | with_reducible exact hwc | with_reducible assumption | with_reducible apply Wf.sI | with_reducible apply Wf.sL | with_reducible apply Wf.cpI | with_reducible apply Wf.cpL | with_reducible apply Wf.cp2 | with_reducible apply Wf.sIs | with_reducible apply Wf.sLs | with_reducible apply Wf.cpU | with_reducible apply Wf.fillI | with_reducible apply Wf.clU | with_reducible apply Wf.dnF | with_reducible apply Wf.gbW))) dX11_laysOrder_9 fs_X11_58 rfl (co_338 (by repeat (first | with_reducible exact hw | with_reducible exact hwc | with_reducible assumption | with_reducible apply Wf.sI | with_reducible apply Wf.sL | with_reducible apply Wf.cpI | with_reducible apply Wf.cpL | with_reducible apply Wf.cp2 | with_reducible apply Wf.sIs | with_reducible apply Wf.sLs | with_reducible apply Wf.cpU | with_reducible apply Wf.fillI | with_reducible apply Wf.clU | with_reducible apply Wf.dnF | with_reducible apply Wf.gbW)))) ?_
    refine lf (a_iload_n dX11_laysOrder_12 rfl) ?_
    refine lf (a_iconst (0 : Int32) dX11_laysOrder_13 (by decide)) ?_
    refine lf (a_ist dX11_laysOrder_14 (ca_353 (by repeat (first | with_reducible exact hw | with_reducible exact hwc | with_reducible assumption | with_reducible apply Wf.sI | with_reducible apply Wf.sL | with_reducible apply Wf.cpI | with_reducible apply Wf.cpL | with_reducible apply Wf.cp2 | with_reducible apply Wf.sIs | with_reducible apply Wf.sLs | with_reducible apply Wf.cpU | with_reducible apply Wf.fillI | with_reducible apply Wf.clU | with_reducible apply Wf.dnF | with_reducible apply Wf.gbW))) (ixn (by omega) (by decide))) ?_
    refine lf (a_iincN dX11_laysOrder_15 rfl (by decide)) ?_
    refine lf (a_goto (tgt := 2) dX11_laysOrder_18 (by decide)) ?_
    refine lf (a_loc _ rfl) (z _ (by omega) ⟨?_, fun i hi => ?_⟩)
    · repeat (first | with_reducible exact hI.1 | with_reducible exact sOM3 | with_reducible refine Out.sI ?_ ?_ _ _)
    · simp only [gI_sI]
      by_cases h2 : i = m
      · simp [h2]
      · simp only [h2, and_false, if_false]; exact hI.2 i (by omega)
theorem l_X11_laysOrder_23 (hv0 : MdV μ q d) {Q : Oc → Wd → Prop} (kx : ∀ W : Wd, (Out sOM μ W ∧ ∀ i, i < 12 → gI W 353 i = itN (o1D q d) (fun _ => 0) (dP d) i) → WP Y_X11_laysOrder R_X11_laysOrder (0, 0) W 76 [(0, .ref 338), (1, .int (nI (dP d)))] [] Q) : ∀ dd m (W : Wd), m + dd = (dP d) → (Out sOM μ W ∧ ∀ i, i < 12 → gI W 353 i = itN (o1D q d) (fun _ => 0) m i) → WP Y_X11_laysOrder R_X11_laysOrder (0, 0) W 23 [(0, .ref 338), (1, .int (nI m))] [] Q := by
  have hM4 := hv0.M4
  have hP4 := hv0.P4
  intro dd
  induction dd with
  | zero =>
    intro m W hm hI
    obtain rfl : (dP d) = m := by omega
    have hw := hI.1.1
    have hv := hv0.om hI.1
    refine lf (a_iload_n dX11_laysOrder_23 rfl) ?_
    refine lf (a_aload_n dX11_laysOrder_24 rfl) ?_
    refine lf (a_getR (cr_338_6 hw) dX11_laysOrder_25 fs_X11_26 rfl (co_338 hw)) ?_
    refine lf (a_iconst (3 : Int32) dX11_laysOrder_28 (by decide)) ?_
    refine lf (a_ild dX11_laysOrder_29 (ca_344 hw) (ixn (m := 3) (by omega) (by decide))) ?_
    rw [hv.s3]
    refine lf2 (a_icmp_ge (tgt := 76) dX11_laysOrder_30 (by decide)) (fun h30 => ?_) (fun h30 => absurd h30 (fun z => z (nI_le (Nat.le_refl _) (by omega))))
    exact lf (a_loc _ rfl) (kx W hI)
  | succ dd ih =>
    intro m W hm hI
    have hw := hI.1.1
    have hv := hv0.om hI.1
    have z := ih (m + 1)
    rw [itN_succ] at z
    generalize itN (o1D q d) (fun _ => 0) m = um at z hI
    unfold o1D at z
    have hlt : ∀ b, chD q (fitD q (dF d 0 m) (dF d 1 m)) (pM q) = some b → b < pM q := fun b => chD_lt
    refine lf (a_iload_n dX11_laysOrder_23 rfl) ?_
    refine lf (a_aload_n dX11_laysOrder_24 rfl) ?_
    refine lf (a_getR (cr_338_6 (by repeat (first | with_reducible exact hw | with_reducible exact hwc | with_reducible assumption | with_reducible apply Wf.sI | with_reducible apply Wf.sL | with_reducible apply Wf.cpI | with_reducible apply Wf.cpL | with_reducible apply Wf.cp2 | with_reducible apply Wf.sIs | with_reducible apply Wf.sLs | with_reducible apply Wf.cpU | with_reducible apply Wf.fillI | with_reducible apply Wf.clU | with_reducible apply Wf.dnF | with_reducible apply Wf.gbW))) dX11_laysOrder_25 fs_X11_26 rfl (co_338 (by repeat (first | with_reducible exact hw | with_reducible exact hwc | with_reducible assumption | with_reducible apply Wf.sI | with_reducible apply Wf.sL | with_reducible apply Wf.cpI | with_reducible apply Wf.cpL | with_reducible apply Wf.cp2 | with_reducible apply Wf.sIs | with_reducible apply Wf.sLs | with_reducible apply Wf.cpU | with_reducible apply Wf.fillI | with_reducible apply Wf.clU | with_reducible apply Wf.dnF | with_reducible apply Wf.gbW)))) ?_
    refine lf (a_iconst (3 : Int32) dX11_laysOrder_28 (by decide)) ?_
    refine lf (a_ild dX11_laysOrder_29 (ca_344 (by repeat (first | with_reducible exact hw | with_reducible exact hwc | with_reducible assumption | with_reducible apply Wf.sI | with_reducible apply Wf.sL | with_reducible apply Wf.cpI | with_reducible apply Wf.cpL | with_reducible apply Wf.cp2 | with_reducible apply Wf.sIs | with_reducible apply Wf.sLs | with_reducible apply Wf.cpU | with_reducible apply Wf.fillI | with_reducible apply Wf.clU | with_reducible apply Wf.dnF | with_reducible apply Wf.gbW))) (ixn (m := 3) (by omega) (by decide))) ?_
    rw [hv.s3]
    refine lf2 (a_icmp_ge (tgt := 76) dX11_laysOrder_30 (by decide)) (fun h30 => absurd h30 (nI_ge (by omega) (by omega))) (fun h30 => ?_)
    refine lf (a_aload_n dX11_laysOrder_33 rfl) ?_
    refine lf (a_iload_n dX11_laysOrder_34 rfl) ?_
    refine lf (a_inv (b2 := (0, 0)) (m_isSpecial (by repeat (first | with_reducible exact hw | with_reducible exact hwc | with_reducible assumption | with_reducible apply Wf.sI | with_reducible apply Wf.sL | with_reducible apply Wf.cpI | with_reducible apply Wf.cpL | with_reducible apply Wf.cp2 | with_reducible apply Wf.sIs | with_reducible apply Wf.sLs | with_reducible apply Wf.cpU | with_reducible apply Wf.fillI | with_reducible apply Wf.clU | with_reducible apply Wf.dnF | with_reducible apply Wf.gbW)) hv (show m < dP d by omega)) rfl dX11_laysOrder_35 yk_X11_isSpecial im_X11_isSpecial se_X11_isSpecial ml_X11_306 rfl (co_338 (by repeat (first | with_reducible exact hw | with_reducible exact hwc | with_reducible assumption | with_reducible apply Wf.sI | with_reducible apply Wf.sL | with_reducible apply Wf.cpI | with_reducible apply Wf.cpL | with_reducible apply Wf.cp2 | with_reducible apply Wf.sIs | with_reducible apply Wf.sLs | with_reducible apply Wf.cpU | with_reducible apply Wf.fillI | with_reducible apply Wf.clU | with_reducible apply Wf.dnF | with_reducible apply Wf.gbW))) (by decide) hc_X11 (by decide) (by decide) (Nat.le_of_ble_eq_true rfl)) ?_
    refine lf2 (a_if_eq (tgt := 49) dX11_laysOrder_38 (by decide)) (fun h38 => ?_) (fun h38 => ?_)
    · have h38 := b10t.mp h38
      rw [if_pos h38] at z
      refine lf (a_iconst (-1 : Int32) dX11_laysOrder_49 (by decide)) ?_
      refine lf (a_istore_n dX11_laysOrder_50 (by decide)) ?_
      refine lf (a_iload_n dX11_laysOrder_51 rfl) ?_
      refine lf (a_iconst (-1 : Int32) dX11_laysOrder_52 (by decide)) ?_
      refine lf2 (a_icmp_eq (tgt := 70) dX11_laysOrder_53 (by decide)) (fun h53 => ?_) (fun h53 => absurd h53 (by decide))
      refine lf (a_iincN dX11_laysOrder_70 rfl (by decide)) ?_
      refine lf (a_goto (tgt := 23) dX11_laysOrder_73 (by decide)) ?_
      refine lf (a_loc _ rfl) (z _ (by omega) ⟨?_, fun i hi => ?_⟩)
      · repeat (first | with_reducible exact hI.1 | with_reducible exact sOM3 | with_reducible refine Out.sI ?_ ?_ _ _)
      · first
        | exact hI.2 i hi
        | (rw [gI_sI, hI.2 b (by omega)]
           unfold up1
           by_cases hx : i = b
           · simp [hx]
           · simp only [hx, and_false, if_false]; exact hI.2 i hi)
    · have h38 := b10f.mp h38
      rw [if_neg h38] at z
      refine lf (a_aload_n dX11_laysOrder_41 rfl) ?_
      refine lf (a_iload_n dX11_laysOrder_42 rfl) ?_
      refine lf (a_inv (b2 := (0, 0)) (m_cheapest (by repeat (first | with_reducible exact hw | with_reducible exact hwc | with_reducible assumption | with_reducible apply Wf.sI | with_reducible apply Wf.sL | with_reducible apply Wf.cpI | with_reducible apply Wf.cpL | with_reducible apply Wf.cp2 | with_reducible apply Wf.sIs | with_reducible apply Wf.sLs | with_reducible apply Wf.cpU | with_reducible apply Wf.fillI | with_reducible apply Wf.clU | with_reducible apply Wf.dnF | with_reducible apply Wf.gbW)) hv (show m < dP d by omega)) rfl dX11_laysOrder_43 yk_X11_cheapest im_X11_cheapest se_X11_cheapest ml_X11_321 rfl (co_338 (by repeat (first | with_reducible exact hw | with_reducible exact hwc | with_reducible assumption | with_reducible apply Wf.sI | with_reducible apply Wf.sL | with_reducible apply Wf.cpI | with_reducible apply Wf.cpL | with_reducible apply Wf.cp2 | with_reducible apply Wf.sIs | with_reducible apply Wf.sLs | with_reducible apply Wf.cpU | with_reducible apply Wf.fillI | with_reducible apply Wf.clU | with_reducible apply Wf.dnF | with_reducible apply Wf.gbW))) (by decide) hc_X11 (by decide) (by decide) (Nat.le_of_ble_eq_true rfl)) ?_
      generalize chD q (fitD q (dF d 0 m) (dF d 1 m)) (pM q) = a at hlt z ⊢
      refine lf (a_goto (tgt := 50) dX11_laysOrder_46 (by decide)) ?_
      refine lf (a_istore_n dX11_laysOrder_50 (by decide)) ?_
      refine lf (a_iload_n dX11_laysOrder_51 rfl) ?_
      refine lf (a_iconst (-1 : Int32) dX11_laysOrder_52 (by decide)) ?_
      refine lf2 (a_icmp_eq (tgt := 70) dX11_laysOrder_53 (by decide)) (fun h53 => ?_) (fun h53 => ?_)
      · have ha : a = none := by
          cases a with
          | none => rfl
          | some b => exact absurd h53 (nI_ne1 (by have := hlt b rfl; omega))
        subst ha
        refine lf (a_iincN dX11_laysOrder_70 rfl (by decide)) ?_
        refine lf (a_goto (tgt := 23) dX11_laysOrder_73 (by decide)) ?_
        refine lf (a_loc _ rfl) (z _ (by omega) ⟨?_, fun i hi => ?_⟩)
        · repeat (first | with_reducible exact hI.1 | with_reducible exact sOM3 | with_reducible refine Out.sI ?_ ?_ _ _)
        · first
          | exact hI.2 i hi
          | (rw [gI_sI, hI.2 b (by omega)]
             unfold up1
             by_cases hx : i = b
             · simp [hx]
             · simp only [hx, and_false, if_false]; exact hI.2 i hi)
      · obtain ⟨b, rfl⟩ : ∃ b, a = some b := by
          cases a with
          | none => exact absurd rfl h53
          | some b => exact ⟨b, rfl⟩
        have hb := hlt b rfl
        refine lf (a_aload_n dX11_laysOrder_56 rfl) ?_
        refine lf (a_getR (cr_338_28 (by repeat (first | with_reducible exact hw | with_reducible exact hwc | with_reducible assumption | with_reducible apply Wf.sI | with_reducible apply Wf.sL | with_reducible apply Wf.cpI | with_reducible apply Wf.cpL | with_reducible apply Wf.cp2 | with_reducible apply Wf.sIs | with_reducible apply Wf.sLs | with_reducible apply Wf.cpU | with_reducible apply Wf.fillI | with_reducible apply Wf.clU | with_reducible apply Wf.dnF | with_reducible apply Wf.gbW))) dX11_laysOrder_57 fs_X11_58 rfl (co_338 (by repeat (first | with_reducible exact hw | with_reducible exact hwc | with_reducible assumption | with_reducible apply Wf.sI | with_reducible apply Wf.sL | with_reducible apply Wf.cpI | with_reducible apply Wf.cpL | with_reducible apply Wf.cp2 | with_reducible apply Wf.sIs | with_reducible apply Wf.sLs | with_reducible apply Wf.cpU | with_reducible apply Wf.fillI | with_reducible apply Wf.clU | with_reducible apply Wf.dnF | with_reducible apply Wf.gbW)))) ?_
        refine lf (a_iload_n dX11_laysOrder_60 rfl) ?_
        refine lf (a_aload_n dX11_laysOrder_61 rfl) ?_
        refine lf (a_getR (cr_338_28 (by repeat (first | with_reducible exact hw | with_reducible exact hwc | with_reducible assumption | with_reducible apply Wf.sI | with_reducible apply Wf.sL | with_reducible apply Wf.cpI | with_reducible apply Wf.cpL | with_reducible apply Wf.cp2 | with_reducible apply Wf.sIs | with_reducible apply Wf.sLs | with_reducible apply Wf.cpU | with_reducible apply Wf.fillI | with_reducible apply Wf.clU | with_reducible apply Wf.dnF | with_reducible apply Wf.gbW))) dX11_laysOrder_62 fs_X11_58 rfl (co_338 (by repeat (first | with_reducible exact hw | with_reducible exact hwc | with_reducible assumption | with_reducible apply Wf.sI | with_reducible apply Wf.sL | with_reducible apply Wf.cpI | with_reducible apply Wf.cpL | with_reducible apply Wf.cp2 | with_reducible apply Wf.sIs | with_reducible apply Wf.sLs | with_reducible apply Wf.cpU | with_reducible apply Wf.fillI | with_reducible apply Wf.clU | with_reducible apply Wf.dnF | with_reducible apply Wf.gbW)))) ?_
        refine lf (a_iload_n dX11_laysOrder_65 rfl) ?_
        refine lf (a_ild dX11_laysOrder_66 (ca_353 (by repeat (first | with_reducible exact hw | with_reducible exact hwc | with_reducible assumption | with_reducible apply Wf.sI | with_reducible apply Wf.sL | with_reducible apply Wf.cpI | with_reducible apply Wf.cpL | with_reducible apply Wf.cp2 | with_reducible apply Wf.sIs | with_reducible apply Wf.sLs | with_reducible apply Wf.cpU | with_reducible apply Wf.fillI | with_reducible apply Wf.clU | with_reducible apply Wf.dnF | with_reducible apply Wf.gbW))) (ixn (by omega) (by decide))) ?_
        refine lf (a_iconst (1 : Int32) dX11_laysOrder_67 (by decide)) ?_
        refine lf (a_iadd dX11_laysOrder_68) ?_
        refine lf (a_ist dX11_laysOrder_69 (ca_353 (by repeat (first | with_reducible exact hw | with_reducible exact hwc | with_reducible assumption | with_reducible apply Wf.sI | with_reducible apply Wf.sL | with_reducible apply Wf.cpI | with_reducible apply Wf.cpL | with_reducible apply Wf.cp2 | with_reducible apply Wf.sIs | with_reducible apply Wf.sLs | with_reducible apply Wf.cpU | with_reducible apply Wf.fillI | with_reducible apply Wf.clU | with_reducible apply Wf.dnF | with_reducible apply Wf.gbW))) (ixn (show b < 12 by omega) (by decide))) ?_
        refine lf (a_iincN dX11_laysOrder_70 rfl (by decide)) ?_
        refine lf (a_goto (tgt := 23) dX11_laysOrder_73 (by decide)) ?_
        refine lf (a_loc _ rfl) (z _ (by omega) ⟨?_, fun i hi => ?_⟩)
        · repeat (first | with_reducible exact hI.1 | with_reducible exact sOM3 | with_reducible refine Out.sI ?_ ?_ _ _)
        · first
          | exact hI.2 i hi
          | (rw [gI_sI, hI.2 b (by omega)]
             unfold up1
             by_cases hx : i = b
             · simp [hx]
             · simp only [hx, and_false, if_false]; exact hI.2 i hi)
theorem l_X11_laysOrder_78 (hv0 : MdV μ q d) (hq0 : GdP q) (hd0 : GdD q d) {u0 : Nat → Int32} {Q : Oc → Wd → Prop} (kx : ∀ W : Wd, (Out sOM μ W ∧ ∀ i, i < 12 → gI W 353 i = itN (o2D q d) u0 (pC q) i) → WP Y_X11_laysOrder R_X11_laysOrder (0, 0) W 97 [(0, .ref 338), (1, .int (nI (pC q)))] [] Q) : ∀ dd m (W : Wd), m + dd = (pC q) → (Out sOM μ W ∧ ∀ i, i < 12 → gI W 353 i = itN (o2D q d) u0 m i) → WP Y_X11_laysOrder R_X11_laysOrder (0, 0) W 78 [(0, .ref 338), (1, .int (nI m))] [] Q := by
  have hC4 := hv0.C4
  intro dd
  induction dd with
  | zero =>
    intro m W hm hI
    obtain rfl : (pC q) = m := by omega
    have hw := hI.1.1
    have hv := hv0.om hI.1
    refine lf (a_iload_n dX11_laysOrder_78 rfl) ?_
    refine lf (a_aload_n dX11_laysOrder_79 rfl) ?_
    refine lf (a_inv (b2 := (0, 0)) (m_cabins hw hv) rfl dX11_laysOrder_80 yk_X11_cabins im_X11_cabins se_X11_cabins ml_X11_324 rfl (co_338 hw) (by decide) hc_X11 (by decide) (by decide) (Nat.le_of_ble_eq_true rfl)) ?_
    refine lf2 (a_icmp_ge (tgt := 97) dX11_laysOrder_83 (by decide)) (fun h83 => ?_) (fun h83 => absurd h83 (fun z => z (nI_le (Nat.le_refl _) (by omega))))
    exact lf (a_loc _ rfl) (kx W hI)
  | succ dd ih =>
    intro m W hm hI
    have hw := hI.1.1
    have hv := hv0.om hI.1
    have z := ih (m + 1)
    rw [itN_succ] at z
    refine lf (a_iload_n dX11_laysOrder_78 rfl) ?_
    refine lf (a_aload_n dX11_laysOrder_79 rfl) ?_
    refine lf (a_inv (b2 := (0, 0)) (m_cabins (by repeat (first | with_reducible exact hw | with_reducible exact hwc | with_reducible assumption | with_reducible apply Wf.sI | with_reducible apply Wf.sL | with_reducible apply Wf.cpI | with_reducible apply Wf.cpL | with_reducible apply Wf.cp2 | with_reducible apply Wf.sIs | with_reducible apply Wf.sLs | with_reducible apply Wf.cpU | with_reducible apply Wf.fillI | with_reducible apply Wf.clU | with_reducible apply Wf.dnF | with_reducible apply Wf.gbW)) hv) rfl dX11_laysOrder_80 yk_X11_cabins im_X11_cabins se_X11_cabins ml_X11_324 rfl (co_338 (by repeat (first | with_reducible exact hw | with_reducible exact hwc | with_reducible assumption | with_reducible apply Wf.sI | with_reducible apply Wf.sL | with_reducible apply Wf.cpI | with_reducible apply Wf.cpL | with_reducible apply Wf.cp2 | with_reducible apply Wf.sIs | with_reducible apply Wf.sLs | with_reducible apply Wf.cpU | with_reducible apply Wf.fillI | with_reducible apply Wf.clU | with_reducible apply Wf.dnF | with_reducible apply Wf.gbW))) (by decide) hc_X11 (by decide) (by decide) (Nat.le_of_ble_eq_true rfl)) ?_
    refine lf2 (a_icmp_ge (tgt := 97) dX11_laysOrder_83 (by decide)) (fun h83 => absurd h83 (nI_ge (by omega) (by omega))) (fun h83 => ?_)
    refine lf (a_aload_n dX11_laysOrder_86 rfl) ?_
    refine lf (a_iload_n dX11_laysOrder_87 rfl) ?_
    obtain ⟨v_, W88, k88, rfl, hO, hu⟩ := (m_ordersFor hw hv hq0 hd0 (show m < pC q by omega) hI.2)
    refine lf (a_inv (b2 := (0, 0)) k88 rfl dX11_laysOrder_88 yk_X11_ordersFor im_X11_ordersFor se_X11_ordersFor ml_X11_327 rfl (co_338 (by repeat (first | with_reducible exact hw | with_reducible exact hwc | with_reducible assumption | with_reducible apply Wf.sI | with_reducible apply Wf.sL | with_reducible apply Wf.cpI | with_reducible apply Wf.cpL | with_reducible apply Wf.cp2 | with_reducible apply Wf.sIs | with_reducible apply Wf.sLs | with_reducible apply Wf.cpU | with_reducible apply Wf.fillI | with_reducible apply Wf.clU | with_reducible apply Wf.dnF | with_reducible apply Wf.gbW))) (by decide) hc_X11 (by decide) (by decide) (Nat.le_of_ble_eq_true rfl)) ?_
    refine lf (a_iincN dX11_laysOrder_91 rfl (by decide)) ?_
    refine lf (a_goto (tgt := 78) dX11_laysOrder_94 (by decide)) ?_
    exact lf (a_loc _ rfl) (z _ (by omega) ⟨hI.1.trans hO, hu⟩)
theorem m_laysOrder (hw : Wf μ) (hv : MdV μ q d) (hq0 : GdP q) (hd0 : GdD q d) : CV Y_X11_laysOrder R_X11_laysOrder [.ref 338] μ (fun v V => v = none ∧ Out sOM μ V ∧ ∀ i, i < 12 → gI V 353 i = orD q d i) := by
  refine CV.ent yk_X11_laysOrder (Nat.le_of_ble_eq_true rfl) ?_
  refine lf (a_iconst (0 : Int32) dX11_laysOrder_0 (by decide)) ?_
  refine lf (a_istore_n dX11_laysOrder_1 (by decide)) ?_
  refine lf (a_loc [(0, .ref 338), (1, .int (nI 0))] rfl) (l_X11_laysOrder_2 hv (fun W hI => ?_) 12 0 μ (by omega) ⟨Out.rfl' hw, fun i hi => absurd hi (Nat.not_lt_zero i)⟩)
  refine lf (a_iconst (0 : Int32) dX11_laysOrder_21 (by decide)) ?_
  refine lf (a_istore_n dX11_laysOrder_22 (by decide)) ?_
  refine lf (a_loc [(0, .ref 338), (1, .int (nI 0))] rfl) (l_X11_laysOrder_23 hv (fun W1 hI1 => ?_) (dP d) 0 W (by omega) hI)
  refine lf (a_iconst (0 : Int32) dX11_laysOrder_76 (by decide)) ?_
  refine lf (a_istore_n dX11_laysOrder_77 (by decide)) ?_
  refine lf (a_loc [(0, .ref 338), (1, .int (nI 0))] rfl) (l_X11_laysOrder_78 hv hq0 hd0 (u0 := itN (o1D q d) (fun _ => 0) (dP d)) (fun W2 hI2 => ?_) (pC q) 0 W1 (by omega) hI1)
  exact ⟨_, _, (a_return dX11_laysOrder_97 rfl), _, rfl, rfl, hI2.1, hI2.2⟩
abbrev R_X11_missingOf : Room := { frames := 2, cells := 0, slots := 0, locals := 44 }
abbrev RX_X11_missingOf : Room := { frames := 2, cells := 1, slots := 6, locals := 44 }

theorem m_missingOf (hw : Wf μ) (hv : MdV μ q d) {k : Nat} (hk : k < 12) {n : Int32} (hn : gI μ 353 k = n) : Ct Y_X11_missingOf R_X11_missingOf [.ref 338, .int (nI k)] μ (.inl (some (.int (msD q d k n)))) μ := by
  refine Ct.ent yk_X11_missingOf (Nat.le_of_ble_eq_true rfl) ?_
  refine a_aload_n dX11_missingOf_0 rfl ?_
  refine a_getR (cr_338_28 hw) dX11_missingOf_1 fs_X11_58 rfl (co_338 hw) ?_
  refine a_iload_n dX11_missingOf_4 rfl ?_
  refine a_ild dX11_missingOf_5 (ca_353 hw) (ixn (by omega) (by decide)) ?_
  rw [hn]
  refine a_aload_n dX11_missingOf_6 rfl ?_
  refine a_iload_n dX11_missingOf_7 rfl ?_
  refine a_inv (b2 := (0, 0)) (m_loadedOf hw hv hk) rfl dX11_missingOf_8 yk_X11_loadedOf im_X11_loadedOf se_X11_loadedOf ml_X11_336 rfl (co_338 hw) (by decide) hc_X11 (by decide) (by decide) (Nat.le_of_ble_eq_true rfl) ?_
  refine a_isub dX11_missingOf_11 ?_
  refine a_aload_n dX11_missingOf_12 rfl ?_
  refine a_iload_n dX11_missingOf_13 rfl ?_
  refine a_inv (b2 := (0, 0)) (m_comingOf hw hv (nI k)) rfl dX11_missingOf_14 yk_X11_comingOf im_X11_comingOf se_X11_comingOf ml_X11_339 rfl (co_338 hw) (by decide) hc_X11 (by decide) (by decide) (Nat.le_of_ble_eq_true rfl) ?_
  refine a_isub dX11_missingOf_17 ?_
  refine a_istore_n dX11_missingOf_18 (by decide) ?_
  refine a_iload_n dX11_missingOf_19 rfl ?_
  refine a_if_le (tgt := 27) dX11_missingOf_20 (by decide) (fun h20 => ?_) (fun h20 => ?_)
  · refine a_iconst (0 : Int32) dX11_missingOf_27 (by decide) ?_
    exact a_out (by first | (rw [msD, if_pos (Int32.not_le.mp h20)]) | (rw [msD, if_neg (fun z => Int32.not_le.mpr z h20)])) rfl (a_ireturn dX11_missingOf_28 rfl rfl)
  · refine a_iload_n dX11_missingOf_23 rfl ?_
    refine a_goto (tgt := 28) dX11_missingOf_24 (by decide) ?_
    exact a_out (by first | (rw [msD, if_pos (Int32.not_le.mp h20)]) | (rw [msD, if_neg (fun z => Int32.not_le.mpr z h20)])) rfl (a_ireturn dX11_missingOf_28 rfl rfl)
abbrev R_X11_orderUnits : Room := { frames := 6, cells := 0, slots := 0, locals := 136 }
abbrev RX_X11_orderUnits : Room := { frames := 6, cells := 1, slots := 6, locals := 136 }

theorem l_X11_orderUnits_8 (hw : Wf μ) {u : Nat → Int32} (hu : ∀ i, i < 12 → gI μ 353 i = u i) {o : Oc} {μ1 : Wd} (kx : AW Y_X11_orderUnits R_X11_orderUnits (0, 0) μ 29 [(0, .ref 338), (1, .int (itN (fun i a => a + u i) 0 12)), (2, .int (nI 12))] [] o μ1) : ∀ dd m, m + dd = 12 → AW Y_X11_orderUnits R_X11_orderUnits (0, 0) μ 8 [(0, .ref 338), (1, .int (itN (fun i a => a + u i) 0 m)), (2, .int (nI m))] [] o μ1 := by
  intro dd
  induction dd with
  | zero =>
    intro m hm
    obtain rfl : 12 = m := by omega
    refine a_iload_n dX11_orderUnits_8 rfl ?_
    refine a_bipush (12 : Int32) dX11_orderUnits_9 (by decide) ?_
    refine a_icmp_ge (tgt := 29) dX11_orderUnits_11 (by decide) (fun h11 => ?_) (fun h11 => absurd h11 (fun z => z (nI_le (b := 12) (Nat.le_refl _) (by decide))))
    exact a_loc _ rfl kx
  | succ dd ih =>
    intro m hm
    have qih := ih (m + 1) (by omega)
    rw [itN_succ] at qih
    refine a_iload_n dX11_orderUnits_8 rfl ?_
    refine a_bipush (12 : Int32) dX11_orderUnits_9 (by decide) ?_
    refine a_icmp_ge (tgt := 29) dX11_orderUnits_11 (by decide) (fun h11 => absurd h11 (nI_ge (b := 12) (by omega) (by decide))) (fun h11 => ?_)
    refine a_iload_n dX11_orderUnits_14 rfl ?_
    refine a_aload_n dX11_orderUnits_15 rfl ?_
    refine a_getR (cr_338_28 hw) dX11_orderUnits_16 fs_X11_58 rfl (co_338 hw) ?_
    refine a_iload_n dX11_orderUnits_19 rfl ?_
    refine a_ild dX11_orderUnits_20 (ca_353 hw) (ixn (by omega) (by decide)) ?_
    rw [hu m (by omega)]
    refine a_iadd dX11_orderUnits_21 ?_
    refine a_istore_n dX11_orderUnits_22 (by decide) ?_
    refine a_iincN dX11_orderUnits_23 rfl (by decide) ?_
    refine a_goto (tgt := 8) dX11_orderUnits_26 (by decide) ?_
    exact a_loc _ rfl qih
theorem m_orderUnits (hw : Wf μ) (hv : MdV μ q d) (hq0 : GdP q) (hd0 : GdD q d) : CV Y_X11_orderUnits R_X11_orderUnits [.ref 338] μ (fun v V => v = some (.int (itN (fun i a => a + orD q d i) 0 12)) ∧ Out sOM μ V) := by
  refine CV.ent yk_X11_orderUnits (Nat.le_of_ble_eq_true rfl) ?_
  refine lf (a_aload_n dX11_orderUnits_0 rfl) ?_
  obtain ⟨v_, W1, k1, rfl, hO, hu⟩ := (m_laysOrder hw hv hq0 hd0)
  refine lf (a_inv (b2 := (0, 0)) k1 rfl dX11_orderUnits_1 yk_X11_laysOrder im_X11_laysOrder se_X11_laysOrder ml_X11_354 rfl (co_338 hw) (by decide) hc_X11 (by decide) (by decide) (Nat.le_of_ble_eq_true rfl)) ?_
  refine lf (a_iconst (0 : Int32) dX11_orderUnits_4 (by decide)) ?_
  refine lf (a_istore_n dX11_orderUnits_5 (by decide)) ?_
  refine lf (a_iconst (0 : Int32) dX11_orderUnits_6 (by decide)) ?_
  refine lf (a_istore_n dX11_orderUnits_7 (by decide)) ?_
  exact ⟨_, _, a_loc [(0, .ref 338), (1, .int (itN (fun i a => a + orD q d i) 0 0)), (2, .int (nI 0))] rfl (l_X11_orderUnits_8 hO.1 hu (a_iload_n dX11_orderUnits_29 rfl (a_ireturn dX11_orderUnits_30 rfl rfl)) 12 0 (by omega)), _, rfl, rfl, hO⟩
abbrev R_X11_orderSlots : Room := { frames := 6, cells := 0, slots := 0, locals := 136 }
abbrev RX_X11_orderSlots : Room := { frames := 6, cells := 1, slots := 6, locals := 136 }

theorem l_X11_orderSlots_8 (hw : Wf μ) (hv : MdV μ q d) {u : Nat → Int32} (hu : ∀ i, i < 12 → gI μ 353 i = u i) (c : Int32) {o : Oc} {μ1 : Wd} (kx : AW Y_X11_orderSlots R_X11_orderSlots (0, 0) μ 52 [(0, .ref 338), (1, .int c), (2, .int (itN (fun i a => if pF q 2 i = c then a + u i * pF q 4 i else a) 0 (pM q))), (3, .int (nI (pM q)))] [] o μ1) : ∀ dd m, m + dd = pM q → AW Y_X11_orderSlots R_X11_orderSlots (0, 0) μ 8 [(0, .ref 338), (1, .int c), (2, .int (itN (fun i a => if pF q 2 i = c then a + u i * pF q 4 i else a) 0 m)), (3, .int (nI m))] [] o μ1 := by
  have hM4 := hv.M4
  intro dd
  induction dd with
  | zero =>
    intro m hm
    obtain rfl : pM q = m := by omega
    refine a_iload_n dX11_orderSlots_8 rfl ?_
    refine a_aload_n dX11_orderSlots_9 rfl ?_
    refine a_inv (b2 := (0, 0)) (m_meals hw hv) rfl dX11_orderSlots_10 yk_X11_meals im_X11_meals se_X11_meals ml_X11_300 rfl (co_338 hw) (by decide) hc_X11 (by decide) (by decide) (Nat.le_of_ble_eq_true rfl) ?_
    refine a_icmp_ge (tgt := 52) dX11_orderSlots_13 (by decide) (fun h13 => ?_) (fun h13 => absurd h13 (fun z => z (nI_le (Nat.le_refl _) (by omega))))
    exact a_loc _ rfl kx
  | succ dd ih =>
    intro m hm
    have qih := ih (m + 1) (by omega)
    rw [itN_succ] at qih
    refine a_iload_n dX11_orderSlots_8 rfl ?_
    refine a_aload_n dX11_orderSlots_9 rfl ?_
    refine a_inv (b2 := (0, 0)) (m_meals hw hv) rfl dX11_orderSlots_10 yk_X11_meals im_X11_meals se_X11_meals ml_X11_300 rfl (co_338 hw) (by decide) hc_X11 (by decide) (by decide) (Nat.le_of_ble_eq_true rfl) ?_
    refine a_icmp_ge (tgt := 52) dX11_orderSlots_13 (by decide) (fun h13 => absurd h13 (nI_ge (by omega) (by omega))) (fun h13 => ?_)
    refine a_aload_n dX11_orderSlots_16 rfl ?_
    refine a_iload_n dX11_orderSlots_17 rfl ?_
    refine a_iconst (0 : Int32) dX11_orderSlots_18 (by decide) ?_
    refine a_inv (b2 := (0, 0)) (m_ofMeal0 hw hv (show m < pM q by omega)) rfl dX11_orderSlots_19 yk_X11_ofMeal im_X11_ofMeal se_X11_ofMeal ml_X11_297 rfl (co_338 hw) (by decide) hc_X11 (by decide) (by decide) (Nat.le_of_ble_eq_true rfl) ?_
    refine a_iload_n dX11_orderSlots_22 rfl ?_
    refine a_icmp_ne (tgt := 44) dX11_orderSlots_23 (by decide) (fun h23 => ?_) (fun h23 => ?_)
    · rw [if_neg h23] at qih
      refine a_iload_n dX11_orderSlots_44 rfl ?_
      refine a_istore_n dX11_orderSlots_45 (by decide) ?_
      refine a_iincN dX11_orderSlots_46 rfl (by decide) ?_
      refine a_goto (tgt := 8) dX11_orderSlots_49 (by decide) ?_
      exact a_loc _ rfl qih
    · rw [if_pos h23] at qih
      refine a_iload_n dX11_orderSlots_26 rfl ?_
      refine a_aload_n dX11_orderSlots_27 rfl ?_
      refine a_getR (cr_338_28 hw) dX11_orderSlots_28 fs_X11_58 rfl (co_338 hw) ?_
      refine a_iload_n dX11_orderSlots_31 rfl ?_
      refine a_ild dX11_orderSlots_32 (ca_353 hw) (ixn (by omega) (by decide)) ?_
      rw [hu m (by omega)]
      refine a_aload_n dX11_orderSlots_33 rfl ?_
      refine a_iload_n dX11_orderSlots_34 rfl ?_
      refine a_iconst (2 : Int32) dX11_orderSlots_35 (by decide) ?_
      refine a_inv (b2 := (0, 0)) (m_ofMeal2 hw hv (show m < pM q by omega)) rfl dX11_orderSlots_36 yk_X11_ofMeal im_X11_ofMeal se_X11_ofMeal ml_X11_297 rfl (co_338 hw) (by decide) hc_X11 (by decide) (by decide) (Nat.le_of_ble_eq_true rfl) ?_
      refine a_imul dX11_orderSlots_39 ?_
      refine a_iadd dX11_orderSlots_40 ?_
      refine a_goto (tgt := 45) dX11_orderSlots_41 (by decide) ?_
      refine a_istore_n dX11_orderSlots_45 (by decide) ?_
      refine a_iincN dX11_orderSlots_46 rfl (by decide) ?_
      refine a_goto (tgt := 8) dX11_orderSlots_49 (by decide) ?_
      exact a_loc _ rfl qih
theorem m_orderSlots (hw : Wf μ) (hv : MdV μ q d) (hq0 : GdP q) (hd0 : GdD q d) (c : Int32) : CV Y_X11_orderSlots R_X11_orderSlots [.ref 338, .int c] μ (fun v V => v = some (.int (itN (fun i a => if pF q 2 i = c then a + orD q d i * pF q 4 i else a) 0 (pM q))) ∧ Out sOM μ V) := by
  refine CV.ent yk_X11_orderSlots (Nat.le_of_ble_eq_true rfl) ?_
  refine lf (a_aload_n dX11_orderSlots_0 rfl) ?_
  obtain ⟨v_, W1, k1, rfl, hO, hu⟩ := (m_laysOrder hw hv hq0 hd0)
  refine lf (a_inv (b2 := (0, 0)) k1 rfl dX11_orderSlots_1 yk_X11_laysOrder im_X11_laysOrder se_X11_laysOrder ml_X11_354 rfl (co_338 hw) (by decide) hc_X11 (by decide) (by decide) (Nat.le_of_ble_eq_true rfl)) ?_
  refine lf (a_iconst (0 : Int32) dX11_orderSlots_4 (by decide)) ?_
  refine lf (a_istore_n dX11_orderSlots_5 (by decide)) ?_
  refine lf (a_iconst (0 : Int32) dX11_orderSlots_6 (by decide)) ?_
  refine lf (a_istore_n dX11_orderSlots_7 (by decide)) ?_
  exact ⟨_, _, a_loc [(0, .ref 338), (1, .int c), (2, .int (itN (fun i a => if pF q 2 i = c then a + orD q d i * pF q 4 i else a) 0 0)), (3, .int (nI 0))] rfl (l_X11_orderSlots_8 hO.1 (hv.om hO) hu c (a_iload_n dX11_orderSlots_52 rfl (a_ireturn dX11_orderSlots_53 rfl rfl)) (pM q) 0 (by omega)), _, rfl, rfl, hO⟩
end MODELO
