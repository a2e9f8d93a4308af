section OUTLOOKM
variable {μ W V : Wd} {q : PDt} {d : FDt} {G : Nat → Option Nat} {rs : Nat → Nat}
def eaI (G : Nat → Option Nat) (P : Nat) (c : Int32) : Int32 := itN (fun i a => if oI (G i) = c then a + 1 else a) 0 P
def sfI (d : FDt) (G : Nat → Option Nat) (P : Nat) : Int32 := itN (fun i a => if dF d 1 i = 0 then a else if oI (G i) = -1 then a else a + 1) 0 P
def wiI (d : FDt) (G : Nat → Option Nat) (P : Nat) : Int32 := itN (fun i a => if dF d 1 i = 0 then (if oI (G i) = -1 then a else if oI (G i) = dF d 2 i then a + 1 else a) else a) 0 P
def wcI (q : PDt) (d : FDt) (G : Nat → Option Nat) : Int32 := itN (fun m a => a + (ldD q d m - eaI G (dP d) (nI m)) * pF q 5 m) 0 (pM q)
theorem oI_none {x : Option Nat} (h : ∀ m, x = some m → m < 2 ^ 31) : oI x = -1 ↔ x = none := by
  cases x with
  | none => exact ⟨fun _ => rfl, fun _ => rfl⟩
  | some m => exact ⟨fun z => absurd z (nI_ne1 (h m rfl)), fun z => nomatch z⟩
theorem ea_some {P m : Nat} (hG : ∀ i x, i < P → G i = some x → x < 2 ^ 31) (hm : m < 2 ^ 31) : eaI G P (nI m) = nI (cntG G P m) := by
  unfold eaI
  rw [cntI]
  refine congrArg nI (fb_ct_cong fun i hi => decide_eq_decide.mpr ?_)
  exact tI_eq (x := none) (y := G i) hm (fun x e => hG i x hi e) (fun z => nomatch z)
theorem ea_none {P : Nat} (hG : ∀ i x, i < P → G i = some x → x < 2 ^ 31) : eaI G P (-1) = nI (P - szG G P) := by
  unfold eaI
  rw [cntI]
  refine congrArg nI ?_
  have h := fb_ct_not (fun i => decide (oI (G i) = -1)) P
  have e : fb_ct (fun k => !decide (oI (G k) = -1)) P = szG G P := fb_ct_cong fun i hi => by
    cases ei : G i with
    | none => rfl
    | some x =>
      have : ¬ oI (some x) = -1 := fun z => nI_ne1 (n := x) (hG i x hi ei) z
      rw [decide_eq_false this]; rfl
  omega
theorem svD_sp {g : Nat → Option Nat} {rs0 : Nat → Nat} : ∀ n i, ¬ dF d 1 i = 0 → (svD q d g rs0 n).1 i = g i := by
  intro n
  induction n with
  | zero => intro i _; rfl
  | succ n ih =>
    intro i hi
    rw [svD_succ]
    by_cases h0 : dF d 1 n = 0
    · rw [plS_0 h0]
      show up1 _ n _ i = g i
      rw [up1_ne (fun z => hi (by rw [z]; exact h0))]
      exact ih i hi
    · rw [plS_1 h0]; exact ih i hi
/-- what holds of a service -/
theorem SvS.facts {n : Nat} (hM : pM q ≤ 12) (hwi : WiD q d) (h : SvS q d G rs n) : (∀ m, m < pM q → rs m + cntG G (dP d) m = ldN q d m) ∧ (∀ i m, i < dP d → G i = some m → m < pM q) ∧ fb_ct (fun i => decide (¬ dF d 1 i = 0 ∧ G i ≠ none)) (dP d) = n := by
  obtain ⟨g, hlex, e⟩ := h
  have hP := svD_P hM hwi (SvP.of hlex) (dP d) (Nat.le_refl _)
  rw [← e] at hP
  refine ⟨hP.1, hP.2.2, ?_⟩
  rw [← hlex.1.2.1]
  refine fb_ct_cong fun i hi => ?_
  have eG : G i = (svD q d g (fun m => ldN q d m - cntG g (dP d) m) (dP d)).1 i := congrFun (congrArg Prod.fst e) i
  by_cases h0 : dF d 1 i = 0
  · rw [lex_plain hlex hi h0, decide_eq_false (fun z => z.1 h0)]; rfl
  · rw [eG, svD_sp _ _ h0]
    cases g i with
    | none => exact decide_eq_false (fun z => z.2 rfl)
    | some m => exact decide_eq_true ⟨h0, fun z => nomatch z⟩
theorem sf_N {P : Nat} (hG : ∀ i x, i < P → G i = some x → x < 2 ^ 31) : sfI d G P = nI (fb_ct (fun i => decide (¬ dF d 1 i = 0 ∧ G i ≠ none)) P) := by
  unfold sfI
  rw [← cntI]
  refine itN_congr rfl fun i x hi => ?_
  have hn := oI_none (fun m e => hG i m hi e)
  by_cases h0 : dF d 1 i = 0
  · rw [if_pos h0, if_neg (fun z => z.1 h0)]
  · rw [if_neg h0]
    by_cases h1 : G i = none
    · rw [if_pos (hn.mpr h1), if_neg (fun z => z.2 h1)]
    · rw [if_neg (fun z => h1 (hn.mp z)), if_pos ⟨h0, h1⟩]
theorem wi_N {P : Nat} (hG : ∀ i x, i < P → G i = some x → x < 2 ^ 31) : wiI d G P = nI (wmG d G P) := by
  unfold wiI wmG
  rw [← cntI]
  refine itN_congr rfl fun i x hi => ?_
  have hn := oI_none (fun m e => hG i m hi e)
  by_cases h0 : dF d 1 i = 0
  · rw [if_pos h0]
    by_cases h1 : G i = none
    · rw [if_pos (hn.mpr h1), if_neg (fun z => z.2.1 h1)]
    · rw [if_neg (fun z => h1 (hn.mp z))]
      by_cases h2 : oI (G i) = dF d 2 i
      · rw [if_pos h2, if_pos ⟨h0, h1, h2⟩]
      · rw [if_neg h2, if_neg (fun z => h2 z.2.2)]
  · rw [if_neg h0, if_neg (fun z => h0 z.1)]
theorem wc_N (hq : GdP q) (hd : GdD q d) (hf : ∀ m, m < pM q → rs m + cntG G (dP d) m = ldN q d m) (hG : ∀ i m, i < dP d → G i = some m → m < pM q) : wcI q d G = wcS q rs (pM q) := by
  have hM := hq.M4
  refine itN_congr rfl fun m a hm => ?_
  rw [ea_some (fun i x hi e => by have := hG i x hi e; omega) (by omega), (ldD_N hq hd (show m < 12 by omega)).1, ← hf m hm, nI_subI (by omega), Nat.add_sub_cancel]
theorem wa_N (hq : GdP q) (hd : GdD q d) (hf : ∀ m, m < pM q → rs m + cntG G (dP d) m = ldN q d m) (hG : ∀ i m, i < dP d → G i = some m → m < pM q) : (∃ t, alD q d = nI (t + szG G (dP d)) ∧ waS rs (pM q) = nI t ∧ t + szG G (dP d) ≤ 3840) := by
  have hM := hq.M4
  have h1 : alD q d = nI (fb_sm (ldN q d) (pM q)) := by
    rw [← alD_m]
    exact sumI fun m hm => (ldD_N hq hd (show m < 12 by omega)).1
  have h2 : waS rs (pM q) = nI (fb_sm rs (pM q)) := sumI fun m _ => rfl
  have h3 : szG G (dP d) = fb_sm (fun m => cntG G (dP d) m) (pM q) := by
    have e := inG_sum (g := G) (R := fun _ => true) (M := pM q) (P := dP d) hG
    have e2 : inG G (fun _ => true) (dP d) = szG G (dP d) := fb_ct_cong fun i _ => by cases G i <;> rfl
    rw [← e2, e]
    exact fb_sm_cong fun m _ => if_pos rfl
  have h4 : fb_sm (ldN q d) (pM q) = fb_sm rs (pM q) + szG G (dP d) := by
    rw [h3, ← fb_sm_add]
    exact fb_sm_cong fun m hm => (hf m hm).symm
  have h5 := fb_sm_bound (f := ldN q d) (c := 320) (n := pM q) (fun m hm => (ldD_N hq hd (show m < 12 by omega)).2)
  refine ⟨fb_sm rs (pM q), by rw [h1, h4], h2, ?_⟩
  rw [← h4]
  omega
abbrev R_X11_eatenOf : Room := { frames := 0, cells := 0, slots := 0, locals := 0 }
abbrev RX_X11_eatenOf : Room := { frames := 0, cells := 1, slots := 6, locals := 0 }

theorem lm_eatenOf_ (hw : Wf μ) (hv : MdV μ q d) (hg : ∀ i, i < dP d → gI μ 356 i = oI (G i)) (c : Int32) {o : Oc} {μ1 : Wd} (kx : AW Y_X11_eatenOf R_X11_eatenOf (0, 0) μ 38 [(0, .ref 338), (1, .int c), (2, .int (itN (fun i a => if oI (G i) = c then a + 1 else a) 0 (dP d))), (3, .int (nI (dP d)))] [] o μ1) : ∀ dd m, m + dd = (dP d) → AW Y_X11_eatenOf R_X11_eatenOf (0, 0) μ 4 [(0, .ref 338), (1, .int c), (2, .int (itN (fun i a => if oI (G i) = c then a + 1 else a) 0 m)), (3, .int (nI m))] [] o μ1 := by
  intro dd
  induction dd with
  | zero =>
    intro m hm
    obtain rfl : (dP d) = m := by omega
    refine a_iload_n dX11_eatenOf_4 rfl ?_
    refine a_aload_n dX11_eatenOf_5 rfl ?_
    refine a_getR (cr_338_6 hw) dX11_eatenOf_6 fs_X11_26 rfl (co_338 hw) ?_
    refine a_iconst (3 : Int32) dX11_eatenOf_9 (by decide) ?_
    refine a_ild dX11_eatenOf_10 (ca_344 hw) (ixn (m := 3) (by omega) (by decide)) ?_
    rw [hv.s3]
    refine a_icmp_ge (tgt := 38) dX11_eatenOf_11 (by decide) (fun h11 => ?_) (fun h11 => absurd h11 (fun z => z (nI_le (Nat.le_refl _) (by have := hv.P4; omega))))
    exact a_loc _ rfl kx
  | succ dd ih =>
    intro m hm
    have hM4 := hv.M4
    have hT4 := hv.T4
    have hP4 := hv.P4
    have hU4 := hv.U4
    refine a_iload_n dX11_eatenOf_4 rfl ?_
    refine a_aload_n dX11_eatenOf_5 rfl ?_
    refine a_getR (cr_338_6 hw) dX11_eatenOf_6 fs_X11_26 rfl (co_338 hw) ?_
    refine a_iconst (3 : Int32) dX11_eatenOf_9 (by decide) ?_
    refine a_ild dX11_eatenOf_10 (ca_344 hw) (ixn (m := 3) (by omega) (by decide)) ?_
    rw [hv.s3]
    refine a_icmp_ge (tgt := 38) dX11_eatenOf_11 (by decide) (fun h11 => absurd h11 (nI_ge (by omega) (by have := hv.P4; omega))) (fun h11 => ?_)
    refine a_aload_n dX11_eatenOf_14 rfl ?_
    refine a_getR (cr_338_31 hw) dX11_eatenOf_15 fs_X11_67 rfl (co_338 hw) ?_
    refine a_iload_n dX11_eatenOf_18 rfl ?_
    refine a_ild dX11_eatenOf_19 (ca_356 hw) (ixn (show m < 40 by omega) (by decide)) ?_
    rw [hg m (by omega)]
    refine a_iload_n dX11_eatenOf_20 rfl ?_
    refine a_icmp_ne (tgt := 30) dX11_eatenOf_21 (by decide) (fun h21 => ?_) (fun h21 => ?_)
    · refine a_iload_n dX11_eatenOf_30 rfl ?_
      refine a_istore_n dX11_eatenOf_31 (by decide) ?_
      refine a_iincN dX11_eatenOf_32 rfl (by decide) ?_
      refine a_goto (tgt := 4) dX11_eatenOf_35 (by decide) ?_
      have qih := ih (m + 1) (by omega)
      simp only [itN_succ] at qih
      first | exact a_loc _ rfl qih | (simp_all only [if_true, if_false, not_true_eq_false, not_false_eq_true, ne_eq]; exact a_loc _ rfl qih)
    · refine a_iload_n dX11_eatenOf_24 rfl ?_
      refine a_iconst (1 : Int32) dX11_eatenOf_25 (by decide) ?_
      refine a_iadd dX11_eatenOf_26 ?_
      refine a_goto (tgt := 31) dX11_eatenOf_27 (by decide) ?_
      refine a_istore_n dX11_eatenOf_31 (by decide) ?_
      refine a_iincN dX11_eatenOf_32 rfl (by decide) ?_
      refine a_goto (tgt := 4) dX11_eatenOf_35 (by decide) ?_
      have qih := ih (m + 1) (by omega)
      simp only [itN_succ] at qih
      first | exact a_loc _ rfl qih | (simp_all only [if_true, if_false, not_true_eq_false, not_false_eq_true, ne_eq]; exact a_loc _ rfl qih)
theorem m_eatenOf_ (hw : Wf μ) (hv : MdV μ q d) (hg : ∀ i, i < dP d → gI μ 356 i = oI (G i)) (c : Int32) : Ct Y_X11_eatenOf R_X11_eatenOf [.ref 338, .int c] μ (.inl (some (.int (itN (fun i a => if oI (G i) = c then a + 1 else a) 0 ((dP d)))))) μ := by
  refine Ct.ent yk_X11_eatenOf (Nat.le_of_ble_eq_true rfl) ?_
  refine a_iconst (0 : Int32) dX11_eatenOf_0 (by decide) ?_
  refine a_istore_n dX11_eatenOf_1 (by decide) ?_
  refine a_iconst (0 : Int32) dX11_eatenOf_2 (by decide) ?_
  refine a_istore_n dX11_eatenOf_3 (by decide) ?_
  refine a_loc [(0, .ref 338), (1, .int c), (2, .int (itN (fun i a => if oI (G i) = c then a + 1 else a) 0 0)), (3, .int (nI 0))] rfl ?_
  refine lm_eatenOf_ hw hv hg c ?_ ((dP d)) 0 (by omega)
  refine a_iload_n dX11_eatenOf_38 rfl ?_
  exact a_out rfl rfl (a_ireturn dX11_eatenOf_39 rfl rfl)
theorem m_eatenOf (hw : Wf μ) (hv : MdV μ q d) (hg : ∀ i, i < dP d → gI μ 356 i = oI (G i)) (c : Int32) : Ct Y_X11_eatenOf R_X11_eatenOf [.ref 338, .int c] μ (.inl (some (.int (eaI G (dP d) c)))) μ := Ct.int (rfl) (m_eatenOf_ hw hv hg c)
abbrev R_X11_specialFed : Room := { frames := 3, cells := 0, slots := 0, locals := 64 }
abbrev RX_X11_specialFed : Room := { frames := 3, cells := 1, slots := 6, locals := 64 }

theorem lm_specialFed_ (hw : Wf μ) (hv : MdV μ q d) (hg : ∀ i, i < dP d → gI μ 356 i = oI (G i)) {o : Oc} {μ1 : Wd} (kx : AW Y_X11_specialFed R_X11_specialFed (0, 0) μ 46 [(0, .ref 338), (1, .int (itN (fun i a => if dF d 1 i = 0 then a else if oI (G i) = -1 then a else a + 1) 0 (dP d))), (2, .int (nI (dP d)))] [] o μ1) : ∀ dd m, m + dd = (dP d) → AW Y_X11_specialFed R_X11_specialFed (0, 0) μ 4 [(0, .ref 338), (1, .int (itN (fun i a => if dF d 1 i = 0 then a else if oI (G i) = -1 then a else a + 1) 0 m)), (2, .int (nI m))] [] o μ1 := by
  intro dd
  induction dd with
  | zero =>
    intro m hm
    obtain rfl : (dP d) = m := by omega
    refine a_iload_n dX11_specialFed_4 rfl ?_
    refine a_aload_n dX11_specialFed_5 rfl ?_
    refine a_getR (cr_338_6 hw) dX11_specialFed_6 fs_X11_26 rfl (co_338 hw) ?_
    refine a_iconst (3 : Int32) dX11_specialFed_9 (by decide) ?_
    refine a_ild dX11_specialFed_10 (ca_344 hw) (ixn (m := 3) (by omega) (by decide)) ?_
    rw [hv.s3]
    refine a_icmp_ge (tgt := 46) dX11_specialFed_11 (by decide) (fun h11 => ?_) (fun h11 => absurd h11 (fun z => z (nI_le (Nat.le_refl _) (by have := hv.P4; omega))))
    exact a_loc _ rfl kx
  | succ dd ih =>
    intro m hm
    have hM4 := hv.M4
    have hT4 := hv.T4
    have hP4 := hv.P4
    have hU4 := hv.U4
    refine a_iload_n dX11_specialFed_4 rfl ?_
    refine a_aload_n dX11_specialFed_5 rfl ?_
    refine a_getR (cr_338_6 hw) dX11_specialFed_6 fs_X11_26 rfl (co_338 hw) ?_
    refine a_iconst (3 : Int32) dX11_specialFed_9 (by decide) ?_
    refine a_ild dX11_specialFed_10 (ca_344 hw) (ixn (m := 3) (by omega) (by decide)) ?_
    rw [hv.s3]
    refine a_icmp_ge (tgt := 46) dX11_specialFed_11 (by decide) (fun h11 => absurd h11 (nI_ge (by omega) (by have := hv.P4; omega))) (fun h11 => ?_)
    refine a_aload_n dX11_specialFed_14 rfl ?_
    refine a_iload_n dX11_specialFed_15 rfl ?_
    refine a_inv (b2 := (0, 0)) (m_isSpecial hw hv (show m < dP d by omega)) rfl dX11_specialFed_16 yk_X11_isSpecial im_X11_isSpecial se_X11_isSpecial ml_X11_306 rfl (co_338 hw) (by decide) hc_X11 (by decide) (by decide) (Nat.le_of_ble_eq_true rfl) ?_
    refine a_if_eq (tgt := 38) dX11_specialFed_19 (by decide) (fun h19 => ?_) (fun h19 => ?_)
    · have h19 : dF d 1 m = 0 := Classical.byContradiction fun z => by rw [if_neg z] at h19; exact absurd h19 (by decide)
      refine a_iload_n dX11_specialFed_38 rfl ?_
      refine a_istore_n dX11_specialFed_39 (by decide) ?_
      refine a_iincN dX11_specialFed_40 rfl (by decide) ?_
      refine a_goto (tgt := 4) dX11_specialFed_43 (by decide) ?_
      have qih := ih (m + 1) (by omega)
      simp only [itN_succ] at qih
      first | exact a_loc _ rfl qih | (simp_all only [if_true, if_false, not_true_eq_false, not_false_eq_true, ne_eq]; exact a_loc _ rfl qih)
    · have h19 : ¬ dF d 1 m = 0 := fun z => h19 (if_pos z)
      refine a_aload_n dX11_specialFed_22 rfl ?_
      refine a_getR (cr_338_31 hw) dX11_specialFed_23 fs_X11_67 rfl (co_338 hw) ?_
      refine a_iload_n dX11_specialFed_26 rfl ?_
      refine a_ild dX11_specialFed_27 (ca_356 hw) (ixn (show m < 40 by omega) (by decide)) ?_
      rw [hg m (by omega)]
      refine a_iconst (-1 : Int32) dX11_specialFed_28 (by decide) ?_
      refine a_icmp_eq (tgt := 38) dX11_specialFed_29 (by decide) (fun h29 => ?_) (fun h29 => ?_)
      · refine a_iload_n dX11_specialFed_38 rfl ?_
        refine a_istore_n dX11_specialFed_39 (by decide) ?_
        refine a_iincN dX11_specialFed_40 rfl (by decide) ?_
        refine a_goto (tgt := 4) dX11_specialFed_43 (by decide) ?_
        have qih := ih (m + 1) (by omega)
        simp only [itN_succ] at qih
        first | exact a_loc _ rfl qih | (simp_all only [if_true, if_false, not_true_eq_false, not_false_eq_true, ne_eq]; exact a_loc _ rfl qih)
      · refine a_iload_n dX11_specialFed_32 rfl ?_
        refine a_iconst (1 : Int32) dX11_specialFed_33 (by decide) ?_
        refine a_iadd dX11_specialFed_34 ?_
        refine a_goto (tgt := 39) dX11_specialFed_35 (by decide) ?_
        refine a_istore_n dX11_specialFed_39 (by decide) ?_
        refine a_iincN dX11_specialFed_40 rfl (by decide) ?_
        refine a_goto (tgt := 4) dX11_specialFed_43 (by decide) ?_
        have qih := ih (m + 1) (by omega)
        simp only [itN_succ] at qih
        first | exact a_loc _ rfl qih | (simp_all only [if_true, if_false, not_true_eq_false, not_false_eq_true, ne_eq]; exact a_loc _ rfl qih)
theorem m_specialFed_ (hw : Wf μ) (hv : MdV μ q d) (hg : ∀ i, i < dP d → gI μ 356 i = oI (G i)) : Ct Y_X11_specialFed R_X11_specialFed [.ref 338] μ (.inl (some (.int (itN (fun i a => if dF d 1 i = 0 then a else if oI (G i) = -1 then a else a + 1) 0 ((dP d)))))) μ := by
  refine Ct.ent yk_X11_specialFed (Nat.le_of_ble_eq_true rfl) ?_
  refine a_iconst (0 : Int32) dX11_specialFed_0 (by decide) ?_
  refine a_istore_n dX11_specialFed_1 (by decide) ?_
  refine a_iconst (0 : Int32) dX11_specialFed_2 (by decide) ?_
  refine a_istore_n dX11_specialFed_3 (by decide) ?_
  refine a_loc [(0, .ref 338), (1, .int (itN (fun i a => if dF d 1 i = 0 then a else if oI (G i) = -1 then a else a + 1) 0 0)), (2, .int (nI 0))] rfl ?_
  refine lm_specialFed_ hw hv hg ?_ ((dP d)) 0 (by omega)
  refine a_iload_n dX11_specialFed_46 rfl ?_
  exact a_out rfl rfl (a_ireturn dX11_specialFed_47 rfl rfl)
theorem m_specialFed (hw : Wf μ) (hv : MdV μ q d) (hg : ∀ i, i < dP d → gI μ 356 i = oI (G i)) : Ct Y_X11_specialFed R_X11_specialFed [.ref 338] μ (.inl (some (.int (sfI d G (dP d))))) μ := Ct.int (rfl) (m_specialFed_ hw hv hg)
abbrev R_X11_wishes : Room := { frames := 3, cells := 0, slots := 0, locals := 64 }
abbrev RX_X11_wishes : Room := { frames := 3, cells := 1, slots := 6, locals := 64 }

theorem lm_wishes_ (hw : Wf μ) (hv : MdV μ q d) (hg : ∀ i, i < dP d → gI μ 356 i = oI (G i)) {o : Oc} {μ1 : Wd} (kx : AW Y_X11_wishes R_X11_wishes (0, 0) μ 61 [(0, .ref 338), (1, .int (itN (fun i a => if dF d 1 i = 0 then (if oI (G i) = -1 then a else if oI (G i) = dF d 2 i then a + 1 else a) else a) 0 (dP d))), (2, .int (nI (dP d)))] [] o μ1) : ∀ dd m, m + dd = (dP d) → AW Y_X11_wishes R_X11_wishes (0, 0) μ 4 [(0, .ref 338), (1, .int (itN (fun i a => if dF d 1 i = 0 then (if oI (G i) = -1 then a else if oI (G i) = dF d 2 i then a + 1 else a) else a) 0 m)), (2, .int (nI m))] [] o μ1 := by
  intro dd
  induction dd with
  | zero =>
    intro m hm
    obtain rfl : (dP d) = m := by omega
    refine a_iload_n dX11_wishes_4 rfl ?_
    refine a_aload_n dX11_wishes_5 rfl ?_
    refine a_getR (cr_338_6 hw) dX11_wishes_6 fs_X11_26 rfl (co_338 hw) ?_
    refine a_iconst (3 : Int32) dX11_wishes_9 (by decide) ?_
    refine a_ild dX11_wishes_10 (ca_344 hw) (ixn (m := 3) (by omega) (by decide)) ?_
    rw [hv.s3]
    refine a_icmp_ge (tgt := 61) dX11_wishes_11 (by decide) (fun h11 => ?_) (fun h11 => absurd h11 (fun z => z (nI_le (Nat.le_refl _) (by have := hv.P4; omega))))
    exact a_loc _ rfl kx
  | succ dd ih =>
    intro m hm
    have hM4 := hv.M4
    have hT4 := hv.T4
    have hP4 := hv.P4
    have hU4 := hv.U4
    refine a_iload_n dX11_wishes_4 rfl ?_
    refine a_aload_n dX11_wishes_5 rfl ?_
    refine a_getR (cr_338_6 hw) dX11_wishes_6 fs_X11_26 rfl (co_338 hw) ?_
    refine a_iconst (3 : Int32) dX11_wishes_9 (by decide) ?_
    refine a_ild dX11_wishes_10 (ca_344 hw) (ixn (m := 3) (by omega) (by decide)) ?_
    rw [hv.s3]
    refine a_icmp_ge (tgt := 61) dX11_wishes_11 (by decide) (fun h11 => absurd h11 (nI_ge (by omega) (by have := hv.P4; omega))) (fun h11 => ?_)
    refine a_aload_n dX11_wishes_14 rfl ?_
    refine a_iload_n dX11_wishes_15 rfl ?_
    refine a_inv (b2 := (0, 0)) (m_isSpecial hw hv (show m < dP d by omega)) rfl dX11_wishes_16 yk_X11_isSpecial im_X11_isSpecial se_X11_isSpecial ml_X11_306 rfl (co_338 hw) (by decide) hc_X11 (by decide) (by decide) (Nat.le_of_ble_eq_true rfl) ?_
    refine a_if_ne (tgt := 53) dX11_wishes_19 (by decide) (fun h19 => ?_) (fun h19 => ?_)
    · have h19 : ¬ dF d 1 m = 0 := fun z => h19 (if_pos z)
      refine a_iload_n dX11_wishes_53 rfl ?_
      refine a_istore_n dX11_wishes_54 (by decide) ?_
      refine a_iincN dX11_wishes_55 rfl (by decide) ?_
      refine a_goto (tgt := 4) dX11_wishes_58 (by decide) ?_
      have qih := ih (m + 1) (by omega)
      simp only [itN_succ] at qih
      first | exact a_loc _ rfl qih | (simp_all only [if_true, if_false, not_true_eq_false, not_false_eq_true, ne_eq]; exact a_loc _ rfl qih)
    · have h19 : dF d 1 m = 0 := Classical.byContradiction fun z => by rw [if_neg z] at h19; exact absurd h19 (by decide)
      refine a_aload_n dX11_wishes_22 rfl ?_
      refine a_getR (cr_338_31 hw) dX11_wishes_23 fs_X11_67 rfl (co_338 hw) ?_
      refine a_iload_n dX11_wishes_26 rfl ?_
      refine a_ild dX11_wishes_27 (ca_356 hw) (ixn (show m < 40 by omega) (by decide)) ?_
      rw [hg m (by omega)]
      refine a_iconst (-1 : Int32) dX11_wishes_28 (by decide) ?_
      refine a_icmp_eq (tgt := 53) dX11_wishes_29 (by decide) (fun h29 => ?_) (fun h29 => ?_)
      · refine a_iload_n dX11_wishes_53 rfl ?_
        refine a_istore_n dX11_wishes_54 (by decide) ?_
        refine a_iincN dX11_wishes_55 rfl (by decide) ?_
        refine a_goto (tgt := 4) dX11_wishes_58 (by decide) ?_
        have qih := ih (m + 1) (by omega)
        simp only [itN_succ] at qih
        first | exact a_loc _ rfl qih | (simp_all only [if_true, if_false, not_true_eq_false, not_false_eq_true, ne_eq]; exact a_loc _ rfl qih)
      · refine a_aload_n dX11_wishes_32 rfl ?_
        refine a_getR (cr_338_31 hw) dX11_wishes_33 fs_X11_67 rfl (co_338 hw) ?_
        refine a_iload_n dX11_wishes_36 rfl ?_
        refine a_ild dX11_wishes_37 (ca_356 hw) (ixn (show m < 40 by omega) (by decide)) ?_
        rw [hg m (by omega)]
        refine a_aload_n dX11_wishes_38 rfl ?_
        refine a_iload_n dX11_wishes_39 rfl ?_
        refine a_iconst (2 : Int32) dX11_wishes_40 (by decide) ?_
        refine a_inv (b2 := (0, 0)) (m_of2 hw hv (show m < dP d by omega)) rfl dX11_wishes_41 yk_X11_of im_X11_of se_X11_of ml_X11_294 rfl (co_338 hw) (by decide) hc_X11 (by decide) (by decide) (Nat.le_of_ble_eq_true rfl) ?_
        refine a_icmp_ne (tgt := 53) dX11_wishes_44 (by decide) (fun h44 => ?_) (fun h44 => ?_)
        · refine a_iload_n dX11_wishes_53 rfl ?_
          refine a_istore_n dX11_wishes_54 (by decide) ?_
          refine a_iincN dX11_wishes_55 rfl (by decide) ?_
          refine a_goto (tgt := 4) dX11_wishes_58 (by decide) ?_
          have qih := ih (m + 1) (by omega)
          simp only [itN_succ] at qih
          first | exact a_loc _ rfl qih | (simp_all only [if_true, if_false, not_true_eq_false, not_false_eq_true, ne_eq]; exact a_loc _ rfl qih)
        · refine a_iload_n dX11_wishes_47 rfl ?_
          refine a_iconst (1 : Int32) dX11_wishes_48 (by decide) ?_
          refine a_iadd dX11_wishes_49 ?_
          refine a_goto (tgt := 54) dX11_wishes_50 (by decide) ?_
          refine a_istore_n dX11_wishes_54 (by decide) ?_
          refine a_iincN dX11_wishes_55 rfl (by decide) ?_
          refine a_goto (tgt := 4) dX11_wishes_58 (by decide) ?_
          have qih := ih (m + 1) (by omega)
          simp only [itN_succ] at qih
          first | exact a_loc _ rfl qih | (simp_all only [if_true, if_false, not_true_eq_false, not_false_eq_true, ne_eq]; exact a_loc _ rfl qih)
theorem m_wishes_ (hw : Wf μ) (hv : MdV μ q d) (hg : ∀ i, i < dP d → gI μ 356 i = oI (G i)) : Ct Y_X11_wishes R_X11_wishes [.ref 338] μ (.inl (some (.int (itN (fun i a => if dF d 1 i = 0 then (if oI (G i) = -1 then a else if oI (G i) = dF d 2 i then a + 1 else a) else a) 0 ((dP d)))))) μ := by
  refine Ct.ent yk_X11_wishes (Nat.le_of_ble_eq_true rfl) ?_
  refine a_iconst (0 : Int32) dX11_wishes_0 (by decide) ?_
  refine a_istore_n dX11_wishes_1 (by decide) ?_
  refine a_iconst (0 : Int32) dX11_wishes_2 (by decide) ?_
  refine a_istore_n dX11_wishes_3 (by decide) ?_
  refine a_loc [(0, .ref 338), (1, .int (itN (fun i a => if dF d 1 i = 0 then (if oI (G i) = -1 then a else if oI (G i) = dF d 2 i then a + 1 else a) else a) 0 0)), (2, .int (nI 0))] rfl ?_
  refine lm_wishes_ hw hv hg ?_ ((dP d)) 0 (by omega)
  refine a_iload_n dX11_wishes_61 rfl ?_
  exact a_out rfl rfl (a_ireturn dX11_wishes_62 rfl rfl)
theorem m_wishes (hw : Wf μ) (hv : MdV μ q d) (hg : ∀ i, i < dP d → gI μ 356 i = oI (G i)) : Ct Y_X11_wishes R_X11_wishes [.ref 338] μ (.inl (some (.int (wiI d G (dP d))))) μ := Ct.int (rfl) (m_wishes_ hw hv hg)
abbrev R_X11_eaten : Room := { frames := 1, cells := 0, slots := 0, locals := 23 }
abbrev RX_X11_eaten : Room := { frames := 1, cells := 1, slots := 6, locals := 23 }

theorem m_eaten (hw : Wf μ) (hv : MdV μ q d) (hg : ∀ i, i < dP d → gI μ 356 i = oI (G i)) : Ct Y_X11_eaten R_X11_eaten [.ref 338] μ (.inl (some (.int (nI (dP d) - eaI G (dP d) (-1))))) μ := by
  refine Ct.ent yk_X11_eaten (Nat.le_of_ble_eq_true rfl) ?_
  refine a_aload_n dX11_eaten_0 rfl ?_
  refine a_getR (cr_338_6 hw) dX11_eaten_1 fs_X11_26 rfl (co_338 hw) ?_
  refine a_iconst (3 : Int32) dX11_eaten_4 (by decide) ?_
  refine a_ild dX11_eaten_5 (ca_344 hw) (ixn (m := 3) (by omega) (by decide)) ?_
  rw [hv.s3]
  refine a_aload_n dX11_eaten_6 rfl ?_
  refine a_iconst (-1 : Int32) dX11_eaten_7 (by decide) ?_
  refine a_inv (b2 := (0, 0)) (m_eatenOf hw hv hg (-1)) rfl dX11_eaten_8 yk_X11_eatenOf im_X11_eatenOf se_X11_eatenOf ml_X11_465 rfl (co_338 hw) (by decide) hc_X11 (by decide) (by decide) (Nat.le_of_ble_eq_true rfl) ?_
  refine a_isub dX11_eaten_11 ?_
  exact a_out rfl rfl (a_ireturn dX11_eaten_12 rfl rfl)
abbrev R_X11_wastedCost : Room := { frames := 2, cells := 0, slots := 0, locals := 44 }
abbrev RX_X11_wastedCost : Room := { frames := 2, cells := 1, slots := 6, locals := 44 }

theorem lm_wastedCost_ (hw : Wf μ) (hv : MdV μ q d) (hg : ∀ i, i < dP d → gI μ 356 i = oI (G i)) {o : Oc} {μ1 : Wd} (kx : AW Y_X11_wastedCost R_X11_wastedCost (0, 0) μ 39 [(0, .ref 338), (1, .int (itN (fun m a => a + (ldD q d m - eaI G (dP d) (nI m)) * pF q 5 m) 0 (pM q))), (2, .int (nI (pM q)))] [] o μ1) : ∀ dd m, m + dd = (pM q) → AW Y_X11_wastedCost R_X11_wastedCost (0, 0) μ 4 [(0, .ref 338), (1, .int (itN (fun m a => a + (ldD q d m - eaI G (dP d) (nI m)) * pF q 5 m) 0 m)), (2, .int (nI m))] [] o μ1 := by
  intro dd
  induction dd with
  | zero =>
    intro m hm
    obtain rfl : (pM q) = m := by omega
    refine a_iload_n dX11_wastedCost_4 rfl ?_
    refine a_aload_n dX11_wastedCost_5 rfl ?_
    refine a_inv (b2 := (0, 0)) (m_meals hw hv) rfl dX11_wastedCost_6 yk_X11_meals im_X11_meals se_X11_meals ml_X11_300 rfl (co_338 hw) (by decide) hc_X11 (by decide) (by decide) (Nat.le_of_ble_eq_true rfl) ?_
    refine a_icmp_ge (tgt := 39) dX11_wastedCost_9 (by decide) (fun h9 => ?_) (fun h9 => absurd h9 (fun z => z (nI_le (Nat.le_refl _) (by have := hv.M4; omega))))
    exact a_loc _ rfl kx
  | succ dd ih =>
    intro m hm
    have hM4 := hv.M4
    have hT4 := hv.T4
    have hP4 := hv.P4
    have hU4 := hv.U4
    refine a_iload_n dX11_wastedCost_4 rfl ?_
    refine a_aload_n dX11_wastedCost_5 rfl ?_
    refine a_inv (b2 := (0, 0)) (m_meals hw hv) rfl dX11_wastedCost_6 yk_X11_meals im_X11_meals se_X11_meals ml_X11_300 rfl (co_338 hw) (by decide) hc_X11 (by decide) (by decide) (Nat.le_of_ble_eq_true rfl) ?_
    refine a_icmp_ge (tgt := 39) dX11_wastedCost_9 (by decide) (fun h9 => absurd h9 (nI_ge (by omega) (by have := hv.M4; omega))) (fun h9 => ?_)
    refine a_iload_n dX11_wastedCost_12 rfl ?_
    refine a_aload_n dX11_wastedCost_13 rfl ?_
    refine a_iload_n dX11_wastedCost_14 rfl ?_
    refine a_inv (b2 := (0, 0)) (m_loadedOf hw hv (show m < 12 by omega)) rfl dX11_wastedCost_15 yk_X11_loadedOf im_X11_loadedOf se_X11_loadedOf ml_X11_336 rfl (co_338 hw) (by decide) hc_X11 (by decide) (by decide) (Nat.le_of_ble_eq_true rfl) ?_
    refine a_aload_n dX11_wastedCost_18 rfl ?_
    refine a_iload_n dX11_wastedCost_19 rfl ?_
    refine a_inv (b2 := (0, 0)) (m_eatenOf hw hv hg (nI m)) rfl dX11_wastedCost_20 yk_X11_eatenOf im_X11_eatenOf se_X11_eatenOf ml_X11_465 rfl (co_338 hw) (by decide) hc_X11 (by decide) (by decide) (Nat.le_of_ble_eq_true rfl) ?_
    refine a_isub dX11_wastedCost_23 ?_
    refine a_aload_n dX11_wastedCost_24 rfl ?_
    refine a_iload_n dX11_wastedCost_25 rfl ?_
    refine a_iconst (3 : Int32) dX11_wastedCost_26 (by decide) ?_
    refine a_inv (b2 := (0, 0)) (m_ofMeal3 hw hv (show m < pM q by omega)) rfl dX11_wastedCost_27 yk_X11_ofMeal im_X11_ofMeal se_X11_ofMeal ml_X11_297 rfl (co_338 hw) (by decide) hc_X11 (by decide) (by decide) (Nat.le_of_ble_eq_true rfl) ?_
    refine a_imul dX11_wastedCost_30 ?_
    refine a_iadd dX11_wastedCost_31 ?_
    refine a_istore_n dX11_wastedCost_32 (by decide) ?_
    refine a_iincN dX11_wastedCost_33 rfl (by decide) ?_
    refine a_goto (tgt := 4) dX11_wastedCost_36 (by decide) ?_
    have qih := ih (m + 1) (by omega)
    simp only [itN_succ] at qih
    first | exact a_loc _ rfl qih | (simp_all only [if_true, if_false, not_true_eq_false, not_false_eq_true, ne_eq]; exact a_loc _ rfl qih)
theorem m_wastedCost_ (hw : Wf μ) (hv : MdV μ q d) (hg : ∀ i, i < dP d → gI μ 356 i = oI (G i)) : Ct Y_X11_wastedCost R_X11_wastedCost [.ref 338] μ (.inl (some (.int (itN (fun m a => a + (ldD q d m - eaI G (dP d) (nI m)) * pF q 5 m) 0 ((pM q)))))) μ := by
  refine Ct.ent yk_X11_wastedCost (Nat.le_of_ble_eq_true rfl) ?_
  refine a_iconst (0 : Int32) dX11_wastedCost_0 (by decide) ?_
  refine a_istore_n dX11_wastedCost_1 (by decide) ?_
  refine a_iconst (0 : Int32) dX11_wastedCost_2 (by decide) ?_
  refine a_istore_n dX11_wastedCost_3 (by decide) ?_
  refine a_loc [(0, .ref 338), (1, .int (itN (fun m a => a + (ldD q d m - eaI G (dP d) (nI m)) * pF q 5 m) 0 0)), (2, .int (nI 0))] rfl ?_
  refine lm_wastedCost_ hw hv hg ?_ ((pM q)) 0 (by omega)
  refine a_iload_n dX11_wastedCost_39 rfl ?_
  exact a_out rfl rfl (a_ireturn dX11_wastedCost_40 rfl rfl)
theorem m_wastedCost (hw : Wf μ) (hv : MdV μ q d) (hg : ∀ i, i < dP d → gI μ 356 i = oI (G i)) : Ct Y_X11_wastedCost R_X11_wastedCost [.ref 338] μ (.inl (some (.int (wcI q d G)))) μ := Ct.int (rfl) (m_wastedCost_ hw hv hg)
/-- what the service's questions answer -/
theorem ol_N (hq : GdP q) (hd : GdD q d) {n : Nat} (h : SvS q d G rs n) : sfI d G (dP d) = nI n ∧ nI (dP d) - eaI G (dP d) (-1) = nI (szG G (dP d)) ∧ eaI G (dP d) (-1) = nI (dP d) - nI (szG G (dP d)) ∧ alD q d - nI (szG G (dP d)) = waS rs (pM q) ∧ wcI q d G = wcS q rs (pM q) ∧ wiI d G (dP d) = nI (wmG d G (dP d)) := by
  have hM := hq.M4
  obtain ⟨h1, h2, h3⟩ := h.facts hM (WiD.of hd)
  have hb : ∀ i x, i < dP d → G i = some x → x < 2 ^ 31 := fun i x hi e => by have := h2 i x hi e; omega
  have hs : szG G (dP d) ≤ dP d := fb_ct_le _ _
  obtain ⟨t, w1, w2, w3⟩ := wa_N hq hd h1 h2
  refine ⟨by rw [sf_N hb, h3], ?_, ?_, ?_, wc_N hq hd h1 h2, wi_N hb⟩
  · rw [ea_none hb, nI_subI (by omega)]
    congr 1
    omega
  · rw [ea_none hb, nI_subI hs]
  · rw [w1, w2, nI_subI (by omega), Nat.add_sub_cancel]
theorem LvQ.mq (hw : Wf μ) {v : Int32} (h : LvQ (sI μ 338 0 v) q d V) : MqQ μ v V := by
  have e : ∀ k, gI V 338 k = gI (sI μ 338 0 v) 338 k := fun k => h.1.i (fun z => by have := z.1; omega) k
  exact ⟨(MqQ.of hw v).1.trans (h.1.mono (S' := sMq) (fun i y => Or.inr ⟨by have := y.1; omega, y.2⟩)), (e 0).trans (MqQ.of hw v).2.1, fun k hk => (e k).trans ((MqQ.of hw v).2.2 k hk)⟩
abbrev R_X11_outlook : Room := { frames := 9, cells := 0, slots := 0, locals := 205 }
abbrev RX_X11_outlook : Room := { frames := 9, cells := 1, slots := 6, locals := 205 }

theorem m_outlook_0 (hw : Wf μ) (hv : MdV μ q d) (hq0 : GdP q) (hd0 : GdD q d) (hx : MxV (gI μ 344) q d) (he : SeD q d) : CV Y_X11_outlook R_X11_outlook [.ref 338, .int (nI 0)] μ (fun v V => v = some (.int (olV q d 0)) ∧ MqQ μ 0 V) := by
  have hM4 := hv.M4
  have hP4 := hv.P4
  have hw1 : Wf (sI μ 338 0 0) := hw.sI
  have hv1 : MdV (sI μ 338 0 0) q d := hv.th 0
  have hx1 : MxV (gI (sI μ 338 0 0) 344) q d := by
    have e : gI (sI μ 338 0 0) 344 = gI μ 344 := funext fun k => by rw [gI_sI, if_neg (by omega)]
    rw [e]; exact hx
  refine CV.ent yk_X11_outlook (Nat.le_of_ble_eq_true rfl) ?_
  refine lf (a_aload_n dX11_outlook_0 rfl) ?_
  refine lf (a_iload_n dX11_outlook_1 rfl) ?_
  refine lf (a_iconst (0 : Int32) dX11_outlook_2 (by decide)) ?_
  refine lf (a_iconst (5 : Int32) dX11_outlook_3 (by decide)) ?_
  refine lf (a_invS (b2 := (0, 0)) (Ct.int (y := 1) (by decide) (m_in (nI 0) 0 5)) rfl dX11_outlook_4 yk_X11_in sm_X11_in ml_X11_102 rfl (by decide) (by decide) (Nat.le_of_ble_eq_true rfl)) ?_
  refine lf2 (a_if_eq (tgt := 14) dX11_outlook_7 (by decide)) (fun h7 => absurd h7 (by decide)) (fun h7 => ?_)
  refine lf (a_iconst (0 : Int32) dX11_outlook_10 (by decide)) ?_
  refine lf (a_goto (tgt := 15) dX11_outlook_11 (by decide)) ?_
  refine lf (a_inv (b2 := (0, 0)) (m_isRefused0 (by repeat (first | with_reducible exact hw | with_reducible exact hwc | with_reducible assumption | with_reducible apply Wf.sI | with_reducible apply Wf.sL | with_reducible apply Wf.cpI | with_reducible apply Wf.cpL | with_reducible apply Wf.cp2 | with_reducible apply Wf.sIs | with_reducible apply Wf.sLs | with_reducible apply Wf.cpU | with_reducible apply Wf.fillI | with_reducible apply Wf.clU | with_reducible apply Wf.dnF | with_reducible apply Wf.gbW))) rfl dX11_outlook_15 yk_X11_isRefused im_X11_isRefused se_X11_isRefused ml_X11_98 rfl (co_338 (by repeat (first | with_reducible exact hw | with_reducible exact hwc | with_reducible assumption | with_reducible apply Wf.sI | with_reducible apply Wf.sL | with_reducible apply Wf.cpI | with_reducible apply Wf.cpL | with_reducible apply Wf.cp2 | with_reducible apply Wf.sIs | with_reducible apply Wf.sLs | with_reducible apply Wf.cpU | with_reducible apply Wf.fillI | with_reducible apply Wf.clU | with_reducible apply Wf.dnF | with_reducible apply Wf.gbW))) (by decide) hc_X11 (by decide) (by decide) (Nat.le_of_ble_eq_true rfl)) ?_
  refine lf2 (a_if_eq (tgt := 23) dX11_outlook_18 (by decide)) (fun h18 => ?_) (fun h18 => absurd h18 (fun z => z rfl))
  refine lf (a_aload_n dX11_outlook_23 rfl) ?_
  obtain ⟨v_, W24, k24, rfl, hL⟩ := (m_laysService hw1 hv1 hq0 hd0 hx1 he)
  have hwc := hL.1.wf
  have hv2 := hv1.md hL.1
  have hg2 := hL.2.2
  obtain ⟨o1, o2, o3, o4, o5, o6⟩ := ol_N hq0 hd0 hL.2.1
  refine lf (a_inv (b2 := (0, 0)) k24 rfl dX11_outlook_24 yk_X11_laysService im_X11_laysService se_X11_laysService ml_X11_468 rfl (co_338 (by repeat (first | with_reducible exact hw | with_reducible exact hwc | with_reducible assumption | with_reducible apply Wf.sI | with_reducible apply Wf.sL | with_reducible apply Wf.cpI | with_reducible apply Wf.cpL | with_reducible apply Wf.cp2 | with_reducible apply Wf.sIs | with_reducible apply Wf.sLs | with_reducible apply Wf.cpU | with_reducible apply Wf.fillI | with_reducible apply Wf.clU | with_reducible apply Wf.dnF | with_reducible apply Wf.gbW))) (by decide) hc_X11 (by decide) (by decide) (Nat.le_of_ble_eq_true rfl)) ?_
  refine lf (a_iload_n dX11_outlook_27 rfl) ?_
  refine lf (a_tsIn (tgt := 64) dX11_outlook_28 (by decide) (by decide) rfl (by decide)) ?_
  refine lf (a_aload_n dX11_outlook_64 rfl) ?_
  refine lf (a_inv (b2 := (0, 0)) (Ct.int o1 (m_specialFed (by repeat (first | with_reducible exact hw | with_reducible exact hwc | with_reducible assumption | with_reducible apply Wf.sI | with_reducible apply Wf.sL | with_reducible apply Wf.cpI | with_reducible apply Wf.cpL | with_reducible apply Wf.cp2 | with_reducible apply Wf.sIs | with_reducible apply Wf.sLs | with_reducible apply Wf.cpU | with_reducible apply Wf.fillI | with_reducible apply Wf.clU | with_reducible apply Wf.dnF | with_reducible apply Wf.gbW)) hv2 hg2)) rfl dX11_outlook_65 yk_X11_specialFed im_X11_specialFed se_X11_specialFed ml_X11_471 rfl (co_338 (by repeat (first | with_reducible exact hw | with_reducible exact hwc | with_reducible assumption | with_reducible apply Wf.sI | with_reducible apply Wf.sL | with_reducible apply Wf.cpI | with_reducible apply Wf.cpL | with_reducible apply Wf.cp2 | with_reducible apply Wf.sIs | with_reducible apply Wf.sLs | with_reducible apply Wf.cpU | with_reducible apply Wf.fillI | with_reducible apply Wf.clU | with_reducible apply Wf.dnF | with_reducible apply Wf.gbW))) (by decide) hc_X11 (by decide) (by decide) (Nat.le_of_ble_eq_true rfl)) ?_
  refine ⟨_, _, (a_ireturn dX11_outlook_68 rfl rfl), ?_⟩
  exact ⟨_, rfl, rfl, hL.mq hw⟩
theorem m_outlook_1 (hw : Wf μ) (hv : MdV μ q d) (hq0 : GdP q) (hd0 : GdD q d) (hx : MxV (gI μ 344) q d) (he : SeD q d) : CV Y_X11_outlook R_X11_outlook [.ref 338, .int (nI 1)] μ (fun v V => v = some (.int (olV q d 1)) ∧ MqQ μ 0 V) := by
  have hM4 := hv.M4
  have hP4 := hv.P4
  have hw1 : Wf (sI μ 338 0 0) := hw.sI
  have hv1 : MdV (sI μ 338 0 0) q d := hv.th 0
  have hx1 : MxV (gI (sI μ 338 0 0) 344) q d := by
    have e : gI (sI μ 338 0 0) 344 = gI μ 344 := funext fun k => by rw [gI_sI, if_neg (by omega)]
    rw [e]; exact hx
  refine CV.ent yk_X11_outlook (Nat.le_of_ble_eq_true rfl) ?_
  refine lf (a_aload_n dX11_outlook_0 rfl) ?_
  refine lf (a_iload_n dX11_outlook_1 rfl) ?_
  refine lf (a_iconst (0 : Int32) dX11_outlook_2 (by decide)) ?_
  refine lf (a_iconst (5 : Int32) dX11_outlook_3 (by decide)) ?_
  refine lf (a_invS (b2 := (0, 0)) (Ct.int (y := 1) (by decide) (m_in (nI 1) 0 5)) rfl dX11_outlook_4 yk_X11_in sm_X11_in ml_X11_102 rfl (by decide) (by decide) (Nat.le_of_ble_eq_true rfl)) ?_
  refine lf2 (a_if_eq (tgt := 14) dX11_outlook_7 (by decide)) (fun h7 => absurd h7 (by decide)) (fun h7 => ?_)
  refine lf (a_iconst (0 : Int32) dX11_outlook_10 (by decide)) ?_
  refine lf (a_goto (tgt := 15) dX11_outlook_11 (by decide)) ?_
  refine lf (a_inv (b2 := (0, 0)) (m_isRefused0 (by repeat (first | with_reducible exact hw | with_reducible exact hwc | with_reducible assumption | with_reducible apply Wf.sI | with_reducible apply Wf.sL | with_reducible apply Wf.cpI | with_reducible apply Wf.cpL | with_reducible apply Wf.cp2 | with_reducible apply Wf.sIs | with_reducible apply Wf.sLs | with_reducible apply Wf.cpU | with_reducible apply Wf.fillI | with_reducible apply Wf.clU | with_reducible apply Wf.dnF | with_reducible apply Wf.gbW))) rfl dX11_outlook_15 yk_X11_isRefused im_X11_isRefused se_X11_isRefused ml_X11_98 rfl (co_338 (by repeat (first | with_reducible exact hw | with_reducible exact hwc | with_reducible assumption | with_reducible apply Wf.sI | with_reducible apply Wf.sL | with_reducible apply Wf.cpI | with_reducible apply Wf.cpL | with_reducible apply Wf.cp2 | with_reducible apply Wf.sIs | with_reducible apply Wf.sLs | with_reducible apply Wf.cpU | with_reducible apply Wf.fillI | with_reducible apply Wf.clU | with_reducible apply Wf.dnF | with_reducible apply Wf.gbW))) (by decide) hc_X11 (by decide) (by decide) (Nat.le_of_ble_eq_true rfl)) ?_
  refine lf2 (a_if_eq (tgt := 23) dX11_outlook_18 (by decide)) (fun h18 => ?_) (fun h18 => absurd h18 (fun z => z rfl))
  refine lf (a_aload_n dX11_outlook_23 rfl) ?_
  obtain ⟨v_, W24, k24, rfl, hL⟩ := (m_laysService hw1 hv1 hq0 hd0 hx1 he)
  have hwc := hL.1.wf
  have hv2 := hv1.md hL.1
  have hg2 := hL.2.2
  obtain ⟨o1, o2, o3, o4, o5, o6⟩ := ol_N hq0 hd0 hL.2.1
  refine lf (a_inv (b2 := (0, 0)) k24 rfl dX11_outlook_24 yk_X11_laysService im_X11_laysService se_X11_laysService ml_X11_468 rfl (co_338 (by repeat (first | with_reducible exact hw | with_reducible exact hwc | with_reducible assumption | with_reducible apply Wf.sI | with_reducible apply Wf.sL | with_reducible apply Wf.cpI | with_reducible apply Wf.cpL | with_reducible apply Wf.cp2 | with_reducible apply Wf.sIs | with_reducible apply Wf.sLs | with_reducible apply Wf.cpU | with_reducible apply Wf.fillI | with_reducible apply Wf.clU | with_reducible apply Wf.dnF | with_reducible apply Wf.gbW))) (by decide) hc_X11 (by decide) (by decide) (Nat.le_of_ble_eq_true rfl)) ?_
  refine lf (a_iload_n dX11_outlook_27 rfl) ?_
  refine lf (a_tsIn (tgt := 69) dX11_outlook_28 (by decide) (by decide) rfl (by decide)) ?_
  refine lf (a_aload_n dX11_outlook_69 rfl) ?_
  refine lf (a_inv (b2 := (0, 0)) (Ct.int o2 (m_eaten (by repeat (first | with_reducible exact hw | with_reducible exact hwc | with_reducible assumption | with_reducible apply Wf.sI | with_reducible apply Wf.sL | with_reducible apply Wf.cpI | with_reducible apply Wf.cpL | with_reducible apply Wf.cp2 | with_reducible apply Wf.sIs | with_reducible apply Wf.sLs | with_reducible apply Wf.cpU | with_reducible apply Wf.fillI | with_reducible apply Wf.clU | with_reducible apply Wf.dnF | with_reducible apply Wf.gbW)) hv2 hg2)) rfl dX11_outlook_70 yk_X11_eaten im_X11_eaten se_X11_eaten ml_X11_474 rfl (co_338 (by repeat (first | with_reducible exact hw | with_reducible exact hwc | with_reducible assumption | with_reducible apply Wf.sI | with_reducible apply Wf.sL | with_reducible apply Wf.cpI | with_reducible apply Wf.cpL | with_reducible apply Wf.cp2 | with_reducible apply Wf.sIs | with_reducible apply Wf.sLs | with_reducible apply Wf.cpU | with_reducible apply Wf.fillI | with_reducible apply Wf.clU | with_reducible apply Wf.dnF | with_reducible apply Wf.gbW))) (by decide) hc_X11 (by decide) (by decide) (Nat.le_of_ble_eq_true rfl)) ?_
  refine ⟨_, _, (a_ireturn dX11_outlook_73 rfl rfl), ?_⟩
  exact ⟨_, rfl, rfl, hL.mq hw⟩
theorem m_outlook_2 (hw : Wf μ) (hv : MdV μ q d) (hq0 : GdP q) (hd0 : GdD q d) (hx : MxV (gI μ 344) q d) (he : SeD q d) : CV Y_X11_outlook R_X11_outlook [.ref 338, .int (nI 2)] μ (fun v V => v = some (.int (olV q d 2)) ∧ MqQ μ 0 V) := by
  have hM4 := hv.M4
  have hP4 := hv.P4
  have hw1 : Wf (sI μ 338 0 0) := hw.sI
  have hv1 : MdV (sI μ 338 0 0) q d := hv.th 0
  have hx1 : MxV (gI (sI μ 338 0 0) 344) q d := by
    have e : gI (sI μ 338 0 0) 344 = gI μ 344 := funext fun k => by rw [gI_sI, if_neg (by omega)]
    rw [e]; exact hx
  refine CV.ent yk_X11_outlook (Nat.le_of_ble_eq_true rfl) ?_
  refine lf (a_aload_n dX11_outlook_0 rfl) ?_
  refine lf (a_iload_n dX11_outlook_1 rfl) ?_
  refine lf (a_iconst (0 : Int32) dX11_outlook_2 (by decide)) ?_
  refine lf (a_iconst (5 : Int32) dX11_outlook_3 (by decide)) ?_
  refine lf (a_invS (b2 := (0, 0)) (Ct.int (y := 1) (by decide) (m_in (nI 2) 0 5)) rfl dX11_outlook_4 yk_X11_in sm_X11_in ml_X11_102 rfl (by decide) (by decide) (Nat.le_of_ble_eq_true rfl)) ?_
  refine lf2 (a_if_eq (tgt := 14) dX11_outlook_7 (by decide)) (fun h7 => absurd h7 (by decide)) (fun h7 => ?_)
  refine lf (a_iconst (0 : Int32) dX11_outlook_10 (by decide)) ?_
  refine lf (a_goto (tgt := 15) dX11_outlook_11 (by decide)) ?_
  refine lf (a_inv (b2 := (0, 0)) (m_isRefused0 (by repeat (first | with_reducible exact hw | with_reducible exact hwc | with_reducible assumption | with_reducible apply Wf.sI | with_reducible apply Wf.sL | with_reducible apply Wf.cpI | with_reducible apply Wf.cpL | with_reducible apply Wf.cp2 | with_reducible apply Wf.sIs | with_reducible apply Wf.sLs | with_reducible apply Wf.cpU | with_reducible apply Wf.fillI | with_reducible apply Wf.clU | with_reducible apply Wf.dnF | with_reducible apply Wf.gbW))) rfl dX11_outlook_15 yk_X11_isRefused im_X11_isRefused se_X11_isRefused ml_X11_98 rfl (co_338 (by repeat (first | with_reducible exact hw | with_reducible exact hwc | with_reducible assumption | with_reducible apply Wf.sI | with_reducible apply Wf.sL | with_reducible apply Wf.cpI | with_reducible apply Wf.cpL | with_reducible apply Wf.cp2 | with_reducible apply Wf.sIs | with_reducible apply Wf.sLs | with_reducible apply Wf.cpU | with_reducible apply Wf.fillI | with_reducible apply Wf.clU | with_reducible apply Wf.dnF | with_reducible apply Wf.gbW))) (by decide) hc_X11 (by decide) (by decide) (Nat.le_of_ble_eq_true rfl)) ?_
  refine lf2 (a_if_eq (tgt := 23) dX11_outlook_18 (by decide)) (fun h18 => ?_) (fun h18 => absurd h18 (fun z => z rfl))
  refine lf (a_aload_n dX11_outlook_23 rfl) ?_
  obtain ⟨v_, W24, k24, rfl, hL⟩ := (m_laysService hw1 hv1 hq0 hd0 hx1 he)
  have hwc := hL.1.wf
  have hv2 := hv1.md hL.1
  have hg2 := hL.2.2
  obtain ⟨o1, o2, o3, o4, o5, o6⟩ := ol_N hq0 hd0 hL.2.1
  refine lf (a_inv (b2 := (0, 0)) k24 rfl dX11_outlook_24 yk_X11_laysService im_X11_laysService se_X11_laysService ml_X11_468 rfl (co_338 (by repeat (first | with_reducible exact hw | with_reducible exact hwc | with_reducible assumption | with_reducible apply Wf.sI | with_reducible apply Wf.sL | with_reducible apply Wf.cpI | with_reducible apply Wf.cpL | with_reducible apply Wf.cp2 | with_reducible apply Wf.sIs | with_reducible apply Wf.sLs | with_reducible apply Wf.cpU | with_reducible apply Wf.fillI | with_reducible apply Wf.clU | with_reducible apply Wf.dnF | with_reducible apply Wf.gbW))) (by decide) hc_X11 (by decide) (by decide) (Nat.le_of_ble_eq_true rfl)) ?_
  refine lf (a_iload_n dX11_outlook_27 rfl) ?_
  refine lf (a_tsIn (tgt := 74) dX11_outlook_28 (by decide) (by decide) rfl (by decide)) ?_
  refine lf (a_aload_n dX11_outlook_74 rfl) ?_
  refine lf (a_iconst (-1 : Int32) dX11_outlook_75 (by decide)) ?_
  refine lf (a_inv (b2 := (0, 0)) (Ct.int o3 (m_eatenOf (by repeat (first | with_reducible exact hw | with_reducible exact hwc | with_reducible assumption | with_reducible apply Wf.sI | with_reducible apply Wf.sL | with_reducible apply Wf.cpI | with_reducible apply Wf.cpL | with_reducible apply Wf.cp2 | with_reducible apply Wf.sIs | with_reducible apply Wf.sLs | with_reducible apply Wf.cpU | with_reducible apply Wf.fillI | with_reducible apply Wf.clU | with_reducible apply Wf.dnF | with_reducible apply Wf.gbW)) hv2 hg2 (-1))) rfl dX11_outlook_76 yk_X11_eatenOf im_X11_eatenOf se_X11_eatenOf ml_X11_465 rfl (co_338 (by repeat (first | with_reducible exact hw | with_reducible exact hwc | with_reducible assumption | with_reducible apply Wf.sI | with_reducible apply Wf.sL | with_reducible apply Wf.cpI | with_reducible apply Wf.cpL | with_reducible apply Wf.cp2 | with_reducible apply Wf.sIs | with_reducible apply Wf.sLs | with_reducible apply Wf.cpU | with_reducible apply Wf.fillI | with_reducible apply Wf.clU | with_reducible apply Wf.dnF | with_reducible apply Wf.gbW))) (by decide) hc_X11 (by decide) (by decide) (Nat.le_of_ble_eq_true rfl)) ?_
  refine ⟨_, _, (a_ireturn dX11_outlook_79 rfl rfl), ?_⟩
  exact ⟨_, rfl, rfl, hL.mq hw⟩
theorem m_outlook_3 (hw : Wf μ) (hv : MdV μ q d) (hq0 : GdP q) (hd0 : GdD q d) (hx : MxV (gI μ 344) q d) (he : SeD q d) : CV Y_X11_outlook R_X11_outlook [.ref 338, .int (nI 3)] μ (fun v V => v = some (.int (olV q d 3)) ∧ MqQ μ 0 V) := by
  have hM4 := hv.M4
  have hP4 := hv.P4
  have hw1 : Wf (sI μ 338 0 0) := hw.sI
  have hv1 : MdV (sI μ 338 0 0) q d := hv.th 0
  have hx1 : MxV (gI (sI μ 338 0 0) 344) q d := by
    have e : gI (sI μ 338 0 0) 344 = gI μ 344 := funext fun k => by rw [gI_sI, if_neg (by omega)]
    rw [e]; exact hx
  refine CV.ent yk_X11_outlook (Nat.le_of_ble_eq_true rfl) ?_
  refine lf (a_aload_n dX11_outlook_0 rfl) ?_
  refine lf (a_iload_n dX11_outlook_1 rfl) ?_
  refine lf (a_iconst (0 : Int32) dX11_outlook_2 (by decide)) ?_
  refine lf (a_iconst (5 : Int32) dX11_outlook_3 (by decide)) ?_
  refine lf (a_invS (b2 := (0, 0)) (Ct.int (y := 1) (by decide) (m_in (nI 3) 0 5)) rfl dX11_outlook_4 yk_X11_in sm_X11_in ml_X11_102 rfl (by decide) (by decide) (Nat.le_of_ble_eq_true rfl)) ?_
  refine lf2 (a_if_eq (tgt := 14) dX11_outlook_7 (by decide)) (fun h7 => absurd h7 (by decide)) (fun h7 => ?_)
  refine lf (a_iconst (0 : Int32) dX11_outlook_10 (by decide)) ?_
  refine lf (a_goto (tgt := 15) dX11_outlook_11 (by decide)) ?_
  refine lf (a_inv (b2 := (0, 0)) (m_isRefused0 (by repeat (first | with_reducible exact hw | with_reducible exact hwc | with_reducible assumption | with_reducible apply Wf.sI | with_reducible apply Wf.sL | with_reducible apply Wf.cpI | with_reducible apply Wf.cpL | with_reducible apply Wf.cp2 | with_reducible apply Wf.sIs | with_reducible apply Wf.sLs | with_reducible apply Wf.cpU | with_reducible apply Wf.fillI | with_reducible apply Wf.clU | with_reducible apply Wf.dnF | with_reducible apply Wf.gbW))) rfl dX11_outlook_15 yk_X11_isRefused im_X11_isRefused se_X11_isRefused ml_X11_98 rfl (co_338 (by repeat (first | with_reducible exact hw | with_reducible exact hwc | with_reducible assumption | with_reducible apply Wf.sI | with_reducible apply Wf.sL | with_reducible apply Wf.cpI | with_reducible apply Wf.cpL | with_reducible apply Wf.cp2 | with_reducible apply Wf.sIs | with_reducible apply Wf.sLs | with_reducible apply Wf.cpU | with_reducible apply Wf.fillI | with_reducible apply Wf.clU | with_reducible apply Wf.dnF | with_reducible apply Wf.gbW))) (by decide) hc_X11 (by decide) (by decide) (Nat.le_of_ble_eq_true rfl)) ?_
  refine lf2 (a_if_eq (tgt := 23) dX11_outlook_18 (by decide)) (fun h18 => ?_) (fun h18 => absurd h18 (fun z => z rfl))
  refine lf (a_aload_n dX11_outlook_23 rfl) ?_
  obtain ⟨v_, W24, k24, rfl, hL⟩ := (m_laysService hw1 hv1 hq0 hd0 hx1 he)
  have hwc := hL.1.wf
  have hv2 := hv1.md hL.1
  have hg2 := hL.2.2
  obtain ⟨o1, o2, o3, o4, o5, o6⟩ := ol_N hq0 hd0 hL.2.1
  refine lf (a_inv (b2 := (0, 0)) k24 rfl dX11_outlook_24 yk_X11_laysService im_X11_laysService se_X11_laysService ml_X11_468 rfl (co_338 (by repeat (first | with_reducible exact hw | with_reducible exact hwc | with_reducible assumption | with_reducible apply Wf.sI | with_reducible apply Wf.sL | with_reducible apply Wf.cpI | with_reducible apply Wf.cpL | with_reducible apply Wf.cp2 | with_reducible apply Wf.sIs | with_reducible apply Wf.sLs | with_reducible apply Wf.cpU | with_reducible apply Wf.fillI | with_reducible apply Wf.clU | with_reducible apply Wf.dnF | with_reducible apply Wf.gbW))) (by decide) hc_X11 (by decide) (by decide) (Nat.le_of_ble_eq_true rfl)) ?_
  refine lf (a_iload_n dX11_outlook_27 rfl) ?_
  refine lf (a_tsIn (tgt := 80) dX11_outlook_28 (by decide) (by decide) rfl (by decide)) ?_
  refine lf (a_aload_n dX11_outlook_80 rfl) ?_
  refine lf (a_inv (b2 := (0, 0)) (m_allLoaded (by repeat (first | with_reducible exact hw | with_reducible exact hwc | with_reducible assumption | with_reducible apply Wf.sI | with_reducible apply Wf.sL | with_reducible apply Wf.cpI | with_reducible apply Wf.cpL | with_reducible apply Wf.cp2 | with_reducible apply Wf.sIs | with_reducible apply Wf.sLs | with_reducible apply Wf.cpU | with_reducible apply Wf.fillI | with_reducible apply Wf.clU | with_reducible apply Wf.dnF | with_reducible apply Wf.gbW)) hv2) rfl dX11_outlook_81 yk_X11_allLoaded im_X11_allLoaded se_X11_allLoaded ml_X11_357 rfl (co_338 (by repeat (first | with_reducible exact hw | with_reducible exact hwc | with_reducible assumption | with_reducible apply Wf.sI | with_reducible apply Wf.sL | with_reducible apply Wf.cpI | with_reducible apply Wf.cpL | with_reducible apply Wf.cp2 | with_reducible apply Wf.sIs | with_reducible apply Wf.sLs | with_reducible apply Wf.cpU | with_reducible apply Wf.fillI | with_reducible apply Wf.clU | with_reducible apply Wf.dnF | with_reducible apply Wf.gbW))) (by decide) hc_X11 (by decide) (by decide) (Nat.le_of_ble_eq_true rfl)) ?_
  refine lf (a_aload_n dX11_outlook_84 rfl) ?_
  refine lf (a_inv (b2 := (0, 0)) (Ct.int o2 (m_eaten (by repeat (first | with_reducible exact hw | with_reducible exact hwc | with_reducible assumption | with_reducible apply Wf.sI | with_reducible apply Wf.sL | with_reducible apply Wf.cpI | with_reducible apply Wf.cpL | with_reducible apply Wf.cp2 | with_reducible apply Wf.sIs | with_reducible apply Wf.sLs | with_reducible apply Wf.cpU | with_reducible apply Wf.fillI | with_reducible apply Wf.clU | with_reducible apply Wf.dnF | with_reducible apply Wf.gbW)) hv2 hg2)) rfl dX11_outlook_85 yk_X11_eaten im_X11_eaten se_X11_eaten ml_X11_474 rfl (co_338 (by repeat (first | with_reducible exact hw | with_reducible exact hwc | with_reducible assumption | with_reducible apply Wf.sI | with_reducible apply Wf.sL | with_reducible apply Wf.cpI | with_reducible apply Wf.cpL | with_reducible apply Wf.cp2 | with_reducible apply Wf.sIs | with_reducible apply Wf.sLs | with_reducible apply Wf.cpU | with_reducible apply Wf.fillI | with_reducible apply Wf.clU | with_reducible apply Wf.dnF | with_reducible apply Wf.gbW))) (by decide) hc_X11 (by decide) (by decide) (Nat.le_of_ble_eq_true rfl)) ?_
  refine lf (a_isub dX11_outlook_88) ?_
  rw [o4]
  refine ⟨_, _, (a_ireturn dX11_outlook_89 rfl rfl), ?_⟩
  exact ⟨_, rfl, rfl, hL.mq hw⟩
theorem m_outlook_4 (hw : Wf μ) (hv : MdV μ q d) (hq0 : GdP q) (hd0 : GdD q d) (hx : MxV (gI μ 344) q d) (he : SeD q d) : CV Y_X11_outlook R_X11_outlook [.ref 338, .int (nI 4)] μ (fun v V => v = some (.int (olV q d 4)) ∧ MqQ μ 0 V) := by
  have hM4 := hv.M4
  have hP4 := hv.P4
  have hw1 : Wf (sI μ 338 0 0) := hw.sI
  have hv1 : MdV (sI μ 338 0 0) q d := hv.th 0
  have hx1 : MxV (gI (sI μ 338 0 0) 344) q d := by
    have e : gI (sI μ 338 0 0) 344 = gI μ 344 := funext fun k => by rw [gI_sI, if_neg (by omega)]
    rw [e]; exact hx
  refine CV.ent yk_X11_outlook (Nat.le_of_ble_eq_true rfl) ?_
  refine lf (a_aload_n dX11_outlook_0 rfl) ?_
  refine lf (a_iload_n dX11_outlook_1 rfl) ?_
  refine lf (a_iconst (0 : Int32) dX11_outlook_2 (by decide)) ?_
  refine lf (a_iconst (5 : Int32) dX11_outlook_3 (by decide)) ?_
  refine lf (a_invS (b2 := (0, 0)) (Ct.int (y := 1) (by decide) (m_in (nI 4) 0 5)) rfl dX11_outlook_4 yk_X11_in sm_X11_in ml_X11_102 rfl (by decide) (by decide) (Nat.le_of_ble_eq_true rfl)) ?_
  refine lf2 (a_if_eq (tgt := 14) dX11_outlook_7 (by decide)) (fun h7 => absurd h7 (by decide)) (fun h7 => ?_)
  refine lf (a_iconst (0 : Int32) dX11_outlook_10 (by decide)) ?_
  refine lf (a_goto (tgt := 15) dX11_outlook_11 (by decide)) ?_
  refine lf (a_inv (b2 := (0, 0)) (m_isRefused0 (by repeat (first | with_reducible exact hw | with_reducible exact hwc | with_reducible assumption | with_reducible apply Wf.sI | with_reducible apply Wf.sL | with_reducible apply Wf.cpI | with_reducible apply Wf.cpL | with_reducible apply Wf.cp2 | with_reducible apply Wf.sIs | with_reducible apply Wf.sLs | with_reducible apply Wf.cpU | with_reducible apply Wf.fillI | with_reducible apply Wf.clU | with_reducible apply Wf.dnF | with_reducible apply Wf.gbW))) rfl dX11_outlook_15 yk_X11_isRefused im_X11_isRefused se_X11_isRefused ml_X11_98 rfl (co_338 (by repeat (first | with_reducible exact hw | with_reducible exact hwc | with_reducible assumption | with_reducible apply Wf.sI | with_reducible apply Wf.sL | with_reducible apply Wf.cpI | with_reducible apply Wf.cpL | with_reducible apply Wf.cp2 | with_reducible apply Wf.sIs | with_reducible apply Wf.sLs | with_reducible apply Wf.cpU | with_reducible apply Wf.fillI | with_reducible apply Wf.clU | with_reducible apply Wf.dnF | with_reducible apply Wf.gbW))) (by decide) hc_X11 (by decide) (by decide) (Nat.le_of_ble_eq_true rfl)) ?_
  refine lf2 (a_if_eq (tgt := 23) dX11_outlook_18 (by decide)) (fun h18 => ?_) (fun h18 => absurd h18 (fun z => z rfl))
  refine lf (a_aload_n dX11_outlook_23 rfl) ?_
  obtain ⟨v_, W24, k24, rfl, hL⟩ := (m_laysService hw1 hv1 hq0 hd0 hx1 he)
  have hwc := hL.1.wf
  have hv2 := hv1.md hL.1
  have hg2 := hL.2.2
  obtain ⟨o1, o2, o3, o4, o5, o6⟩ := ol_N hq0 hd0 hL.2.1
  refine lf (a_inv (b2 := (0, 0)) k24 rfl dX11_outlook_24 yk_X11_laysService im_X11_laysService se_X11_laysService ml_X11_468 rfl (co_338 (by repeat (first | with_reducible exact hw | with_reducible exact hwc | with_reducible assumption | with_reducible apply Wf.sI | with_reducible apply Wf.sL | with_reducible apply Wf.cpI | with_reducible apply Wf.cpL | with_reducible apply Wf.cp2 | with_reducible apply Wf.sIs | with_reducible apply Wf.sLs | with_reducible apply Wf.cpU | with_reducible apply Wf.fillI | with_reducible apply Wf.clU | with_reducible apply Wf.dnF | with_reducible apply Wf.gbW))) (by decide) hc_X11 (by decide) (by decide) (Nat.le_of_ble_eq_true rfl)) ?_
  refine lf (a_iload_n dX11_outlook_27 rfl) ?_
  refine lf (a_tsIn (tgt := 90) dX11_outlook_28 (by decide) (by decide) rfl (by decide)) ?_
  refine lf (a_aload_n dX11_outlook_90 rfl) ?_
  refine lf (a_inv (b2 := (0, 0)) (Ct.int o5 (m_wastedCost (by repeat (first | with_reducible exact hw | with_reducible exact hwc | with_reducible assumption | with_reducible apply Wf.sI | with_reducible apply Wf.sL | with_reducible apply Wf.cpI | with_reducible apply Wf.cpL | with_reducible apply Wf.cp2 | with_reducible apply Wf.sIs | with_reducible apply Wf.sLs | with_reducible apply Wf.cpU | with_reducible apply Wf.fillI | with_reducible apply Wf.clU | with_reducible apply Wf.dnF | with_reducible apply Wf.gbW)) hv2 hg2)) rfl dX11_outlook_91 yk_X11_wastedCost im_X11_wastedCost se_X11_wastedCost ml_X11_477 rfl (co_338 (by repeat (first | with_reducible exact hw | with_reducible exact hwc | with_reducible assumption | with_reducible apply Wf.sI | with_reducible apply Wf.sL | with_reducible apply Wf.cpI | with_reducible apply Wf.cpL | with_reducible apply Wf.cp2 | with_reducible apply Wf.sIs | with_reducible apply Wf.sLs | with_reducible apply Wf.cpU | with_reducible apply Wf.fillI | with_reducible apply Wf.clU | with_reducible apply Wf.dnF | with_reducible apply Wf.gbW))) (by decide) hc_X11 (by decide) (by decide) (Nat.le_of_ble_eq_true rfl)) ?_
  refine ⟨_, _, (a_ireturn dX11_outlook_94 rfl rfl), ?_⟩
  exact ⟨_, rfl, rfl, hL.mq hw⟩
theorem m_outlook_5 (hw : Wf μ) (hv : MdV μ q d) (hq0 : GdP q) (hd0 : GdD q d) (hx : MxV (gI μ 344) q d) (he : SeD q d) : CV Y_X11_outlook R_X11_outlook [.ref 338, .int (nI 5)] μ (fun v V => v = some (.int (olV q d 5)) ∧ MqQ μ 0 V) := by
  have hM4 := hv.M4
  have hP4 := hv.P4
  have hw1 : Wf (sI μ 338 0 0) := hw.sI
  have hv1 : MdV (sI μ 338 0 0) q d := hv.th 0
  have hx1 : MxV (gI (sI μ 338 0 0) 344) q d := by
    have e : gI (sI μ 338 0 0) 344 = gI μ 344 := funext fun k => by rw [gI_sI, if_neg (by omega)]
    rw [e]; exact hx
  refine CV.ent yk_X11_outlook (Nat.le_of_ble_eq_true rfl) ?_
  refine lf (a_aload_n dX11_outlook_0 rfl) ?_
  refine lf (a_iload_n dX11_outlook_1 rfl) ?_
  refine lf (a_iconst (0 : Int32) dX11_outlook_2 (by decide)) ?_
  refine lf (a_iconst (5 : Int32) dX11_outlook_3 (by decide)) ?_
  refine lf (a_invS (b2 := (0, 0)) (Ct.int (y := 1) (by decide) (m_in (nI 5) 0 5)) rfl dX11_outlook_4 yk_X11_in sm_X11_in ml_X11_102 rfl (by decide) (by decide) (Nat.le_of_ble_eq_true rfl)) ?_
  refine lf2 (a_if_eq (tgt := 14) dX11_outlook_7 (by decide)) (fun h7 => absurd h7 (by decide)) (fun h7 => ?_)
  refine lf (a_iconst (0 : Int32) dX11_outlook_10 (by decide)) ?_
  refine lf (a_goto (tgt := 15) dX11_outlook_11 (by decide)) ?_
  refine lf (a_inv (b2 := (0, 0)) (m_isRefused0 (by repeat (first | with_reducible exact hw | with_reducible exact hwc | with_reducible assumption | with_reducible apply Wf.sI | with_reducible apply Wf.sL | with_reducible apply Wf.cpI | with_reducible apply Wf.cpL | with_reducible apply Wf.cp2 | with_reducible apply Wf.sIs | with_reducible apply Wf.sLs | with_reducible apply Wf.cpU | with_reducible apply Wf.fillI | with_reducible apply Wf.clU | with_reducible apply Wf.dnF | with_reducible apply Wf.gbW))) rfl dX11_outlook_15 yk_X11_isRefused im_X11_isRefused se_X11_isRefused ml_X11_98 rfl (co_338 (by repeat (first | with_reducible exact hw | with_reducible exact hwc | with_reducible assumption | with_reducible apply Wf.sI | with_reducible apply Wf.sL | with_reducible apply Wf.cpI | with_reducible apply Wf.cpL | with_reducible apply Wf.cp2 | with_reducible apply Wf.sIs | with_reducible apply Wf.sLs | with_reducible apply Wf.cpU | with_reducible apply Wf.fillI | with_reducible apply Wf.clU | with_reducible apply Wf.dnF | with_reducible apply Wf.gbW))) (by decide) hc_X11 (by decide) (by decide) (Nat.le_of_ble_eq_true rfl)) ?_
  refine lf2 (a_if_eq (tgt := 23) dX11_outlook_18 (by decide)) (fun h18 => ?_) (fun h18 => absurd h18 (fun z => z rfl))
  refine lf (a_aload_n dX11_outlook_23 rfl) ?_
  obtain ⟨v_, W24, k24, rfl, hL⟩ := (m_laysService hw1 hv1 hq0 hd0 hx1 he)
  have hwc := hL.1.wf
  have hv2 := hv1.md hL.1
  have hg2 := hL.2.2
  obtain ⟨o1, o2, o3, o4, o5, o6⟩ := ol_N hq0 hd0 hL.2.1
  refine lf (a_inv (b2 := (0, 0)) k24 rfl dX11_outlook_24 yk_X11_laysService im_X11_laysService se_X11_laysService ml_X11_468 rfl (co_338 (by repeat (first | with_reducible exact hw | with_reducible exact hwc | with_reducible assumption | with_reducible apply Wf.sI | with_reducible apply Wf.sL | with_reducible apply Wf.cpI | with_reducible apply Wf.cpL | with_reducible apply Wf.cp2 | with_reducible apply Wf.sIs | with_reducible apply Wf.sLs | with_reducible apply Wf.cpU | with_reducible apply Wf.fillI | with_reducible apply Wf.clU | with_reducible apply Wf.dnF | with_reducible apply Wf.gbW))) (by decide) hc_X11 (by decide) (by decide) (Nat.le_of_ble_eq_true rfl)) ?_
  refine lf (a_iload_n dX11_outlook_27 rfl) ?_
  refine lf (a_tsOut (tgt := 95) dX11_outlook_28 (by decide) (by decide)) ?_
  refine lf (a_aload_n dX11_outlook_95 rfl) ?_
  refine lf (a_inv (b2 := (0, 0)) (Ct.int o6 (m_wishes (by repeat (first | with_reducible exact hw | with_reducible exact hwc | with_reducible assumption | with_reducible apply Wf.sI | with_reducible apply Wf.sL | with_reducible apply Wf.cpI | with_reducible apply Wf.cpL | with_reducible apply Wf.cp2 | with_reducible apply Wf.sIs | with_reducible apply Wf.sLs | with_reducible apply Wf.cpU | with_reducible apply Wf.fillI | with_reducible apply Wf.clU | with_reducible apply Wf.dnF | with_reducible apply Wf.gbW)) hv2 hg2)) rfl dX11_outlook_96 yk_X11_wishes im_X11_wishes se_X11_wishes ml_X11_480 rfl (co_338 (by repeat (first | with_reducible exact hw | with_reducible exact hwc | with_reducible assumption | with_reducible apply Wf.sI | with_reducible apply Wf.sL | with_reducible apply Wf.cpI | with_reducible apply Wf.cpL | with_reducible apply Wf.cp2 | with_reducible apply Wf.sIs | with_reducible apply Wf.sLs | with_reducible apply Wf.cpU | with_reducible apply Wf.fillI | with_reducible apply Wf.clU | with_reducible apply Wf.dnF | with_reducible apply Wf.gbW))) (by decide) hc_X11 (by decide) (by decide) (Nat.le_of_ble_eq_true rfl)) ?_
  refine ⟨_, _, (a_ireturn dX11_outlook_99 rfl rfl), ?_⟩
  exact ⟨_, rfl, rfl, hL.mq hw⟩
theorem m_outlook (hw : Wf μ) (hv : MdV μ q d) (hq0 : GdP q) (hd0 : GdD q d) (hx : MxV (gI μ 344) q d) (he : SeD q d) {k : Nat} (hk : k < 6) : CV Y_X11_outlook R_X11_outlook [.ref 338, .int (nI k)] μ (fun v V => v = some (.int (olV q d k)) ∧ MqQ μ 0 V) := by
  rcases (by omega : k = 0 ∨ k = 1 ∨ k = 2 ∨ k = 3 ∨ k = 4 ∨ k = 5) with rfl | rfl | rfl | rfl | rfl | rfl
  · exact m_outlook_0 hw hv hq0 hd0 hx he
  · exact m_outlook_1 hw hv hq0 hd0 hx he
  · exact m_outlook_2 hw hv hq0 hd0 hx he
  · exact m_outlook_3 hw hv hq0 hd0 hx he
  · exact m_outlook_4 hw hv hq0 hd0 hx he
  · exact m_outlook_5 hw hv hq0 hd0 hx he

theorem mx_outlook (hw : Wf μ) (hv : MdV μ q d) {x : Int32} (h : ixO x 6 = none) : Ct Y_X11_outlook R_X11_outlook [.ref 338, .int x] μ (.inl (some (.int (0)))) (sI μ 338 0 1) := by
  refine Ct.ent yk_X11_outlook (Nat.le_of_ble_eq_true rfl) ?_
  have h2 : inI x 0 5 = 0 := (inI_ix (x := x) (n := 6) (by decide)).trans (isO_none h)
  refine a_aload_n dX11_outlook_0 rfl ?_
  refine a_iload_n dX11_outlook_1 rfl ?_
  refine a_iconst (0 : Int32) dX11_outlook_2 (by decide) ?_
  refine a_iconst (5 : Int32) dX11_outlook_3 (by decide) ?_
  refine a_invS (b2 := (0, 0)) (Ct.int h2 (m_in x 0 5)) rfl dX11_outlook_4 yk_X11_in sm_X11_in ml_X11_102 rfl (by decide) (by decide) (Nat.le_of_ble_eq_true rfl) ?_
  refine a_if_eq (tgt := 14) dX11_outlook_7 (by decide) (fun h7 => ?_) (fun h7 => absurd h7 (fun z => z rfl))
  refine a_iconst (1 : Int32) dX11_outlook_14 (by decide) ?_
  refine a_inv (b2 := (0, 0)) (m_isRefused1 (by repeat (first | with_reducible exact hw | with_reducible exact hwc | with_reducible assumption | with_reducible apply Wf.sI | with_reducible apply Wf.sL | with_reducible apply Wf.cpI | with_reducible apply Wf.cpL | with_reducible apply Wf.cp2 | with_reducible apply Wf.sIs | with_reducible apply Wf.sLs | with_reducible apply Wf.cpU | with_reducible apply Wf.fillI | with_reducible apply Wf.clU | with_reducible apply Wf.dnF | with_reducible apply Wf.gbW)) (v := 1) (by decide)) rfl dX11_outlook_15 yk_X11_isRefused im_X11_isRefused se_X11_isRefused ml_X11_98 rfl (co_338 (by repeat (first | with_reducible exact hw | with_reducible exact hwc | with_reducible assumption | with_reducible apply Wf.sI | with_reducible apply Wf.sL | with_reducible apply Wf.cpI | with_reducible apply Wf.cpL | with_reducible apply Wf.cp2 | with_reducible apply Wf.sIs | with_reducible apply Wf.sLs | with_reducible apply Wf.cpU | with_reducible apply Wf.fillI | with_reducible apply Wf.clU | with_reducible apply Wf.dnF | with_reducible apply Wf.gbW))) (by decide) hc_X11 (by decide) (by decide) (Nat.le_of_ble_eq_true rfl) ?_
  refine a_if_eq (tgt := 23) dX11_outlook_18 (by decide) (fun h18 => absurd h18 (by decide)) (fun h18 => ?_)
  refine a_iconst (0 : Int32) dX11_outlook_21 (by decide) ?_
  exact a_out rfl rfl (a_ireturn dX11_outlook_22 rfl rfl)
abbrev R_X11_mealFor : Room := { frames := 9, cells := 0, slots := 0, locals := 205 }
abbrev RX_X11_mealFor : Room := { frames := 9, cells := 1, slots := 6, locals := 205 }

theorem m_mealFor (hw : Wf μ) (hv : MdV μ q d) (hq0 : GdP q) (hd0 : GdD q d) (hx : MxV (gI μ 344) q d) (he : SeD q d) {i : Nat} (hi : i < dP d) : CV Y_X11_mealFor R_X11_mealFor [.ref 338, .int (nI i)] μ (fun v V => v = some (.int (oI ((svR q d).1 i))) ∧ MqQ μ 0 V) := by
  have hM4 := hv.M4
  have hP4 := hv.P4
  have hw1 : Wf (sI μ 338 0 0) := hw.sI
  have hv1 : MdV (sI μ 338 0 0) q d := hv.th 0
  have hx1 : MxV (gI (sI μ 338 0 0) 344) q d := by
    have e : gI (sI μ 338 0 0) 344 = gI μ 344 := funext fun k => by rw [gI_sI, if_neg (by omega)]
    rw [e]; exact hx
  refine CV.ent yk_X11_mealFor (Nat.le_of_ble_eq_true rfl) ?_
  refine lf (a_aload_n dX11_mealFor_0 rfl) ?_
  refine lf (a_aload_n dX11_mealFor_1 rfl) ?_
  refine lf (a_iload_n dX11_mealFor_2 rfl) ?_
  refine lf (a_inv (b2 := (0, 0)) (Ct.int (isO_lt hi (by omega)) (m_isPassenger (by repeat (first | with_reducible exact hw | with_reducible exact hwc | with_reducible assumption | with_reducible apply Wf.sI | with_reducible apply Wf.sL | with_reducible apply Wf.cpI | with_reducible apply Wf.cpL | with_reducible apply Wf.cp2 | with_reducible apply Wf.sIs | with_reducible apply Wf.sLs | with_reducible apply Wf.cpU | with_reducible apply Wf.fillI | with_reducible apply Wf.clU | with_reducible apply Wf.dnF | with_reducible apply Wf.gbW)) hv (nI i))) rfl dX11_mealFor_3 yk_X11_isPassenger im_X11_isPassenger se_X11_isPassenger ml_X11_385 rfl (co_338 (by repeat (first | with_reducible exact hw | with_reducible exact hwc | with_reducible assumption | with_reducible apply Wf.sI | with_reducible apply Wf.sL | with_reducible apply Wf.cpI | with_reducible apply Wf.cpL | with_reducible apply Wf.cp2 | with_reducible apply Wf.sIs | with_reducible apply Wf.sLs | with_reducible apply Wf.cpU | with_reducible apply Wf.fillI | with_reducible apply Wf.clU | with_reducible apply Wf.dnF | with_reducible apply Wf.gbW))) (by decide) hc_X11 (by decide) (by decide) (Nat.le_of_ble_eq_true rfl)) ?_
  refine lf2 (a_if_eq (tgt := 13) dX11_mealFor_6 (by decide)) (fun h6 => absurd h6 (by decide)) (fun h6 => ?_)
  refine lf (a_iconst (0 : Int32) dX11_mealFor_9 (by decide)) ?_
  refine lf (a_goto (tgt := 14) dX11_mealFor_10 (by decide)) ?_
  refine lf (a_inv (b2 := (0, 0)) (m_isRefused0 (by repeat (first | with_reducible exact hw | with_reducible exact hwc | with_reducible assumption | with_reducible apply Wf.sI | with_reducible apply Wf.sL | with_reducible apply Wf.cpI | with_reducible apply Wf.cpL | with_reducible apply Wf.cp2 | with_reducible apply Wf.sIs | with_reducible apply Wf.sLs | with_reducible apply Wf.cpU | with_reducible apply Wf.fillI | with_reducible apply Wf.clU | with_reducible apply Wf.dnF | with_reducible apply Wf.gbW))) rfl dX11_mealFor_14 yk_X11_isRefused im_X11_isRefused se_X11_isRefused ml_X11_98 rfl (co_338 (by repeat (first | with_reducible exact hw | with_reducible exact hwc | with_reducible assumption | with_reducible apply Wf.sI | with_reducible apply Wf.sL | with_reducible apply Wf.cpI | with_reducible apply Wf.cpL | with_reducible apply Wf.cp2 | with_reducible apply Wf.sIs | with_reducible apply Wf.sLs | with_reducible apply Wf.cpU | with_reducible apply Wf.fillI | with_reducible apply Wf.clU | with_reducible apply Wf.dnF | with_reducible apply Wf.gbW))) (by decide) hc_X11 (by decide) (by decide) (Nat.le_of_ble_eq_true rfl)) ?_
  refine lf2 (a_if_eq (tgt := 22) dX11_mealFor_17 (by decide)) (fun h17 => ?_) (fun h17 => absurd h17 (fun z => z rfl))
  refine lf (a_aload_n dX11_mealFor_22 rfl) ?_
  obtain ⟨v_, W23, k23, rfl, hL⟩ := (m_laysService hw1 hv1 hq0 hd0 hx1 he)
  have hwc := hL.1.wf
  refine lf (a_inv (b2 := (0, 0)) k23 rfl dX11_mealFor_23 yk_X11_laysService im_X11_laysService se_X11_laysService ml_X11_468 rfl (co_338 (by repeat (first | with_reducible exact hw | with_reducible exact hwc | with_reducible assumption | with_reducible apply Wf.sI | with_reducible apply Wf.sL | with_reducible apply Wf.cpI | with_reducible apply Wf.cpL | with_reducible apply Wf.cp2 | with_reducible apply Wf.sIs | with_reducible apply Wf.sLs | with_reducible apply Wf.cpU | with_reducible apply Wf.fillI | with_reducible apply Wf.clU | with_reducible apply Wf.dnF | with_reducible apply Wf.gbW))) (by decide) hc_X11 (by decide) (by decide) (Nat.le_of_ble_eq_true rfl)) ?_
  refine lf (a_aload_n dX11_mealFor_26 rfl) ?_
  refine lf (a_getR (cr_338_31 (by repeat (first | with_reducible exact hw | with_reducible exact hwc | with_reducible assumption | with_reducible apply Wf.sI | with_reducible apply Wf.sL | with_reducible apply Wf.cpI | with_reducible apply Wf.cpL | with_reducible apply Wf.cp2 | with_reducible apply Wf.sIs | with_reducible apply Wf.sLs | with_reducible apply Wf.cpU | with_reducible apply Wf.fillI | with_reducible apply Wf.clU | with_reducible apply Wf.dnF | with_reducible apply Wf.gbW))) dX11_mealFor_27 fs_X11_67 rfl (co_338 (by repeat (first | with_reducible exact hw | with_reducible exact hwc | with_reducible assumption | with_reducible apply Wf.sI | with_reducible apply Wf.sL | with_reducible apply Wf.cpI | with_reducible apply Wf.cpL | with_reducible apply Wf.cp2 | with_reducible apply Wf.sIs | with_reducible apply Wf.sLs | with_reducible apply Wf.cpU | with_reducible apply Wf.fillI | with_reducible apply Wf.clU | with_reducible apply Wf.dnF | with_reducible apply Wf.gbW)))) ?_
  refine lf (a_iload_n dX11_mealFor_30 rfl) ?_
  refine lf (a_ild dX11_mealFor_31 (ca_356 (by repeat (first | with_reducible exact hw | with_reducible exact hwc | with_reducible assumption | with_reducible apply Wf.sI | with_reducible apply Wf.sL | with_reducible apply Wf.cpI | with_reducible apply Wf.cpL | with_reducible apply Wf.cp2 | with_reducible apply Wf.sIs | with_reducible apply Wf.sLs | with_reducible apply Wf.cpU | with_reducible apply Wf.fillI | with_reducible apply Wf.clU | with_reducible apply Wf.dnF | with_reducible apply Wf.gbW))) (ixn (show i < 40 by omega) (by decide))) ?_
  rw [hL.2.2 i hi]
  refine ⟨_, _, (a_ireturn dX11_mealFor_32 rfl rfl), ?_⟩
  exact ⟨_, rfl, rfl, hL.mq hw⟩

theorem mx_mealFor (hw : Wf μ) (hv : MdV μ q d) {x : Int32} (h : ixO x (dP d) = none) : Ct Y_X11_mealFor R_X11_mealFor [.ref 338, .int x] μ (.inl (some (.int (0)))) (sI μ 338 0 1) := by
  refine Ct.ent yk_X11_mealFor (Nat.le_of_ble_eq_true rfl) ?_
  refine a_aload_n dX11_mealFor_0 rfl ?_
  refine a_aload_n dX11_mealFor_1 rfl ?_
  refine a_iload_n dX11_mealFor_2 rfl ?_
  refine a_inv (b2 := (0, 0)) (Ct.int (isO_none h) (m_isPassenger (by repeat (first | with_reducible exact hw | with_reducible exact hwc | with_reducible assumption | with_reducible apply Wf.sI | with_reducible apply Wf.sL | with_reducible apply Wf.cpI | with_reducible apply Wf.cpL | with_reducible apply Wf.cp2 | with_reducible apply Wf.sIs | with_reducible apply Wf.sLs | with_reducible apply Wf.cpU | with_reducible apply Wf.fillI | with_reducible apply Wf.clU | with_reducible apply Wf.dnF | with_reducible apply Wf.gbW)) hv x)) rfl dX11_mealFor_3 yk_X11_isPassenger im_X11_isPassenger se_X11_isPassenger ml_X11_385 rfl (co_338 (by repeat (first | with_reducible exact hw | with_reducible exact hwc | with_reducible assumption | with_reducible apply Wf.sI | with_reducible apply Wf.sL | with_reducible apply Wf.cpI | with_reducible apply Wf.cpL | with_reducible apply Wf.cp2 | with_reducible apply Wf.sIs | with_reducible apply Wf.sLs | with_reducible apply Wf.cpU | with_reducible apply Wf.fillI | with_reducible apply Wf.clU | with_reducible apply Wf.dnF | with_reducible apply Wf.gbW))) (by decide) hc_X11 (by decide) (by decide) (Nat.le_of_ble_eq_true rfl) ?_
  refine a_if_eq (tgt := 13) dX11_mealFor_6 (by decide) (fun h6 => ?_) (fun h6 => absurd h6 (fun z => z rfl))
  refine a_iconst (1 : Int32) dX11_mealFor_13 (by decide) ?_
  refine a_inv (b2 := (0, 0)) (m_isRefused1 (by repeat (first | with_reducible exact hw | with_reducible exact hwc | with_reducible assumption | with_reducible apply Wf.sI | with_reducible apply Wf.sL | with_reducible apply Wf.cpI | with_reducible apply Wf.cpL | with_reducible apply Wf.cp2 | with_reducible apply Wf.sIs | with_reducible apply Wf.sLs | with_reducible apply Wf.cpU | with_reducible apply Wf.fillI | with_reducible apply Wf.clU | with_reducible apply Wf.dnF | with_reducible apply Wf.gbW)) (v := 1) (by decide)) rfl dX11_mealFor_14 yk_X11_isRefused im_X11_isRefused se_X11_isRefused ml_X11_98 rfl (co_338 (by repeat (first | with_reducible exact hw | with_reducible exact hwc | with_reducible assumption | with_reducible apply Wf.sI | with_reducible apply Wf.sL | with_reducible apply Wf.cpI | with_reducible apply Wf.cpL | with_reducible apply Wf.cp2 | with_reducible apply Wf.sIs | with_reducible apply Wf.sLs | with_reducible apply Wf.cpU | with_reducible apply Wf.fillI | with_reducible apply Wf.clU | with_reducible apply Wf.dnF | with_reducible apply Wf.gbW))) (by decide) hc_X11 (by decide) (by decide) (Nat.le_of_ble_eq_true rfl) ?_
  refine a_if_eq (tgt := 22) dX11_mealFor_17 (by decide) (fun h17 => absurd h17 (by decide)) (fun h17 => ?_)
  refine a_iconst (0 : Int32) dX11_mealFor_20 (by decide) ?_
  exact a_out rfl rfl (a_ireturn dX11_mealFor_21 rfl rfl)
end OUTLOOKM
