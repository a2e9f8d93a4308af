section MNAMES
variable {μ W V : Wd} {B : Nat → Nat} {n p x : Nat} {z : PZ}
def lnS (B : Nat → Nat) (n p : Nat) : (Nat × Nat) ⊕ Unit := if tkK B n p = 1 ∧ (tkL B n p).length ≤ 6 then .inr () else .inl (1, tkS B n p)
theorem NaL.v (hp : p ≤ n) {l : List Nat} (h : NaL l) : wvN l = wdL B n p ↔ (tkK B n p = 1 ∧ tkL B n p = l) := by
  rw [← wdL_is hp h.1 h.2.1 (by have := h.2.2; omega)]
  exact ⟨Eq.symm, Eq.symm⟩
theorem NaL.lt {l : List Nat} (h : NaL l) : wvN l < 2 ^ 40 := wvN_lt h.1 (by have := h.2.2; omega)
theorem HdV.l (h : HdV B n p μ) (v : Int64) : HdV B n p (sL μ 338 25 v) := h
abbrev R_X11_looksName : Room := { frames := 4, cells := 0, slots := 0, locals := 86 }
abbrev RX_X11_looksName : Room := { frames := 4, cells := 1, slots := 6, locals := 86 }

theorem m_looksName (hz : MgV B n p z μ) : CV Y_X11_looksName R_X11_looksName [.ref 338] μ (RdK μ (lnS B n p) (fun _ V => MgV B n p z V ∧ HdV B n p V ∧ tkS B n p < n ∧ gL V 338 25 = lN (wdL B n p))) := by
  refine CV.ent yk_X11_looksName (Nat.le_of_ble_eq_true rfl) ?_
  have hw := hz.wf
  have hn9 := hz.n9
  have hte := tkE_le (B := B) hz.le
  have hlen := tkL_len B n p
  have hl2 := wdL_lt (B := B) (n := n) (p := p)
  by_cases hq : tkK B n p = 1 ∧ (tkL B n p).length ≤ 8
  · have hc : ¬ lg_cmp (lN (wdL B n p)) 0 = 0 := fun z => (wdL_0 hz.le).mp ((lN_inj (b := 0) (by omega) (by omega)).mp (lgc_eq.mp z)) hq
    have hs := (tkK1.mp hq.1).1
    refine lf (a_aload_n dX11_looksName_0 rfl) ?_
    refine lf (a_aload_n dX11_looksName_1 rfl) ?_
    obtain ⟨v_, W2, k2, rfl, hF, hH⟩ := (m_nextWord hw hz.tx)
    have hw1 := hF.1.1
    have hz2 := (hz.hd hF hH).l (lN (wdL B n p))
    have hF2 := hF.fk.sL (lN (wdL B n p))
    have hw2 := hz2.wf
    refine lf (a_inv (b2 := (0, 0)) k2 rfl dX11_looksName_2 yk_X11_nextWord im_X11_nextWord se_X11_nextWord ml_X11_158 rfl (co_338 (by repeat (first | with_reducible exact hw | with_reducible exact hwc | with_reducible assumption | with_reducible apply Wf.sI | with_reducible apply Wf.sL | with_reducible apply Wf.cpI | with_reducible apply Wf.cpL | with_reducible apply Wf.cp2 | with_reducible apply Wf.sIs | with_reducible apply Wf.sLs | with_reducible apply Wf.cpU | with_reducible apply Wf.fillI | with_reducible apply Wf.clU | with_reducible apply Wf.dnF | with_reducible apply Wf.gbW))) (by decide) hc_X11 (by decide) (by decide) (Nat.le_of_ble_eq_true rfl)) ?_
    refine lf (a_putL dX11_looksName_5 fs_X11_176 rfl (co_338 (by repeat (first | with_reducible exact hw | with_reducible exact hwc | with_reducible assumption | with_reducible apply Wf.sI | with_reducible apply Wf.sL | with_reducible apply Wf.cpI | with_reducible apply Wf.cpL | with_reducible apply Wf.cp2 | with_reducible apply Wf.sIs | with_reducible apply Wf.sLs | with_reducible apply Wf.cpU | with_reducible apply Wf.fillI | with_reducible apply Wf.clU | with_reducible apply Wf.dnF | with_reducible apply Wf.gbW)))) ?_
    refine lf (a_aload_n dX11_looksName_8 rfl) ?_
    refine lf (a_getL dX11_looksName_9 fs_X11_176 rfl (co_338 (by repeat (first | with_reducible exact hw | with_reducible exact hwc | with_reducible assumption | with_reducible apply Wf.sI | with_reducible apply Wf.sL | with_reducible apply Wf.cpI | with_reducible apply Wf.cpL | with_reducible apply Wf.cp2 | with_reducible apply Wf.sIs | with_reducible apply Wf.sLs | with_reducible apply Wf.cpU | with_reducible apply Wf.fillI | with_reducible apply Wf.clU | with_reducible apply Wf.dnF | with_reducible apply Wf.gbW)))) ?_
    rw [gL_sL, if_pos ⟨rfl, rfl⟩]
    refine lf (a_lconst (0 : Int64) dX11_looksName_12 (by decide)) ?_
    refine lf (a_lcmp dX11_looksName_13) ?_
    refine lf2 (a_if_eq (tgt := 26) dX11_looksName_14 (by decide)) (fun h14 => absurd h14 hc) (fun h14 => ?_)
    refine lf (a_aload_n dX11_looksName_17 rfl) ?_
    refine lf (a_inv (b2 := (0, 0)) (m_letters hw2 (b := tkE B n p) hH.2.1 (hH.e hs) hte.1) rfl dX11_looksName_18 yk_X11_letters im_X11_letters se_X11_letters ml_X11_151 rfl (co_338 (by repeat (first | with_reducible exact hw | with_reducible exact hwc | with_reducible assumption | with_reducible apply Wf.sI | with_reducible apply Wf.sL | with_reducible apply Wf.cpI | with_reducible apply Wf.cpL | with_reducible apply Wf.cp2 | with_reducible apply Wf.sIs | with_reducible apply Wf.sLs | with_reducible apply Wf.cpU | with_reducible apply Wf.fillI | with_reducible apply Wf.clU | with_reducible apply Wf.dnF | with_reducible apply Wf.gbW))) (by decide) hc_X11 (by decide) (by decide) (Nat.le_of_ble_eq_true rfl)) ?_
    refine lf (a_bipush (6 : Int32) dX11_looksName_21 (by decide)) ?_
    refine lf2 (a_icmp_le (tgt := 32) dX11_looksName_23 (by decide)) (fun h23 => ?_) (fun h23 => ?_)
    · have h23 := (nI_leI (b := 6) (by omega) (by decide)).mp h23
      refine lf (a_iconst (1 : Int32) dX11_looksName_32 (by decide)) ?_
      refine ⟨_, _, (a_ireturn dX11_looksName_33 rfl rfl), ?_⟩
      exact ⟨_, rfl, RdK.ok hF2 (if_pos ⟨hq.1, by omega⟩) ⟨hz2, hH.l _, hs, by rw [gL_sL, if_pos ⟨rfl, rfl⟩]⟩⟩
    · have h23 : ¬ _ := fun z => h23 ((nI_leI (b := 6) (by omega) (by decide)).mpr z)
      refine lf (a_aload_n dX11_looksName_26 rfl) ?_
      refine lf (a_iconst (1 : Int32) dX11_looksName_27 (by decide)) ?_
      refine lf (a_inv (b2 := (0, 0)) (m_fails hw2 1) rfl dX11_looksName_28 yk_X11_fails im_X11_fails se_X11_fails ml_X11_166 rfl (co_338 (by repeat (first | with_reducible exact hw | with_reducible exact hwc | with_reducible assumption | with_reducible apply Wf.sI | with_reducible apply Wf.sL | with_reducible apply Wf.cpI | with_reducible apply Wf.cpL | with_reducible apply Wf.cp2 | with_reducible apply Wf.sIs | with_reducible apply Wf.sLs | with_reducible apply Wf.cpU | with_reducible apply Wf.fillI | with_reducible apply Wf.clU | with_reducible apply Wf.dnF | with_reducible apply Wf.gbW))) (by decide) hc_X11 (by decide) (by decide) (Nat.le_of_ble_eq_true rfl)) ?_
      refine ⟨_, _, (a_ireturn dX11_looksName_31 rfl rfl), ?_⟩
      exact ⟨_, rfl, RdK.fail (c := 1) hF2 hH.2.1 (if_neg (fun z => h23 (by omega)))⟩
  · have hc : lg_cmp (lN (wdL B n p)) 0 = 0 := lgc_eq.mpr (by rw [(wdL_0 hz.le).mpr hq]; rfl)
    refine lf (a_aload_n dX11_looksName_0 rfl) ?_
    refine lf (a_aload_n dX11_looksName_1 rfl) ?_
    obtain ⟨v_, W2, k2, rfl, hF, hH⟩ := (m_nextWord hw hz.tx)
    have hw1 := hF.1.1
    have hz2 := (hz.hd hF hH).l (lN (wdL B n p))
    have hF2 := hF.fk.sL (lN (wdL B n p))
    have hw2 := hz2.wf
    refine lf (a_inv (b2 := (0, 0)) k2 rfl dX11_looksName_2 yk_X11_nextWord im_X11_nextWord se_X11_nextWord ml_X11_158 rfl (co_338 (by repeat (first | with_reducible exact hw | with_reducible exact hwc | with_reducible assumption | with_reducible apply Wf.sI | with_reducible apply Wf.sL | with_reducible apply Wf.cpI | with_reducible apply Wf.cpL | with_reducible apply Wf.cp2 | with_reducible apply Wf.sIs | with_reducible apply Wf.sLs | with_reducible apply Wf.cpU | with_reducible apply Wf.fillI | with_reducible apply Wf.clU | with_reducible apply Wf.dnF | with_reducible apply Wf.gbW))) (by decide) hc_X11 (by decide) (by decide) (Nat.le_of_ble_eq_true rfl)) ?_
    refine lf (a_putL dX11_looksName_5 fs_X11_176 rfl (co_338 (by repeat (first | with_reducible exact hw | with_reducible exact hwc | with_reducible assumption | with_reducible apply Wf.sI | with_reducible apply Wf.sL | with_reducible apply Wf.cpI | with_reducible apply Wf.cpL | with_reducible apply Wf.cp2 | with_reducible apply Wf.sIs | with_reducible apply Wf.sLs | with_reducible apply Wf.cpU | with_reducible apply Wf.fillI | with_reducible apply Wf.clU | with_reducible apply Wf.dnF | with_reducible apply Wf.gbW)))) ?_
    refine lf (a_aload_n dX11_looksName_8 rfl) ?_
    refine lf (a_getL dX11_looksName_9 fs_X11_176 rfl (co_338 (by repeat (first | with_reducible exact hw | with_reducible exact hwc | with_reducible assumption | with_reducible apply Wf.sI | with_reducible apply Wf.sL | with_reducible apply Wf.cpI | with_reducible apply Wf.cpL | with_reducible apply Wf.cp2 | with_reducible apply Wf.sIs | with_reducible apply Wf.sLs | with_reducible apply Wf.cpU | with_reducible apply Wf.fillI | with_reducible apply Wf.clU | with_reducible apply Wf.dnF | with_reducible apply Wf.gbW)))) ?_
    rw [gL_sL, if_pos ⟨rfl, rfl⟩]
    refine lf (a_lconst (0 : Int64) dX11_looksName_12 (by decide)) ?_
    refine lf (a_lcmp dX11_looksName_13) ?_
    refine lf2 (a_if_eq (tgt := 26) dX11_looksName_14 (by decide)) (fun h14 => ?_) (fun h14 => absurd h14 (fun z => z hc))
    refine lf (a_aload_n dX11_looksName_26 rfl) ?_
    refine lf (a_iconst (1 : Int32) dX11_looksName_27 (by decide)) ?_
    refine lf (a_inv (b2 := (0, 0)) (m_fails hw2 1) rfl dX11_looksName_28 yk_X11_fails im_X11_fails se_X11_fails ml_X11_166 rfl (co_338 (by repeat (first | with_reducible exact hw | with_reducible exact hwc | with_reducible assumption | with_reducible apply Wf.sI | with_reducible apply Wf.sL | with_reducible apply Wf.cpI | with_reducible apply Wf.cpL | with_reducible apply Wf.cp2 | with_reducible apply Wf.sIs | with_reducible apply Wf.sLs | with_reducible apply Wf.cpU | with_reducible apply Wf.fillI | with_reducible apply Wf.clU | with_reducible apply Wf.dnF | with_reducible apply Wf.gbW))) (by decide) hc_X11 (by decide) (by decide) (Nat.le_of_ble_eq_true rfl)) ?_
    refine ⟨_, _, (a_ireturn dX11_looksName_31 rfl rfl), ?_⟩
    exact ⟨_, rfl, RdK.fail (c := 1) hF2 hH.2.1 (if_neg (fun z => hq ⟨z.1, by have := z.2; omega⟩))⟩
abbrev R_X11_cabinNamed : Room := { frames := 0, cells := 0, slots := 0, locals := 0 }
abbrev RX_X11_cabinNamed : Room := { frames := 0, cells := 1, slots := 6, locals := 0 }

theorem l_X11_cabinNamed (hz : MgV B n p z μ) (hg : GzD z) : ∀ dd m, m + dd = pC z.1 → AW Y_X11_cabinNamed R_X11_cabinNamed (0, 0) μ 2 [(0, .ref 338), (1, .long (lN (wdL B n p))), (3, .int (nI m))] [] (.inl (some (.int (oI (fstF (fun i => decide (tkK B n p = 1 ∧ tkL B n p = z.2.2.1 i)) dd m))))) μ := by
  have hw := hz.wf
  have h4 : pC z.1 ≤ 4 := hg.q.C4
  have e0 : gI μ 340 0 = nI (pC z.1) := hz.dr.1.1.1
  have hl2 := wdL_lt (B := B) (n := n) (p := p)
  intro dd
  induction dd with
  | zero =>
    intro m hm
    obtain rfl : pC z.1 = m := by omega
    refine a_iload_n dX11_cabinNamed_2 rfl ?_
    refine a_aload_n dX11_cabinNamed_3 rfl ?_
    refine a_getR (cr_338_2 hw) dX11_cabinNamed_4 fs_X11_13 rfl (co_338 hw) ?_
    refine a_iconst (0 : Int32) dX11_cabinNamed_7 (by decide) ?_
    refine a_ild dX11_cabinNamed_8 (ca_340 hw) (ixn (m := 0) (by omega) (by decide)) ?_
    rw [e0]
    refine a_icmp_ge (tgt := 31) dX11_cabinNamed_9 (by decide) (fun h9 => ?_) (fun h9 => absurd h9 (fun z => z (nI_le (Nat.le_refl _) (by omega))))
    refine a_iconst (-1 : Int32) dX11_cabinNamed_31 (by decide) ?_
    exact a_out rfl rfl (a_ireturn dX11_cabinNamed_32 rfl rfl)
  | succ dd ih =>
    intro m hm
    have hmk : m < pC z.1 := by omega
    have hna := hg.nC m hmk
    have hv := hna.v (B := B) hz.le
    have hlt := hna.lt
    have enm := hz.dr.2.2.1 m hmk
    refine a_iload_n dX11_cabinNamed_2 rfl ?_
    refine a_aload_n dX11_cabinNamed_3 rfl ?_
    refine a_getR (cr_338_2 hw) dX11_cabinNamed_4 fs_X11_13 rfl (co_338 hw) ?_
    refine a_iconst (0 : Int32) dX11_cabinNamed_7 (by decide) ?_
    refine a_ild dX11_cabinNamed_8 (ca_340 hw) (ixn (m := 0) (by omega) (by decide)) ?_
    rw [e0]
    refine a_icmp_ge (tgt := 31) dX11_cabinNamed_9 (by decide) (fun h9 => absurd h9 (nI_ge (by omega) (by omega))) (fun h9 => ?_)
    refine a_aload_n dX11_cabinNamed_12 rfl ?_
    refine a_getR (cr_338_4 hw) dX11_cabinNamed_13 fs_X11_20 rfl (co_338 hw) ?_
    refine a_iload_n dX11_cabinNamed_16 rfl ?_
    refine a_lld dX11_cabinNamed_17 (ca_342 hw) (ixn (by omega) (by decide)) ?_
    rw [enm]
    refine a_lload_n dX11_cabinNamed_18 rfl ?_
    refine a_lcmp dX11_cabinNamed_19 ?_
    refine a_if_ne (tgt := 25) dX11_cabinNamed_20 (by decide) (fun h20 => ?_) (fun h20 => ?_)
    · have h20 : ¬ (tkK B n p = 1 ∧ tkL B n p = z.2.2.1 m) := fun q => h20 (lgc_eq.mpr (congrArg lN (hv.mpr q)))
      refine a_iincN dX11_cabinNamed_25 rfl (by decide) ?_
      refine a_goto (tgt := 2) dX11_cabinNamed_28 (by decide) ?_
      have qih := ih (m + 1) (by omega)
      unfold fstF
      rw [if_neg (by rw [decide_eq_true_eq]; exact h20)]
      exact a_loc _ rfl qih
    · have h20 := hv.mp ((lN_inj (by omega) (by omega)).mp (lgc_eq.mp h20))
      refine a_iload_n dX11_cabinNamed_23 rfl ?_
      exact a_out (by unfold fstF; rw [if_pos (decide_eq_true h20)]; rfl) rfl (a_ireturn dX11_cabinNamed_24 rfl rfl)
theorem m_cabinNamed (hz : MgV B n p z μ) (hg : GzD z) : Ct Y_X11_cabinNamed R_X11_cabinNamed [.ref 338, .long (lN (wdL B n p))] μ (.inl (some (.int (oI (cfS B n p (pC z.1) (z.2.2.1)))))) μ := by
  refine Ct.ent yk_X11_cabinNamed (Nat.le_of_ble_eq_true rfl) ?_
  refine a_iconst (0 : Int32) dX11_cabinNamed_0 (by decide) ?_
  refine a_istore_n dX11_cabinNamed_1 (by decide) ?_
  exact a_loc _ rfl (l_X11_cabinNamed hz hg (pC z.1) 0 (by omega))
abbrev R_X11_mealNamed : Room := { frames := 0, cells := 0, slots := 0, locals := 0 }
abbrev RX_X11_mealNamed : Room := { frames := 0, cells := 1, slots := 6, locals := 0 }

theorem l_X11_mealNamed (hz : MgV B n p z μ) (hg : GzD z) : ∀ dd m, m + dd = pM z.1 → AW Y_X11_mealNamed R_X11_mealNamed (0, 0) μ 2 [(0, .ref 338), (1, .long (lN (wdL B n p))), (3, .int (nI m))] [] (.inl (some (.int (oI (fstF (fun i => decide (tkK B n p = 1 ∧ tkL B n p = z.2.2.2 i)) dd m))))) μ := by
  have hw := hz.wf
  have h4 : pM z.1 ≤ 12 := hg.q.M4
  have e0 : gI μ 340 1 = nI (pM z.1) := hz.dr.1.1.2.1
  have hl2 := wdL_lt (B := B) (n := n) (p := p)
  intro dd
  induction dd with
  | zero =>
    intro m hm
    obtain rfl : pM z.1 = m := by omega
    refine a_iload_n dX11_mealNamed_2 rfl ?_
    refine a_aload_n dX11_mealNamed_3 rfl ?_
    refine a_getR (cr_338_2 hw) dX11_mealNamed_4 fs_X11_13 rfl (co_338 hw) ?_
    refine a_iconst (1 : Int32) dX11_mealNamed_7 (by decide) ?_
    refine a_ild dX11_mealNamed_8 (ca_340 hw) (ixn (m := 1) (by omega) (by decide)) ?_
    rw [e0]
    refine a_icmp_ge (tgt := 31) dX11_mealNamed_9 (by decide) (fun h9 => ?_) (fun h9 => absurd h9 (fun z => z (nI_le (Nat.le_refl _) (by omega))))
    refine a_iconst (-1 : Int32) dX11_mealNamed_31 (by decide) ?_
    exact a_out rfl rfl (a_ireturn dX11_mealNamed_32 rfl rfl)
  | succ dd ih =>
    intro m hm
    have hmk : m < pM z.1 := by omega
    have hna := hg.nM m hmk
    have hv := hna.v (B := B) hz.le
    have hlt := hna.lt
    have enm := hz.dr.2.2.2 m hmk
    refine a_iload_n dX11_mealNamed_2 rfl ?_
    refine a_aload_n dX11_mealNamed_3 rfl ?_
    refine a_getR (cr_338_2 hw) dX11_mealNamed_4 fs_X11_13 rfl (co_338 hw) ?_
    refine a_iconst (1 : Int32) dX11_mealNamed_7 (by decide) ?_
    refine a_ild dX11_mealNamed_8 (ca_340 hw) (ixn (m := 1) (by omega) (by decide)) ?_
    rw [e0]
    refine a_icmp_ge (tgt := 31) dX11_mealNamed_9 (by decide) (fun h9 => absurd h9 (nI_ge (by omega) (by omega))) (fun h9 => ?_)
    refine a_aload_n dX11_mealNamed_12 rfl ?_
    refine a_getR (cr_338_5 hw) dX11_mealNamed_13 fs_X11_23 rfl (co_338 hw) ?_
    refine a_iload_n dX11_mealNamed_16 rfl ?_
    refine a_lld dX11_mealNamed_17 (ca_343 hw) (ixn (by omega) (by decide)) ?_
    rw [enm]
    refine a_lload_n dX11_mealNamed_18 rfl ?_
    refine a_lcmp dX11_mealNamed_19 ?_
    refine a_if_ne (tgt := 25) dX11_mealNamed_20 (by decide) (fun h20 => ?_) (fun h20 => ?_)
    · have h20 : ¬ (tkK B n p = 1 ∧ tkL B n p = z.2.2.2 m) := fun q => h20 (lgc_eq.mpr (congrArg lN (hv.mpr q)))
      refine a_iincN dX11_mealNamed_25 rfl (by decide) ?_
      refine a_goto (tgt := 2) dX11_mealNamed_28 (by decide) ?_
      have qih := ih (m + 1) (by omega)
      unfold fstF
      rw [if_neg (by rw [decide_eq_true_eq]; exact h20)]
      exact a_loc _ rfl qih
    · have h20 := hv.mp ((lN_inj (by omega) (by omega)).mp (lgc_eq.mp h20))
      refine a_iload_n dX11_mealNamed_23 rfl ?_
      exact a_out (by unfold fstF; rw [if_pos (decide_eq_true h20)]; rfl) rfl (a_ireturn dX11_mealNamed_24 rfl rfl)
theorem m_mealNamed (hz : MgV B n p z μ) (hg : GzD z) : Ct Y_X11_mealNamed R_X11_mealNamed [.ref 338, .long (lN (wdL B n p))] μ (.inl (some (.int (oI (cfS B n p (pM z.1) (z.2.2.2)))))) μ := by
  refine Ct.ent yk_X11_mealNamed (Nat.le_of_ble_eq_true rfl) ?_
  refine a_iconst (0 : Int32) dX11_mealNamed_0 (by decide) ?_
  refine a_istore_n dX11_mealNamed_1 (by decide) ?_
  exact a_loc _ rfl (l_X11_mealNamed hz hg (pM z.1) 0 (by omega))
abbrev R_X11_looksCabin : Room := { frames := 4, cells := 0, slots := 0, locals := 86 }
abbrev RX_X11_looksCabin : Room := { frames := 4, cells := 1, slots := 6, locals := 86 }

theorem cfS_k1 {k : Nat} {nm : Nat → List Nat} (h : ¬ tkK B n p = 1) : cfS B n p k nm = none := by
  cases e : cfS B n p k nm with
  | none => rfl
  | some i => exact absurd (cfS_lt e).2.1 h
theorem m_looksCabin (hz : MgV B n p z μ) (hg : GzD z) : CV Y_X11_looksCabin R_X11_looksCabin [.ref 338] μ (RdK μ (ncS B n p z) (fun a V => MgV B n p z V ∧ HdV B n p V ∧ tkS B n p < n ∧ gI V 338 26 = nI a)) := by
  refine CV.ent yk_X11_looksCabin (Nat.le_of_ble_eq_true rfl) ?_
  have hw := hz.wf
  have hl := hl_let (p := p) (fun k hk => hz.tx.b256 hk)
  by_cases hk1 : tkK B n p = 1
  · rw [if_pos hk1] at hl
    have hs := (tkK1.mp hk1).1
    refine lf (a_aload_n dX11_looksCabin_0 rfl) ?_
    obtain ⟨v_, W1, k1, rfl, hF, hH⟩ := (m_peek hw hz.tx)
    have hz1 := hz.hd hF hH
    have hw1 := hz1.wf
    refine lf (a_inv (b2 := (0, 0)) k1 rfl dX11_looksCabin_1 yk_X11_peek im_X11_peek se_X11_peek ml_X11_148 rfl (co_338 (by repeat (first | with_reducible exact hw | with_reducible exact hwc | with_reducible assumption | with_reducible apply Wf.sI | with_reducible apply Wf.sL | with_reducible apply Wf.cpI | with_reducible apply Wf.cpL | with_reducible apply Wf.cp2 | with_reducible apply Wf.sIs | with_reducible apply Wf.sLs | with_reducible apply Wf.cpU | with_reducible apply Wf.fillI | with_reducible apply Wf.clU | with_reducible apply Wf.dnF | with_reducible apply Wf.gbW))) (by decide) hc_X11 (by decide) (by decide) (Nat.le_of_ble_eq_true rfl)) ?_
    refine lf (a_invS (b2 := (0, 0)) (Ct.int hl (m_isLetter _)) rfl dX11_looksCabin_4 yk_X11_isLetter sm_X11_isLetter ml_X11_142 rfl (by decide) (by decide) (Nat.le_of_ble_eq_true rfl)) ?_
    refine lfn (a_if_ne (tgt := 16) dX11_looksCabin_7 (by decide)) (fun h7 => ?_) (fun h7 => absurd h7 (by decide))
    refine lf (a_aload_n dX11_looksCabin_16 rfl) ?_
    refine lf (a_aload_n dX11_looksCabin_17 rfl) ?_
    refine lf (a_aload_n dX11_looksCabin_18 rfl) ?_
    obtain ⟨v_, W19, k19, rfl, hF2, hH2⟩ := (m_nextWord hz1.wf hz1.tx)
    have hz2 := hz1.hd hF2 hH2
    have hw2 := hz2.wf
    have hFF := hF.fk.trans hF2.fk
    refine lf (a_inv (b2 := (0, 0)) k19 rfl dX11_looksCabin_19 yk_X11_nextWord im_X11_nextWord se_X11_nextWord ml_X11_158 rfl (co_338 (by repeat (first | with_reducible exact hw | with_reducible exact hwc | with_reducible assumption | with_reducible apply Wf.sI | with_reducible apply Wf.sL | with_reducible apply Wf.cpI | with_reducible apply Wf.cpL | with_reducible apply Wf.cp2 | with_reducible apply Wf.sIs | with_reducible apply Wf.sLs | with_reducible apply Wf.cpU | with_reducible apply Wf.fillI | with_reducible apply Wf.clU | with_reducible apply Wf.dnF | with_reducible apply Wf.gbW))) (by decide) hc_X11 (by decide) (by decide) (Nat.le_of_ble_eq_true rfl)) ?_
    refine lf (a_inv (b2 := (0, 0)) (m_cabinNamed hz2 hg) rfl dX11_looksCabin_22 yk_X11_cabinNamed im_X11_cabinNamed se_X11_cabinNamed ml_X11_180 rfl (co_338 (by repeat (first | with_reducible exact hw | with_reducible exact hwc | with_reducible assumption | with_reducible apply Wf.sI | with_reducible apply Wf.sL | with_reducible apply Wf.cpI | with_reducible apply Wf.cpL | with_reducible apply Wf.cp2 | with_reducible apply Wf.sIs | with_reducible apply Wf.sLs | with_reducible apply Wf.cpU | with_reducible apply Wf.fillI | with_reducible apply Wf.clU | with_reducible apply Wf.dnF | with_reducible apply Wf.gbW))) (by decide) hc_X11 (by decide) (by decide) (Nat.le_of_ble_eq_true rfl)) ?_
    cases hcf : cfS B n p (pC z.1) z.2.2.1 with
    | none =>
      refine lf (a_putI dX11_looksCabin_25 fs_X11_184 rfl rfl rfl (co_338 (by repeat (first | with_reducible exact hw | with_reducible exact hwc | with_reducible assumption | with_reducible apply Wf.sI | with_reducible apply Wf.sL | with_reducible apply Wf.cpI | with_reducible apply Wf.cpL | with_reducible apply Wf.cp2 | with_reducible apply Wf.sIs | with_reducible apply Wf.sLs | with_reducible apply Wf.cpU | with_reducible apply Wf.fillI | with_reducible apply Wf.clU | with_reducible apply Wf.dnF | with_reducible apply Wf.gbW)))) ?_
      have hw3 := (hz2.s (k := 26) (Or.inr (Or.inl rfl)) (oI none)).wf
      have hF3 := hFF.set (k := 26) (by decide) (oI none)
      have hH3 := hH2.s (k := 26) (by decide) (oI none)
      refine lf (a_aload_n dX11_looksCabin_28 rfl) ?_
      refine lf (a_getI dX11_looksCabin_29 fs_X11_184 rfl (co_338 (by repeat (first | with_reducible exact hw | with_reducible exact hwc | with_reducible assumption | with_reducible apply Wf.sI | with_reducible apply Wf.sL | with_reducible apply Wf.cpI | with_reducible apply Wf.cpL | with_reducible apply Wf.cp2 | with_reducible apply Wf.sIs | with_reducible apply Wf.sLs | with_reducible apply Wf.cpU | with_reducible apply Wf.fillI | with_reducible apply Wf.clU | with_reducible apply Wf.dnF | with_reducible apply Wf.gbW)))) ?_
      rw [gI_sI, if_pos ⟨rfl, rfl⟩]
      refine lf (a_iconst (-1 : Int32) dX11_looksCabin_32 (by decide)) ?_
      refine lfn (a_icmp_ne (tgt := 44) dX11_looksCabin_33 (by decide)) (fun h33 => absurd h33 (fun z => z rfl)) (fun h33 => ?_)
      refine lf (a_aload_n dX11_looksCabin_36 rfl) ?_
      refine lf (a_iconst (3 : Int32) dX11_looksCabin_37 (by decide)) ?_
      refine lf (a_inv (b2 := (0, 0)) (m_fails hw3 3) rfl dX11_looksCabin_38 yk_X11_fails im_X11_fails se_X11_fails ml_X11_166 rfl (co_338 (by repeat (first | with_reducible exact hw | with_reducible exact hwc | with_reducible assumption | with_reducible apply Wf.sI | with_reducible apply Wf.sL | with_reducible apply Wf.cpI | with_reducible apply Wf.cpL | with_reducible apply Wf.cp2 | with_reducible apply Wf.sIs | with_reducible apply Wf.sLs | with_reducible apply Wf.cpU | with_reducible apply Wf.fillI | with_reducible apply Wf.clU | with_reducible apply Wf.dnF | with_reducible apply Wf.gbW))) (by decide) hc_X11 (by decide) (by decide) (Nat.le_of_ble_eq_true rfl)) ?_
      refine lf2 (a_if_eq (tgt := 48) dX11_looksCabin_41 (by decide)) (fun h41 => ?_) (fun h41 => absurd h41 (by decide))
      refine lf (a_iconst (0 : Int32) dX11_looksCabin_48 (by decide)) ?_
      refine ⟨_, _, (a_ireturn dX11_looksCabin_49 rfl rfl), ?_⟩
      exact ⟨_, rfl, RdK.fail (c := 3) hF3 hH3.2.1 (by unfold ncS nmE; rw [hcf, if_pos hk1])⟩
    | some i =>
      refine lf (a_putI dX11_looksCabin_25 fs_X11_184 rfl rfl rfl (co_338 (by repeat (first | with_reducible exact hw | with_reducible exact hwc | with_reducible assumption | with_reducible apply Wf.sI | with_reducible apply Wf.sL | with_reducible apply Wf.cpI | with_reducible apply Wf.cpL | with_reducible apply Wf.cp2 | with_reducible apply Wf.sIs | with_reducible apply Wf.sLs | with_reducible apply Wf.cpU | with_reducible apply Wf.fillI | with_reducible apply Wf.clU | with_reducible apply Wf.dnF | with_reducible apply Wf.gbW)))) ?_
      have hw3 := (hz2.s (k := 26) (Or.inr (Or.inl rfl)) (oI (some i))).wf
      have hF3 := hFF.set (k := 26) (by decide) (oI (some i))
      have hH3 := hH2.s (k := 26) (by decide) (oI (some i))
      refine lf (a_aload_n dX11_looksCabin_28 rfl) ?_
      refine lf (a_getI dX11_looksCabin_29 fs_X11_184 rfl (co_338 (by repeat (first | with_reducible exact hw | with_reducible exact hwc | with_reducible assumption | with_reducible apply Wf.sI | with_reducible apply Wf.sL | with_reducible apply Wf.cpI | with_reducible apply Wf.cpL | with_reducible apply Wf.cp2 | with_reducible apply Wf.sIs | with_reducible apply Wf.sLs | with_reducible apply Wf.cpU | with_reducible apply Wf.fillI | with_reducible apply Wf.clU | with_reducible apply Wf.dnF | with_reducible apply Wf.gbW)))) ?_
      rw [gI_sI, if_pos ⟨rfl, rfl⟩]
      refine lf (a_iconst (-1 : Int32) dX11_looksCabin_32 (by decide)) ?_
      refine lfn (a_icmp_ne (tgt := 44) dX11_looksCabin_33 (by decide)) (fun h33 => ?_) (fun h33 => absurd h33 (nI_ne1 (by have := (cfS_lt hcf).1; have := hg.q.C4; omega)))
      refine lf (a_iconst (1 : Int32) dX11_looksCabin_44 (by decide)) ?_
      refine lf (a_goto (tgt := 49) dX11_looksCabin_45 (by decide)) ?_
      refine ⟨_, _, (a_ireturn dX11_looksCabin_49 rfl rfl), ?_⟩
      exact ⟨_, rfl, RdK.ok hF3 (by unfold ncS; rw [hcf]) ⟨hz2.s (Or.inr (Or.inl rfl)) _, hH3, hs, by rw [gI_sI, if_pos ⟨rfl, rfl⟩]; rfl⟩⟩
  · rw [if_neg hk1] at hl
    refine lf (a_aload_n dX11_looksCabin_0 rfl) ?_
    obtain ⟨v_, W1, k1, rfl, hF, hH⟩ := (m_peek hw hz.tx)
    have hz1 := hz.hd hF hH
    have hw1 := hz1.wf
    refine lf (a_inv (b2 := (0, 0)) k1 rfl dX11_looksCabin_1 yk_X11_peek im_X11_peek se_X11_peek ml_X11_148 rfl (co_338 (by repeat (first | with_reducible exact hw | with_reducible exact hwc | with_reducible assumption | with_reducible apply Wf.sI | with_reducible apply Wf.sL | with_reducible apply Wf.cpI | with_reducible apply Wf.cpL | with_reducible apply Wf.cp2 | with_reducible apply Wf.sIs | with_reducible apply Wf.sLs | with_reducible apply Wf.cpU | with_reducible apply Wf.fillI | with_reducible apply Wf.clU | with_reducible apply Wf.dnF | with_reducible apply Wf.gbW))) (by decide) hc_X11 (by decide) (by decide) (Nat.le_of_ble_eq_true rfl)) ?_
    refine lf (a_invS (b2 := (0, 0)) (Ct.int hl (m_isLetter _)) rfl dX11_looksCabin_4 yk_X11_isLetter sm_X11_isLetter ml_X11_142 rfl (by decide) (by decide) (Nat.le_of_ble_eq_true rfl)) ?_
    refine lfn (a_if_ne (tgt := 16) dX11_looksCabin_7 (by decide)) (fun h7 => absurd h7 (by decide)) (fun h7 => ?_)
    refine lf (a_aload_n dX11_looksCabin_10 rfl) ?_
    refine lf (a_iconst (1 : Int32) dX11_looksCabin_11 (by decide)) ?_
    refine lf (a_inv (b2 := (0, 0)) (m_fails hw1 1) rfl dX11_looksCabin_12 yk_X11_fails im_X11_fails se_X11_fails ml_X11_166 rfl (co_338 (by repeat (first | with_reducible exact hw | with_reducible exact hwc | with_reducible assumption | with_reducible apply Wf.sI | with_reducible apply Wf.sL | with_reducible apply Wf.cpI | with_reducible apply Wf.cpL | with_reducible apply Wf.cp2 | with_reducible apply Wf.sIs | with_reducible apply Wf.sLs | with_reducible apply Wf.cpU | with_reducible apply Wf.fillI | with_reducible apply Wf.clU | with_reducible apply Wf.dnF | with_reducible apply Wf.gbW))) (by decide) hc_X11 (by decide) (by decide) (Nat.le_of_ble_eq_true rfl)) ?_
    refine ⟨_, _, (a_ireturn dX11_looksCabin_15 rfl rfl), ?_⟩
    exact ⟨_, rfl, RdK.fail (c := 1) hF.fk hH.2.1 (by unfold ncS nmE; rw [cfS_k1 hk1, if_neg hk1])⟩
abbrev R_X11_readCabinName : Room := { frames := 5, cells := 0, slots := 0, locals := 106 }
abbrev RX_X11_readCabinName : Room := { frames := 5, cells := 1, slots := 6, locals := 106 }

theorem m_readCabinName (hz : MgV B n p z μ) (hg : GzD z) : CV Y_X11_readCabinName R_X11_readCabinName [.ref 338] μ (RdK μ (ncS B n p z) (fun a V => MgV B n (tkE B n p) z V ∧ gI V 338 26 = nI a)) := by
  refine CV.ent yk_X11_readCabinName (Nat.le_of_ble_eq_true rfl) ?_
  have hw := hz.wf
  refine lf (a_aload_n dX11_readCabinName_0 rfl) ?_
  obtain ⟨v_, W1, k1, hR1⟩ := (m_looksCabin hz hg)
  obtain ⟨hX1, hR1⟩ := hR1
  generalize hr1 : ncS B n p z = r1 at hR1
  cases r1 with
  | inl a1 =>
    obtain ⟨rfl, hE⟩ := hR1
    refine lf (a_inv (b2 := (0, 0)) k1 rfl dX11_readCabinName_1 yk_X11_looksCabin im_X11_looksCabin se_X11_looksCabin ml_X11_187 rfl (co_338 (by repeat (first | with_reducible exact hw | with_reducible exact hwc | with_reducible assumption | with_reducible apply Wf.sI | with_reducible apply Wf.sL | with_reducible apply Wf.cpI | with_reducible apply Wf.cpL | with_reducible apply Wf.cp2 | with_reducible apply Wf.sIs | with_reducible apply Wf.sLs | with_reducible apply Wf.cpU | with_reducible apply Wf.fillI | with_reducible apply Wf.clU | with_reducible apply Wf.dnF | with_reducible apply Wf.gbW))) (by decide) hc_X11 (by decide) (by decide) (Nat.le_of_ble_eq_true rfl)) ?_
    refine lf2 (a_if_eq (tgt := 18) dX11_readCabinName_4 (by decide)) (fun h4 => ?_) (fun h4 => absurd h4 (by decide))
    refine lf (a_iconst (0 : Int32) dX11_readCabinName_18 (by decide)) ?_
    refine ⟨_, _, (a_ireturn dX11_readCabinName_19 rfl rfl), ?_⟩
    exact ⟨_, rfl, RdK.bad hX1 rfl hE⟩
  | inr a1 =>
    obtain ⟨rfl, hM, hH, hs, e22⟩ := hR1
    have hw3 := hM.wf
    have e21 := hH.e hs
    refine lf (a_inv (b2 := (0, 0)) k1 rfl dX11_readCabinName_1 yk_X11_looksCabin im_X11_looksCabin se_X11_looksCabin ml_X11_187 rfl (co_338 (by repeat (first | with_reducible exact hw | with_reducible exact hwc | with_reducible assumption | with_reducible apply Wf.sI | with_reducible apply Wf.sL | with_reducible apply Wf.cpI | with_reducible apply Wf.cpL | with_reducible apply Wf.cp2 | with_reducible apply Wf.sIs | with_reducible apply Wf.sLs | with_reducible apply Wf.cpU | with_reducible apply Wf.fillI | with_reducible apply Wf.clU | with_reducible apply Wf.dnF | with_reducible apply Wf.gbW))) (by decide) hc_X11 (by decide) (by decide) (Nat.le_of_ble_eq_true rfl)) ?_
    refine lf2 (a_if_eq (tgt := 18) dX11_readCabinName_4 (by decide)) (fun h4 => absurd h4 (by decide)) (fun h4 => ?_)
    refine lf (a_aload_n dX11_readCabinName_7 rfl) ?_
    refine lf (a_inv (b2 := (0, 0)) (m_passes hw3) rfl dX11_readCabinName_8 yk_X11_passes im_X11_passes se_X11_passes ml_X11_162 rfl (co_338 (by repeat (first | with_reducible exact hw | with_reducible exact hwc | with_reducible assumption | with_reducible apply Wf.sI | with_reducible apply Wf.sL | with_reducible apply Wf.cpI | with_reducible apply Wf.cpL | with_reducible apply Wf.cp2 | with_reducible apply Wf.sIs | with_reducible apply Wf.sLs | with_reducible apply Wf.cpU | with_reducible apply Wf.fillI | with_reducible apply Wf.clU | with_reducible apply Wf.dnF | with_reducible apply Wf.gbW))) (by decide) hc_X11 (by decide) (by decide) (Nat.le_of_ble_eq_true rfl)) ?_
    refine lf2 (a_if_eq (tgt := 18) dX11_readCabinName_11 (by decide)) (fun h11 => absurd h11 (by decide)) (fun h11 => ?_)
    refine lf (a_iconst (1 : Int32) dX11_readCabinName_14 (by decide)) ?_
    refine lf (a_goto (tgt := 19) dX11_readCabinName_15 (by decide)) ?_
    refine ⟨_, _, (a_ireturn dX11_readCabinName_19 rfl rfl), ?_⟩
    exact ⟨_, rfl, RdK.ok (hX1.set (by decide) _) rfl ⟨hM.pass e21, by rw [gI_sI, if_neg (by omega)]; exact e22⟩⟩
abbrev R_X11_has : Room := { frames := 0, cells := 0, slots := 0, locals := 0 }
abbrev RX_X11_has : Room := { frames := 0, cells := 1, slots := 6, locals := 0 }

theorem hasb : ∀ a, a < 256 → ∀ k, k < 8 → ((nI a >>> (nI k &&& 31)) &&& 1) = if a.testBit k = true then 1 else 0 := by decide +kernel
theorem m_has {a k : Nat} (ha : a < 256) (hk : k < 8) : Ct Y_X11_has R_X11_has [.int (nI a), .int (nI k)] μ (.inl (some (.int (if a.testBit k = true then 1 else 0)))) μ := by
  refine Ct.ent yk_X11_has (Nat.le_of_ble_eq_true rfl) ?_
  have hb := hasb a ha k hk
  refine a_iload_n dX11_has_0 rfl ?_
  refine a_iload_n dX11_has_1 rfl ?_
  refine a_ishr dX11_has_2 ?_
  refine a_iconst (1 : Int32) dX11_has_3 (by decide) ?_
  refine a_iand dX11_has_4 ?_
  rw [hb]
  refine a_iconst (1 : Int32) dX11_has_5 (by decide) ?_
  refine a_icmp_ne (tgt := 13) dX11_has_6 (by decide) (fun h6 => ?_) (fun h6 => ?_)
  · have h6 : ¬ a.testBit k = true := fun z => h6 (if_pos z)
    refine a_iconst (0 : Int32) dX11_has_13 (by decide) ?_
    exact a_out (by first | rw [if_pos h6] | rw [if_neg h6]) rfl (a_ireturn dX11_has_14 rfl rfl)
  · have h6 : a.testBit k = true := Classical.byContradiction fun z => absurd ((if_neg z).symm.trans h6) (by decide)
    refine a_iconst (1 : Int32) dX11_has_9 (by decide) ?_
    refine a_goto (tgt := 14) dX11_has_10 (by decide) ?_
    exact a_out (by first | rw [if_pos h6] | rw [if_neg h6]) rfl (a_ireturn dX11_has_14 rfl rfl)
abbrev R_X11_readDiets : Room := { frames := 3, cells := 0, slots := 0, locals := 63 }
abbrev RX_X11_readDiets : Room := { frames := 3, cells := 1, slots := 6, locals := 63 }

def K27 (μ V : Wd) : Prop := FkF μ V ∧ (∀ k, k ≠ 27 → gI V 338 k = gI μ 338 k)
theorem rd_l (hz : MgV B n p z μ) (hH : HdV B n p μ) (hs : tkS B n p < n) (hk1 : tkK B n p = 1) {r : Option Nat} {Q : Oc → Wd → Prop} (kx : ∀ (W : Wd) (a : Nat), r = some a → K27 μ W → gI W 338 27 = nI a → WP Y_X11_readDiets R_X11_readDiets (0, 0) W 84 [(0, .ref 338)] [] Q) (kn : ∀ W : Wd, r = none → K27 μ W → WP Y_X11_readDiets R_X11_readDiets (0, 0) W 60 [(0, .ref 338)] [] Q) : ∀ (dd m a : Nat) (W : Wd), m + dd = tkE B n p → tkS B n p ≤ m → a < 256 → K27 μ W → gI W 338 27 = nI a → dtW B dd m a = r → WP Y_X11_readDiets R_X11_readDiets (0, 0) W 26 [(0, .ref 338), (1, .int (nI m))] [] Q := by
  have hn := hz.n9
  have e19 := hz.tx.2.2.1
  have e52 := hz.tx.2.2.2.1
  have e21 := hH.e hs
  have hte := tkE_le (B := B) hz.le
  intro dd
  induction dd with
  | zero =>
    intro m a W hm hsm ha hF e27 hN
    obtain rfl : tkE B n p = m := by omega
    have hN : some a = r := hN
    have hw := hF.1.1.1
    have f21 := (hF.2 21 (by decide)).trans e21
    refine lf (a_iload_n dX11_readDiets_26 rfl) ?_
    refine lf (a_aload_n dX11_readDiets_27 rfl) ?_
    refine lf (a_getI dX11_readDiets_28 fs_X11_139 rfl (co_338 hw)) ?_
    rw [f21]
    refine lf2 (a_icmp_ge (tgt := 84) dX11_readDiets_31 (by decide)) (fun h31 => ?_) (fun h31 => absurd h31 (fun z => z (nI_le (Nat.le_refl _) (by omega))))
    exact lf (a_loc _ rfl) (kx W a hN.symm hF e27)
  | succ dd ih =>
    intro m a W hm hsm ha hF e27 hN
    have hw := hF.1.1.1
    have f21 := (hF.2 21 (by decide)).trans e21
    have hbm : bA B n m = nI (B m) := if_pos (by omega)
    have hts := tkK1.mp hk1
    have hk1 := kd1 (tkE_run hts.1 hts.2 (Or.inl rfl) m hsm (by omega))
    have hsb : nI (B m) - 97 = nI (B m - 97) := nI_subI (b := 97) hk1.1
    unfold dtW at hN
    refine lf (a_iload_n dX11_readDiets_26 rfl) ?_
    refine lf (a_aload_n dX11_readDiets_27 rfl) ?_
    refine lf (a_getI dX11_readDiets_28 fs_X11_139 rfl (co_338 (by repeat (first | with_reducible exact hw | with_reducible exact hwc | with_reducible assumption | with_reducible apply Wf.sI | with_reducible apply Wf.sL | with_reducible apply Wf.cpI | with_reducible apply Wf.cpL | with_reducible apply Wf.cp2 | with_reducible apply Wf.sIs | with_reducible apply Wf.sLs | with_reducible apply Wf.cpU | with_reducible apply Wf.fillI | with_reducible apply Wf.clU | with_reducible apply Wf.dnF | with_reducible apply Wf.gbW)))) ?_
    rw [f21]
    refine lf2 (a_icmp_ge (tgt := 84) dX11_readDiets_31 (by decide)) (fun h31 => absurd h31 (nI_ge (by omega) (by omega))) (fun h31 => ?_)
    refine lf (a_aload_n dX11_readDiets_34 rfl) ?_
    refine lf (a_iload_n dX11_readDiets_35 rfl) ?_
    refine lf (a_inv (b2 := (0, 0)) (m_byteAt (by repeat (first | with_reducible exact hw | with_reducible exact hwc | with_reducible assumption | with_reducible apply Wf.sI | with_reducible apply Wf.sL | with_reducible apply Wf.cpI | with_reducible apply Wf.cpL | with_reducible apply Wf.cp2 | with_reducible apply Wf.sIs | with_reducible apply Wf.sLs | with_reducible apply Wf.cpU | with_reducible apply Wf.fillI | with_reducible apply Wf.clU | with_reducible apply Wf.dnF | with_reducible apply Wf.gbW)) hn ((hF.2 19 (by decide)).trans e19) (fun k hk => ⟨(e52 k hk).1, (hF.1.1.i (by decide) k).trans (e52 k hk).2⟩) (k := m) (by omega)) rfl dX11_readDiets_36 yk_X11_byteAt im_X11_byteAt se_X11_byteAt ml_X11_133 rfl (co_338 (by repeat (first | with_reducible exact hw | with_reducible exact hwc | with_reducible assumption | with_reducible apply Wf.sI | with_reducible apply Wf.sL | with_reducible apply Wf.cpI | with_reducible apply Wf.cpL | with_reducible apply Wf.cp2 | with_reducible apply Wf.sIs | with_reducible apply Wf.sLs | with_reducible apply Wf.cpU | with_reducible apply Wf.fillI | with_reducible apply Wf.clU | with_reducible apply Wf.dnF | with_reducible apply Wf.gbW))) (by decide) hc_X11 (by decide) (by decide) (Nat.le_of_ble_eq_true rfl)) ?_
    refine lf (a_bipush (97 : Int32) dX11_readDiets_39 (by decide)) ?_
    refine lf (a_isub dX11_readDiets_41) ?_
    rw [hbm, hsb]
    refine lf (a_istore_n dX11_readDiets_42 (by decide)) ?_
    refine lf (a_iload_n dX11_readDiets_43 rfl) ?_
    refine lf (a_bipush (7 : Int32) dX11_readDiets_44 (by decide)) ?_
    refine lf2 (a_icmp_gt (tgt := 60) dX11_readDiets_46 (by decide)) (fun h46 => ?_) (fun h46 => ?_)
    · rw [if_pos (show 8 ≤ B m - 97 from (nI_ltI (a := 7) (by decide) (by omega)).mp h46)] at hN
      exact lf (a_loc _ rfl) (kn W hN.symm hF)
    · have h46 : ¬ 8 ≤ B m - 97 := fun z => h46 (nI_lt (a := 7) z (by omega))
      rw [if_neg h46] at hN
      have hdb := dbit a ha (B m - 97) (by omega)
      refine lf (a_aload_n dX11_readDiets_49 rfl) ?_
      refine lf (a_getI dX11_readDiets_50 fs_X11_190 rfl (co_338 (by repeat (first | with_reducible exact hw | with_reducible exact hwc | with_reducible assumption | with_reducible apply Wf.sI | with_reducible apply Wf.sL | with_reducible apply Wf.cpI | with_reducible apply Wf.cpL | with_reducible apply Wf.cp2 | with_reducible apply Wf.sIs | with_reducible apply Wf.sLs | with_reducible apply Wf.cpU | with_reducible apply Wf.fillI | with_reducible apply Wf.clU | with_reducible apply Wf.dnF | with_reducible apply Wf.gbW)))) ?_
      rw [e27]
      refine lf (a_iload_n dX11_readDiets_53 rfl) ?_
      refine lf (a_invS (b2 := (0, 0)) (m_has ha (by omega)) rfl dX11_readDiets_54 yk_X11_has sm_X11_has ml_X11_193 rfl (by decide) (by decide) (Nat.le_of_ble_eq_true rfl)) ?_
      refine lf2 (a_if_eq (tgt := 66) dX11_readDiets_57 (by decide)) (fun h57 => ?_) (fun h57 => ?_)
      · rw [if_neg (b01t.mp h57)] at hN
        refine lf (a_aload_n dX11_readDiets_66 rfl) ?_
        refine lf (a_aload_n dX11_readDiets_67 rfl) ?_
        refine lf (a_getI dX11_readDiets_68 fs_X11_190 rfl (co_338 (by repeat (first | with_reducible exact hw | with_reducible exact hwc | with_reducible assumption | with_reducible apply Wf.sI | with_reducible apply Wf.sL | with_reducible apply Wf.cpI | with_reducible apply Wf.cpL | with_reducible apply Wf.cp2 | with_reducible apply Wf.sIs | with_reducible apply Wf.sLs | with_reducible apply Wf.cpU | with_reducible apply Wf.fillI | with_reducible apply Wf.clU | with_reducible apply Wf.dnF | with_reducible apply Wf.gbW)))) ?_
        rw [e27]
        refine lf (a_iconst (1 : Int32) dX11_readDiets_71 (by decide)) ?_
        refine lf (a_iload_n dX11_readDiets_72 rfl) ?_
        refine lf (a_ishl dX11_readDiets_73) ?_
        refine lf (a_ior dX11_readDiets_74) ?_
        rw [hdb.2.1]
        refine lf (a_putI dX11_readDiets_75 fs_X11_190 rfl rfl rfl (co_338 (by repeat (first | with_reducible exact hw | with_reducible exact hwc | with_reducible assumption | with_reducible apply Wf.sI | with_reducible apply Wf.sL | with_reducible apply Wf.cpI | with_reducible apply Wf.cpL | with_reducible apply Wf.cp2 | with_reducible apply Wf.sIs | with_reducible apply Wf.sLs | with_reducible apply Wf.cpU | with_reducible apply Wf.fillI | with_reducible apply Wf.clU | with_reducible apply Wf.dnF | with_reducible apply Wf.gbW)))) ?_
        refine lf (a_iincN dX11_readDiets_78 rfl (by decide)) ?_
        refine lf (a_goto (tgt := 26) dX11_readDiets_81 (by decide)) ?_
        exact lf (a_loc _ rfl) (ih (m + 1) (a ||| 2 ^ (B m - 97)) _ (by omega) (by omega) hdb.2.2 ⟨hF.1.set (by decide) _, fun k hk => by rw [gI_sI, if_neg (by omega)]; exact hF.2 k hk⟩ (by rw [gI_sI, if_pos ⟨rfl, rfl⟩]) hN)
      · rw [if_pos (b01f.mp h57)] at hN
        exact lf (a_loc _ rfl) (kn W hN.symm hF)
theorem m_readDiets (hz : MgV B n p z μ) : CV Y_X11_readDiets R_X11_readDiets [.ref 338] μ (RdK μ (ndS B n p) (fun a V => MgV B n (tkE B n p) z V ∧ gI V 338 27 = nI a)) := by
  refine CV.ent yk_X11_readDiets (Nat.le_of_ble_eq_true rfl) ?_
  have hw := hz.wf
  have hl := hl_let (p := p) (fun k hk => hz.tx.b256 hk)
  have hte := tkE_le (B := B) hz.le
  by_cases hk1 : tkK B n p = 1
  · rw [if_pos hk1] at hl
    have hs := (tkK1.mp hk1).1
    refine lf (a_aload_n dX11_readDiets_0 rfl) ?_
    obtain ⟨v_, W1, k1, rfl, hF, hH⟩ := (m_peek hw hz.tx)
    have hz1 := hz.hd hF hH
    have hw1 := hz1.wf
    refine lf (a_inv (b2 := (0, 0)) k1 rfl dX11_readDiets_1 yk_X11_peek im_X11_peek se_X11_peek ml_X11_148 rfl (co_338 (by repeat (first | with_reducible exact hw | with_reducible exact hwc | with_reducible assumption | with_reducible apply Wf.sI | with_reducible apply Wf.sL | with_reducible apply Wf.cpI | with_reducible apply Wf.cpL | with_reducible apply Wf.cp2 | with_reducible apply Wf.sIs | with_reducible apply Wf.sLs | with_reducible apply Wf.cpU | with_reducible apply Wf.fillI | with_reducible apply Wf.clU | with_reducible apply Wf.dnF | with_reducible apply Wf.gbW))) (by decide) hc_X11 (by decide) (by decide) (Nat.le_of_ble_eq_true rfl)) ?_
    refine lf (a_invS (b2 := (0, 0)) (Ct.int hl (m_isLetter _)) rfl dX11_readDiets_4 yk_X11_isLetter sm_X11_isLetter ml_X11_142 rfl (by decide) (by decide) (Nat.le_of_ble_eq_true rfl)) ?_
    refine lfn (a_if_ne (tgt := 16) dX11_readDiets_7 (by decide)) (fun h7 => ?_) (fun h7 => absurd h7 (by decide))
    refine lf (a_aload_n dX11_readDiets_16 rfl) ?_
    refine lf (a_iconst (0 : Int32) dX11_readDiets_17 (by decide)) ?_
    refine lf (a_putI dX11_readDiets_18 fs_X11_190 rfl rfl rfl (co_338 (by repeat (first | with_reducible exact hw | with_reducible exact hwc | with_reducible assumption | with_reducible apply Wf.sI | with_reducible apply Wf.sL | with_reducible apply Wf.cpI | with_reducible apply Wf.cpL | with_reducible apply Wf.cp2 | with_reducible apply Wf.sIs | with_reducible apply Wf.sLs | with_reducible apply Wf.cpU | with_reducible apply Wf.fillI | with_reducible apply Wf.clU | with_reducible apply Wf.dnF | with_reducible apply Wf.gbW)))) ?_
    refine lf (a_aload_n dX11_readDiets_21 rfl) ?_
    refine lf (a_getI dX11_readDiets_22 fs_X11_136 rfl (co_338 (by repeat (first | with_reducible exact hw | with_reducible exact hwc | with_reducible assumption | with_reducible apply Wf.sI | with_reducible apply Wf.sL | with_reducible apply Wf.cpI | with_reducible apply Wf.cpL | with_reducible apply Wf.cp2 | with_reducible apply Wf.sIs | with_reducible apply Wf.sLs | with_reducible apply Wf.cpU | with_reducible apply Wf.fillI | with_reducible apply Wf.clU | with_reducible apply Wf.dnF | with_reducible apply Wf.gbW)))) ?_
    rw [gI_sI, if_neg (by omega), hH.2.1]
    refine lf (a_istore_n dX11_readDiets_25 (by decide)) ?_
    refine lf (a_loc [(0, .ref 338), (1, .int (nI (tkS B n p)))] rfl) (rd_l (hz1.s (Or.inr (Or.inr rfl)) 0) (hH.s (by decide) 0) hs hk1 (r := dtW B (tkE B n p - tkS B n p) (tkS B n p) 0) (fun W a he hK e27 => ?_) (fun W he hK => ?_) (tkE B n p - tkS B n p) (tkS B n p) 0 _ (by omega) (Nat.le_refl _) (by decide) ⟨FkF.rfl' (hz1.s (Or.inr (Or.inr rfl)) 0).wf, fun _ _ => rfl⟩ (by rw [gI_sI, if_pos ⟨rfl, rfl⟩]; rfl) rfl)
    · have hw3 := hK.1.1.1
      have hFK : FkF μ W := (hF.fk.set (k := 27) (by decide) 0).trans hK.1
      have f18 : gI W 338 18 = nI (tkS B n p) := (hK.2 18 (by decide)).trans (by rw [gI_sI, if_neg (by omega)]; exact hH.1)
      have f20 : gI W 338 20 = nI (tkS B n p) := (hK.2 20 (by decide)).trans (by rw [gI_sI, if_neg (by omega)]; exact hH.2.1)
      have f21 : gI W 338 21 = nI (tkE B n p) := (hK.2 21 (by decide)).trans (by rw [gI_sI, if_neg (by omega)]; exact hH.e hs)
      have hM : MgV B n p z W := (hz1.s (Or.inr (Or.inr rfl)) 0).fk hK.1 (hK.2 23 (by decide)) (hK.2 24 (by decide)) hz.le f18 (tkS_le hz.le).2 (tkS_idem hz.le)
      clear hw hw1 k1
      refine lf (a_aload_n dX11_readDiets_84 rfl) ?_
      refine lf (a_inv (b2 := (0, 0)) (m_passes hw3) rfl dX11_readDiets_85 yk_X11_passes im_X11_passes se_X11_passes ml_X11_162 rfl (co_338 (by repeat (first | with_reducible exact hw | with_reducible exact hwc | with_reducible assumption | with_reducible apply Wf.sI | with_reducible apply Wf.sL | with_reducible apply Wf.cpI | with_reducible apply Wf.cpL | with_reducible apply Wf.cp2 | with_reducible apply Wf.sIs | with_reducible apply Wf.sLs | with_reducible apply Wf.cpU | with_reducible apply Wf.fillI | with_reducible apply Wf.clU | with_reducible apply Wf.dnF | with_reducible apply Wf.gbW))) (by decide) hc_X11 (by decide) (by decide) (Nat.le_of_ble_eq_true rfl)) ?_
      refine ⟨_, _, (a_ireturn dX11_readDiets_88 rfl rfl), ?_⟩
      exact ⟨_, rfl, RdK.ok (hFK.set (by decide) _) (by unfold ndS; rw [if_pos hk1, he]) ⟨hM.pass f21, by rw [gI_sI, if_neg (by omega)]; exact e27⟩⟩
    · have hw3 := hK.1.1.1
      have hFK : FkF μ W := (hF.fk.set (k := 27) (by decide) 0).trans hK.1
      have f18 : gI W 338 18 = nI (tkS B n p) := (hK.2 18 (by decide)).trans (by rw [gI_sI, if_neg (by omega)]; exact hH.1)
      have f20 : gI W 338 20 = nI (tkS B n p) := (hK.2 20 (by decide)).trans (by rw [gI_sI, if_neg (by omega)]; exact hH.2.1)
      have f21 : gI W 338 21 = nI (tkE B n p) := (hK.2 21 (by decide)).trans (by rw [gI_sI, if_neg (by omega)]; exact hH.e hs)
      have hM : MgV B n p z W := (hz1.s (Or.inr (Or.inr rfl)) 0).fk hK.1 (hK.2 23 (by decide)) (hK.2 24 (by decide)) hz.le f18 (tkS_le hz.le).2 (tkS_idem hz.le)
      clear hw hw1 k1
      refine lf (a_aload_n dX11_readDiets_60 rfl) ?_
      refine lf (a_iconst (1 : Int32) dX11_readDiets_61 (by decide)) ?_
      refine lf (a_inv (b2 := (0, 0)) (m_fails hw3 1) rfl dX11_readDiets_62 yk_X11_fails im_X11_fails se_X11_fails ml_X11_166 rfl (co_338 (by repeat (first | with_reducible exact hw | with_reducible exact hwc | with_reducible assumption | with_reducible apply Wf.sI | with_reducible apply Wf.sL | with_reducible apply Wf.cpI | with_reducible apply Wf.cpL | with_reducible apply Wf.cp2 | with_reducible apply Wf.sIs | with_reducible apply Wf.sLs | with_reducible apply Wf.cpU | with_reducible apply Wf.fillI | with_reducible apply Wf.clU | with_reducible apply Wf.dnF | with_reducible apply Wf.gbW))) (by decide) hc_X11 (by decide) (by decide) (Nat.le_of_ble_eq_true rfl)) ?_
      refine ⟨_, _, (a_ireturn dX11_readDiets_65 rfl rfl), ?_⟩
      exact ⟨_, rfl, RdK.fail (c := 1) hFK f20 (by unfold ndS; rw [if_pos hk1, he])⟩
  · rw [if_neg hk1] at hl
    refine lf (a_aload_n dX11_readDiets_0 rfl) ?_
    obtain ⟨v_, W1, k1, rfl, hF, hH⟩ := (m_peek hw hz.tx)
    have hz1 := hz.hd hF hH
    have hw1 := hz1.wf
    refine lf (a_inv (b2 := (0, 0)) k1 rfl dX11_readDiets_1 yk_X11_peek im_X11_peek se_X11_peek ml_X11_148 rfl (co_338 (by repeat (first | with_reducible exact hw | with_reducible exact hwc | with_reducible assumption | with_reducible apply Wf.sI | with_reducible apply Wf.sL | with_reducible apply Wf.cpI | with_reducible apply Wf.cpL | with_reducible apply Wf.cp2 | with_reducible apply Wf.sIs | with_reducible apply Wf.sLs | with_reducible apply Wf.cpU | with_reducible apply Wf.fillI | with_reducible apply Wf.clU | with_reducible apply Wf.dnF | with_reducible apply Wf.gbW))) (by decide) hc_X11 (by decide) (by decide) (Nat.le_of_ble_eq_true rfl)) ?_
    refine lf (a_invS (b2 := (0, 0)) (Ct.int hl (m_isLetter _)) rfl dX11_readDiets_4 yk_X11_isLetter sm_X11_isLetter ml_X11_142 rfl (by decide) (by decide) (Nat.le_of_ble_eq_true rfl)) ?_
    refine lfn (a_if_ne (tgt := 16) dX11_readDiets_7 (by decide)) (fun h7 => absurd h7 (by decide)) (fun h7 => ?_)
    refine lf (a_aload_n dX11_readDiets_10 rfl) ?_
    refine lf (a_iconst (1 : Int32) dX11_readDiets_11 (by decide)) ?_
    refine lf (a_inv (b2 := (0, 0)) (m_fails hw1 1) rfl dX11_readDiets_12 yk_X11_fails im_X11_fails se_X11_fails ml_X11_166 rfl (co_338 (by repeat (first | with_reducible exact hw | with_reducible exact hwc | with_reducible assumption | with_reducible apply Wf.sI | with_reducible apply Wf.sL | with_reducible apply Wf.cpI | with_reducible apply Wf.cpL | with_reducible apply Wf.cp2 | with_reducible apply Wf.sIs | with_reducible apply Wf.sLs | with_reducible apply Wf.cpU | with_reducible apply Wf.fillI | with_reducible apply Wf.clU | with_reducible apply Wf.dnF | with_reducible apply Wf.gbW))) (by decide) hc_X11 (by decide) (by decide) (Nat.le_of_ble_eq_true rfl)) ?_
    refine ⟨_, _, (a_ireturn dX11_readDiets_15 rfl rfl), ?_⟩
    exact ⟨_, rfl, RdK.fail (c := 1) hF.fk hH.2.1 (by unfold ndS; rw [if_neg hk1])⟩
end MNAMES
