section MGUEST
variable {μ W V : Wd} {B : Nat → Nat} {n p x : Nat} {z : PZ}
theorem sub1 (F a : Int32) : F - a - 1 = F - (a + 1) := by
  rw [Int32.sub_eq_add_neg, Int32.sub_eq_add_neg, Int32.sub_eq_add_neg, Int32.neg_add, Int32.sub_eq_add_neg, Int32.add_assoc]
abbrev R_X11_draftFree : Room := { frames := 1, cells := 0, slots := 0, locals := 21 }
abbrev RX_X11_draftFree : Room := { frames := 1, cells := 1, slots := 6, locals := 21 }

theorem l_X11_draftFree (hw : Wf μ) (hd : DrV z μ) (h40 : dP z.2.1 ≤ 40) {c : Nat} : ∀ dd m, m + dd = dP z.2.1 → AW Y_X11_draftFree R_X11_draftFree (0, 0) μ 15 [(0, .ref 338), (1, .int (nI c)), (2, .int (pF z.1 0 c - itN (fun i a => if dF z.2.1 0 i = nI c then a + 1 else a) 0 m)), (3, .int (nI m))] [] (.inl (some (.int (frD z c)))) μ := by
  have e3 := hd.2.1.1.2.2.2.1
  intro dd
  induction dd with
  | zero =>
    intro m hm
    obtain rfl : dP z.2.1 = m := by omega
    refine a_iload_n dX11_draftFree_15 rfl ?_
    refine a_aload_n dX11_draftFree_16 rfl ?_
    refine a_getR (cr_338_7 hw) dX11_draftFree_17 fs_X11_29 rfl (co_338 hw) ?_
    refine a_iconst (3 : Int32) dX11_draftFree_20 (by decide) ?_
    refine a_ild dX11_draftFree_21 (ca_345 hw) (ixn (m := 3) (by omega) (by decide)) ?_
    rw [e3]
    refine a_icmp_ge (tgt := 53) dX11_draftFree_22 (by decide) (fun h22 => ?_) (fun h22 => absurd h22 (fun z => z (nI_le (Nat.le_refl _) (by omega))))
    refine a_iload_n dX11_draftFree_53 rfl ?_
    exact a_out (by unfold frD paD; rfl) rfl (a_ireturn dX11_draftFree_54 rfl rfl)
  | succ dd ih =>
    intro m hm
    have hb := (hd.2.1.2.1 m (by omega)).1
    have qih := ih (m + 1) (by omega)
    simp only [itN_succ] at qih
    refine a_iload_n dX11_draftFree_15 rfl ?_
    refine a_aload_n dX11_draftFree_16 rfl ?_
    refine a_getR (cr_338_7 hw) dX11_draftFree_17 fs_X11_29 rfl (co_338 hw) ?_
    refine a_iconst (3 : Int32) dX11_draftFree_20 (by decide) ?_
    refine a_ild dX11_draftFree_21 (ca_345 hw) (ixn (m := 3) (by omega) (by decide)) ?_
    rw [e3]
    refine a_icmp_ge (tgt := 53) dX11_draftFree_22 (by decide) (fun h22 => absurd h22 (nI_ge (by omega) (by omega))) (fun h22 => ?_)
    refine a_aload_n dX11_draftFree_25 rfl ?_
    refine a_getR (cr_338_7 hw) dX11_draftFree_26 fs_X11_29 rfl (co_338 hw) ?_
    refine a_iload_n dX11_draftFree_29 rfl ?_
    refine a_iconst (0 : Int32) dX11_draftFree_30 (by decide) ?_
    refine a_invS (b2 := (0, 0)) (m_passengerAt m 0) rfl dX11_draftFree_31 yk_X11_passengerAt sm_X11_passengerAt ml_X11_91 rfl (by decide) (by decide) (Nat.le_of_ble_eq_true rfl) ?_
    refine a_ild dX11_draftFree_34 (ca_345 hw) (ixn (show 5 + 4 * m + 0 < 291 by omega) (by decide)) ?_
    rw [hb]
    refine a_iload_n dX11_draftFree_35 rfl ?_
    refine a_icmp_ne (tgt := 45) dX11_draftFree_36 (by decide) (fun h36 => ?_) (fun h36 => ?_)
    · rw [if_neg h36] at qih
      refine a_iload_n dX11_draftFree_45 rfl ?_
      refine a_istore_n dX11_draftFree_46 (by decide) ?_
      refine a_iincN dX11_draftFree_47 rfl (by decide) ?_
      refine a_goto (tgt := 15) dX11_draftFree_50 (by decide) ?_
      exact a_loc _ rfl qih
    · rw [if_pos h36] at qih
      refine a_iload_n dX11_draftFree_39 rfl ?_
      refine a_iconst (1 : Int32) dX11_draftFree_40 (by decide) ?_
      refine a_isub dX11_draftFree_41 ?_
      rw [sub1]
      refine a_goto (tgt := 46) dX11_draftFree_42 (by decide) ?_
      refine a_istore_n dX11_draftFree_46 (by decide) ?_
      refine a_iincN dX11_draftFree_47 rfl (by decide) ?_
      refine a_goto (tgt := 15) dX11_draftFree_50 (by decide) ?_
      exact a_loc _ rfl qih
theorem m_draftFree (hw : Wf μ) (hd : DrV z μ) (hg : GzD z) {c : Nat} (hc : c < pC z.1) : Ct Y_X11_draftFree R_X11_draftFree [.ref 338, .int (nI c)] μ (.inl (some (.int (frD z c)))) μ := by
  refine Ct.ent yk_X11_draftFree (Nat.le_of_ble_eq_true rfl) ?_
  have es := (hd.1.2.1 c hc).1
  have h4 := hg.q.C4
  refine a_aload_n dX11_draftFree_0 rfl ?_
  refine a_getR (cr_338_2 hw) dX11_draftFree_1 fs_X11_13 rfl (co_338 hw) ?_
  refine a_iconst (5 : Int32) dX11_draftFree_4 (by decide) ?_
  refine a_iconst (2 : Int32) dX11_draftFree_5 (by decide) ?_
  refine a_iload_n dX11_draftFree_6 rfl ?_
  refine a_imul dX11_draftFree_7 ?_
  refine a_iadd dX11_draftFree_8 ?_
  refine a_iconst (0 : Int32) dX11_draftFree_9 (by decide) ?_
  refine a_iadd dX11_draftFree_10 ?_
  rw [show (5 : Int32) + 2 * nI c + 0 = nI (5 + 2 * c + 0) from ixc c 0]
  refine a_ild dX11_draftFree_11 (ca_340 hw) (ixn (show 5 + 2 * c + 0 < 89 by omega) (by decide)) ?_
  rw [es]
  refine a_istore_n dX11_draftFree_12 (by decide) ?_
  refine a_iconst (0 : Int32) dX11_draftFree_13 (by decide) ?_
  refine a_istore_n dX11_draftFree_14 (by decide) ?_
  exact a_loc ([(0, .ref 338), (1, .int (nI c)), (2, .int (pF z.1 0 c - itN (fun i a => if dF z.2.1 0 i = nI c then a + 1 else a) 0 0)), (3, .int (nI 0))]) (by rw [show itN (fun i a => if dF z.2.1 0 i = nI c then a + 1 else a) (0 : Int32) 0 = 0 from rfl, Int32.sub_zero]; rfl) (l_X11_draftFree hw hd hg.P4 (dP z.2.1) 0 (by omega))
def adW (μ : Wd) (z : PZ) (c nd wi : Int32) : Wd := sI (sI (sI (sI (sI μ 345 (5 + 4 * dP z.2.1 + 0) c) 345 (5 + 4 * dP z.2.1 + 1) nd) 345 (5 + 4 * dP z.2.1 + 2) wi) 345 (5 + 4 * dP z.2.1 + 3) (-1)) 345 3 (nI (dP z.2.1 + 1))
def seZ (z : PZ) (c nd wi : Int32) : PZ := (z.1, seatD z.2.1 c nd wi, z.2.2.1, z.2.2.2)
theorem ad_345 {c nd wi : Int32} (k : Nat) : gI (adW μ z c nd wi) 345 k = if k = 3 then nI (dP z.2.1 + 1) else if k = 5 + 4 * dP z.2.1 + 3 then -1 else if k = 5 + 4 * dP z.2.1 + 2 then wi else if k = 5 + 4 * dP z.2.1 + 1 then nd else if k = 5 + 4 * dP z.2.1 + 0 then c else gI μ 345 k := by
  unfold adW
  rw [gI_sI, gI_sI, gI_sI, gI_sI, gI_sI]
  simp only [true_and]
theorem DrV.ad (hd : DrV z μ) (h40 : dP z.2.1 < 40) {c nd wi : Int32} : DrV (seZ z c nd wi) (adW μ z c nd wi) := by
  have e0 : gI (adW μ z c nd wi) 340 = gI μ 340 := funext fun j => by
    unfold adW
    rw [gI_sI, if_neg (by omega), gI_sI, if_neg (by omega), gI_sI, if_neg (by omega), gI_sI, if_neg (by omega), gI_sI, if_neg (by omega)]
  obtain ⟨h1, ⟨⟨a0, a1, a2, a3, a4⟩, b, c2⟩, h3, h4⟩ := hd
  refine ⟨by rw [e0]; exact h1, ⟨⟨?_, ?_, ?_, ?_, ?_⟩, fun i hi => ?_, fun k k1 k2 => ?_⟩, h3, h4⟩
  · rw [ad_345, if_neg (by omega), if_neg (by omega), if_neg (by omega), if_neg (by omega), if_neg (by omega)]; exact a0
  · rw [ad_345, if_neg (by omega), if_neg (by omega), if_neg (by omega), if_neg (by omega), if_neg (by omega)]; exact a1
  · rw [ad_345, if_neg (by omega), if_neg (by omega), if_neg (by omega), if_neg (by omega), if_neg (by omega)]; exact a2
  · rw [ad_345, if_pos rfl]; rfl
  · rw [ad_345, if_neg (by omega), if_neg (by omega), if_neg (by omega), if_neg (by omega), if_neg (by omega)]; exact a4
  · have hi : i < dP z.2.1 + 1 := hi
    show _ = up2 (up2 (up2 (dF z.2.1) 0 (dP z.2.1) c) 1 (dP z.2.1) nd) 2 (dP z.2.1) wi 0 i ∧ _ = up2 (up2 (up2 (dF z.2.1) 0 (dP z.2.1) c) 1 (dP z.2.1) nd) 2 (dP z.2.1) wi 1 i ∧ _ = up2 (up2 (up2 (dF z.2.1) 0 (dP z.2.1) c) 1 (dP z.2.1) nd) 2 (dP z.2.1) wi 2 i ∧ _
    by_cases hx : i = dP z.2.1
    · subst hx
      rw [ad_345, ad_345, ad_345, ad_345]
      refine ⟨?_, ?_, ?_, ?_⟩
      · rw [if_neg (by omega), if_neg (by omega), if_neg (by omega), if_neg (by omega), if_pos rfl, up2_ne (by omega), up2_ne (by omega), up2_eq]
      · rw [if_neg (by omega), if_neg (by omega), if_neg (by omega), if_pos rfl, up2_ne (by omega), up2_eq]
      · rw [if_neg (by omega), if_neg (by omega), if_pos rfl, up2_eq]
      · rw [if_neg (by omega), if_pos rfl]
    · have e : ∀ k, 5 ≤ k → k < 5 + 4 * dP z.2.1 → gI (adW μ z c nd wi) 345 k = gI μ 345 k := fun k q1 q2 => by
        rw [ad_345, if_neg (by omega), if_neg (by omega), if_neg (by omega), if_neg (by omega), if_neg (by omega)]
      rw [e _ (by omega) (by omega), e _ (by omega) (by omega), e _ (by omega) (by omega), e _ (by omega) (by omega), up2_ne (by omega), up2_ne (by omega), up2_ne (by omega), up2_ne (by omega), up2_ne (by omega), up2_ne (by omega), up2_ne (by omega), up2_ne (by omega), up2_ne (by omega)]
      exact b i (by omega)
  · rw [ad_345, if_neg (by omega), if_neg (by omega), if_neg (by omega), if_neg (by omega), if_neg (by omega)]; exact c2 k k1 k2
abbrev s345 : Nat → Prop := fun i => i = 345
theorem ad_out (hw : Wf μ) {c nd wi : Int32} : Out s345 μ (adW μ z c nd wi) := (((((Out.rfl' hw).sI (S := s345) rfl _ _).sI (S := s345) rfl _ _).sI (S := s345) rfl _ _).sI (S := s345) rfl _ _).sI (S := s345) rfl _ _
theorem Out.pa (a : Out s345 μ V) : PaF μ V := ⟨a.mono (fun i y => Or.inr (Or.inr (Or.inr (Or.inr y)))), fun k _ => a.i (by decide) k, fun k _ => a.l (by decide) k⟩
theorem MgV.ow {z' : PZ} (h : MgV B n p z μ) (a : Out s345 μ V) (hd : DrV z' V) : MgV B n p z' V := by
  obtain ⟨h1, ⟨a1, a2, a3, a4, a5⟩, ⟨b1, b2⟩, _⟩ := h
  have e := fun k => a.i (i := 338) (by decide) k
  have e5 := fun k => a.i (i := 352) (by decide) k
  exact ⟨a.1, ⟨a1, a2, by rw [e]; exact a3, fun k hk => by rw [e5]; exact a4 k hk, by rw [e]; exact a5⟩, ⟨by rw [e]; exact b1, by rw [e]; exact b2⟩, hd⟩
abbrev R_X11_adds : Room := { frames := 1, cells := 0, slots := 0, locals := 21 }
abbrev RX_X11_adds : Room := { frames := 1, cells := 1, slots := 6, locals := 21 }

theorem m_adds (hw : Wf μ) (hd : DrV z μ) (h40 : dP z.2.1 < 40) {c nd wi : Int32} : CV Y_X11_adds R_X11_adds [.ref 338, .int c, .int nd, .int wi] μ (fun v V => v = none ∧ Out s345 μ V ∧ DrV (seZ z c nd wi) V) := by
  refine ⟨none, adW μ z c nd wi, ?_, rfl, ad_out hw, hd.ad h40⟩
  refine Ct.ent yk_X11_adds (Nat.le_of_ble_eq_true rfl) ?_
  have e3 := hd.2.1.1.2.2.2.1
  refine a_aload_n dX11_adds_0 rfl ?_
  refine a_getR (cr_338_7 (by repeat (first | with_reducible exact hw | with_reducible exact hwc | with_reducible assumption | with_reducible apply Wf.sI | with_reducible apply Wf.sL | with_reducible apply Wf.cpI | with_reducible apply Wf.cpL | with_reducible apply Wf.cp2 | with_reducible apply Wf.sIs | with_reducible apply Wf.sLs | with_reducible apply Wf.cpU | with_reducible apply Wf.fillI | with_reducible apply Wf.clU | with_reducible apply Wf.dnF | with_reducible apply Wf.gbW))) dX11_adds_1 fs_X11_29 rfl (co_338 (by repeat (first | with_reducible exact hw | with_reducible exact hwc | with_reducible assumption | with_reducible apply Wf.sI | with_reducible apply Wf.sL | with_reducible apply Wf.cpI | with_reducible apply Wf.cpL | with_reducible apply Wf.cp2 | with_reducible apply Wf.sIs | with_reducible apply Wf.sLs | with_reducible apply Wf.cpU | with_reducible apply Wf.fillI | with_reducible apply Wf.clU | with_reducible apply Wf.dnF | with_reducible apply Wf.gbW))) ?_
  refine a_iconst (3 : Int32) dX11_adds_4 (by decide) ?_
  refine a_ild dX11_adds_5 (ca_345 (by repeat (first | with_reducible exact hw | with_reducible exact hwc | with_reducible assumption | with_reducible apply Wf.sI | with_reducible apply Wf.sL | with_reducible apply Wf.cpI | with_reducible apply Wf.cpL | with_reducible apply Wf.cp2 | with_reducible apply Wf.sIs | with_reducible apply Wf.sLs | with_reducible apply Wf.cpU | with_reducible apply Wf.fillI | with_reducible apply Wf.clU | with_reducible apply Wf.dnF | with_reducible apply Wf.gbW))) (ixn (m := 3) (by omega) (by decide)) ?_
  rw [e3]
  refine a_istore dX11_adds_6 (by decide) ?_
  refine a_aload_n dX11_adds_8 rfl ?_
  refine a_getR (cr_338_7 (by repeat (first | with_reducible exact hw | with_reducible exact hwc | with_reducible assumption | with_reducible apply Wf.sI | with_reducible apply Wf.sL | with_reducible apply Wf.cpI | with_reducible apply Wf.cpL | with_reducible apply Wf.cp2 | with_reducible apply Wf.sIs | with_reducible apply Wf.sLs | with_reducible apply Wf.cpU | with_reducible apply Wf.fillI | with_reducible apply Wf.clU | with_reducible apply Wf.dnF | with_reducible apply Wf.gbW))) dX11_adds_9 fs_X11_29 rfl (co_338 (by repeat (first | with_reducible exact hw | with_reducible exact hwc | with_reducible assumption | with_reducible apply Wf.sI | with_reducible apply Wf.sL | with_reducible apply Wf.cpI | with_reducible apply Wf.cpL | with_reducible apply Wf.cp2 | with_reducible apply Wf.sIs | with_reducible apply Wf.sLs | with_reducible apply Wf.cpU | with_reducible apply Wf.fillI | with_reducible apply Wf.clU | with_reducible apply Wf.dnF | with_reducible apply Wf.gbW))) ?_
  refine a_iload dX11_adds_12 rfl ?_
  refine a_iconst (0 : Int32) dX11_adds_14 (by decide) ?_
  refine a_invS (b2 := (0, 0)) (m_passengerAt (dP z.2.1) 0) rfl dX11_adds_15 yk_X11_passengerAt sm_X11_passengerAt ml_X11_91 rfl (by decide) (by decide) (Nat.le_of_ble_eq_true rfl) ?_
  refine a_iload_n dX11_adds_18 rfl ?_
  refine a_ist dX11_adds_19 (ca_345 (by repeat (first | with_reducible exact hw | with_reducible exact hwc | with_reducible assumption | with_reducible apply Wf.sI | with_reducible apply Wf.sL | with_reducible apply Wf.cpI | with_reducible apply Wf.cpL | with_reducible apply Wf.cp2 | with_reducible apply Wf.sIs | with_reducible apply Wf.sLs | with_reducible apply Wf.cpU | with_reducible apply Wf.fillI | with_reducible apply Wf.clU | with_reducible apply Wf.dnF | with_reducible apply Wf.gbW))) (ixn (show 5 + 4 * dP z.2.1 + 0 < 291 by omega) (by decide)) ?_
  refine a_aload_n dX11_adds_20 rfl ?_
  refine a_getR (cr_338_7 (by repeat (first | with_reducible exact hw | with_reducible exact hwc | with_reducible assumption | with_reducible apply Wf.sI | with_reducible apply Wf.sL | with_reducible apply Wf.cpI | with_reducible apply Wf.cpL | with_reducible apply Wf.cp2 | with_reducible apply Wf.sIs | with_reducible apply Wf.sLs | with_reducible apply Wf.cpU | with_reducible apply Wf.fillI | with_reducible apply Wf.clU | with_reducible apply Wf.dnF | with_reducible apply Wf.gbW))) dX11_adds_21 fs_X11_29 rfl (co_338 (by repeat (first | with_reducible exact hw | with_reducible exact hwc | with_reducible assumption | with_reducible apply Wf.sI | with_reducible apply Wf.sL | with_reducible apply Wf.cpI | with_reducible apply Wf.cpL | with_reducible apply Wf.cp2 | with_reducible apply Wf.sIs | with_reducible apply Wf.sLs | with_reducible apply Wf.cpU | with_reducible apply Wf.fillI | with_reducible apply Wf.clU | with_reducible apply Wf.dnF | with_reducible apply Wf.gbW))) ?_
  refine a_iload dX11_adds_24 rfl ?_
  refine a_iconst (1 : Int32) dX11_adds_26 (by decide) ?_
  refine a_invS (b2 := (0, 0)) (m_passengerAt (dP z.2.1) 1) rfl dX11_adds_27 yk_X11_passengerAt sm_X11_passengerAt ml_X11_91 rfl (by decide) (by decide) (Nat.le_of_ble_eq_true rfl) ?_
  refine a_iload_n dX11_adds_30 rfl ?_
  refine a_ist dX11_adds_31 (ca_345 (by repeat (first | with_reducible exact hw | with_reducible exact hwc | with_reducible assumption | with_reducible apply Wf.sI | with_reducible apply Wf.sL | with_reducible apply Wf.cpI | with_reducible apply Wf.cpL | with_reducible apply Wf.cp2 | with_reducible apply Wf.sIs | with_reducible apply Wf.sLs | with_reducible apply Wf.cpU | with_reducible apply Wf.fillI | with_reducible apply Wf.clU | with_reducible apply Wf.dnF | with_reducible apply Wf.gbW))) (ixn (show 5 + 4 * dP z.2.1 + 1 < 291 by omega) (by decide)) ?_
  refine a_aload_n dX11_adds_32 rfl ?_
  refine a_getR (cr_338_7 (by repeat (first | with_reducible exact hw | with_reducible exact hwc | with_reducible assumption | with_reducible apply Wf.sI | with_reducible apply Wf.sL | with_reducible apply Wf.cpI | with_reducible apply Wf.cpL | with_reducible apply Wf.cp2 | with_reducible apply Wf.sIs | with_reducible apply Wf.sLs | with_reducible apply Wf.cpU | with_reducible apply Wf.fillI | with_reducible apply Wf.clU | with_reducible apply Wf.dnF | with_reducible apply Wf.gbW))) dX11_adds_33 fs_X11_29 rfl (co_338 (by repeat (first | with_reducible exact hw | with_reducible exact hwc | with_reducible assumption | with_reducible apply Wf.sI | with_reducible apply Wf.sL | with_reducible apply Wf.cpI | with_reducible apply Wf.cpL | with_reducible apply Wf.cp2 | with_reducible apply Wf.sIs | with_reducible apply Wf.sLs | with_reducible apply Wf.cpU | with_reducible apply Wf.fillI | with_reducible apply Wf.clU | with_reducible apply Wf.dnF | with_reducible apply Wf.gbW))) ?_
  refine a_iload dX11_adds_36 rfl ?_
  refine a_iconst (2 : Int32) dX11_adds_38 (by decide) ?_
  refine a_invS (b2 := (0, 0)) (m_passengerAt (dP z.2.1) 2) rfl dX11_adds_39 yk_X11_passengerAt sm_X11_passengerAt ml_X11_91 rfl (by decide) (by decide) (Nat.le_of_ble_eq_true rfl) ?_
  refine a_iload_n dX11_adds_42 rfl ?_
  refine a_ist dX11_adds_43 (ca_345 (by repeat (first | with_reducible exact hw | with_reducible exact hwc | with_reducible assumption | with_reducible apply Wf.sI | with_reducible apply Wf.sL | with_reducible apply Wf.cpI | with_reducible apply Wf.cpL | with_reducible apply Wf.cp2 | with_reducible apply Wf.sIs | with_reducible apply Wf.sLs | with_reducible apply Wf.cpU | with_reducible apply Wf.fillI | with_reducible apply Wf.clU | with_reducible apply Wf.dnF | with_reducible apply Wf.gbW))) (ixn (show 5 + 4 * dP z.2.1 + 2 < 291 by omega) (by decide)) ?_
  refine a_aload_n dX11_adds_44 rfl ?_
  refine a_getR (cr_338_7 (by repeat (first | with_reducible exact hw | with_reducible exact hwc | with_reducible assumption | with_reducible apply Wf.sI | with_reducible apply Wf.sL | with_reducible apply Wf.cpI | with_reducible apply Wf.cpL | with_reducible apply Wf.cp2 | with_reducible apply Wf.sIs | with_reducible apply Wf.sLs | with_reducible apply Wf.cpU | with_reducible apply Wf.fillI | with_reducible apply Wf.clU | with_reducible apply Wf.dnF | with_reducible apply Wf.gbW))) dX11_adds_45 fs_X11_29 rfl (co_338 (by repeat (first | with_reducible exact hw | with_reducible exact hwc | with_reducible assumption | with_reducible apply Wf.sI | with_reducible apply Wf.sL | with_reducible apply Wf.cpI | with_reducible apply Wf.cpL | with_reducible apply Wf.cp2 | with_reducible apply Wf.sIs | with_reducible apply Wf.sLs | with_reducible apply Wf.cpU | with_reducible apply Wf.fillI | with_reducible apply Wf.clU | with_reducible apply Wf.dnF | with_reducible apply Wf.gbW))) ?_
  refine a_iload dX11_adds_48 rfl ?_
  refine a_iconst (3 : Int32) dX11_adds_50 (by decide) ?_
  refine a_invS (b2 := (0, 0)) (m_passengerAt (dP z.2.1) 3) rfl dX11_adds_51 yk_X11_passengerAt sm_X11_passengerAt ml_X11_91 rfl (by decide) (by decide) (Nat.le_of_ble_eq_true rfl) ?_
  refine a_iconst (-1 : Int32) dX11_adds_54 (by decide) ?_
  refine a_ist dX11_adds_55 (ca_345 (by repeat (first | with_reducible exact hw | with_reducible exact hwc | with_reducible assumption | with_reducible apply Wf.sI | with_reducible apply Wf.sL | with_reducible apply Wf.cpI | with_reducible apply Wf.cpL | with_reducible apply Wf.cp2 | with_reducible apply Wf.sIs | with_reducible apply Wf.sLs | with_reducible apply Wf.cpU | with_reducible apply Wf.fillI | with_reducible apply Wf.clU | with_reducible apply Wf.dnF | with_reducible apply Wf.gbW))) (ixn (show 5 + 4 * dP z.2.1 + 3 < 291 by omega) (by decide)) ?_
  refine a_aload_n dX11_adds_56 rfl ?_
  refine a_getR (cr_338_7 (by repeat (first | with_reducible exact hw | with_reducible exact hwc | with_reducible assumption | with_reducible apply Wf.sI | with_reducible apply Wf.sL | with_reducible apply Wf.cpI | with_reducible apply Wf.cpL | with_reducible apply Wf.cp2 | with_reducible apply Wf.sIs | with_reducible apply Wf.sLs | with_reducible apply Wf.cpU | with_reducible apply Wf.fillI | with_reducible apply Wf.clU | with_reducible apply Wf.dnF | with_reducible apply Wf.gbW))) dX11_adds_57 fs_X11_29 rfl (co_338 (by repeat (first | with_reducible exact hw | with_reducible exact hwc | with_reducible assumption | with_reducible apply Wf.sI | with_reducible apply Wf.sL | with_reducible apply Wf.cpI | with_reducible apply Wf.cpL | with_reducible apply Wf.cp2 | with_reducible apply Wf.sIs | with_reducible apply Wf.sLs | with_reducible apply Wf.cpU | with_reducible apply Wf.fillI | with_reducible apply Wf.clU | with_reducible apply Wf.dnF | with_reducible apply Wf.gbW))) ?_
  refine a_iconst (3 : Int32) dX11_adds_60 (by decide) ?_
  refine a_iload dX11_adds_61 rfl ?_
  refine a_iconst (1 : Int32) dX11_adds_63 (by decide) ?_
  refine a_iadd dX11_adds_64 ?_
  rw [nI_1]
  refine a_ist dX11_adds_65 (ca_345 (by repeat (first | with_reducible exact hw | with_reducible exact hwc | with_reducible assumption | with_reducible apply Wf.sI | with_reducible apply Wf.sL | with_reducible apply Wf.cpI | with_reducible apply Wf.cpL | with_reducible apply Wf.cp2 | with_reducible apply Wf.sIs | with_reducible apply Wf.sLs | with_reducible apply Wf.cpU | with_reducible apply Wf.fillI | with_reducible apply Wf.clU | with_reducible apply Wf.dnF | with_reducible apply Wf.gbW))) (ixn (m := 3) (by omega) (by decide)) ?_
  exact a_out rfl rfl (a_return dX11_adds_66 rfl)
end MGUEST
