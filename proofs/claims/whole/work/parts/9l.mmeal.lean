section MMEAL
variable {μ W V : Wd} {B : Nat → Nat} {n p x : Nat} {z : PZ}
theorem MeF.s3 {A : Nat} (a : MeF A μ V) : Out sMe μ V := a.1
theorem bA_dk {q : Nat} (hB : ∀ k, k < n → B k < 256) : inI (bA B n (tkS B n q)) 48 57 = if tkS B n q < n ∧ kdN (B (tkS B n q)) = 2 then 1 else 0 := bA_dig hB _
theorem lnS_ok {u : Unit} (h : lnS B n p = .inr u) : tkK B n p = 1 ∧ (tkL B n p).length ≤ 6 := by
  unfold lnS at h
  by_cases hq : tkK B n p = 1 ∧ (tkL B n p).length ≤ 6
  · exact hq
  · rw [if_neg hq] at h; exact nomatch h
theorem lnS_bad {e : Nat × Nat} (h : lnS B n p = .inl e) : ¬ (tkK B n p = 1 ∧ (tkL B n p).length ≤ 6) ∧ e = (1, tkS B n p) := by
  unfold lnS at h
  by_cases hq : tkK B n p = 1 ∧ (tkL B n p).length ≤ 6
  · rw [if_pos hq] at h; exact nomatch h
  · rw [if_neg hq] at h; injection h with h; exact ⟨hq, h.symm⟩
theorem wdL_v (h : tkK B n p = 1 ∧ (tkL B n p).length ≤ 6) : wdL B n p = wvN (tkL B n p) := if_pos ⟨h.1, by have := h.2; omega⟩
theorem nh_k4 {lo hi : Nat} (h : ¬ tkK B n p = 2) : nhS B n p lo hi = .inl (1, tkS B n p) := if_pos h
theorem sgZ_k {P : Nat} {z : PZ} (h : ¬ tkK B n P = 3) : sgZ B n P z = .inl (1, tkS B n P) := by
  unfold sgZ sgS
  rw [if_neg h]; rfl
abbrev R_X11_readCabin : Room := { frames := 5, cells := 0, slots := 0, locals := 108 }
abbrev RX_X11_readCabin : Room := { frames := 5, cells := 1, slots := 6, locals := 108 }

theorem nhS_2 {lo hi a : Nat} (h : nhS B n p lo hi = .inr a) : tkK B n p = 2 := by
  by_cases hq : tkK B n p = 2
  · exact hq
  · rw [nh_k4 hq] at h; exact nomatch h
theorem dig_k3 {p : Nat} (h : kdN (B (tkS B n p)) = 2) : ¬ tkK B n p = 3 := by
  unfold tkK
  split
  · exact fun z => absurd z (by decide)
  · split
    · exact fun z => absurd z (by decide)
    · rw [h]; exact fun z => absurd z (by decide)
theorem m_readCabin (hz : MgV B n (tkE B n p) z μ) (hg : GzD z) (h4 : ¬ 4 ≤ pC z.1) : CV Y_X11_readCabin R_X11_readCabin [.ref 338] μ (StM B n μ (stCabin B n p z)) := by
  refine CV.ent yk_X11_readCabin (Nat.le_of_ble_eq_true rfl) ?_
  have hw := hz.wf
  have hF0 := PaF.rfl' hw
  have e0 := hz.dr.1.1.1
  have hM12 := hg.q.M4
  have hT8 := hg.q.T4
  have hta : ¬ Lv z.1 (5 + 2 * pC z.1 + 0) := by unfold Lv; omega
  have htb : ¬ Lv z.1 (5 + 2 * pC z.1 + 1) := by unfold Lv; omega
  refine lf (a_aload_n dX11_readCabin_0 rfl) ?_
  refine lf (a_getR (cr_338_2 (by repeat (first | with_reducible exact hw | with_reducible exact hwc | with_reducible assumption | with_reducible apply Wf.sI | with_reducible apply Wf.sL | with_reducible apply Wf.cpI | with_reducible apply Wf.cpL | with_reducible apply Wf.cp2 | with_reducible apply Wf.sIs | with_reducible apply Wf.sLs | with_reducible apply Wf.cpU | with_reducible apply Wf.fillI | with_reducible apply Wf.clU | with_reducible apply Wf.dnF | with_reducible apply Wf.gbW))) dX11_readCabin_1 fs_X11_13 rfl (co_338 (by repeat (first | with_reducible exact hw | with_reducible exact hwc | with_reducible assumption | with_reducible apply Wf.sI | with_reducible apply Wf.sL | with_reducible apply Wf.cpI | with_reducible apply Wf.cpL | with_reducible apply Wf.cp2 | with_reducible apply Wf.sIs | with_reducible apply Wf.sLs | with_reducible apply Wf.cpU | with_reducible apply Wf.fillI | with_reducible apply Wf.clU | with_reducible apply Wf.dnF | with_reducible apply Wf.gbW)))) ?_
  refine lf (a_iconst (0 : Int32) dX11_readCabin_4 (by decide)) ?_
  refine lf (a_ild dX11_readCabin_5 (ca_340 (by repeat (first | with_reducible exact hw | with_reducible exact hwc | with_reducible assumption | with_reducible apply Wf.sI | with_reducible apply Wf.sL | with_reducible apply Wf.cpI | with_reducible apply Wf.cpL | with_reducible apply Wf.cp2 | with_reducible apply Wf.sIs | with_reducible apply Wf.sLs | with_reducible apply Wf.cpU | with_reducible apply Wf.fillI | with_reducible apply Wf.clU | with_reducible apply Wf.dnF | with_reducible apply Wf.gbW))) (ixn (m := 0) (by omega) (by decide))) ?_
  rw [e0]
  refine lf (a_istore_n dX11_readCabin_6 (by decide)) ?_
  refine lf (a_aload_n dX11_readCabin_7 rfl) ?_
  obtain ⟨v_, W8, k8, hR8⟩ := (m_looksName hz)
  obtain ⟨hX8, hR8⟩ := hR8
  generalize hr8 : lnS B n (tkE B n p) = r8 at hR8
  cases r8 with
  | inl a8 =>
    obtain ⟨rfl, hE8⟩ := hR8
    have hF8 := hF0.trans hX8.pa
    refine lf (a_inv (b2 := (0, 0)) k8 rfl dX11_readCabin_8 yk_X11_looksName im_X11_looksName se_X11_looksName ml_X11_199 rfl (co_338 (by repeat (first | with_reducible exact hw | with_reducible exact hwc | with_reducible assumption | with_reducible apply Wf.sI | with_reducible apply Wf.sL | with_reducible apply Wf.cpI | with_reducible apply Wf.cpL | with_reducible apply Wf.cp2 | with_reducible apply Wf.sIs | with_reducible apply Wf.sLs | with_reducible apply Wf.cpU | with_reducible apply Wf.fillI | with_reducible apply Wf.clU | with_reducible apply Wf.dnF | with_reducible apply Wf.gbW))) (by decide) hc_X11 (by decide) (by decide) (Nat.le_of_ble_eq_true rfl)) ?_
    refine lfn (a_if_ne (tgt := 16) dX11_readCabin_11 (by decide)) (fun h11 => absurd h11 (by decide)) (fun h11 => ?_)
    refine lf (a_iconst (0 : Int32) dX11_readCabin_14 (by decide)) ?_
    refine ⟨_, _, (a_ireturn dX11_readCabin_15 rfl rfl), ?_⟩
    exact ⟨_, rfl, StM.bad hF8 (by unfold stCabin; rw [if_neg h4, if_pos (lnS_bad hr8).1, (lnS_bad hr8).2]) hE8⟩
  | inr a8 =>
    obtain ⟨rfl, hM8, hH8, hs8, e25⟩ := hR8
    have hw8x := hM8.wf
    have hF8 := hF0.trans hX8.pa
    have hnm := lnS_ok hr8
    have hwv := wdL_v hnm
    refine lf (a_inv (b2 := (0, 0)) k8 rfl dX11_readCabin_8 yk_X11_looksName im_X11_looksName se_X11_looksName ml_X11_199 rfl (co_338 (by repeat (first | with_reducible exact hw | with_reducible exact hwc | with_reducible assumption | with_reducible apply Wf.sI | with_reducible apply Wf.sL | with_reducible apply Wf.cpI | with_reducible apply Wf.cpL | with_reducible apply Wf.cp2 | with_reducible apply Wf.sIs | with_reducible apply Wf.sLs | with_reducible apply Wf.cpU | with_reducible apply Wf.fillI | with_reducible apply Wf.clU | with_reducible apply Wf.dnF | with_reducible apply Wf.gbW))) (by decide) hc_X11 (by decide) (by decide) (Nat.le_of_ble_eq_true rfl)) ?_
    refine lfn (a_if_ne (tgt := 16) dX11_readCabin_11 (by decide)) (fun h11 => ?_) (fun h11 => absurd h11 (by decide))
    refine lf (a_aload_n dX11_readCabin_16 rfl) ?_
    refine lf (a_aload_n dX11_readCabin_17 rfl) ?_
    refine lf (a_getL dX11_readCabin_18 fs_X11_176 rfl (co_338 (by repeat (first | with_reducible exact hw | with_reducible exact hwc | with_reducible assumption | with_reducible apply Wf.sI | with_reducible apply Wf.sL | with_reducible apply Wf.cpI | with_reducible apply Wf.cpL | with_reducible apply Wf.cp2 | with_reducible apply Wf.sIs | with_reducible apply Wf.sLs | with_reducible apply Wf.cpU | with_reducible apply Wf.fillI | with_reducible apply Wf.clU | with_reducible apply Wf.dnF | with_reducible apply Wf.gbW)))) ?_
    rw [e25]
    refine lf (a_inv (b2 := (0, 0)) (m_cabinNamed hM8 hg) rfl dX11_readCabin_21 yk_X11_cabinNamed im_X11_cabinNamed se_X11_cabinNamed ml_X11_180 rfl (co_338 (by repeat (first | with_reducible exact hw | with_reducible exact hwc | with_reducible assumption | with_reducible apply Wf.sI | with_reducible apply Wf.sL | with_reducible apply Wf.cpI | with_reducible apply Wf.cpL | with_reducible apply Wf.cp2 | with_reducible apply Wf.sIs | with_reducible apply Wf.sLs | with_reducible apply Wf.cpU | with_reducible apply Wf.fillI | with_reducible apply Wf.clU | with_reducible apply Wf.dnF | with_reducible apply Wf.gbW))) (by decide) hc_X11 (by decide) (by decide) (Nat.le_of_ble_eq_true rfl)) ?_
    cases hcf : cfS B n (tkE B n p) (pC z.1) z.2.2.1 with
    | none =>
      have hsp : stCabin B n p z = cbS B n (tkE B n p) z (tkL B n (tkE B n p)) := by
        unfold stCabin
        rw [if_neg h4, if_neg (fun y => y hnm), hcf]
      refine lf (a_iconst (-1 : Int32) dX11_readCabin_24 (by decide)) ?_
      refine lf2 (a_icmp_eq (tgt := 34) dX11_readCabin_25 (by decide)) (fun h25 => ?_) (fun h25 => absurd h25 (fun z => z rfl))
      refine lf (a_aload_n dX11_readCabin_34 rfl) ?_
      refine lf (a_inv (b2 := (0, 0)) (m_passes hw8x) rfl dX11_readCabin_35 yk_X11_passes im_X11_passes se_X11_passes ml_X11_162 rfl (co_338 (by repeat (first | with_reducible exact hw | with_reducible exact hwc | with_reducible assumption | with_reducible apply Wf.sI | with_reducible apply Wf.sL | with_reducible apply Wf.cpI | with_reducible apply Wf.cpL | with_reducible apply Wf.cp2 | with_reducible apply Wf.sIs | with_reducible apply Wf.sLs | with_reducible apply Wf.cpU | with_reducible apply Wf.fillI | with_reducible apply Wf.clU | with_reducible apply Wf.dnF | with_reducible apply Wf.gbW))) (by decide) hc_X11 (by decide) (by decide) (Nat.le_of_ble_eq_true rfl)) ?_
      have hzp := hM8.pass (hH8.e hs8)
      have hwp := hzp.wf
      have hFp := hF8.s (k := 18) (by decide) (gI W8 338 21)
      refine lf (a_pop dX11_readCabin_38 rfl) ?_
      refine lf (a_aload_n dX11_readCabin_39 rfl) ?_
      refine lf (a_getR (cr_338_4 (by repeat (first | with_reducible exact hw | with_reducible exact hwc | with_reducible assumption | with_reducible apply Wf.sI | with_reducible apply Wf.sL | with_reducible apply Wf.cpI | with_reducible apply Wf.cpL | with_reducible apply Wf.cp2 | with_reducible apply Wf.sIs | with_reducible apply Wf.sLs | with_reducible apply Wf.cpU | with_reducible apply Wf.fillI | with_reducible apply Wf.clU | with_reducible apply Wf.dnF | with_reducible apply Wf.gbW))) dX11_readCabin_40 fs_X11_20 rfl (co_338 (by repeat (first | with_reducible exact hw | with_reducible exact hwc | with_reducible assumption | with_reducible apply Wf.sI | with_reducible apply Wf.sL | with_reducible apply Wf.cpI | with_reducible apply Wf.cpL | with_reducible apply Wf.cp2 | with_reducible apply Wf.sIs | with_reducible apply Wf.sLs | with_reducible apply Wf.cpU | with_reducible apply Wf.fillI | with_reducible apply Wf.clU | with_reducible apply Wf.dnF | with_reducible apply Wf.gbW)))) ?_
      refine lf (a_iload_n dX11_readCabin_43 rfl) ?_
      refine lf (a_aload_n dX11_readCabin_44 rfl) ?_
      refine lf (a_getL dX11_readCabin_45 fs_X11_176 rfl (co_338 (by repeat (first | with_reducible exact hw | with_reducible exact hwc | with_reducible assumption | with_reducible apply Wf.sI | with_reducible apply Wf.sL | with_reducible apply Wf.cpI | with_reducible apply Wf.cpL | with_reducible apply Wf.cp2 | with_reducible apply Wf.sIs | with_reducible apply Wf.sLs | with_reducible apply Wf.cpU | with_reducible apply Wf.fillI | with_reducible apply Wf.clU | with_reducible apply Wf.dnF | with_reducible apply Wf.gbW)))) ?_
      rw [show gL (sI W8 338 18 (gI W8 338 21)) 338 25 = lN (wvN (tkL B n (tkE B n p))) from e25.trans (congrArg lN hwv)]
      refine lf (a_lst dX11_readCabin_48 (ca_342 (by repeat (first | with_reducible exact hw | with_reducible exact hwc | with_reducible assumption | with_reducible apply Wf.sI | with_reducible apply Wf.sL | with_reducible apply Wf.cpI | with_reducible apply Wf.cpL | with_reducible apply Wf.cp2 | with_reducible apply Wf.sIs | with_reducible apply Wf.sLs | with_reducible apply Wf.cpU | with_reducible apply Wf.fillI | with_reducible apply Wf.clU | with_reducible apply Wf.dnF | with_reducible apply Wf.gbW))) (ixn (show pC z.1 < 4 by omega) (by decide))) ?_
      have hz2 := hzp.wl (hzp.dr.nC (Nat.le_refl _) (lN (wvN (tkL B n (tkE B n p)))))
      have hw2 := hz2.wf
      have hF2 := hFp.wl (Or.inl rfl) (pC z.1) (lN (wvN (tkL B n (tkE B n p))))
      have en2 : gL (sL (sI W8 338 18 (gI W8 338 21)) 342 (pC z.1) (lN (wvN (tkL B n (tkE B n p))))) 342 (pC z.1) = lN (wvN (tkL B n (tkE B n p))) := by rw [gL_sL, if_pos ⟨rfl, rfl⟩]
      refine lf (a_aload_n dX11_readCabin_49 rfl) ?_
      refine lf (a_iconst (1 : Int32) dX11_readCabin_50 (by decide)) ?_
      refine lf (a_bipush (40 : Int32) dX11_readCabin_51 (by decide)) ?_
      obtain ⟨v_, W53, k53, hR53⟩ := (m_readNumber hz2 (lo := 1) (hi := 40) (by decide) (by decide))
      obtain ⟨hX53, hR53⟩ := hR53
      generalize hr53 : nhS B n (tkE B n (tkE B n p)) 1 40 = r53 at hR53
      cases r53 with
      | inl a53 =>
        obtain ⟨rfl, hE53⟩ := hR53
        have hF53 := hF2.trans hX53.pa
        refine lf (a_inv (b2 := (0, 0)) k53 rfl dX11_readCabin_53 yk_X11_readNumber im_X11_readNumber se_X11_readNumber ml_X11_196 rfl (co_338 (by repeat (first | with_reducible exact hw | with_reducible exact hwc | with_reducible assumption | with_reducible apply Wf.sI | with_reducible apply Wf.sL | with_reducible apply Wf.cpI | with_reducible apply Wf.cpL | with_reducible apply Wf.cp2 | with_reducible apply Wf.sIs | with_reducible apply Wf.sLs | with_reducible apply Wf.cpU | with_reducible apply Wf.fillI | with_reducible apply Wf.clU | with_reducible apply Wf.dnF | with_reducible apply Wf.gbW))) (by decide) hc_X11 (by decide) (by decide) (Nat.le_of_ble_eq_true rfl)) ?_
        refine lfn (a_if_ne (tgt := 61) dX11_readCabin_56 (by decide)) (fun h56 => absurd h56 (by decide)) (fun h56 => ?_)
        refine lf (a_iconst (0 : Int32) dX11_readCabin_59 (by decide)) ?_
        refine ⟨_, _, (a_ireturn dX11_readCabin_60 rfl rfl), ?_⟩
        exact ⟨_, rfl, StM.bad hF53 (by rw [hsp]; unfold cbS; rw [bnd_l hr53]) hE53⟩
      | inr a53 =>
        obtain ⟨rfl, hM53, e22_53⟩ := hR53
        have hw53x := hM53.wf
        have hF53 := hF2.trans hX53.pa
        refine lf (a_inv (b2 := (0, 0)) k53 rfl dX11_readCabin_53 yk_X11_readNumber im_X11_readNumber se_X11_readNumber ml_X11_196 rfl (co_338 (by repeat (first | with_reducible exact hw | with_reducible exact hwc | with_reducible assumption | with_reducible apply Wf.sI | with_reducible apply Wf.sL | with_reducible apply Wf.cpI | with_reducible apply Wf.cpL | with_reducible apply Wf.cp2 | with_reducible apply Wf.sIs | with_reducible apply Wf.sLs | with_reducible apply Wf.cpU | with_reducible apply Wf.fillI | with_reducible apply Wf.clU | with_reducible apply Wf.dnF | with_reducible apply Wf.gbW))) (by decide) hc_X11 (by decide) (by decide) (Nat.le_of_ble_eq_true rfl)) ?_
        refine lfn (a_if_ne (tgt := 61) dX11_readCabin_56 (by decide)) (fun h56 => ?_) (fun h56 => absurd h56 (by decide))
        refine lf (a_aload_n dX11_readCabin_61 rfl) ?_
        refine lf (a_getR (cr_338_2 (by repeat (first | with_reducible exact hw | with_reducible exact hwc | with_reducible assumption | with_reducible apply Wf.sI | with_reducible apply Wf.sL | with_reducible apply Wf.cpI | with_reducible apply Wf.cpL | with_reducible apply Wf.cp2 | with_reducible apply Wf.sIs | with_reducible apply Wf.sLs | with_reducible apply Wf.cpU | with_reducible apply Wf.fillI | with_reducible apply Wf.clU | with_reducible apply Wf.dnF | with_reducible apply Wf.gbW))) dX11_readCabin_62 fs_X11_13 rfl (co_338 (by repeat (first | with_reducible exact hw | with_reducible exact hwc | with_reducible assumption | with_reducible apply Wf.sI | with_reducible apply Wf.sL | with_reducible apply Wf.cpI | with_reducible apply Wf.cpL | with_reducible apply Wf.cp2 | with_reducible apply Wf.sIs | with_reducible apply Wf.sLs | with_reducible apply Wf.cpU | with_reducible apply Wf.fillI | with_reducible apply Wf.clU | with_reducible apply Wf.dnF | with_reducible apply Wf.gbW)))) ?_
        refine lf (a_iconst (5 : Int32) dX11_readCabin_65 (by decide)) ?_
        refine lf (a_iconst (2 : Int32) dX11_readCabin_66 (by decide)) ?_
        refine lf (a_iload_n dX11_readCabin_67 rfl) ?_
        refine lf (a_imul dX11_readCabin_68) ?_
        refine lf (a_iadd dX11_readCabin_69) ?_
        refine lf (a_iconst (0 : Int32) dX11_readCabin_70 (by decide)) ?_
        refine lf (a_iadd dX11_readCabin_71) ?_
        rw [show (5 : Int32) + 2 * nI (pC z.1) + 0 = nI (5 + 2 * pC z.1 + 0) from ixc _ 0]
        refine lf (a_aload_n dX11_readCabin_72 rfl) ?_
        refine lf (a_getI dX11_readCabin_73 fs_X11_169 rfl (co_338 (by repeat (first | with_reducible exact hw | with_reducible exact hwc | with_reducible assumption | with_reducible apply Wf.sI | with_reducible apply Wf.sL | with_reducible apply Wf.cpI | with_reducible apply Wf.cpL | with_reducible apply Wf.cp2 | with_reducible apply Wf.sIs | with_reducible apply Wf.sLs | with_reducible apply Wf.cpU | with_reducible apply Wf.fillI | with_reducible apply Wf.clU | with_reducible apply Wf.dnF | with_reducible apply Wf.gbW)))) ?_
        rw [e22_53]
        refine lf (a_ist dX11_readCabin_76 (ca_340 (by repeat (first | with_reducible exact hw | with_reducible exact hwc | with_reducible assumption | with_reducible apply Wf.sI | with_reducible apply Wf.sL | with_reducible apply Wf.cpI | with_reducible apply Wf.cpL | with_reducible apply Wf.cp2 | with_reducible apply Wf.sIs | with_reducible apply Wf.sLs | with_reducible apply Wf.cpU | with_reducible apply Wf.fillI | with_reducible apply Wf.clU | with_reducible apply Wf.dnF | with_reducible apply Wf.gbW))) (ixn (show 5 + 2 * pC z.1 + 0 < 89 by omega) (by decide))) ?_
        have hz3 := hM53.un hta (nI a53)
        have hw3 := hz3.wf
        have hF3 := hF53.w (Or.inl rfl) (5 + 2 * pC z.1 + 0) (nI a53)
        refine lf (a_aload_n dX11_readCabin_77 rfl) ?_
        refine lf (a_getR (cr_338_2 (by repeat (first | with_reducible exact hw | with_reducible exact hwc | with_reducible assumption | with_reducible apply Wf.sI | with_reducible apply Wf.sL | with_reducible apply Wf.cpI | with_reducible apply Wf.cpL | with_reducible apply Wf.cp2 | with_reducible apply Wf.sIs | with_reducible apply Wf.sLs | with_reducible apply Wf.cpU | with_reducible apply Wf.fillI | with_reducible apply Wf.clU | with_reducible apply Wf.dnF | with_reducible apply Wf.gbW))) dX11_readCabin_78 fs_X11_13 rfl (co_338 (by repeat (first | with_reducible exact hw | with_reducible exact hwc | with_reducible assumption | with_reducible apply Wf.sI | with_reducible apply Wf.sL | with_reducible apply Wf.cpI | with_reducible apply Wf.cpL | with_reducible apply Wf.cp2 | with_reducible apply Wf.sIs | with_reducible apply Wf.sLs | with_reducible apply Wf.cpU | with_reducible apply Wf.fillI | with_reducible apply Wf.clU | with_reducible apply Wf.dnF | with_reducible apply Wf.gbW)))) ?_
        refine lf (a_iconst (5 : Int32) dX11_readCabin_81 (by decide)) ?_
        refine lf (a_iconst (2 : Int32) dX11_readCabin_82 (by decide)) ?_
        refine lf (a_iload_n dX11_readCabin_83 rfl) ?_
        refine lf (a_imul dX11_readCabin_84) ?_
        refine lf (a_iadd dX11_readCabin_85) ?_
        refine lf (a_iconst (1 : Int32) dX11_readCabin_86 (by decide)) ?_
        refine lf (a_iadd dX11_readCabin_87) ?_
        rw [show (5 : Int32) + 2 * nI (pC z.1) + 1 = nI (5 + 2 * pC z.1 + 1) from ixc _ 1]
        refine lf (a_iconst (0 : Int32) dX11_readCabin_88 (by decide)) ?_
        refine lf (a_ist dX11_readCabin_89 (ca_340 (by repeat (first | with_reducible exact hw | with_reducible exact hwc | with_reducible assumption | with_reducible apply Wf.sI | with_reducible apply Wf.sL | with_reducible apply Wf.cpI | with_reducible apply Wf.cpL | with_reducible apply Wf.cp2 | with_reducible apply Wf.sIs | with_reducible apply Wf.sLs | with_reducible apply Wf.cpU | with_reducible apply Wf.fillI | with_reducible apply Wf.clU | with_reducible apply Wf.dnF | with_reducible apply Wf.gbW))) (ixn (show 5 + 2 * pC z.1 + 1 < 89 by omega) (by decide))) ?_
        have hz4 := hz3.un htb 0
        have hw4 := hz4.wf
        have hF4 := hF3.w (Or.inl rfl) (5 + 2 * pC z.1 + 1) 0
        have en4 : gL (sI (sI W53 340 (5 + 2 * pC z.1 + 0) (nI a53)) 340 (5 + 2 * pC z.1 + 1) 0) 342 (pC z.1) = lN (wvN (tkL B n (tkE B n p))) := (hX53.1.l (by decide) _).trans en2
        have ta4 : gI (sI (sI W53 340 (5 + 2 * pC z.1 + 0) (nI a53)) 340 (5 + 2 * pC z.1 + 1) 0) 340 (5 + 2 * pC z.1 + 0) = nI a53 := by rw [gI_sI, if_neg (by omega), gI_sI, if_pos ⟨rfl, rfl⟩]
        have tb4 : gI (sI (sI W53 340 (5 + 2 * pC z.1 + 0) (nI a53)) 340 (5 + 2 * pC z.1 + 1) 0) 340 (5 + 2 * pC z.1 + 1) = 0 := by rw [gI_sI, if_pos ⟨rfl, rfl⟩]
        have hl := bA_dk (B := B) (n := n) (q := tkE B n (tkE B n (tkE B n p))) (fun k hk => hz4.tx.b256 hk)
        refine lf (a_aload_n dX11_readCabin_90 rfl) ?_
        obtain ⟨v_, W91, k91, rfl, hF91, hH91⟩ := (m_peek hz4.wf hz4.tx)
        have hz5 := hz4.hd hF91 hH91
        have hw5 := hz5.wf
        have hF5 := hF4.trans hF91.fk.pa
        have en5 := (hF91.1.l (i := 342) (by decide) (pC z.1)).trans en4
        have ta5 := (hF91.1.i (i := 340) (by decide) (5 + 2 * pC z.1 + 0)).trans ta4
        have tb5 := (hF91.1.i (i := 340) (by decide) (5 + 2 * pC z.1 + 1)).trans tb4
        refine lf (a_inv (b2 := (0, 0)) k91 rfl dX11_readCabin_91 yk_X11_peek im_X11_peek se_X11_peek ml_X11_148 rfl (co_338 (by repeat (first | with_reducible exact hw | with_reducible exact hwc | with_reducible assumption | with_reducible apply Wf.sI | with_reducible apply Wf.sL | with_reducible apply Wf.cpI | with_reducible apply Wf.cpL | with_reducible apply Wf.cp2 | with_reducible apply Wf.sIs | with_reducible apply Wf.sLs | with_reducible apply Wf.cpU | with_reducible apply Wf.fillI | with_reducible apply Wf.clU | with_reducible apply Wf.dnF | with_reducible apply Wf.gbW))) (by decide) hc_X11 (by decide) (by decide) (Nat.le_of_ble_eq_true rfl)) ?_
        by_cases hdd : tkS B n (tkE B n (tkE B n (tkE B n p))) < n ∧ kdN (B (tkS B n (tkE B n (tkE B n (tkE B n p))))) = 2
        · rw [if_pos hdd] at hl
          refine lf (a_invS (b2 := (0, 0)) (Ct.int hl (m_isDigit _)) rfl dX11_readCabin_94 yk_X11_isDigit sm_X11_isDigit ml_X11_145 rfl (by decide) (by decide) (Nat.le_of_ble_eq_true rfl)) ?_
          refine lf2 (a_if_eq (tgt := 128) dX11_readCabin_97 (by decide)) (fun h97 => absurd h97 (by decide)) (fun h97 => ?_)
          refine lf (a_aload_n dX11_readCabin_100 rfl) ?_
          refine lf (a_iconst (0 : Int32) dX11_readCabin_101 (by decide)) ?_
          refine lf (a_bipush (50 : Int32) dX11_readCabin_102 (by decide)) ?_
          obtain ⟨v_, W104, k104, hR104⟩ := (m_readNumber hz5 (lo := 0) (hi := 50) (by decide) (by decide))
          obtain ⟨hX104, hR104⟩ := hR104
          generalize hr104 : nhS B n (tkE B n (tkE B n (tkE B n p))) 0 50 = r104 at hR104
          cases r104 with
          | inl a104 =>
            obtain ⟨rfl, hE104⟩ := hR104
            have hF104 := hF5.trans hX104.pa
            refine lf (a_inv (b2 := (0, 0)) k104 rfl dX11_readCabin_104 yk_X11_readNumber im_X11_readNumber se_X11_readNumber ml_X11_196 rfl (co_338 (by repeat (first | with_reducible exact hw | with_reducible exact hwc | with_reducible assumption | with_reducible apply Wf.sI | with_reducible apply Wf.sL | with_reducible apply Wf.cpI | with_reducible apply Wf.cpL | with_reducible apply Wf.cp2 | with_reducible apply Wf.sIs | with_reducible apply Wf.sLs | with_reducible apply Wf.cpU | with_reducible apply Wf.fillI | with_reducible apply Wf.clU | with_reducible apply Wf.dnF | with_reducible apply Wf.gbW))) (by decide) hc_X11 (by decide) (by decide) (Nat.le_of_ble_eq_true rfl)) ?_
            refine lfn (a_if_ne (tgt := 112) dX11_readCabin_107 (by decide)) (fun h107 => absurd h107 (by decide)) (fun h107 => ?_)
            refine lf (a_iconst (0 : Int32) dX11_readCabin_110 (by decide)) ?_
            refine ⟨_, _, (a_ireturn dX11_readCabin_111 rfl rfl), ?_⟩
            exact ⟨_, rfl, StM.bad hF104 (by rw [hsp]; unfold cbS; rw [bnd_r hr53]; by_cases hk2 : tkK B n (tkE B n (tkE B n (tkE B n p))) = 2; (· rw [if_pos hk2, bnd_l hr104]); (· rw [if_neg hk2, sgZ_k (dig_k3 hdd.2)]; rw [nh_k4 hk2] at hr104; injection hr104 with hrq; rw [hrq])) hE104⟩
          | inr a104 =>
            obtain ⟨rfl, hM104, e22_104⟩ := hR104
            have hw104x := hM104.wf
            have hF104 := hF5.trans hX104.pa
            refine lf (a_inv (b2 := (0, 0)) k104 rfl dX11_readCabin_104 yk_X11_readNumber im_X11_readNumber se_X11_readNumber ml_X11_196 rfl (co_338 (by repeat (first | with_reducible exact hw | with_reducible exact hwc | with_reducible assumption | with_reducible apply Wf.sI | with_reducible apply Wf.sL | with_reducible apply Wf.cpI | with_reducible apply Wf.cpL | with_reducible apply Wf.cp2 | with_reducible apply Wf.sIs | with_reducible apply Wf.sLs | with_reducible apply Wf.cpU | with_reducible apply Wf.fillI | with_reducible apply Wf.clU | with_reducible apply Wf.dnF | with_reducible apply Wf.gbW))) (by decide) hc_X11 (by decide) (by decide) (Nat.le_of_ble_eq_true rfl)) ?_
            refine lfn (a_if_ne (tgt := 112) dX11_readCabin_107 (by decide)) (fun h107 => ?_) (fun h107 => absurd h107 (by decide))
            refine lf (a_aload_n dX11_readCabin_112 rfl) ?_
            refine lf (a_getR (cr_338_2 (by repeat (first | with_reducible exact hw | with_reducible exact hwc | with_reducible assumption | with_reducible apply Wf.sI | with_reducible apply Wf.sL | with_reducible apply Wf.cpI | with_reducible apply Wf.cpL | with_reducible apply Wf.cp2 | with_reducible apply Wf.sIs | with_reducible apply Wf.sLs | with_reducible apply Wf.cpU | with_reducible apply Wf.fillI | with_reducible apply Wf.clU | with_reducible apply Wf.dnF | with_reducible apply Wf.gbW))) dX11_readCabin_113 fs_X11_13 rfl (co_338 (by repeat (first | with_reducible exact hw | with_reducible exact hwc | with_reducible assumption | with_reducible apply Wf.sI | with_reducible apply Wf.sL | with_reducible apply Wf.cpI | with_reducible apply Wf.cpL | with_reducible apply Wf.cp2 | with_reducible apply Wf.sIs | with_reducible apply Wf.sLs | with_reducible apply Wf.cpU | with_reducible apply Wf.fillI | with_reducible apply Wf.clU | with_reducible apply Wf.dnF | with_reducible apply Wf.gbW)))) ?_
            refine lf (a_iconst (5 : Int32) dX11_readCabin_116 (by decide)) ?_
            refine lf (a_iconst (2 : Int32) dX11_readCabin_117 (by decide)) ?_
            refine lf (a_iload_n dX11_readCabin_118 rfl) ?_
            refine lf (a_imul dX11_readCabin_119) ?_
            refine lf (a_iadd dX11_readCabin_120) ?_
            refine lf (a_iconst (1 : Int32) dX11_readCabin_121 (by decide)) ?_
            refine lf (a_iadd dX11_readCabin_122) ?_
            rw [show (5 : Int32) + 2 * nI (pC z.1) + 1 = nI (5 + 2 * pC z.1 + 1) from ixc _ 1]
            refine lf (a_aload_n dX11_readCabin_123 rfl) ?_
            refine lf (a_getI dX11_readCabin_124 fs_X11_169 rfl (co_338 (by repeat (first | with_reducible exact hw | with_reducible exact hwc | with_reducible assumption | with_reducible apply Wf.sI | with_reducible apply Wf.sL | with_reducible apply Wf.cpI | with_reducible apply Wf.cpL | with_reducible apply Wf.cp2 | with_reducible apply Wf.sIs | with_reducible apply Wf.sLs | with_reducible apply Wf.cpU | with_reducible apply Wf.fillI | with_reducible apply Wf.clU | with_reducible apply Wf.dnF | with_reducible apply Wf.gbW)))) ?_
            rw [e22_104]
            refine lf (a_ist dX11_readCabin_127 (ca_340 (by repeat (first | with_reducible exact hw | with_reducible exact hwc | with_reducible assumption | with_reducible apply Wf.sI | with_reducible apply Wf.sL | with_reducible apply Wf.cpI | with_reducible apply Wf.cpL | with_reducible apply Wf.cp2 | with_reducible apply Wf.sIs | with_reducible apply Wf.sLs | with_reducible apply Wf.cpU | with_reducible apply Wf.fillI | with_reducible apply Wf.clU | with_reducible apply Wf.dnF | with_reducible apply Wf.gbW))) (ixn (show 5 + 2 * pC z.1 + 1 < 89 by omega) (by decide))) ?_
            have hz6 := hM104.un htb (nI a104)
            have hw6 := hz6.wf
            have hF6 := hF104.w (Or.inl rfl) (5 + 2 * pC z.1 + 1) (nI a104)
            have en6 : gL (sI W104 340 (5 + 2 * pC z.1 + 1) (nI a104)) 342 (pC z.1) = lN (wvN (tkL B n (tkE B n p))) := (hX104.1.l (by decide) _).trans en5
            have ta6 : gI (sI W104 340 (5 + 2 * pC z.1 + 1) (nI a104)) 340 (5 + 2 * pC z.1 + 0) = nI a53 := by rw [gI_sI, if_neg (by omega)]; exact (hX104.1.i (by decide) _).trans ta5
            have tb6 : gI (sI W104 340 (5 + 2 * pC z.1 + 1) (nI a104)) 340 (5 + 2 * pC z.1 + 1) = nI a104 := by rw [gI_sI, if_pos ⟨rfl, rfl⟩]
            refine lf (a_aload_n dX11_readCabin_128 rfl) ?_
            refine lf (a_getR (cr_338_2 (by repeat (first | with_reducible exact hw | with_reducible exact hwc | with_reducible assumption | with_reducible apply Wf.sI | with_reducible apply Wf.sL | with_reducible apply Wf.cpI | with_reducible apply Wf.cpL | with_reducible apply Wf.cp2 | with_reducible apply Wf.sIs | with_reducible apply Wf.sLs | with_reducible apply Wf.cpU | with_reducible apply Wf.fillI | with_reducible apply Wf.clU | with_reducible apply Wf.dnF | with_reducible apply Wf.gbW))) dX11_readCabin_129 fs_X11_13 rfl (co_338 (by repeat (first | with_reducible exact hw | with_reducible exact hwc | with_reducible assumption | with_reducible apply Wf.sI | with_reducible apply Wf.sL | with_reducible apply Wf.cpI | with_reducible apply Wf.cpL | with_reducible apply Wf.cp2 | with_reducible apply Wf.sIs | with_reducible apply Wf.sLs | with_reducible apply Wf.cpU | with_reducible apply Wf.fillI | with_reducible apply Wf.clU | with_reducible apply Wf.dnF | with_reducible apply Wf.gbW)))) ?_
            refine lf (a_iconst (0 : Int32) dX11_readCabin_132 (by decide)) ?_
            refine lf (a_iload_n dX11_readCabin_133 rfl) ?_
            refine lf (a_iconst (1 : Int32) dX11_readCabin_134 (by decide)) ?_
            refine lf (a_iadd dX11_readCabin_135) ?_
            rw [nI_1]
            refine lf (a_ist dX11_readCabin_136 (ca_340 (by repeat (first | with_reducible exact hw | with_reducible exact hwc | with_reducible assumption | with_reducible apply Wf.sI | with_reducible apply Wf.sL | with_reducible apply Wf.cpI | with_reducible apply Wf.cpL | with_reducible apply Wf.cp2 | with_reducible apply Wf.sIs | with_reducible apply Wf.sLs | with_reducible apply Wf.cpU | with_reducible apply Wf.fillI | with_reducible apply Wf.clU | with_reducible apply Wf.dnF | with_reducible apply Wf.gbW))) (ixn (m := 0) (by omega) (by decide))) ?_
            refine lf (a_iconst (1 : Int32) dX11_readCabin_137 (by decide)) ?_
            refine ⟨_, _, (a_ireturn dX11_readCabin_138 rfl rfl), ?_⟩
            exact ⟨_, rfl, StM.ok (hF6.w (Or.inl rfl) _ _) (by rw [hsp]; unfold cbS; rw [bnd_r hr53, if_pos (nhS_2 hr104), bnd_r hr104]) (hz6.w (Or.inl rfl) (hz6.dr.cabin (by omega) ta6 tb6 en6))⟩
        · rw [if_neg hdd] at hl
          refine lf (a_invS (b2 := (0, 0)) (Ct.int hl (m_isDigit _)) rfl dX11_readCabin_94 yk_X11_isDigit sm_X11_isDigit ml_X11_145 rfl (by decide) (by decide) (Nat.le_of_ble_eq_true rfl)) ?_
          refine lf2 (a_if_eq (tgt := 128) dX11_readCabin_97 (by decide)) (fun h97 => ?_) (fun h97 => absurd h97 (by decide))
          refine lf (a_aload_n dX11_readCabin_128 rfl) ?_
          refine lf (a_getR (cr_338_2 (by repeat (first | with_reducible exact hw | with_reducible exact hwc | with_reducible assumption | with_reducible apply Wf.sI | with_reducible apply Wf.sL | with_reducible apply Wf.cpI | with_reducible apply Wf.cpL | with_reducible apply Wf.cp2 | with_reducible apply Wf.sIs | with_reducible apply Wf.sLs | with_reducible apply Wf.cpU | with_reducible apply Wf.fillI | with_reducible apply Wf.clU | with_reducible apply Wf.dnF | with_reducible apply Wf.gbW))) dX11_readCabin_129 fs_X11_13 rfl (co_338 (by repeat (first | with_reducible exact hw | with_reducible exact hwc | with_reducible assumption | with_reducible apply Wf.sI | with_reducible apply Wf.sL | with_reducible apply Wf.cpI | with_reducible apply Wf.cpL | with_reducible apply Wf.cp2 | with_reducible apply Wf.sIs | with_reducible apply Wf.sLs | with_reducible apply Wf.cpU | with_reducible apply Wf.fillI | with_reducible apply Wf.clU | with_reducible apply Wf.dnF | with_reducible apply Wf.gbW)))) ?_
          refine lf (a_iconst (0 : Int32) dX11_readCabin_132 (by decide)) ?_
          refine lf (a_iload_n dX11_readCabin_133 rfl) ?_
          refine lf (a_iconst (1 : Int32) dX11_readCabin_134 (by decide)) ?_
          refine lf (a_iadd dX11_readCabin_135) ?_
          rw [nI_1]
          refine lf (a_ist dX11_readCabin_136 (ca_340 (by repeat (first | with_reducible exact hw | with_reducible exact hwc | with_reducible assumption | with_reducible apply Wf.sI | with_reducible apply Wf.sL | with_reducible apply Wf.cpI | with_reducible apply Wf.cpL | with_reducible apply Wf.cp2 | with_reducible apply Wf.sIs | with_reducible apply Wf.sLs | with_reducible apply Wf.cpU | with_reducible apply Wf.fillI | with_reducible apply Wf.clU | with_reducible apply Wf.dnF | with_reducible apply Wf.gbW))) (ixn (m := 0) (by omega) (by decide))) ?_
          refine lf (a_iconst (1 : Int32) dX11_readCabin_137 (by decide)) ?_
          refine ⟨_, _, (a_ireturn dX11_readCabin_138 rfl rfl), ?_⟩
          exact ⟨_, rfl, StM.ok (hF5.w (Or.inl rfl) _ _) (by rw [hsp]; unfold cbS; rw [bnd_r hr53, if_neg (fun y => hdd ⟨(tkK2.mp y).1, (tkK2.mp y).2.1⟩)]) (hz5.w (Or.inl rfl) (hz5.dr.cabin (by omega) ta5 tb5 en5))⟩
    | some i =>
      have hi := (cfS_lt hcf).1
      rw [show oI (some i) = nI i from rfl]
      refine lf (a_iconst (-1 : Int32) dX11_readCabin_24 (by decide)) ?_
      refine lf2 (a_icmp_eq (tgt := 34) dX11_readCabin_25 (by decide)) (fun h25 => absurd h25 (nI_ne1 (by omega))) (fun h25 => ?_)
      refine lf (a_aload_n dX11_readCabin_28 rfl) ?_
      refine lf (a_iconst (3 : Int32) dX11_readCabin_29 (by decide)) ?_
      refine lf (a_inv (b2 := (0, 0)) (m_fails hw8x 3) rfl dX11_readCabin_30 yk_X11_fails im_X11_fails se_X11_fails ml_X11_166 rfl (co_338 (by repeat (first | with_reducible exact hw | with_reducible exact hwc | with_reducible assumption | with_reducible apply Wf.sI | with_reducible apply Wf.sL | with_reducible apply Wf.cpI | with_reducible apply Wf.cpL | with_reducible apply Wf.cp2 | with_reducible apply Wf.sIs | with_reducible apply Wf.sLs | with_reducible apply Wf.cpU | with_reducible apply Wf.fillI | with_reducible apply Wf.clU | with_reducible apply Wf.dnF | with_reducible apply Wf.gbW))) (by decide) hc_X11 (by decide) (by decide) (Nat.le_of_ble_eq_true rfl)) ?_
      refine ⟨_, _, (a_ireturn dX11_readCabin_33 rfl rfl), ?_⟩
      exact ⟨_, rfl, StM.fail (c := 3) hF8 hH8.2.1 (by unfold stCabin; rw [if_neg h4, if_neg (fun y => y hnm), hcf])⟩
abbrev R_X11_readMeal : Room := { frames := 7, cells := 0, slots := 0, locals := 147 }
abbrev RX_X11_readMeal : Room := { frames := 7, cells := 1, slots := 6, locals := 147 }

theorem m_readMeal (hz : MgV B n (tkE B n p) z μ) (hg : GzD z) (h12 : ¬ 12 ≤ pM z.1) : CV Y_X11_readMeal R_X11_readMeal [.ref 338] μ (StM B n μ (stMeal B n p z)) := by
  refine CV.ent yk_X11_readMeal (Nat.le_of_ble_eq_true rfl) ?_
  have hw := hz.wf
  have hF0 := PaF.rfl' hw
  have e0 := hz.dr.1.1.2.1
  have hC4 := hg.q.C4
  have hT8 := hg.q.T4
  have hl0 : ¬ Lv z.1 (13 + 5 * pM z.1 + 0) := by unfold Lv; omega
  have hl1 : ¬ Lv z.1 (13 + 5 * pM z.1 + 1) := by unfold Lv; omega
  have hl2 : ¬ Lv z.1 (13 + 5 * pM z.1 + 2) := by unfold Lv; omega
  have hl3 : ¬ Lv z.1 (13 + 5 * pM z.1 + 3) := by unfold Lv; omega
  have hl4 : ¬ Lv z.1 (13 + 5 * pM z.1 + 4) := by unfold Lv; omega
  refine lf (a_aload_n dX11_readMeal_0 rfl) ?_
  refine lf (a_getR (cr_338_2 (by repeat (first | with_reducible exact hw | with_reducible exact hwc | with_reducible assumption | with_reducible apply Wf.sI | with_reducible apply Wf.sL | with_reducible apply Wf.cpI | with_reducible apply Wf.cpL | with_reducible apply Wf.cp2 | with_reducible apply Wf.sIs | with_reducible apply Wf.sLs | with_reducible apply Wf.cpU | with_reducible apply Wf.fillI | with_reducible apply Wf.clU | with_reducible apply Wf.dnF | with_reducible apply Wf.gbW))) dX11_readMeal_1 fs_X11_13 rfl (co_338 (by repeat (first | with_reducible exact hw | with_reducible exact hwc | with_reducible assumption | with_reducible apply Wf.sI | with_reducible apply Wf.sL | with_reducible apply Wf.cpI | with_reducible apply Wf.cpL | with_reducible apply Wf.cp2 | with_reducible apply Wf.sIs | with_reducible apply Wf.sLs | with_reducible apply Wf.cpU | with_reducible apply Wf.fillI | with_reducible apply Wf.clU | with_reducible apply Wf.dnF | with_reducible apply Wf.gbW)))) ?_
  refine lf (a_iconst (1 : Int32) dX11_readMeal_4 (by decide)) ?_
  refine lf (a_ild dX11_readMeal_5 (ca_340 (by repeat (first | with_reducible exact hw | with_reducible exact hwc | with_reducible assumption | with_reducible apply Wf.sI | with_reducible apply Wf.sL | with_reducible apply Wf.cpI | with_reducible apply Wf.cpL | with_reducible apply Wf.cp2 | with_reducible apply Wf.sIs | with_reducible apply Wf.sLs | with_reducible apply Wf.cpU | with_reducible apply Wf.fillI | with_reducible apply Wf.clU | with_reducible apply Wf.dnF | with_reducible apply Wf.gbW))) (ixn (m := 1) (by omega) (by decide))) ?_
  rw [e0]
  refine lf (a_istore_n dX11_readMeal_6 (by decide)) ?_
  refine lf (a_bipush (13 : Int32) dX11_readMeal_7 (by decide)) ?_
  refine lf (a_iconst (5 : Int32) dX11_readMeal_9 (by decide)) ?_
  refine lf (a_iload_n dX11_readMeal_10 rfl) ?_
  refine lf (a_imul dX11_readMeal_11) ?_
  refine lf (a_iadd dX11_readMeal_12) ?_
  rw [show (13 : Int32) + 5 * nI (pM z.1) = nI (13 + 5 * pM z.1) from by have := ixm (pM z.1) 0; rw [← nI_add] at this; exact (Int32.add_zero _).symm.trans (this.trans (Int32.add_zero _))]
  refine lf (a_istore_n dX11_readMeal_13 (by decide)) ?_
  refine lf (a_aload_n dX11_readMeal_14 rfl) ?_
  obtain ⟨v_, W15, k15, hR15⟩ := (m_looksName hz)
  obtain ⟨hX15, hR15⟩ := hR15
  generalize hr15 : lnS B n (tkE B n p) = r15 at hR15
  cases r15 with
  | inl a15 =>
    obtain ⟨rfl, hE15⟩ := hR15
    have hF15 := hF0.trans hX15.pa
    refine lf (a_inv (b2 := (0, 0)) k15 rfl dX11_readMeal_15 yk_X11_looksName im_X11_looksName se_X11_looksName ml_X11_199 rfl (co_338 (by repeat (first | with_reducible exact hw | with_reducible exact hwc | with_reducible assumption | with_reducible apply Wf.sI | with_reducible apply Wf.sL | with_reducible apply Wf.cpI | with_reducible apply Wf.cpL | with_reducible apply Wf.cp2 | with_reducible apply Wf.sIs | with_reducible apply Wf.sLs | with_reducible apply Wf.cpU | with_reducible apply Wf.fillI | with_reducible apply Wf.clU | with_reducible apply Wf.dnF | with_reducible apply Wf.gbW))) (by decide) hc_X11 (by decide) (by decide) (Nat.le_of_ble_eq_true rfl)) ?_
    refine lfn (a_if_ne (tgt := 23) dX11_readMeal_18 (by decide)) (fun h18 => absurd h18 (by decide)) (fun h18 => ?_)
    refine lf (a_iconst (0 : Int32) dX11_readMeal_21 (by decide)) ?_
    refine ⟨_, _, (a_ireturn dX11_readMeal_22 rfl rfl), ?_⟩
    exact ⟨_, rfl, StM.bad hF15 (by unfold stMeal; rw [if_neg h12, if_pos (lnS_bad hr15).1, (lnS_bad hr15).2]) hE15⟩
  | inr a15 =>
    obtain ⟨rfl, hM15, hH15, hs15, e25⟩ := hR15
    have hw15x := hM15.wf
    have hF15 := hF0.trans hX15.pa
    have hnm := lnS_ok hr15
    have hwv := wdL_v hnm
    refine lf (a_inv (b2 := (0, 0)) k15 rfl dX11_readMeal_15 yk_X11_looksName im_X11_looksName se_X11_looksName ml_X11_199 rfl (co_338 (by repeat (first | with_reducible exact hw | with_reducible exact hwc | with_reducible assumption | with_reducible apply Wf.sI | with_reducible apply Wf.sL | with_reducible apply Wf.cpI | with_reducible apply Wf.cpL | with_reducible apply Wf.cp2 | with_reducible apply Wf.sIs | with_reducible apply Wf.sLs | with_reducible apply Wf.cpU | with_reducible apply Wf.fillI | with_reducible apply Wf.clU | with_reducible apply Wf.dnF | with_reducible apply Wf.gbW))) (by decide) hc_X11 (by decide) (by decide) (Nat.le_of_ble_eq_true rfl)) ?_
    refine lfn (a_if_ne (tgt := 23) dX11_readMeal_18 (by decide)) (fun h18 => ?_) (fun h18 => absurd h18 (by decide))
    refine lf (a_aload_n dX11_readMeal_23 rfl) ?_
    refine lf (a_aload_n dX11_readMeal_24 rfl) ?_
    refine lf (a_getL dX11_readMeal_25 fs_X11_176 rfl (co_338 (by repeat (first | with_reducible exact hw | with_reducible exact hwc | with_reducible assumption | with_reducible apply Wf.sI | with_reducible apply Wf.sL | with_reducible apply Wf.cpI | with_reducible apply Wf.cpL | with_reducible apply Wf.cp2 | with_reducible apply Wf.sIs | with_reducible apply Wf.sLs | with_reducible apply Wf.cpU | with_reducible apply Wf.fillI | with_reducible apply Wf.clU | with_reducible apply Wf.dnF | with_reducible apply Wf.gbW)))) ?_
    rw [e25]
    refine lf (a_inv (b2 := (0, 0)) (m_mealNamed hM15 hg) rfl dX11_readMeal_28 yk_X11_mealNamed im_X11_mealNamed se_X11_mealNamed ml_X11_213 rfl (co_338 (by repeat (first | with_reducible exact hw | with_reducible exact hwc | with_reducible assumption | with_reducible apply Wf.sI | with_reducible apply Wf.sL | with_reducible apply Wf.cpI | with_reducible apply Wf.cpL | with_reducible apply Wf.cp2 | with_reducible apply Wf.sIs | with_reducible apply Wf.sLs | with_reducible apply Wf.cpU | with_reducible apply Wf.fillI | with_reducible apply Wf.clU | with_reducible apply Wf.dnF | with_reducible apply Wf.gbW))) (by decide) hc_X11 (by decide) (by decide) (Nat.le_of_ble_eq_true rfl)) ?_
    cases hcf : cfS B n (tkE B n p) (pM z.1) z.2.2.2 with
    | none =>
      have hsp : stMeal B n p z = mbS B n (tkE B n p) z (tkL B n (tkE B n p)) := by
        unfold stMeal
        rw [if_neg h12, if_neg (fun y => y hnm), hcf]
      refine lf (a_iconst (-1 : Int32) dX11_readMeal_31 (by decide)) ?_
      refine lf2 (a_icmp_eq (tgt := 41) dX11_readMeal_32 (by decide)) (fun h32 => ?_) (fun h32 => absurd h32 (fun z => z rfl))
      refine lf (a_aload_n dX11_readMeal_41 rfl) ?_
      refine lf (a_inv (b2 := (0, 0)) (m_passes hw15x) rfl dX11_readMeal_42 yk_X11_passes im_X11_passes se_X11_passes ml_X11_162 rfl (co_338 (by repeat (first | with_reducible exact hw | with_reducible exact hwc | with_reducible assumption | with_reducible apply Wf.sI | with_reducible apply Wf.sL | with_reducible apply Wf.cpI | with_reducible apply Wf.cpL | with_reducible apply Wf.cp2 | with_reducible apply Wf.sIs | with_reducible apply Wf.sLs | with_reducible apply Wf.cpU | with_reducible apply Wf.fillI | with_reducible apply Wf.clU | with_reducible apply Wf.dnF | with_reducible apply Wf.gbW))) (by decide) hc_X11 (by decide) (by decide) (Nat.le_of_ble_eq_true rfl)) ?_
      have hzp := hM15.pass (hH15.e hs15)
      have hwp := hzp.wf
      have hFp := hF15.s (k := 18) (by decide) (gI W15 338 21)
      refine lf (a_pop dX11_readMeal_45 rfl) ?_
      refine lf (a_aload_n dX11_readMeal_46 rfl) ?_
      refine lf (a_getR (cr_338_5 (by repeat (first | with_reducible exact hw | with_reducible exact hwc | with_reducible assumption | with_reducible apply Wf.sI | with_reducible apply Wf.sL | with_reducible apply Wf.cpI | with_reducible apply Wf.cpL | with_reducible apply Wf.cp2 | with_reducible apply Wf.sIs | with_reducible apply Wf.sLs | with_reducible apply Wf.cpU | with_reducible apply Wf.fillI | with_reducible apply Wf.clU | with_reducible apply Wf.dnF | with_reducible apply Wf.gbW))) dX11_readMeal_47 fs_X11_23 rfl (co_338 (by repeat (first | with_reducible exact hw | with_reducible exact hwc | with_reducible assumption | with_reducible apply Wf.sI | with_reducible apply Wf.sL | with_reducible apply Wf.cpI | with_reducible apply Wf.cpL | with_reducible apply Wf.cp2 | with_reducible apply Wf.sIs | with_reducible apply Wf.sLs | with_reducible apply Wf.cpU | with_reducible apply Wf.fillI | with_reducible apply Wf.clU | with_reducible apply Wf.dnF | with_reducible apply Wf.gbW)))) ?_
      refine lf (a_iload_n dX11_readMeal_50 rfl) ?_
      refine lf (a_aload_n dX11_readMeal_51 rfl) ?_
      refine lf (a_getL dX11_readMeal_52 fs_X11_176 rfl (co_338 (by repeat (first | with_reducible exact hw | with_reducible exact hwc | with_reducible assumption | with_reducible apply Wf.sI | with_reducible apply Wf.sL | with_reducible apply Wf.cpI | with_reducible apply Wf.cpL | with_reducible apply Wf.cp2 | with_reducible apply Wf.sIs | with_reducible apply Wf.sLs | with_reducible apply Wf.cpU | with_reducible apply Wf.fillI | with_reducible apply Wf.clU | with_reducible apply Wf.dnF | with_reducible apply Wf.gbW)))) ?_
      rw [show gL (sI W15 338 18 (gI W15 338 21)) 338 25 = lN (wvN (tkL B n (tkE B n p))) from e25.trans (congrArg lN hwv)]
      refine lf (a_lst dX11_readMeal_55 (ca_343 (by repeat (first | with_reducible exact hw | with_reducible exact hwc | with_reducible assumption | with_reducible apply Wf.sI | with_reducible apply Wf.sL | with_reducible apply Wf.cpI | with_reducible apply Wf.cpL | with_reducible apply Wf.cp2 | with_reducible apply Wf.sIs | with_reducible apply Wf.sLs | with_reducible apply Wf.cpU | with_reducible apply Wf.fillI | with_reducible apply Wf.clU | with_reducible apply Wf.dnF | with_reducible apply Wf.gbW))) (ixn (show pM z.1 < 12 by omega) (by decide))) ?_
      have hz2 := hzp.wl (hzp.dr.nM (Nat.le_refl _) (lN (wvN (tkL B n (tkE B n p)))))
      have hw2 := hz2.wf
      have hF2 := hFp.wl (Or.inr rfl) (pM z.1) (lN (wvN (tkL B n (tkE B n p))))
      have en2 : gL (sL (sI W15 338 18 (gI W15 338 21)) 343 (pM z.1) (lN (wvN (tkL B n (tkE B n p))))) 343 (pM z.1) = lN (wvN (tkL B n (tkE B n p))) := by rw [gL_sL, if_pos ⟨rfl, rfl⟩]
      refine lf (a_aload_n dX11_readMeal_56 rfl) ?_
      refine lf (a_iload_n dX11_readMeal_57 rfl) ?_
      obtain ⟨v_, W58, k58, hR58⟩ := (m_readMenu hz2 hg hl0 hl1 (by omega))
      obtain ⟨hX58, hR58⟩ := hR58
      generalize hr58 : paS B n (tkE B n p) z = r58 at hR58
      cases r58 with
      | inl a58 =>
        obtain ⟨rfl, hE58⟩ := hR58
        have hF58 := hF2.trans hX58.pa
        refine lf (a_inv (b2 := (0, 0)) k58 rfl dX11_readMeal_58 yk_X11_readMenu im_X11_readMenu se_X11_readMenu ml_X11_216 rfl (co_338 (by repeat (first | with_reducible exact hw | with_reducible exact hwc | with_reducible assumption | with_reducible apply Wf.sI | with_reducible apply Wf.sL | with_reducible apply Wf.cpI | with_reducible apply Wf.cpL | with_reducible apply Wf.cp2 | with_reducible apply Wf.sIs | with_reducible apply Wf.sLs | with_reducible apply Wf.cpU | with_reducible apply Wf.fillI | with_reducible apply Wf.clU | with_reducible apply Wf.dnF | with_reducible apply Wf.gbW))) (by decide) hc_X11 (by decide) (by decide) (Nat.le_of_ble_eq_true rfl)) ?_
        refine lf2 (a_if_eq (tgt := 73) dX11_readMeal_61 (by decide)) (fun h61 => ?_) (fun h61 => absurd h61 (by decide))
        refine lf (a_iconst (0 : Int32) dX11_readMeal_73 (by decide)) ?_
        refine ⟨_, _, (a_ireturn dX11_readMeal_74 rfl rfl), ?_⟩
        exact ⟨_, rfl, StM.bad hF58 (by rw [hsp]; unfold mbS; rw [bnd_l hr58]) hE58⟩
      | inr a58 =>
        obtain ⟨rfl, hM58, tt⟩ := hR58
        have hw58x := hM58.wf
        have hF58 := hF2.trans hX58.pa
        have en3 : gL W58 343 (pM z.1) = lN (wvN (tkL B n (tkE B n p))) := (hX58.1.l (by decide) _).trans en2
        have t0 : gI W58 340 (13 + 5 * pM z.1 + 0) = a58.2.1 := tt.1
        have t1 : gI W58 340 (13 + 5 * pM z.1 + 1) = a58.2.2 := tt.2
        refine lf (a_inv (b2 := (0, 0)) k58 rfl dX11_readMeal_58 yk_X11_readMenu im_X11_readMenu se_X11_readMenu ml_X11_216 rfl (co_338 (by repeat (first | with_reducible exact hw | with_reducible exact hwc | with_reducible assumption | with_reducible apply Wf.sI | with_reducible apply Wf.sL | with_reducible apply Wf.cpI | with_reducible apply Wf.cpL | with_reducible apply Wf.cp2 | with_reducible apply Wf.sIs | with_reducible apply Wf.sLs | with_reducible apply Wf.cpU | with_reducible apply Wf.fillI | with_reducible apply Wf.clU | with_reducible apply Wf.dnF | with_reducible apply Wf.gbW))) (by decide) hc_X11 (by decide) (by decide) (Nat.le_of_ble_eq_true rfl)) ?_
        refine lf2 (a_if_eq (tgt := 73) dX11_readMeal_61 (by decide)) (fun h61 => absurd h61 (by decide)) (fun h61 => ?_)
        refine lf (a_aload_n dX11_readMeal_64 rfl) ?_
        refine lf (a_iconst (1 : Int32) dX11_readMeal_65 (by decide)) ?_
        refine lf (a_iconst (3 : Int32) dX11_readMeal_66 (by decide)) ?_
        obtain ⟨v_, W67, k67, hR67⟩ := (m_readNumber hM58 (lo := 1) (hi := 3) (by decide) (by decide))
        obtain ⟨hX67, hR67⟩ := hR67
        generalize hr67 : nhS B n (tkE B n a58.1) 1 3 = r67 at hR67
        cases r67 with
        | inl a67 =>
          obtain ⟨rfl, hE67⟩ := hR67
          have hF67 := hF58.trans hX67.pa
          refine lf (a_inv (b2 := (0, 0)) k67 rfl dX11_readMeal_67 yk_X11_readNumber im_X11_readNumber se_X11_readNumber ml_X11_196 rfl (co_338 (by repeat (first | with_reducible exact hw | with_reducible exact hwc | with_reducible assumption | with_reducible apply Wf.sI | with_reducible apply Wf.sL | with_reducible apply Wf.cpI | with_reducible apply Wf.cpL | with_reducible apply Wf.cp2 | with_reducible apply Wf.sIs | with_reducible apply Wf.sLs | with_reducible apply Wf.cpU | with_reducible apply Wf.fillI | with_reducible apply Wf.clU | with_reducible apply Wf.dnF | with_reducible apply Wf.gbW))) (by decide) hc_X11 (by decide) (by decide) (Nat.le_of_ble_eq_true rfl)) ?_
          refine lfn (a_if_ne (tgt := 75) dX11_readMeal_70 (by decide)) (fun h70 => absurd h70 (by decide)) (fun h70 => ?_)
          refine lf (a_iconst (0 : Int32) dX11_readMeal_73 (by decide)) ?_
          refine ⟨_, _, (a_ireturn dX11_readMeal_74 rfl rfl), ?_⟩
          exact ⟨_, rfl, StM.bad hF67 (by rw [hsp]; unfold mbS; rw [bnd_r hr58, bnd_l hr67]) hE67⟩
        | inr a67 =>
          obtain ⟨rfl, hM67, e22_67⟩ := hR67
          have hw67x := hM67.wf
          have hF67 := hF58.trans hX67.pa
          have hz4 := hM67.un hl2 (nI a67)
          have hw4 := hz4.wf
          have hF4 := hF67.w (Or.inl rfl) (13 + 5 * pM z.1 + 2) (nI a67)
          have en4 : gL (sI W67 340 (13 + 5 * pM z.1 + 2) (nI a67)) 343 (pM z.1) = lN (wvN (tkL B n (tkE B n p))) := (hX67.1.l (by decide) _).trans en3
          have t04 : gI (sI W67 340 (13 + 5 * pM z.1 + 2) (nI a67)) 340 (13 + 5 * pM z.1 + 0) = a58.2.1 := by rw [gI_sI, if_neg (by omega)]; exact (hX67.1.i (by decide) _).trans t0
          have t14 : gI (sI W67 340 (13 + 5 * pM z.1 + 2) (nI a67)) 340 (13 + 5 * pM z.1 + 1) = a58.2.2 := by rw [gI_sI, if_neg (by omega)]; exact (hX67.1.i (by decide) _).trans t1
          have t24 : gI (sI W67 340 (13 + 5 * pM z.1 + 2) (nI a67)) 340 (13 + 5 * pM z.1 + 2) = nI a67 := by rw [gI_sI, if_pos ⟨rfl, rfl⟩]
          refine lf (a_inv (b2 := (0, 0)) k67 rfl dX11_readMeal_67 yk_X11_readNumber im_X11_readNumber se_X11_readNumber ml_X11_196 rfl (co_338 (by repeat (first | with_reducible exact hw | with_reducible exact hwc | with_reducible assumption | with_reducible apply Wf.sI | with_reducible apply Wf.sL | with_reducible apply Wf.cpI | with_reducible apply Wf.cpL | with_reducible apply Wf.cp2 | with_reducible apply Wf.sIs | with_reducible apply Wf.sLs | with_reducible apply Wf.cpU | with_reducible apply Wf.fillI | with_reducible apply Wf.clU | with_reducible apply Wf.dnF | with_reducible apply Wf.gbW))) (by decide) hc_X11 (by decide) (by decide) (Nat.le_of_ble_eq_true rfl)) ?_
          refine lfn (a_if_ne (tgt := 75) dX11_readMeal_70 (by decide)) (fun h70 => ?_) (fun h70 => absurd h70 (by decide))
          refine lf (a_aload_n dX11_readMeal_75 rfl) ?_
          refine lf (a_getR (cr_338_2 (by repeat (first | with_reducible exact hw | with_reducible exact hwc | with_reducible assumption | with_reducible apply Wf.sI | with_reducible apply Wf.sL | with_reducible apply Wf.cpI | with_reducible apply Wf.cpL | with_reducible apply Wf.cp2 | with_reducible apply Wf.sIs | with_reducible apply Wf.sLs | with_reducible apply Wf.cpU | with_reducible apply Wf.fillI | with_reducible apply Wf.clU | with_reducible apply Wf.dnF | with_reducible apply Wf.gbW))) dX11_readMeal_76 fs_X11_13 rfl (co_338 (by repeat (first | with_reducible exact hw | with_reducible exact hwc | with_reducible assumption | with_reducible apply Wf.sI | with_reducible apply Wf.sL | with_reducible apply Wf.cpI | with_reducible apply Wf.cpL | with_reducible apply Wf.cp2 | with_reducible apply Wf.sIs | with_reducible apply Wf.sLs | with_reducible apply Wf.cpU | with_reducible apply Wf.fillI | with_reducible apply Wf.clU | with_reducible apply Wf.dnF | with_reducible apply Wf.gbW)))) ?_
          refine lf (a_iload_n dX11_readMeal_79 rfl) ?_
          refine lf (a_iconst (2 : Int32) dX11_readMeal_80 (by decide)) ?_
          refine lf (a_iadd dX11_readMeal_81) ?_
          rw [show nI (13 + 5 * pM z.1) + (2 : Int32) = nI (13 + 5 * pM z.1 + 2) from nI_add (13 + 5 * pM z.1) 2]
          refine lf (a_aload_n dX11_readMeal_82 rfl) ?_
          refine lf (a_getI dX11_readMeal_83 fs_X11_169 rfl (co_338 (by repeat (first | with_reducible exact hw | with_reducible exact hwc | with_reducible assumption | with_reducible apply Wf.sI | with_reducible apply Wf.sL | with_reducible apply Wf.cpI | with_reducible apply Wf.cpL | with_reducible apply Wf.cp2 | with_reducible apply Wf.sIs | with_reducible apply Wf.sLs | with_reducible apply Wf.cpU | with_reducible apply Wf.fillI | with_reducible apply Wf.clU | with_reducible apply Wf.dnF | with_reducible apply Wf.gbW)))) ?_
          rw [e22_67]
          refine lf (a_ist dX11_readMeal_86 (ca_340 (by repeat (first | with_reducible exact hw | with_reducible exact hwc | with_reducible assumption | with_reducible apply Wf.sI | with_reducible apply Wf.sL | with_reducible apply Wf.cpI | with_reducible apply Wf.cpL | with_reducible apply Wf.cp2 | with_reducible apply Wf.sIs | with_reducible apply Wf.sLs | with_reducible apply Wf.cpU | with_reducible apply Wf.fillI | with_reducible apply Wf.clU | with_reducible apply Wf.dnF | with_reducible apply Wf.gbW))) (ixn (show 13 + 5 * pM z.1 + 2 < 89 by omega) (by decide))) ?_
          refine lf (a_aload_n dX11_readMeal_87 rfl) ?_
          refine lf (a_iconst (1 : Int32) dX11_readMeal_88 (by decide)) ?_
          refine lf (a_sipush (9999 : Int32) dX11_readMeal_89 (by decide)) ?_
          obtain ⟨v_, W92, k92, hR92⟩ := (m_readNumber hz4 (lo := 1) (hi := 9999) (by decide) (by decide))
          obtain ⟨hX92, hR92⟩ := hR92
          generalize hr92 : nhS B n (tkE B n (tkE B n a58.1)) 1 9999 = r92 at hR92
          cases r92 with
          | inl a92 =>
            obtain ⟨rfl, hE92⟩ := hR92
            have hF92 := hF4.trans hX92.pa
            refine lf (a_inv (b2 := (0, 0)) k92 rfl dX11_readMeal_92 yk_X11_readNumber im_X11_readNumber se_X11_readNumber ml_X11_196 rfl (co_338 (by repeat (first | with_reducible exact hw | with_reducible exact hwc | with_reducible assumption | with_reducible apply Wf.sI | with_reducible apply Wf.sL | with_reducible apply Wf.cpI | with_reducible apply Wf.cpL | with_reducible apply Wf.cp2 | with_reducible apply Wf.sIs | with_reducible apply Wf.sLs | with_reducible apply Wf.cpU | with_reducible apply Wf.fillI | with_reducible apply Wf.clU | with_reducible apply Wf.dnF | with_reducible apply Wf.gbW))) (by decide) hc_X11 (by decide) (by decide) (Nat.le_of_ble_eq_true rfl)) ?_
            refine lfn (a_if_ne (tgt := 100) dX11_readMeal_95 (by decide)) (fun h95 => absurd h95 (by decide)) (fun h95 => ?_)
            refine lf (a_iconst (0 : Int32) dX11_readMeal_98 (by decide)) ?_
            refine ⟨_, _, (a_ireturn dX11_readMeal_99 rfl rfl), ?_⟩
            exact ⟨_, rfl, StM.bad hF92 (by rw [hsp]; unfold mbS; rw [bnd_r hr58, bnd_r hr67, bnd_l hr92]) hE92⟩
          | inr a92 =>
            obtain ⟨rfl, hM92, e22_92⟩ := hR92
            have hw92x := hM92.wf
            have hF92 := hF4.trans hX92.pa
            have hz5 := (hM92.un hl3 (nI a92)).un hl4 0
            have hw5b := (hM92.un hl3 (nI a92)).wf
            have hw5 := hz5.wf
            have hF5 := (hF92.w (Or.inl rfl) (13 + 5 * pM z.1 + 3) (nI a92)).w (Or.inl rfl) (13 + 5 * pM z.1 + 4) 0
            have en5 : gL (sI (sI W92 340 (13 + 5 * pM z.1 + 3) (nI a92)) 340 (13 + 5 * pM z.1 + 4) 0) 343 (pM z.1) = lN (wvN (tkL B n (tkE B n p))) := (hX92.1.l (by decide) _).trans en4
            have t05 : gI (sI (sI W92 340 (13 + 5 * pM z.1 + 3) (nI a92)) 340 (13 + 5 * pM z.1 + 4) 0) 340 (13 + 5 * pM z.1 + 0) = a58.2.1 := by rw [gI_sI, if_neg (by omega), gI_sI, if_neg (by omega)]; exact (hX92.1.i (by decide) _).trans t04
            have t15 : gI (sI (sI W92 340 (13 + 5 * pM z.1 + 3) (nI a92)) 340 (13 + 5 * pM z.1 + 4) 0) 340 (13 + 5 * pM z.1 + 1) = a58.2.2 := by rw [gI_sI, if_neg (by omega), gI_sI, if_neg (by omega)]; exact (hX92.1.i (by decide) _).trans t14
            have t25 : gI (sI (sI W92 340 (13 + 5 * pM z.1 + 3) (nI a92)) 340 (13 + 5 * pM z.1 + 4) 0) 340 (13 + 5 * pM z.1 + 2) = nI a67 := by rw [gI_sI, if_neg (by omega), gI_sI, if_neg (by omega)]; exact (hX92.1.i (by decide) _).trans t24
            have t35 : gI (sI (sI W92 340 (13 + 5 * pM z.1 + 3) (nI a92)) 340 (13 + 5 * pM z.1 + 4) 0) 340 (13 + 5 * pM z.1 + 3) = nI a92 := by rw [gI_sI, if_neg (by omega), gI_sI, if_pos ⟨rfl, rfl⟩]
            have t45 : gI (sI (sI W92 340 (13 + 5 * pM z.1 + 3) (nI a92)) 340 (13 + 5 * pM z.1 + 4) 0) 340 (13 + 5 * pM z.1 + 4) = 0 := by rw [gI_sI, if_pos ⟨rfl, rfl⟩]
            refine lf (a_inv (b2 := (0, 0)) k92 rfl dX11_readMeal_92 yk_X11_readNumber im_X11_readNumber se_X11_readNumber ml_X11_196 rfl (co_338 (by repeat (first | with_reducible exact hw | with_reducible exact hwc | with_reducible assumption | with_reducible apply Wf.sI | with_reducible apply Wf.sL | with_reducible apply Wf.cpI | with_reducible apply Wf.cpL | with_reducible apply Wf.cp2 | with_reducible apply Wf.sIs | with_reducible apply Wf.sLs | with_reducible apply Wf.cpU | with_reducible apply Wf.fillI | with_reducible apply Wf.clU | with_reducible apply Wf.dnF | with_reducible apply Wf.gbW))) (by decide) hc_X11 (by decide) (by decide) (Nat.le_of_ble_eq_true rfl)) ?_
            refine lfn (a_if_ne (tgt := 100) dX11_readMeal_95 (by decide)) (fun h95 => ?_) (fun h95 => absurd h95 (by decide))
            refine lf (a_aload_n dX11_readMeal_100 rfl) ?_
            refine lf (a_getR (cr_338_2 (by repeat (first | with_reducible exact hw | with_reducible exact hwc | with_reducible assumption | with_reducible apply Wf.sI | with_reducible apply Wf.sL | with_reducible apply Wf.cpI | with_reducible apply Wf.cpL | with_reducible apply Wf.cp2 | with_reducible apply Wf.sIs | with_reducible apply Wf.sLs | with_reducible apply Wf.cpU | with_reducible apply Wf.fillI | with_reducible apply Wf.clU | with_reducible apply Wf.dnF | with_reducible apply Wf.gbW))) dX11_readMeal_101 fs_X11_13 rfl (co_338 (by repeat (first | with_reducible exact hw | with_reducible exact hwc | with_reducible assumption | with_reducible apply Wf.sI | with_reducible apply Wf.sL | with_reducible apply Wf.cpI | with_reducible apply Wf.cpL | with_reducible apply Wf.cp2 | with_reducible apply Wf.sIs | with_reducible apply Wf.sLs | with_reducible apply Wf.cpU | with_reducible apply Wf.fillI | with_reducible apply Wf.clU | with_reducible apply Wf.dnF | with_reducible apply Wf.gbW)))) ?_
            refine lf (a_iload_n dX11_readMeal_104 rfl) ?_
            refine lf (a_iconst (3 : Int32) dX11_readMeal_105 (by decide)) ?_
            refine lf (a_iadd dX11_readMeal_106) ?_
            rw [show nI (13 + 5 * pM z.1) + (3 : Int32) = nI (13 + 5 * pM z.1 + 3) from nI_add (13 + 5 * pM z.1) 3]
            refine lf (a_aload_n dX11_readMeal_107 rfl) ?_
            refine lf (a_getI dX11_readMeal_108 fs_X11_169 rfl (co_338 (by repeat (first | with_reducible exact hw | with_reducible exact hwc | with_reducible assumption | with_reducible apply Wf.sI | with_reducible apply Wf.sL | with_reducible apply Wf.cpI | with_reducible apply Wf.cpL | with_reducible apply Wf.cp2 | with_reducible apply Wf.sIs | with_reducible apply Wf.sLs | with_reducible apply Wf.cpU | with_reducible apply Wf.fillI | with_reducible apply Wf.clU | with_reducible apply Wf.dnF | with_reducible apply Wf.gbW)))) ?_
            rw [e22_92]
            refine lf (a_ist dX11_readMeal_111 (ca_340 (by repeat (first | with_reducible exact hw | with_reducible exact hwc | with_reducible assumption | with_reducible apply Wf.sI | with_reducible apply Wf.sL | with_reducible apply Wf.cpI | with_reducible apply Wf.cpL | with_reducible apply Wf.cp2 | with_reducible apply Wf.sIs | with_reducible apply Wf.sLs | with_reducible apply Wf.cpU | with_reducible apply Wf.fillI | with_reducible apply Wf.clU | with_reducible apply Wf.dnF | with_reducible apply Wf.gbW))) (ixn (show 13 + 5 * pM z.1 + 3 < 89 by omega) (by decide))) ?_
            refine lf (a_aload_n dX11_readMeal_112 rfl) ?_
            refine lf (a_getR (cr_338_2 (by repeat (first | with_reducible exact hw | with_reducible exact hwc | with_reducible assumption | with_reducible apply Wf.sI | with_reducible apply Wf.sL | with_reducible apply Wf.cpI | with_reducible apply Wf.cpL | with_reducible apply Wf.cp2 | with_reducible apply Wf.sIs | with_reducible apply Wf.sLs | with_reducible apply Wf.cpU | with_reducible apply Wf.fillI | with_reducible apply Wf.clU | with_reducible apply Wf.dnF | with_reducible apply Wf.gbW))) dX11_readMeal_113 fs_X11_13 rfl (co_338 (by repeat (first | with_reducible exact hw | with_reducible exact hwc | with_reducible assumption | with_reducible apply Wf.sI | with_reducible apply Wf.sL | with_reducible apply Wf.cpI | with_reducible apply Wf.cpL | with_reducible apply Wf.cp2 | with_reducible apply Wf.sIs | with_reducible apply Wf.sLs | with_reducible apply Wf.cpU | with_reducible apply Wf.fillI | with_reducible apply Wf.clU | with_reducible apply Wf.dnF | with_reducible apply Wf.gbW)))) ?_
            refine lf (a_iload_n dX11_readMeal_116 rfl) ?_
            refine lf (a_iconst (4 : Int32) dX11_readMeal_117 (by decide)) ?_
            refine lf (a_iadd dX11_readMeal_118) ?_
            rw [show nI (13 + 5 * pM z.1) + (4 : Int32) = nI (13 + 5 * pM z.1 + 4) from nI_add (13 + 5 * pM z.1) 4]
            refine lf (a_iconst (0 : Int32) dX11_readMeal_119 (by decide)) ?_
            refine lf (a_ist dX11_readMeal_120 (ca_340 (by repeat (first | with_reducible exact hw | with_reducible exact hwc | with_reducible assumption | with_reducible apply Wf.sI | with_reducible apply Wf.sL | with_reducible apply Wf.cpI | with_reducible apply Wf.cpL | with_reducible apply Wf.cp2 | with_reducible apply Wf.sIs | with_reducible apply Wf.sLs | with_reducible apply Wf.cpU | with_reducible apply Wf.fillI | with_reducible apply Wf.clU | with_reducible apply Wf.dnF | with_reducible apply Wf.gbW))) (ixn (show 13 + 5 * pM z.1 + 4 < 89 by omega) (by decide))) ?_
            refine lf (a_aload_n dX11_readMeal_121 rfl) ?_
            refine lf (a_ldc2 (v := 509810259) dX11_readMeal_122 (lwa_in 1812 (by decide +kernel) rfl)) ?_
            obtain ⟨v_, W125, k125, hR125⟩ := (m_pw_11 hz5)
            obtain ⟨hX125, hR125⟩ := hR125
            generalize hr125 : wdI B n (tkE B n (tkE B n (tkE B n a58.1))) 11 = r125 at hR125
            cases r125 with
            | false =>
              obtain ⟨rfl, hM125, hH125⟩ := hR125
              have hw125x := hM125.wf
              have hF125 := hF5.trans hX125.pa
              have t06 := (hX125.1.i (i := 340) (by decide) (13 + 5 * pM z.1 + 0)).trans t05
              have t16 := (hX125.1.i (i := 340) (by decide) (13 + 5 * pM z.1 + 1)).trans t15
              have t26 := (hX125.1.i (i := 340) (by decide) (13 + 5 * pM z.1 + 2)).trans t25
              have t36 := (hX125.1.i (i := 340) (by decide) (13 + 5 * pM z.1 + 3)).trans t35
              have t46 := (hX125.1.i (i := 340) (by decide) (13 + 5 * pM z.1 + 4)).trans t45
              have en6 := (hX125.1.l (i := 343) (by decide) (pM z.1)).trans en5
              refine lf (a_inv (b2 := (0, 0)) k125 rfl dX11_readMeal_125 yk_X11_passesWord im_X11_passesWord se_X11_passesWord ml_X11_204 rfl (co_338 (by repeat (first | with_reducible exact hw | with_reducible exact hwc | with_reducible assumption | with_reducible apply Wf.sI | with_reducible apply Wf.sL | with_reducible apply Wf.cpI | with_reducible apply Wf.cpL | with_reducible apply Wf.cp2 | with_reducible apply Wf.sIs | with_reducible apply Wf.sLs | with_reducible apply Wf.cpU | with_reducible apply Wf.fillI | with_reducible apply Wf.clU | with_reducible apply Wf.dnF | with_reducible apply Wf.gbW))) (by decide) hc_X11 (by decide) (by decide) (Nat.le_of_ble_eq_true rfl)) ?_
              refine lf2 (a_if_eq (tgt := 152) dX11_readMeal_128 (by decide)) (fun h128 => ?_) (fun h128 => absurd h128 (by decide))
              have hwq := hM125.wf
              refine lf (a_aload_n dX11_readMeal_152 rfl) ?_
              refine lf (a_getR (cr_338_2 (by repeat (first | with_reducible exact hw | with_reducible exact hwc | with_reducible assumption | with_reducible apply Wf.sI | with_reducible apply Wf.sL | with_reducible apply Wf.cpI | with_reducible apply Wf.cpL | with_reducible apply Wf.cp2 | with_reducible apply Wf.sIs | with_reducible apply Wf.sLs | with_reducible apply Wf.cpU | with_reducible apply Wf.fillI | with_reducible apply Wf.clU | with_reducible apply Wf.dnF | with_reducible apply Wf.gbW))) dX11_readMeal_153 fs_X11_13 rfl (co_338 (by repeat (first | with_reducible exact hw | with_reducible exact hwc | with_reducible assumption | with_reducible apply Wf.sI | with_reducible apply Wf.sL | with_reducible apply Wf.cpI | with_reducible apply Wf.cpL | with_reducible apply Wf.cp2 | with_reducible apply Wf.sIs | with_reducible apply Wf.sLs | with_reducible apply Wf.cpU | with_reducible apply Wf.fillI | with_reducible apply Wf.clU | with_reducible apply Wf.dnF | with_reducible apply Wf.gbW)))) ?_
              refine lf (a_iconst (1 : Int32) dX11_readMeal_156 (by decide)) ?_
              refine lf (a_iload_n dX11_readMeal_157 rfl) ?_
              refine lf (a_iconst (1 : Int32) dX11_readMeal_158 (by decide)) ?_
              refine lf (a_iadd dX11_readMeal_159) ?_
              rw [nI_1]
              refine lf (a_ist dX11_readMeal_160 (ca_340 (by repeat (first | with_reducible exact hw | with_reducible exact hwc | with_reducible assumption | with_reducible apply Wf.sI | with_reducible apply Wf.sL | with_reducible apply Wf.cpI | with_reducible apply Wf.cpL | with_reducible apply Wf.cp2 | with_reducible apply Wf.sIs | with_reducible apply Wf.sLs | with_reducible apply Wf.cpU | with_reducible apply Wf.fillI | with_reducible apply Wf.clU | with_reducible apply Wf.dnF | with_reducible apply Wf.gbW))) (ixn (m := 1) (by omega) (by decide))) ?_
              refine lf (a_iconst (1 : Int32) dX11_readMeal_161 (by decide)) ?_
              refine ⟨_, _, (a_ireturn dX11_readMeal_162 rfl rfl), ?_⟩
              exact ⟨_, rfl, StM.ok (hF125.w (Or.inl rfl) _ _) (by rw [hsp]; unfold mbS; rw [bnd_r hr58, bnd_r hr67, bnd_r hr92]; unfold ofS; rw [hr125, if_neg (by decide)]; rfl) (hM125.w (Or.inl rfl) (hM125.dr.meal (by omega) t06 t16 t26 t36 t46 en6))⟩
            | true =>
              obtain ⟨rfl, hM125⟩ := hR125
              have hw125x := hM125.wf
              have hF125 := hF5.trans hX125.pa
              have t06 := (hX125.1.i (i := 340) (by decide) (13 + 5 * pM z.1 + 0)).trans t05
              have t16 := (hX125.1.i (i := 340) (by decide) (13 + 5 * pM z.1 + 1)).trans t15
              have t26 := (hX125.1.i (i := 340) (by decide) (13 + 5 * pM z.1 + 2)).trans t25
              have t36 := (hX125.1.i (i := 340) (by decide) (13 + 5 * pM z.1 + 3)).trans t35
              have t46 := (hX125.1.i (i := 340) (by decide) (13 + 5 * pM z.1 + 4)).trans t45
              have en6 := (hX125.1.l (i := 343) (by decide) (pM z.1)).trans en5
              refine lf (a_inv (b2 := (0, 0)) k125 rfl dX11_readMeal_125 yk_X11_passesWord im_X11_passesWord se_X11_passesWord ml_X11_204 rfl (co_338 (by repeat (first | with_reducible exact hw | with_reducible exact hwc | with_reducible assumption | with_reducible apply Wf.sI | with_reducible apply Wf.sL | with_reducible apply Wf.cpI | with_reducible apply Wf.cpL | with_reducible apply Wf.cp2 | with_reducible apply Wf.sIs | with_reducible apply Wf.sLs | with_reducible apply Wf.cpU | with_reducible apply Wf.fillI | with_reducible apply Wf.clU | with_reducible apply Wf.dnF | with_reducible apply Wf.gbW))) (by decide) hc_X11 (by decide) (by decide) (Nat.le_of_ble_eq_true rfl)) ?_
              refine lf2 (a_if_eq (tgt := 152) dX11_readMeal_128 (by decide)) (fun h128 => absurd h128 (by decide)) (fun h128 => ?_)
              refine lf (a_aload_n dX11_readMeal_131 rfl) ?_
              obtain ⟨v_, W132, k132, hR132⟩ := (m_readDiets hM125)
              obtain ⟨hX132, hR132⟩ := hR132
              generalize hr132 : ndS B n (tkE B n (tkE B n (tkE B n (tkE B n a58.1)))) = r132 at hR132
              cases r132 with
              | inl a132 =>
                obtain ⟨rfl, hE132⟩ := hR132
                have hF132 := hF125.trans hX132.pa
                refine lf (a_inv (b2 := (0, 0)) k132 rfl dX11_readMeal_132 yk_X11_readDiets im_X11_readDiets se_X11_readDiets ml_X11_221 rfl (co_338 (by repeat (first | with_reducible exact hw | with_reducible exact hwc | with_reducible assumption | with_reducible apply Wf.sI | with_reducible apply Wf.sL | with_reducible apply Wf.cpI | with_reducible apply Wf.cpL | with_reducible apply Wf.cp2 | with_reducible apply Wf.sIs | with_reducible apply Wf.sLs | with_reducible apply Wf.cpU | with_reducible apply Wf.fillI | with_reducible apply Wf.clU | with_reducible apply Wf.dnF | with_reducible apply Wf.gbW))) (by decide) hc_X11 (by decide) (by decide) (Nat.le_of_ble_eq_true rfl)) ?_
                refine lfn (a_if_ne (tgt := 140) dX11_readMeal_135 (by decide)) (fun h135 => absurd h135 (by decide)) (fun h135 => ?_)
                refine lf (a_iconst (0 : Int32) dX11_readMeal_138 (by decide)) ?_
                refine ⟨_, _, (a_ireturn dX11_readMeal_139 rfl rfl), ?_⟩
                exact ⟨_, rfl, StM.bad hF132 (by rw [hsp]; unfold mbS; rw [bnd_r hr58, bnd_r hr67, bnd_r hr92]; unfold ofS; rw [hr125, if_pos rfl, bnd_l hr132]; rfl) hE132⟩
              | inr a132 =>
                obtain ⟨rfl, hM132, e27⟩ := hR132
                have hw132x := hM132.wf
                have hF132 := hF125.trans hX132.pa
                have hz7 := hM132.un hl4 (nI a132)
                have hw7 := hz7.wf
                have hF7 := hF132.w (Or.inl rfl) (13 + 5 * pM z.1 + 4) (nI a132)
                have en7 : gL (sI W132 340 (13 + 5 * pM z.1 + 4) (nI a132)) 343 (pM z.1) = lN (wvN (tkL B n (tkE B n p))) := (hX132.1.l (by decide) _).trans en6
                have t07 : gI (sI W132 340 (13 + 5 * pM z.1 + 4) (nI a132)) 340 (13 + 5 * pM z.1 + 0) = a58.2.1 := by rw [gI_sI, if_neg (by omega)]; exact (hX132.1.i (by decide) _).trans t06
                have t17 : gI (sI W132 340 (13 + 5 * pM z.1 + 4) (nI a132)) 340 (13 + 5 * pM z.1 + 1) = a58.2.2 := by rw [gI_sI, if_neg (by omega)]; exact (hX132.1.i (by decide) _).trans t16
                have t27 : gI (sI W132 340 (13 + 5 * pM z.1 + 4) (nI a132)) 340 (13 + 5 * pM z.1 + 2) = nI a67 := by rw [gI_sI, if_neg (by omega)]; exact (hX132.1.i (by decide) _).trans t26
                have t37 : gI (sI W132 340 (13 + 5 * pM z.1 + 4) (nI a132)) 340 (13 + 5 * pM z.1 + 3) = nI a92 := by rw [gI_sI, if_neg (by omega)]; exact (hX132.1.i (by decide) _).trans t36
                have t47 : gI (sI W132 340 (13 + 5 * pM z.1 + 4) (nI a132)) 340 (13 + 5 * pM z.1 + 4) = nI a132 := by rw [gI_sI, if_pos ⟨rfl, rfl⟩]
                refine lf (a_inv (b2 := (0, 0)) k132 rfl dX11_readMeal_132 yk_X11_readDiets im_X11_readDiets se_X11_readDiets ml_X11_221 rfl (co_338 (by repeat (first | with_reducible exact hw | with_reducible exact hwc | with_reducible assumption | with_reducible apply Wf.sI | with_reducible apply Wf.sL | with_reducible apply Wf.cpI | with_reducible apply Wf.cpL | with_reducible apply Wf.cp2 | with_reducible apply Wf.sIs | with_reducible apply Wf.sLs | with_reducible apply Wf.cpU | with_reducible apply Wf.fillI | with_reducible apply Wf.clU | with_reducible apply Wf.dnF | with_reducible apply Wf.gbW))) (by decide) hc_X11 (by decide) (by decide) (Nat.le_of_ble_eq_true rfl)) ?_
                refine lfn (a_if_ne (tgt := 140) dX11_readMeal_135 (by decide)) (fun h135 => ?_) (fun h135 => absurd h135 (by decide))
                refine lf (a_aload_n dX11_readMeal_140 rfl) ?_
                refine lf (a_getR (cr_338_2 (by repeat (first | with_reducible exact hw | with_reducible exact hwc | with_reducible assumption | with_reducible apply Wf.sI | with_reducible apply Wf.sL | with_reducible apply Wf.cpI | with_reducible apply Wf.cpL | with_reducible apply Wf.cp2 | with_reducible apply Wf.sIs | with_reducible apply Wf.sLs | with_reducible apply Wf.cpU | with_reducible apply Wf.fillI | with_reducible apply Wf.clU | with_reducible apply Wf.dnF | with_reducible apply Wf.gbW))) dX11_readMeal_141 fs_X11_13 rfl (co_338 (by repeat (first | with_reducible exact hw | with_reducible exact hwc | with_reducible assumption | with_reducible apply Wf.sI | with_reducible apply Wf.sL | with_reducible apply Wf.cpI | with_reducible apply Wf.cpL | with_reducible apply Wf.cp2 | with_reducible apply Wf.sIs | with_reducible apply Wf.sLs | with_reducible apply Wf.cpU | with_reducible apply Wf.fillI | with_reducible apply Wf.clU | with_reducible apply Wf.dnF | with_reducible apply Wf.gbW)))) ?_
                refine lf (a_iload_n dX11_readMeal_144 rfl) ?_
                refine lf (a_iconst (4 : Int32) dX11_readMeal_145 (by decide)) ?_
                refine lf (a_iadd dX11_readMeal_146) ?_
                rw [show nI (13 + 5 * pM z.1) + (4 : Int32) = nI (13 + 5 * pM z.1 + 4) from nI_add (13 + 5 * pM z.1) 4]
                refine lf (a_aload_n dX11_readMeal_147 rfl) ?_
                refine lf (a_getI dX11_readMeal_148 fs_X11_190 rfl (co_338 (by repeat (first | with_reducible exact hw | with_reducible exact hwc | with_reducible assumption | with_reducible apply Wf.sI | with_reducible apply Wf.sL | with_reducible apply Wf.cpI | with_reducible apply Wf.cpL | with_reducible apply Wf.cp2 | with_reducible apply Wf.sIs | with_reducible apply Wf.sLs | with_reducible apply Wf.cpU | with_reducible apply Wf.fillI | with_reducible apply Wf.clU | with_reducible apply Wf.dnF | with_reducible apply Wf.gbW)))) ?_
                rw [e27]
                refine lf (a_ist dX11_readMeal_151 (ca_340 (by repeat (first | with_reducible exact hw | with_reducible exact hwc | with_reducible assumption | with_reducible apply Wf.sI | with_reducible apply Wf.sL | with_reducible apply Wf.cpI | with_reducible apply Wf.cpL | with_reducible apply Wf.cp2 | with_reducible apply Wf.sIs | with_reducible apply Wf.sLs | with_reducible apply Wf.cpU | with_reducible apply Wf.fillI | with_reducible apply Wf.clU | with_reducible apply Wf.dnF | with_reducible apply Wf.gbW))) (ixn (show 13 + 5 * pM z.1 + 4 < 89 by omega) (by decide))) ?_
                have hwq := hz7.wf
                refine lf (a_aload_n dX11_readMeal_152 rfl) ?_
                refine lf (a_getR (cr_338_2 (by repeat (first | with_reducible exact hw | with_reducible exact hwc | with_reducible assumption | with_reducible apply Wf.sI | with_reducible apply Wf.sL | with_reducible apply Wf.cpI | with_reducible apply Wf.cpL | with_reducible apply Wf.cp2 | with_reducible apply Wf.sIs | with_reducible apply Wf.sLs | with_reducible apply Wf.cpU | with_reducible apply Wf.fillI | with_reducible apply Wf.clU | with_reducible apply Wf.dnF | with_reducible apply Wf.gbW))) dX11_readMeal_153 fs_X11_13 rfl (co_338 (by repeat (first | with_reducible exact hw | with_reducible exact hwc | with_reducible assumption | with_reducible apply Wf.sI | with_reducible apply Wf.sL | with_reducible apply Wf.cpI | with_reducible apply Wf.cpL | with_reducible apply Wf.cp2 | with_reducible apply Wf.sIs | with_reducible apply Wf.sLs | with_reducible apply Wf.cpU | with_reducible apply Wf.fillI | with_reducible apply Wf.clU | with_reducible apply Wf.dnF | with_reducible apply Wf.gbW)))) ?_
                refine lf (a_iconst (1 : Int32) dX11_readMeal_156 (by decide)) ?_
                refine lf (a_iload_n dX11_readMeal_157 rfl) ?_
                refine lf (a_iconst (1 : Int32) dX11_readMeal_158 (by decide)) ?_
                refine lf (a_iadd dX11_readMeal_159) ?_
                rw [nI_1]
                refine lf (a_ist dX11_readMeal_160 (ca_340 (by repeat (first | with_reducible exact hw | with_reducible exact hwc | with_reducible assumption | with_reducible apply Wf.sI | with_reducible apply Wf.sL | with_reducible apply Wf.cpI | with_reducible apply Wf.cpL | with_reducible apply Wf.cp2 | with_reducible apply Wf.sIs | with_reducible apply Wf.sLs | with_reducible apply Wf.cpU | with_reducible apply Wf.fillI | with_reducible apply Wf.clU | with_reducible apply Wf.dnF | with_reducible apply Wf.gbW))) (ixn (m := 1) (by omega) (by decide))) ?_
                refine lf (a_iconst (1 : Int32) dX11_readMeal_161 (by decide)) ?_
                refine ⟨_, _, (a_ireturn dX11_readMeal_162 rfl rfl), ?_⟩
                exact ⟨_, rfl, StM.ok (hF7.w (Or.inl rfl) _ _) (by rw [hsp]; unfold mbS; rw [bnd_r hr58, bnd_r hr67, bnd_r hr92]; unfold ofS; rw [hr125, if_pos rfl, bnd_r hr132]; rfl) (hz7.w (Or.inl rfl) (hz7.dr.meal (by omega) t07 t17 t27 t37 t47 en7))⟩
    | some i =>
      have hi := (cfS_lt hcf).1
      rw [show oI (some i) = nI i from rfl]
      refine lf (a_iconst (-1 : Int32) dX11_readMeal_31 (by decide)) ?_
      refine lf2 (a_icmp_eq (tgt := 41) dX11_readMeal_32 (by decide)) (fun h32 => absurd h32 (nI_ne1 (by omega))) (fun h32 => ?_)
      refine lf (a_aload_n dX11_readMeal_35 rfl) ?_
      refine lf (a_iconst (3 : Int32) dX11_readMeal_36 (by decide)) ?_
      refine lf (a_inv (b2 := (0, 0)) (m_fails hw15x 3) rfl dX11_readMeal_37 yk_X11_fails im_X11_fails se_X11_fails ml_X11_166 rfl (co_338 (by repeat (first | with_reducible exact hw | with_reducible exact hwc | with_reducible assumption | with_reducible apply Wf.sI | with_reducible apply Wf.sL | with_reducible apply Wf.cpI | with_reducible apply Wf.cpL | with_reducible apply Wf.cp2 | with_reducible apply Wf.sIs | with_reducible apply Wf.sLs | with_reducible apply Wf.cpU | with_reducible apply Wf.fillI | with_reducible apply Wf.clU | with_reducible apply Wf.dnF | with_reducible apply Wf.gbW))) (by decide) hc_X11 (by decide) (by decide) (Nat.le_of_ble_eq_true rfl)) ?_
      refine ⟨_, _, (a_ireturn dX11_readMeal_40 rfl rfl), ?_⟩
      exact ⟨_, rfl, StM.fail (c := 3) hF15 hH15.2.1 (by unfold stMeal; rw [if_neg h12, if_neg (fun y => y hnm), hcf])⟩
end MMEAL
