section MGUESTS
variable {μ W V : Wd} {B : Nat → Nat} {n p x : Nat} {z : PZ}
def sdZ (z : PZ) (c k : Nat) : PZ := (z.1, seatsD z.2.1 c k, z.2.2.1, z.2.2.2)
theorem HdV.o (h : HdV B n p μ) (a : Out s345 μ V) : HdV B n p V := by
  have e := fun k => a.i (i := 338) (by decide) k
  exact ⟨by rw [e]; exact h.1, by rw [e]; exact h.2.1, by rw [e]; exact h.2.2⟩
theorem fr_nat (hg : GzD z) {c : Nat} (hc : c < pC z.1) : ∃ f, f ≤ 40 ∧ frD z c = nI f := by
  obtain ⟨s2, h2, e, hp⟩ := hg.room c hc
  have h3 : frD z c = nI (s2 - paN z.2.1 (nI c)) := by
    unfold frD
    rw [paD_N, e]
    rw [nI_subI hp]
  exact ⟨_, by omega, h3⟩
abbrev R_X11_readGuests : Room := { frames := 6, cells := 0, slots := 0, locals := 126 }
abbrev RX_X11_readGuests : Room := { frames := 6, cells := 1, slots := 6, locals := 126 }

theorem rg_l {c g P : Nat} {r : (Nat × Nat) ⊕ (Nat × PZ)} (hP : dP z.2.1 + g ≤ 40) (hs : tkS B n P < n) (hr : r = sgZ B n (tkE B n P) (sdZ z c g)) : ∀ (dd m : Nat) (W : Wd), m + dd = g → PaF μ W → MgV B n P (sdZ z c m) W → HdV B n P W → gI W 338 22 = nI g → WP Y_X11_readGuests R_X11_readGuests (0, 0) W 62 [(0, .ref 338), (1, .int (nI c)), (2, .int (nI m))] [] (fun o V => ∃ v, o = .inl v ∧ StM B n μ r v V) := by
  intro dd
  induction dd with
  | zero =>
    intro m W hm hF hz hH e22
    obtain rfl : g = m := by omega
    have hw := hz.wf
    refine lf (a_iload_n dX11_readGuests_62 rfl) ?_
    refine lf (a_aload_n dX11_readGuests_63 rfl) ?_
    refine lf (a_getI dX11_readGuests_64 fs_X11_169 rfl (co_338 (by repeat (first | with_reducible exact hw | with_reducible exact hwc | with_reducible assumption | with_reducible apply Wf.sI | with_reducible apply Wf.sL | with_reducible apply Wf.cpI | with_reducible apply Wf.cpL | with_reducible apply Wf.cp2 | with_reducible apply Wf.sIs | with_reducible apply Wf.sLs | with_reducible apply Wf.cpU | with_reducible apply Wf.fillI | with_reducible apply Wf.clU | with_reducible apply Wf.dnF | with_reducible apply Wf.gbW)))) ?_
    rw [e22]
    refine lf2 (a_icmp_ge (tgt := 83) dX11_readGuests_67 (by decide)) (fun h67 => ?_) (fun h67 => absurd h67 (fun z => z (nI_le (Nat.le_refl _) (by omega))))
    refine lf (a_aload_n dX11_readGuests_83 rfl) ?_
    refine lf (a_inv (b2 := (0, 0)) (m_passes (by repeat (first | with_reducible exact hw | with_reducible exact hwc | with_reducible assumption | with_reducible apply Wf.sI | with_reducible apply Wf.sL | with_reducible apply Wf.cpI | with_reducible apply Wf.cpL | with_reducible apply Wf.cp2 | with_reducible apply Wf.sIs | with_reducible apply Wf.sLs | with_reducible apply Wf.cpU | with_reducible apply Wf.fillI | with_reducible apply Wf.clU | with_reducible apply Wf.dnF | with_reducible apply Wf.gbW))) rfl dX11_readGuests_84 yk_X11_passes im_X11_passes se_X11_passes ml_X11_162 rfl (co_338 (by repeat (first | with_reducible exact hw | with_reducible exact hwc | with_reducible assumption | with_reducible apply Wf.sI | with_reducible apply Wf.sL | with_reducible apply Wf.cpI | with_reducible apply Wf.cpL | with_reducible apply Wf.cp2 | with_reducible apply Wf.sIs | with_reducible apply Wf.sLs | with_reducible apply Wf.cpU | with_reducible apply Wf.fillI | with_reducible apply Wf.clU | with_reducible apply Wf.dnF | with_reducible apply Wf.gbW))) (by decide) hc_X11 (by decide) (by decide) (Nat.le_of_ble_eq_true rfl)) ?_
    refine ⟨_, _, (a_ireturn dX11_readGuests_87 rfl rfl), ?_⟩
    exact ⟨_, rfl, StM.ok (hF.s (by decide) _) hr (hz.pass (hH.e hs))⟩
  | succ dd ih =>
    intro m W hm hF hz hH e22
    have hw := hz.wf
    have hP2 : dP (sdZ z c m).2.1 < 40 := by
      show dP (seatsD z.2.1 c m) < 40
      rw [seatsD_P]; omega
    refine lf (a_iload_n dX11_readGuests_62 rfl) ?_
    refine lf (a_aload_n dX11_readGuests_63 rfl) ?_
    refine lf (a_getI dX11_readGuests_64 fs_X11_169 rfl (co_338 (by repeat (first | with_reducible exact hw | with_reducible exact hwc | with_reducible assumption | with_reducible apply Wf.sI | with_reducible apply Wf.sL | with_reducible apply Wf.cpI | with_reducible apply Wf.cpL | with_reducible apply Wf.cp2 | with_reducible apply Wf.sIs | with_reducible apply Wf.sLs | with_reducible apply Wf.cpU | with_reducible apply Wf.fillI | with_reducible apply Wf.clU | with_reducible apply Wf.dnF | with_reducible apply Wf.gbW)))) ?_
    rw [e22]
    refine lf2 (a_icmp_ge (tgt := 83) dX11_readGuests_67 (by decide)) (fun h67 => absurd h67 (nI_ge (by omega) (by omega))) (fun h67 => ?_)
    refine lf (a_aload_n dX11_readGuests_70 rfl) ?_
    refine lf (a_iload_n dX11_readGuests_71 rfl) ?_
    refine lf (a_iconst (0 : Int32) dX11_readGuests_72 (by decide)) ?_
    refine lf (a_iconst (-1 : Int32) dX11_readGuests_73 (by decide)) ?_
    obtain ⟨v_, W74, k74, rfl, hO, hD⟩ := (m_adds hw hz.dr hP2 (c := nI c) (nd := 0) (wi := -1))
    refine lf (a_inv (b2 := (0, 0)) k74 rfl dX11_readGuests_74 yk_X11_adds im_X11_adds se_X11_adds ml_X11_227 rfl (co_338 (by repeat (first | with_reducible exact hw | with_reducible exact hwc | with_reducible assumption | with_reducible apply Wf.sI | with_reducible apply Wf.sL | with_reducible apply Wf.cpI | with_reducible apply Wf.cpL | with_reducible apply Wf.cp2 | with_reducible apply Wf.sIs | with_reducible apply Wf.sLs | with_reducible apply Wf.cpU | with_reducible apply Wf.fillI | with_reducible apply Wf.clU | with_reducible apply Wf.dnF | with_reducible apply Wf.gbW))) (by decide) hc_X11 (by decide) (by decide) (Nat.le_of_ble_eq_true rfl)) ?_
    refine lf (a_iincN dX11_readGuests_77 rfl (by decide)) ?_
    refine lf (a_goto (tgt := 62) dX11_readGuests_80 (by decide)) ?_
    exact lf (a_loc _ rfl) (ih (m + 1) _ (by omega) (hF.trans hO.pa) (hz.ow hO hD) (hH.o hO) ((hO.i (by decide) 22).trans e22))
theorem m_readGuests (hz : MgV B n (tkE B n p) z μ) (hg : GzD z) : CV Y_X11_readGuests R_X11_readGuests [.ref 338] μ (StM B n μ (stGuests B n p z)) := by
  refine CV.ent yk_X11_readGuests (Nat.le_of_ble_eq_true rfl) ?_
  have hw := hz.wf
  have hF0 := PaF.rfl' hw
  have hP40 := hg.P4
  refine lf (a_aload_n dX11_readGuests_0 rfl) ?_
  obtain ⟨v_, W1, k1, hR1⟩ := (m_readCabinName hz hg)
  obtain ⟨hX1, hR1⟩ := hR1
  generalize hr1 : ncS B n (tkE B n p) z = r1 at hR1
  cases r1 with
  | inl a1 =>
    obtain ⟨rfl, hE1⟩ := hR1
    have hF1 := hF0.trans hX1.pa
    refine lf (a_inv (b2 := (0, 0)) k1 rfl dX11_readGuests_1 yk_X11_readCabinName im_X11_readCabinName se_X11_readCabinName ml_X11_210 rfl (co_338 (by repeat (first | with_reducible exact hw | with_reducible exact hwc | with_reducible assumption | with_reducible apply Wf.sI | with_reducible apply Wf.sL | with_reducible apply Wf.cpI | with_reducible apply Wf.cpL | with_reducible apply Wf.cp2 | with_reducible apply Wf.sIs | with_reducible apply Wf.sLs | with_reducible apply Wf.cpU | with_reducible apply Wf.fillI | with_reducible apply Wf.clU | with_reducible apply Wf.dnF | with_reducible apply Wf.gbW))) (by decide) hc_X11 (by decide) (by decide) (Nat.le_of_ble_eq_true rfl)) ?_
    refine lfn (a_if_ne (tgt := 9) dX11_readGuests_4 (by decide)) (fun h4 => absurd h4 (by decide)) (fun h4 => ?_)
    refine lf (a_iconst (0 : Int32) dX11_readGuests_7 (by decide)) ?_
    refine ⟨_, _, (a_ireturn dX11_readGuests_8 rfl rfl), ?_⟩
    exact ⟨_, rfl, StM.bad hF1 (by rw [stGuests, bnd_l hr1]) hE1⟩
  | inr a1 =>
    obtain ⟨rfl, hM1, e26⟩ := hR1
    have hw1 := hM1.wf
    have hF1 := hF0.trans hX1.pa
    have hc := ncS_lt hr1
    refine lf (a_inv (b2 := (0, 0)) k1 rfl dX11_readGuests_1 yk_X11_readCabinName im_X11_readCabinName se_X11_readCabinName ml_X11_210 rfl (co_338 (by repeat (first | with_reducible exact hw | with_reducible exact hwc | with_reducible assumption | with_reducible apply Wf.sI | with_reducible apply Wf.sL | with_reducible apply Wf.cpI | with_reducible apply Wf.cpL | with_reducible apply Wf.cp2 | with_reducible apply Wf.sIs | with_reducible apply Wf.sLs | with_reducible apply Wf.cpU | with_reducible apply Wf.fillI | with_reducible apply Wf.clU | with_reducible apply Wf.dnF | with_reducible apply Wf.gbW))) (by decide) hc_X11 (by decide) (by decide) (Nat.le_of_ble_eq_true rfl)) ?_
    refine lfn (a_if_ne (tgt := 9) dX11_readGuests_4 (by decide)) (fun h4 => ?_) (fun h4 => absurd h4 (by decide))
    refine lf (a_aload_n dX11_readGuests_9 rfl) ?_
    refine lf (a_getI dX11_readGuests_10 fs_X11_184 rfl (co_338 (by repeat (first | with_reducible exact hw | with_reducible exact hwc | with_reducible assumption | with_reducible apply Wf.sI | with_reducible apply Wf.sL | with_reducible apply Wf.cpI | with_reducible apply Wf.cpL | with_reducible apply Wf.cp2 | with_reducible apply Wf.sIs | with_reducible apply Wf.sLs | with_reducible apply Wf.cpU | with_reducible apply Wf.fillI | with_reducible apply Wf.clU | with_reducible apply Wf.dnF | with_reducible apply Wf.gbW)))) ?_
    rw [e26]
    refine lf (a_istore_n dX11_readGuests_13 (by decide)) ?_
    refine lf (a_aload_n dX11_readGuests_14 rfl) ?_
    refine lf (a_iconst (1 : Int32) dX11_readGuests_15 (by decide)) ?_
    refine lf (a_bipush (40 : Int32) dX11_readGuests_16 (by decide)) ?_
    obtain ⟨v_, W18, k18, hR18⟩ := (m_looksNumber hM1 (lo := 1) (hi := 40) (by decide) (by decide))
    obtain ⟨hX18, hR18⟩ := hR18
    generalize hr18 : nhS B n (tkE B n (tkE B n p)) 1 40 = r18 at hR18
    cases r18 with
    | inl a18 =>
      obtain ⟨rfl, hE18⟩ := hR18
      have hF18 := hF1.trans hX18.pa
      refine lf (a_inv (b2 := (0, 0)) k18 rfl dX11_readGuests_18 yk_X11_looksNumber im_X11_looksNumber se_X11_looksNumber ml_X11_172 rfl (co_338 (by repeat (first | with_reducible exact hw | with_reducible exact hwc | with_reducible assumption | with_reducible apply Wf.sI | with_reducible apply Wf.sL | with_reducible apply Wf.cpI | with_reducible apply Wf.cpL | with_reducible apply Wf.cp2 | with_reducible apply Wf.sIs | with_reducible apply Wf.sLs | with_reducible apply Wf.cpU | with_reducible apply Wf.fillI | with_reducible apply Wf.clU | with_reducible apply Wf.dnF | with_reducible apply Wf.gbW))) (by decide) hc_X11 (by decide) (by decide) (Nat.le_of_ble_eq_true rfl)) ?_
      refine lfn (a_if_ne (tgt := 26) dX11_readGuests_21 (by decide)) (fun h21 => absurd h21 (by decide)) (fun h21 => ?_)
      refine lf (a_iconst (0 : Int32) dX11_readGuests_24 (by decide)) ?_
      refine ⟨_, _, (a_ireturn dX11_readGuests_25 rfl rfl), ?_⟩
      exact ⟨_, rfl, StM.bad hF18 (by rw [stGuests, bnd_r hr1, bnd_l hr18]) hE18⟩
    | inr a18 =>
      obtain ⟨rfl, hM18, hH, hs, e22⟩ := hR18
      have hw18 := hM18.wf
      have hF18 := hF1.trans hX18.pa
      have e3 := hM18.dr.2.1.1.2.2.2.1
      have hlt := nhS_lt hr18
      refine lf (a_inv (b2 := (0, 0)) k18 rfl dX11_readGuests_18 yk_X11_looksNumber im_X11_looksNumber se_X11_looksNumber ml_X11_172 rfl (co_338 (by repeat (first | with_reducible exact hw | with_reducible exact hwc | with_reducible assumption | with_reducible apply Wf.sI | with_reducible apply Wf.sL | with_reducible apply Wf.cpI | with_reducible apply Wf.cpL | with_reducible apply Wf.cp2 | with_reducible apply Wf.sIs | with_reducible apply Wf.sLs | with_reducible apply Wf.cpU | with_reducible apply Wf.fillI | with_reducible apply Wf.clU | with_reducible apply Wf.dnF | with_reducible apply Wf.gbW))) (by decide) hc_X11 (by decide) (by decide) (Nat.le_of_ble_eq_true rfl)) ?_
      refine lfn (a_if_ne (tgt := 26) dX11_readGuests_21 (by decide)) (fun h21 => ?_) (fun h21 => absurd h21 (by decide))
      refine lf (a_aload_n dX11_readGuests_26 rfl) ?_
      refine lf (a_getI dX11_readGuests_27 fs_X11_169 rfl (co_338 (by repeat (first | with_reducible exact hw | with_reducible exact hwc | with_reducible assumption | with_reducible apply Wf.sI | with_reducible apply Wf.sL | with_reducible apply Wf.cpI | with_reducible apply Wf.cpL | with_reducible apply Wf.cp2 | with_reducible apply Wf.sIs | with_reducible apply Wf.sLs | with_reducible apply Wf.cpU | with_reducible apply Wf.fillI | with_reducible apply Wf.clU | with_reducible apply Wf.dnF | with_reducible apply Wf.gbW)))) ?_
      rw [e22]
      refine lf (a_aload_n dX11_readGuests_30 rfl) ?_
      refine lf (a_iload_n dX11_readGuests_31 rfl) ?_
      refine lf (a_inv (b2 := (0, 0)) (m_draftFree hw18 hM18.dr hg hc) rfl dX11_readGuests_32 yk_X11_draftFree im_X11_draftFree se_X11_draftFree ml_X11_224 rfl (co_338 (by repeat (first | with_reducible exact hw | with_reducible exact hwc | with_reducible assumption | with_reducible apply Wf.sI | with_reducible apply Wf.sL | with_reducible apply Wf.cpI | with_reducible apply Wf.cpL | with_reducible apply Wf.cp2 | with_reducible apply Wf.sIs | with_reducible apply Wf.sLs | with_reducible apply Wf.cpU | with_reducible apply Wf.fillI | with_reducible apply Wf.clU | with_reducible apply Wf.dnF | with_reducible apply Wf.gbW))) (by decide) hc_X11 (by decide) (by decide) (Nat.le_of_ble_eq_true rfl)) ?_
      refine lf2 (a_icmp_gt (tgt := 54) dX11_readGuests_35 (by decide)) (fun h35 => ?_) (fun h35 => ?_)
      · refine lf (a_aload_n dX11_readGuests_54 rfl) ?_
        refine lf (a_iconst (5 : Int32) dX11_readGuests_55 (by decide)) ?_
        refine lf (a_inv (b2 := (0, 0)) (m_fails hw18 5) rfl dX11_readGuests_56 yk_X11_fails im_X11_fails se_X11_fails ml_X11_166 rfl (co_338 (by repeat (first | with_reducible exact hw | with_reducible exact hwc | with_reducible assumption | with_reducible apply Wf.sI | with_reducible apply Wf.sL | with_reducible apply Wf.cpI | with_reducible apply Wf.cpL | with_reducible apply Wf.cp2 | with_reducible apply Wf.sIs | with_reducible apply Wf.sLs | with_reducible apply Wf.cpU | with_reducible apply Wf.fillI | with_reducible apply Wf.clU | with_reducible apply Wf.dnF | with_reducible apply Wf.gbW))) (by decide) hc_X11 (by decide) (by decide) (Nat.le_of_ble_eq_true rfl)) ?_
        refine ⟨_, _, (a_ireturn dX11_readGuests_59 rfl rfl), ?_⟩
        exact ⟨_, rfl, StM.fail (c := 5) hF18 hH.2.1 (by rw [stGuests, bnd_r hr1, bnd_r hr18]; first | rw [if_pos h35] | rw [if_neg h35, if_pos (show 40 < dP z.2.1 + a18 by omega)])⟩
      · refine lf (a_aload_n dX11_readGuests_38 rfl) ?_
        refine lf (a_getI dX11_readGuests_39 fs_X11_169 rfl (co_338 (by repeat (first | with_reducible exact hw | with_reducible exact hwc | with_reducible assumption | with_reducible apply Wf.sI | with_reducible apply Wf.sL | with_reducible apply Wf.cpI | with_reducible apply Wf.cpL | with_reducible apply Wf.cp2 | with_reducible apply Wf.sIs | with_reducible apply Wf.sLs | with_reducible apply Wf.cpU | with_reducible apply Wf.fillI | with_reducible apply Wf.clU | with_reducible apply Wf.dnF | with_reducible apply Wf.gbW)))) ?_
        rw [e22]
        refine lf (a_bipush (40 : Int32) dX11_readGuests_42 (by decide)) ?_
        refine lf (a_aload_n dX11_readGuests_44 rfl) ?_
        refine lf (a_getR (cr_338_7 (by repeat (first | with_reducible exact hw | with_reducible exact hwc | with_reducible assumption | with_reducible apply Wf.sI | with_reducible apply Wf.sL | with_reducible apply Wf.cpI | with_reducible apply Wf.cpL | with_reducible apply Wf.cp2 | with_reducible apply Wf.sIs | with_reducible apply Wf.sLs | with_reducible apply Wf.cpU | with_reducible apply Wf.fillI | with_reducible apply Wf.clU | with_reducible apply Wf.dnF | with_reducible apply Wf.gbW))) dX11_readGuests_45 fs_X11_29 rfl (co_338 (by repeat (first | with_reducible exact hw | with_reducible exact hwc | with_reducible assumption | with_reducible apply Wf.sI | with_reducible apply Wf.sL | with_reducible apply Wf.cpI | with_reducible apply Wf.cpL | with_reducible apply Wf.cp2 | with_reducible apply Wf.sIs | with_reducible apply Wf.sLs | with_reducible apply Wf.cpU | with_reducible apply Wf.fillI | with_reducible apply Wf.clU | with_reducible apply Wf.dnF | with_reducible apply Wf.gbW)))) ?_
        refine lf (a_iconst (3 : Int32) dX11_readGuests_48 (by decide)) ?_
        refine lf (a_ild dX11_readGuests_49 (ca_345 (by repeat (first | with_reducible exact hw | with_reducible exact hwc | with_reducible assumption | with_reducible apply Wf.sI | with_reducible apply Wf.sL | with_reducible apply Wf.cpI | with_reducible apply Wf.cpL | with_reducible apply Wf.cp2 | with_reducible apply Wf.sIs | with_reducible apply Wf.sLs | with_reducible apply Wf.cpU | with_reducible apply Wf.fillI | with_reducible apply Wf.clU | with_reducible apply Wf.dnF | with_reducible apply Wf.gbW))) (ixn (m := 3) (by omega) (by decide))) ?_
        rw [e3]
        refine lf (a_isub dX11_readGuests_50) ?_
        rw [show (40 : Int32) - nI (dP z.2.1) = nI (40 - dP z.2.1) from nI_subI hP40]
        refine lf2 (a_icmp_le (tgt := 60) dX11_readGuests_51 (by decide)) (fun h51 => ?_) (fun h51 => ?_)
        · have h51 := (nI_leI (by omega) (by omega)).mp h51
          refine lf (a_iconst (0 : Int32) dX11_readGuests_60 (by decide)) ?_
          refine lf (a_istore_n dX11_readGuests_61 (by decide)) ?_
          exact lf (a_loc [(0, .ref 338), (1, .int (nI a1)), (2, .int (nI 0))] rfl) (rg_l (c := a1) (g := a18) (P := tkE B n (tkE B n p)) (by omega) hs (by rw [stGuests, bnd_r hr1, bnd_r hr18, if_neg h35, if_neg (show ¬ 40 < dP z.2.1 + a18 by omega)]; rfl) a18 0 _ (by omega) hF18 hM18 hH e22)
        · have h51 : ¬ _ := fun z => h51 ((nI_leI (by omega) (by omega)).mpr z)
          refine lf (a_aload_n dX11_readGuests_54 rfl) ?_
          refine lf (a_iconst (5 : Int32) dX11_readGuests_55 (by decide)) ?_
          refine lf (a_inv (b2 := (0, 0)) (m_fails hw18 5) rfl dX11_readGuests_56 yk_X11_fails im_X11_fails se_X11_fails ml_X11_166 rfl (co_338 (by repeat (first | with_reducible exact hw | with_reducible exact hwc | with_reducible assumption | with_reducible apply Wf.sI | with_reducible apply Wf.sL | with_reducible apply Wf.cpI | with_reducible apply Wf.cpL | with_reducible apply Wf.cp2 | with_reducible apply Wf.sIs | with_reducible apply Wf.sLs | with_reducible apply Wf.cpU | with_reducible apply Wf.fillI | with_reducible apply Wf.clU | with_reducible apply Wf.dnF | with_reducible apply Wf.gbW))) (by decide) hc_X11 (by decide) (by decide) (Nat.le_of_ble_eq_true rfl)) ?_
          refine ⟨_, _, (a_ireturn dX11_readGuests_59 rfl rfl), ?_⟩
          exact ⟨_, rfl, StM.fail (c := 5) hF18 hH.2.1 (by rw [stGuests, bnd_r hr1, bnd_r hr18]; first | rw [if_pos h35] | rw [if_neg h35, if_pos (show 40 < dP z.2.1 + a18 by omega)])⟩
abbrev R_X11_readGuest : Room := { frames := 5, cells := 0, slots := 0, locals := 108 }
abbrev RX_X11_readGuest : Room := { frames := 5, cells := 1, slots := 6, locals := 108 }

theorem kwv_15 : (14849171 : Int64) = lN (wvN (kby 15)) := by decide +kernel
theorem kwl_15 : LtL (kby 15) := by
  unfold LtL
  decide +kernel
theorem m_pw_15 (hz : MgV B n p z μ) : CV Y_X11_passesWord R_X11_passesWord [.ref 338, .long 14849171] μ (PwQ B n p z μ (wdI B n p 15)) := by
  rw [kwv_15]
  exact m_passesWord hz kwl_15 (by decide +kernel) (by decide +kernel)
theorem kwv_16 : (763496 : Int64) = lN (wvN (kby 16)) := by decide +kernel
theorem kwl_16 : LtL (kby 16) := by
  unfold LtL
  decide +kernel
theorem m_pw_16 (hz : MgV B n p z μ) : CV Y_X11_passesWord R_X11_passesWord [.ref 338, .long 763496] μ (PwQ B n p z μ (wdI B n p 16)) := by
  rw [kwv_16]
  exact m_passesWord hz kwl_16 (by decide +kernel) (by decide +kernel)
theorem kwv_9 : (20943316012 : Int64) = lN (wvN (kby 9)) := by decide +kernel
theorem kwl_9 : LtL (kby 9) := by
  unfold LtL
  decide +kernel
theorem m_pw_9 (hz : MgV B n p z μ) : CV Y_X11_passesWord R_X11_passesWord [.ref 338, .long 20943316012] μ (PwQ B n p z μ (wdI B n p 9)) := by
  rw [kwv_9]
  exact m_passesWord hz kwl_9 (by decide +kernel) (by decide +kernel)
theorem kwv_10 : (431573 : Int64) = lN (wvN (kby 10)) := by decide +kernel
theorem kwl_10 : LtL (kby 10) := by
  unfold LtL
  decide +kernel
theorem m_pw_10 (hz : MgV B n p z μ) : CV Y_X11_passesWord R_X11_passesWord [.ref 338, .long 431573] μ (PwQ B n p z μ (wdI B n p 10)) := by
  rw [kwv_10]
  exact m_passesWord hz kwl_10 (by decide +kernel) (by decide +kernel)
theorem kwv_11 : (509810259 : Int64) = lN (wvN (kby 11)) := by decide +kernel
theorem kwl_11 : LtL (kby 11) := by
  unfold LtL
  decide +kernel
theorem m_pw_11 (hz : MgV B n p z μ) : CV Y_X11_passesWord R_X11_passesWord [.ref 338, .long 509810259] μ (PwQ B n p z μ (wdI B n p 11)) := by
  rw [kwv_11]
  exact m_passesWord hz kwl_11 (by decide +kernel) (by decide +kernel)
theorem m_gs61 {c q : Nat} {nd : Int32} (hw0 : PaF μ W) (hz : MgV B n q z W) (hg : GzD z) (hc : c < pC z.1) (h40 : ¬ 40 ≤ dP z.2.1) : WP Y_X11_readGuest R_X11_readGuest (0, 0) W 61 [(0, .ref 338), (1, .int (nI c)), (2, .int nd), (3, .int (-1))] [] (fun o V => ∃ v, o = .inl v ∧ StM B n μ (gdB B n q z c nd) v V) := by
  have hw := hz.wf
  have hM12 := hg.q.M4
  have hl := hl_let (p := tkE B n q) (fun k hk => hz.tx.b256 hk)
  refine lf (a_aload_n dX11_readGuest_61 rfl) ?_
  refine lf (a_ldc2 (v := 763496) dX11_readGuest_62 (lwa_in 1844 (by decide +kernel) rfl)) ?_
  obtain ⟨v_, W65, k65, hR65⟩ := (m_pw_16 hz)
  obtain ⟨hX65, hR65⟩ := hR65
  generalize hr65 : wdI B n q 16 = r65 at hR65
  cases r65 with
  | false =>
    obtain ⟨rfl, hM65, hH65⟩ := hR65
    have hw65x := hM65.wf
    have hF65 := hw0.trans hX65.pa
    refine lf (a_inv (b2 := (0, 0)) k65 rfl dX11_readGuest_65 yk_X11_passesWord im_X11_passesWord se_X11_passesWord ml_X11_204 rfl (co_338 (by repeat (first | with_reducible exact hw | with_reducible exact hwc | with_reducible assumption | with_reducible apply Wf.sI | with_reducible apply Wf.sL | with_reducible apply Wf.cpI | with_reducible apply Wf.cpL | with_reducible apply Wf.cp2 | with_reducible apply Wf.sIs | with_reducible apply Wf.sLs | with_reducible apply Wf.cpU | with_reducible apply Wf.fillI | with_reducible apply Wf.clU | with_reducible apply Wf.dnF | with_reducible apply Wf.gbW))) (by decide) hc_X11 (by decide) (by decide) (Nat.le_of_ble_eq_true rfl)) ?_
    refine lf2 (a_if_eq (tgt := 129) dX11_readGuest_68 (by decide)) (fun h68 => ?_) (fun h68 => absurd h68 (by decide))
    have hwx := hM65.wf
    refine lf (a_aload_n dX11_readGuest_129 rfl) ?_
    refine lf (a_iload_n dX11_readGuest_130 rfl) ?_
    refine lf (a_iload_n dX11_readGuest_131 rfl) ?_
    refine lf (a_iload_n dX11_readGuest_132 rfl) ?_
    obtain ⟨v_, W133, k133, rfl, hO, hD⟩ := (m_adds hM65.wf hM65.dr (by omega) (c := nI c) (nd := nd) (wi := -1))
    have hwZ := hM65.wf
    refine lf (a_inv (b2 := (0, 0)) k133 rfl dX11_readGuest_133 yk_X11_adds im_X11_adds se_X11_adds ml_X11_227 rfl (co_338 (by repeat (first | with_reducible exact hw | with_reducible exact hwc | with_reducible assumption | with_reducible apply Wf.sI | with_reducible apply Wf.sL | with_reducible apply Wf.cpI | with_reducible apply Wf.cpL | with_reducible apply Wf.cp2 | with_reducible apply Wf.sIs | with_reducible apply Wf.sLs | with_reducible apply Wf.cpU | with_reducible apply Wf.fillI | with_reducible apply Wf.clU | with_reducible apply Wf.dnF | with_reducible apply Wf.gbW))) (by decide) hc_X11 (by decide) (by decide) (Nat.le_of_ble_eq_true rfl)) ?_
    refine lf (a_iconst (1 : Int32) dX11_readGuest_136 (by decide)) ?_
    refine ⟨_, _, (a_ireturn dX11_readGuest_137 rfl rfl), ?_⟩
    exact ⟨_, rfl, StM.ok (hF65.trans hO.pa) (by unfold gdB gdW; rw [hr65, if_neg (by decide)]; rfl) (hM65.ow hO hD)⟩
  | true =>
    obtain ⟨rfl, hM65⟩ := hR65
    have hw65x := hM65.wf
    have hF65 := hw0.trans hX65.pa
    have hwd := hr65
    refine lf (a_inv (b2 := (0, 0)) k65 rfl dX11_readGuest_65 yk_X11_passesWord im_X11_passesWord se_X11_passesWord ml_X11_204 rfl (co_338 (by repeat (first | with_reducible exact hw | with_reducible exact hwc | with_reducible assumption | with_reducible apply Wf.sI | with_reducible apply Wf.sL | with_reducible apply Wf.cpI | with_reducible apply Wf.cpL | with_reducible apply Wf.cp2 | with_reducible apply Wf.sIs | with_reducible apply Wf.sLs | with_reducible apply Wf.cpU | with_reducible apply Wf.fillI | with_reducible apply Wf.clU | with_reducible apply Wf.dnF | with_reducible apply Wf.gbW))) (by decide) hc_X11 (by decide) (by decide) (Nat.le_of_ble_eq_true rfl)) ?_
    refine lf2 (a_if_eq (tgt := 129) dX11_readGuest_68 (by decide)) (fun h68 => absurd h68 (by decide)) (fun h68 => ?_)
    refine lf (a_aload_n dX11_readGuest_71 rfl) ?_
    obtain ⟨v_, W72, k72, rfl, hF72, hH1⟩ := (m_peek hM65.wf hM65.tx)
    have hz1 := hM65.hd hF72 hH1
    have hw1 := hz1.wf
    have hFp := hF65.trans hF72.fk.pa
    refine lf (a_inv (b2 := (0, 0)) k72 rfl dX11_readGuest_72 yk_X11_peek im_X11_peek se_X11_peek ml_X11_148 rfl (co_338 (by repeat (first | with_reducible exact hw | with_reducible exact hwc | with_reducible assumption | with_reducible apply Wf.sI | with_reducible apply Wf.sL | with_reducible apply Wf.cpI | with_reducible apply Wf.cpL | with_reducible apply Wf.cp2 | with_reducible apply Wf.sIs | with_reducible apply Wf.sLs | with_reducible apply Wf.cpU | with_reducible apply Wf.fillI | with_reducible apply Wf.clU | with_reducible apply Wf.dnF | with_reducible apply Wf.gbW))) (by decide) hc_X11 (by decide) (by decide) (Nat.le_of_ble_eq_true rfl)) ?_
    by_cases hk1 : tkK B n (tkE B n q) = 1
    · rw [if_pos hk1] at hl
      refine lf (a_invS (b2 := (0, 0)) (Ct.int hl (m_isLetter _)) rfl dX11_readGuest_75 yk_X11_isLetter sm_X11_isLetter ml_X11_142 rfl (by decide) (by decide) (Nat.le_of_ble_eq_true rfl)) ?_
      refine lfn (a_if_ne (tgt := 87) dX11_readGuest_78 (by decide)) (fun h78 => ?_) (fun h78 => absurd h78 (by decide))
      refine lf (a_aload_n dX11_readGuest_87 rfl) ?_
      refine lf (a_aload_n dX11_readGuest_88 rfl) ?_
      obtain ⟨v_, W89, k89, rfl, hF2, hH2⟩ := (m_nextWord hz1.wf hz1.tx)
      have hz2 := hz1.hd hF2 hH2
      have hw2 := hz2.wf
      have hFF := hFp.trans hF2.fk.pa
      have hs := (tkK1.mp hk1).1
      refine lf (a_inv (b2 := (0, 0)) k89 rfl dX11_readGuest_89 yk_X11_nextWord im_X11_nextWord se_X11_nextWord ml_X11_158 rfl (co_338 (by repeat (first | with_reducible exact hw | with_reducible exact hwc | with_reducible assumption | with_reducible apply Wf.sI | with_reducible apply Wf.sL | with_reducible apply Wf.cpI | with_reducible apply Wf.cpL | with_reducible apply Wf.cp2 | with_reducible apply Wf.sIs | with_reducible apply Wf.sLs | with_reducible apply Wf.cpU | with_reducible apply Wf.fillI | with_reducible apply Wf.clU | with_reducible apply Wf.dnF | with_reducible apply Wf.gbW))) (by decide) hc_X11 (by decide) (by decide) (Nat.le_of_ble_eq_true rfl)) ?_
      refine lf (a_inv (b2 := (0, 0)) (m_mealNamed hz2 hg) rfl dX11_readGuest_92 yk_X11_mealNamed im_X11_mealNamed se_X11_mealNamed ml_X11_213 rfl (co_338 (by repeat (first | with_reducible exact hw | with_reducible exact hwc | with_reducible assumption | with_reducible apply Wf.sI | with_reducible apply Wf.sL | with_reducible apply Wf.cpI | with_reducible apply Wf.cpL | with_reducible apply Wf.cp2 | with_reducible apply Wf.sIs | with_reducible apply Wf.sLs | with_reducible apply Wf.cpU | with_reducible apply Wf.fillI | with_reducible apply Wf.clU | with_reducible apply Wf.dnF | with_reducible apply Wf.gbW))) (by decide) hc_X11 (by decide) (by decide) (Nat.le_of_ble_eq_true rfl)) ?_
      cases hcf : cfS B n (tkE B n q) (pM z.1) z.2.2.2 with
      | none =>
        refine lf (a_istore_n dX11_readGuest_95 (by decide)) ?_
        refine lf (a_iload_n dX11_readGuest_96 rfl) ?_
        refine lf (a_iconst (-1 : Int32) dX11_readGuest_97 (by decide)) ?_
        refine lf2 (a_icmp_eq (tgt := 118) dX11_readGuest_98 (by decide)) (fun h98 => ?_) (fun h98 => absurd h98 (fun z => z rfl))
        refine lf (a_aload_n dX11_readGuest_118 rfl) ?_
        refine lf (a_iconst (3 : Int32) dX11_readGuest_119 (by decide)) ?_
        refine lf (a_inv (b2 := (0, 0)) (m_fails hw2 3) rfl dX11_readGuest_120 yk_X11_fails im_X11_fails se_X11_fails ml_X11_166 rfl (co_338 (by repeat (first | with_reducible exact hw | with_reducible exact hwc | with_reducible assumption | with_reducible apply Wf.sI | with_reducible apply Wf.sL | with_reducible apply Wf.cpI | with_reducible apply Wf.cpL | with_reducible apply Wf.cp2 | with_reducible apply Wf.sIs | with_reducible apply Wf.sLs | with_reducible apply Wf.cpU | with_reducible apply Wf.fillI | with_reducible apply Wf.clU | with_reducible apply Wf.dnF | with_reducible apply Wf.gbW))) (by decide) hc_X11 (by decide) (by decide) (Nat.le_of_ble_eq_true rfl)) ?_
        refine ⟨_, _, (a_ireturn dX11_readGuest_123 rfl rfl), ?_⟩
        exact ⟨_, rfl, StM.fail (c := 3) hFF hH2.2.1 (by unfold gdB gdW; rw [hr65, if_pos rfl]; unfold nwS nmE; rw [hcf, if_pos hk1]; rfl)⟩
      | some i =>
        have hi := (cfS_lt hcf).1
        have emc := (hz2.dr.1.2.2.1 i hi).1
        refine lf (a_istore_n dX11_readGuest_95 (by decide)) ?_
        rw [show oI (some i) = nI i from rfl]
        refine lf (a_iload_n dX11_readGuest_96 rfl) ?_
        refine lf (a_iconst (-1 : Int32) dX11_readGuest_97 (by decide)) ?_
        refine lf2 (a_icmp_eq (tgt := 118) dX11_readGuest_98 (by decide)) (fun h98 => absurd h98 (nI_ne1 (by omega))) (fun h98 => ?_)
        refine lf (a_aload_n dX11_readGuest_101 rfl) ?_
        refine lf (a_getR (cr_338_2 (by repeat (first | with_reducible exact hw | with_reducible exact hwc | with_reducible assumption | with_reducible apply Wf.sI | with_reducible apply Wf.sL | with_reducible apply Wf.cpI | with_reducible apply Wf.cpL | with_reducible apply Wf.cp2 | with_reducible apply Wf.sIs | with_reducible apply Wf.sLs | with_reducible apply Wf.cpU | with_reducible apply Wf.fillI | with_reducible apply Wf.clU | with_reducible apply Wf.dnF | with_reducible apply Wf.gbW))) dX11_readGuest_102 fs_X11_13 rfl (co_338 (by repeat (first | with_reducible exact hw | with_reducible exact hwc | with_reducible assumption | with_reducible apply Wf.sI | with_reducible apply Wf.sL | with_reducible apply Wf.cpI | with_reducible apply Wf.cpL | with_reducible apply Wf.cp2 | with_reducible apply Wf.sIs | with_reducible apply Wf.sLs | with_reducible apply Wf.cpU | with_reducible apply Wf.fillI | with_reducible apply Wf.clU | with_reducible apply Wf.dnF | with_reducible apply Wf.gbW)))) ?_
        refine lf (a_bipush (13 : Int32) dX11_readGuest_105 (by decide)) ?_
        refine lf (a_iconst (5 : Int32) dX11_readGuest_107 (by decide)) ?_
        refine lf (a_iload_n dX11_readGuest_108 rfl) ?_
        refine lf (a_imul dX11_readGuest_109) ?_
        refine lf (a_iadd dX11_readGuest_110) ?_
        refine lf (a_iconst (0 : Int32) dX11_readGuest_111 (by decide)) ?_
        refine lf (a_iadd dX11_readGuest_112) ?_
        rw [show (13 : Int32) + 5 * nI i + 0 = nI (13 + 5 * i + 0) from ixm i 0]
        refine lf (a_ild dX11_readGuest_113 (ca_340 (by repeat (first | with_reducible exact hw | with_reducible exact hwc | with_reducible assumption | with_reducible apply Wf.sI | with_reducible apply Wf.sL | with_reducible apply Wf.cpI | with_reducible apply Wf.cpL | with_reducible apply Wf.cp2 | with_reducible apply Wf.sIs | with_reducible apply Wf.sLs | with_reducible apply Wf.cpU | with_reducible apply Wf.fillI | with_reducible apply Wf.clU | with_reducible apply Wf.dnF | with_reducible apply Wf.gbW))) (ixn (show 13 + 5 * i + 0 < 89 by omega) (by decide))) ?_
        rw [emc]
        refine lf (a_iload_n dX11_readGuest_114 rfl) ?_
        refine lf2 (a_icmp_eq (tgt := 124) dX11_readGuest_115 (by decide)) (fun h115 => ?_) (fun h115 => ?_)
        · refine lf (a_aload_n dX11_readGuest_124 rfl) ?_
          refine lf (a_inv (b2 := (0, 0)) (m_passes hw2) rfl dX11_readGuest_125 yk_X11_passes im_X11_passes se_X11_passes ml_X11_162 rfl (co_338 (by repeat (first | with_reducible exact hw | with_reducible exact hwc | with_reducible assumption | with_reducible apply Wf.sI | with_reducible apply Wf.sL | with_reducible apply Wf.cpI | with_reducible apply Wf.cpL | with_reducible apply Wf.cp2 | with_reducible apply Wf.sIs | with_reducible apply Wf.sLs | with_reducible apply Wf.cpU | with_reducible apply Wf.fillI | with_reducible apply Wf.clU | with_reducible apply Wf.dnF | with_reducible apply Wf.gbW))) (by decide) hc_X11 (by decide) (by decide) (Nat.le_of_ble_eq_true rfl)) ?_
          refine lf (a_pop dX11_readGuest_128 rfl) ?_
          have hzP := hz2.pass (hH2.e hs)
          have hwP := hzP.wf
          have hFP := hFF.s (k := 18) (by decide) (gI W89 338 21)
          refine lf (a_aload_n dX11_readGuest_129 rfl) ?_
          refine lf (a_iload_n dX11_readGuest_130 rfl) ?_
          refine lf (a_iload_n dX11_readGuest_131 rfl) ?_
          refine lf (a_iload_n dX11_readGuest_132 rfl) ?_
          obtain ⟨v_, W133, k133, rfl, hO, hD⟩ := (m_adds hzP.wf hzP.dr (by omega) (c := nI c) (nd := nd) (wi := nI i))
          have hwZ := hzP.wf
          refine lf (a_inv (b2 := (0, 0)) k133 rfl dX11_readGuest_133 yk_X11_adds im_X11_adds se_X11_adds ml_X11_227 rfl (co_338 (by repeat (first | with_reducible exact hw | with_reducible exact hwc | with_reducible assumption | with_reducible apply Wf.sI | with_reducible apply Wf.sL | with_reducible apply Wf.cpI | with_reducible apply Wf.cpL | with_reducible apply Wf.cp2 | with_reducible apply Wf.sIs | with_reducible apply Wf.sLs | with_reducible apply Wf.cpU | with_reducible apply Wf.fillI | with_reducible apply Wf.clU | with_reducible apply Wf.dnF | with_reducible apply Wf.gbW))) (by decide) hc_X11 (by decide) (by decide) (Nat.le_of_ble_eq_true rfl)) ?_
          refine lf (a_iconst (1 : Int32) dX11_readGuest_136 (by decide)) ?_
          refine ⟨_, _, (a_ireturn dX11_readGuest_137 rfl rfl), ?_⟩
          exact ⟨_, rfl, StM.ok (hFP.trans hO.pa) (by unfold gdB gdW; rw [hr65, if_pos rfl]; unfold nwS; rw [hcf]; dsimp only; rw [if_pos h115]; rfl) (hzP.ow hO hD)⟩
        · refine lf (a_aload_n dX11_readGuest_118 rfl) ?_
          refine lf (a_iconst (3 : Int32) dX11_readGuest_119 (by decide)) ?_
          refine lf (a_inv (b2 := (0, 0)) (m_fails hw2 3) rfl dX11_readGuest_120 yk_X11_fails im_X11_fails se_X11_fails ml_X11_166 rfl (co_338 (by repeat (first | with_reducible exact hw | with_reducible exact hwc | with_reducible assumption | with_reducible apply Wf.sI | with_reducible apply Wf.sL | with_reducible apply Wf.cpI | with_reducible apply Wf.cpL | with_reducible apply Wf.cp2 | with_reducible apply Wf.sIs | with_reducible apply Wf.sLs | with_reducible apply Wf.cpU | with_reducible apply Wf.fillI | with_reducible apply Wf.clU | with_reducible apply Wf.dnF | with_reducible apply Wf.gbW))) (by decide) hc_X11 (by decide) (by decide) (Nat.le_of_ble_eq_true rfl)) ?_
          refine ⟨_, _, (a_ireturn dX11_readGuest_123 rfl rfl), ?_⟩
          exact ⟨_, rfl, StM.fail (c := 3) hFF hH2.2.1 (by unfold gdB gdW; rw [hr65, if_pos rfl]; unfold nwS nmE; rw [hcf]; dsimp only; rw [if_neg h115, if_pos hk1]; rfl)⟩
    · rw [if_neg hk1] at hl
      refine lf (a_invS (b2 := (0, 0)) (Ct.int hl (m_isLetter _)) rfl dX11_readGuest_75 yk_X11_isLetter sm_X11_isLetter ml_X11_142 rfl (by decide) (by decide) (Nat.le_of_ble_eq_true rfl)) ?_
      refine lfn (a_if_ne (tgt := 87) dX11_readGuest_78 (by decide)) (fun h78 => absurd h78 (by decide)) (fun h78 => ?_)
      refine lf (a_aload_n dX11_readGuest_81 rfl) ?_
      refine lf (a_iconst (1 : Int32) dX11_readGuest_82 (by decide)) ?_
      refine lf (a_inv (b2 := (0, 0)) (m_fails hz1.wf 1) rfl dX11_readGuest_83 yk_X11_fails im_X11_fails se_X11_fails ml_X11_166 rfl (co_338 (by repeat (first | with_reducible exact hw | with_reducible exact hwc | with_reducible assumption | with_reducible apply Wf.sI | with_reducible apply Wf.sL | with_reducible apply Wf.cpI | with_reducible apply Wf.cpL | with_reducible apply Wf.cp2 | with_reducible apply Wf.sIs | with_reducible apply Wf.sLs | with_reducible apply Wf.cpU | with_reducible apply Wf.fillI | with_reducible apply Wf.clU | with_reducible apply Wf.dnF | with_reducible apply Wf.gbW))) (by decide) hc_X11 (by decide) (by decide) (Nat.le_of_ble_eq_true rfl)) ?_
      refine ⟨_, _, (a_ireturn dX11_readGuest_86 rfl rfl), ?_⟩
      exact ⟨_, rfl, StM.fail (c := 1) hFp hH1.2.1 (by unfold gdB gdW; rw [hr65, if_pos rfl]; unfold nwS nmE; rw [cfS_k1 hk1, if_neg hk1]; rfl)⟩
theorem m_readGuest (hz : MgV B n (tkE B n p) z μ) (hg : GzD z) (h40 : ¬ 40 ≤ dP z.2.1) : CV Y_X11_readGuest R_X11_readGuest [.ref 338] μ (StM B n μ (stGuest B n p z)) := by
  refine CV.ent yk_X11_readGuest (Nat.le_of_ble_eq_true rfl) ?_
  have hw := hz.wf
  have hF0 := PaF.rfl' hw
  refine lf (a_aload_n dX11_readGuest_0 rfl) ?_
  obtain ⟨v_, W1, k1, hR1⟩ := (m_looksCabin hz hg)
  obtain ⟨hX1, hR1⟩ := hR1
  generalize hr1 : ncS B n (tkE B n p) z = r1 at hR1
  cases r1 with
  | inl a1 =>
    obtain ⟨rfl, hE1⟩ := hR1
    have hF1 := hF0.trans hX1.pa
    refine lf (a_inv (b2 := (0, 0)) k1 rfl dX11_readGuest_1 yk_X11_looksCabin im_X11_looksCabin se_X11_looksCabin ml_X11_187 rfl (co_338 (by repeat (first | with_reducible exact hw | with_reducible exact hwc | with_reducible assumption | with_reducible apply Wf.sI | with_reducible apply Wf.sL | with_reducible apply Wf.cpI | with_reducible apply Wf.cpL | with_reducible apply Wf.cp2 | with_reducible apply Wf.sIs | with_reducible apply Wf.sLs | with_reducible apply Wf.cpU | with_reducible apply Wf.fillI | with_reducible apply Wf.clU | with_reducible apply Wf.dnF | with_reducible apply Wf.gbW))) (by decide) hc_X11 (by decide) (by decide) (Nat.le_of_ble_eq_true rfl)) ?_
    refine lfn (a_if_ne (tgt := 9) dX11_readGuest_4 (by decide)) (fun h4 => absurd h4 (by decide)) (fun h4 => ?_)
    refine lf (a_iconst (0 : Int32) dX11_readGuest_7 (by decide)) ?_
    refine ⟨_, _, (a_ireturn dX11_readGuest_8 rfl rfl), ?_⟩
    exact ⟨_, rfl, StM.bad hF1 (by rw [stGuest, if_neg h40, bnd_l hr1]) hE1⟩
  | inr a1 =>
    obtain ⟨rfl, hM1, hH1, hs1, e26⟩ := hR1
    have hw1 := hM1.wf
    have hF1 := hF0.trans hX1.pa
    have hc := ncS_lt hr1
    obtain ⟨f, hf40, efr⟩ := fr_nat hg hc
    refine lf (a_inv (b2 := (0, 0)) k1 rfl dX11_readGuest_1 yk_X11_looksCabin im_X11_looksCabin se_X11_looksCabin ml_X11_187 rfl (co_338 (by repeat (first | with_reducible exact hw | with_reducible exact hwc | with_reducible assumption | with_reducible apply Wf.sI | with_reducible apply Wf.sL | with_reducible apply Wf.cpI | with_reducible apply Wf.cpL | with_reducible apply Wf.cp2 | with_reducible apply Wf.sIs | with_reducible apply Wf.sLs | with_reducible apply Wf.cpU | with_reducible apply Wf.fillI | with_reducible apply Wf.clU | with_reducible apply Wf.dnF | with_reducible apply Wf.gbW))) (by decide) hc_X11 (by decide) (by decide) (Nat.le_of_ble_eq_true rfl)) ?_
    refine lfn (a_if_ne (tgt := 9) dX11_readGuest_4 (by decide)) (fun h4 => ?_) (fun h4 => absurd h4 (by decide))
    refine lf (a_aload_n dX11_readGuest_9 rfl) ?_
    refine lf (a_getI dX11_readGuest_10 fs_X11_184 rfl (co_338 (by repeat (first | with_reducible exact hw | with_reducible exact hwc | with_reducible assumption | with_reducible apply Wf.sI | with_reducible apply Wf.sL | with_reducible apply Wf.cpI | with_reducible apply Wf.cpL | with_reducible apply Wf.cp2 | with_reducible apply Wf.sIs | with_reducible apply Wf.sLs | with_reducible apply Wf.cpU | with_reducible apply Wf.fillI | with_reducible apply Wf.clU | with_reducible apply Wf.dnF | with_reducible apply Wf.gbW)))) ?_
    rw [e26]
    refine lf (a_istore_n dX11_readGuest_13 (by decide)) ?_
    refine lf (a_aload_n dX11_readGuest_14 rfl) ?_
    refine lf (a_iload_n dX11_readGuest_15 rfl) ?_
    refine lf (a_inv (b2 := (0, 0)) (Ct.int efr (m_draftFree hw1 hM1.dr hg hc)) rfl dX11_readGuest_16 yk_X11_draftFree im_X11_draftFree se_X11_draftFree ml_X11_224 rfl (co_338 (by repeat (first | with_reducible exact hw | with_reducible exact hwc | with_reducible assumption | with_reducible apply Wf.sI | with_reducible apply Wf.sL | with_reducible apply Wf.cpI | with_reducible apply Wf.cpL | with_reducible apply Wf.cp2 | with_reducible apply Wf.sIs | with_reducible apply Wf.sLs | with_reducible apply Wf.cpU | with_reducible apply Wf.fillI | with_reducible apply Wf.clU | with_reducible apply Wf.dnF | with_reducible apply Wf.gbW))) (by decide) hc_X11 (by decide) (by decide) (Nat.le_of_ble_eq_true rfl)) ?_
    refine lfn (a_if_ne (tgt := 28) dX11_readGuest_19 (by decide)) (fun h19 => ?_) (fun h19 => ?_)
    · have hfr1 : ¬ frD z a1 < 1 := fun y => h19 (by rw [efr] at y; have := (nI_ltI (b := 1) (by omega) (by decide)).mp y; rw [show f = 0 by omega]; rfl)
      refine lf (a_aload_n dX11_readGuest_28 rfl) ?_
      refine lf (a_inv (b2 := (0, 0)) (m_passes hw1) rfl dX11_readGuest_29 yk_X11_passes im_X11_passes se_X11_passes ml_X11_162 rfl (co_338 (by repeat (first | with_reducible exact hw | with_reducible exact hwc | with_reducible assumption | with_reducible apply Wf.sI | with_reducible apply Wf.sL | with_reducible apply Wf.cpI | with_reducible apply Wf.cpL | with_reducible apply Wf.cp2 | with_reducible apply Wf.sIs | with_reducible apply Wf.sLs | with_reducible apply Wf.cpU | with_reducible apply Wf.fillI | with_reducible apply Wf.clU | with_reducible apply Wf.dnF | with_reducible apply Wf.gbW))) (by decide) hc_X11 (by decide) (by decide) (Nat.le_of_ble_eq_true rfl)) ?_
      have hzp := hM1.pass (hH1.e hs1)
      have hwp := hzp.wf
      have hF2 := hF1.s (k := 18) (by decide) (gI W1 338 21)
      refine lf (a_pop dX11_readGuest_32 rfl) ?_
      refine lf (a_iconst (0 : Int32) dX11_readGuest_33 (by decide)) ?_
      refine lf (a_istore_n dX11_readGuest_34 (by decide)) ?_
      refine lf (a_iconst (-1 : Int32) dX11_readGuest_35 (by decide)) ?_
      refine lf (a_istore_n dX11_readGuest_36 (by decide)) ?_
      refine lf (a_aload_n dX11_readGuest_37 rfl) ?_
      refine lf (a_ldc2 (v := 14849171) dX11_readGuest_38 (lwa_in 1843 (by decide +kernel) rfl)) ?_
      obtain ⟨v_, W41, k41, hR41⟩ := (m_pw_15 hzp)
      obtain ⟨hX41, hR41⟩ := hR41
      generalize hr41 : wdI B n (tkE B n (tkE B n p)) 15 = r41 at hR41
      cases r41 with
      | false =>
        obtain ⟨rfl, hM41, hH41⟩ := hR41
        have hw41x := hM41.wf
        have hF41 := hF2.trans hX41.pa
        refine lf (a_inv (b2 := (0, 0)) k41 rfl dX11_readGuest_41 yk_X11_passesWord im_X11_passesWord se_X11_passesWord ml_X11_204 rfl (co_338 (by repeat (first | with_reducible exact hw | with_reducible exact hwc | with_reducible assumption | with_reducible apply Wf.sI | with_reducible apply Wf.sL | with_reducible apply Wf.cpI | with_reducible apply Wf.cpL | with_reducible apply Wf.cp2 | with_reducible apply Wf.sIs | with_reducible apply Wf.sLs | with_reducible apply Wf.cpU | with_reducible apply Wf.fillI | with_reducible apply Wf.clU | with_reducible apply Wf.dnF | with_reducible apply Wf.gbW))) (by decide) hc_X11 (by decide) (by decide) (Nat.le_of_ble_eq_true rfl)) ?_
        refine lf2 (a_if_eq (tgt := 61) dX11_readGuest_44 (by decide)) (fun h44 => ?_) (fun h44 => absurd h44 (by decide))
        have hrr : stGuest B n p z = gdB B n (tkE B n (tkE B n p)) z a1 0 := by
          rw [stGuest, if_neg h40, bnd_r hr1, if_neg hfr1]
          unfold gdN
          rw [hr41, if_neg (by decide)]
          rfl
        rw [hrr]
        exact lf (a_loc _ rfl) (m_gs61 hF41 hM41 hg hc h40)
      | true =>
        obtain ⟨rfl, hM41⟩ := hR41
        have hw41x := hM41.wf
        have hF41 := hF2.trans hX41.pa
        refine lf (a_inv (b2 := (0, 0)) k41 rfl dX11_readGuest_41 yk_X11_passesWord im_X11_passesWord se_X11_passesWord ml_X11_204 rfl (co_338 (by repeat (first | with_reducible exact hw | with_reducible exact hwc | with_reducible assumption | with_reducible apply Wf.sI | with_reducible apply Wf.sL | with_reducible apply Wf.cpI | with_reducible apply Wf.cpL | with_reducible apply Wf.cp2 | with_reducible apply Wf.sIs | with_reducible apply Wf.sLs | with_reducible apply Wf.cpU | with_reducible apply Wf.fillI | with_reducible apply Wf.clU | with_reducible apply Wf.dnF | with_reducible apply Wf.gbW))) (by decide) hc_X11 (by decide) (by decide) (Nat.le_of_ble_eq_true rfl)) ?_
        refine lf2 (a_if_eq (tgt := 61) dX11_readGuest_44 (by decide)) (fun h44 => absurd h44 (by decide)) (fun h44 => ?_)
        refine lf (a_aload_n dX11_readGuest_47 rfl) ?_
        obtain ⟨v_, W48, k48, hR48⟩ := (m_readDiets hM41)
        obtain ⟨hX48, hR48⟩ := hR48
        generalize hr48 : ndS B n (tkE B n (tkE B n (tkE B n p))) = r48 at hR48
        cases r48 with
        | inl a48 =>
          obtain ⟨rfl, hE48⟩ := hR48
          have hF48 := hF41.trans hX48.pa
          refine lf (a_inv (b2 := (0, 0)) k48 rfl dX11_readGuest_48 yk_X11_readDiets im_X11_readDiets se_X11_readDiets ml_X11_221 rfl (co_338 (by repeat (first | with_reducible exact hw | with_reducible exact hwc | with_reducible assumption | with_reducible apply Wf.sI | with_reducible apply Wf.sL | with_reducible apply Wf.cpI | with_reducible apply Wf.cpL | with_reducible apply Wf.cp2 | with_reducible apply Wf.sIs | with_reducible apply Wf.sLs | with_reducible apply Wf.cpU | with_reducible apply Wf.fillI | with_reducible apply Wf.clU | with_reducible apply Wf.dnF | with_reducible apply Wf.gbW))) (by decide) hc_X11 (by decide) (by decide) (Nat.le_of_ble_eq_true rfl)) ?_
          refine lfn (a_if_ne (tgt := 56) dX11_readGuest_51 (by decide)) (fun h51 => absurd h51 (by decide)) (fun h51 => ?_)
          refine lf (a_iconst (0 : Int32) dX11_readGuest_54 (by decide)) ?_
          refine ⟨_, _, (a_ireturn dX11_readGuest_55 rfl rfl), ?_⟩
          exact ⟨_, rfl, StM.bad hF48 (by rw [stGuest, if_neg h40, bnd_r hr1, if_neg hfr1]; unfold gdN; rw [hr41, if_pos rfl, bnd_l hr48]; rfl) hE48⟩
        | inr a48 =>
          obtain ⟨rfl, hM48, e27⟩ := hR48
          have hw48 := hM48.wf
          have hF48 := hF41.trans hX48.pa
          refine lf (a_inv (b2 := (0, 0)) k48 rfl dX11_readGuest_48 yk_X11_readDiets im_X11_readDiets se_X11_readDiets ml_X11_221 rfl (co_338 (by repeat (first | with_reducible exact hw | with_reducible exact hwc | with_reducible assumption | with_reducible apply Wf.sI | with_reducible apply Wf.sL | with_reducible apply Wf.cpI | with_reducible apply Wf.cpL | with_reducible apply Wf.cp2 | with_reducible apply Wf.sIs | with_reducible apply Wf.sLs | with_reducible apply Wf.cpU | with_reducible apply Wf.fillI | with_reducible apply Wf.clU | with_reducible apply Wf.dnF | with_reducible apply Wf.gbW))) (by decide) hc_X11 (by decide) (by decide) (Nat.le_of_ble_eq_true rfl)) ?_
          refine lfn (a_if_ne (tgt := 56) dX11_readGuest_51 (by decide)) (fun h51 => ?_) (fun h51 => absurd h51 (by decide))
          refine lf (a_aload_n dX11_readGuest_56 rfl) ?_
          refine lf (a_getI dX11_readGuest_57 fs_X11_190 rfl (co_338 (by repeat (first | with_reducible exact hw | with_reducible exact hwc | with_reducible assumption | with_reducible apply Wf.sI | with_reducible apply Wf.sL | with_reducible apply Wf.cpI | with_reducible apply Wf.cpL | with_reducible apply Wf.cp2 | with_reducible apply Wf.sIs | with_reducible apply Wf.sLs | with_reducible apply Wf.cpU | with_reducible apply Wf.fillI | with_reducible apply Wf.clU | with_reducible apply Wf.dnF | with_reducible apply Wf.gbW)))) ?_
          rw [e27]
          refine lf (a_istore_n dX11_readGuest_60 (by decide)) ?_
          have hrr : stGuest B n p z = gdB B n (tkE B n (tkE B n (tkE B n (tkE B n p)))) z a1 (nI a48) := by
            rw [stGuest, if_neg h40, bnd_r hr1, if_neg hfr1]
            unfold gdN
            rw [hr41, if_pos rfl, bnd_r hr48]
            rfl
          rw [hrr]
          exact lf (a_loc _ rfl) (m_gs61 hF48 hM48 hg hc h40)
    · have hfr1 : frD z a1 < 1 := by rw [efr, h19]; decide
      refine lf (a_aload_n dX11_readGuest_22 rfl) ?_
      refine lf (a_iconst (5 : Int32) dX11_readGuest_23 (by decide)) ?_
      refine lf (a_inv (b2 := (0, 0)) (m_fails hw1 5) rfl dX11_readGuest_24 yk_X11_fails im_X11_fails se_X11_fails ml_X11_166 rfl (co_338 (by repeat (first | with_reducible exact hw | with_reducible exact hwc | with_reducible assumption | with_reducible apply Wf.sI | with_reducible apply Wf.sL | with_reducible apply Wf.cpI | with_reducible apply Wf.cpL | with_reducible apply Wf.cp2 | with_reducible apply Wf.sIs | with_reducible apply Wf.sLs | with_reducible apply Wf.cpU | with_reducible apply Wf.fillI | with_reducible apply Wf.clU | with_reducible apply Wf.dnF | with_reducible apply Wf.gbW))) (by decide) hc_X11 (by decide) (by decide) (Nat.le_of_ble_eq_true rfl)) ?_
      refine ⟨_, _, (a_ireturn dX11_readGuest_27 rfl rfl), ?_⟩
      exact ⟨_, rfl, StM.fail (c := 5) hF1 hH1.2.1 (by rw [stGuest, if_neg h40, bnd_r hr1, if_pos hfr1])⟩
end MGUESTS
