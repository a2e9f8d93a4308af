section MATCHF
variable {μ : Wd} {W : Wd} {p f : Nat} {q : PDt} {d : FDt} {cap : Nat → Nat}
/-- what suits a passenger that is special, as a bit set -/
def suM (q : PDt) (d : FDt) (i : Nat) : Int32 := if dF d 1 i = 0 then 0 else suD q (dF d 0 i) (dF d 1 i)
abbrev R_X4_begin : Room := { frames := 3, cells := 0, slots := 0, locals := 67 }
abbrev RX_X4_begin : Room := { frames := 3, cells := 1, slots := 6, locals := 67 }

theorem l_X4_begin_21 (hv0 : FV μ f p d) (hq0 : PV μ p q) (hcap : ∀ k, k < pM q → ldD q d k = nI (cap k)) {Q : Oc → Wd → Prop} (kx : ∀ W : Wd, (Out sM μ W ∧ gI W 327 0 = nI (dP d) ∧ gI W 327 1 = nI (pM q) ∧ ∀ k, k < (pM q) → gI W 330 k = nI (cap k)) → WP Y_X4_begin R_X4_begin (0, 0) W 46 [(0, .ref 327), (1, .ref f), (2, .int (nI (pM q)))] [] Q) : ∀ dd m (W : Wd), m + dd = (pM q) → (Out sM μ W ∧ gI W 327 0 = nI (dP d) ∧ gI W 327 1 = nI (pM q) ∧ ∀ k, k < m → gI W 330 k = nI (cap k)) → WP Y_X4_begin R_X4_begin (0, 0) W 21 [(0, .ref 327), (1, .ref f), (2, .int (nI m))] [] Q := by
  have hM4 := hq0.M4
  have hP4 := hv0.P4
  have hf := hv0.fl
  have hpl := hq0.pl
  intro dd
  induction dd with
  | zero =>
    intro m W hm hI
    obtain rfl : (pM q) = m := by omega
    have hw := hI.1.1
    have hv := hv0.hi hI.1 sM_hi
    have hq := hq0.hi hI.1 sM_hi
    have hp := hv.rp
    refine lf (a_iload_n dX4_begin_21 rfl) ?_
    refine lf (a_aload_n dX4_begin_22 rfl) ?_
    refine lf (a_getI dX4_begin_23 fs_X4_48 rfl (co_327 hw)) ?_
    rw [hI.2.2.1]
    refine lf2 (a_icmp_ge (tgt := 46) dX4_begin_26 (by decide)) (fun h26 => ?_) (fun h26 => absurd h26 (fun z => z (nI_le (Nat.le_refl _) (by omega))))
    exact lf (a_loc _ rfl) (kx W hI)
  | succ dd ih =>
    intro m W hm hI
    have hw := hI.1.1
    have hv := hv0.hi hI.1 sM_hi
    have hq := hq0.hi hI.1 sM_hi
    have hp := hv.rp
    have hm12 : m < 12 := by omega
    refine lf (a_iload_n dX4_begin_21 rfl) ?_
    refine lf (a_aload_n dX4_begin_22 rfl) ?_
    refine lf (a_getI dX4_begin_23 fs_X4_48 rfl (co_327 (by repeat (first | with_reducible exact hw | with_reducible exact hwc | with_reducible assumption | with_reducible apply Wf.sI | with_reducible apply Wf.sL | with_reducible apply Wf.cpI | with_reducible apply Wf.cpL | with_reducible apply Wf.cp2 | with_reducible apply Wf.sIs | with_reducible apply Wf.sLs | with_reducible apply Wf.cpU | with_reducible apply Wf.fillI | with_reducible apply Wf.clU | with_reducible apply Wf.dnF | with_reducible apply Wf.gbW)))) ?_
    rw [hI.2.2.1]
    refine lf2 (a_icmp_ge (tgt := 46) dX4_begin_26 (by decide)) (fun h26 => absurd h26 (nI_ge (by omega) (by omega))) (fun h26 => ?_)
    refine lf (a_aload_n dX4_begin_29 rfl) ?_
    refine lf (a_getR (cr_327_4 (by repeat (first | with_reducible exact hw | with_reducible exact hwc | with_reducible assumption | with_reducible apply Wf.sI | with_reducible apply Wf.sL | with_reducible apply Wf.cpI | with_reducible apply Wf.cpL | with_reducible apply Wf.cp2 | with_reducible apply Wf.sIs | with_reducible apply Wf.sLs | with_reducible apply Wf.cpU | with_reducible apply Wf.fillI | with_reducible apply Wf.clU | with_reducible apply Wf.dnF | with_reducible apply Wf.gbW))) dX4_begin_30 fs_X4_18 rfl (co_327 (by repeat (first | with_reducible exact hw | with_reducible exact hwc | with_reducible assumption | with_reducible apply Wf.sI | with_reducible apply Wf.sL | with_reducible apply Wf.cpI | with_reducible apply Wf.cpL | with_reducible apply Wf.cp2 | with_reducible apply Wf.sIs | with_reducible apply Wf.sLs | with_reducible apply Wf.cpU | with_reducible apply Wf.fillI | with_reducible apply Wf.clU | with_reducible apply Wf.dnF | with_reducible apply Wf.gbW)))) ?_
    refine lf (a_iload_n dX4_begin_33 rfl) ?_
    refine lf (a_aload_n dX4_begin_34 rfl) ?_
    refine lf (a_iload_n dX4_begin_35 rfl) ?_
    refine lf (a_inv (b2 := (0, 0)) (v_X1_loadedOf (by repeat (first | with_reducible exact hw | with_reducible exact hwc | with_reducible assumption | with_reducible apply Wf.sI | with_reducible apply Wf.sL | with_reducible apply Wf.cpI | with_reducible apply Wf.cpL | with_reducible apply Wf.cp2 | with_reducible apply Wf.sIs | with_reducible apply Wf.sLs | with_reducible apply Wf.cpU | with_reducible apply Wf.fillI | with_reducible apply Wf.clU | with_reducible apply Wf.dnF | with_reducible apply Wf.gbW)) hv hq hm12) rfl dX4_begin_36 yk_X1_loadedOf im_X1_loadedOf se_X1_loadedOf ml_X4_49 rfl (fl_o (by repeat (first | with_reducible exact hw | with_reducible exact hwc | with_reducible assumption | with_reducible apply Wf.sI | with_reducible apply Wf.sL | with_reducible apply Wf.cpI | with_reducible apply Wf.cpL | with_reducible apply Wf.cp2 | with_reducible apply Wf.sIs | with_reducible apply Wf.sLs | with_reducible apply Wf.cpU | with_reducible apply Wf.fillI | with_reducible apply Wf.clU | with_reducible apply Wf.dnF | with_reducible apply Wf.gbW)) hf) (by decide) hc_X1 (by decide) (by decide) (Nat.le_of_ble_eq_true rfl)) ?_
    rw [hcap m (by omega)]
    refine lf (a_ist dX4_begin_39 (ca_330 (by repeat (first | with_reducible exact hw | with_reducible exact hwc | with_reducible assumption | with_reducible apply Wf.sI | with_reducible apply Wf.sL | with_reducible apply Wf.cpI | with_reducible apply Wf.cpL | with_reducible apply Wf.cp2 | with_reducible apply Wf.sIs | with_reducible apply Wf.sLs | with_reducible apply Wf.cpU | with_reducible apply Wf.fillI | with_reducible apply Wf.clU | with_reducible apply Wf.dnF | with_reducible apply Wf.gbW))) (ixn (by omega) (by decide))) ?_
    refine lf (a_iincN dX4_begin_40 rfl (by decide)) ?_
    refine lf (a_goto (tgt := 21) dX4_begin_43 (by decide)) ?_
    refine lf (a_loc _ rfl) (ih (m + 1) _ (by omega) ⟨hI.1.sI ⟨by decide, by decide⟩ _ _, by rw [gI_sI, if_neg (by omega)]; exact hI.2.1, by rw [gI_sI, if_neg (by omega)]; exact hI.2.2.1, fun k hk => ?_⟩)
    rw [gI_sI]
    by_cases z : k = m
    · subst z; rw [if_pos ⟨rfl, rfl⟩]
    · rw [if_neg (fun e => z e.2)]; exact hI.2.2.2 k (by omega)
theorem l_X4_begin_48 (hv0 : FV μ f p d) (hq0 : PV μ p q) {Q : Oc → Wd → Prop} (kx : ∀ W : Wd, (Out sM μ W ∧ gI W 327 0 = nI (dP d) ∧ gI W 327 1 = nI (pM q) ∧ (∀ k, k < pM q → gI W 330 k = nI (cap k)) ∧ ∀ i, i < (dP d) → gI W 328 i = suM q d i ∧ gI W 329 i = -1) → WP Y_X4_begin R_X4_begin (0, 0) W 93 [(0, .ref 327), (1, .ref f), (2, .int (nI (dP d)))] [] Q) : ∀ dd m (W : Wd), m + dd = (dP d) → (Out sM μ W ∧ gI W 327 0 = nI (dP d) ∧ gI W 327 1 = nI (pM q) ∧ (∀ k, k < pM q → gI W 330 k = nI (cap k)) ∧ ∀ i, i < m → gI W 328 i = suM q d i ∧ gI W 329 i = -1) → WP Y_X4_begin R_X4_begin (0, 0) W 48 [(0, .ref 327), (1, .ref f), (2, .int (nI m))] [] Q := by
  have hM4 := hq0.M4
  have hP4 := hv0.P4
  have hf := hv0.fl
  have hpl := hq0.pl
  intro dd
  induction dd with
  | zero =>
    intro m W hm hI
    obtain rfl : (dP d) = m := by omega
    have hw := hI.1.1
    have hv := hv0.hi hI.1 sM_hi
    have hq := hq0.hi hI.1 sM_hi
    have hp := hv.rp
    refine lf (a_iload_n dX4_begin_48 rfl) ?_
    refine lf (a_aload_n dX4_begin_49 rfl) ?_
    refine lf (a_getI dX4_begin_50 fs_X4_36 rfl (co_327 hw)) ?_
    rw [hI.2.1]
    refine lf2 (a_icmp_ge (tgt := 93) dX4_begin_53 (by decide)) (fun h53 => ?_) (fun h53 => absurd h53 (fun z => z (nI_le (Nat.le_refl _) (by omega))))
    exact lf (a_loc _ rfl) (kx W hI)
  | succ dd ih =>
    intro m W hm hI
    have hw := hI.1.1
    have hv := hv0.hi hI.1 sM_hi
    have hq := hq0.hi hI.1 sM_hi
    have hp := hv.rp
    have hmP : m < dP d := by omega
    refine lf (a_iload_n dX4_begin_48 rfl) ?_
    refine lf (a_aload_n dX4_begin_49 rfl) ?_
    refine lf (a_getI dX4_begin_50 fs_X4_36 rfl (co_327 (by repeat (first | with_reducible exact hw | with_reducible exact hwc | with_reducible assumption | with_reducible apply Wf.sI | with_reducible apply Wf.sL | with_reducible apply Wf.cpI | with_reducible apply Wf.cpL | with_reducible apply Wf.cp2 | with_reducible apply Wf.sIs | with_reducible apply Wf.sLs | with_reducible apply Wf.cpU | with_reducible apply Wf.fillI | with_reducible apply Wf.clU | with_reducible apply Wf.dnF | with_reducible apply Wf.gbW)))) ?_
    rw [hI.2.1]
    refine lf2 (a_icmp_ge (tgt := 93) dX4_begin_53 (by decide)) (fun h53 => absurd h53 (nI_ge (by omega) (by omega))) (fun h53 => ?_)
    refine lf (a_aload_n dX4_begin_56 rfl) ?_
    refine lf (a_getR (cr_327_2 (by repeat (first | with_reducible exact hw | with_reducible exact hwc | with_reducible assumption | with_reducible apply Wf.sI | with_reducible apply Wf.sL | with_reducible apply Wf.cpI | with_reducible apply Wf.cpL | with_reducible apply Wf.cp2 | with_reducible apply Wf.sIs | with_reducible apply Wf.sLs | with_reducible apply Wf.cpU | with_reducible apply Wf.fillI | with_reducible apply Wf.clU | with_reducible apply Wf.dnF | with_reducible apply Wf.gbW))) dX4_begin_57 fs_X4_9 rfl (co_327 (by repeat (first | with_reducible exact hw | with_reducible exact hwc | with_reducible assumption | with_reducible apply Wf.sI | with_reducible apply Wf.sL | with_reducible apply Wf.cpI | with_reducible apply Wf.cpL | with_reducible apply Wf.cp2 | with_reducible apply Wf.sIs | with_reducible apply Wf.sLs | with_reducible apply Wf.cpU | with_reducible apply Wf.fillI | with_reducible apply Wf.clU | with_reducible apply Wf.dnF | with_reducible apply Wf.gbW)))) ?_
    refine lf (a_iload_n dX4_begin_60 rfl) ?_
    refine lf (a_aload_n dX4_begin_61 rfl) ?_
    refine lf (a_getR (fl_r5 (by repeat (first | with_reducible exact hw | with_reducible exact hwc | with_reducible assumption | with_reducible apply Wf.sI | with_reducible apply Wf.sL | with_reducible apply Wf.cpI | with_reducible apply Wf.cpL | with_reducible apply Wf.cp2 | with_reducible apply Wf.sIs | with_reducible apply Wf.sLs | with_reducible apply Wf.cpU | with_reducible apply Wf.fillI | with_reducible apply Wf.clU | with_reducible apply Wf.dnF | with_reducible apply Wf.gbW)) hf) dX4_begin_62 fs_X4_53 rfl (fl_o (by repeat (first | with_reducible exact hw | with_reducible exact hwc | with_reducible assumption | with_reducible apply Wf.sI | with_reducible apply Wf.sL | with_reducible apply Wf.cpI | with_reducible apply Wf.cpL | with_reducible apply Wf.cp2 | with_reducible apply Wf.sIs | with_reducible apply Wf.sLs | with_reducible apply Wf.cpU | with_reducible apply Wf.fillI | with_reducible apply Wf.clU | with_reducible apply Wf.dnF | with_reducible apply Wf.gbW)) hf)) ?_
    refine lf (a_iload_n dX4_begin_65 rfl) ?_
    refine lf (a_ild dX4_begin_66 (fl_a2 (by repeat (first | with_reducible exact hw | with_reducible exact hwc | with_reducible assumption | with_reducible apply Wf.sI | with_reducible apply Wf.sL | with_reducible apply Wf.cpI | with_reducible apply Wf.cpL | with_reducible apply Wf.cp2 | with_reducible apply Wf.sIs | with_reducible apply Wf.sLs | with_reducible apply Wf.cpU | with_reducible apply Wf.fillI | with_reducible apply Wf.clU | with_reducible apply Wf.dnF | with_reducible apply Wf.gbW)) hf) (ixn (show m < 40 by omega) (by decide))) ?_
    rw [hv.nee hmP]
    refine lfn (a_if_ne (tgt := 74) dX4_begin_67 (by decide)) (fun h67 => ?_) (fun h67 => ?_)
    · refine lf (a_aload_n dX4_begin_74 rfl) ?_
      refine lf (a_iload_n dX4_begin_75 rfl) ?_
      refine lf (a_inv (b2 := (0, 0)) (v_X1_suiting (by repeat (first | with_reducible exact hw | with_reducible exact hwc | with_reducible assumption | with_reducible apply Wf.sI | with_reducible apply Wf.sL | with_reducible apply Wf.cpI | with_reducible apply Wf.cpL | with_reducible apply Wf.cp2 | with_reducible apply Wf.sIs | with_reducible apply Wf.sLs | with_reducible apply Wf.cpU | with_reducible apply Wf.fillI | with_reducible apply Wf.clU | with_reducible apply Wf.dnF | with_reducible apply Wf.gbW)) hv hq hmP) rfl dX4_begin_76 yk_X1_suiting im_X1_suiting se_X1_suiting ml_X4_56 rfl (fl_o (by repeat (first | with_reducible exact hw | with_reducible exact hwc | with_reducible assumption | with_reducible apply Wf.sI | with_reducible apply Wf.sL | with_reducible apply Wf.cpI | with_reducible apply Wf.cpL | with_reducible apply Wf.cp2 | with_reducible apply Wf.sIs | with_reducible apply Wf.sLs | with_reducible apply Wf.cpU | with_reducible apply Wf.fillI | with_reducible apply Wf.clU | with_reducible apply Wf.dnF | with_reducible apply Wf.gbW)) hf) (by decide) hc_X1 (by decide) (by decide) (Nat.le_of_ble_eq_true rfl)) ?_
      rw [show suD q (dF d 0 m) (dF d 1 m) = suM q d m by rw [suM, if_neg h67]]
      refine lf (a_ist dX4_begin_79 (ca_328 (by repeat (first | with_reducible exact hw | with_reducible exact hwc | with_reducible assumption | with_reducible apply Wf.sI | with_reducible apply Wf.sL | with_reducible apply Wf.cpI | with_reducible apply Wf.cpL | with_reducible apply Wf.cp2 | with_reducible apply Wf.sIs | with_reducible apply Wf.sLs | with_reducible apply Wf.cpU | with_reducible apply Wf.fillI | with_reducible apply Wf.clU | with_reducible apply Wf.dnF | with_reducible apply Wf.gbW))) (ixn (show m < 40 by omega) (by decide))) ?_
      refine lf (a_aload_n dX4_begin_80 rfl) ?_
      refine lf (a_getR (cr_327_3 (by repeat (first | with_reducible exact hw | with_reducible exact hwc | with_reducible assumption | with_reducible apply Wf.sI | with_reducible apply Wf.sL | with_reducible apply Wf.cpI | with_reducible apply Wf.cpL | with_reducible apply Wf.cp2 | with_reducible apply Wf.sIs | with_reducible apply Wf.sLs | with_reducible apply Wf.cpU | with_reducible apply Wf.fillI | with_reducible apply Wf.clU | with_reducible apply Wf.dnF | with_reducible apply Wf.gbW))) dX4_begin_81 fs_X4_15 rfl (co_327 (by repeat (first | with_reducible exact hw | with_reducible exact hwc | with_reducible assumption | with_reducible apply Wf.sI | with_reducible apply Wf.sL | with_reducible apply Wf.cpI | with_reducible apply Wf.cpL | with_reducible apply Wf.cp2 | with_reducible apply Wf.sIs | with_reducible apply Wf.sLs | with_reducible apply Wf.cpU | with_reducible apply Wf.fillI | with_reducible apply Wf.clU | with_reducible apply Wf.dnF | with_reducible apply Wf.gbW)))) ?_
      refine lf (a_iload_n dX4_begin_84 rfl) ?_
      refine lf (a_iconst (-1 : Int32) dX4_begin_85 (by decide)) ?_
      refine lf (a_ist dX4_begin_86 (ca_329 (by repeat (first | with_reducible exact hw | with_reducible exact hwc | with_reducible assumption | with_reducible apply Wf.sI | with_reducible apply Wf.sL | with_reducible apply Wf.cpI | with_reducible apply Wf.cpL | with_reducible apply Wf.cp2 | with_reducible apply Wf.sIs | with_reducible apply Wf.sLs | with_reducible apply Wf.cpU | with_reducible apply Wf.fillI | with_reducible apply Wf.clU | with_reducible apply Wf.dnF | with_reducible apply Wf.gbW))) (ixn (show m < 40 by omega) (by decide))) ?_
      refine lf (a_iincN dX4_begin_87 rfl (by decide)) ?_
      refine lf (a_goto (tgt := 48) dX4_begin_90 (by decide)) ?_
      refine lf (a_loc _ rfl) (ih (m + 1) _ (by omega) ⟨(hI.1.sI ⟨by decide, by decide⟩ _ _).sI ⟨by decide, by decide⟩ _ _, by rw [gI_sI, if_neg (by omega), gI_sI, if_neg (by omega)]; exact hI.2.1, by rw [gI_sI, if_neg (by omega), gI_sI, if_neg (by omega)]; exact hI.2.2.1, fun k hk => by rw [gI_sI, if_neg (by omega), gI_sI, if_neg (by omega)]; exact hI.2.2.2.1 k hk, fun k hk => ?_⟩)
      simp only [gI_sI]
      by_cases z : k = m
      · subst z; simp
      · simp only [z, and_false, if_false]; exact hI.2.2.2.2 k (by omega)
    · refine lf (a_iconst (0 : Int32) dX4_begin_70 (by decide)) ?_
      rw [show (0 : Int32) = suM q d m by rw [suM, if_pos h67]]
      refine lf (a_goto (tgt := 79) dX4_begin_71 (by decide)) ?_
      refine lf (a_ist dX4_begin_79 (ca_328 (by repeat (first | with_reducible exact hw | with_reducible exact hwc | with_reducible assumption | with_reducible apply Wf.sI | with_reducible apply Wf.sL | with_reducible apply Wf.cpI | with_reducible apply Wf.cpL | with_reducible apply Wf.cp2 | with_reducible apply Wf.sIs | with_reducible apply Wf.sLs | with_reducible apply Wf.cpU | with_reducible apply Wf.fillI | with_reducible apply Wf.clU | with_reducible apply Wf.dnF | with_reducible apply Wf.gbW))) (ixn (show m < 40 by omega) (by decide))) ?_
      refine lf (a_aload_n dX4_begin_80 rfl) ?_
      refine lf (a_getR (cr_327_3 (by repeat (first | with_reducible exact hw | with_reducible exact hwc | with_reducible assumption | with_reducible apply Wf.sI | with_reducible apply Wf.sL | with_reducible apply Wf.cpI | with_reducible apply Wf.cpL | with_reducible apply Wf.cp2 | with_reducible apply Wf.sIs | with_reducible apply Wf.sLs | with_reducible apply Wf.cpU | with_reducible apply Wf.fillI | with_reducible apply Wf.clU | with_reducible apply Wf.dnF | with_reducible apply Wf.gbW))) dX4_begin_81 fs_X4_15 rfl (co_327 (by repeat (first | with_reducible exact hw | with_reducible exact hwc | with_reducible assumption | with_reducible apply Wf.sI | with_reducible apply Wf.sL | with_reducible apply Wf.cpI | with_reducible apply Wf.cpL | with_reducible apply Wf.cp2 | with_reducible apply Wf.sIs | with_reducible apply Wf.sLs | with_reducible apply Wf.cpU | with_reducible apply Wf.fillI | with_reducible apply Wf.clU | with_reducible apply Wf.dnF | with_reducible apply Wf.gbW)))) ?_
      refine lf (a_iload_n dX4_begin_84 rfl) ?_
      refine lf (a_iconst (-1 : Int32) dX4_begin_85 (by decide)) ?_
      refine lf (a_ist dX4_begin_86 (ca_329 (by repeat (first | with_reducible exact hw | with_reducible exact hwc | with_reducible assumption | with_reducible apply Wf.sI | with_reducible apply Wf.sL | with_reducible apply Wf.cpI | with_reducible apply Wf.cpL | with_reducible apply Wf.cp2 | with_reducible apply Wf.sIs | with_reducible apply Wf.sLs | with_reducible apply Wf.cpU | with_reducible apply Wf.fillI | with_reducible apply Wf.clU | with_reducible apply Wf.dnF | with_reducible apply Wf.gbW))) (ixn (show m < 40 by omega) (by decide))) ?_
      refine lf (a_iincN dX4_begin_87 rfl (by decide)) ?_
      refine lf (a_goto (tgt := 48) dX4_begin_90 (by decide)) ?_
      refine lf (a_loc _ rfl) (ih (m + 1) _ (by omega) ⟨(hI.1.sI ⟨by decide, by decide⟩ _ _).sI ⟨by decide, by decide⟩ _ _, by rw [gI_sI, if_neg (by omega), gI_sI, if_neg (by omega)]; exact hI.2.1, by rw [gI_sI, if_neg (by omega), gI_sI, if_neg (by omega)]; exact hI.2.2.1, fun k hk => by rw [gI_sI, if_neg (by omega), gI_sI, if_neg (by omega)]; exact hI.2.2.2.1 k hk, fun k hk => ?_⟩)
      simp only [gI_sI]
      by_cases z : k = m
      · subst z; simp
      · simp only [z, and_false, if_false]; exact hI.2.2.2.2 k (by omega)
theorem t_X4_begin (hw : Wf μ) (hv : FV μ f p d) (hq : PV μ p q) (hcap : ∀ k, k < pM q → ldD q d k = nI (cap k)) : CV Y_X4_begin R_X4_begin [.ref 327, .ref f] μ (fun v V => v = none ∧ Out sM μ V ∧ MtV V (dP d) (pM q) (suM q d) (fun _ => none) cap) := by
  refine CV.ent yk_X4_begin (Nat.le_of_ble_eq_true rfl) ?_
  have hf := hv.fl
  have hpl := hq.pl
  have hp := hv.rp
  have hO1 := (Out.rfl' (S := sM) hw).sI (i := 327) ⟨by decide, by decide⟩ 0 (nI (dP d))
  have hv1 := hv.hi hO1 sM_hi
  have hq1 := hq.hi hO1 sM_hi
  have hp1 := hv1.rp
  refine lf (a_aload_n dX4_begin_0 rfl) ?_
  refine lf (a_aload_n dX4_begin_1 rfl) ?_
  refine lf (a_getI dX4_begin_2 fs_X4_30 rfl (fl_o (by repeat (first | with_reducible exact hw | with_reducible exact hwc | with_reducible assumption | with_reducible apply Wf.sI | with_reducible apply Wf.sL | with_reducible apply Wf.cpI | with_reducible apply Wf.cpL | with_reducible apply Wf.cp2 | with_reducible apply Wf.sIs | with_reducible apply Wf.sLs | with_reducible apply Wf.cpU | with_reducible apply Wf.fillI | with_reducible apply Wf.clU | with_reducible apply Wf.dnF | with_reducible apply Wf.gbW)) hf)) ?_
  rw [hv.hP]
  refine lf (a_putI dX4_begin_5 fs_X4_36 rfl rfl rfl (co_327 (by repeat (first | with_reducible exact hw | with_reducible exact hwc | with_reducible assumption | with_reducible apply Wf.sI | with_reducible apply Wf.sL | with_reducible apply Wf.cpI | with_reducible apply Wf.cpL | with_reducible apply Wf.cp2 | with_reducible apply Wf.sIs | with_reducible apply Wf.sLs | with_reducible apply Wf.cpU | with_reducible apply Wf.fillI | with_reducible apply Wf.clU | with_reducible apply Wf.dnF | with_reducible apply Wf.gbW)))) ?_
  refine lf (a_aload_n dX4_begin_8 rfl) ?_
  refine lf (a_aload_n dX4_begin_9 rfl) ?_
  refine lf (a_getR hp1 dX4_begin_10 fs_X4_39 rfl (fl_o (by repeat (first | with_reducible exact hw | with_reducible exact hwc | with_reducible assumption | with_reducible apply Wf.sI | with_reducible apply Wf.sL | with_reducible apply Wf.cpI | with_reducible apply Wf.cpL | with_reducible apply Wf.cp2 | with_reducible apply Wf.sIs | with_reducible apply Wf.sLs | with_reducible apply Wf.cpU | with_reducible apply Wf.fillI | with_reducible apply Wf.clU | with_reducible apply Wf.dnF | with_reducible apply Wf.gbW)) hf)) ?_
  refine lf (a_getI dX4_begin_13 fs_X4_43 rfl (pl_o (by repeat (first | with_reducible exact hw | with_reducible exact hwc | with_reducible assumption | with_reducible apply Wf.sI | with_reducible apply Wf.sL | with_reducible apply Wf.cpI | with_reducible apply Wf.cpL | with_reducible apply Wf.cp2 | with_reducible apply Wf.sIs | with_reducible apply Wf.sLs | with_reducible apply Wf.cpU | with_reducible apply Wf.fillI | with_reducible apply Wf.clU | with_reducible apply Wf.dnF | with_reducible apply Wf.gbW)) hpl)) ?_
  rw [hq1.hM]
  refine lf (a_putI dX4_begin_16 fs_X4_48 rfl rfl rfl (co_327 (by repeat (first | with_reducible exact hw | with_reducible exact hwc | with_reducible assumption | with_reducible apply Wf.sI | with_reducible apply Wf.sL | with_reducible apply Wf.cpI | with_reducible apply Wf.cpL | with_reducible apply Wf.cp2 | with_reducible apply Wf.sIs | with_reducible apply Wf.sLs | with_reducible apply Wf.cpU | with_reducible apply Wf.fillI | with_reducible apply Wf.clU | with_reducible apply Wf.dnF | with_reducible apply Wf.gbW)))) ?_
  refine lf (a_iconst (0 : Int32) dX4_begin_19 (by decide)) ?_
  refine lf (a_istore_n dX4_begin_20 (by decide)) ?_
  refine lf (a_loc [(0, .ref 327), (1, .ref f), (2, .int (nI 0))] rfl) (l_X4_begin_21 hv hq hcap (fun W hI => ?_) (pM q) 0 _ (by omega) ⟨hO1.sI ⟨by decide, by decide⟩ _ _, by rw [gI_sI, if_neg (by omega), gI_sI, if_pos ⟨rfl, rfl⟩], by rw [gI_sI, if_pos ⟨rfl, rfl⟩], fun k hk => by omega⟩)
  refine lf (a_iconst (0 : Int32) dX4_begin_46 (by decide)) ?_
  refine lf (a_istore_n dX4_begin_47 (by decide)) ?_
  refine lf (a_loc [(0, .ref 327), (1, .ref f), (2, .int (nI 0))] rfl) (l_X4_begin_48 hv hq (fun W2 hI2 => ⟨_, _, a_return dX4_begin_93 rfl, _, rfl, rfl, hI2.1, hI2.2.1, hI2.2.2.1, fun k hk => (hI2.2.2.2.2 k hk).1, fun k hk => (hI2.2.2.2.2 k hk).2, hI2.2.2.2.1⟩) (dP d) 0 _ (by omega) ⟨hI.1, hI.2.1, hI.2.2.1, hI.2.2.2, fun k hk => by omega⟩)
abbrev R_X4_match : Room := { frames := 4, cells := 0, slots := 0, locals := 98 }
abbrev RX_X4_match : Room := { frames := 4, cells := 1, slots := 6, locals := 98 }

section
variable {P M : Nat} {su : Nat → Int32}
/-- ahead of the p-th round of the first loop -/
def FirI (μ : Wd) (P M : Nat) (su : Nat → Int32) (cap : Nat → Nat) (p : Nat) (b : Int32) (W : Wd) : Prop :=
  Out sM μ W ∧ ∃ g fr, MtV W P M su g fr ∧ GA su cap P M g fr ∧ ((b = 1 ∧ szG g P = p) ∨ (b = 0 ∧ MaxG su cap P M (szG g P)))
/-- each ahead of p has the first meal that can be -/
def LexTo (su : Nat → Int32) (cap : Nat → Nat) (P M n : Nat) (g : Nat → Option Nat) (k : Nat) : Prop :=
  ∀ p, p < k → ∀ g', MtG (fun p m => bt (su p) m) cap P M g' → szG g' P = n → (∀ i, i < p → g' i = g i) → leO (g p) (g' p)
def SecI (μ : Wd) (P M : Nat) (su : Nat → Int32) (cap : Nat → Nat) (n p : Nat) (W : Wd) : Prop :=
  Out sM μ W ∧ ∃ g fr, MtV W P M su g fr ∧ GA su cap P M g fr ∧ szG g P = n ∧ LexTo su cap P M n g p
/-- ahead of the m-th meal for p: chosen or not -/
def ThiI (μ : Wd) (P M : Nat) (su : Nat → Int32) (cap : Nat → Nat) (n p l : Nat) (m : Nat) (b : Int32) (W : Wd) : Prop :=
  Out sM μ W ∧ ∃ g fr, MtV W P M su g fr ∧ GA su cap P M g fr ∧ szG g P = n ∧ LexTo su cap P M n g p ∧
    ((b = 1 ∧ LexTo su cap P M n g (p + 1)) ∨ (b = 0 ∧ (g p = some l ∨ (g p = none ∧ l = M)) ∧ ∀ x, x < m → ∀ h, MtG (fun p m => bt (su p) m) cap P M h → szG h P = n → (∀ i, i < p → h i = g i) → h p ≠ some x))
theorem LexTo.pre {n k : Nat} {g g2 : Nat → Option Nat} (h : LexTo su cap P M n g k) (he : ∀ i, i < k → g2 i = g i) : LexTo su cap P M n g2 k := fun p hp g' h1 h2 h3 => by
  rw [he p hp]
  exact h p hp g' h1 h2 fun i hi => (h3 i hi).trans (he i (by omega))
theorem LexTo.succ {n k : Nat} {g : Nat → Option Nat} (h : LexTo su cap P M n g k) (hk : ∀ g', MtG (fun p m => bt (su p) m) cap P M g' → szG g' P = n → (∀ i, i < k → g' i = g i) → leO (g k) (g' k)) : LexTo su cap P M n g (k + 1) := fun p hp g' h1 h2 h3 => by
  by_cases e : p = k
  · subst e; exact hk g' h1 h2 h3
  · exact h p (by omega) g' h1 h2 h3
theorem l_X4_match_9 (hP : P ≤ 40) (hM : M ≤ 12) (hcap : ∀ m, m < M → cap m < 2 ^ 30) {Q : Oc → Wd → Prop} (kx : ∀ W, (∃ n, SecI μ P M su cap n 0 W ∧ MaxG su cap P M n) → ∀ b k, WP Y_X4_match R_X4_match (0, 0) W 33 [(0, .ref 327), (1, .ref f), (2, b), (3, k)] [] Q) : ∀ (dd p : Nat) (b : Int32) (W : Wd), p + dd = P → FirI μ P M su cap p b W → WP Y_X4_match R_X4_match (0, 0) W 9 [(0, .ref 327), (1, .ref f), (2, .int (b)), (3, .int (nI p))] [] Q := by
  have hsz0 : ∀ g : Nat → Option Nat, szG g P ≤ P := fun g => fb_ct_le _ _
  intro dd
  induction dd with
  | zero =>
    intro p b W hp hI
    obtain rfl : P = p := by omega
    obtain ⟨hO, g, fr, hV, hG, hb⟩ := hI
    have hw := hO.1
    have hmx : MaxG su cap P M (szG g P) := by
      rcases hb with ⟨-, e⟩ | ⟨-, e⟩
      · intro g' _; rw [e]; exact hsz0 g'
      · exact e
    have hS : ∃ n, SecI μ P M su cap n 0 W ∧ MaxG su cap P M n := ⟨_, ⟨hO, g, fr, hV, hG, rfl, fun p hp => by omega⟩, hmx⟩
    refine lf (a_iload_n dX4_match_9 rfl) ?_
    refine lf (a_aload_n dX4_match_10 rfl) ?_
    refine lf (a_getI dX4_match_11 fs_X4_36 rfl (co_327 hw)) ?_
    rw [hV.hP]
    refine lf2 (a_icmp_ge (tgt := 33) dX4_match_14 (by decide)) (fun h14 => ?_) (fun h14 => absurd h14 (fun z => z (nI_le (Nat.le_refl _) (by omega))))
    exact lf (a_loc _ rfl) (kx W hS _ _)
  | succ dd ih =>
    intro p b W hp hI
    obtain ⟨hO, g, fr, hV, hG, hb⟩ := hI
    have hw := hO.1
    refine lf (a_iload_n dX4_match_9 rfl) ?_
    refine lf (a_aload_n dX4_match_10 rfl) ?_
    refine lf (a_getI dX4_match_11 fs_X4_36 rfl (co_327 hw)) ?_
    rw [hV.hP]
    refine lf2 (a_icmp_ge (tgt := 33) dX4_match_14 (by decide)) (fun h14 => absurd h14 (nI_ge (show p < P by omega) (by omega))) (fun h14 => ?_)
    refine lf (a_iload_n dX4_match_17 rfl) ?_
    refine lf2 (a_if_eq (tgt := 33) dX4_match_18 (by decide)) (fun h18 => ?_) (fun h18 => ?_)
    · have hmx : MaxG su cap P M (szG g P) := by
        rcases hb with ⟨e, -⟩ | ⟨-, e⟩
        · rw [e] at h18; exact absurd h18 (by decide)
        · exact e
      have hS : ∃ n, SecI μ P M su cap n 0 W ∧ MaxG su cap P M n := ⟨_, ⟨hO, g, fr, hV, hG, rfl, fun p hp => by omega⟩, hmx⟩
      exact lf (a_loc _ rfl) (kx W hS _ _)
    · have hsp : szG g P = p := by
        rcases hb with ⟨-, e⟩ | ⟨e, -⟩
        · exact e
        · exact absurd e h18
      refine lf (a_aload_n dX4_match_21 rfl) ?_
      refine lf (a_iconst (0 : Int32) dX4_match_22 (by decide)) ?_
      obtain ⟨v_, W23, k23, hOc, g2, fr2, hVc, hGc, hprec, hon⟩ := (t_X4_matchOneMore hw hP hM hV hG hcap (a := 0) (Nat.zero_le _))
      have hv01 : ∃ b2, v_ = some (.int b2) := by rcases hon with ⟨e, _⟩ | ⟨e, _⟩ <;> exact ⟨_, e⟩
      obtain ⟨b2, rfl⟩ := hv01
      refine lf (a_inv (b2 := (0, 0)) k23 rfl dX4_match_23 yk_X4_matchOneMore im_X4_matchOneMore se_X4_matchOneMore ml_X4_63 rfl (co_327 hw) (by decide) hc_X4 (by decide) (by decide) (Nat.le_of_ble_eq_true rfl)) ?_
      refine lf (a_istore_n dX4_match_26 (by decide)) ?_
      refine lf (a_iincN dX4_match_27 rfl (by decide)) ?_
      refine lf (a_goto (tgt := 9) dX4_match_30 (by decide)) ?_
      refine lf (a_loc _ rfl) (ih (p + 1) b2 _ (by omega) ⟨hO.trans hOc, g2, fr2, hVc, hGc, ?_⟩)
      rcases hon with ⟨e, hs⟩ | ⟨e, e2, e3, R, hR1, hR2⟩
      · injection e with e; injection e with e
        exact Or.inl ⟨e, by omega⟩
      · injection e with e; injection e with e
        subst e2
        refine Or.inr ⟨e, fun g' hg' => ?_⟩
        subst e3
        exact koe (first := 0) hGc.1 hg' (fun i hi => by omega) (fun y hy hR => by
          have := hGc.2 y hy
          rw [hR1 y hy hR] at this
          exact this) hR2
theorem l_X4_match_74 (hP : P ≤ 40) (hM : M ≤ 12) (hcap : ∀ m, m < M → cap m < 2 ^ 30) {n p l : Nat} (hmax : MaxG su cap P M n) (hp : p < P) (hl : l ≤ M) {Q : Oc → Wd → Prop} (kx : ∀ W, SecI μ P M su cap n (p + 1) W → WP Y_X4_match R_X4_match (0, 0) W 124 [(0, .ref 327), (1, .ref f), (3, .int (nI p))] [] Q) : ∀ (dd m : Nat) (b : Int32) (W : Wd), m + dd = l → ThiI μ P M su cap n p l m b W → WP Y_X4_match R_X4_match (0, 0) W 74 [(0, .ref 327), (1, .ref f), (3, .int (nI p)), (4, .int (nI l)), (5, .int (b)), (6, .int (nI m))] [] Q := by
  have hend : ∀ m b W, ThiI μ P M su cap n p l m b W → (m = l ∨ b ≠ 0) → SecI μ P M su cap n (p + 1) W := by
    rintro m b W ⟨hO, g, fr, hV, hG, hs, hlx, hb⟩ hmb
    refine ⟨hO, g, fr, hV, hG, hs, ?_⟩
    rcases hb with ⟨-, e⟩ | ⟨eb, e1, e2⟩
    · exact e
    · obtain rfl : m = l := hmb.resolve_right fun z => z eb
      refine hlx.succ fun g' h1 h2 h3 => ?_
      have hno := fun x hx => e2 x hx g' h1 h2 h3
      rcases e1 with e1 | ⟨e1, e4⟩
      · rw [e1]
        cases z : g' p with
        | none => exact trivial
        | some x => exact Nat.le_of_not_lt fun c => hno x c z
      · rw [e1]
        cases z : g' p with
        | none => exact trivial
        | some x => exact absurd z (hno x (by rw [e4]; exact (h1.1 p x hp z).1))
  intro dd
  induction dd with
  | zero =>
    intro m b W hm hI
    obtain rfl : l = m := by omega
    have hS := hend l b W hI (Or.inl rfl)
    refine lf (a_iload dX4_match_74 rfl) ?_
    refine lf (a_iload dX4_match_76 rfl) ?_
    refine lf2 (a_icmp_ge (tgt := 124) dX4_match_78 (by decide)) (fun h78 => ?_) (fun h78 => absurd h78 (fun z => z (nI_le (Nat.le_refl _) (by omega))))
    exact lf (a_loc _ rfl) (kx W hS)
  | succ dd ih =>
    intro m b W hm hI
    have hI0 := hI
    obtain ⟨hO, g, fr, hV, hG, hs, hlx, hb⟩ := hI
    have hw := hO.1
    have p40 : p < 40 := by omega
    refine lf (a_iload dX4_match_74 rfl) ?_
    refine lf (a_iload dX4_match_76 rfl) ?_
    refine lf2 (a_icmp_ge (tgt := 124) dX4_match_78 (by decide)) (fun h78 => absurd h78 (nI_ge (show m < l by omega) (by omega))) (fun h78 => ?_)
    refine lf (a_iload dX4_match_81 rfl) ?_
    refine lfn (a_if_ne (tgt := 124) dX4_match_83 (by decide)) (fun h83 => ?_) (fun h83 => ?_)
    · have hS := hend m b W hI0 (Or.inr h83)
      exact lf (a_loc _ rfl) (kx W hS)
    · refine lf (a_aload_n dX4_match_86 rfl) ?_
      refine lf (a_getR (cr_327_2 hw) dX4_match_87 fs_X4_9 rfl (co_327 hw)) ?_
      refine lf (a_iload_n dX4_match_90 rfl) ?_
      refine lf (a_ild dX4_match_91 (ca_328 hw) (ixn p40 (by decide))) ?_
      rw [hV.hsu hp]
      refine lf (a_iload dX4_match_92 rfl) ?_
      refine lf (a_ishr dX4_match_94) ?_
      refine lf (a_iconst (1 : Int32) dX4_match_95 (by decide)) ?_
      refine lf (a_iand dX4_match_96) ?_
      refine lf (a_iconst (1 : Int32) dX4_match_97 (by decide)) ?_
      refine lfn (a_icmp_ne (tgt := 115) dX4_match_98 (by decide)) (fun h98 => ?_) (fun h98 => ?_)
      · have h98' : ¬ bt (su p) m = true := fun z => h98 ((b_test (su p) (show m < 32 by omega)).mpr z)
        refine lf (a_iconst (0 : Int32) dX4_match_115 (by decide)) ?_
        refine lf (a_istore dX4_match_116 (by decide)) ?_
        refine lf (a_iincN dX4_match_118 rfl (by decide)) ?_
        refine lf (a_goto (tgt := 74) dX4_match_121 (by decide)) ?_
        first
        | (refine lf (a_loc _ rfl) (ih (m + 1) 0 W (by omega) ⟨hO, g, fr, hV, hG, hs, hlx, Or.inr ⟨rfl, ?_⟩⟩)
           rcases hb with ⟨e, -⟩ | ⟨-, e1, e2⟩
           · rw [e] at h83; exact absurd h83 (by decide)
           · refine ⟨e1, fun x hx h h1 h2 h3 h4 => ?_⟩
             by_cases z : x = m
             · subst z; exact h98' (h1.1 p x hp h4).2
             · exact e2 x (by omega) h h1 h2 h3 h4)
        | (refine lf (a_loc _ rfl) (ih (m + 1) 0 W105 (by omega) ⟨hO.trans hOc, g2, fr2, hVc, hGc, hs2, hlx.pre hprec, Or.inr ⟨rfl, ?_⟩⟩)
           rcases hon with ⟨e, -⟩ | ⟨-, e1, e2⟩
           · injection e with e; injection e with e; rw [e] at h108; exact absurd h108 (by decide)
           · rw [e1]
             refine ⟨hgp, fun x hx h h1 h2 h3 => ?_⟩
             have h3' : ∀ i, i < p → h i = g i := fun i hi => (h3 i hi).trans (hprec i hi)
             by_cases z : x = m
             · subst z; exact e2 h h1 h2 h3'
             · exact hno x (by omega) h h1 h2 h3')
        | (refine lf (a_loc _ rfl) (ih (m + 1) 1 W105 (by omega) ⟨hO.trans hOc, g2, fr2, hVc, hGc, hs2, hlx.pre hprec, Or.inl ⟨rfl, (hlx.pre hprec).succ fun g' h1 h2 h3 => ?_⟩⟩)
           rcases hon with ⟨-, e⟩ | ⟨e, -⟩
           · rw [e]
             have h3' : ∀ i, i < p → g' i = g i := fun i hi => (h3 i hi).trans (hprec i hi)
             cases z : g' p with
             | none => exact trivial
             | some x => exact Nat.le_of_not_lt fun c => hno x c g' h1 h2 h3' z
           · injection e with e; injection e with e; exact absurd e h108)
      · have h98' : bt (su p) m = true := (b_test (su p) (show m < 32 by omega)).mp h98
        obtain ⟨hgp, hno⟩ : (g p = some l ∨ (g p = none ∧ l = M)) ∧ ∀ x, x < m → ∀ h, MtG (fun p m => bt (su p) m) cap P M h → szG h P = n → (∀ i, i < p → h i = g i) → h p ≠ some x := by
          rcases hb with ⟨e, -⟩ | ⟨-, e⟩
          · rw [e] at h83; exact absurd h83 (by decide)
          · exact e
        have hpm : g p ≠ some m := by
          rcases hgp with e | ⟨e, -⟩
          · rw [e]; intro z; injection z with z; omega
          · rw [e]; exact fun z => nomatch z
        refine lf (a_aload_n dX4_match_101 rfl) ?_
        refine lf (a_iload_n dX4_match_102 rfl) ?_
        refine lf (a_iload dX4_match_103 rfl) ?_
        obtain ⟨v_, W105, k105, hOc, g2, fr2, hVc, hGc, hs2, hprec, hon⟩ := (t_X4_canHave hw hP hM hV hG hcap hs hmax hp (show m < M by omega) h98' hpm)
        have hv01 : ∃ b2, v_ = some (.int b2) := by rcases hon with ⟨e, _⟩ | ⟨e, _⟩ <;> exact ⟨_, e⟩
        obtain ⟨b2, rfl⟩ := hv01
        refine lf (a_inv (b2 := (0, 0)) k105 rfl dX4_match_105 yk_X4_canHave im_X4_canHave se_X4_canHave ml_X4_67 rfl (co_327 hw) (by decide) hc_X4 (by decide) (by decide) (Nat.le_of_ble_eq_true rfl)) ?_
        refine lf2 (a_if_eq (tgt := 115) dX4_match_108 (by decide)) (fun h108 => ?_) (fun h108 => ?_)
        · refine lf (a_iconst (0 : Int32) dX4_match_115 (by decide)) ?_
          refine lf (a_istore dX4_match_116 (by decide)) ?_
          refine lf (a_iincN dX4_match_118 rfl (by decide)) ?_
          refine lf (a_goto (tgt := 74) dX4_match_121 (by decide)) ?_
          first
          | (refine lf (a_loc _ rfl) (ih (m + 1) 0 W (by omega) ⟨hO, g, fr, hV, hG, hs, hlx, Or.inr ⟨rfl, ?_⟩⟩)
             rcases hb with ⟨e, -⟩ | ⟨-, e1, e2⟩
             · rw [e] at h83; exact absurd h83 (by decide)
             · refine ⟨e1, fun x hx h h1 h2 h3 h4 => ?_⟩
               by_cases z : x = m
               · subst z; exact h98' (h1.1 p x hp h4).2
               · exact e2 x (by omega) h h1 h2 h3 h4)
          | (refine lf (a_loc _ rfl) (ih (m + 1) 0 W105 (by omega) ⟨hO.trans hOc, g2, fr2, hVc, hGc, hs2, hlx.pre hprec, Or.inr ⟨rfl, ?_⟩⟩)
             rcases hon with ⟨e, -⟩ | ⟨-, e1, e2⟩
             · injection e with e; injection e with e; rw [e] at h108; exact absurd h108 (by decide)
             · rw [e1]
               refine ⟨hgp, fun x hx h h1 h2 h3 => ?_⟩
               have h3' : ∀ i, i < p → h i = g i := fun i hi => (h3 i hi).trans (hprec i hi)
               by_cases z : x = m
               · subst z; exact e2 h h1 h2 h3'
               · exact hno x (by omega) h h1 h2 h3')
          | (refine lf (a_loc _ rfl) (ih (m + 1) 1 W105 (by omega) ⟨hO.trans hOc, g2, fr2, hVc, hGc, hs2, hlx.pre hprec, Or.inl ⟨rfl, (hlx.pre hprec).succ fun g' h1 h2 h3 => ?_⟩⟩)
             rcases hon with ⟨-, e⟩ | ⟨e, -⟩
             · rw [e]
               have h3' : ∀ i, i < p → g' i = g i := fun i hi => (h3 i hi).trans (hprec i hi)
               cases z : g' p with
               | none => exact trivial
               | some x => exact Nat.le_of_not_lt fun c => hno x c g' h1 h2 h3' z
             · injection e with e; injection e with e; exact absurd e h108)
        · refine lf (a_iconst (1 : Int32) dX4_match_111 (by decide)) ?_
          refine lf (a_goto (tgt := 116) dX4_match_112 (by decide)) ?_
          refine lf (a_istore dX4_match_116 (by decide)) ?_
          refine lf (a_iincN dX4_match_118 rfl (by decide)) ?_
          refine lf (a_goto (tgt := 74) dX4_match_121 (by decide)) ?_
          first
          | (refine lf (a_loc _ rfl) (ih (m + 1) 0 W (by omega) ⟨hO, g, fr, hV, hG, hs, hlx, Or.inr ⟨rfl, ?_⟩⟩)
             rcases hb with ⟨e, -⟩ | ⟨-, e1, e2⟩
             · rw [e] at h83; exact absurd h83 (by decide)
             · refine ⟨e1, fun x hx h h1 h2 h3 h4 => ?_⟩
               by_cases z : x = m
               · subst z; exact h98' (h1.1 p x hp h4).2
               · exact e2 x (by omega) h h1 h2 h3 h4)
          | (refine lf (a_loc _ rfl) (ih (m + 1) 0 W105 (by omega) ⟨hO.trans hOc, g2, fr2, hVc, hGc, hs2, hlx.pre hprec, Or.inr ⟨rfl, ?_⟩⟩)
             rcases hon with ⟨e, -⟩ | ⟨-, e1, e2⟩
             · injection e with e; injection e with e; rw [e] at h108; exact absurd h108 (by decide)
             · rw [e1]
               refine ⟨hgp, fun x hx h h1 h2 h3 => ?_⟩
               have h3' : ∀ i, i < p → h i = g i := fun i hi => (h3 i hi).trans (hprec i hi)
               by_cases z : x = m
               · subst z; exact e2 h h1 h2 h3'
               · exact hno x (by omega) h h1 h2 h3')
          | (refine lf (a_loc _ rfl) (ih (m + 1) 1 W105 (by omega) ⟨hO.trans hOc, g2, fr2, hVc, hGc, hs2, hlx.pre hprec, Or.inl ⟨rfl, (hlx.pre hprec).succ fun g' h1 h2 h3 => ?_⟩⟩)
             rcases hon with ⟨-, e⟩ | ⟨e, -⟩
             · rw [e]
               have h3' : ∀ i, i < p → g' i = g i := fun i hi => (h3 i hi).trans (hprec i hi)
               cases z : g' p with
               | none => exact trivial
               | some x => exact Nat.le_of_not_lt fun c => hno x c g' h1 h2 h3' z
             · injection e with e; injection e with e; exact absurd e h108)
theorem l_X4_match_35 (hP : P ≤ 40) (hM : M ≤ 12) (hcap : ∀ m, m < M → cap m < 2 ^ 30) {n : Nat} (hmax : MaxG su cap P M n) {Q : Oc → Wd → Prop} (kx : ∀ W, SecI μ P M su cap n P W → WP Y_X4_match R_X4_match (0, 0) W 130 [(0, .ref 327), (1, .ref f), (3, .int (nI P))] [] Q) : ∀ (dd p : Nat) (W : Wd), p + dd = P → SecI μ P M su cap n p W → WP Y_X4_match R_X4_match (0, 0) W 35 [(0, .ref 327), (1, .ref f), (3, .int (nI p))] [] Q := by
  intro dd
  induction dd with
  | zero =>
    intro p W hp hI
    obtain rfl : P = p := by omega
    have hI0 := hI
    obtain ⟨hO, g, fr, hV, hG, hs, hlx⟩ := hI
    have hw := hO.1
    refine lf (a_iload_n dX4_match_35 rfl) ?_
    refine lf (a_aload_n dX4_match_36 rfl) ?_
    refine lf (a_getI dX4_match_37 fs_X4_36 rfl (co_327 hw)) ?_
    rw [hV.hP]
    refine lf2 (a_icmp_ge (tgt := 130) dX4_match_40 (by decide)) (fun h40 => ?_) (fun h40 => absurd h40 (fun z => z (nI_le (Nat.le_refl _) (by omega))))
    exact lf (a_loc _ rfl) (kx W hI0)
  | succ dd ih =>
    intro p W hp hI
    obtain ⟨hO, g, fr, hV, hG, hs, hlx⟩ := hI
    have hw := hO.1
    have p40 : p < 40 := by omega
    have kz : ∀ V, SecI μ P M su cap n (p + 1) V → WP Y_X4_match R_X4_match (0, 0) V 124 [(0, .ref 327), (1, .ref f), (3, .int (nI p))] [] Q := fun V hV => by
      refine lf (a_iincN dX4_match_124 rfl (by decide)) ?_
      refine lf (a_goto (tgt := 35) dX4_match_127 (by decide)) ?_
      exact lf (a_loc _ rfl) (ih (p + 1) V (by omega) hV)
    refine lf (a_iload_n dX4_match_35 rfl) ?_
    refine lf (a_aload_n dX4_match_36 rfl) ?_
    refine lf (a_getI dX4_match_37 fs_X4_36 rfl (co_327 hw)) ?_
    rw [hV.hP]
    refine lf2 (a_icmp_ge (tgt := 130) dX4_match_40 (by decide)) (fun h40 => absurd h40 (nI_ge (show p < P by omega) (by omega))) (fun h40 => ?_)
    refine lf (a_aload_n dX4_match_43 rfl) ?_
    refine lf (a_getR (cr_327_3 hw) dX4_match_44 fs_X4_15 rfl (co_327 hw)) ?_
    refine lf (a_iload_n dX4_match_47 rfl) ?_
    refine lf (a_ild dX4_match_48 (ca_329 hw) (ixn p40 (by decide))) ?_
    rw [hV.hgo (by omega)]
    refine lf (a_iconst (-1 : Int32) dX4_match_49 (by decide)) ?_
    refine lfn (a_icmp_ne (tgt := 60) dX4_match_50 (by decide)) (fun h50 => ?_) (fun h50 => ?_)
    · obtain ⟨x, hgx⟩ : ∃ x, g p = some x := by
        cases e : g p with
        | none => rw [e] at h50; exact absurd rfl h50
        | some x => exact ⟨x, rfl⟩
      have hxM := hG.lt p x (by omega) hgx
      refine lf (a_aload_n dX4_match_60 rfl) ?_
      refine lf (a_getR (cr_327_3 hw) dX4_match_61 fs_X4_15 rfl (co_327 hw)) ?_
      refine lf (a_iload_n dX4_match_64 rfl) ?_
      refine lf (a_ild dX4_match_65 (ca_329 hw) (ixn p40 (by decide))) ?_
      rw [hV.hgo (by omega), hgx, show oI (some x) = nI x from rfl]
      refine lf (a_istore dX4_match_66 (by decide)) ?_
      refine lf (a_iconst (0 : Int32) dX4_match_68 (by decide)) ?_
      refine lf (a_istore dX4_match_69 (by decide)) ?_
      refine lf (a_iconst (0 : Int32) dX4_match_71 (by decide)) ?_
      refine lf (a_istore dX4_match_72 (by decide)) ?_
      first
      | exact lf (a_loc [(0, .ref 327), (1, .ref f), (3, .int (nI p)), (4, .int (nI M)), (5, .int 0), (6, .int (nI 0))] rfl) (l_X4_match_74 hP hM hcap hmax (show p < P by omega) (Nat.le_refl M) (kz) M 0 0 W (by omega) ⟨hO, g, fr, hV, hG, hs, hlx, Or.inr ⟨rfl, Or.inr ⟨hgn, rfl⟩, fun x hx => by omega⟩⟩)
      | exact lf (a_loc [(0, .ref 327), (1, .ref f), (3, .int (nI p)), (4, .int (nI x)), (5, .int 0), (6, .int (nI 0))] rfl) (l_X4_match_74 hP hM hcap hmax (show p < P by omega) (Nat.le_of_lt hxM) (kz) x 0 0 W (by omega) ⟨hO, g, fr, hV, hG, hs, hlx, Or.inr ⟨rfl, Or.inl hgx, fun x hx => by omega⟩⟩)
    · have hgn : g p = none := oI_inj (fun m z => by have := hG.lt p m (by omega) z; omega) (fun m z => nomatch z) h50
      refine lf (a_aload_n dX4_match_53 rfl) ?_
      refine lf (a_getI dX4_match_54 fs_X4_48 rfl (co_327 hw)) ?_
      rw [hV.hM]
      refine lf (a_goto (tgt := 66) dX4_match_57 (by decide)) ?_
      refine lf (a_istore dX4_match_66 (by decide)) ?_
      refine lf (a_iconst (0 : Int32) dX4_match_68 (by decide)) ?_
      refine lf (a_istore dX4_match_69 (by decide)) ?_
      refine lf (a_iconst (0 : Int32) dX4_match_71 (by decide)) ?_
      refine lf (a_istore dX4_match_72 (by decide)) ?_
      first
      | exact lf (a_loc [(0, .ref 327), (1, .ref f), (3, .int (nI p)), (4, .int (nI M)), (5, .int 0), (6, .int (nI 0))] rfl) (l_X4_match_74 hP hM hcap hmax (show p < P by omega) (Nat.le_refl M) (kz) M 0 0 W (by omega) ⟨hO, g, fr, hV, hG, hs, hlx, Or.inr ⟨rfl, Or.inr ⟨hgn, rfl⟩, fun x hx => by omega⟩⟩)
      | exact lf (a_loc [(0, .ref 327), (1, .ref f), (3, .int (nI p)), (4, .int (nI x)), (5, .int 0), (6, .int (nI 0))] rfl) (l_X4_match_74 hP hM hcap hmax (show p < P by omega) (Nat.le_of_lt hxM) (kz) x 0 0 W (by omega) ⟨hO, g, fr, hV, hG, hs, hlx, Or.inr ⟨rfl, Or.inl hgx, fun x hx => by omega⟩⟩)
end
theorem t_X4_match (hw : Wf μ) (hv : FV μ f p d) (hq : PV μ p q) (hcap : ∀ k, k < pM q → ldD q d k = nI (cap k)) (hcb : ∀ k, k < pM q → cap k < 2 ^ 30) : CV Y_X4_match R_X4_match [.ref 327, .ref f] μ (fun v V => v = none ∧ Out sM μ V ∧ ∃ g n, (∀ i, i < dP d → gI V 329 i = oI (g i)) ∧ LexG (fun p m => bt (suM q d p) m) cap (dP d) (pM q) g n) := by
  refine CV.ent yk_X4_match (Nat.le_of_ble_eq_true rfl) ?_
  have hf := hv.fl
  have hpl := hq.pl
  have hp := hv.rp
  have hP4 := hv.P4
  have hM4 := hq.M4
  refine lf (a_aload_n dX4_match_0 rfl) ?_
  refine lf (a_aload_n dX4_match_1 rfl) ?_
  obtain ⟨v_, W2, k2, rfl, hOb, hVb⟩ := (t_X4_begin hw hv hq hcap)
  refine lf (a_inv (b2 := (0, 0)) k2 rfl dX4_match_2 yk_X4_begin im_X4_begin se_X4_begin ml_X4_59 rfl (co_327 hw) (by decide) hc_X4 (by decide) (by decide) (Nat.le_of_ble_eq_true rfl)) ?_
  refine lf (a_iconst (1 : Int32) dX4_match_5 (by decide)) ?_
  refine lf (a_istore_n dX4_match_6 (by decide)) ?_
  refine lf (a_iconst (0 : Int32) dX4_match_7 (by decide)) ?_
  refine lf (a_istore_n dX4_match_8 (by decide)) ?_
  have hG0 : GA (suM q d) cap (dP d) (pM q) (fun _ => none) cap := ⟨fun _ _ _ e => (nomatch e), fun m hm => by
    have : cntG (fun _ => none) (dP d) m = 0 := fb_ct_zero.mpr fun k _ => rfl
    omega⟩
  refine lf (a_loc [(0, .ref 327), (1, .ref f), (2, .int (1)), (3, .int (nI 0))] rfl) (l_X4_match_9 hP4 hM4 hcb (μ := μ) (fun W hI b k => ?_) (dP d) 0 1 _ (by omega) ⟨hOb, _, _, hVb, hG0, Or.inl ⟨rfl, fb_ct_zero.mpr fun k _ => rfl⟩⟩)
  obtain ⟨n, hS, hmax⟩ := hI
  refine lf (a_iconst (0 : Int32) dX4_match_33 (by decide)) ?_
  refine lf (a_istore_n dX4_match_34 (by decide)) ?_
  refine lf (a_loc [(0, .ref 327), (1, .ref f), (3, .int (nI 0))] rfl) (l_X4_match_35 hP4 hM4 hcb hmax (fun V hV => ?_) (dP d) 0 W (by omega) hS)
  obtain ⟨hO2, g2, fr2, hV2, hG2, hs2, hlx2⟩ := hV
  exact ⟨_, _, a_return dX4_match_130 rfl, _, rfl, rfl, hO2, g2, n, hV2.2.2.2.1, ⟨hG2.mt, hs2, hmax⟩, hlx2⟩
end MATCHF
