section LOADO
variable {μ W V : Wd} {p f g : Nat} {q : PDt} {d d2 e : FDt} {H : Hst} {S : Nat → Option FDt}
/-- the trial t, with the meals from m on as in d -/
def LoI (d t : FDt) (m : Nat) : Prop := dU t = dU d ∧ (∀ a i, a < 7 → dF t a i = dF d a i) ∧ ∀ k i, m ≤ i → dF t (7 + k) i = dF d (7 + k) i
theorem LoI.st {t : FDt} {m : Nat} (h : LoI d t m) (n : Nat) : LoI d (stM q m n t).2 (m + 1) := by
  have hlo := stM_lo (q := q) (k := m) n t
  exact ⟨hlo.2.1.trans h.1, fun a i ha => (hlo.2.2.2.1 a i ha).trans (h.2.1 a i ha), fun k i hi => (hlo.2.2.2.2 k i (by omega)).trans (h.2.2 k i (by omega))⟩
theorem soF_s (q : PDt) (u : Nat → Int32) (c m : Nat) (a : Int32) (d : FDt) : soF q u (c + 1) m a d = if nI (stM q m (nN (msD q d m (u m))) d).1 < msD q d m (u m) then (none, (stM q m (nN (msD q d m (u m))) d).2) else soF q u c (m + 1) (a + msD q d m (u m)) (stM q m (nN (msD q d m (u m))) d).2 := rfl
abbrev R_X10_loadOrder : Room := { frames := 10, cells := 0, slots := 0, locals := 202 }
abbrev RX_X10_loadOrder : Room := { frames := 10, cells := 1, slots := 6, locals := 202 }

theorem l_X10_loadOrder_24 {u : Nat → Int32} {s : Int32} {t2 : FDt} {Q : Oc → Wd → Prop} : ∀ c m (a : Int32) (W : Wd) (t : FDt), m + c = pM q → Wf W → FV W 24 p d → PV W p q → FV W 41 p t → (∀ i, i < 12 → gI W 325 i = u i) → LoI d t m → soF q u c m a t = (some s, t2) →
    (∀ V : Wd, FV V 41 p t2 → Out (sFl 41) W V → WP Y_X10_loadOrder R_X10_loadOrder (0, 0) V 85 [(0, .ref 0), (2, .int s)] [] Q) →
    WP Y_X10_loadOrder R_X10_loadOrder (0, 0) W 24 [(0, .ref 0), (1, .ref 324), (2, .int a), (3, .int (nI m))] [] Q := by
  intro c
  induction c with
  | zero =>
    intro m a W t hm hw hv hq hvt hu hI h kx
    have hM4 := hq.M4
    have h : (some a, t) = (some s, t2) := h
    obtain ⟨g1, g2⟩ := Prod.mk.inj h
    obtain rfl := Option.some.inj g1
    subst g2
    refine lf (a_iload_n dX10_loadOrder_24 rfl) ?_
    refine lf (a_aload_n dX10_loadOrder_25 rfl) ?_
    refine lf (a_getR (cr_0_7 hw) dX10_loadOrder_26 fs_X10_28 rfl (co_0 hw)) ?_
    refine lf (a_getR hv.rp dX10_loadOrder_29 fs_X10_116 rfl (fl_o hw fl_now)) ?_
    refine lf (a_getI dX10_loadOrder_32 fs_X10_142 rfl (pl_o hw hq.pl)) ?_
    rw [hq.hM]
    refine lf2 (a_icmp_ge (tgt := 85) dX10_loadOrder_35 (by decide)) (fun h35 => ?_) (fun h35 => absurd h35 (fun z => z (nI_le (show pM q ≤ m by omega) (by omega))))
    exact lf (a_loc _ rfl) (kx W hvt (Out.rfl' hw))
  | succ c ih =>
    intro m a W t hm hw hv hq hvt hu hI h kx
    have hM4 := hq.M4
    obtain ⟨hms, hms2⟩ := msD_N q t m (u m)
    have hmd : msD q t m (u m) = msD q d m (u m) := msD_congr hI.1 hI.2.1 (fun k _ => hI.2.2 k m (Nat.le_refl _)) (u m)
    have hSt := v_X1_put hw hvt hq (show m < pM q by omega) (n := nN (msD q t m (u m))) hms2
    rw [← hms] at hSt
    rw [soF_s] at h
    have hge : ¬ nI (stM q m (nN (msD q t m (u m))) t).1 < msD q t m (u m) := fun z => by
      rw [if_pos z] at h
      exact absurd (congrArg Prod.fst h) (fun z => by cases z)
    rw [if_neg hge] at h
    refine lf (a_iload_n dX10_loadOrder_24 rfl) ?_
    refine lf (a_aload_n dX10_loadOrder_25 rfl) ?_
    refine lf (a_getR (cr_0_7 (by repeat (first | with_reducible exact hw | with_reducible exact hwc | with_reducible assumption | with_reducible apply Wf.sI | with_reducible apply Wf.sL | with_reducible apply Wf.cpI | with_reducible apply Wf.cpL | with_reducible apply Wf.cp2 | with_reducible apply Wf.sIs | with_reducible apply Wf.sLs | with_reducible apply Wf.cpU | with_reducible apply Wf.fillI | with_reducible apply Wf.clU | with_reducible apply Wf.dnF | with_reducible apply Wf.gbW))) dX10_loadOrder_26 fs_X10_28 rfl (co_0 (by repeat (first | with_reducible exact hw | with_reducible exact hwc | with_reducible assumption | with_reducible apply Wf.sI | with_reducible apply Wf.sL | with_reducible apply Wf.cpI | with_reducible apply Wf.cpL | with_reducible apply Wf.cp2 | with_reducible apply Wf.sIs | with_reducible apply Wf.sLs | with_reducible apply Wf.cpU | with_reducible apply Wf.fillI | with_reducible apply Wf.clU | with_reducible apply Wf.dnF | with_reducible apply Wf.gbW)))) ?_
    refine lf (a_getR hv.rp dX10_loadOrder_29 fs_X10_116 rfl (fl_o (by repeat (first | with_reducible exact hw | with_reducible exact hwc | with_reducible assumption | with_reducible apply Wf.sI | with_reducible apply Wf.sL | with_reducible apply Wf.cpI | with_reducible apply Wf.cpL | with_reducible apply Wf.cp2 | with_reducible apply Wf.sIs | with_reducible apply Wf.sLs | with_reducible apply Wf.cpU | with_reducible apply Wf.fillI | with_reducible apply Wf.clU | with_reducible apply Wf.dnF | with_reducible apply Wf.gbW)) fl_now)) ?_
    refine lf (a_getI dX10_loadOrder_32 fs_X10_142 rfl (pl_o (by repeat (first | with_reducible exact hw | with_reducible exact hwc | with_reducible assumption | with_reducible apply Wf.sI | with_reducible apply Wf.sL | with_reducible apply Wf.cpI | with_reducible apply Wf.cpL | with_reducible apply Wf.cp2 | with_reducible apply Wf.sIs | with_reducible apply Wf.sLs | with_reducible apply Wf.cpU | with_reducible apply Wf.fillI | with_reducible apply Wf.clU | with_reducible apply Wf.dnF | with_reducible apply Wf.gbW)) hq.pl)) ?_
    rw [hq.hM]
    refine lf2 (a_icmp_ge (tgt := 85) dX10_loadOrder_35 (by decide)) (fun h35 => absurd h35 (nI_ge (show m < pM q by omega) (by omega))) (fun h35 => ?_)
    refine lf (a_aload_n dX10_loadOrder_38 rfl) ?_
    refine lf (a_getR (cr_0_7 (by repeat (first | with_reducible exact hw | with_reducible exact hwc | with_reducible assumption | with_reducible apply Wf.sI | with_reducible apply Wf.sL | with_reducible apply Wf.cpI | with_reducible apply Wf.cpL | with_reducible apply Wf.cp2 | with_reducible apply Wf.sIs | with_reducible apply Wf.sLs | with_reducible apply Wf.cpU | with_reducible apply Wf.fillI | with_reducible apply Wf.clU | with_reducible apply Wf.dnF | with_reducible apply Wf.gbW))) dX10_loadOrder_39 fs_X10_28 rfl (co_0 (by repeat (first | with_reducible exact hw | with_reducible exact hwc | with_reducible assumption | with_reducible apply Wf.sI | with_reducible apply Wf.sL | with_reducible apply Wf.cpI | with_reducible apply Wf.cpL | with_reducible apply Wf.cp2 | with_reducible apply Wf.sIs | with_reducible apply Wf.sLs | with_reducible apply Wf.cpU | with_reducible apply Wf.fillI | with_reducible apply Wf.clU | with_reducible apply Wf.dnF | with_reducible apply Wf.gbW)))) ?_
    refine lf (a_iload_n dX10_loadOrder_42 rfl) ?_
    refine lf (a_aload_n dX10_loadOrder_43 rfl) ?_
    refine lf (a_getR (cr_324_0 (by repeat (first | with_reducible exact hw | with_reducible exact hwc | with_reducible assumption | with_reducible apply Wf.sI | with_reducible apply Wf.sL | with_reducible apply Wf.cpI | with_reducible apply Wf.cpL | with_reducible apply Wf.cp2 | with_reducible apply Wf.sIs | with_reducible apply Wf.sLs | with_reducible apply Wf.cpU | with_reducible apply Wf.fillI | with_reducible apply Wf.clU | with_reducible apply Wf.dnF | with_reducible apply Wf.gbW))) dX10_loadOrder_44 fs_X10_236 rfl (co_324 (by repeat (first | with_reducible exact hw | with_reducible exact hwc | with_reducible assumption | with_reducible apply Wf.sI | with_reducible apply Wf.sL | with_reducible apply Wf.cpI | with_reducible apply Wf.cpL | with_reducible apply Wf.cp2 | with_reducible apply Wf.sIs | with_reducible apply Wf.sLs | with_reducible apply Wf.cpU | with_reducible apply Wf.fillI | with_reducible apply Wf.clU | with_reducible apply Wf.dnF | with_reducible apply Wf.gbW)))) ?_
    refine lf (a_iload_n dX10_loadOrder_47 rfl) ?_
    refine lf (a_ild dX10_loadOrder_48 (ca_325 (by repeat (first | with_reducible exact hw | with_reducible exact hwc | with_reducible assumption | with_reducible apply Wf.sI | with_reducible apply Wf.sL | with_reducible apply Wf.cpI | with_reducible apply Wf.cpL | with_reducible apply Wf.cp2 | with_reducible apply Wf.sIs | with_reducible apply Wf.sLs | with_reducible apply Wf.cpU | with_reducible apply Wf.fillI | with_reducible apply Wf.clU | with_reducible apply Wf.dnF | with_reducible apply Wf.gbW))) (ixn (show m < 12 by omega) (by decide))) ?_
    rw [hu m (by omega)]
    refine lf (a_inv (b2 := (0, 0)) (v_X1_missing (by repeat (first | with_reducible exact hw | with_reducible exact hwc | with_reducible assumption | with_reducible apply Wf.sI | with_reducible apply Wf.sL | with_reducible apply Wf.cpI | with_reducible apply Wf.cpL | with_reducible apply Wf.cp2 | with_reducible apply Wf.sIs | with_reducible apply Wf.sLs | with_reducible apply Wf.cpU | with_reducible apply Wf.fillI | with_reducible apply Wf.clU | with_reducible apply Wf.dnF | with_reducible apply Wf.gbW)) hv hq (show m < 12 by omega) (u m)) rfl dX10_loadOrder_49 yk_X1_missing im_X1_missing se_X1_missing ml_X10_250 rfl (fl_o (by repeat (first | with_reducible exact hw | with_reducible exact hwc | with_reducible assumption | with_reducible apply Wf.sI | with_reducible apply Wf.sL | with_reducible apply Wf.cpI | with_reducible apply Wf.cpL | with_reducible apply Wf.cp2 | with_reducible apply Wf.sIs | with_reducible apply Wf.sLs | with_reducible apply Wf.cpU | with_reducible apply Wf.fillI | with_reducible apply Wf.clU | with_reducible apply Wf.dnF | with_reducible apply Wf.gbW)) fl_now) (by decide) hc_X1 (by decide) (by decide) (Nat.le_of_ble_eq_true rfl)) ?_
    rw [← hmd]
    refine lf (a_istore dX10_loadOrder_52 (by decide)) ?_
    refine lf (a_aload_n dX10_loadOrder_54 rfl) ?_
    refine lf (a_getR (cr_0_8 (by repeat (first | with_reducible exact hw | with_reducible exact hwc | with_reducible assumption | with_reducible apply Wf.sI | with_reducible apply Wf.sL | with_reducible apply Wf.cpI | with_reducible apply Wf.cpL | with_reducible apply Wf.cp2 | with_reducible apply Wf.sIs | with_reducible apply Wf.sLs | with_reducible apply Wf.cpU | with_reducible apply Wf.fillI | with_reducible apply Wf.clU | with_reducible apply Wf.dnF | with_reducible apply Wf.gbW))) dX10_loadOrder_55 fs_X10_32 rfl (co_0 (by repeat (first | with_reducible exact hw | with_reducible exact hwc | with_reducible assumption | with_reducible apply Wf.sI | with_reducible apply Wf.sL | with_reducible apply Wf.cpI | with_reducible apply Wf.cpL | with_reducible apply Wf.cp2 | with_reducible apply Wf.sIs | with_reducible apply Wf.sLs | with_reducible apply Wf.cpU | with_reducible apply Wf.fillI | with_reducible apply Wf.clU | with_reducible apply Wf.dnF | with_reducible apply Wf.gbW)))) ?_
    refine lf (a_iload_n dX10_loadOrder_58 rfl) ?_
    refine lf (a_iload dX10_loadOrder_59 rfl) ?_
    obtain ⟨v_, W61, k61, rfl, hv61, hO61⟩ := hSt
    have hwc := hO61.wf
    have hv2 := hv.out hO61 (fun i a b y => by have := y.1; omega)
    have hq2 := hq.fl hvt.fl hO61
    have hu2 : ∀ i, i < 12 → gI W61 325 i = u i := fun i hi => (hO61.i (fun y => by have := y.2; omega) i).trans (hu i hi)
    have hI2 := hI.st (q := q) (nN (msD q t m (u m)))
    refine lf (a_inv (b2 := (0, 0)) k61 rfl dX10_loadOrder_61 yk_X1_put im_X1_put se_X1_put ml_X10_344 rfl (fl_o (by repeat (first | with_reducible exact hw | with_reducible exact hwc | with_reducible assumption | with_reducible apply Wf.sI | with_reducible apply Wf.sL | with_reducible apply Wf.cpI | with_reducible apply Wf.cpL | with_reducible apply Wf.cp2 | with_reducible apply Wf.sIs | with_reducible apply Wf.sLs | with_reducible apply Wf.cpU | with_reducible apply Wf.fillI | with_reducible apply Wf.clU | with_reducible apply Wf.dnF | with_reducible apply Wf.gbW)) fl_trial) (by decide) hc_X1 (by decide) (by decide) (Nat.le_of_ble_eq_true rfl)) ?_
    refine lf (a_iload dX10_loadOrder_64 rfl) ?_
    refine lf2 (a_icmp_ge (tgt := 74) dX10_loadOrder_66 (by decide)) (fun h66 => ?_) (fun h66 => absurd h66 (fun z => z (Int32.not_lt.mp hge)))
    refine lf (a_iload_n dX10_loadOrder_74 rfl) ?_
    refine lf (a_iload dX10_loadOrder_75 rfl) ?_
    refine lf (a_iadd dX10_loadOrder_77) ?_
    refine lf (a_istore_n dX10_loadOrder_78 (by decide)) ?_
    refine lf (a_iincN dX10_loadOrder_79 rfl (by decide)) ?_
    refine lf (a_goto (tgt := 24) dX10_loadOrder_82 (by decide)) ?_
    exact lf (a_loc _ rfl) (ih (m + 1) _ W61 _ (by omega) hwc hv2 hq2 hv61 hu2 hI2 h fun V k1 k2 => kx V k1 (hO61.trans k2))
theorem lx_X10_loadOrder_24 {u : Nat → Int32} : ∀ c m (a : Int32) (W : Wd) (t : FDt), m + c = pM q → Wf W → FV W 24 p d → PV W p q → FV W 41 p t → (∀ i, i < 12 → gI W 325 i = u i) → LoI d t m → (soF q u c m a t).1 = none →
    WP Y_X10_loadOrder RX_X10_loadOrder (1, 6) W 24 [(0, .ref 0), (1, .ref 324), (2, .int a), (3, .int (nI m))] [] (fun o V => o = .inr ISE ∧ ∃ Z : Wd, V = sI Z 0 6 3 ∧ Out (sFl 41) W Z) := by
  intro c
  induction c with
  | zero =>
    intro m a W t hm hw hv hq hvt hu hI h
    cases h
  | succ c ih =>
    intro m a W t hm hw hv hq hvt hu hI h
    have hM4 := hq.M4
    obtain ⟨hms, hms2⟩ := msD_N q t m (u m)
    have hmd : msD q t m (u m) = msD q d m (u m) := msD_congr hI.1 hI.2.1 (fun k _ => hI.2.2 k m (Nat.le_refl _)) (u m)
    have hSt := v_X1_put hw hvt hq (show m < pM q by omega) (n := nN (msD q t m (u m))) hms2
    rw [← hms] at hSt
    rw [soF_s] at h
    by_cases hlt : nI (stM q m (nN (msD q t m (u m))) t).1 < msD q t m (u m)
    · refine lf (a_iload_n dX10_loadOrder_24 rfl) ?_
      refine lf (a_aload_n dX10_loadOrder_25 rfl) ?_
      refine lf (a_getR (cr_0_7 (by repeat (first | with_reducible exact hw | with_reducible exact hwc | with_reducible assumption | with_reducible apply Wf.sI | with_reducible apply Wf.sL | with_reducible apply Wf.cpI | with_reducible apply Wf.cpL | with_reducible apply Wf.cp2 | with_reducible apply Wf.sIs | with_reducible apply Wf.sLs | with_reducible apply Wf.cpU | with_reducible apply Wf.fillI | with_reducible apply Wf.clU | with_reducible apply Wf.dnF | with_reducible apply Wf.gbW))) dX10_loadOrder_26 fs_X10_28 rfl (co_0 (by repeat (first | with_reducible exact hw | with_reducible exact hwc | with_reducible assumption | with_reducible apply Wf.sI | with_reducible apply Wf.sL | with_reducible apply Wf.cpI | with_reducible apply Wf.cpL | with_reducible apply Wf.cp2 | with_reducible apply Wf.sIs | with_reducible apply Wf.sLs | with_reducible apply Wf.cpU | with_reducible apply Wf.fillI | with_reducible apply Wf.clU | with_reducible apply Wf.dnF | with_reducible apply Wf.gbW)))) ?_
      refine lf (a_getR hv.rp dX10_loadOrder_29 fs_X10_116 rfl (fl_o (by repeat (first | with_reducible exact hw | with_reducible exact hwc | with_reducible assumption | with_reducible apply Wf.sI | with_reducible apply Wf.sL | with_reducible apply Wf.cpI | with_reducible apply Wf.cpL | with_reducible apply Wf.cp2 | with_reducible apply Wf.sIs | with_reducible apply Wf.sLs | with_reducible apply Wf.cpU | with_reducible apply Wf.fillI | with_reducible apply Wf.clU | with_reducible apply Wf.dnF | with_reducible apply Wf.gbW)) fl_now)) ?_
      refine lf (a_getI dX10_loadOrder_32 fs_X10_142 rfl (pl_o (by repeat (first | with_reducible exact hw | with_reducible exact hwc | with_reducible assumption | with_reducible apply Wf.sI | with_reducible apply Wf.sL | with_reducible apply Wf.cpI | with_reducible apply Wf.cpL | with_reducible apply Wf.cp2 | with_reducible apply Wf.sIs | with_reducible apply Wf.sLs | with_reducible apply Wf.cpU | with_reducible apply Wf.fillI | with_reducible apply Wf.clU | with_reducible apply Wf.dnF | with_reducible apply Wf.gbW)) hq.pl)) ?_
      rw [hq.hM]
      refine lf2 (a_icmp_ge (tgt := 85) dX10_loadOrder_35 (by decide)) (fun h35 => absurd h35 (nI_ge (show m < pM q by omega) (by omega))) (fun h35 => ?_)
      refine lf (a_aload_n dX10_loadOrder_38 rfl) ?_
      refine lf (a_getR (cr_0_7 (by repeat (first | with_reducible exact hw | with_reducible exact hwc | with_reducible assumption | with_reducible apply Wf.sI | with_reducible apply Wf.sL | with_reducible apply Wf.cpI | with_reducible apply Wf.cpL | with_reducible apply Wf.cp2 | with_reducible apply Wf.sIs | with_reducible apply Wf.sLs | with_reducible apply Wf.cpU | with_reducible apply Wf.fillI | with_reducible apply Wf.clU | with_reducible apply Wf.dnF | with_reducible apply Wf.gbW))) dX10_loadOrder_39 fs_X10_28 rfl (co_0 (by repeat (first | with_reducible exact hw | with_reducible exact hwc | with_reducible assumption | with_reducible apply Wf.sI | with_reducible apply Wf.sL | with_reducible apply Wf.cpI | with_reducible apply Wf.cpL | with_reducible apply Wf.cp2 | with_reducible apply Wf.sIs | with_reducible apply Wf.sLs | with_reducible apply Wf.cpU | with_reducible apply Wf.fillI | with_reducible apply Wf.clU | with_reducible apply Wf.dnF | with_reducible apply Wf.gbW)))) ?_
      refine lf (a_iload_n dX10_loadOrder_42 rfl) ?_
      refine lf (a_aload_n dX10_loadOrder_43 rfl) ?_
      refine lf (a_getR (cr_324_0 (by repeat (first | with_reducible exact hw | with_reducible exact hwc | with_reducible assumption | with_reducible apply Wf.sI | with_reducible apply Wf.sL | with_reducible apply Wf.cpI | with_reducible apply Wf.cpL | with_reducible apply Wf.cp2 | with_reducible apply Wf.sIs | with_reducible apply Wf.sLs | with_reducible apply Wf.cpU | with_reducible apply Wf.fillI | with_reducible apply Wf.clU | with_reducible apply Wf.dnF | with_reducible apply Wf.gbW))) dX10_loadOrder_44 fs_X10_236 rfl (co_324 (by repeat (first | with_reducible exact hw | with_reducible exact hwc | with_reducible assumption | with_reducible apply Wf.sI | with_reducible apply Wf.sL | with_reducible apply Wf.cpI | with_reducible apply Wf.cpL | with_reducible apply Wf.cp2 | with_reducible apply Wf.sIs | with_reducible apply Wf.sLs | with_reducible apply Wf.cpU | with_reducible apply Wf.fillI | with_reducible apply Wf.clU | with_reducible apply Wf.dnF | with_reducible apply Wf.gbW)))) ?_
      refine lf (a_iload_n dX10_loadOrder_47 rfl) ?_
      refine lf (a_ild dX10_loadOrder_48 (ca_325 (by repeat (first | with_reducible exact hw | with_reducible exact hwc | with_reducible assumption | with_reducible apply Wf.sI | with_reducible apply Wf.sL | with_reducible apply Wf.cpI | with_reducible apply Wf.cpL | with_reducible apply Wf.cp2 | with_reducible apply Wf.sIs | with_reducible apply Wf.sLs | with_reducible apply Wf.cpU | with_reducible apply Wf.fillI | with_reducible apply Wf.clU | with_reducible apply Wf.dnF | with_reducible apply Wf.gbW))) (ixn (show m < 12 by omega) (by decide))) ?_
      rw [hu m (by omega)]
      refine lf (a_inv (b2 := (1, 6)) (v_X1_missing (by repeat (first | with_reducible exact hw | with_reducible exact hwc | with_reducible assumption | with_reducible apply Wf.sI | with_reducible apply Wf.sL | with_reducible apply Wf.cpI | with_reducible apply Wf.cpL | with_reducible apply Wf.cp2 | with_reducible apply Wf.sIs | with_reducible apply Wf.sLs | with_reducible apply Wf.cpU | with_reducible apply Wf.fillI | with_reducible apply Wf.clU | with_reducible apply Wf.dnF | with_reducible apply Wf.gbW)) hv hq (show m < 12 by omega) (u m)) rfl dX10_loadOrder_49 yk_X1_missing im_X1_missing se_X1_missing ml_X10_250 rfl (fl_o (by repeat (first | with_reducible exact hw | with_reducible exact hwc | with_reducible assumption | with_reducible apply Wf.sI | with_reducible apply Wf.sL | with_reducible apply Wf.cpI | with_reducible apply Wf.cpL | with_reducible apply Wf.cp2 | with_reducible apply Wf.sIs | with_reducible apply Wf.sLs | with_reducible apply Wf.cpU | with_reducible apply Wf.fillI | with_reducible apply Wf.clU | with_reducible apply Wf.dnF | with_reducible apply Wf.gbW)) fl_now) (by decide) hc_X1 (by decide) (by decide) (Nat.le_of_ble_eq_true rfl)) ?_
      rw [← hmd]
      refine lf (a_istore dX10_loadOrder_52 (by decide)) ?_
      refine lf (a_aload_n dX10_loadOrder_54 rfl) ?_
      refine lf (a_getR (cr_0_8 (by repeat (first | with_reducible exact hw | with_reducible exact hwc | with_reducible assumption | with_reducible apply Wf.sI | with_reducible apply Wf.sL | with_reducible apply Wf.cpI | with_reducible apply Wf.cpL | with_reducible apply Wf.cp2 | with_reducible apply Wf.sIs | with_reducible apply Wf.sLs | with_reducible apply Wf.cpU | with_reducible apply Wf.fillI | with_reducible apply Wf.clU | with_reducible apply Wf.dnF | with_reducible apply Wf.gbW))) dX10_loadOrder_55 fs_X10_32 rfl (co_0 (by repeat (first | with_reducible exact hw | with_reducible exact hwc | with_reducible assumption | with_reducible apply Wf.sI | with_reducible apply Wf.sL | with_reducible apply Wf.cpI | with_reducible apply Wf.cpL | with_reducible apply Wf.cp2 | with_reducible apply Wf.sIs | with_reducible apply Wf.sLs | with_reducible apply Wf.cpU | with_reducible apply Wf.fillI | with_reducible apply Wf.clU | with_reducible apply Wf.dnF | with_reducible apply Wf.gbW)))) ?_
      refine lf (a_iload_n dX10_loadOrder_58 rfl) ?_
      refine lf (a_iload dX10_loadOrder_59 rfl) ?_
      obtain ⟨v_, W61, k61, rfl, hv61, hO61⟩ := hSt
      have hwc := hO61.wf
      have hv2 := hv.out hO61 (fun i a b y => by have := y.1; omega)
      have hq2 := hq.fl hvt.fl hO61
      have hu2 : ∀ i, i < 12 → gI W61 325 i = u i := fun i hi => (hO61.i (fun y => by have := y.2; omega) i).trans (hu i hi)
      have hI2 := hI.st (q := q) (nN (msD q t m (u m)))
      refine lf (a_inv (b2 := (1, 6)) k61 rfl dX10_loadOrder_61 yk_X1_put im_X1_put se_X1_put ml_X10_344 rfl (fl_o (by repeat (first | with_reducible exact hw | with_reducible exact hwc | with_reducible assumption | with_reducible apply Wf.sI | with_reducible apply Wf.sL | with_reducible apply Wf.cpI | with_reducible apply Wf.cpL | with_reducible apply Wf.cp2 | with_reducible apply Wf.sIs | with_reducible apply Wf.sLs | with_reducible apply Wf.cpU | with_reducible apply Wf.fillI | with_reducible apply Wf.clU | with_reducible apply Wf.dnF | with_reducible apply Wf.gbW)) fl_trial) (by decide) hc_X1 (by decide) (by decide) (Nat.le_of_ble_eq_true rfl)) ?_
      refine lf (a_iload dX10_loadOrder_64 rfl) ?_
      refine lf2 (a_icmp_ge (tgt := 74) dX10_loadOrder_66 (by decide)) (fun h66 => absurd h66 (Int32.not_le.mpr hlt)) (fun h66 => ?_)
      refine lf (a_aload_n dX10_loadOrder_69 rfl) ?_
      refine lf (a_iconst (3 : Int32) dX10_loadOrder_70 (by decide)) ?_
      exact ⟨_, _, a_invX (cx_refuse hwc 3) rfl dX10_loadOrder_71 yk_X10_refuse im_X10_refuse se_X10_refuse ml_X10_323 rfl (co_0 hwc) (by decide) hc_X10 (by decide) (by decide) (Nat.le_of_ble_eq_true rfl) rfl, rfl, _, rfl, hO61⟩
    · rw [if_neg hlt] at h
      refine lf (a_iload_n dX10_loadOrder_24 rfl) ?_
      refine lf (a_aload_n dX10_loadOrder_25 rfl) ?_
      refine lf (a_getR (cr_0_7 (by repeat (first | with_reducible exact hw | with_reducible exact hwc | with_reducible assumption | with_reducible apply Wf.sI | with_reducible apply Wf.sL | with_reducible apply Wf.cpI | with_reducible apply Wf.cpL | with_reducible apply Wf.cp2 | with_reducible apply Wf.sIs | with_reducible apply Wf.sLs | with_reducible apply Wf.cpU | with_reducible apply Wf.fillI | with_reducible apply Wf.clU | with_reducible apply Wf.dnF | with_reducible apply Wf.gbW))) dX10_loadOrder_26 fs_X10_28 rfl (co_0 (by repeat (first | with_reducible exact hw | with_reducible exact hwc | with_reducible assumption | with_reducible apply Wf.sI | with_reducible apply Wf.sL | with_reducible apply Wf.cpI | with_reducible apply Wf.cpL | with_reducible apply Wf.cp2 | with_reducible apply Wf.sIs | with_reducible apply Wf.sLs | with_reducible apply Wf.cpU | with_reducible apply Wf.fillI | with_reducible apply Wf.clU | with_reducible apply Wf.dnF | with_reducible apply Wf.gbW)))) ?_
      refine lf (a_getR hv.rp dX10_loadOrder_29 fs_X10_116 rfl (fl_o (by repeat (first | with_reducible exact hw | with_reducible exact hwc | with_reducible assumption | with_reducible apply Wf.sI | with_reducible apply Wf.sL | with_reducible apply Wf.cpI | with_reducible apply Wf.cpL | with_reducible apply Wf.cp2 | with_reducible apply Wf.sIs | with_reducible apply Wf.sLs | with_reducible apply Wf.cpU | with_reducible apply Wf.fillI | with_reducible apply Wf.clU | with_reducible apply Wf.dnF | with_reducible apply Wf.gbW)) fl_now)) ?_
      refine lf (a_getI dX10_loadOrder_32 fs_X10_142 rfl (pl_o (by repeat (first | with_reducible exact hw | with_reducible exact hwc | with_reducible assumption | with_reducible apply Wf.sI | with_reducible apply Wf.sL | with_reducible apply Wf.cpI | with_reducible apply Wf.cpL | with_reducible apply Wf.cp2 | with_reducible apply Wf.sIs | with_reducible apply Wf.sLs | with_reducible apply Wf.cpU | with_reducible apply Wf.fillI | with_reducible apply Wf.clU | with_reducible apply Wf.dnF | with_reducible apply Wf.gbW)) hq.pl)) ?_
      rw [hq.hM]
      refine lf2 (a_icmp_ge (tgt := 85) dX10_loadOrder_35 (by decide)) (fun h35 => absurd h35 (nI_ge (show m < pM q by omega) (by omega))) (fun h35 => ?_)
      refine lf (a_aload_n dX10_loadOrder_38 rfl) ?_
      refine lf (a_getR (cr_0_7 (by repeat (first | with_reducible exact hw | with_reducible exact hwc | with_reducible assumption | with_reducible apply Wf.sI | with_reducible apply Wf.sL | with_reducible apply Wf.cpI | with_reducible apply Wf.cpL | with_reducible apply Wf.cp2 | with_reducible apply Wf.sIs | with_reducible apply Wf.sLs | with_reducible apply Wf.cpU | with_reducible apply Wf.fillI | with_reducible apply Wf.clU | with_reducible apply Wf.dnF | with_reducible apply Wf.gbW))) dX10_loadOrder_39 fs_X10_28 rfl (co_0 (by repeat (first | with_reducible exact hw | with_reducible exact hwc | with_reducible assumption | with_reducible apply Wf.sI | with_reducible apply Wf.sL | with_reducible apply Wf.cpI | with_reducible apply Wf.cpL | with_reducible apply Wf.cp2 | with_reducible apply Wf.sIs | with_reducible apply Wf.sLs | with_reducible apply Wf.cpU | with_reducible apply Wf.fillI | with_reducible apply Wf.clU | with_reducible apply Wf.dnF | with_reducible apply Wf.gbW)))) ?_
      refine lf (a_iload_n dX10_loadOrder_42 rfl) ?_
      refine lf (a_aload_n dX10_loadOrder_43 rfl) ?_
      refine lf (a_getR (cr_324_0 (by repeat (first | with_reducible exact hw | with_reducible exact hwc | with_reducible assumption | with_reducible apply Wf.sI | with_reducible apply Wf.sL | with_reducible apply Wf.cpI | with_reducible apply Wf.cpL | with_reducible apply Wf.cp2 | with_reducible apply Wf.sIs | with_reducible apply Wf.sLs | with_reducible apply Wf.cpU | with_reducible apply Wf.fillI | with_reducible apply Wf.clU | with_reducible apply Wf.dnF | with_reducible apply Wf.gbW))) dX10_loadOrder_44 fs_X10_236 rfl (co_324 (by repeat (first | with_reducible exact hw | with_reducible exact hwc | with_reducible assumption | with_reducible apply Wf.sI | with_reducible apply Wf.sL | with_reducible apply Wf.cpI | with_reducible apply Wf.cpL | with_reducible apply Wf.cp2 | with_reducible apply Wf.sIs | with_reducible apply Wf.sLs | with_reducible apply Wf.cpU | with_reducible apply Wf.fillI | with_reducible apply Wf.clU | with_reducible apply Wf.dnF | with_reducible apply Wf.gbW)))) ?_
      refine lf (a_iload_n dX10_loadOrder_47 rfl) ?_
      refine lf (a_ild dX10_loadOrder_48 (ca_325 (by repeat (first | with_reducible exact hw | with_reducible exact hwc | with_reducible assumption | with_reducible apply Wf.sI | with_reducible apply Wf.sL | with_reducible apply Wf.cpI | with_reducible apply Wf.cpL | with_reducible apply Wf.cp2 | with_reducible apply Wf.sIs | with_reducible apply Wf.sLs | with_reducible apply Wf.cpU | with_reducible apply Wf.fillI | with_reducible apply Wf.clU | with_reducible apply Wf.dnF | with_reducible apply Wf.gbW))) (ixn (show m < 12 by omega) (by decide))) ?_
      rw [hu m (by omega)]
      refine lf (a_inv (b2 := (1, 6)) (v_X1_missing (by repeat (first | with_reducible exact hw | with_reducible exact hwc | with_reducible assumption | with_reducible apply Wf.sI | with_reducible apply Wf.sL | with_reducible apply Wf.cpI | with_reducible apply Wf.cpL | with_reducible apply Wf.cp2 | with_reducible apply Wf.sIs | with_reducible apply Wf.sLs | with_reducible apply Wf.cpU | with_reducible apply Wf.fillI | with_reducible apply Wf.clU | with_reducible apply Wf.dnF | with_reducible apply Wf.gbW)) hv hq (show m < 12 by omega) (u m)) rfl dX10_loadOrder_49 yk_X1_missing im_X1_missing se_X1_missing ml_X10_250 rfl (fl_o (by repeat (first | with_reducible exact hw | with_reducible exact hwc | with_reducible assumption | with_reducible apply Wf.sI | with_reducible apply Wf.sL | with_reducible apply Wf.cpI | with_reducible apply Wf.cpL | with_reducible apply Wf.cp2 | with_reducible apply Wf.sIs | with_reducible apply Wf.sLs | with_reducible apply Wf.cpU | with_reducible apply Wf.fillI | with_reducible apply Wf.clU | with_reducible apply Wf.dnF | with_reducible apply Wf.gbW)) fl_now) (by decide) hc_X1 (by decide) (by decide) (Nat.le_of_ble_eq_true rfl)) ?_
      rw [← hmd]
      refine lf (a_istore dX10_loadOrder_52 (by decide)) ?_
      refine lf (a_aload_n dX10_loadOrder_54 rfl) ?_
      refine lf (a_getR (cr_0_8 (by repeat (first | with_reducible exact hw | with_reducible exact hwc | with_reducible assumption | with_reducible apply Wf.sI | with_reducible apply Wf.sL | with_reducible apply Wf.cpI | with_reducible apply Wf.cpL | with_reducible apply Wf.cp2 | with_reducible apply Wf.sIs | with_reducible apply Wf.sLs | with_reducible apply Wf.cpU | with_reducible apply Wf.fillI | with_reducible apply Wf.clU | with_reducible apply Wf.dnF | with_reducible apply Wf.gbW))) dX10_loadOrder_55 fs_X10_32 rfl (co_0 (by repeat (first | with_reducible exact hw | with_reducible exact hwc | with_reducible assumption | with_reducible apply Wf.sI | with_reducible apply Wf.sL | with_reducible apply Wf.cpI | with_reducible apply Wf.cpL | with_reducible apply Wf.cp2 | with_reducible apply Wf.sIs | with_reducible apply Wf.sLs | with_reducible apply Wf.cpU | with_reducible apply Wf.fillI | with_reducible apply Wf.clU | with_reducible apply Wf.dnF | with_reducible apply Wf.gbW)))) ?_
      refine lf (a_iload_n dX10_loadOrder_58 rfl) ?_
      refine lf (a_iload dX10_loadOrder_59 rfl) ?_
      obtain ⟨v_, W61, k61, rfl, hv61, hO61⟩ := hSt
      have hwc := hO61.wf
      have hv2 := hv.out hO61 (fun i a b y => by have := y.1; omega)
      have hq2 := hq.fl hvt.fl hO61
      have hu2 : ∀ i, i < 12 → gI W61 325 i = u i := fun i hi => (hO61.i (fun y => by have := y.2; omega) i).trans (hu i hi)
      have hI2 := hI.st (q := q) (nN (msD q t m (u m)))
      refine lf (a_inv (b2 := (1, 6)) k61 rfl dX10_loadOrder_61 yk_X1_put im_X1_put se_X1_put ml_X10_344 rfl (fl_o (by repeat (first | with_reducible exact hw | with_reducible exact hwc | with_reducible assumption | with_reducible apply Wf.sI | with_reducible apply Wf.sL | with_reducible apply Wf.cpI | with_reducible apply Wf.cpL | with_reducible apply Wf.cp2 | with_reducible apply Wf.sIs | with_reducible apply Wf.sLs | with_reducible apply Wf.cpU | with_reducible apply Wf.fillI | with_reducible apply Wf.clU | with_reducible apply Wf.dnF | with_reducible apply Wf.gbW)) fl_trial) (by decide) hc_X1 (by decide) (by decide) (Nat.le_of_ble_eq_true rfl)) ?_
      refine lf (a_iload dX10_loadOrder_64 rfl) ?_
      refine lf2 (a_icmp_ge (tgt := 74) dX10_loadOrder_66 (by decide)) (fun h66 => ?_) (fun h66 => absurd h66 (fun z => z (Int32.not_lt.mp hlt)))
      refine lf (a_iload_n dX10_loadOrder_74 rfl) ?_
      refine lf (a_iload dX10_loadOrder_75 rfl) ?_
      refine lf (a_iadd dX10_loadOrder_77) ?_
      refine lf (a_istore_n dX10_loadOrder_78 (by decide)) ?_
      refine lf (a_iincN dX10_loadOrder_79 rfl (by decide)) ?_
      refine lf (a_goto (tgt := 24) dX10_loadOrder_82 (by decide)) ?_
      refine (lf (a_loc _ rfl) (ih (m + 1) _ W61 _ (by omega) hwc hv2 hq2 hv61 hu2 hI2 h)).mono ?_
      rintro o V ⟨k1, Z, k2, k3⟩
      exact ⟨k1, Z, k2, hO61.trans k3⟩
theorem c_loadOrder (h : CrV μ p q d H S) (hd : GdD q d) (hop : phD q d = 1) {s : Int32} {t2 : FDt} (hst : soF q (orD q d) (pM q) 0 0 d = (some s, t2)) (h01s : dF t2 6 0 = 0 ∨ dF t2 6 0 = 1) : CV Y_X10_loadOrder R_X10_loadOrder [.ref 0] μ (fun v V => v = some (.int s) ∧ ActQ μ V p q t2 (pushH H d) S) := by
  have hw := h.wf
  have hv := h.fv
  have hq := h.pv
  have h01 := hd.s01
  have hC4 := hq.C4
  have hM4 := hq.M4
  have hT4 := hq.T4
  have hP4 := hv.P4
  have hU4 := hv.U4
  refine CV.ent yk_X10_loadOrder (Nat.le_of_ble_eq_true rfl) ?_
  refine lf (a_aload_n dX10_loadOrder_0 rfl) ?_
  refine lf (a_inv (b2 := (0, 0)) (c_requireOpen (by repeat (first | with_reducible exact hw | with_reducible exact hwc | with_reducible assumption | with_reducible apply Wf.sI | with_reducible apply Wf.sL | with_reducible apply Wf.cpI | with_reducible apply Wf.cpL | with_reducible apply Wf.cp2 | with_reducible apply Wf.sIs | with_reducible apply Wf.sLs | with_reducible apply Wf.cpU | with_reducible apply Wf.fillI | with_reducible apply Wf.clU | with_reducible apply Wf.dnF | with_reducible apply Wf.gbW)) hv hq hop) rfl dX10_loadOrder_1 yk_X10_requireOpen im_X10_requireOpen se_X10_requireOpen ml_X10_341 rfl (co_0 (by repeat (first | with_reducible exact hw | with_reducible exact hwc | with_reducible assumption | with_reducible apply Wf.sI | with_reducible apply Wf.sL | with_reducible apply Wf.cpI | with_reducible apply Wf.cpL | with_reducible apply Wf.cp2 | with_reducible apply Wf.sIs | with_reducible apply Wf.sLs | with_reducible apply Wf.cpU | with_reducible apply Wf.fillI | with_reducible apply Wf.clU | with_reducible apply Wf.dnF | with_reducible apply Wf.gbW))) (by decide) hc_X10 (by decide) (by decide) (Nat.le_of_ble_eq_true rfl)) ?_
  refine lf (a_aload_n dX10_loadOrder_4 rfl) ?_
  obtain ⟨v_, W5, k5, rfl, hOo, huo⟩ := (c_freshOrder hw hv hq)
  have hwo := hOo.wf
  have hvo := hv.hi hOo sO_hi
  have hqo := hq.hi hOo sO_hi
  refine lf (a_inv (b2 := (0, 0)) k5 rfl dX10_loadOrder_5 yk_X10_freshOrder im_X10_freshOrder se_X10_freshOrder ml_X10_157 rfl (co_0 (by repeat (first | with_reducible exact hw | with_reducible exact hwc | with_reducible assumption | with_reducible apply Wf.sI | with_reducible apply Wf.sL | with_reducible apply Wf.cpI | with_reducible apply Wf.cpL | with_reducible apply Wf.cp2 | with_reducible apply Wf.sIs | with_reducible apply Wf.sLs | with_reducible apply Wf.cpU | with_reducible apply Wf.fillI | with_reducible apply Wf.clU | with_reducible apply Wf.dnF | with_reducible apply Wf.gbW))) (by decide) hc_X10 (by decide) (by decide) (Nat.le_of_ble_eq_true rfl)) ?_
  refine lf (a_astore_n dX10_loadOrder_8 (by decide)) ?_
  refine lf (a_aload_n dX10_loadOrder_9 rfl) ?_
  refine lf (a_getR (cr_0_8 (by repeat (first | with_reducible exact hw | with_reducible exact hwc | with_reducible assumption | with_reducible apply Wf.sI | with_reducible apply Wf.sL | with_reducible apply Wf.cpI | with_reducible apply Wf.cpL | with_reducible apply Wf.cp2 | with_reducible apply Wf.sIs | with_reducible apply Wf.sLs | with_reducible apply Wf.cpU | with_reducible apply Wf.fillI | with_reducible apply Wf.clU | with_reducible apply Wf.dnF | with_reducible apply Wf.gbW))) dX10_loadOrder_10 fs_X10_32 rfl (co_0 (by repeat (first | with_reducible exact hw | with_reducible exact hwc | with_reducible assumption | with_reducible apply Wf.sI | with_reducible apply Wf.sL | with_reducible apply Wf.cpI | with_reducible apply Wf.cpL | with_reducible apply Wf.cp2 | with_reducible apply Wf.sIs | with_reducible apply Wf.sLs | with_reducible apply Wf.cpU | with_reducible apply Wf.fillI | with_reducible apply Wf.clU | with_reducible apply Wf.dnF | with_reducible apply Wf.gbW)))) ?_
  refine lf (a_aload_n dX10_loadOrder_13 rfl) ?_
  refine lf (a_getR (cr_0_7 (by repeat (first | with_reducible exact hw | with_reducible exact hwc | with_reducible assumption | with_reducible apply Wf.sI | with_reducible apply Wf.sL | with_reducible apply Wf.cpI | with_reducible apply Wf.cpL | with_reducible apply Wf.cp2 | with_reducible apply Wf.sIs | with_reducible apply Wf.sLs | with_reducible apply Wf.cpU | with_reducible apply Wf.fillI | with_reducible apply Wf.clU | with_reducible apply Wf.dnF | with_reducible apply Wf.gbW))) dX10_loadOrder_14 fs_X10_28 rfl (co_0 (by repeat (first | with_reducible exact hw | with_reducible exact hwc | with_reducible assumption | with_reducible apply Wf.sI | with_reducible apply Wf.sL | with_reducible apply Wf.cpI | with_reducible apply Wf.cpL | with_reducible apply Wf.cp2 | with_reducible apply Wf.sIs | with_reducible apply Wf.sLs | with_reducible apply Wf.cpU | with_reducible apply Wf.fillI | with_reducible apply Wf.clU | with_reducible apply Wf.dnF | with_reducible apply Wf.gbW)))) ?_
  obtain ⟨v_, W17, k17, rfl, hvt, hOt⟩ := (v_X1_copy hwo fl_trial hvo (by decide) h01)
  have hwt := hOt.wf
  have hvt0 := hvo.out hOt (fun i a b y => by have := y.1; omega)
  have hqt := hqo.fl fl_trial hOt
  have hut : ∀ i, i < 12 → gI W17 325 i = orD q d i := fun i hi => (hOt.i (fun y => by have := y.2; omega) i).trans (huo i hi)
  have hOT : Out sTr μ W17 := (hOo.mono (S' := sTr) (fun i y => Or.inr ⟨y.1, by have := y.2; omega⟩)).trans (tr_41 hOt)
  refine lf (a_inv (b2 := (0, 0)) k17 rfl dX10_loadOrder_17 yk_X1_copy im_X1_copy se_X1_copy ml_X10_123 rfl (fl_o (by repeat (first | with_reducible exact hw | with_reducible exact hwc | with_reducible assumption | with_reducible apply Wf.sI | with_reducible apply Wf.sL | with_reducible apply Wf.cpI | with_reducible apply Wf.cpL | with_reducible apply Wf.cp2 | with_reducible apply Wf.sIs | with_reducible apply Wf.sLs | with_reducible apply Wf.cpU | with_reducible apply Wf.fillI | with_reducible apply Wf.clU | with_reducible apply Wf.dnF | with_reducible apply Wf.gbW)) fl_trial) (by decide) hc_X1 (by decide) (by decide) (Nat.le_of_ble_eq_true rfl)) ?_
  refine lf (a_iconst (0 : Int32) dX10_loadOrder_20 (by decide)) ?_
  refine lf (a_istore_n dX10_loadOrder_21 (by decide)) ?_
  refine lf (a_iconst (0 : Int32) dX10_loadOrder_22 (by decide)) ?_
  refine lf (a_istore_n dX10_loadOrder_23 (by decide)) ?_
  refine lf (a_loc [(0, .ref 0), (1, .ref 324), (2, .int 0), (3, .int (nI 0))] rfl) (l_X10_loadOrder_24 (pM q) 0 0 W17 d (Nat.zero_add _) hwt hvt0 hqt hvt hut ⟨rfl, fun _ _ _ => rfl, fun _ _ _ => rfl⟩ hst fun V hvu hOu => ?_)
  have hwu := hOu.wf
  have hOU := hOT.trans (tr_41 hOu)
  have hA := tr_act hOU
  have hCu := h.tr hOU
  have hwq := hCu.fv
  refine lf (a_aload_n dX10_loadOrder_85 rfl) ?_
  obtain ⟨v_, W86, k86, rfl, hC, h17, hO1, hE1⟩ := (hCu.push h01)
  have hwc := hC.wf
  have hv2 := hC.fv
  have hq2 := hC.pv
  have hvt2 := hvu.out hO1 (fun i a b y => by rcases y with y | y | y <;> omega)
  refine lf (a_inv (b2 := (0, 0)) k86 rfl dX10_loadOrder_86 yk_X10_beginAct im_X10_beginAct se_X10_beginAct ml_X10_329 rfl (co_0 (by repeat (first | with_reducible exact hw | with_reducible exact hwc | with_reducible assumption | with_reducible apply Wf.sI | with_reducible apply Wf.sL | with_reducible apply Wf.cpI | with_reducible apply Wf.cpL | with_reducible apply Wf.cp2 | with_reducible apply Wf.sIs | with_reducible apply Wf.sLs | with_reducible apply Wf.cpU | with_reducible apply Wf.fillI | with_reducible apply Wf.clU | with_reducible apply Wf.dnF | with_reducible apply Wf.gbW))) (by decide) hc_X10 (by decide) (by decide) (Nat.le_of_ble_eq_true rfl)) ?_
  refine lf (a_aload_n dX10_loadOrder_89 rfl) ?_
  refine lf (a_getR (cr_0_7 (by repeat (first | with_reducible exact hw | with_reducible exact hwc | with_reducible assumption | with_reducible apply Wf.sI | with_reducible apply Wf.sL | with_reducible apply Wf.cpI | with_reducible apply Wf.cpL | with_reducible apply Wf.cp2 | with_reducible apply Wf.sIs | with_reducible apply Wf.sLs | with_reducible apply Wf.cpU | with_reducible apply Wf.fillI | with_reducible apply Wf.clU | with_reducible apply Wf.dnF | with_reducible apply Wf.gbW))) dX10_loadOrder_90 fs_X10_28 rfl (co_0 (by repeat (first | with_reducible exact hw | with_reducible exact hwc | with_reducible assumption | with_reducible apply Wf.sI | with_reducible apply Wf.sL | with_reducible apply Wf.cpI | with_reducible apply Wf.cpL | with_reducible apply Wf.cp2 | with_reducible apply Wf.sIs | with_reducible apply Wf.sLs | with_reducible apply Wf.cpU | with_reducible apply Wf.fillI | with_reducible apply Wf.clU | with_reducible apply Wf.dnF | with_reducible apply Wf.gbW)))) ?_
  refine lf (a_aload_n dX10_loadOrder_93 rfl) ?_
  refine lf (a_getR (cr_0_8 (by repeat (first | with_reducible exact hw | with_reducible exact hwc | with_reducible assumption | with_reducible apply Wf.sI | with_reducible apply Wf.sL | with_reducible apply Wf.cpI | with_reducible apply Wf.cpL | with_reducible apply Wf.cp2 | with_reducible apply Wf.sIs | with_reducible apply Wf.sLs | with_reducible apply Wf.cpU | with_reducible apply Wf.fillI | with_reducible apply Wf.clU | with_reducible apply Wf.dnF | with_reducible apply Wf.gbW))) dX10_loadOrder_94 fs_X10_32 rfl (co_0 (by repeat (first | with_reducible exact hw | with_reducible exact hwc | with_reducible assumption | with_reducible apply Wf.sI | with_reducible apply Wf.sL | with_reducible apply Wf.cpI | with_reducible apply Wf.cpL | with_reducible apply Wf.cp2 | with_reducible apply Wf.sIs | with_reducible apply Wf.sLs | with_reducible apply Wf.cpU | with_reducible apply Wf.fillI | with_reducible apply Wf.clU | with_reducible apply Wf.dnF | with_reducible apply Wf.gbW)))) ?_
  obtain ⟨v_, W97, k97, rfl, hv3, hO3⟩ := (v_X1_copy hwc fl_now hvt2 (by decide) h01s)
  have hwd := hO3.wf
  refine lf (a_inv (b2 := (0, 0)) k97 rfl dX10_loadOrder_97 yk_X1_copy im_X1_copy se_X1_copy ml_X10_123 rfl (fl_o (by repeat (first | with_reducible exact hw | with_reducible exact hwc | with_reducible assumption | with_reducible apply Wf.sI | with_reducible apply Wf.sL | with_reducible apply Wf.cpI | with_reducible apply Wf.cpL | with_reducible apply Wf.cp2 | with_reducible apply Wf.sIs | with_reducible apply Wf.sLs | with_reducible apply Wf.cpU | with_reducible apply Wf.fillI | with_reducible apply Wf.clU | with_reducible apply Wf.dnF | with_reducible apply Wf.gbW)) fl_now) (by decide) hc_X1 (by decide) (by decide) (Nat.le_of_ble_eq_true rfl)) ?_
  refine lf (a_iload_n dX10_loadOrder_100 rfl) ?_
  refine ⟨_, _, (a_ireturn dX10_loadOrder_101 rfl rfl), ?_⟩
  exact ⟨_, rfl, rfl, ActQ.pre hA.1 hA.2 (ActQ.fin hC h17 hO1 hE1 hO3 hv3)⟩
theorem cr_loadOrder (h : CrV μ p q d H S) (hd : GdD q d) (hop : phD q d = 1) (hst : (soF q (orD q d) (pM q) 0 0 d).1 = none) : CO Y_X10_loadOrder RX_X10_loadOrder [.ref 0] μ (fun o V => o = .inr ISE ∧ RfQ μ V 3) := by
  have hw := h.wf
  have hv := h.fv
  have hq := h.pv
  have h01 := hd.s01
  have hC4 := hq.C4
  have hM4 := hq.M4
  have hT4 := hq.T4
  have hP4 := hv.P4
  have hU4 := hv.U4
  refine CO.ent yk_X10_loadOrder (Nat.le_of_ble_eq_true rfl) ?_
  refine lf (a_aload_n dX10_loadOrder_0 rfl) ?_
  refine lf (a_inv (b2 := (1, 6)) (c_requireOpen (by repeat (first | with_reducible exact hw | with_reducible exact hwc | with_reducible assumption | with_reducible apply Wf.sI | with_reducible apply Wf.sL | with_reducible apply Wf.cpI | with_reducible apply Wf.cpL | with_reducible apply Wf.cp2 | with_reducible apply Wf.sIs | with_reducible apply Wf.sLs | with_reducible apply Wf.cpU | with_reducible apply Wf.fillI | with_reducible apply Wf.clU | with_reducible apply Wf.dnF | with_reducible apply Wf.gbW)) hv hq hop) rfl dX10_loadOrder_1 yk_X10_requireOpen im_X10_requireOpen se_X10_requireOpen ml_X10_341 rfl (co_0 (by repeat (first | with_reducible exact hw | with_reducible exact hwc | with_reducible assumption | with_reducible apply Wf.sI | with_reducible apply Wf.sL | with_reducible apply Wf.cpI | with_reducible apply Wf.cpL | with_reducible apply Wf.cp2 | with_reducible apply Wf.sIs | with_reducible apply Wf.sLs | with_reducible apply Wf.cpU | with_reducible apply Wf.fillI | with_reducible apply Wf.clU | with_reducible apply Wf.dnF | with_reducible apply Wf.gbW))) (by decide) hc_X10 (by decide) (by decide) (Nat.le_of_ble_eq_true rfl)) ?_
  refine lf (a_aload_n dX10_loadOrder_4 rfl) ?_
  obtain ⟨v_, W5, k5, rfl, hOo, huo⟩ := (c_freshOrder hw hv hq)
  have hwo := hOo.wf
  have hvo := hv.hi hOo sO_hi
  have hqo := hq.hi hOo sO_hi
  refine lf (a_inv (b2 := (1, 6)) k5 rfl dX10_loadOrder_5 yk_X10_freshOrder im_X10_freshOrder se_X10_freshOrder ml_X10_157 rfl (co_0 (by repeat (first | with_reducible exact hw | with_reducible exact hwc | with_reducible assumption | with_reducible apply Wf.sI | with_reducible apply Wf.sL | with_reducible apply Wf.cpI | with_reducible apply Wf.cpL | with_reducible apply Wf.cp2 | with_reducible apply Wf.sIs | with_reducible apply Wf.sLs | with_reducible apply Wf.cpU | with_reducible apply Wf.fillI | with_reducible apply Wf.clU | with_reducible apply Wf.dnF | with_reducible apply Wf.gbW))) (by decide) hc_X10 (by decide) (by decide) (Nat.le_of_ble_eq_true rfl)) ?_
  refine lf (a_astore_n dX10_loadOrder_8 (by decide)) ?_
  refine lf (a_aload_n dX10_loadOrder_9 rfl) ?_
  refine lf (a_getR (cr_0_8 (by repeat (first | with_reducible exact hw | with_reducible exact hwc | with_reducible assumption | with_reducible apply Wf.sI | with_reducible apply Wf.sL | with_reducible apply Wf.cpI | with_reducible apply Wf.cpL | with_reducible apply Wf.cp2 | with_reducible apply Wf.sIs | with_reducible apply Wf.sLs | with_reducible apply Wf.cpU | with_reducible apply Wf.fillI | with_reducible apply Wf.clU | with_reducible apply Wf.dnF | with_reducible apply Wf.gbW))) dX10_loadOrder_10 fs_X10_32 rfl (co_0 (by repeat (first | with_reducible exact hw | with_reducible exact hwc | with_reducible assumption | with_reducible apply Wf.sI | with_reducible apply Wf.sL | with_reducible apply Wf.cpI | with_reducible apply Wf.cpL | with_reducible apply Wf.cp2 | with_reducible apply Wf.sIs | with_reducible apply Wf.sLs | with_reducible apply Wf.cpU | with_reducible apply Wf.fillI | with_reducible apply Wf.clU | with_reducible apply Wf.dnF | with_reducible apply Wf.gbW)))) ?_
  refine lf (a_aload_n dX10_loadOrder_13 rfl) ?_
  refine lf (a_getR (cr_0_7 (by repeat (first | with_reducible exact hw | with_reducible exact hwc | with_reducible assumption | with_reducible apply Wf.sI | with_reducible apply Wf.sL | with_reducible apply Wf.cpI | with_reducible apply Wf.cpL | with_reducible apply Wf.cp2 | with_reducible apply Wf.sIs | with_reducible apply Wf.sLs | with_reducible apply Wf.cpU | with_reducible apply Wf.fillI | with_reducible apply Wf.clU | with_reducible apply Wf.dnF | with_reducible apply Wf.gbW))) dX10_loadOrder_14 fs_X10_28 rfl (co_0 (by repeat (first | with_reducible exact hw | with_reducible exact hwc | with_reducible assumption | with_reducible apply Wf.sI | with_reducible apply Wf.sL | with_reducible apply Wf.cpI | with_reducible apply Wf.cpL | with_reducible apply Wf.cp2 | with_reducible apply Wf.sIs | with_reducible apply Wf.sLs | with_reducible apply Wf.cpU | with_reducible apply Wf.fillI | with_reducible apply Wf.clU | with_reducible apply Wf.dnF | with_reducible apply Wf.gbW)))) ?_
  obtain ⟨v_, W17, k17, rfl, hvt, hOt⟩ := (v_X1_copy hwo fl_trial hvo (by decide) h01)
  have hwt := hOt.wf
  have hvt0 := hvo.out hOt (fun i a b y => by have := y.1; omega)
  have hqt := hqo.fl fl_trial hOt
  have hut : ∀ i, i < 12 → gI W17 325 i = orD q d i := fun i hi => (hOt.i (fun y => by have := y.2; omega) i).trans (huo i hi)
  have hOT : Out sTr μ W17 := (hOo.mono (S' := sTr) (fun i y => Or.inr ⟨y.1, by have := y.2; omega⟩)).trans (tr_41 hOt)
  refine lf (a_inv (b2 := (1, 6)) k17 rfl dX10_loadOrder_17 yk_X1_copy im_X1_copy se_X1_copy ml_X10_123 rfl (fl_o (by repeat (first | with_reducible exact hw | with_reducible exact hwc | with_reducible assumption | with_reducible apply Wf.sI | with_reducible apply Wf.sL | with_reducible apply Wf.cpI | with_reducible apply Wf.cpL | with_reducible apply Wf.cp2 | with_reducible apply Wf.sIs | with_reducible apply Wf.sLs | with_reducible apply Wf.cpU | with_reducible apply Wf.fillI | with_reducible apply Wf.clU | with_reducible apply Wf.dnF | with_reducible apply Wf.gbW)) fl_trial) (by decide) hc_X1 (by decide) (by decide) (Nat.le_of_ble_eq_true rfl)) ?_
  refine lf (a_iconst (0 : Int32) dX10_loadOrder_20 (by decide)) ?_
  refine lf (a_istore_n dX10_loadOrder_21 (by decide)) ?_
  refine lf (a_iconst (0 : Int32) dX10_loadOrder_22 (by decide)) ?_
  refine lf (a_istore_n dX10_loadOrder_23 (by decide)) ?_
  refine (lf (a_loc [(0, .ref 0), (1, .ref 324), (2, .int 0), (3, .int (nI 0))] rfl) (lx_X10_loadOrder_24 (pM q) 0 0 W17 d (Nat.zero_add _) hwt hvt0 hqt hvt hut ⟨rfl, fun _ _ _ => rfl, fun _ _ _ => rfl⟩ hst)).mono ?_
  rintro o V ⟨k1, Z, k2, k3⟩
  exact ⟨k1, Z, k2, hOT.trans (tr_41 k3)⟩

theorem cp_loadOrder (hw : Wf μ) (hv : FV μ 24 p d) (hq : PV μ p q) (h : ¬ goD q d) : Ct Y_X10_loadOrder RX_X10_loadOrder [.ref 0] μ (.inr ISE) (sI μ 0 6 1) := by
  have hC4 := hq.C4
  have hM4 := hq.M4
  have hT4 := hq.T4
  have hP4 := hv.P4
  have hU4 := hv.U4
  refine Ct.ent yk_X10_loadOrder (Nat.le_of_ble_eq_true rfl) ?_
  refine a_aload_n dX10_loadOrder_0 rfl ?_
  exact a_out rfl rfl (a_invX (cy_requireOpen hw hv hq h) rfl dX10_loadOrder_1 yk_X10_requireOpen im_X10_requireOpen se_X10_requireOpen ml_X10_341 rfl (co_0 hw) (by decide) hc_X10 (by decide) (by decide) (Nat.le_of_ble_eq_true rfl) rfl)

theorem cs_loadOrder (hw : Wf μ) (hv : FV μ 24 p d) (hq : PV μ p q) (h : phD q d = 2) : Ct Y_X10_loadOrder RX_X10_loadOrder [.ref 0] μ (.inr ISE) (sI μ 0 6 2) := by
  have hC4 := hq.C4
  have hM4 := hq.M4
  have hT4 := hq.T4
  have hP4 := hv.P4
  have hU4 := hv.U4
  refine Ct.ent yk_X10_loadOrder (Nat.le_of_ble_eq_true rfl) ?_
  refine a_aload_n dX10_loadOrder_0 rfl ?_
  exact a_out rfl rfl (a_invX (cx_requireOpen hw hv hq h) rfl dX10_loadOrder_1 yk_X10_requireOpen im_X10_requireOpen se_X10_requireOpen ml_X10_341 rfl (co_0 hw) (by decide) hc_X10 (by decide) (by decide) (Nat.le_of_ble_eq_true rfl) rfl)
end LOADO
