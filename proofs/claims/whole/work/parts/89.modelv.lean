section MODELV
variable {μ W : Wd} {q : PDt} {d : FDt}
/-- what the service left in the model's row -/
def MxV (r : Nat → Int32) (q : PDt) (d : FDt) : Prop := (∀ i, i < dP d → r (5 + 4 * i + 3) = if dF d 6 0 = 0 then -1 else oI ((svR q d).1 i)) ∧ ∀ m, m < pM q → r (279 + m) = if dF d 6 0 = 0 then 0 else nI (cntG (svR q d).1 (dP d) m)
abbrev sMq : Nat → Prop := fun i => i = 338 ∨ (353 ≤ i ∧ i ≤ 361)
/-- the model after a question: what it threw, its helping rows -/
def MqQ (μ : Wd) (v : Int32) (V : Wd) : Prop := Out sMq μ V ∧ gI V 338 0 = v ∧ ∀ k, k ≠ 0 → gI V 338 k = gI μ 338 k
theorem MqQ.of (hw : Wf μ) (v : Int32) : MqQ μ v (sI μ 338 0 v) := ⟨(Out.rfl' hw).sI (S := sMq) (Or.inl rfl) _ _, by rw [gI_sI, if_pos ⟨rfl, rfl⟩], fun k hk => by rw [gI_sI, if_neg (fun z => hk z.2)]⟩
theorem MqQ.ord (hw : Wf μ) {v : Int32} (ho : Out sOM (sI μ 338 0 v) W) : MqQ μ v W := by
  have e : ∀ k, gI W 338 k = gI (sI μ 338 0 v) 338 k := fun k => ho.i (fun z => z.elim (by decide) (by decide)) k
  exact ⟨(MqQ.of hw v).1.trans (ho.mono (S' := sMq) (fun i y => Or.inr (by rcases y with y | y <;> omega))), (e 0).trans (MqQ.of hw v).2.1, fun k hk => (e k).trans ((MqQ.of hw v).2.2 k hk)⟩
/-- without a flight nothing is there -/
def NoF (q : PDt) (d : FDt) : Prop := pF q 9 0 = 0 → dP d = 0 ∧ dU d = 0 ∧ dF d 6 1 = 0 ∧ pF q 9 2 = 0 ∧ pF q 9 3 = 0
theorem ph3 (q : PDt) (d : FDt) : phD q d = 3 ↔ (¬ pF q 9 0 = 0 ∧ ¬ dF d 6 0 = 0) := by
  unfold phD
  by_cases h : pF q 9 0 = 0
  · rw [if_pos h]; exact ⟨fun z => absurd z (by decide), fun z => absurd h z.1⟩
  · rw [if_neg h]
    by_cases h2 : dF d 6 0 = 0
    · rw [if_pos h2]
      refine ⟨fun z => ?_, fun z => absurd h2 z.2⟩
      split at z <;> exact absurd z (by decide)
    · rw [if_neg h2]; exact ⟨fun _ => ⟨h, h2⟩, fun _ => rfl⟩
abbrev R_X11_trolley : Room := { frames := 2, cells := 0, slots := 0, locals := 45 }
abbrev RX_X11_trolley : Room := { frames := 2, cells := 1, slots := 6, locals := 45 }

theorem m_trolley_0 (hw : Wf μ) (hv : MdV μ q d) {t : Nat} (ht : t < pT q) : CV Y_X11_trolley R_X11_trolley [.ref 338, .int (nI t), .int (nI 0)] μ (fun v V => v = some (.int (tyV q d t 0)) ∧ MqQ μ 0 V) := by
  have hM4 := hv.M4
  have hT4 := hv.T4
  have hP4 := hv.P4
  have hC4 := hv.C4
  have hw1 : Wf (sI μ 338 0 0) := hw.sI
  have hv1 : MdV (sI μ 338 0 0) q d := hv.th 0
  refine CV.ent yk_X11_trolley (Nat.le_of_ble_eq_true rfl) ?_
  refine lf (a_aload_n dX11_trolley_0 rfl) ?_
  refine lf (a_aload_n dX11_trolley_1 rfl) ?_
  refine lf (a_iload_n dX11_trolley_2 rfl) ?_
  refine lf (a_inv (b2 := (0, 0)) (Ct.int (isO_lt ht (by omega)) (m_isTrolley (by repeat (first | with_reducible exact hw | with_reducible exact hwc | with_reducible assumption | with_reducible apply Wf.sI | with_reducible apply Wf.sL | with_reducible apply Wf.cpI | with_reducible apply Wf.cpL | with_reducible apply Wf.cp2 | with_reducible apply Wf.sIs | with_reducible apply Wf.sLs | with_reducible apply Wf.cpU | with_reducible apply Wf.fillI | with_reducible apply Wf.clU | with_reducible apply Wf.dnF | with_reducible apply Wf.gbW)) hv (nI t))) rfl dX11_trolley_3 yk_X11_isTrolley im_X11_isTrolley se_X11_isTrolley ml_X11_391 rfl (co_338 (by repeat (first | with_reducible exact hw | with_reducible exact hwc | with_reducible assumption | with_reducible apply Wf.sI | with_reducible apply Wf.sL | with_reducible apply Wf.cpI | with_reducible apply Wf.cpL | with_reducible apply Wf.cp2 | with_reducible apply Wf.sIs | with_reducible apply Wf.sLs | with_reducible apply Wf.cpU | with_reducible apply Wf.fillI | with_reducible apply Wf.clU | with_reducible apply Wf.dnF | with_reducible apply Wf.gbW))) (by decide) hc_X11 (by decide) (by decide) (Nat.le_of_ble_eq_true rfl)) ?_
  refine lfn (a_if_ne (tgt := 13) dX11_trolley_6 (by decide)) (fun h6 => ?_) (fun h6 => absurd h6 (by decide))
  refine lf (a_iload_n dX11_trolley_13 rfl) ?_
  refine lf (a_iconst (0 : Int32) dX11_trolley_14 (by decide)) ?_
  refine lf (a_iconst (3 : Int32) dX11_trolley_15 (by decide)) ?_
  refine lf (a_invS (b2 := (0, 0)) (Ct.int (y := 1) (by decide) (m_in (nI 0) 0 3)) rfl dX11_trolley_16 yk_X11_in sm_X11_in ml_X11_102 rfl (by decide) (by decide) (Nat.le_of_ble_eq_true rfl)) ?_
  refine lf2 (a_if_eq (tgt := 26) dX11_trolley_19 (by decide)) (fun h19 => absurd h19 (by decide)) (fun h19 => ?_)
  refine lf (a_iconst (0 : Int32) dX11_trolley_22 (by decide)) ?_
  refine lf (a_goto (tgt := 27) dX11_trolley_23 (by decide)) ?_
  refine lf (a_inv (b2 := (0, 0)) (m_isRefused0 (by repeat (first | with_reducible exact hw | with_reducible exact hwc | with_reducible assumption | with_reducible apply Wf.sI | with_reducible apply Wf.sL | with_reducible apply Wf.cpI | with_reducible apply Wf.cpL | with_reducible apply Wf.cp2 | with_reducible apply Wf.sIs | with_reducible apply Wf.sLs | with_reducible apply Wf.cpU | with_reducible apply Wf.fillI | with_reducible apply Wf.clU | with_reducible apply Wf.dnF | with_reducible apply Wf.gbW))) rfl dX11_trolley_27 yk_X11_isRefused im_X11_isRefused se_X11_isRefused ml_X11_98 rfl (co_338 (by repeat (first | with_reducible exact hw | with_reducible exact hwc | with_reducible assumption | with_reducible apply Wf.sI | with_reducible apply Wf.sL | with_reducible apply Wf.cpI | with_reducible apply Wf.cpL | with_reducible apply Wf.cp2 | with_reducible apply Wf.sIs | with_reducible apply Wf.sLs | with_reducible apply Wf.cpU | with_reducible apply Wf.fillI | with_reducible apply Wf.clU | with_reducible apply Wf.dnF | with_reducible apply Wf.gbW))) (by decide) hc_X11 (by decide) (by decide) (Nat.le_of_ble_eq_true rfl)) ?_
  refine lf2 (a_if_eq (tgt := 35) dX11_trolley_30 (by decide)) (fun h30 => ?_) (fun h30 => absurd h30 (fun z => z rfl))
  refine lf (a_iload_n dX11_trolley_35 rfl) ?_
  refine lf (a_iconst (2 : Int32) dX11_trolley_36 (by decide)) ?_
  refine lf2 (a_icmp_ge (tgt := 47) dX11_trolley_37 (by decide)) (fun h37 => absurd h37 (by decide)) (fun h37 => ?_)
  refine lf (a_aload_n dX11_trolley_40 rfl) ?_
  refine lf (a_iload_n dX11_trolley_41 rfl) ?_
  refine lf (a_iload_n dX11_trolley_42 rfl) ?_
  refine lf (a_inv (b2 := (0, 0)) (m_ofTrolley0 (by repeat (first | with_reducible exact hw | with_reducible exact hwc | with_reducible assumption | with_reducible apply Wf.sI | with_reducible apply Wf.sL | with_reducible apply Wf.cpI | with_reducible apply Wf.cpL | with_reducible apply Wf.cp2 | with_reducible apply Wf.sIs | with_reducible apply Wf.sLs | with_reducible apply Wf.cpU | with_reducible apply Wf.fillI | with_reducible apply Wf.clU | with_reducible apply Wf.dnF | with_reducible apply Wf.gbW)) (hv.th 0) ht) rfl dX11_trolley_43 yk_X11_ofTrolley im_X11_ofTrolley se_X11_ofTrolley ml_X11_342 rfl (co_338 (by repeat (first | with_reducible exact hw | with_reducible exact hwc | with_reducible assumption | with_reducible apply Wf.sI | with_reducible apply Wf.sL | with_reducible apply Wf.cpI | with_reducible apply Wf.cpL | with_reducible apply Wf.cp2 | with_reducible apply Wf.sIs | with_reducible apply Wf.sLs | with_reducible apply Wf.cpU | with_reducible apply Wf.fillI | with_reducible apply Wf.clU | with_reducible apply Wf.dnF | with_reducible apply Wf.gbW))) (by decide) hc_X11 (by decide) (by decide) (Nat.le_of_ble_eq_true rfl)) ?_
  refine ⟨_, _, (a_ireturn dX11_trolley_46 rfl rfl), ?_⟩
  exact ⟨_, rfl, rfl, MqQ.of hw 0⟩

theorem m_trolley_1 (hw : Wf μ) (hv : MdV μ q d) {t : Nat} (ht : t < pT q) : CV Y_X11_trolley R_X11_trolley [.ref 338, .int (nI t), .int (nI 1)] μ (fun v V => v = some (.int (tyV q d t 1)) ∧ MqQ μ 0 V) := by
  have hM4 := hv.M4
  have hT4 := hv.T4
  have hP4 := hv.P4
  have hC4 := hv.C4
  have hw1 : Wf (sI μ 338 0 0) := hw.sI
  have hv1 : MdV (sI μ 338 0 0) q d := hv.th 0
  refine CV.ent yk_X11_trolley (Nat.le_of_ble_eq_true rfl) ?_
  refine lf (a_aload_n dX11_trolley_0 rfl) ?_
  refine lf (a_aload_n dX11_trolley_1 rfl) ?_
  refine lf (a_iload_n dX11_trolley_2 rfl) ?_
  refine lf (a_inv (b2 := (0, 0)) (Ct.int (isO_lt ht (by omega)) (m_isTrolley (by repeat (first | with_reducible exact hw | with_reducible exact hwc | with_reducible assumption | with_reducible apply Wf.sI | with_reducible apply Wf.sL | with_reducible apply Wf.cpI | with_reducible apply Wf.cpL | with_reducible apply Wf.cp2 | with_reducible apply Wf.sIs | with_reducible apply Wf.sLs | with_reducible apply Wf.cpU | with_reducible apply Wf.fillI | with_reducible apply Wf.clU | with_reducible apply Wf.dnF | with_reducible apply Wf.gbW)) hv (nI t))) rfl dX11_trolley_3 yk_X11_isTrolley im_X11_isTrolley se_X11_isTrolley ml_X11_391 rfl (co_338 (by repeat (first | with_reducible exact hw | with_reducible exact hwc | with_reducible assumption | with_reducible apply Wf.sI | with_reducible apply Wf.sL | with_reducible apply Wf.cpI | with_reducible apply Wf.cpL | with_reducible apply Wf.cp2 | with_reducible apply Wf.sIs | with_reducible apply Wf.sLs | with_reducible apply Wf.cpU | with_reducible apply Wf.fillI | with_reducible apply Wf.clU | with_reducible apply Wf.dnF | with_reducible apply Wf.gbW))) (by decide) hc_X11 (by decide) (by decide) (Nat.le_of_ble_eq_true rfl)) ?_
  refine lfn (a_if_ne (tgt := 13) dX11_trolley_6 (by decide)) (fun h6 => ?_) (fun h6 => absurd h6 (by decide))
  refine lf (a_iload_n dX11_trolley_13 rfl) ?_
  refine lf (a_iconst (0 : Int32) dX11_trolley_14 (by decide)) ?_
  refine lf (a_iconst (3 : Int32) dX11_trolley_15 (by decide)) ?_
  refine lf (a_invS (b2 := (0, 0)) (Ct.int (y := 1) (by decide) (m_in (nI 1) 0 3)) rfl dX11_trolley_16 yk_X11_in sm_X11_in ml_X11_102 rfl (by decide) (by decide) (Nat.le_of_ble_eq_true rfl)) ?_
  refine lf2 (a_if_eq (tgt := 26) dX11_trolley_19 (by decide)) (fun h19 => absurd h19 (by decide)) (fun h19 => ?_)
  refine lf (a_iconst (0 : Int32) dX11_trolley_22 (by decide)) ?_
  refine lf (a_goto (tgt := 27) dX11_trolley_23 (by decide)) ?_
  refine lf (a_inv (b2 := (0, 0)) (m_isRefused0 (by repeat (first | with_reducible exact hw | with_reducible exact hwc | with_reducible assumption | with_reducible apply Wf.sI | with_reducible apply Wf.sL | with_reducible apply Wf.cpI | with_reducible apply Wf.cpL | with_reducible apply Wf.cp2 | with_reducible apply Wf.sIs | with_reducible apply Wf.sLs | with_reducible apply Wf.cpU | with_reducible apply Wf.fillI | with_reducible apply Wf.clU | with_reducible apply Wf.dnF | with_reducible apply Wf.gbW))) rfl dX11_trolley_27 yk_X11_isRefused im_X11_isRefused se_X11_isRefused ml_X11_98 rfl (co_338 (by repeat (first | with_reducible exact hw | with_reducible exact hwc | with_reducible assumption | with_reducible apply Wf.sI | with_reducible apply Wf.sL | with_reducible apply Wf.cpI | with_reducible apply Wf.cpL | with_reducible apply Wf.cp2 | with_reducible apply Wf.sIs | with_reducible apply Wf.sLs | with_reducible apply Wf.cpU | with_reducible apply Wf.fillI | with_reducible apply Wf.clU | with_reducible apply Wf.dnF | with_reducible apply Wf.gbW))) (by decide) hc_X11 (by decide) (by decide) (Nat.le_of_ble_eq_true rfl)) ?_
  refine lf2 (a_if_eq (tgt := 35) dX11_trolley_30 (by decide)) (fun h30 => ?_) (fun h30 => absurd h30 (fun z => z rfl))
  refine lf (a_iload_n dX11_trolley_35 rfl) ?_
  refine lf (a_iconst (2 : Int32) dX11_trolley_36 (by decide)) ?_
  refine lf2 (a_icmp_ge (tgt := 47) dX11_trolley_37 (by decide)) (fun h37 => absurd h37 (by decide)) (fun h37 => ?_)
  refine lf (a_aload_n dX11_trolley_40 rfl) ?_
  refine lf (a_iload_n dX11_trolley_41 rfl) ?_
  refine lf (a_iload_n dX11_trolley_42 rfl) ?_
  refine lf (a_inv (b2 := (0, 0)) (m_ofTrolley1 (by repeat (first | with_reducible exact hw | with_reducible exact hwc | with_reducible assumption | with_reducible apply Wf.sI | with_reducible apply Wf.sL | with_reducible apply Wf.cpI | with_reducible apply Wf.cpL | with_reducible apply Wf.cp2 | with_reducible apply Wf.sIs | with_reducible apply Wf.sLs | with_reducible apply Wf.cpU | with_reducible apply Wf.fillI | with_reducible apply Wf.clU | with_reducible apply Wf.dnF | with_reducible apply Wf.gbW)) (hv.th 0) ht) rfl dX11_trolley_43 yk_X11_ofTrolley im_X11_ofTrolley se_X11_ofTrolley ml_X11_342 rfl (co_338 (by repeat (first | with_reducible exact hw | with_reducible exact hwc | with_reducible assumption | with_reducible apply Wf.sI | with_reducible apply Wf.sL | with_reducible apply Wf.cpI | with_reducible apply Wf.cpL | with_reducible apply Wf.cp2 | with_reducible apply Wf.sIs | with_reducible apply Wf.sLs | with_reducible apply Wf.cpU | with_reducible apply Wf.fillI | with_reducible apply Wf.clU | with_reducible apply Wf.dnF | with_reducible apply Wf.gbW))) (by decide) hc_X11 (by decide) (by decide) (Nat.le_of_ble_eq_true rfl)) ?_
  refine ⟨_, _, (a_ireturn dX11_trolley_46 rfl rfl), ?_⟩
  exact ⟨_, rfl, rfl, MqQ.of hw 0⟩

theorem m_trolley_2 (hw : Wf μ) (hv : MdV μ q d) {t : Nat} (ht : t < pT q) : CV Y_X11_trolley R_X11_trolley [.ref 338, .int (nI t), .int (nI 2)] μ (fun v V => v = some (.int (tyV q d t 2)) ∧ MqQ μ 0 V) := by
  have hM4 := hv.M4
  have hT4 := hv.T4
  have hP4 := hv.P4
  have hC4 := hv.C4
  have hw1 : Wf (sI μ 338 0 0) := hw.sI
  have hv1 : MdV (sI μ 338 0 0) q d := hv.th 0
  refine CV.ent yk_X11_trolley (Nat.le_of_ble_eq_true rfl) ?_
  refine lf (a_aload_n dX11_trolley_0 rfl) ?_
  refine lf (a_aload_n dX11_trolley_1 rfl) ?_
  refine lf (a_iload_n dX11_trolley_2 rfl) ?_
  refine lf (a_inv (b2 := (0, 0)) (Ct.int (isO_lt ht (by omega)) (m_isTrolley (by repeat (first | with_reducible exact hw | with_reducible exact hwc | with_reducible assumption | with_reducible apply Wf.sI | with_reducible apply Wf.sL | with_reducible apply Wf.cpI | with_reducible apply Wf.cpL | with_reducible apply Wf.cp2 | with_reducible apply Wf.sIs | with_reducible apply Wf.sLs | with_reducible apply Wf.cpU | with_reducible apply Wf.fillI | with_reducible apply Wf.clU | with_reducible apply Wf.dnF | with_reducible apply Wf.gbW)) hv (nI t))) rfl dX11_trolley_3 yk_X11_isTrolley im_X11_isTrolley se_X11_isTrolley ml_X11_391 rfl (co_338 (by repeat (first | with_reducible exact hw | with_reducible exact hwc | with_reducible assumption | with_reducible apply Wf.sI | with_reducible apply Wf.sL | with_reducible apply Wf.cpI | with_reducible apply Wf.cpL | with_reducible apply Wf.cp2 | with_reducible apply Wf.sIs | with_reducible apply Wf.sLs | with_reducible apply Wf.cpU | with_reducible apply Wf.fillI | with_reducible apply Wf.clU | with_reducible apply Wf.dnF | with_reducible apply Wf.gbW))) (by decide) hc_X11 (by decide) (by decide) (Nat.le_of_ble_eq_true rfl)) ?_
  refine lfn (a_if_ne (tgt := 13) dX11_trolley_6 (by decide)) (fun h6 => ?_) (fun h6 => absurd h6 (by decide))
  refine lf (a_iload_n dX11_trolley_13 rfl) ?_
  refine lf (a_iconst (0 : Int32) dX11_trolley_14 (by decide)) ?_
  refine lf (a_iconst (3 : Int32) dX11_trolley_15 (by decide)) ?_
  refine lf (a_invS (b2 := (0, 0)) (Ct.int (y := 1) (by decide) (m_in (nI 2) 0 3)) rfl dX11_trolley_16 yk_X11_in sm_X11_in ml_X11_102 rfl (by decide) (by decide) (Nat.le_of_ble_eq_true rfl)) ?_
  refine lf2 (a_if_eq (tgt := 26) dX11_trolley_19 (by decide)) (fun h19 => absurd h19 (by decide)) (fun h19 => ?_)
  refine lf (a_iconst (0 : Int32) dX11_trolley_22 (by decide)) ?_
  refine lf (a_goto (tgt := 27) dX11_trolley_23 (by decide)) ?_
  refine lf (a_inv (b2 := (0, 0)) (m_isRefused0 (by repeat (first | with_reducible exact hw | with_reducible exact hwc | with_reducible assumption | with_reducible apply Wf.sI | with_reducible apply Wf.sL | with_reducible apply Wf.cpI | with_reducible apply Wf.cpL | with_reducible apply Wf.cp2 | with_reducible apply Wf.sIs | with_reducible apply Wf.sLs | with_reducible apply Wf.cpU | with_reducible apply Wf.fillI | with_reducible apply Wf.clU | with_reducible apply Wf.dnF | with_reducible apply Wf.gbW))) rfl dX11_trolley_27 yk_X11_isRefused im_X11_isRefused se_X11_isRefused ml_X11_98 rfl (co_338 (by repeat (first | with_reducible exact hw | with_reducible exact hwc | with_reducible assumption | with_reducible apply Wf.sI | with_reducible apply Wf.sL | with_reducible apply Wf.cpI | with_reducible apply Wf.cpL | with_reducible apply Wf.cp2 | with_reducible apply Wf.sIs | with_reducible apply Wf.sLs | with_reducible apply Wf.cpU | with_reducible apply Wf.fillI | with_reducible apply Wf.clU | with_reducible apply Wf.dnF | with_reducible apply Wf.gbW))) (by decide) hc_X11 (by decide) (by decide) (Nat.le_of_ble_eq_true rfl)) ?_
  refine lf2 (a_if_eq (tgt := 35) dX11_trolley_30 (by decide)) (fun h30 => ?_) (fun h30 => absurd h30 (fun z => z rfl))
  refine lf (a_iload_n dX11_trolley_35 rfl) ?_
  refine lf (a_iconst (2 : Int32) dX11_trolley_36 (by decide)) ?_
  refine lf2 (a_icmp_ge (tgt := 47) dX11_trolley_37 (by decide)) (fun h37 => ?_) (fun h37 => absurd h37 (by decide))
  refine lf (a_iload_n dX11_trolley_47 rfl) ?_
  refine lf (a_iconst (2 : Int32) dX11_trolley_48 (by decide)) ?_
  refine lfn (a_icmp_ne (tgt := 60) dX11_trolley_49 (by decide)) (fun h49 => absurd h49 (by decide)) (fun h49 => ?_)
  refine lf (a_aload_n dX11_trolley_52 rfl) ?_
  refine lf (a_iload_n dX11_trolley_53 rfl) ?_
  refine lf (a_inv (b2 := (0, 0)) (m_freeOf (by repeat (first | with_reducible exact hw | with_reducible exact hwc | with_reducible assumption | with_reducible apply Wf.sI | with_reducible apply Wf.sL | with_reducible apply Wf.cpI | with_reducible apply Wf.cpL | with_reducible apply Wf.cp2 | with_reducible apply Wf.sIs | with_reducible apply Wf.sLs | with_reducible apply Wf.cpU | with_reducible apply Wf.fillI | with_reducible apply Wf.clU | with_reducible apply Wf.dnF | with_reducible apply Wf.gbW)) (hv.th 0) ht) rfl dX11_trolley_54 yk_X11_freeOf im_X11_freeOf se_X11_freeOf ml_X11_348 rfl (co_338 (by repeat (first | with_reducible exact hw | with_reducible exact hwc | with_reducible assumption | with_reducible apply Wf.sI | with_reducible apply Wf.sL | with_reducible apply Wf.cpI | with_reducible apply Wf.cpL | with_reducible apply Wf.cp2 | with_reducible apply Wf.sIs | with_reducible apply Wf.sLs | with_reducible apply Wf.cpU | with_reducible apply Wf.fillI | with_reducible apply Wf.clU | with_reducible apply Wf.dnF | with_reducible apply Wf.gbW))) (by decide) hc_X11 (by decide) (by decide) (Nat.le_of_ble_eq_true rfl)) ?_
  refine lf (a_goto (tgt := 65) dX11_trolley_57 (by decide)) ?_
  refine ⟨_, _, (a_ireturn dX11_trolley_65 rfl rfl), ?_⟩
  exact ⟨_, rfl, rfl, MqQ.of hw 0⟩

theorem m_trolley_3 (hw : Wf μ) (hv : MdV μ q d) {t : Nat} (ht : t < pT q) : CV Y_X11_trolley R_X11_trolley [.ref 338, .int (nI t), .int (nI 3)] μ (fun v V => v = some (.int (tyV q d t 3)) ∧ MqQ μ 0 V) := by
  have hM4 := hv.M4
  have hT4 := hv.T4
  have hP4 := hv.P4
  have hC4 := hv.C4
  have hw1 : Wf (sI μ 338 0 0) := hw.sI
  have hv1 : MdV (sI μ 338 0 0) q d := hv.th 0
  refine CV.ent yk_X11_trolley (Nat.le_of_ble_eq_true rfl) ?_
  refine lf (a_aload_n dX11_trolley_0 rfl) ?_
  refine lf (a_aload_n dX11_trolley_1 rfl) ?_
  refine lf (a_iload_n dX11_trolley_2 rfl) ?_
  refine lf (a_inv (b2 := (0, 0)) (Ct.int (isO_lt ht (by omega)) (m_isTrolley (by repeat (first | with_reducible exact hw | with_reducible exact hwc | with_reducible assumption | with_reducible apply Wf.sI | with_reducible apply Wf.sL | with_reducible apply Wf.cpI | with_reducible apply Wf.cpL | with_reducible apply Wf.cp2 | with_reducible apply Wf.sIs | with_reducible apply Wf.sLs | with_reducible apply Wf.cpU | with_reducible apply Wf.fillI | with_reducible apply Wf.clU | with_reducible apply Wf.dnF | with_reducible apply Wf.gbW)) hv (nI t))) rfl dX11_trolley_3 yk_X11_isTrolley im_X11_isTrolley se_X11_isTrolley ml_X11_391 rfl (co_338 (by repeat (first | with_reducible exact hw | with_reducible exact hwc | with_reducible assumption | with_reducible apply Wf.sI | with_reducible apply Wf.sL | with_reducible apply Wf.cpI | with_reducible apply Wf.cpL | with_reducible apply Wf.cp2 | with_reducible apply Wf.sIs | with_reducible apply Wf.sLs | with_reducible apply Wf.cpU | with_reducible apply Wf.fillI | with_reducible apply Wf.clU | with_reducible apply Wf.dnF | with_reducible apply Wf.gbW))) (by decide) hc_X11 (by decide) (by decide) (Nat.le_of_ble_eq_true rfl)) ?_
  refine lfn (a_if_ne (tgt := 13) dX11_trolley_6 (by decide)) (fun h6 => ?_) (fun h6 => absurd h6 (by decide))
  refine lf (a_iload_n dX11_trolley_13 rfl) ?_
  refine lf (a_iconst (0 : Int32) dX11_trolley_14 (by decide)) ?_
  refine lf (a_iconst (3 : Int32) dX11_trolley_15 (by decide)) ?_
  refine lf (a_invS (b2 := (0, 0)) (Ct.int (y := 1) (by decide) (m_in (nI 3) 0 3)) rfl dX11_trolley_16 yk_X11_in sm_X11_in ml_X11_102 rfl (by decide) (by decide) (Nat.le_of_ble_eq_true rfl)) ?_
  refine lf2 (a_if_eq (tgt := 26) dX11_trolley_19 (by decide)) (fun h19 => absurd h19 (by decide)) (fun h19 => ?_)
  refine lf (a_iconst (0 : Int32) dX11_trolley_22 (by decide)) ?_
  refine lf (a_goto (tgt := 27) dX11_trolley_23 (by decide)) ?_
  refine lf (a_inv (b2 := (0, 0)) (m_isRefused0 (by repeat (first | with_reducible exact hw | with_reducible exact hwc | with_reducible assumption | with_reducible apply Wf.sI | with_reducible apply Wf.sL | with_reducible apply Wf.cpI | with_reducible apply Wf.cpL | with_reducible apply Wf.cp2 | with_reducible apply Wf.sIs | with_reducible apply Wf.sLs | with_reducible apply Wf.cpU | with_reducible apply Wf.fillI | with_reducible apply Wf.clU | with_reducible apply Wf.dnF | with_reducible apply Wf.gbW))) rfl dX11_trolley_27 yk_X11_isRefused im_X11_isRefused se_X11_isRefused ml_X11_98 rfl (co_338 (by repeat (first | with_reducible exact hw | with_reducible exact hwc | with_reducible assumption | with_reducible apply Wf.sI | with_reducible apply Wf.sL | with_reducible apply Wf.cpI | with_reducible apply Wf.cpL | with_reducible apply Wf.cp2 | with_reducible apply Wf.sIs | with_reducible apply Wf.sLs | with_reducible apply Wf.cpU | with_reducible apply Wf.fillI | with_reducible apply Wf.clU | with_reducible apply Wf.dnF | with_reducible apply Wf.gbW))) (by decide) hc_X11 (by decide) (by decide) (Nat.le_of_ble_eq_true rfl)) ?_
  refine lf2 (a_if_eq (tgt := 35) dX11_trolley_30 (by decide)) (fun h30 => ?_) (fun h30 => absurd h30 (fun z => z rfl))
  refine lf (a_iload_n dX11_trolley_35 rfl) ?_
  refine lf (a_iconst (2 : Int32) dX11_trolley_36 (by decide)) ?_
  refine lf2 (a_icmp_ge (tgt := 47) dX11_trolley_37 (by decide)) (fun h37 => ?_) (fun h37 => absurd h37 (by decide))
  refine lf (a_iload_n dX11_trolley_47 rfl) ?_
  refine lf (a_iconst (2 : Int32) dX11_trolley_48 (by decide)) ?_
  refine lfn (a_icmp_ne (tgt := 60) dX11_trolley_49 (by decide)) (fun h49 => ?_) (fun h49 => absurd h49 (by decide))
  refine lf (a_aload_n dX11_trolley_60 rfl) ?_
  refine lf (a_iload_n dX11_trolley_61 rfl) ?_
  refine lf (a_inv (b2 := (0, 0)) (m_unitsIn (by repeat (first | with_reducible exact hw | with_reducible exact hwc | with_reducible assumption | with_reducible apply Wf.sI | with_reducible apply Wf.sL | with_reducible apply Wf.cpI | with_reducible apply Wf.cpL | with_reducible apply Wf.cp2 | with_reducible apply Wf.sIs | with_reducible apply Wf.sLs | with_reducible apply Wf.cpU | with_reducible apply Wf.fillI | with_reducible apply Wf.clU | with_reducible apply Wf.dnF | with_reducible apply Wf.gbW)) (hv.th 0) (show t < 8 by omega)) rfl dX11_trolley_62 yk_X11_unitsIn im_X11_unitsIn se_X11_unitsIn ml_X11_394 rfl (co_338 (by repeat (first | with_reducible exact hw | with_reducible exact hwc | with_reducible assumption | with_reducible apply Wf.sI | with_reducible apply Wf.sL | with_reducible apply Wf.cpI | with_reducible apply Wf.cpL | with_reducible apply Wf.cp2 | with_reducible apply Wf.sIs | with_reducible apply Wf.sLs | with_reducible apply Wf.cpU | with_reducible apply Wf.fillI | with_reducible apply Wf.clU | with_reducible apply Wf.dnF | with_reducible apply Wf.gbW))) (by decide) hc_X11 (by decide) (by decide) (Nat.le_of_ble_eq_true rfl)) ?_
  refine ⟨_, _, (a_ireturn dX11_trolley_65 rfl rfl), ?_⟩
  exact ⟨_, rfl, rfl, MqQ.of hw 0⟩
theorem m_trolley (hw : Wf μ) (hv : MdV μ q d) {t : Nat} (ht : t < pT q) {k : Nat} (hk : k < 4) : CV Y_X11_trolley R_X11_trolley [.ref 338, .int (nI t), .int (nI k)] μ (fun v V => v = some (.int (tyV q d t k)) ∧ MqQ μ 0 V) := by
  rcases (by omega : k = 0 ∨ k = 1 ∨ k = 2 ∨ k = 3) with rfl | rfl | rfl | rfl
  · exact m_trolley_0 hw hv ht
  · exact m_trolley_1 hw hv ht
  · exact m_trolley_2 hw hv ht
  · exact m_trolley_3 hw hv ht

theorem mx_trolley (hw : Wf μ) (hv : MdV μ q d) {x y : Int32} (h : ixO x (pT q) = none) : Ct Y_X11_trolley R_X11_trolley [.ref 338, .int x, .int y] μ (.inl (some (.int (0)))) (sI μ 338 0 1) := by
  refine Ct.ent yk_X11_trolley (Nat.le_of_ble_eq_true rfl) ?_
  refine a_aload_n dX11_trolley_0 rfl ?_
  refine a_aload_n dX11_trolley_1 rfl ?_
  refine a_iload_n dX11_trolley_2 rfl ?_
  refine a_inv (b2 := (0, 0)) (Ct.int (isO_none h) (m_isTrolley (by repeat (first | with_reducible exact hw | with_reducible exact hwc | with_reducible assumption | with_reducible apply Wf.sI | with_reducible apply Wf.sL | with_reducible apply Wf.cpI | with_reducible apply Wf.cpL | with_reducible apply Wf.cp2 | with_reducible apply Wf.sIs | with_reducible apply Wf.sLs | with_reducible apply Wf.cpU | with_reducible apply Wf.fillI | with_reducible apply Wf.clU | with_reducible apply Wf.dnF | with_reducible apply Wf.gbW)) hv x)) rfl dX11_trolley_3 yk_X11_isTrolley im_X11_isTrolley se_X11_isTrolley ml_X11_391 rfl (co_338 (by repeat (first | with_reducible exact hw | with_reducible exact hwc | with_reducible assumption | with_reducible apply Wf.sI | with_reducible apply Wf.sL | with_reducible apply Wf.cpI | with_reducible apply Wf.cpL | with_reducible apply Wf.cp2 | with_reducible apply Wf.sIs | with_reducible apply Wf.sLs | with_reducible apply Wf.cpU | with_reducible apply Wf.fillI | with_reducible apply Wf.clU | with_reducible apply Wf.dnF | with_reducible apply Wf.gbW))) (by decide) hc_X11 (by decide) (by decide) (Nat.le_of_ble_eq_true rfl) ?_
  refine a_if_ne (tgt := 13) dX11_trolley_6 (by decide) (fun h6 => absurd h6 (fun z => z rfl)) (fun h6 => ?_)
  refine a_iconst (1 : Int32) dX11_trolley_9 (by decide) ?_
  refine a_goto (tgt := 27) dX11_trolley_10 (by decide) ?_
  refine a_inv (b2 := (0, 0)) (m_isRefused1 (by repeat (first | with_reducible exact hw | with_reducible exact hwc | with_reducible assumption | with_reducible apply Wf.sI | with_reducible apply Wf.sL | with_reducible apply Wf.cpI | with_reducible apply Wf.cpL | with_reducible apply Wf.cp2 | with_reducible apply Wf.sIs | with_reducible apply Wf.sLs | with_reducible apply Wf.cpU | with_reducible apply Wf.fillI | with_reducible apply Wf.clU | with_reducible apply Wf.dnF | with_reducible apply Wf.gbW)) (v := 1) (by decide)) rfl dX11_trolley_27 yk_X11_isRefused im_X11_isRefused se_X11_isRefused ml_X11_98 rfl (co_338 (by repeat (first | with_reducible exact hw | with_reducible exact hwc | with_reducible assumption | with_reducible apply Wf.sI | with_reducible apply Wf.sL | with_reducible apply Wf.cpI | with_reducible apply Wf.cpL | with_reducible apply Wf.cp2 | with_reducible apply Wf.sIs | with_reducible apply Wf.sLs | with_reducible apply Wf.cpU | with_reducible apply Wf.fillI | with_reducible apply Wf.clU | with_reducible apply Wf.dnF | with_reducible apply Wf.gbW))) (by decide) hc_X11 (by decide) (by decide) (Nat.le_of_ble_eq_true rfl) ?_
  refine a_if_eq (tgt := 35) dX11_trolley_30 (by decide) (fun h30 => absurd h30 (by decide)) (fun h30 => ?_)
  refine a_iconst (0 : Int32) dX11_trolley_33 (by decide) ?_
  exact a_out rfl rfl (a_ireturn dX11_trolley_34 rfl rfl)

theorem my_trolley (hw : Wf μ) (hv : MdV μ q d) {t : Nat} (ht : t < pT q) {y : Int32} (h : ixO y 4 = none) : Ct Y_X11_trolley R_X11_trolley [.ref 338, .int (nI t), .int y] μ (.inl (some (.int (0)))) (sI μ 338 0 2) := by
  refine Ct.ent yk_X11_trolley (Nat.le_of_ble_eq_true rfl) ?_
  have h4 := hv.T4
  have h2 : inI y 0 3 = 0 := (inI_ix (x := y) (n := 4) (by decide)).trans (isO_none h)
  refine a_aload_n dX11_trolley_0 rfl ?_
  refine a_aload_n dX11_trolley_1 rfl ?_
  refine a_iload_n dX11_trolley_2 rfl ?_
  refine a_inv (b2 := (0, 0)) (Ct.int (isO_lt ht (by omega)) (m_isTrolley (by repeat (first | with_reducible exact hw | with_reducible exact hwc | with_reducible assumption | with_reducible apply Wf.sI | with_reducible apply Wf.sL | with_reducible apply Wf.cpI | with_reducible apply Wf.cpL | with_reducible apply Wf.cp2 | with_reducible apply Wf.sIs | with_reducible apply Wf.sLs | with_reducible apply Wf.cpU | with_reducible apply Wf.fillI | with_reducible apply Wf.clU | with_reducible apply Wf.dnF | with_reducible apply Wf.gbW)) hv (nI t))) rfl dX11_trolley_3 yk_X11_isTrolley im_X11_isTrolley se_X11_isTrolley ml_X11_391 rfl (co_338 (by repeat (first | with_reducible exact hw | with_reducible exact hwc | with_reducible assumption | with_reducible apply Wf.sI | with_reducible apply Wf.sL | with_reducible apply Wf.cpI | with_reducible apply Wf.cpL | with_reducible apply Wf.cp2 | with_reducible apply Wf.sIs | with_reducible apply Wf.sLs | with_reducible apply Wf.cpU | with_reducible apply Wf.fillI | with_reducible apply Wf.clU | with_reducible apply Wf.dnF | with_reducible apply Wf.gbW))) (by decide) hc_X11 (by decide) (by decide) (Nat.le_of_ble_eq_true rfl) ?_
  refine a_if_ne (tgt := 13) dX11_trolley_6 (by decide) (fun h6 => ?_) (fun h6 => absurd h6 (by decide))
  refine a_iload_n dX11_trolley_13 rfl ?_
  refine a_iconst (0 : Int32) dX11_trolley_14 (by decide) ?_
  refine a_iconst (3 : Int32) dX11_trolley_15 (by decide) ?_
  refine a_invS (b2 := (0, 0)) (Ct.int h2 (m_in y 0 3)) rfl dX11_trolley_16 yk_X11_in sm_X11_in ml_X11_102 rfl (by decide) (by decide) (Nat.le_of_ble_eq_true rfl) ?_
  refine a_if_eq (tgt := 26) dX11_trolley_19 (by decide) (fun h19 => ?_) (fun h19 => absurd h19 (fun z => z rfl))
  refine a_iconst (2 : Int32) dX11_trolley_26 (by decide) ?_
  refine a_inv (b2 := (0, 0)) (m_isRefused1 (by repeat (first | with_reducible exact hw | with_reducible exact hwc | with_reducible assumption | with_reducible apply Wf.sI | with_reducible apply Wf.sL | with_reducible apply Wf.cpI | with_reducible apply Wf.cpL | with_reducible apply Wf.cp2 | with_reducible apply Wf.sIs | with_reducible apply Wf.sLs | with_reducible apply Wf.cpU | with_reducible apply Wf.fillI | with_reducible apply Wf.clU | with_reducible apply Wf.dnF | with_reducible apply Wf.gbW)) (v := 2) (by decide)) rfl dX11_trolley_27 yk_X11_isRefused im_X11_isRefused se_X11_isRefused ml_X11_98 rfl (co_338 (by repeat (first | with_reducible exact hw | with_reducible exact hwc | with_reducible assumption | with_reducible apply Wf.sI | with_reducible apply Wf.sL | with_reducible apply Wf.cpI | with_reducible apply Wf.cpL | with_reducible apply Wf.cp2 | with_reducible apply Wf.sIs | with_reducible apply Wf.sLs | with_reducible apply Wf.cpU | with_reducible apply Wf.fillI | with_reducible apply Wf.clU | with_reducible apply Wf.dnF | with_reducible apply Wf.gbW))) (by decide) hc_X11 (by decide) (by decide) (Nat.le_of_ble_eq_true rfl) ?_
  refine a_if_eq (tgt := 35) dX11_trolley_30 (by decide) (fun h30 => absurd h30 (by decide)) (fun h30 => ?_)
  refine a_iconst (0 : Int32) dX11_trolley_33 (by decide) ?_
  exact a_out rfl rfl (a_ireturn dX11_trolley_34 rfl rfl)
abbrev R_X11_passenger : Room := { frames := 4, cells := 0, slots := 0, locals := 90 }
abbrev RX_X11_passenger : Room := { frames := 4, cells := 1, slots := 6, locals := 90 }

theorem m_passenger_0 (hw : Wf μ) (hv : MdV μ q d) (hx : MxV (gI μ 344) q d) (hz : NoF q d) {i : Nat} (hi : i < dP d) : CV Y_X11_passenger R_X11_passenger [.ref 338, .int (nI i), .int (nI 0)] μ (fun v V => v = some (.int (pgV q d i 0)) ∧ MqQ μ 0 V) := by
  have hM4 := hv.M4
  have hT4 := hv.T4
  have hP4 := hv.P4
  have hC4 := hv.C4
  have hw1 : Wf (sI μ 338 0 0) := hw.sI
  have hv1 : MdV (sI μ 338 0 0) q d := hv.th 0
  refine CV.ent yk_X11_passenger (Nat.le_of_ble_eq_true rfl) ?_
  refine lf (a_aload_n dX11_passenger_0 rfl) ?_
  refine lf (a_aload_n dX11_passenger_1 rfl) ?_
  refine lf (a_iload_n dX11_passenger_2 rfl) ?_
  refine lf (a_inv (b2 := (0, 0)) (Ct.int (isO_lt hi (by omega)) (m_isPassenger (by repeat (first | with_reducible exact hw | with_reducible exact hwc | with_reducible assumption | with_reducible apply Wf.sI | with_reducible apply Wf.sL | with_reducible apply Wf.cpI | with_reducible apply Wf.cpL | with_reducible apply Wf.cp2 | with_reducible apply Wf.sIs | with_reducible apply Wf.sLs | with_reducible apply Wf.cpU | with_reducible apply Wf.fillI | with_reducible apply Wf.clU | with_reducible apply Wf.dnF | with_reducible apply Wf.gbW)) hv (nI i))) rfl dX11_passenger_3 yk_X11_isPassenger im_X11_isPassenger se_X11_isPassenger ml_X11_385 rfl (co_338 (by repeat (first | with_reducible exact hw | with_reducible exact hwc | with_reducible assumption | with_reducible apply Wf.sI | with_reducible apply Wf.sL | with_reducible apply Wf.cpI | with_reducible apply Wf.cpL | with_reducible apply Wf.cp2 | with_reducible apply Wf.sIs | with_reducible apply Wf.sLs | with_reducible apply Wf.cpU | with_reducible apply Wf.fillI | with_reducible apply Wf.clU | with_reducible apply Wf.dnF | with_reducible apply Wf.gbW))) (by decide) hc_X11 (by decide) (by decide) (Nat.le_of_ble_eq_true rfl)) ?_
  refine lfn (a_if_ne (tgt := 13) dX11_passenger_6 (by decide)) (fun h6 => ?_) (fun h6 => absurd h6 (by decide))
  refine lf (a_iload_n dX11_passenger_13 rfl) ?_
  refine lf (a_iconst (0 : Int32) dX11_passenger_14 (by decide)) ?_
  refine lf (a_iconst (5 : Int32) dX11_passenger_15 (by decide)) ?_
  refine lf (a_invS (b2 := (0, 0)) (Ct.int (y := 1) (by decide) (m_in (nI 0) 0 5)) rfl dX11_passenger_16 yk_X11_in sm_X11_in ml_X11_102 rfl (by decide) (by decide) (Nat.le_of_ble_eq_true rfl)) ?_
  refine lf2 (a_if_eq (tgt := 26) dX11_passenger_19 (by decide)) (fun h19 => absurd h19 (by decide)) (fun h19 => ?_)
  refine lf (a_iconst (0 : Int32) dX11_passenger_22 (by decide)) ?_
  refine lf (a_goto (tgt := 27) dX11_passenger_23 (by decide)) ?_
  refine lf (a_inv (b2 := (0, 0)) (m_isRefused0 (by repeat (first | with_reducible exact hw | with_reducible exact hwc | with_reducible assumption | with_reducible apply Wf.sI | with_reducible apply Wf.sL | with_reducible apply Wf.cpI | with_reducible apply Wf.cpL | with_reducible apply Wf.cp2 | with_reducible apply Wf.sIs | with_reducible apply Wf.sLs | with_reducible apply Wf.cpU | with_reducible apply Wf.fillI | with_reducible apply Wf.clU | with_reducible apply Wf.dnF | with_reducible apply Wf.gbW))) rfl dX11_passenger_27 yk_X11_isRefused im_X11_isRefused se_X11_isRefused ml_X11_98 rfl (co_338 (by repeat (first | with_reducible exact hw | with_reducible exact hwc | with_reducible assumption | with_reducible apply Wf.sI | with_reducible apply Wf.sL | with_reducible apply Wf.cpI | with_reducible apply Wf.cpL | with_reducible apply Wf.cp2 | with_reducible apply Wf.sIs | with_reducible apply Wf.sLs | with_reducible apply Wf.cpU | with_reducible apply Wf.fillI | with_reducible apply Wf.clU | with_reducible apply Wf.dnF | with_reducible apply Wf.gbW))) (by decide) hc_X11 (by decide) (by decide) (Nat.le_of_ble_eq_true rfl)) ?_
  refine lf2 (a_if_eq (tgt := 35) dX11_passenger_30 (by decide)) (fun h30 => ?_) (fun h30 => absurd h30 (fun z => z rfl))
  refine lf (a_iload_n dX11_passenger_35 rfl) ?_
  refine lf (a_iconst (4 : Int32) dX11_passenger_36 (by decide)) ?_
  refine lfn (a_icmp_ne (tgt := 46) dX11_passenger_37 (by decide)) (fun h37 => ?_) (fun h37 => absurd h37 (by decide))
  refine lf (a_iload_n dX11_passenger_46 rfl) ?_
  refine lf (a_iconst (5 : Int32) dX11_passenger_47 (by decide)) ?_
  refine lfn (a_icmp_ne (tgt := 59) dX11_passenger_48 (by decide)) (fun h48 => ?_) (fun h48 => absurd h48 (by decide))
  refine lf (a_aload_n dX11_passenger_59 rfl) ?_
  refine lf (a_iload_n dX11_passenger_60 rfl) ?_
  refine lf (a_iload_n dX11_passenger_61 rfl) ?_
  refine lf (a_inv (b2 := (0, 0)) (m_of0 (by repeat (first | with_reducible exact hw | with_reducible exact hwc | with_reducible assumption | with_reducible apply Wf.sI | with_reducible apply Wf.sL | with_reducible apply Wf.cpI | with_reducible apply Wf.cpL | with_reducible apply Wf.cp2 | with_reducible apply Wf.sIs | with_reducible apply Wf.sLs | with_reducible apply Wf.cpU | with_reducible apply Wf.fillI | with_reducible apply Wf.clU | with_reducible apply Wf.dnF | with_reducible apply Wf.gbW)) (hv.th 0) hi) rfl dX11_passenger_62 yk_X11_of im_X11_of se_X11_of ml_X11_294 rfl (co_338 (by repeat (first | with_reducible exact hw | with_reducible exact hwc | with_reducible assumption | with_reducible apply Wf.sI | with_reducible apply Wf.sL | with_reducible apply Wf.cpI | with_reducible apply Wf.cpL | with_reducible apply Wf.cp2 | with_reducible apply Wf.sIs | with_reducible apply Wf.sLs | with_reducible apply Wf.cpU | with_reducible apply Wf.fillI | with_reducible apply Wf.clU | with_reducible apply Wf.dnF | with_reducible apply Wf.gbW))) (by decide) hc_X11 (by decide) (by decide) (Nat.le_of_ble_eq_true rfl)) ?_
  refine ⟨_, _, (a_ireturn dX11_passenger_65 rfl rfl), ?_⟩
  exact ⟨_, rfl, rfl, MqQ.of hw 0⟩

theorem m_passenger_1 (hw : Wf μ) (hv : MdV μ q d) (hx : MxV (gI μ 344) q d) (hz : NoF q d) {i : Nat} (hi : i < dP d) : CV Y_X11_passenger R_X11_passenger [.ref 338, .int (nI i), .int (nI 1)] μ (fun v V => v = some (.int (pgV q d i 1)) ∧ MqQ μ 0 V) := by
  have hM4 := hv.M4
  have hT4 := hv.T4
  have hP4 := hv.P4
  have hC4 := hv.C4
  have hw1 : Wf (sI μ 338 0 0) := hw.sI
  have hv1 : MdV (sI μ 338 0 0) q d := hv.th 0
  refine CV.ent yk_X11_passenger (Nat.le_of_ble_eq_true rfl) ?_
  refine lf (a_aload_n dX11_passenger_0 rfl) ?_
  refine lf (a_aload_n dX11_passenger_1 rfl) ?_
  refine lf (a_iload_n dX11_passenger_2 rfl) ?_
  refine lf (a_inv (b2 := (0, 0)) (Ct.int (isO_lt hi (by omega)) (m_isPassenger (by repeat (first | with_reducible exact hw | with_reducible exact hwc | with_reducible assumption | with_reducible apply Wf.sI | with_reducible apply Wf.sL | with_reducible apply Wf.cpI | with_reducible apply Wf.cpL | with_reducible apply Wf.cp2 | with_reducible apply Wf.sIs | with_reducible apply Wf.sLs | with_reducible apply Wf.cpU | with_reducible apply Wf.fillI | with_reducible apply Wf.clU | with_reducible apply Wf.dnF | with_reducible apply Wf.gbW)) hv (nI i))) rfl dX11_passenger_3 yk_X11_isPassenger im_X11_isPassenger se_X11_isPassenger ml_X11_385 rfl (co_338 (by repeat (first | with_reducible exact hw | with_reducible exact hwc | with_reducible assumption | with_reducible apply Wf.sI | with_reducible apply Wf.sL | with_reducible apply Wf.cpI | with_reducible apply Wf.cpL | with_reducible apply Wf.cp2 | with_reducible apply Wf.sIs | with_reducible apply Wf.sLs | with_reducible apply Wf.cpU | with_reducible apply Wf.fillI | with_reducible apply Wf.clU | with_reducible apply Wf.dnF | with_reducible apply Wf.gbW))) (by decide) hc_X11 (by decide) (by decide) (Nat.le_of_ble_eq_true rfl)) ?_
  refine lfn (a_if_ne (tgt := 13) dX11_passenger_6 (by decide)) (fun h6 => ?_) (fun h6 => absurd h6 (by decide))
  refine lf (a_iload_n dX11_passenger_13 rfl) ?_
  refine lf (a_iconst (0 : Int32) dX11_passenger_14 (by decide)) ?_
  refine lf (a_iconst (5 : Int32) dX11_passenger_15 (by decide)) ?_
  refine lf (a_invS (b2 := (0, 0)) (Ct.int (y := 1) (by decide) (m_in (nI 1) 0 5)) rfl dX11_passenger_16 yk_X11_in sm_X11_in ml_X11_102 rfl (by decide) (by decide) (Nat.le_of_ble_eq_true rfl)) ?_
  refine lf2 (a_if_eq (tgt := 26) dX11_passenger_19 (by decide)) (fun h19 => absurd h19 (by decide)) (fun h19 => ?_)
  refine lf (a_iconst (0 : Int32) dX11_passenger_22 (by decide)) ?_
  refine lf (a_goto (tgt := 27) dX11_passenger_23 (by decide)) ?_
  refine lf (a_inv (b2 := (0, 0)) (m_isRefused0 (by repeat (first | with_reducible exact hw | with_reducible exact hwc | with_reducible assumption | with_reducible apply Wf.sI | with_reducible apply Wf.sL | with_reducible apply Wf.cpI | with_reducible apply Wf.cpL | with_reducible apply Wf.cp2 | with_reducible apply Wf.sIs | with_reducible apply Wf.sLs | with_reducible apply Wf.cpU | with_reducible apply Wf.fillI | with_reducible apply Wf.clU | with_reducible apply Wf.dnF | with_reducible apply Wf.gbW))) rfl dX11_passenger_27 yk_X11_isRefused im_X11_isRefused se_X11_isRefused ml_X11_98 rfl (co_338 (by repeat (first | with_reducible exact hw | with_reducible exact hwc | with_reducible assumption | with_reducible apply Wf.sI | with_reducible apply Wf.sL | with_reducible apply Wf.cpI | with_reducible apply Wf.cpL | with_reducible apply Wf.cp2 | with_reducible apply Wf.sIs | with_reducible apply Wf.sLs | with_reducible apply Wf.cpU | with_reducible apply Wf.fillI | with_reducible apply Wf.clU | with_reducible apply Wf.dnF | with_reducible apply Wf.gbW))) (by decide) hc_X11 (by decide) (by decide) (Nat.le_of_ble_eq_true rfl)) ?_
  refine lf2 (a_if_eq (tgt := 35) dX11_passenger_30 (by decide)) (fun h30 => ?_) (fun h30 => absurd h30 (fun z => z rfl))
  refine lf (a_iload_n dX11_passenger_35 rfl) ?_
  refine lf (a_iconst (4 : Int32) dX11_passenger_36 (by decide)) ?_
  refine lfn (a_icmp_ne (tgt := 46) dX11_passenger_37 (by decide)) (fun h37 => ?_) (fun h37 => absurd h37 (by decide))
  refine lf (a_iload_n dX11_passenger_46 rfl) ?_
  refine lf (a_iconst (5 : Int32) dX11_passenger_47 (by decide)) ?_
  refine lfn (a_icmp_ne (tgt := 59) dX11_passenger_48 (by decide)) (fun h48 => ?_) (fun h48 => absurd h48 (by decide))
  refine lf (a_aload_n dX11_passenger_59 rfl) ?_
  refine lf (a_iload_n dX11_passenger_60 rfl) ?_
  refine lf (a_iload_n dX11_passenger_61 rfl) ?_
  refine lf (a_inv (b2 := (0, 0)) (m_of1 (by repeat (first | with_reducible exact hw | with_reducible exact hwc | with_reducible assumption | with_reducible apply Wf.sI | with_reducible apply Wf.sL | with_reducible apply Wf.cpI | with_reducible apply Wf.cpL | with_reducible apply Wf.cp2 | with_reducible apply Wf.sIs | with_reducible apply Wf.sLs | with_reducible apply Wf.cpU | with_reducible apply Wf.fillI | with_reducible apply Wf.clU | with_reducible apply Wf.dnF | with_reducible apply Wf.gbW)) (hv.th 0) hi) rfl dX11_passenger_62 yk_X11_of im_X11_of se_X11_of ml_X11_294 rfl (co_338 (by repeat (first | with_reducible exact hw | with_reducible exact hwc | with_reducible assumption | with_reducible apply Wf.sI | with_reducible apply Wf.sL | with_reducible apply Wf.cpI | with_reducible apply Wf.cpL | with_reducible apply Wf.cp2 | with_reducible apply Wf.sIs | with_reducible apply Wf.sLs | with_reducible apply Wf.cpU | with_reducible apply Wf.fillI | with_reducible apply Wf.clU | with_reducible apply Wf.dnF | with_reducible apply Wf.gbW))) (by decide) hc_X11 (by decide) (by decide) (Nat.le_of_ble_eq_true rfl)) ?_
  refine ⟨_, _, (a_ireturn dX11_passenger_65 rfl rfl), ?_⟩
  exact ⟨_, rfl, rfl, MqQ.of hw 0⟩

theorem m_passenger_2 (hw : Wf μ) (hv : MdV μ q d) (hx : MxV (gI μ 344) q d) (hz : NoF q d) {i : Nat} (hi : i < dP d) : CV Y_X11_passenger R_X11_passenger [.ref 338, .int (nI i), .int (nI 2)] μ (fun v V => v = some (.int (pgV q d i 2)) ∧ MqQ μ 0 V) := by
  have hM4 := hv.M4
  have hT4 := hv.T4
  have hP4 := hv.P4
  have hC4 := hv.C4
  have hw1 : Wf (sI μ 338 0 0) := hw.sI
  have hv1 : MdV (sI μ 338 0 0) q d := hv.th 0
  refine CV.ent yk_X11_passenger (Nat.le_of_ble_eq_true rfl) ?_
  refine lf (a_aload_n dX11_passenger_0 rfl) ?_
  refine lf (a_aload_n dX11_passenger_1 rfl) ?_
  refine lf (a_iload_n dX11_passenger_2 rfl) ?_
  refine lf (a_inv (b2 := (0, 0)) (Ct.int (isO_lt hi (by omega)) (m_isPassenger (by repeat (first | with_reducible exact hw | with_reducible exact hwc | with_reducible assumption | with_reducible apply Wf.sI | with_reducible apply Wf.sL | with_reducible apply Wf.cpI | with_reducible apply Wf.cpL | with_reducible apply Wf.cp2 | with_reducible apply Wf.sIs | with_reducible apply Wf.sLs | with_reducible apply Wf.cpU | with_reducible apply Wf.fillI | with_reducible apply Wf.clU | with_reducible apply Wf.dnF | with_reducible apply Wf.gbW)) hv (nI i))) rfl dX11_passenger_3 yk_X11_isPassenger im_X11_isPassenger se_X11_isPassenger ml_X11_385 rfl (co_338 (by repeat (first | with_reducible exact hw | with_reducible exact hwc | with_reducible assumption | with_reducible apply Wf.sI | with_reducible apply Wf.sL | with_reducible apply Wf.cpI | with_reducible apply Wf.cpL | with_reducible apply Wf.cp2 | with_reducible apply Wf.sIs | with_reducible apply Wf.sLs | with_reducible apply Wf.cpU | with_reducible apply Wf.fillI | with_reducible apply Wf.clU | with_reducible apply Wf.dnF | with_reducible apply Wf.gbW))) (by decide) hc_X11 (by decide) (by decide) (Nat.le_of_ble_eq_true rfl)) ?_
  refine lfn (a_if_ne (tgt := 13) dX11_passenger_6 (by decide)) (fun h6 => ?_) (fun h6 => absurd h6 (by decide))
  refine lf (a_iload_n dX11_passenger_13 rfl) ?_
  refine lf (a_iconst (0 : Int32) dX11_passenger_14 (by decide)) ?_
  refine lf (a_iconst (5 : Int32) dX11_passenger_15 (by decide)) ?_
  refine lf (a_invS (b2 := (0, 0)) (Ct.int (y := 1) (by decide) (m_in (nI 2) 0 5)) rfl dX11_passenger_16 yk_X11_in sm_X11_in ml_X11_102 rfl (by decide) (by decide) (Nat.le_of_ble_eq_true rfl)) ?_
  refine lf2 (a_if_eq (tgt := 26) dX11_passenger_19 (by decide)) (fun h19 => absurd h19 (by decide)) (fun h19 => ?_)
  refine lf (a_iconst (0 : Int32) dX11_passenger_22 (by decide)) ?_
  refine lf (a_goto (tgt := 27) dX11_passenger_23 (by decide)) ?_
  refine lf (a_inv (b2 := (0, 0)) (m_isRefused0 (by repeat (first | with_reducible exact hw | with_reducible exact hwc | with_reducible assumption | with_reducible apply Wf.sI | with_reducible apply Wf.sL | with_reducible apply Wf.cpI | with_reducible apply Wf.cpL | with_reducible apply Wf.cp2 | with_reducible apply Wf.sIs | with_reducible apply Wf.sLs | with_reducible apply Wf.cpU | with_reducible apply Wf.fillI | with_reducible apply Wf.clU | with_reducible apply Wf.dnF | with_reducible apply Wf.gbW))) rfl dX11_passenger_27 yk_X11_isRefused im_X11_isRefused se_X11_isRefused ml_X11_98 rfl (co_338 (by repeat (first | with_reducible exact hw | with_reducible exact hwc | with_reducible assumption | with_reducible apply Wf.sI | with_reducible apply Wf.sL | with_reducible apply Wf.cpI | with_reducible apply Wf.cpL | with_reducible apply Wf.cp2 | with_reducible apply Wf.sIs | with_reducible apply Wf.sLs | with_reducible apply Wf.cpU | with_reducible apply Wf.fillI | with_reducible apply Wf.clU | with_reducible apply Wf.dnF | with_reducible apply Wf.gbW))) (by decide) hc_X11 (by decide) (by decide) (Nat.le_of_ble_eq_true rfl)) ?_
  refine lf2 (a_if_eq (tgt := 35) dX11_passenger_30 (by decide)) (fun h30 => ?_) (fun h30 => absurd h30 (fun z => z rfl))
  refine lf (a_iload_n dX11_passenger_35 rfl) ?_
  refine lf (a_iconst (4 : Int32) dX11_passenger_36 (by decide)) ?_
  refine lfn (a_icmp_ne (tgt := 46) dX11_passenger_37 (by decide)) (fun h37 => ?_) (fun h37 => absurd h37 (by decide))
  refine lf (a_iload_n dX11_passenger_46 rfl) ?_
  refine lf (a_iconst (5 : Int32) dX11_passenger_47 (by decide)) ?_
  refine lfn (a_icmp_ne (tgt := 59) dX11_passenger_48 (by decide)) (fun h48 => ?_) (fun h48 => absurd h48 (by decide))
  refine lf (a_aload_n dX11_passenger_59 rfl) ?_
  refine lf (a_iload_n dX11_passenger_60 rfl) ?_
  refine lf (a_iload_n dX11_passenger_61 rfl) ?_
  refine lf (a_inv (b2 := (0, 0)) (m_of2 (by repeat (first | with_reducible exact hw | with_reducible exact hwc | with_reducible assumption | with_reducible apply Wf.sI | with_reducible apply Wf.sL | with_reducible apply Wf.cpI | with_reducible apply Wf.cpL | with_reducible apply Wf.cp2 | with_reducible apply Wf.sIs | with_reducible apply Wf.sLs | with_reducible apply Wf.cpU | with_reducible apply Wf.fillI | with_reducible apply Wf.clU | with_reducible apply Wf.dnF | with_reducible apply Wf.gbW)) (hv.th 0) hi) rfl dX11_passenger_62 yk_X11_of im_X11_of se_X11_of ml_X11_294 rfl (co_338 (by repeat (first | with_reducible exact hw | with_reducible exact hwc | with_reducible assumption | with_reducible apply Wf.sI | with_reducible apply Wf.sL | with_reducible apply Wf.cpI | with_reducible apply Wf.cpL | with_reducible apply Wf.cp2 | with_reducible apply Wf.sIs | with_reducible apply Wf.sLs | with_reducible apply Wf.cpU | with_reducible apply Wf.fillI | with_reducible apply Wf.clU | with_reducible apply Wf.dnF | with_reducible apply Wf.gbW))) (by decide) hc_X11 (by decide) (by decide) (Nat.le_of_ble_eq_true rfl)) ?_
  refine ⟨_, _, (a_ireturn dX11_passenger_65 rfl rfl), ?_⟩
  exact ⟨_, rfl, rfl, MqQ.of hw 0⟩

theorem m_passenger_3 (hw : Wf μ) (hv : MdV μ q d) (hx : MxV (gI μ 344) q d) (hz : NoF q d) {i : Nat} (hi : i < dP d) : CV Y_X11_passenger R_X11_passenger [.ref 338, .int (nI i), .int (nI 3)] μ (fun v V => v = some (.int (pgV q d i 3)) ∧ MqQ μ 0 V) := by
  have hM4 := hv.M4
  have hT4 := hv.T4
  have hP4 := hv.P4
  have hC4 := hv.C4
  have hw1 : Wf (sI μ 338 0 0) := hw.sI
  have hv1 : MdV (sI μ 338 0 0) q d := hv.th 0
  have hg : gI (sI μ 338 0 0) 344 (5 + 4 * i + 3) = pgV q d i 3 := by
    rw [gI_sI, if_neg (by omega), hx.1 i hi]
    show _ = if phD q d = 3 then oI ((svR q d).1 i) else -1
    by_cases h : dF d 6 0 = 0
    · rw [if_pos h, if_neg (fun z => ((ph3 q d).mp z).2 h)]
    · rw [if_neg h, if_pos ((ph3 q d).mpr ⟨fun z => by have := (hz z).1; omega, h⟩)]
  refine CV.ent yk_X11_passenger (Nat.le_of_ble_eq_true rfl) ?_
  refine lf (a_aload_n dX11_passenger_0 rfl) ?_
  refine lf (a_aload_n dX11_passenger_1 rfl) ?_
  refine lf (a_iload_n dX11_passenger_2 rfl) ?_
  refine lf (a_inv (b2 := (0, 0)) (Ct.int (isO_lt hi (by omega)) (m_isPassenger (by repeat (first | with_reducible exact hw | with_reducible exact hwc | with_reducible assumption | with_reducible apply Wf.sI | with_reducible apply Wf.sL | with_reducible apply Wf.cpI | with_reducible apply Wf.cpL | with_reducible apply Wf.cp2 | with_reducible apply Wf.sIs | with_reducible apply Wf.sLs | with_reducible apply Wf.cpU | with_reducible apply Wf.fillI | with_reducible apply Wf.clU | with_reducible apply Wf.dnF | with_reducible apply Wf.gbW)) hv (nI i))) rfl dX11_passenger_3 yk_X11_isPassenger im_X11_isPassenger se_X11_isPassenger ml_X11_385 rfl (co_338 (by repeat (first | with_reducible exact hw | with_reducible exact hwc | with_reducible assumption | with_reducible apply Wf.sI | with_reducible apply Wf.sL | with_reducible apply Wf.cpI | with_reducible apply Wf.cpL | with_reducible apply Wf.cp2 | with_reducible apply Wf.sIs | with_reducible apply Wf.sLs | with_reducible apply Wf.cpU | with_reducible apply Wf.fillI | with_reducible apply Wf.clU | with_reducible apply Wf.dnF | with_reducible apply Wf.gbW))) (by decide) hc_X11 (by decide) (by decide) (Nat.le_of_ble_eq_true rfl)) ?_
  refine lfn (a_if_ne (tgt := 13) dX11_passenger_6 (by decide)) (fun h6 => ?_) (fun h6 => absurd h6 (by decide))
  refine lf (a_iload_n dX11_passenger_13 rfl) ?_
  refine lf (a_iconst (0 : Int32) dX11_passenger_14 (by decide)) ?_
  refine lf (a_iconst (5 : Int32) dX11_passenger_15 (by decide)) ?_
  refine lf (a_invS (b2 := (0, 0)) (Ct.int (y := 1) (by decide) (m_in (nI 3) 0 5)) rfl dX11_passenger_16 yk_X11_in sm_X11_in ml_X11_102 rfl (by decide) (by decide) (Nat.le_of_ble_eq_true rfl)) ?_
  refine lf2 (a_if_eq (tgt := 26) dX11_passenger_19 (by decide)) (fun h19 => absurd h19 (by decide)) (fun h19 => ?_)
  refine lf (a_iconst (0 : Int32) dX11_passenger_22 (by decide)) ?_
  refine lf (a_goto (tgt := 27) dX11_passenger_23 (by decide)) ?_
  refine lf (a_inv (b2 := (0, 0)) (m_isRefused0 (by repeat (first | with_reducible exact hw | with_reducible exact hwc | with_reducible assumption | with_reducible apply Wf.sI | with_reducible apply Wf.sL | with_reducible apply Wf.cpI | with_reducible apply Wf.cpL | with_reducible apply Wf.cp2 | with_reducible apply Wf.sIs | with_reducible apply Wf.sLs | with_reducible apply Wf.cpU | with_reducible apply Wf.fillI | with_reducible apply Wf.clU | with_reducible apply Wf.dnF | with_reducible apply Wf.gbW))) rfl dX11_passenger_27 yk_X11_isRefused im_X11_isRefused se_X11_isRefused ml_X11_98 rfl (co_338 (by repeat (first | with_reducible exact hw | with_reducible exact hwc | with_reducible assumption | with_reducible apply Wf.sI | with_reducible apply Wf.sL | with_reducible apply Wf.cpI | with_reducible apply Wf.cpL | with_reducible apply Wf.cp2 | with_reducible apply Wf.sIs | with_reducible apply Wf.sLs | with_reducible apply Wf.cpU | with_reducible apply Wf.fillI | with_reducible apply Wf.clU | with_reducible apply Wf.dnF | with_reducible apply Wf.gbW))) (by decide) hc_X11 (by decide) (by decide) (Nat.le_of_ble_eq_true rfl)) ?_
  refine lf2 (a_if_eq (tgt := 35) dX11_passenger_30 (by decide)) (fun h30 => ?_) (fun h30 => absurd h30 (fun z => z rfl))
  refine lf (a_iload_n dX11_passenger_35 rfl) ?_
  refine lf (a_iconst (4 : Int32) dX11_passenger_36 (by decide)) ?_
  refine lfn (a_icmp_ne (tgt := 46) dX11_passenger_37 (by decide)) (fun h37 => ?_) (fun h37 => absurd h37 (by decide))
  refine lf (a_iload_n dX11_passenger_46 rfl) ?_
  refine lf (a_iconst (5 : Int32) dX11_passenger_47 (by decide)) ?_
  refine lfn (a_icmp_ne (tgt := 59) dX11_passenger_48 (by decide)) (fun h48 => ?_) (fun h48 => absurd h48 (by decide))
  refine lf (a_aload_n dX11_passenger_59 rfl) ?_
  refine lf (a_iload_n dX11_passenger_60 rfl) ?_
  refine lf (a_iload_n dX11_passenger_61 rfl) ?_
  refine lf (a_inv (b2 := (0, 0)) (Ct.int hg (m_of3 (by repeat (first | with_reducible exact hw | with_reducible exact hwc | with_reducible assumption | with_reducible apply Wf.sI | with_reducible apply Wf.sL | with_reducible apply Wf.cpI | with_reducible apply Wf.cpL | with_reducible apply Wf.cp2 | with_reducible apply Wf.sIs | with_reducible apply Wf.sLs | with_reducible apply Wf.cpU | with_reducible apply Wf.fillI | with_reducible apply Wf.clU | with_reducible apply Wf.dnF | with_reducible apply Wf.gbW)) hv1 (show i < 40 by omega))) rfl dX11_passenger_62 yk_X11_of im_X11_of se_X11_of ml_X11_294 rfl (co_338 (by repeat (first | with_reducible exact hw | with_reducible exact hwc | with_reducible assumption | with_reducible apply Wf.sI | with_reducible apply Wf.sL | with_reducible apply Wf.cpI | with_reducible apply Wf.cpL | with_reducible apply Wf.cp2 | with_reducible apply Wf.sIs | with_reducible apply Wf.sLs | with_reducible apply Wf.cpU | with_reducible apply Wf.fillI | with_reducible apply Wf.clU | with_reducible apply Wf.dnF | with_reducible apply Wf.gbW))) (by decide) hc_X11 (by decide) (by decide) (Nat.le_of_ble_eq_true rfl)) ?_
  refine ⟨_, _, (a_ireturn dX11_passenger_65 rfl rfl), ?_⟩
  exact ⟨_, rfl, rfl, MqQ.of hw 0⟩

theorem m_passenger_4 (hw : Wf μ) (hv : MdV μ q d) (hx : MxV (gI μ 344) q d) (hz : NoF q d) {i : Nat} (hi : i < dP d) : CV Y_X11_passenger R_X11_passenger [.ref 338, .int (nI i), .int (nI 4)] μ (fun v V => v = some (.int (pgV q d i 4)) ∧ MqQ μ 0 V) := by
  have hM4 := hv.M4
  have hT4 := hv.T4
  have hP4 := hv.P4
  have hC4 := hv.C4
  have hw1 : Wf (sI μ 338 0 0) := hw.sI
  have hv1 : MdV (sI μ 338 0 0) q d := hv.th 0
  refine CV.ent yk_X11_passenger (Nat.le_of_ble_eq_true rfl) ?_
  refine lf (a_aload_n dX11_passenger_0 rfl) ?_
  refine lf (a_aload_n dX11_passenger_1 rfl) ?_
  refine lf (a_iload_n dX11_passenger_2 rfl) ?_
  refine lf (a_inv (b2 := (0, 0)) (Ct.int (isO_lt hi (by omega)) (m_isPassenger (by repeat (first | with_reducible exact hw | with_reducible exact hwc | with_reducible assumption | with_reducible apply Wf.sI | with_reducible apply Wf.sL | with_reducible apply Wf.cpI | with_reducible apply Wf.cpL | with_reducible apply Wf.cp2 | with_reducible apply Wf.sIs | with_reducible apply Wf.sLs | with_reducible apply Wf.cpU | with_reducible apply Wf.fillI | with_reducible apply Wf.clU | with_reducible apply Wf.dnF | with_reducible apply Wf.gbW)) hv (nI i))) rfl dX11_passenger_3 yk_X11_isPassenger im_X11_isPassenger se_X11_isPassenger ml_X11_385 rfl (co_338 (by repeat (first | with_reducible exact hw | with_reducible exact hwc | with_reducible assumption | with_reducible apply Wf.sI | with_reducible apply Wf.sL | with_reducible apply Wf.cpI | with_reducible apply Wf.cpL | with_reducible apply Wf.cp2 | with_reducible apply Wf.sIs | with_reducible apply Wf.sLs | with_reducible apply Wf.cpU | with_reducible apply Wf.fillI | with_reducible apply Wf.clU | with_reducible apply Wf.dnF | with_reducible apply Wf.gbW))) (by decide) hc_X11 (by decide) (by decide) (Nat.le_of_ble_eq_true rfl)) ?_
  refine lfn (a_if_ne (tgt := 13) dX11_passenger_6 (by decide)) (fun h6 => ?_) (fun h6 => absurd h6 (by decide))
  refine lf (a_iload_n dX11_passenger_13 rfl) ?_
  refine lf (a_iconst (0 : Int32) dX11_passenger_14 (by decide)) ?_
  refine lf (a_iconst (5 : Int32) dX11_passenger_15 (by decide)) ?_
  refine lf (a_invS (b2 := (0, 0)) (Ct.int (y := 1) (by decide) (m_in (nI 4) 0 5)) rfl dX11_passenger_16 yk_X11_in sm_X11_in ml_X11_102 rfl (by decide) (by decide) (Nat.le_of_ble_eq_true rfl)) ?_
  refine lf2 (a_if_eq (tgt := 26) dX11_passenger_19 (by decide)) (fun h19 => absurd h19 (by decide)) (fun h19 => ?_)
  refine lf (a_iconst (0 : Int32) dX11_passenger_22 (by decide)) ?_
  refine lf (a_goto (tgt := 27) dX11_passenger_23 (by decide)) ?_
  refine lf (a_inv (b2 := (0, 0)) (m_isRefused0 (by repeat (first | with_reducible exact hw | with_reducible exact hwc | with_reducible assumption | with_reducible apply Wf.sI | with_reducible apply Wf.sL | with_reducible apply Wf.cpI | with_reducible apply Wf.cpL | with_reducible apply Wf.cp2 | with_reducible apply Wf.sIs | with_reducible apply Wf.sLs | with_reducible apply Wf.cpU | with_reducible apply Wf.fillI | with_reducible apply Wf.clU | with_reducible apply Wf.dnF | with_reducible apply Wf.gbW))) rfl dX11_passenger_27 yk_X11_isRefused im_X11_isRefused se_X11_isRefused ml_X11_98 rfl (co_338 (by repeat (first | with_reducible exact hw | with_reducible exact hwc | with_reducible assumption | with_reducible apply Wf.sI | with_reducible apply Wf.sL | with_reducible apply Wf.cpI | with_reducible apply Wf.cpL | with_reducible apply Wf.cp2 | with_reducible apply Wf.sIs | with_reducible apply Wf.sLs | with_reducible apply Wf.cpU | with_reducible apply Wf.fillI | with_reducible apply Wf.clU | with_reducible apply Wf.dnF | with_reducible apply Wf.gbW))) (by decide) hc_X11 (by decide) (by decide) (Nat.le_of_ble_eq_true rfl)) ?_
  refine lf2 (a_if_eq (tgt := 35) dX11_passenger_30 (by decide)) (fun h30 => ?_) (fun h30 => absurd h30 (fun z => z rfl))
  refine lf (a_iload_n dX11_passenger_35 rfl) ?_
  refine lf (a_iconst (4 : Int32) dX11_passenger_36 (by decide)) ?_
  refine lfn (a_icmp_ne (tgt := 46) dX11_passenger_37 (by decide)) (fun h37 => absurd h37 (by decide)) (fun h37 => ?_)
  refine lf (a_aload_n dX11_passenger_40 rfl) ?_
  refine lf (a_iload_n dX11_passenger_41 rfl) ?_
  refine lf (a_inv (b2 := (0, 0)) (m_suiting (by repeat (first | with_reducible exact hw | with_reducible exact hwc | with_reducible assumption | with_reducible apply Wf.sI | with_reducible apply Wf.sL | with_reducible apply Wf.cpI | with_reducible apply Wf.cpL | with_reducible apply Wf.cp2 | with_reducible apply Wf.sIs | with_reducible apply Wf.sLs | with_reducible apply Wf.cpU | with_reducible apply Wf.fillI | with_reducible apply Wf.clU | with_reducible apply Wf.dnF | with_reducible apply Wf.gbW)) (hv.th 0) hi) rfl dX11_passenger_42 yk_X11_suiting im_X11_suiting se_X11_suiting ml_X11_388 rfl (co_338 (by repeat (first | with_reducible exact hw | with_reducible exact hwc | with_reducible assumption | with_reducible apply Wf.sI | with_reducible apply Wf.sL | with_reducible apply Wf.cpI | with_reducible apply Wf.cpL | with_reducible apply Wf.cp2 | with_reducible apply Wf.sIs | with_reducible apply Wf.sLs | with_reducible apply Wf.cpU | with_reducible apply Wf.fillI | with_reducible apply Wf.clU | with_reducible apply Wf.dnF | with_reducible apply Wf.gbW))) (by decide) hc_X11 (by decide) (by decide) (Nat.le_of_ble_eq_true rfl)) ?_
  refine ⟨_, _, (a_ireturn dX11_passenger_45 rfl rfl), ?_⟩
  exact ⟨_, rfl, rfl, MqQ.of hw 0⟩

theorem m_passenger_5 (hw : Wf μ) (hv : MdV μ q d) (hx : MxV (gI μ 344) q d) (hz : NoF q d) {i : Nat} (hi : i < dP d) : CV Y_X11_passenger R_X11_passenger [.ref 338, .int (nI i), .int (nI 5)] μ (fun v V => v = some (.int (pgV q d i 5)) ∧ MqQ μ 0 V) := by
  have hM4 := hv.M4
  have hT4 := hv.T4
  have hP4 := hv.P4
  have hC4 := hv.C4
  have hw1 : Wf (sI μ 338 0 0) := hw.sI
  have hv1 : MdV (sI μ 338 0 0) q d := hv.th 0
  refine CV.ent yk_X11_passenger (Nat.le_of_ble_eq_true rfl) ?_
  refine lf (a_aload_n dX11_passenger_0 rfl) ?_
  refine lf (a_aload_n dX11_passenger_1 rfl) ?_
  refine lf (a_iload_n dX11_passenger_2 rfl) ?_
  refine lf (a_inv (b2 := (0, 0)) (Ct.int (isO_lt hi (by omega)) (m_isPassenger (by repeat (first | with_reducible exact hw | with_reducible exact hwc | with_reducible assumption | with_reducible apply Wf.sI | with_reducible apply Wf.sL | with_reducible apply Wf.cpI | with_reducible apply Wf.cpL | with_reducible apply Wf.cp2 | with_reducible apply Wf.sIs | with_reducible apply Wf.sLs | with_reducible apply Wf.cpU | with_reducible apply Wf.fillI | with_reducible apply Wf.clU | with_reducible apply Wf.dnF | with_reducible apply Wf.gbW)) hv (nI i))) rfl dX11_passenger_3 yk_X11_isPassenger im_X11_isPassenger se_X11_isPassenger ml_X11_385 rfl (co_338 (by repeat (first | with_reducible exact hw | with_reducible exact hwc | with_reducible assumption | with_reducible apply Wf.sI | with_reducible apply Wf.sL | with_reducible apply Wf.cpI | with_reducible apply Wf.cpL | with_reducible apply Wf.cp2 | with_reducible apply Wf.sIs | with_reducible apply Wf.sLs | with_reducible apply Wf.cpU | with_reducible apply Wf.fillI | with_reducible apply Wf.clU | with_reducible apply Wf.dnF | with_reducible apply Wf.gbW))) (by decide) hc_X11 (by decide) (by decide) (Nat.le_of_ble_eq_true rfl)) ?_
  refine lfn (a_if_ne (tgt := 13) dX11_passenger_6 (by decide)) (fun h6 => ?_) (fun h6 => absurd h6 (by decide))
  refine lf (a_iload_n dX11_passenger_13 rfl) ?_
  refine lf (a_iconst (0 : Int32) dX11_passenger_14 (by decide)) ?_
  refine lf (a_iconst (5 : Int32) dX11_passenger_15 (by decide)) ?_
  refine lf (a_invS (b2 := (0, 0)) (Ct.int (y := 1) (by decide) (m_in (nI 5) 0 5)) rfl dX11_passenger_16 yk_X11_in sm_X11_in ml_X11_102 rfl (by decide) (by decide) (Nat.le_of_ble_eq_true rfl)) ?_
  refine lf2 (a_if_eq (tgt := 26) dX11_passenger_19 (by decide)) (fun h19 => absurd h19 (by decide)) (fun h19 => ?_)
  refine lf (a_iconst (0 : Int32) dX11_passenger_22 (by decide)) ?_
  refine lf (a_goto (tgt := 27) dX11_passenger_23 (by decide)) ?_
  refine lf (a_inv (b2 := (0, 0)) (m_isRefused0 (by repeat (first | with_reducible exact hw | with_reducible exact hwc | with_reducible assumption | with_reducible apply Wf.sI | with_reducible apply Wf.sL | with_reducible apply Wf.cpI | with_reducible apply Wf.cpL | with_reducible apply Wf.cp2 | with_reducible apply Wf.sIs | with_reducible apply Wf.sLs | with_reducible apply Wf.cpU | with_reducible apply Wf.fillI | with_reducible apply Wf.clU | with_reducible apply Wf.dnF | with_reducible apply Wf.gbW))) rfl dX11_passenger_27 yk_X11_isRefused im_X11_isRefused se_X11_isRefused ml_X11_98 rfl (co_338 (by repeat (first | with_reducible exact hw | with_reducible exact hwc | with_reducible assumption | with_reducible apply Wf.sI | with_reducible apply Wf.sL | with_reducible apply Wf.cpI | with_reducible apply Wf.cpL | with_reducible apply Wf.cp2 | with_reducible apply Wf.sIs | with_reducible apply Wf.sLs | with_reducible apply Wf.cpU | with_reducible apply Wf.fillI | with_reducible apply Wf.clU | with_reducible apply Wf.dnF | with_reducible apply Wf.gbW))) (by decide) hc_X11 (by decide) (by decide) (Nat.le_of_ble_eq_true rfl)) ?_
  refine lf2 (a_if_eq (tgt := 35) dX11_passenger_30 (by decide)) (fun h30 => ?_) (fun h30 => absurd h30 (fun z => z rfl))
  refine lf (a_iload_n dX11_passenger_35 rfl) ?_
  refine lf (a_iconst (4 : Int32) dX11_passenger_36 (by decide)) ?_
  refine lfn (a_icmp_ne (tgt := 46) dX11_passenger_37 (by decide)) (fun h37 => ?_) (fun h37 => absurd h37 (by decide))
  refine lf (a_iload_n dX11_passenger_46 rfl) ?_
  refine lf (a_iconst (5 : Int32) dX11_passenger_47 (by decide)) ?_
  refine lfn (a_icmp_ne (tgt := 59) dX11_passenger_48 (by decide)) (fun h48 => absurd h48 (by decide)) (fun h48 => ?_)
  refine lf (a_aload_n dX11_passenger_51 rfl) ?_
  refine lf (a_iload_n dX11_passenger_52 rfl) ?_
  refine lf (a_inv (b2 := (0, 0)) (m_cheapest (by repeat (first | with_reducible exact hw | with_reducible exact hwc | with_reducible assumption | with_reducible apply Wf.sI | with_reducible apply Wf.sL | with_reducible apply Wf.cpI | with_reducible apply Wf.cpL | with_reducible apply Wf.cp2 | with_reducible apply Wf.sIs | with_reducible apply Wf.sLs | with_reducible apply Wf.cpU | with_reducible apply Wf.fillI | with_reducible apply Wf.clU | with_reducible apply Wf.dnF | with_reducible apply Wf.gbW)) (hv.th 0) hi) rfl dX11_passenger_53 yk_X11_cheapest im_X11_cheapest se_X11_cheapest ml_X11_321 rfl (co_338 (by repeat (first | with_reducible exact hw | with_reducible exact hwc | with_reducible assumption | with_reducible apply Wf.sI | with_reducible apply Wf.sL | with_reducible apply Wf.cpI | with_reducible apply Wf.cpL | with_reducible apply Wf.cp2 | with_reducible apply Wf.sIs | with_reducible apply Wf.sLs | with_reducible apply Wf.cpU | with_reducible apply Wf.fillI | with_reducible apply Wf.clU | with_reducible apply Wf.dnF | with_reducible apply Wf.gbW))) (by decide) hc_X11 (by decide) (by decide) (Nat.le_of_ble_eq_true rfl)) ?_
  refine lf (a_goto (tgt := 65) dX11_passenger_56 (by decide)) ?_
  refine ⟨_, _, (a_ireturn dX11_passenger_65 rfl rfl), ?_⟩
  exact ⟨_, rfl, rfl, MqQ.of hw 0⟩
theorem m_passenger (hw : Wf μ) (hv : MdV μ q d) (hx : MxV (gI μ 344) q d) (hz : NoF q d) {i : Nat} (hi : i < dP d) {k : Nat} (hk : k < 6) : CV Y_X11_passenger R_X11_passenger [.ref 338, .int (nI i), .int (nI k)] μ (fun v V => v = some (.int (pgV q d i k)) ∧ MqQ μ 0 V) := by
  rcases (by omega : k = 0 ∨ k = 1 ∨ k = 2 ∨ k = 3 ∨ k = 4 ∨ k = 5) with rfl | rfl | rfl | rfl | rfl | rfl
  · exact m_passenger_0 hw hv hx hz hi
  · exact m_passenger_1 hw hv hx hz hi
  · exact m_passenger_2 hw hv hx hz hi
  · exact m_passenger_3 hw hv hx hz hi
  · exact m_passenger_4 hw hv hx hz hi
  · exact m_passenger_5 hw hv hx hz hi

theorem mx_passenger (hw : Wf μ) (hv : MdV μ q d) {x y : Int32} (h : ixO x (dP d) = none) : Ct Y_X11_passenger R_X11_passenger [.ref 338, .int x, .int y] μ (.inl (some (.int (0)))) (sI μ 338 0 1) := by
  refine Ct.ent yk_X11_passenger (Nat.le_of_ble_eq_true rfl) ?_
  refine a_aload_n dX11_passenger_0 rfl ?_
  refine a_aload_n dX11_passenger_1 rfl ?_
  refine a_iload_n dX11_passenger_2 rfl ?_
  refine a_inv (b2 := (0, 0)) (Ct.int (isO_none h) (m_isPassenger (by repeat (first | with_reducible exact hw | with_reducible exact hwc | with_reducible assumption | with_reducible apply Wf.sI | with_reducible apply Wf.sL | with_reducible apply Wf.cpI | with_reducible apply Wf.cpL | with_reducible apply Wf.cp2 | with_reducible apply Wf.sIs | with_reducible apply Wf.sLs | with_reducible apply Wf.cpU | with_reducible apply Wf.fillI | with_reducible apply Wf.clU | with_reducible apply Wf.dnF | with_reducible apply Wf.gbW)) hv x)) rfl dX11_passenger_3 yk_X11_isPassenger im_X11_isPassenger se_X11_isPassenger ml_X11_385 rfl (co_338 (by repeat (first | with_reducible exact hw | with_reducible exact hwc | with_reducible assumption | with_reducible apply Wf.sI | with_reducible apply Wf.sL | with_reducible apply Wf.cpI | with_reducible apply Wf.cpL | with_reducible apply Wf.cp2 | with_reducible apply Wf.sIs | with_reducible apply Wf.sLs | with_reducible apply Wf.cpU | with_reducible apply Wf.fillI | with_reducible apply Wf.clU | with_reducible apply Wf.dnF | with_reducible apply Wf.gbW))) (by decide) hc_X11 (by decide) (by decide) (Nat.le_of_ble_eq_true rfl) ?_
  refine a_if_ne (tgt := 13) dX11_passenger_6 (by decide) (fun h6 => absurd h6 (fun z => z rfl)) (fun h6 => ?_)
  refine a_iconst (1 : Int32) dX11_passenger_9 (by decide) ?_
  refine a_goto (tgt := 27) dX11_passenger_10 (by decide) ?_
  refine a_inv (b2 := (0, 0)) (m_isRefused1 (by repeat (first | with_reducible exact hw | with_reducible exact hwc | with_reducible assumption | with_reducible apply Wf.sI | with_reducible apply Wf.sL | with_reducible apply Wf.cpI | with_reducible apply Wf.cpL | with_reducible apply Wf.cp2 | with_reducible apply Wf.sIs | with_reducible apply Wf.sLs | with_reducible apply Wf.cpU | with_reducible apply Wf.fillI | with_reducible apply Wf.clU | with_reducible apply Wf.dnF | with_reducible apply Wf.gbW)) (v := 1) (by decide)) rfl dX11_passenger_27 yk_X11_isRefused im_X11_isRefused se_X11_isRefused ml_X11_98 rfl (co_338 (by repeat (first | with_reducible exact hw | with_reducible exact hwc | with_reducible assumption | with_reducible apply Wf.sI | with_reducible apply Wf.sL | with_reducible apply Wf.cpI | with_reducible apply Wf.cpL | with_reducible apply Wf.cp2 | with_reducible apply Wf.sIs | with_reducible apply Wf.sLs | with_reducible apply Wf.cpU | with_reducible apply Wf.fillI | with_reducible apply Wf.clU | with_reducible apply Wf.dnF | with_reducible apply Wf.gbW))) (by decide) hc_X11 (by decide) (by decide) (Nat.le_of_ble_eq_true rfl) ?_
  refine a_if_eq (tgt := 35) dX11_passenger_30 (by decide) (fun h30 => absurd h30 (by decide)) (fun h30 => ?_)
  refine a_iconst (0 : Int32) dX11_passenger_33 (by decide) ?_
  exact a_out rfl rfl (a_ireturn dX11_passenger_34 rfl rfl)

theorem my_passenger (hw : Wf μ) (hv : MdV μ q d) {i : Nat} (hi : i < dP d) {y : Int32} (h : ixO y 6 = none) : Ct Y_X11_passenger R_X11_passenger [.ref 338, .int (nI i), .int y] μ (.inl (some (.int (0)))) (sI μ 338 0 2) := by
  refine Ct.ent yk_X11_passenger (Nat.le_of_ble_eq_true rfl) ?_
  have h4 := hv.P4
  have h2 : inI y 0 5 = 0 := (inI_ix (x := y) (n := 6) (by decide)).trans (isO_none h)
  refine a_aload_n dX11_passenger_0 rfl ?_
  refine a_aload_n dX11_passenger_1 rfl ?_
  refine a_iload_n dX11_passenger_2 rfl ?_
  refine a_inv (b2 := (0, 0)) (Ct.int (isO_lt hi (by omega)) (m_isPassenger (by repeat (first | with_reducible exact hw | with_reducible exact hwc | with_reducible assumption | with_reducible apply Wf.sI | with_reducible apply Wf.sL | with_reducible apply Wf.cpI | with_reducible apply Wf.cpL | with_reducible apply Wf.cp2 | with_reducible apply Wf.sIs | with_reducible apply Wf.sLs | with_reducible apply Wf.cpU | with_reducible apply Wf.fillI | with_reducible apply Wf.clU | with_reducible apply Wf.dnF | with_reducible apply Wf.gbW)) hv (nI i))) rfl dX11_passenger_3 yk_X11_isPassenger im_X11_isPassenger se_X11_isPassenger ml_X11_385 rfl (co_338 (by repeat (first | with_reducible exact hw | with_reducible exact hwc | with_reducible assumption | with_reducible apply Wf.sI | with_reducible apply Wf.sL | with_reducible apply Wf.cpI | with_reducible apply Wf.cpL | with_reducible apply Wf.cp2 | with_reducible apply Wf.sIs | with_reducible apply Wf.sLs | with_reducible apply Wf.cpU | with_reducible apply Wf.fillI | with_reducible apply Wf.clU | with_reducible apply Wf.dnF | with_reducible apply Wf.gbW))) (by decide) hc_X11 (by decide) (by decide) (Nat.le_of_ble_eq_true rfl) ?_
  refine a_if_ne (tgt := 13) dX11_passenger_6 (by decide) (fun h6 => ?_) (fun h6 => absurd h6 (by decide))
  refine a_iload_n dX11_passenger_13 rfl ?_
  refine a_iconst (0 : Int32) dX11_passenger_14 (by decide) ?_
  refine a_iconst (5 : Int32) dX11_passenger_15 (by decide) ?_
  refine a_invS (b2 := (0, 0)) (Ct.int h2 (m_in y 0 5)) rfl dX11_passenger_16 yk_X11_in sm_X11_in ml_X11_102 rfl (by decide) (by decide) (Nat.le_of_ble_eq_true rfl) ?_
  refine a_if_eq (tgt := 26) dX11_passenger_19 (by decide) (fun h19 => ?_) (fun h19 => absurd h19 (fun z => z rfl))
  refine a_iconst (2 : Int32) dX11_passenger_26 (by decide) ?_
  refine a_inv (b2 := (0, 0)) (m_isRefused1 (by repeat (first | with_reducible exact hw | with_reducible exact hwc | with_reducible assumption | with_reducible apply Wf.sI | with_reducible apply Wf.sL | with_reducible apply Wf.cpI | with_reducible apply Wf.cpL | with_reducible apply Wf.cp2 | with_reducible apply Wf.sIs | with_reducible apply Wf.sLs | with_reducible apply Wf.cpU | with_reducible apply Wf.fillI | with_reducible apply Wf.clU | with_reducible apply Wf.dnF | with_reducible apply Wf.gbW)) (v := 2) (by decide)) rfl dX11_passenger_27 yk_X11_isRefused im_X11_isRefused se_X11_isRefused ml_X11_98 rfl (co_338 (by repeat (first | with_reducible exact hw | with_reducible exact hwc | with_reducible assumption | with_reducible apply Wf.sI | with_reducible apply Wf.sL | with_reducible apply Wf.cpI | with_reducible apply Wf.cpL | with_reducible apply Wf.cp2 | with_reducible apply Wf.sIs | with_reducible apply Wf.sLs | with_reducible apply Wf.cpU | with_reducible apply Wf.fillI | with_reducible apply Wf.clU | with_reducible apply Wf.dnF | with_reducible apply Wf.gbW))) (by decide) hc_X11 (by decide) (by decide) (Nat.le_of_ble_eq_true rfl) ?_
  refine a_if_eq (tgt := 35) dX11_passenger_30 (by decide) (fun h30 => absurd h30 (by decide)) (fun h30 => ?_)
  refine a_iconst (0 : Int32) dX11_passenger_33 (by decide) ?_
  exact a_out rfl rfl (a_ireturn dX11_passenger_34 rfl rfl)
abbrev R_X11_cabin : Room := { frames := 7, cells := 0, slots := 0, locals := 159 }
abbrev RX_X11_cabin : Room := { frames := 7, cells := 1, slots := 6, locals := 159 }

theorem m_cabin_0 (hw : Wf μ) (hv : MdV μ q d) (hq0 : GdP q) (hd0 : GdD q d) {c : Nat} (hc : c < pC q) : CV Y_X11_cabin R_X11_cabin [.ref 338, .int (nI c), .int (nI 0)] μ (fun v V => v = some (.int (caV q d c 0)) ∧ MqQ μ 0 V) := by
  have hM4 := hv.M4
  have hT4 := hv.T4
  have hP4 := hv.P4
  have hC4 := hv.C4
  have hw1 : Wf (sI μ 338 0 0) := hw.sI
  have hv1 : MdV (sI μ 338 0 0) q d := hv.th 0
  refine CV.ent yk_X11_cabin (Nat.le_of_ble_eq_true rfl) ?_
  refine lf (a_aload_n dX11_cabin_0 rfl) ?_
  refine lf (a_aload_n dX11_cabin_1 rfl) ?_
  refine lf (a_iload_n dX11_cabin_2 rfl) ?_
  refine lf (a_inv (b2 := (0, 0)) (Ct.int (isO_lt hc (by omega)) (m_isCabin (by repeat (first | with_reducible exact hw | with_reducible exact hwc | with_reducible assumption | with_reducible apply Wf.sI | with_reducible apply Wf.sL | with_reducible apply Wf.cpI | with_reducible apply Wf.cpL | with_reducible apply Wf.cp2 | with_reducible apply Wf.sIs | with_reducible apply Wf.sLs | with_reducible apply Wf.cpU | with_reducible apply Wf.fillI | with_reducible apply Wf.clU | with_reducible apply Wf.dnF | with_reducible apply Wf.gbW)) hv (nI c))) rfl dX11_cabin_3 yk_X11_isCabin im_X11_isCabin se_X11_isCabin ml_X11_363 rfl (co_338 (by repeat (first | with_reducible exact hw | with_reducible exact hwc | with_reducible assumption | with_reducible apply Wf.sI | with_reducible apply Wf.sL | with_reducible apply Wf.cpI | with_reducible apply Wf.cpL | with_reducible apply Wf.cp2 | with_reducible apply Wf.sIs | with_reducible apply Wf.sLs | with_reducible apply Wf.cpU | with_reducible apply Wf.fillI | with_reducible apply Wf.clU | with_reducible apply Wf.dnF | with_reducible apply Wf.gbW))) (by decide) hc_X11 (by decide) (by decide) (Nat.le_of_ble_eq_true rfl)) ?_
  refine lfn (a_if_ne (tgt := 13) dX11_cabin_6 (by decide)) (fun h6 => ?_) (fun h6 => absurd h6 (by decide))
  refine lf (a_iload_n dX11_cabin_13 rfl) ?_
  refine lf (a_iconst (0 : Int32) dX11_cabin_14 (by decide)) ?_
  refine lf (a_bipush (7 : Int32) dX11_cabin_15 (by decide)) ?_
  refine lf (a_invS (b2 := (0, 0)) (Ct.int (y := 1) (by decide) (m_in (nI 0) 0 7)) rfl dX11_cabin_17 yk_X11_in sm_X11_in ml_X11_102 rfl (by decide) (by decide) (Nat.le_of_ble_eq_true rfl)) ?_
  refine lf2 (a_if_eq (tgt := 27) dX11_cabin_20 (by decide)) (fun h20 => absurd h20 (by decide)) (fun h20 => ?_)
  refine lf (a_iconst (0 : Int32) dX11_cabin_23 (by decide)) ?_
  refine lf (a_goto (tgt := 28) dX11_cabin_24 (by decide)) ?_
  refine lf (a_inv (b2 := (0, 0)) (m_isRefused0 (by repeat (first | with_reducible exact hw | with_reducible exact hwc | with_reducible assumption | with_reducible apply Wf.sI | with_reducible apply Wf.sL | with_reducible apply Wf.cpI | with_reducible apply Wf.cpL | with_reducible apply Wf.cp2 | with_reducible apply Wf.sIs | with_reducible apply Wf.sLs | with_reducible apply Wf.cpU | with_reducible apply Wf.fillI | with_reducible apply Wf.clU | with_reducible apply Wf.dnF | with_reducible apply Wf.gbW))) rfl dX11_cabin_28 yk_X11_isRefused im_X11_isRefused se_X11_isRefused ml_X11_98 rfl (co_338 (by repeat (first | with_reducible exact hw | with_reducible exact hwc | with_reducible assumption | with_reducible apply Wf.sI | with_reducible apply Wf.sL | with_reducible apply Wf.cpI | with_reducible apply Wf.cpL | with_reducible apply Wf.cp2 | with_reducible apply Wf.sIs | with_reducible apply Wf.sLs | with_reducible apply Wf.cpU | with_reducible apply Wf.fillI | with_reducible apply Wf.clU | with_reducible apply Wf.dnF | with_reducible apply Wf.gbW))) (by decide) hc_X11 (by decide) (by decide) (Nat.le_of_ble_eq_true rfl)) ?_
  refine lf2 (a_if_eq (tgt := 36) dX11_cabin_31 (by decide)) (fun h31 => ?_) (fun h31 => absurd h31 (fun z => z rfl))
  refine lf (a_iload_n dX11_cabin_36 rfl) ?_
  refine lf (a_tsIn (tgt := 80) dX11_cabin_37 (by decide) (by decide) rfl (by decide)) ?_
  refine lf (a_aload_n dX11_cabin_80 rfl) ?_
  refine lf (a_iload_n dX11_cabin_81 rfl) ?_
  refine lf (a_iload_n dX11_cabin_82 rfl) ?_
  refine lf (a_inv (b2 := (0, 0)) (m_ofCabin0 (by repeat (first | with_reducible exact hw | with_reducible exact hwc | with_reducible assumption | with_reducible apply Wf.sI | with_reducible apply Wf.sL | with_reducible apply Wf.cpI | with_reducible apply Wf.cpL | with_reducible apply Wf.cp2 | with_reducible apply Wf.sIs | with_reducible apply Wf.sLs | with_reducible apply Wf.cpU | with_reducible apply Wf.fillI | with_reducible apply Wf.clU | with_reducible apply Wf.dnF | with_reducible apply Wf.gbW)) (hv.th 0) hc) rfl dX11_cabin_83 yk_X11_ofCabin im_X11_ofCabin se_X11_ofCabin ml_X11_315 rfl (co_338 (by repeat (first | with_reducible exact hw | with_reducible exact hwc | with_reducible assumption | with_reducible apply Wf.sI | with_reducible apply Wf.sL | with_reducible apply Wf.cpI | with_reducible apply Wf.cpL | with_reducible apply Wf.cp2 | with_reducible apply Wf.sIs | with_reducible apply Wf.sLs | with_reducible apply Wf.cpU | with_reducible apply Wf.fillI | with_reducible apply Wf.clU | with_reducible apply Wf.dnF | with_reducible apply Wf.gbW))) (by decide) hc_X11 (by decide) (by decide) (Nat.le_of_ble_eq_true rfl)) ?_
  refine ⟨_, _, (a_ireturn dX11_cabin_86 rfl rfl), ?_⟩
  exact ⟨_, rfl, rfl, MqQ.of hw 0⟩

theorem m_cabin_1 (hw : Wf μ) (hv : MdV μ q d) (hq0 : GdP q) (hd0 : GdD q d) {c : Nat} (hc : c < pC q) : CV Y_X11_cabin R_X11_cabin [.ref 338, .int (nI c), .int (nI 1)] μ (fun v V => v = some (.int (caV q d c 1)) ∧ MqQ μ 0 V) := by
  have hM4 := hv.M4
  have hT4 := hv.T4
  have hP4 := hv.P4
  have hC4 := hv.C4
  have hw1 : Wf (sI μ 338 0 0) := hw.sI
  have hv1 : MdV (sI μ 338 0 0) q d := hv.th 0
  refine CV.ent yk_X11_cabin (Nat.le_of_ble_eq_true rfl) ?_
  refine lf (a_aload_n dX11_cabin_0 rfl) ?_
  refine lf (a_aload_n dX11_cabin_1 rfl) ?_
  refine lf (a_iload_n dX11_cabin_2 rfl) ?_
  refine lf (a_inv (b2 := (0, 0)) (Ct.int (isO_lt hc (by omega)) (m_isCabin (by repeat (first | with_reducible exact hw | with_reducible exact hwc | with_reducible assumption | with_reducible apply Wf.sI | with_reducible apply Wf.sL | with_reducible apply Wf.cpI | with_reducible apply Wf.cpL | with_reducible apply Wf.cp2 | with_reducible apply Wf.sIs | with_reducible apply Wf.sLs | with_reducible apply Wf.cpU | with_reducible apply Wf.fillI | with_reducible apply Wf.clU | with_reducible apply Wf.dnF | with_reducible apply Wf.gbW)) hv (nI c))) rfl dX11_cabin_3 yk_X11_isCabin im_X11_isCabin se_X11_isCabin ml_X11_363 rfl (co_338 (by repeat (first | with_reducible exact hw | with_reducible exact hwc | with_reducible assumption | with_reducible apply Wf.sI | with_reducible apply Wf.sL | with_reducible apply Wf.cpI | with_reducible apply Wf.cpL | with_reducible apply Wf.cp2 | with_reducible apply Wf.sIs | with_reducible apply Wf.sLs | with_reducible apply Wf.cpU | with_reducible apply Wf.fillI | with_reducible apply Wf.clU | with_reducible apply Wf.dnF | with_reducible apply Wf.gbW))) (by decide) hc_X11 (by decide) (by decide) (Nat.le_of_ble_eq_true rfl)) ?_
  refine lfn (a_if_ne (tgt := 13) dX11_cabin_6 (by decide)) (fun h6 => ?_) (fun h6 => absurd h6 (by decide))
  refine lf (a_iload_n dX11_cabin_13 rfl) ?_
  refine lf (a_iconst (0 : Int32) dX11_cabin_14 (by decide)) ?_
  refine lf (a_bipush (7 : Int32) dX11_cabin_15 (by decide)) ?_
  refine lf (a_invS (b2 := (0, 0)) (Ct.int (y := 1) (by decide) (m_in (nI 1) 0 7)) rfl dX11_cabin_17 yk_X11_in sm_X11_in ml_X11_102 rfl (by decide) (by decide) (Nat.le_of_ble_eq_true rfl)) ?_
  refine lf2 (a_if_eq (tgt := 27) dX11_cabin_20 (by decide)) (fun h20 => absurd h20 (by decide)) (fun h20 => ?_)
  refine lf (a_iconst (0 : Int32) dX11_cabin_23 (by decide)) ?_
  refine lf (a_goto (tgt := 28) dX11_cabin_24 (by decide)) ?_
  refine lf (a_inv (b2 := (0, 0)) (m_isRefused0 (by repeat (first | with_reducible exact hw | with_reducible exact hwc | with_reducible assumption | with_reducible apply Wf.sI | with_reducible apply Wf.sL | with_reducible apply Wf.cpI | with_reducible apply Wf.cpL | with_reducible apply Wf.cp2 | with_reducible apply Wf.sIs | with_reducible apply Wf.sLs | with_reducible apply Wf.cpU | with_reducible apply Wf.fillI | with_reducible apply Wf.clU | with_reducible apply Wf.dnF | with_reducible apply Wf.gbW))) rfl dX11_cabin_28 yk_X11_isRefused im_X11_isRefused se_X11_isRefused ml_X11_98 rfl (co_338 (by repeat (first | with_reducible exact hw | with_reducible exact hwc | with_reducible assumption | with_reducible apply Wf.sI | with_reducible apply Wf.sL | with_reducible apply Wf.cpI | with_reducible apply Wf.cpL | with_reducible apply Wf.cp2 | with_reducible apply Wf.sIs | with_reducible apply Wf.sLs | with_reducible apply Wf.cpU | with_reducible apply Wf.fillI | with_reducible apply Wf.clU | with_reducible apply Wf.dnF | with_reducible apply Wf.gbW))) (by decide) hc_X11 (by decide) (by decide) (Nat.le_of_ble_eq_true rfl)) ?_
  refine lf2 (a_if_eq (tgt := 36) dX11_cabin_31 (by decide)) (fun h31 => ?_) (fun h31 => absurd h31 (fun z => z rfl))
  refine lf (a_iload_n dX11_cabin_36 rfl) ?_
  refine lf (a_tsIn (tgt := 80) dX11_cabin_37 (by decide) (by decide) rfl (by decide)) ?_
  refine lf (a_aload_n dX11_cabin_80 rfl) ?_
  refine lf (a_iload_n dX11_cabin_81 rfl) ?_
  refine lf (a_iload_n dX11_cabin_82 rfl) ?_
  refine lf (a_inv (b2 := (0, 0)) (m_ofCabin1 (by repeat (first | with_reducible exact hw | with_reducible exact hwc | with_reducible assumption | with_reducible apply Wf.sI | with_reducible apply Wf.sL | with_reducible apply Wf.cpI | with_reducible apply Wf.cpL | with_reducible apply Wf.cp2 | with_reducible apply Wf.sIs | with_reducible apply Wf.sLs | with_reducible apply Wf.cpU | with_reducible apply Wf.fillI | with_reducible apply Wf.clU | with_reducible apply Wf.dnF | with_reducible apply Wf.gbW)) (hv.th 0) hc) rfl dX11_cabin_83 yk_X11_ofCabin im_X11_ofCabin se_X11_ofCabin ml_X11_315 rfl (co_338 (by repeat (first | with_reducible exact hw | with_reducible exact hwc | with_reducible assumption | with_reducible apply Wf.sI | with_reducible apply Wf.sL | with_reducible apply Wf.cpI | with_reducible apply Wf.cpL | with_reducible apply Wf.cp2 | with_reducible apply Wf.sIs | with_reducible apply Wf.sLs | with_reducible apply Wf.cpU | with_reducible apply Wf.fillI | with_reducible apply Wf.clU | with_reducible apply Wf.dnF | with_reducible apply Wf.gbW))) (by decide) hc_X11 (by decide) (by decide) (Nat.le_of_ble_eq_true rfl)) ?_
  refine ⟨_, _, (a_ireturn dX11_cabin_86 rfl rfl), ?_⟩
  exact ⟨_, rfl, rfl, MqQ.of hw 0⟩

theorem m_cabin_2 (hw : Wf μ) (hv : MdV μ q d) (hq0 : GdP q) (hd0 : GdD q d) {c : Nat} (hc : c < pC q) : CV Y_X11_cabin R_X11_cabin [.ref 338, .int (nI c), .int (nI 2)] μ (fun v V => v = some (.int (caV q d c 2)) ∧ MqQ μ 0 V) := by
  have hM4 := hv.M4
  have hT4 := hv.T4
  have hP4 := hv.P4
  have hC4 := hv.C4
  have hw1 : Wf (sI μ 338 0 0) := hw.sI
  have hv1 : MdV (sI μ 338 0 0) q d := hv.th 0
  refine CV.ent yk_X11_cabin (Nat.le_of_ble_eq_true rfl) ?_
  refine lf (a_aload_n dX11_cabin_0 rfl) ?_
  refine lf (a_aload_n dX11_cabin_1 rfl) ?_
  refine lf (a_iload_n dX11_cabin_2 rfl) ?_
  refine lf (a_inv (b2 := (0, 0)) (Ct.int (isO_lt hc (by omega)) (m_isCabin (by repeat (first | with_reducible exact hw | with_reducible exact hwc | with_reducible assumption | with_reducible apply Wf.sI | with_reducible apply Wf.sL | with_reducible apply Wf.cpI | with_reducible apply Wf.cpL | with_reducible apply Wf.cp2 | with_reducible apply Wf.sIs | with_reducible apply Wf.sLs | with_reducible apply Wf.cpU | with_reducible apply Wf.fillI | with_reducible apply Wf.clU | with_reducible apply Wf.dnF | with_reducible apply Wf.gbW)) hv (nI c))) rfl dX11_cabin_3 yk_X11_isCabin im_X11_isCabin se_X11_isCabin ml_X11_363 rfl (co_338 (by repeat (first | with_reducible exact hw | with_reducible exact hwc | with_reducible assumption | with_reducible apply Wf.sI | with_reducible apply Wf.sL | with_reducible apply Wf.cpI | with_reducible apply Wf.cpL | with_reducible apply Wf.cp2 | with_reducible apply Wf.sIs | with_reducible apply Wf.sLs | with_reducible apply Wf.cpU | with_reducible apply Wf.fillI | with_reducible apply Wf.clU | with_reducible apply Wf.dnF | with_reducible apply Wf.gbW))) (by decide) hc_X11 (by decide) (by decide) (Nat.le_of_ble_eq_true rfl)) ?_
  refine lfn (a_if_ne (tgt := 13) dX11_cabin_6 (by decide)) (fun h6 => ?_) (fun h6 => absurd h6 (by decide))
  refine lf (a_iload_n dX11_cabin_13 rfl) ?_
  refine lf (a_iconst (0 : Int32) dX11_cabin_14 (by decide)) ?_
  refine lf (a_bipush (7 : Int32) dX11_cabin_15 (by decide)) ?_
  refine lf (a_invS (b2 := (0, 0)) (Ct.int (y := 1) (by decide) (m_in (nI 2) 0 7)) rfl dX11_cabin_17 yk_X11_in sm_X11_in ml_X11_102 rfl (by decide) (by decide) (Nat.le_of_ble_eq_true rfl)) ?_
  refine lf2 (a_if_eq (tgt := 27) dX11_cabin_20 (by decide)) (fun h20 => absurd h20 (by decide)) (fun h20 => ?_)
  refine lf (a_iconst (0 : Int32) dX11_cabin_23 (by decide)) ?_
  refine lf (a_goto (tgt := 28) dX11_cabin_24 (by decide)) ?_
  refine lf (a_inv (b2 := (0, 0)) (m_isRefused0 (by repeat (first | with_reducible exact hw | with_reducible exact hwc | with_reducible assumption | with_reducible apply Wf.sI | with_reducible apply Wf.sL | with_reducible apply Wf.cpI | with_reducible apply Wf.cpL | with_reducible apply Wf.cp2 | with_reducible apply Wf.sIs | with_reducible apply Wf.sLs | with_reducible apply Wf.cpU | with_reducible apply Wf.fillI | with_reducible apply Wf.clU | with_reducible apply Wf.dnF | with_reducible apply Wf.gbW))) rfl dX11_cabin_28 yk_X11_isRefused im_X11_isRefused se_X11_isRefused ml_X11_98 rfl (co_338 (by repeat (first | with_reducible exact hw | with_reducible exact hwc | with_reducible assumption | with_reducible apply Wf.sI | with_reducible apply Wf.sL | with_reducible apply Wf.cpI | with_reducible apply Wf.cpL | with_reducible apply Wf.cp2 | with_reducible apply Wf.sIs | with_reducible apply Wf.sLs | with_reducible apply Wf.cpU | with_reducible apply Wf.fillI | with_reducible apply Wf.clU | with_reducible apply Wf.dnF | with_reducible apply Wf.gbW))) (by decide) hc_X11 (by decide) (by decide) (Nat.le_of_ble_eq_true rfl)) ?_
  refine lf2 (a_if_eq (tgt := 36) dX11_cabin_31 (by decide)) (fun h31 => ?_) (fun h31 => absurd h31 (fun z => z rfl))
  refine lf (a_iload_n dX11_cabin_36 rfl) ?_
  refine lf (a_tsIn (tgt := 87) dX11_cabin_37 (by decide) (by decide) rfl (by decide)) ?_
  refine lf (a_aload_n dX11_cabin_87 rfl) ?_
  refine lf (a_iload_n dX11_cabin_88 rfl) ?_
  refine lf (a_iload_n dX11_cabin_89 rfl) ?_
  refine lf (a_iconst (3 : Int32) dX11_cabin_90 (by decide)) ?_
  refine lfn (a_icmp_ne (tgt := 98) dX11_cabin_91 (by decide)) (fun h91 => ?_) (fun h91 => absurd h91 (by decide))
  refine lf (a_iconst (0 : Int32) dX11_cabin_98 (by decide)) ?_
  refine lf (a_inv (b2 := (0, 0)) (m_passengersIn0 (by repeat (first | with_reducible exact hw | with_reducible exact hwc | with_reducible assumption | with_reducible apply Wf.sI | with_reducible apply Wf.sL | with_reducible apply Wf.cpI | with_reducible apply Wf.cpL | with_reducible apply Wf.cp2 | with_reducible apply Wf.sIs | with_reducible apply Wf.sLs | with_reducible apply Wf.cpU | with_reducible apply Wf.fillI | with_reducible apply Wf.clU | with_reducible apply Wf.dnF | with_reducible apply Wf.gbW)) (hv.th 0) (nI c)) rfl dX11_cabin_99 yk_X11_passengersIn im_X11_passengersIn se_X11_passengersIn ml_X11_366 rfl (co_338 (by repeat (first | with_reducible exact hw | with_reducible exact hwc | with_reducible assumption | with_reducible apply Wf.sI | with_reducible apply Wf.sL | with_reducible apply Wf.cpI | with_reducible apply Wf.cpL | with_reducible apply Wf.cp2 | with_reducible apply Wf.sIs | with_reducible apply Wf.sLs | with_reducible apply Wf.cpU | with_reducible apply Wf.fillI | with_reducible apply Wf.clU | with_reducible apply Wf.dnF | with_reducible apply Wf.gbW))) (by decide) hc_X11 (by decide) (by decide) (Nat.le_of_ble_eq_true rfl)) ?_
  refine ⟨_, _, (a_ireturn dX11_cabin_102 rfl rfl), ?_⟩
  exact ⟨_, rfl, rfl, MqQ.of hw 0⟩

theorem m_cabin_3 (hw : Wf μ) (hv : MdV μ q d) (hq0 : GdP q) (hd0 : GdD q d) {c : Nat} (hc : c < pC q) : CV Y_X11_cabin R_X11_cabin [.ref 338, .int (nI c), .int (nI 3)] μ (fun v V => v = some (.int (caV q d c 3)) ∧ MqQ μ 0 V) := by
  have hM4 := hv.M4
  have hT4 := hv.T4
  have hP4 := hv.P4
  have hC4 := hv.C4
  have hw1 : Wf (sI μ 338 0 0) := hw.sI
  have hv1 : MdV (sI μ 338 0 0) q d := hv.th 0
  refine CV.ent yk_X11_cabin (Nat.le_of_ble_eq_true rfl) ?_
  refine lf (a_aload_n dX11_cabin_0 rfl) ?_
  refine lf (a_aload_n dX11_cabin_1 rfl) ?_
  refine lf (a_iload_n dX11_cabin_2 rfl) ?_
  refine lf (a_inv (b2 := (0, 0)) (Ct.int (isO_lt hc (by omega)) (m_isCabin (by repeat (first | with_reducible exact hw | with_reducible exact hwc | with_reducible assumption | with_reducible apply Wf.sI | with_reducible apply Wf.sL | with_reducible apply Wf.cpI | with_reducible apply Wf.cpL | with_reducible apply Wf.cp2 | with_reducible apply Wf.sIs | with_reducible apply Wf.sLs | with_reducible apply Wf.cpU | with_reducible apply Wf.fillI | with_reducible apply Wf.clU | with_reducible apply Wf.dnF | with_reducible apply Wf.gbW)) hv (nI c))) rfl dX11_cabin_3 yk_X11_isCabin im_X11_isCabin se_X11_isCabin ml_X11_363 rfl (co_338 (by repeat (first | with_reducible exact hw | with_reducible exact hwc | with_reducible assumption | with_reducible apply Wf.sI | with_reducible apply Wf.sL | with_reducible apply Wf.cpI | with_reducible apply Wf.cpL | with_reducible apply Wf.cp2 | with_reducible apply Wf.sIs | with_reducible apply Wf.sLs | with_reducible apply Wf.cpU | with_reducible apply Wf.fillI | with_reducible apply Wf.clU | with_reducible apply Wf.dnF | with_reducible apply Wf.gbW))) (by decide) hc_X11 (by decide) (by decide) (Nat.le_of_ble_eq_true rfl)) ?_
  refine lfn (a_if_ne (tgt := 13) dX11_cabin_6 (by decide)) (fun h6 => ?_) (fun h6 => absurd h6 (by decide))
  refine lf (a_iload_n dX11_cabin_13 rfl) ?_
  refine lf (a_iconst (0 : Int32) dX11_cabin_14 (by decide)) ?_
  refine lf (a_bipush (7 : Int32) dX11_cabin_15 (by decide)) ?_
  refine lf (a_invS (b2 := (0, 0)) (Ct.int (y := 1) (by decide) (m_in (nI 3) 0 7)) rfl dX11_cabin_17 yk_X11_in sm_X11_in ml_X11_102 rfl (by decide) (by decide) (Nat.le_of_ble_eq_true rfl)) ?_
  refine lf2 (a_if_eq (tgt := 27) dX11_cabin_20 (by decide)) (fun h20 => absurd h20 (by decide)) (fun h20 => ?_)
  refine lf (a_iconst (0 : Int32) dX11_cabin_23 (by decide)) ?_
  refine lf (a_goto (tgt := 28) dX11_cabin_24 (by decide)) ?_
  refine lf (a_inv (b2 := (0, 0)) (m_isRefused0 (by repeat (first | with_reducible exact hw | with_reducible exact hwc | with_reducible assumption | with_reducible apply Wf.sI | with_reducible apply Wf.sL | with_reducible apply Wf.cpI | with_reducible apply Wf.cpL | with_reducible apply Wf.cp2 | with_reducible apply Wf.sIs | with_reducible apply Wf.sLs | with_reducible apply Wf.cpU | with_reducible apply Wf.fillI | with_reducible apply Wf.clU | with_reducible apply Wf.dnF | with_reducible apply Wf.gbW))) rfl dX11_cabin_28 yk_X11_isRefused im_X11_isRefused se_X11_isRefused ml_X11_98 rfl (co_338 (by repeat (first | with_reducible exact hw | with_reducible exact hwc | with_reducible assumption | with_reducible apply Wf.sI | with_reducible apply Wf.sL | with_reducible apply Wf.cpI | with_reducible apply Wf.cpL | with_reducible apply Wf.cp2 | with_reducible apply Wf.sIs | with_reducible apply Wf.sLs | with_reducible apply Wf.cpU | with_reducible apply Wf.fillI | with_reducible apply Wf.clU | with_reducible apply Wf.dnF | with_reducible apply Wf.gbW))) (by decide) hc_X11 (by decide) (by decide) (Nat.le_of_ble_eq_true rfl)) ?_
  refine lf2 (a_if_eq (tgt := 36) dX11_cabin_31 (by decide)) (fun h31 => ?_) (fun h31 => absurd h31 (fun z => z rfl))
  refine lf (a_iload_n dX11_cabin_36 rfl) ?_
  refine lf (a_tsIn (tgt := 87) dX11_cabin_37 (by decide) (by decide) rfl (by decide)) ?_
  refine lf (a_aload_n dX11_cabin_87 rfl) ?_
  refine lf (a_iload_n dX11_cabin_88 rfl) ?_
  refine lf (a_iload_n dX11_cabin_89 rfl) ?_
  refine lf (a_iconst (3 : Int32) dX11_cabin_90 (by decide)) ?_
  refine lfn (a_icmp_ne (tgt := 98) dX11_cabin_91 (by decide)) (fun h91 => absurd h91 (by decide)) (fun h91 => ?_)
  refine lf (a_iconst (1 : Int32) dX11_cabin_94 (by decide)) ?_
  refine lf (a_goto (tgt := 99) dX11_cabin_95 (by decide)) ?_
  refine lf (a_inv (b2 := (0, 0)) (m_passengersIn1 (by repeat (first | with_reducible exact hw | with_reducible exact hwc | with_reducible assumption | with_reducible apply Wf.sI | with_reducible apply Wf.sL | with_reducible apply Wf.cpI | with_reducible apply Wf.cpL | with_reducible apply Wf.cp2 | with_reducible apply Wf.sIs | with_reducible apply Wf.sLs | with_reducible apply Wf.cpU | with_reducible apply Wf.fillI | with_reducible apply Wf.clU | with_reducible apply Wf.dnF | with_reducible apply Wf.gbW)) (hv.th 0) (nI c)) rfl dX11_cabin_99 yk_X11_passengersIn im_X11_passengersIn se_X11_passengersIn ml_X11_366 rfl (co_338 (by repeat (first | with_reducible exact hw | with_reducible exact hwc | with_reducible assumption | with_reducible apply Wf.sI | with_reducible apply Wf.sL | with_reducible apply Wf.cpI | with_reducible apply Wf.cpL | with_reducible apply Wf.cp2 | with_reducible apply Wf.sIs | with_reducible apply Wf.sLs | with_reducible apply Wf.cpU | with_reducible apply Wf.fillI | with_reducible apply Wf.clU | with_reducible apply Wf.dnF | with_reducible apply Wf.gbW))) (by decide) hc_X11 (by decide) (by decide) (Nat.le_of_ble_eq_true rfl)) ?_
  refine ⟨_, _, (a_ireturn dX11_cabin_102 rfl rfl), ?_⟩
  exact ⟨_, rfl, rfl, MqQ.of hw 0⟩

theorem m_cabin_4 (hw : Wf μ) (hv : MdV μ q d) (hq0 : GdP q) (hd0 : GdD q d) {c : Nat} (hc : c < pC q) : CV Y_X11_cabin R_X11_cabin [.ref 338, .int (nI c), .int (nI 4)] μ (fun v V => v = some (.int (caV q d c 4)) ∧ MqQ μ 0 V) := by
  have hM4 := hv.M4
  have hT4 := hv.T4
  have hP4 := hv.P4
  have hC4 := hv.C4
  have hw1 : Wf (sI μ 338 0 0) := hw.sI
  have hv1 : MdV (sI μ 338 0 0) q d := hv.th 0
  refine CV.ent yk_X11_cabin (Nat.le_of_ble_eq_true rfl) ?_
  refine lf (a_aload_n dX11_cabin_0 rfl) ?_
  refine lf (a_aload_n dX11_cabin_1 rfl) ?_
  refine lf (a_iload_n dX11_cabin_2 rfl) ?_
  refine lf (a_inv (b2 := (0, 0)) (Ct.int (isO_lt hc (by omega)) (m_isCabin (by repeat (first | with_reducible exact hw | with_reducible exact hwc | with_reducible assumption | with_reducible apply Wf.sI | with_reducible apply Wf.sL | with_reducible apply Wf.cpI | with_reducible apply Wf.cpL | with_reducible apply Wf.cp2 | with_reducible apply Wf.sIs | with_reducible apply Wf.sLs | with_reducible apply Wf.cpU | with_reducible apply Wf.fillI | with_reducible apply Wf.clU | with_reducible apply Wf.dnF | with_reducible apply Wf.gbW)) hv (nI c))) rfl dX11_cabin_3 yk_X11_isCabin im_X11_isCabin se_X11_isCabin ml_X11_363 rfl (co_338 (by repeat (first | with_reducible exact hw | with_reducible exact hwc | with_reducible assumption | with_reducible apply Wf.sI | with_reducible apply Wf.sL | with_reducible apply Wf.cpI | with_reducible apply Wf.cpL | with_reducible apply Wf.cp2 | with_reducible apply Wf.sIs | with_reducible apply Wf.sLs | with_reducible apply Wf.cpU | with_reducible apply Wf.fillI | with_reducible apply Wf.clU | with_reducible apply Wf.dnF | with_reducible apply Wf.gbW))) (by decide) hc_X11 (by decide) (by decide) (Nat.le_of_ble_eq_true rfl)) ?_
  refine lfn (a_if_ne (tgt := 13) dX11_cabin_6 (by decide)) (fun h6 => ?_) (fun h6 => absurd h6 (by decide))
  refine lf (a_iload_n dX11_cabin_13 rfl) ?_
  refine lf (a_iconst (0 : Int32) dX11_cabin_14 (by decide)) ?_
  refine lf (a_bipush (7 : Int32) dX11_cabin_15 (by decide)) ?_
  refine lf (a_invS (b2 := (0, 0)) (Ct.int (y := 1) (by decide) (m_in (nI 4) 0 7)) rfl dX11_cabin_17 yk_X11_in sm_X11_in ml_X11_102 rfl (by decide) (by decide) (Nat.le_of_ble_eq_true rfl)) ?_
  refine lf2 (a_if_eq (tgt := 27) dX11_cabin_20 (by decide)) (fun h20 => absurd h20 (by decide)) (fun h20 => ?_)
  refine lf (a_iconst (0 : Int32) dX11_cabin_23 (by decide)) ?_
  refine lf (a_goto (tgt := 28) dX11_cabin_24 (by decide)) ?_
  refine lf (a_inv (b2 := (0, 0)) (m_isRefused0 (by repeat (first | with_reducible exact hw | with_reducible exact hwc | with_reducible assumption | with_reducible apply Wf.sI | with_reducible apply Wf.sL | with_reducible apply Wf.cpI | with_reducible apply Wf.cpL | with_reducible apply Wf.cp2 | with_reducible apply Wf.sIs | with_reducible apply Wf.sLs | with_reducible apply Wf.cpU | with_reducible apply Wf.fillI | with_reducible apply Wf.clU | with_reducible apply Wf.dnF | with_reducible apply Wf.gbW))) rfl dX11_cabin_28 yk_X11_isRefused im_X11_isRefused se_X11_isRefused ml_X11_98 rfl (co_338 (by repeat (first | with_reducible exact hw | with_reducible exact hwc | with_reducible assumption | with_reducible apply Wf.sI | with_reducible apply Wf.sL | with_reducible apply Wf.cpI | with_reducible apply Wf.cpL | with_reducible apply Wf.cp2 | with_reducible apply Wf.sIs | with_reducible apply Wf.sLs | with_reducible apply Wf.cpU | with_reducible apply Wf.fillI | with_reducible apply Wf.clU | with_reducible apply Wf.dnF | with_reducible apply Wf.gbW))) (by decide) hc_X11 (by decide) (by decide) (Nat.le_of_ble_eq_true rfl)) ?_
  refine lf2 (a_if_eq (tgt := 36) dX11_cabin_31 (by decide)) (fun h31 => ?_) (fun h31 => absurd h31 (fun z => z rfl))
  refine lf (a_iload_n dX11_cabin_36 rfl) ?_
  refine lf (a_tsIn (tgt := 103) dX11_cabin_37 (by decide) (by decide) rfl (by decide)) ?_
  refine lf (a_aload_n dX11_cabin_103 rfl) ?_
  refine lf (a_iload_n dX11_cabin_104 rfl) ?_
  refine lf (a_iload_n dX11_cabin_105 rfl) ?_
  refine lf (a_iconst (5 : Int32) dX11_cabin_106 (by decide)) ?_
  refine lfn (a_icmp_ne (tgt := 114) dX11_cabin_107 (by decide)) (fun h107 => ?_) (fun h107 => absurd h107 (by decide))
  refine lf (a_iconst (0 : Int32) dX11_cabin_114 (by decide)) ?_
  refine lf (a_inv (b2 := (0, 0)) (m_trolleysOf0 (by repeat (first | with_reducible exact hw | with_reducible exact hwc | with_reducible assumption | with_reducible apply Wf.sI | with_reducible apply Wf.sL | with_reducible apply Wf.cpI | with_reducible apply Wf.cpL | with_reducible apply Wf.cp2 | with_reducible apply Wf.sIs | with_reducible apply Wf.sLs | with_reducible apply Wf.cpU | with_reducible apply Wf.fillI | with_reducible apply Wf.clU | with_reducible apply Wf.dnF | with_reducible apply Wf.gbW)) (hv.th 0) (nI c)) rfl dX11_cabin_115 yk_X11_trolleysOf im_X11_trolleysOf se_X11_trolleysOf ml_X11_370 rfl (co_338 (by repeat (first | with_reducible exact hw | with_reducible exact hwc | with_reducible assumption | with_reducible apply Wf.sI | with_reducible apply Wf.sL | with_reducible apply Wf.cpI | with_reducible apply Wf.cpL | with_reducible apply Wf.cp2 | with_reducible apply Wf.sIs | with_reducible apply Wf.sLs | with_reducible apply Wf.cpU | with_reducible apply Wf.fillI | with_reducible apply Wf.clU | with_reducible apply Wf.dnF | with_reducible apply Wf.gbW))) (by decide) hc_X11 (by decide) (by decide) (Nat.le_of_ble_eq_true rfl)) ?_
  refine ⟨_, _, (a_ireturn dX11_cabin_118 rfl rfl), ?_⟩
  exact ⟨_, rfl, rfl, MqQ.of hw 0⟩

theorem m_cabin_5 (hw : Wf μ) (hv : MdV μ q d) (hq0 : GdP q) (hd0 : GdD q d) {c : Nat} (hc : c < pC q) : CV Y_X11_cabin R_X11_cabin [.ref 338, .int (nI c), .int (nI 5)] μ (fun v V => v = some (.int (caV q d c 5)) ∧ MqQ μ 0 V) := by
  have hM4 := hv.M4
  have hT4 := hv.T4
  have hP4 := hv.P4
  have hC4 := hv.C4
  have hw1 : Wf (sI μ 338 0 0) := hw.sI
  have hv1 : MdV (sI μ 338 0 0) q d := hv.th 0
  refine CV.ent yk_X11_cabin (Nat.le_of_ble_eq_true rfl) ?_
  refine lf (a_aload_n dX11_cabin_0 rfl) ?_
  refine lf (a_aload_n dX11_cabin_1 rfl) ?_
  refine lf (a_iload_n dX11_cabin_2 rfl) ?_
  refine lf (a_inv (b2 := (0, 0)) (Ct.int (isO_lt hc (by omega)) (m_isCabin (by repeat (first | with_reducible exact hw | with_reducible exact hwc | with_reducible assumption | with_reducible apply Wf.sI | with_reducible apply Wf.sL | with_reducible apply Wf.cpI | with_reducible apply Wf.cpL | with_reducible apply Wf.cp2 | with_reducible apply Wf.sIs | with_reducible apply Wf.sLs | with_reducible apply Wf.cpU | with_reducible apply Wf.fillI | with_reducible apply Wf.clU | with_reducible apply Wf.dnF | with_reducible apply Wf.gbW)) hv (nI c))) rfl dX11_cabin_3 yk_X11_isCabin im_X11_isCabin se_X11_isCabin ml_X11_363 rfl (co_338 (by repeat (first | with_reducible exact hw | with_reducible exact hwc | with_reducible assumption | with_reducible apply Wf.sI | with_reducible apply Wf.sL | with_reducible apply Wf.cpI | with_reducible apply Wf.cpL | with_reducible apply Wf.cp2 | with_reducible apply Wf.sIs | with_reducible apply Wf.sLs | with_reducible apply Wf.cpU | with_reducible apply Wf.fillI | with_reducible apply Wf.clU | with_reducible apply Wf.dnF | with_reducible apply Wf.gbW))) (by decide) hc_X11 (by decide) (by decide) (Nat.le_of_ble_eq_true rfl)) ?_
  refine lfn (a_if_ne (tgt := 13) dX11_cabin_6 (by decide)) (fun h6 => ?_) (fun h6 => absurd h6 (by decide))
  refine lf (a_iload_n dX11_cabin_13 rfl) ?_
  refine lf (a_iconst (0 : Int32) dX11_cabin_14 (by decide)) ?_
  refine lf (a_bipush (7 : Int32) dX11_cabin_15 (by decide)) ?_
  refine lf (a_invS (b2 := (0, 0)) (Ct.int (y := 1) (by decide) (m_in (nI 5) 0 7)) rfl dX11_cabin_17 yk_X11_in sm_X11_in ml_X11_102 rfl (by decide) (by decide) (Nat.le_of_ble_eq_true rfl)) ?_
  refine lf2 (a_if_eq (tgt := 27) dX11_cabin_20 (by decide)) (fun h20 => absurd h20 (by decide)) (fun h20 => ?_)
  refine lf (a_iconst (0 : Int32) dX11_cabin_23 (by decide)) ?_
  refine lf (a_goto (tgt := 28) dX11_cabin_24 (by decide)) ?_
  refine lf (a_inv (b2 := (0, 0)) (m_isRefused0 (by repeat (first | with_reducible exact hw | with_reducible exact hwc | with_reducible assumption | with_reducible apply Wf.sI | with_reducible apply Wf.sL | with_reducible apply Wf.cpI | with_reducible apply Wf.cpL | with_reducible apply Wf.cp2 | with_reducible apply Wf.sIs | with_reducible apply Wf.sLs | with_reducible apply Wf.cpU | with_reducible apply Wf.fillI | with_reducible apply Wf.clU | with_reducible apply Wf.dnF | with_reducible apply Wf.gbW))) rfl dX11_cabin_28 yk_X11_isRefused im_X11_isRefused se_X11_isRefused ml_X11_98 rfl (co_338 (by repeat (first | with_reducible exact hw | with_reducible exact hwc | with_reducible assumption | with_reducible apply Wf.sI | with_reducible apply Wf.sL | with_reducible apply Wf.cpI | with_reducible apply Wf.cpL | with_reducible apply Wf.cp2 | with_reducible apply Wf.sIs | with_reducible apply Wf.sLs | with_reducible apply Wf.cpU | with_reducible apply Wf.fillI | with_reducible apply Wf.clU | with_reducible apply Wf.dnF | with_reducible apply Wf.gbW))) (by decide) hc_X11 (by decide) (by decide) (Nat.le_of_ble_eq_true rfl)) ?_
  refine lf2 (a_if_eq (tgt := 36) dX11_cabin_31 (by decide)) (fun h31 => ?_) (fun h31 => absurd h31 (fun z => z rfl))
  refine lf (a_iload_n dX11_cabin_36 rfl) ?_
  refine lf (a_tsIn (tgt := 103) dX11_cabin_37 (by decide) (by decide) rfl (by decide)) ?_
  refine lf (a_aload_n dX11_cabin_103 rfl) ?_
  refine lf (a_iload_n dX11_cabin_104 rfl) ?_
  refine lf (a_iload_n dX11_cabin_105 rfl) ?_
  refine lf (a_iconst (5 : Int32) dX11_cabin_106 (by decide)) ?_
  refine lfn (a_icmp_ne (tgt := 114) dX11_cabin_107 (by decide)) (fun h107 => absurd h107 (by decide)) (fun h107 => ?_)
  refine lf (a_iconst (1 : Int32) dX11_cabin_110 (by decide)) ?_
  refine lf (a_goto (tgt := 115) dX11_cabin_111 (by decide)) ?_
  refine lf (a_inv (b2 := (0, 0)) (m_trolleysOf1 (by repeat (first | with_reducible exact hw | with_reducible exact hwc | with_reducible assumption | with_reducible apply Wf.sI | with_reducible apply Wf.sL | with_reducible apply Wf.cpI | with_reducible apply Wf.cpL | with_reducible apply Wf.cp2 | with_reducible apply Wf.sIs | with_reducible apply Wf.sLs | with_reducible apply Wf.cpU | with_reducible apply Wf.fillI | with_reducible apply Wf.clU | with_reducible apply Wf.dnF | with_reducible apply Wf.gbW)) (hv.th 0) (nI c)) rfl dX11_cabin_115 yk_X11_trolleysOf im_X11_trolleysOf se_X11_trolleysOf ml_X11_370 rfl (co_338 (by repeat (first | with_reducible exact hw | with_reducible exact hwc | with_reducible assumption | with_reducible apply Wf.sI | with_reducible apply Wf.sL | with_reducible apply Wf.cpI | with_reducible apply Wf.cpL | with_reducible apply Wf.cp2 | with_reducible apply Wf.sIs | with_reducible apply Wf.sLs | with_reducible apply Wf.cpU | with_reducible apply Wf.fillI | with_reducible apply Wf.clU | with_reducible apply Wf.dnF | with_reducible apply Wf.gbW))) (by decide) hc_X11 (by decide) (by decide) (Nat.le_of_ble_eq_true rfl)) ?_
  refine ⟨_, _, (a_ireturn dX11_cabin_118 rfl rfl), ?_⟩
  exact ⟨_, rfl, rfl, MqQ.of hw 0⟩

theorem m_cabin_6 (hw : Wf μ) (hv : MdV μ q d) (hq0 : GdP q) (hd0 : GdD q d) {c : Nat} (hc : c < pC q) : CV Y_X11_cabin R_X11_cabin [.ref 338, .int (nI c), .int (nI 6)] μ (fun v V => v = some (.int (caV q d c 6)) ∧ MqQ μ 0 V) := by
  have hM4 := hv.M4
  have hT4 := hv.T4
  have hP4 := hv.P4
  have hC4 := hv.C4
  have hw1 : Wf (sI μ 338 0 0) := hw.sI
  have hv1 : MdV (sI μ 338 0 0) q d := hv.th 0
  refine CV.ent yk_X11_cabin (Nat.le_of_ble_eq_true rfl) ?_
  refine lf (a_aload_n dX11_cabin_0 rfl) ?_
  refine lf (a_aload_n dX11_cabin_1 rfl) ?_
  refine lf (a_iload_n dX11_cabin_2 rfl) ?_
  refine lf (a_inv (b2 := (0, 0)) (Ct.int (isO_lt hc (by omega)) (m_isCabin (by repeat (first | with_reducible exact hw | with_reducible exact hwc | with_reducible assumption | with_reducible apply Wf.sI | with_reducible apply Wf.sL | with_reducible apply Wf.cpI | with_reducible apply Wf.cpL | with_reducible apply Wf.cp2 | with_reducible apply Wf.sIs | with_reducible apply Wf.sLs | with_reducible apply Wf.cpU | with_reducible apply Wf.fillI | with_reducible apply Wf.clU | with_reducible apply Wf.dnF | with_reducible apply Wf.gbW)) hv (nI c))) rfl dX11_cabin_3 yk_X11_isCabin im_X11_isCabin se_X11_isCabin ml_X11_363 rfl (co_338 (by repeat (first | with_reducible exact hw | with_reducible exact hwc | with_reducible assumption | with_reducible apply Wf.sI | with_reducible apply Wf.sL | with_reducible apply Wf.cpI | with_reducible apply Wf.cpL | with_reducible apply Wf.cp2 | with_reducible apply Wf.sIs | with_reducible apply Wf.sLs | with_reducible apply Wf.cpU | with_reducible apply Wf.fillI | with_reducible apply Wf.clU | with_reducible apply Wf.dnF | with_reducible apply Wf.gbW))) (by decide) hc_X11 (by decide) (by decide) (Nat.le_of_ble_eq_true rfl)) ?_
  refine lfn (a_if_ne (tgt := 13) dX11_cabin_6 (by decide)) (fun h6 => ?_) (fun h6 => absurd h6 (by decide))
  refine lf (a_iload_n dX11_cabin_13 rfl) ?_
  refine lf (a_iconst (0 : Int32) dX11_cabin_14 (by decide)) ?_
  refine lf (a_bipush (7 : Int32) dX11_cabin_15 (by decide)) ?_
  refine lf (a_invS (b2 := (0, 0)) (Ct.int (y := 1) (by decide) (m_in (nI 6) 0 7)) rfl dX11_cabin_17 yk_X11_in sm_X11_in ml_X11_102 rfl (by decide) (by decide) (Nat.le_of_ble_eq_true rfl)) ?_
  refine lf2 (a_if_eq (tgt := 27) dX11_cabin_20 (by decide)) (fun h20 => absurd h20 (by decide)) (fun h20 => ?_)
  refine lf (a_iconst (0 : Int32) dX11_cabin_23 (by decide)) ?_
  refine lf (a_goto (tgt := 28) dX11_cabin_24 (by decide)) ?_
  refine lf (a_inv (b2 := (0, 0)) (m_isRefused0 (by repeat (first | with_reducible exact hw | with_reducible exact hwc | with_reducible assumption | with_reducible apply Wf.sI | with_reducible apply Wf.sL | with_reducible apply Wf.cpI | with_reducible apply Wf.cpL | with_reducible apply Wf.cp2 | with_reducible apply Wf.sIs | with_reducible apply Wf.sLs | with_reducible apply Wf.cpU | with_reducible apply Wf.fillI | with_reducible apply Wf.clU | with_reducible apply Wf.dnF | with_reducible apply Wf.gbW))) rfl dX11_cabin_28 yk_X11_isRefused im_X11_isRefused se_X11_isRefused ml_X11_98 rfl (co_338 (by repeat (first | with_reducible exact hw | with_reducible exact hwc | with_reducible assumption | with_reducible apply Wf.sI | with_reducible apply Wf.sL | with_reducible apply Wf.cpI | with_reducible apply Wf.cpL | with_reducible apply Wf.cp2 | with_reducible apply Wf.sIs | with_reducible apply Wf.sLs | with_reducible apply Wf.cpU | with_reducible apply Wf.fillI | with_reducible apply Wf.clU | with_reducible apply Wf.dnF | with_reducible apply Wf.gbW))) (by decide) hc_X11 (by decide) (by decide) (Nat.le_of_ble_eq_true rfl)) ?_
  refine lf2 (a_if_eq (tgt := 36) dX11_cabin_31 (by decide)) (fun h31 => ?_) (fun h31 => absurd h31 (fun z => z rfl))
  refine lf (a_iload_n dX11_cabin_36 rfl) ?_
  refine lf (a_tsIn (tgt := 119) dX11_cabin_37 (by decide) (by decide) rfl (by decide)) ?_
  refine lf (a_aload_n dX11_cabin_119 rfl) ?_
  refine lf (a_iload_n dX11_cabin_120 rfl) ?_
  refine lf (a_inv (b2 := (0, 0)) (m_menuOf (by repeat (first | with_reducible exact hw | with_reducible exact hwc | with_reducible assumption | with_reducible apply Wf.sI | with_reducible apply Wf.sL | with_reducible apply Wf.cpI | with_reducible apply Wf.cpL | with_reducible apply Wf.cp2 | with_reducible apply Wf.sIs | with_reducible apply Wf.sLs | with_reducible apply Wf.cpU | with_reducible apply Wf.fillI | with_reducible apply Wf.clU | with_reducible apply Wf.dnF | with_reducible apply Wf.gbW)) (hv.th 0) (nI c)) rfl dX11_cabin_121 yk_X11_menuOf im_X11_menuOf se_X11_menuOf ml_X11_373 rfl (co_338 (by repeat (first | with_reducible exact hw | with_reducible exact hwc | with_reducible assumption | with_reducible apply Wf.sI | with_reducible apply Wf.sL | with_reducible apply Wf.cpI | with_reducible apply Wf.cpL | with_reducible apply Wf.cp2 | with_reducible apply Wf.sIs | with_reducible apply Wf.sLs | with_reducible apply Wf.cpU | with_reducible apply Wf.fillI | with_reducible apply Wf.clU | with_reducible apply Wf.dnF | with_reducible apply Wf.gbW))) (by decide) hc_X11 (by decide) (by decide) (Nat.le_of_ble_eq_true rfl)) ?_
  refine ⟨_, _, (a_ireturn dX11_cabin_124 rfl rfl), ?_⟩
  exact ⟨_, rfl, rfl, MqQ.of hw 0⟩

theorem m_cabin_7 (hw : Wf μ) (hv : MdV μ q d) (hq0 : GdP q) (hd0 : GdD q d) {c : Nat} (hc : c < pC q) : CV Y_X11_cabin R_X11_cabin [.ref 338, .int (nI c), .int (nI 7)] μ (fun v V => v = some (.int (caV q d c 7)) ∧ MqQ μ 0 V) := by
  have hM4 := hv.M4
  have hT4 := hv.T4
  have hP4 := hv.P4
  have hC4 := hv.C4
  have hw1 : Wf (sI μ 338 0 0) := hw.sI
  have hv1 : MdV (sI μ 338 0 0) q d := hv.th 0
  refine CV.ent yk_X11_cabin (Nat.le_of_ble_eq_true rfl) ?_
  refine lf (a_aload_n dX11_cabin_0 rfl) ?_
  refine lf (a_aload_n dX11_cabin_1 rfl) ?_
  refine lf (a_iload_n dX11_cabin_2 rfl) ?_
  refine lf (a_inv (b2 := (0, 0)) (Ct.int (isO_lt hc (by omega)) (m_isCabin (by repeat (first | with_reducible exact hw | with_reducible exact hwc | with_reducible assumption | with_reducible apply Wf.sI | with_reducible apply Wf.sL | with_reducible apply Wf.cpI | with_reducible apply Wf.cpL | with_reducible apply Wf.cp2 | with_reducible apply Wf.sIs | with_reducible apply Wf.sLs | with_reducible apply Wf.cpU | with_reducible apply Wf.fillI | with_reducible apply Wf.clU | with_reducible apply Wf.dnF | with_reducible apply Wf.gbW)) hv (nI c))) rfl dX11_cabin_3 yk_X11_isCabin im_X11_isCabin se_X11_isCabin ml_X11_363 rfl (co_338 (by repeat (first | with_reducible exact hw | with_reducible exact hwc | with_reducible assumption | with_reducible apply Wf.sI | with_reducible apply Wf.sL | with_reducible apply Wf.cpI | with_reducible apply Wf.cpL | with_reducible apply Wf.cp2 | with_reducible apply Wf.sIs | with_reducible apply Wf.sLs | with_reducible apply Wf.cpU | with_reducible apply Wf.fillI | with_reducible apply Wf.clU | with_reducible apply Wf.dnF | with_reducible apply Wf.gbW))) (by decide) hc_X11 (by decide) (by decide) (Nat.le_of_ble_eq_true rfl)) ?_
  refine lfn (a_if_ne (tgt := 13) dX11_cabin_6 (by decide)) (fun h6 => ?_) (fun h6 => absurd h6 (by decide))
  refine lf (a_iload_n dX11_cabin_13 rfl) ?_
  refine lf (a_iconst (0 : Int32) dX11_cabin_14 (by decide)) ?_
  refine lf (a_bipush (7 : Int32) dX11_cabin_15 (by decide)) ?_
  refine lf (a_invS (b2 := (0, 0)) (Ct.int (y := 1) (by decide) (m_in (nI 7) 0 7)) rfl dX11_cabin_17 yk_X11_in sm_X11_in ml_X11_102 rfl (by decide) (by decide) (Nat.le_of_ble_eq_true rfl)) ?_
  refine lf2 (a_if_eq (tgt := 27) dX11_cabin_20 (by decide)) (fun h20 => absurd h20 (by decide)) (fun h20 => ?_)
  refine lf (a_iconst (0 : Int32) dX11_cabin_23 (by decide)) ?_
  refine lf (a_goto (tgt := 28) dX11_cabin_24 (by decide)) ?_
  refine lf (a_inv (b2 := (0, 0)) (m_isRefused0 (by repeat (first | with_reducible exact hw | with_reducible exact hwc | with_reducible assumption | with_reducible apply Wf.sI | with_reducible apply Wf.sL | with_reducible apply Wf.cpI | with_reducible apply Wf.cpL | with_reducible apply Wf.cp2 | with_reducible apply Wf.sIs | with_reducible apply Wf.sLs | with_reducible apply Wf.cpU | with_reducible apply Wf.fillI | with_reducible apply Wf.clU | with_reducible apply Wf.dnF | with_reducible apply Wf.gbW))) rfl dX11_cabin_28 yk_X11_isRefused im_X11_isRefused se_X11_isRefused ml_X11_98 rfl (co_338 (by repeat (first | with_reducible exact hw | with_reducible exact hwc | with_reducible assumption | with_reducible apply Wf.sI | with_reducible apply Wf.sL | with_reducible apply Wf.cpI | with_reducible apply Wf.cpL | with_reducible apply Wf.cp2 | with_reducible apply Wf.sIs | with_reducible apply Wf.sLs | with_reducible apply Wf.cpU | with_reducible apply Wf.fillI | with_reducible apply Wf.clU | with_reducible apply Wf.dnF | with_reducible apply Wf.gbW))) (by decide) hc_X11 (by decide) (by decide) (Nat.le_of_ble_eq_true rfl)) ?_
  refine lf2 (a_if_eq (tgt := 36) dX11_cabin_31 (by decide)) (fun h31 => ?_) (fun h31 => absurd h31 (fun z => z rfl))
  refine lf (a_iload_n dX11_cabin_36 rfl) ?_
  refine lf (a_tsOut (tgt := 125) dX11_cabin_37 (by decide) (by decide)) ?_
  refine lf (a_aload_n dX11_cabin_125 rfl) ?_
  refine lf (a_iload_n dX11_cabin_126 rfl) ?_
  obtain ⟨v_, W127, k127, rfl, hO⟩ := (m_orderSlots hw1 hv1 hq0 hd0 (nI c))
  have hwc := hO.1
  refine lf (a_inv (b2 := (0, 0)) k127 rfl dX11_cabin_127 yk_X11_orderSlots im_X11_orderSlots se_X11_orderSlots ml_X11_376 rfl (co_338 (by repeat (first | with_reducible exact hw | with_reducible exact hwc | with_reducible assumption | with_reducible apply Wf.sI | with_reducible apply Wf.sL | with_reducible apply Wf.cpI | with_reducible apply Wf.cpL | with_reducible apply Wf.cp2 | with_reducible apply Wf.sIs | with_reducible apply Wf.sLs | with_reducible apply Wf.cpU | with_reducible apply Wf.fillI | with_reducible apply Wf.clU | with_reducible apply Wf.dnF | with_reducible apply Wf.gbW))) (by decide) hc_X11 (by decide) (by decide) (Nat.le_of_ble_eq_true rfl)) ?_
  refine ⟨_, _, (a_ireturn dX11_cabin_130 rfl rfl), ?_⟩
  exact ⟨_, rfl, rfl, MqQ.ord hw hO⟩
theorem m_cabin (hw : Wf μ) (hv : MdV μ q d) (hq0 : GdP q) (hd0 : GdD q d) {c : Nat} (hc : c < pC q) {k : Nat} (hk : k < 8) : CV Y_X11_cabin R_X11_cabin [.ref 338, .int (nI c), .int (nI k)] μ (fun v V => v = some (.int (caV q d c k)) ∧ MqQ μ 0 V) := by
  rcases (by omega : k = 0 ∨ k = 1 ∨ k = 2 ∨ k = 3 ∨ k = 4 ∨ k = 5 ∨ k = 6 ∨ k = 7) with rfl | rfl | rfl | rfl | rfl | rfl | rfl | rfl
  · exact m_cabin_0 hw hv hq0 hd0 hc
  · exact m_cabin_1 hw hv hq0 hd0 hc
  · exact m_cabin_2 hw hv hq0 hd0 hc
  · exact m_cabin_3 hw hv hq0 hd0 hc
  · exact m_cabin_4 hw hv hq0 hd0 hc
  · exact m_cabin_5 hw hv hq0 hd0 hc
  · exact m_cabin_6 hw hv hq0 hd0 hc
  · exact m_cabin_7 hw hv hq0 hd0 hc

theorem mx_cabin (hw : Wf μ) (hv : MdV μ q d) {x y : Int32} (h : ixO x (pC q) = none) : Ct Y_X11_cabin R_X11_cabin [.ref 338, .int x, .int y] μ (.inl (some (.int (0)))) (sI μ 338 0 1) := by
  refine Ct.ent yk_X11_cabin (Nat.le_of_ble_eq_true rfl) ?_
  refine a_aload_n dX11_cabin_0 rfl ?_
  refine a_aload_n dX11_cabin_1 rfl ?_
  refine a_iload_n dX11_cabin_2 rfl ?_
  refine a_inv (b2 := (0, 0)) (Ct.int (isO_none h) (m_isCabin (by repeat (first | with_reducible exact hw | with_reducible exact hwc | with_reducible assumption | with_reducible apply Wf.sI | with_reducible apply Wf.sL | with_reducible apply Wf.cpI | with_reducible apply Wf.cpL | with_reducible apply Wf.cp2 | with_reducible apply Wf.sIs | with_reducible apply Wf.sLs | with_reducible apply Wf.cpU | with_reducible apply Wf.fillI | with_reducible apply Wf.clU | with_reducible apply Wf.dnF | with_reducible apply Wf.gbW)) hv x)) rfl dX11_cabin_3 yk_X11_isCabin im_X11_isCabin se_X11_isCabin ml_X11_363 rfl (co_338 (by repeat (first | with_reducible exact hw | with_reducible exact hwc | with_reducible assumption | with_reducible apply Wf.sI | with_reducible apply Wf.sL | with_reducible apply Wf.cpI | with_reducible apply Wf.cpL | with_reducible apply Wf.cp2 | with_reducible apply Wf.sIs | with_reducible apply Wf.sLs | with_reducible apply Wf.cpU | with_reducible apply Wf.fillI | with_reducible apply Wf.clU | with_reducible apply Wf.dnF | with_reducible apply Wf.gbW))) (by decide) hc_X11 (by decide) (by decide) (Nat.le_of_ble_eq_true rfl) ?_
  refine a_if_ne (tgt := 13) dX11_cabin_6 (by decide) (fun h6 => absurd h6 (fun z => z rfl)) (fun h6 => ?_)
  refine a_iconst (1 : Int32) dX11_cabin_9 (by decide) ?_
  refine a_goto (tgt := 28) dX11_cabin_10 (by decide) ?_
  refine a_inv (b2 := (0, 0)) (m_isRefused1 (by repeat (first | with_reducible exact hw | with_reducible exact hwc | with_reducible assumption | with_reducible apply Wf.sI | with_reducible apply Wf.sL | with_reducible apply Wf.cpI | with_reducible apply Wf.cpL | with_reducible apply Wf.cp2 | with_reducible apply Wf.sIs | with_reducible apply Wf.sLs | with_reducible apply Wf.cpU | with_reducible apply Wf.fillI | with_reducible apply Wf.clU | with_reducible apply Wf.dnF | with_reducible apply Wf.gbW)) (v := 1) (by decide)) rfl dX11_cabin_28 yk_X11_isRefused im_X11_isRefused se_X11_isRefused ml_X11_98 rfl (co_338 (by repeat (first | with_reducible exact hw | with_reducible exact hwc | with_reducible assumption | with_reducible apply Wf.sI | with_reducible apply Wf.sL | with_reducible apply Wf.cpI | with_reducible apply Wf.cpL | with_reducible apply Wf.cp2 | with_reducible apply Wf.sIs | with_reducible apply Wf.sLs | with_reducible apply Wf.cpU | with_reducible apply Wf.fillI | with_reducible apply Wf.clU | with_reducible apply Wf.dnF | with_reducible apply Wf.gbW))) (by decide) hc_X11 (by decide) (by decide) (Nat.le_of_ble_eq_true rfl) ?_
  refine a_if_eq (tgt := 36) dX11_cabin_31 (by decide) (fun h31 => absurd h31 (by decide)) (fun h31 => ?_)
  refine a_iconst (0 : Int32) dX11_cabin_34 (by decide) ?_
  exact a_out rfl rfl (a_ireturn dX11_cabin_35 rfl rfl)

theorem my_cabin (hw : Wf μ) (hv : MdV μ q d) {c : Nat} (hc : c < pC q) {y : Int32} (h : ixO y 8 = none) : Ct Y_X11_cabin R_X11_cabin [.ref 338, .int (nI c), .int y] μ (.inl (some (.int (0)))) (sI μ 338 0 2) := by
  refine Ct.ent yk_X11_cabin (Nat.le_of_ble_eq_true rfl) ?_
  have h4 := hv.C4
  have h2 : inI y 0 7 = 0 := (inI_ix (x := y) (n := 8) (by decide)).trans (isO_none h)
  refine a_aload_n dX11_cabin_0 rfl ?_
  refine a_aload_n dX11_cabin_1 rfl ?_
  refine a_iload_n dX11_cabin_2 rfl ?_
  refine a_inv (b2 := (0, 0)) (Ct.int (isO_lt hc (by omega)) (m_isCabin (by repeat (first | with_reducible exact hw | with_reducible exact hwc | with_reducible assumption | with_reducible apply Wf.sI | with_reducible apply Wf.sL | with_reducible apply Wf.cpI | with_reducible apply Wf.cpL | with_reducible apply Wf.cp2 | with_reducible apply Wf.sIs | with_reducible apply Wf.sLs | with_reducible apply Wf.cpU | with_reducible apply Wf.fillI | with_reducible apply Wf.clU | with_reducible apply Wf.dnF | with_reducible apply Wf.gbW)) hv (nI c))) rfl dX11_cabin_3 yk_X11_isCabin im_X11_isCabin se_X11_isCabin ml_X11_363 rfl (co_338 (by repeat (first | with_reducible exact hw | with_reducible exact hwc | with_reducible assumption | with_reducible apply Wf.sI | with_reducible apply Wf.sL | with_reducible apply Wf.cpI | with_reducible apply Wf.cpL | with_reducible apply Wf.cp2 | with_reducible apply Wf.sIs | with_reducible apply Wf.sLs | with_reducible apply Wf.cpU | with_reducible apply Wf.fillI | with_reducible apply Wf.clU | with_reducible apply Wf.dnF | with_reducible apply Wf.gbW))) (by decide) hc_X11 (by decide) (by decide) (Nat.le_of_ble_eq_true rfl) ?_
  refine a_if_ne (tgt := 13) dX11_cabin_6 (by decide) (fun h6 => ?_) (fun h6 => absurd h6 (by decide))
  refine a_iload_n dX11_cabin_13 rfl ?_
  refine a_iconst (0 : Int32) dX11_cabin_14 (by decide) ?_
  refine a_bipush (7 : Int32) dX11_cabin_15 (by decide) ?_
  refine a_invS (b2 := (0, 0)) (Ct.int h2 (m_in y 0 7)) rfl dX11_cabin_17 yk_X11_in sm_X11_in ml_X11_102 rfl (by decide) (by decide) (Nat.le_of_ble_eq_true rfl) ?_
  refine a_if_eq (tgt := 27) dX11_cabin_20 (by decide) (fun h20 => ?_) (fun h20 => absurd h20 (fun z => z rfl))
  refine a_iconst (2 : Int32) dX11_cabin_27 (by decide) ?_
  refine a_inv (b2 := (0, 0)) (m_isRefused1 (by repeat (first | with_reducible exact hw | with_reducible exact hwc | with_reducible assumption | with_reducible apply Wf.sI | with_reducible apply Wf.sL | with_reducible apply Wf.cpI | with_reducible apply Wf.cpL | with_reducible apply Wf.cp2 | with_reducible apply Wf.sIs | with_reducible apply Wf.sLs | with_reducible apply Wf.cpU | with_reducible apply Wf.fillI | with_reducible apply Wf.clU | with_reducible apply Wf.dnF | with_reducible apply Wf.gbW)) (v := 2) (by decide)) rfl dX11_cabin_28 yk_X11_isRefused im_X11_isRefused se_X11_isRefused ml_X11_98 rfl (co_338 (by repeat (first | with_reducible exact hw | with_reducible exact hwc | with_reducible assumption | with_reducible apply Wf.sI | with_reducible apply Wf.sL | with_reducible apply Wf.cpI | with_reducible apply Wf.cpL | with_reducible apply Wf.cp2 | with_reducible apply Wf.sIs | with_reducible apply Wf.sLs | with_reducible apply Wf.cpU | with_reducible apply Wf.fillI | with_reducible apply Wf.clU | with_reducible apply Wf.dnF | with_reducible apply Wf.gbW))) (by decide) hc_X11 (by decide) (by decide) (Nat.le_of_ble_eq_true rfl) ?_
  refine a_if_eq (tgt := 36) dX11_cabin_31 (by decide) (fun h31 => absurd h31 (by decide)) (fun h31 => ?_)
  refine a_iconst (0 : Int32) dX11_cabin_34 (by decide) ?_
  exact a_out rfl rfl (a_ireturn dX11_cabin_35 rfl rfl)
abbrev R_X11_meal : Room := { frames := 6, cells := 0, slots := 0, locals := 136 }
abbrev RX_X11_meal : Room := { frames := 6, cells := 1, slots := 6, locals := 136 }

theorem m_meal_0 (hw : Wf μ) (hv : MdV μ q d) (hq0 : GdP q) (hd0 : GdD q d) (hx : MxV (gI μ 344) q d) {m : Nat} (hm : m < pM q) : CV Y_X11_meal R_X11_meal [.ref 338, .int (nI m), .int (nI 0)] μ (fun v V => v = some (.int (mlV q d m 0)) ∧ MqQ μ 0 V) := by
  have hM4 := hv.M4
  have hT4 := hv.T4
  have hP4 := hv.P4
  have hC4 := hv.C4
  have hw1 : Wf (sI μ 338 0 0) := hw.sI
  have hv1 : MdV (sI μ 338 0 0) q d := hv.th 0
  refine CV.ent yk_X11_meal (Nat.le_of_ble_eq_true rfl) ?_
  refine lf (a_aload_n dX11_meal_0 rfl) ?_
  refine lf (a_aload_n dX11_meal_1 rfl) ?_
  refine lf (a_iload_n dX11_meal_2 rfl) ?_
  refine lf (a_inv (b2 := (0, 0)) (Ct.int (isO_lt hm (by omega)) (m_isMeal (by repeat (first | with_reducible exact hw | with_reducible exact hwc | with_reducible assumption | with_reducible apply Wf.sI | with_reducible apply Wf.sL | with_reducible apply Wf.cpI | with_reducible apply Wf.cpL | with_reducible apply Wf.cp2 | with_reducible apply Wf.sIs | with_reducible apply Wf.sLs | with_reducible apply Wf.cpU | with_reducible apply Wf.fillI | with_reducible apply Wf.clU | with_reducible apply Wf.dnF | with_reducible apply Wf.gbW)) hv (nI m))) rfl dX11_meal_3 yk_X11_isMeal im_X11_isMeal se_X11_isMeal ml_X11_379 rfl (co_338 (by repeat (first | with_reducible exact hw | with_reducible exact hwc | with_reducible assumption | with_reducible apply Wf.sI | with_reducible apply Wf.sL | with_reducible apply Wf.cpI | with_reducible apply Wf.cpL | with_reducible apply Wf.cp2 | with_reducible apply Wf.sIs | with_reducible apply Wf.sLs | with_reducible apply Wf.cpU | with_reducible apply Wf.fillI | with_reducible apply Wf.clU | with_reducible apply Wf.dnF | with_reducible apply Wf.gbW))) (by decide) hc_X11 (by decide) (by decide) (Nat.le_of_ble_eq_true rfl)) ?_
  refine lfn (a_if_ne (tgt := 13) dX11_meal_6 (by decide)) (fun h6 => ?_) (fun h6 => absurd h6 (by decide))
  refine lf (a_iload_n dX11_meal_13 rfl) ?_
  refine lf (a_iconst (0 : Int32) dX11_meal_14 (by decide)) ?_
  refine lf (a_bipush (9 : Int32) dX11_meal_15 (by decide)) ?_
  refine lf (a_invS (b2 := (0, 0)) (Ct.int (y := 1) (by decide) (m_in (nI 0) 0 9)) rfl dX11_meal_17 yk_X11_in sm_X11_in ml_X11_102 rfl (by decide) (by decide) (Nat.le_of_ble_eq_true rfl)) ?_
  refine lf2 (a_if_eq (tgt := 27) dX11_meal_20 (by decide)) (fun h20 => absurd h20 (by decide)) (fun h20 => ?_)
  refine lf (a_iconst (0 : Int32) dX11_meal_23 (by decide)) ?_
  refine lf (a_goto (tgt := 28) dX11_meal_24 (by decide)) ?_
  refine lf (a_inv (b2 := (0, 0)) (m_isRefused0 (by repeat (first | with_reducible exact hw | with_reducible exact hwc | with_reducible assumption | with_reducible apply Wf.sI | with_reducible apply Wf.sL | with_reducible apply Wf.cpI | with_reducible apply Wf.cpL | with_reducible apply Wf.cp2 | with_reducible apply Wf.sIs | with_reducible apply Wf.sLs | with_reducible apply Wf.cpU | with_reducible apply Wf.fillI | with_reducible apply Wf.clU | with_reducible apply Wf.dnF | with_reducible apply Wf.gbW))) rfl dX11_meal_28 yk_X11_isRefused im_X11_isRefused se_X11_isRefused ml_X11_98 rfl (co_338 (by repeat (first | with_reducible exact hw | with_reducible exact hwc | with_reducible assumption | with_reducible apply Wf.sI | with_reducible apply Wf.sL | with_reducible apply Wf.cpI | with_reducible apply Wf.cpL | with_reducible apply Wf.cp2 | with_reducible apply Wf.sIs | with_reducible apply Wf.sLs | with_reducible apply Wf.cpU | with_reducible apply Wf.fillI | with_reducible apply Wf.clU | with_reducible apply Wf.dnF | with_reducible apply Wf.gbW))) (by decide) hc_X11 (by decide) (by decide) (Nat.le_of_ble_eq_true rfl)) ?_
  refine lf2 (a_if_eq (tgt := 36) dX11_meal_31 (by decide)) (fun h31 => ?_) (fun h31 => absurd h31 (fun z => z rfl))
  refine lf (a_aload_n dX11_meal_36 rfl) ?_
  obtain ⟨v_, W37, k37, rfl, hO, hu⟩ := (m_laysOrder hw1 hv1 hq0 hd0)
  have hwc := hO.1
  have hv2 := hv1.om hO
  refine lf (a_inv (b2 := (0, 0)) k37 rfl dX11_meal_37 yk_X11_laysOrder im_X11_laysOrder se_X11_laysOrder ml_X11_354 rfl (co_338 (by repeat (first | with_reducible exact hw | with_reducible exact hwc | with_reducible assumption | with_reducible apply Wf.sI | with_reducible apply Wf.sL | with_reducible apply Wf.cpI | with_reducible apply Wf.cpL | with_reducible apply Wf.cp2 | with_reducible apply Wf.sIs | with_reducible apply Wf.sLs | with_reducible apply Wf.cpU | with_reducible apply Wf.fillI | with_reducible apply Wf.clU | with_reducible apply Wf.dnF | with_reducible apply Wf.gbW))) (by decide) hc_X11 (by decide) (by decide) (Nat.le_of_ble_eq_true rfl)) ?_
  refine lf (a_iload_n dX11_meal_40 rfl) ?_
  refine lf (a_tsOut (tgt := 112) dX11_meal_41 (by decide) (by decide)) ?_
  refine lf (a_aload_n dX11_meal_112 rfl) ?_
  refine lf (a_iload_n dX11_meal_113 rfl) ?_
  refine lf (a_iload_n dX11_meal_114 rfl) ?_
  refine lf (a_inv (b2 := (0, 0)) (m_ofMeal0 (by repeat (first | with_reducible exact hw | with_reducible exact hwc | with_reducible assumption | with_reducible apply Wf.sI | with_reducible apply Wf.sL | with_reducible apply Wf.cpI | with_reducible apply Wf.cpL | with_reducible apply Wf.cp2 | with_reducible apply Wf.sIs | with_reducible apply Wf.sLs | with_reducible apply Wf.cpU | with_reducible apply Wf.fillI | with_reducible apply Wf.clU | with_reducible apply Wf.dnF | with_reducible apply Wf.gbW)) hv2 hm) rfl dX11_meal_115 yk_X11_ofMeal im_X11_ofMeal se_X11_ofMeal ml_X11_297 rfl (co_338 (by repeat (first | with_reducible exact hw | with_reducible exact hwc | with_reducible assumption | with_reducible apply Wf.sI | with_reducible apply Wf.sL | with_reducible apply Wf.cpI | with_reducible apply Wf.cpL | with_reducible apply Wf.cp2 | with_reducible apply Wf.sIs | with_reducible apply Wf.sLs | with_reducible apply Wf.cpU | with_reducible apply Wf.fillI | with_reducible apply Wf.clU | with_reducible apply Wf.dnF | with_reducible apply Wf.gbW))) (by decide) hc_X11 (by decide) (by decide) (Nat.le_of_ble_eq_true rfl)) ?_
  refine ⟨_, _, (a_ireturn dX11_meal_118 rfl rfl), ?_⟩
  exact ⟨_, rfl, rfl, MqQ.ord hw hO⟩

theorem m_meal_1 (hw : Wf μ) (hv : MdV μ q d) (hq0 : GdP q) (hd0 : GdD q d) (hx : MxV (gI μ 344) q d) {m : Nat} (hm : m < pM q) : CV Y_X11_meal R_X11_meal [.ref 338, .int (nI m), .int (nI 1)] μ (fun v V => v = some (.int (mlV q d m 1)) ∧ MqQ μ 0 V) := by
  have hM4 := hv.M4
  have hT4 := hv.T4
  have hP4 := hv.P4
  have hC4 := hv.C4
  have hw1 : Wf (sI μ 338 0 0) := hw.sI
  have hv1 : MdV (sI μ 338 0 0) q d := hv.th 0
  refine CV.ent yk_X11_meal (Nat.le_of_ble_eq_true rfl) ?_
  refine lf (a_aload_n dX11_meal_0 rfl) ?_
  refine lf (a_aload_n dX11_meal_1 rfl) ?_
  refine lf (a_iload_n dX11_meal_2 rfl) ?_
  refine lf (a_inv (b2 := (0, 0)) (Ct.int (isO_lt hm (by omega)) (m_isMeal (by repeat (first | with_reducible exact hw | with_reducible exact hwc | with_reducible assumption | with_reducible apply Wf.sI | with_reducible apply Wf.sL | with_reducible apply Wf.cpI | with_reducible apply Wf.cpL | with_reducible apply Wf.cp2 | with_reducible apply Wf.sIs | with_reducible apply Wf.sLs | with_reducible apply Wf.cpU | with_reducible apply Wf.fillI | with_reducible apply Wf.clU | with_reducible apply Wf.dnF | with_reducible apply Wf.gbW)) hv (nI m))) rfl dX11_meal_3 yk_X11_isMeal im_X11_isMeal se_X11_isMeal ml_X11_379 rfl (co_338 (by repeat (first | with_reducible exact hw | with_reducible exact hwc | with_reducible assumption | with_reducible apply Wf.sI | with_reducible apply Wf.sL | with_reducible apply Wf.cpI | with_reducible apply Wf.cpL | with_reducible apply Wf.cp2 | with_reducible apply Wf.sIs | with_reducible apply Wf.sLs | with_reducible apply Wf.cpU | with_reducible apply Wf.fillI | with_reducible apply Wf.clU | with_reducible apply Wf.dnF | with_reducible apply Wf.gbW))) (by decide) hc_X11 (by decide) (by decide) (Nat.le_of_ble_eq_true rfl)) ?_
  refine lfn (a_if_ne (tgt := 13) dX11_meal_6 (by decide)) (fun h6 => ?_) (fun h6 => absurd h6 (by decide))
  refine lf (a_iload_n dX11_meal_13 rfl) ?_
  refine lf (a_iconst (0 : Int32) dX11_meal_14 (by decide)) ?_
  refine lf (a_bipush (9 : Int32) dX11_meal_15 (by decide)) ?_
  refine lf (a_invS (b2 := (0, 0)) (Ct.int (y := 1) (by decide) (m_in (nI 1) 0 9)) rfl dX11_meal_17 yk_X11_in sm_X11_in ml_X11_102 rfl (by decide) (by decide) (Nat.le_of_ble_eq_true rfl)) ?_
  refine lf2 (a_if_eq (tgt := 27) dX11_meal_20 (by decide)) (fun h20 => absurd h20 (by decide)) (fun h20 => ?_)
  refine lf (a_iconst (0 : Int32) dX11_meal_23 (by decide)) ?_
  refine lf (a_goto (tgt := 28) dX11_meal_24 (by decide)) ?_
  refine lf (a_inv (b2 := (0, 0)) (m_isRefused0 (by repeat (first | with_reducible exact hw | with_reducible exact hwc | with_reducible assumption | with_reducible apply Wf.sI | with_reducible apply Wf.sL | with_reducible apply Wf.cpI | with_reducible apply Wf.cpL | with_reducible apply Wf.cp2 | with_reducible apply Wf.sIs | with_reducible apply Wf.sLs | with_reducible apply Wf.cpU | with_reducible apply Wf.fillI | with_reducible apply Wf.clU | with_reducible apply Wf.dnF | with_reducible apply Wf.gbW))) rfl dX11_meal_28 yk_X11_isRefused im_X11_isRefused se_X11_isRefused ml_X11_98 rfl (co_338 (by repeat (first | with_reducible exact hw | with_reducible exact hwc | with_reducible assumption | with_reducible apply Wf.sI | with_reducible apply Wf.sL | with_reducible apply Wf.cpI | with_reducible apply Wf.cpL | with_reducible apply Wf.cp2 | with_reducible apply Wf.sIs | with_reducible apply Wf.sLs | with_reducible apply Wf.cpU | with_reducible apply Wf.fillI | with_reducible apply Wf.clU | with_reducible apply Wf.dnF | with_reducible apply Wf.gbW))) (by decide) hc_X11 (by decide) (by decide) (Nat.le_of_ble_eq_true rfl)) ?_
  refine lf2 (a_if_eq (tgt := 36) dX11_meal_31 (by decide)) (fun h31 => ?_) (fun h31 => absurd h31 (fun z => z rfl))
  refine lf (a_aload_n dX11_meal_36 rfl) ?_
  obtain ⟨v_, W37, k37, rfl, hO, hu⟩ := (m_laysOrder hw1 hv1 hq0 hd0)
  have hwc := hO.1
  have hv2 := hv1.om hO
  refine lf (a_inv (b2 := (0, 0)) k37 rfl dX11_meal_37 yk_X11_laysOrder im_X11_laysOrder se_X11_laysOrder ml_X11_354 rfl (co_338 (by repeat (first | with_reducible exact hw | with_reducible exact hwc | with_reducible assumption | with_reducible apply Wf.sI | with_reducible apply Wf.sL | with_reducible apply Wf.cpI | with_reducible apply Wf.cpL | with_reducible apply Wf.cp2 | with_reducible apply Wf.sIs | with_reducible apply Wf.sLs | with_reducible apply Wf.cpU | with_reducible apply Wf.fillI | with_reducible apply Wf.clU | with_reducible apply Wf.dnF | with_reducible apply Wf.gbW))) (by decide) hc_X11 (by decide) (by decide) (Nat.le_of_ble_eq_true rfl)) ?_
  refine lf (a_iload_n dX11_meal_40 rfl) ?_
  refine lf (a_tsOut (tgt := 112) dX11_meal_41 (by decide) (by decide)) ?_
  refine lf (a_aload_n dX11_meal_112 rfl) ?_
  refine lf (a_iload_n dX11_meal_113 rfl) ?_
  refine lf (a_iload_n dX11_meal_114 rfl) ?_
  refine lf (a_inv (b2 := (0, 0)) (m_ofMeal1 (by repeat (first | with_reducible exact hw | with_reducible exact hwc | with_reducible assumption | with_reducible apply Wf.sI | with_reducible apply Wf.sL | with_reducible apply Wf.cpI | with_reducible apply Wf.cpL | with_reducible apply Wf.cp2 | with_reducible apply Wf.sIs | with_reducible apply Wf.sLs | with_reducible apply Wf.cpU | with_reducible apply Wf.fillI | with_reducible apply Wf.clU | with_reducible apply Wf.dnF | with_reducible apply Wf.gbW)) hv2 hm) rfl dX11_meal_115 yk_X11_ofMeal im_X11_ofMeal se_X11_ofMeal ml_X11_297 rfl (co_338 (by repeat (first | with_reducible exact hw | with_reducible exact hwc | with_reducible assumption | with_reducible apply Wf.sI | with_reducible apply Wf.sL | with_reducible apply Wf.cpI | with_reducible apply Wf.cpL | with_reducible apply Wf.cp2 | with_reducible apply Wf.sIs | with_reducible apply Wf.sLs | with_reducible apply Wf.cpU | with_reducible apply Wf.fillI | with_reducible apply Wf.clU | with_reducible apply Wf.dnF | with_reducible apply Wf.gbW))) (by decide) hc_X11 (by decide) (by decide) (Nat.le_of_ble_eq_true rfl)) ?_
  refine ⟨_, _, (a_ireturn dX11_meal_118 rfl rfl), ?_⟩
  exact ⟨_, rfl, rfl, MqQ.ord hw hO⟩

theorem m_meal_2 (hw : Wf μ) (hv : MdV μ q d) (hq0 : GdP q) (hd0 : GdD q d) (hx : MxV (gI μ 344) q d) {m : Nat} (hm : m < pM q) : CV Y_X11_meal R_X11_meal [.ref 338, .int (nI m), .int (nI 2)] μ (fun v V => v = some (.int (mlV q d m 2)) ∧ MqQ μ 0 V) := by
  have hM4 := hv.M4
  have hT4 := hv.T4
  have hP4 := hv.P4
  have hC4 := hv.C4
  have hw1 : Wf (sI μ 338 0 0) := hw.sI
  have hv1 : MdV (sI μ 338 0 0) q d := hv.th 0
  refine CV.ent yk_X11_meal (Nat.le_of_ble_eq_true rfl) ?_
  refine lf (a_aload_n dX11_meal_0 rfl) ?_
  refine lf (a_aload_n dX11_meal_1 rfl) ?_
  refine lf (a_iload_n dX11_meal_2 rfl) ?_
  refine lf (a_inv (b2 := (0, 0)) (Ct.int (isO_lt hm (by omega)) (m_isMeal (by repeat (first | with_reducible exact hw | with_reducible exact hwc | with_reducible assumption | with_reducible apply Wf.sI | with_reducible apply Wf.sL | with_reducible apply Wf.cpI | with_reducible apply Wf.cpL | with_reducible apply Wf.cp2 | with_reducible apply Wf.sIs | with_reducible apply Wf.sLs | with_reducible apply Wf.cpU | with_reducible apply Wf.fillI | with_reducible apply Wf.clU | with_reducible apply Wf.dnF | with_reducible apply Wf.gbW)) hv (nI m))) rfl dX11_meal_3 yk_X11_isMeal im_X11_isMeal se_X11_isMeal ml_X11_379 rfl (co_338 (by repeat (first | with_reducible exact hw | with_reducible exact hwc | with_reducible assumption | with_reducible apply Wf.sI | with_reducible apply Wf.sL | with_reducible apply Wf.cpI | with_reducible apply Wf.cpL | with_reducible apply Wf.cp2 | with_reducible apply Wf.sIs | with_reducible apply Wf.sLs | with_reducible apply Wf.cpU | with_reducible apply Wf.fillI | with_reducible apply Wf.clU | with_reducible apply Wf.dnF | with_reducible apply Wf.gbW))) (by decide) hc_X11 (by decide) (by decide) (Nat.le_of_ble_eq_true rfl)) ?_
  refine lfn (a_if_ne (tgt := 13) dX11_meal_6 (by decide)) (fun h6 => ?_) (fun h6 => absurd h6 (by decide))
  refine lf (a_iload_n dX11_meal_13 rfl) ?_
  refine lf (a_iconst (0 : Int32) dX11_meal_14 (by decide)) ?_
  refine lf (a_bipush (9 : Int32) dX11_meal_15 (by decide)) ?_
  refine lf (a_invS (b2 := (0, 0)) (Ct.int (y := 1) (by decide) (m_in (nI 2) 0 9)) rfl dX11_meal_17 yk_X11_in sm_X11_in ml_X11_102 rfl (by decide) (by decide) (Nat.le_of_ble_eq_true rfl)) ?_
  refine lf2 (a_if_eq (tgt := 27) dX11_meal_20 (by decide)) (fun h20 => absurd h20 (by decide)) (fun h20 => ?_)
  refine lf (a_iconst (0 : Int32) dX11_meal_23 (by decide)) ?_
  refine lf (a_goto (tgt := 28) dX11_meal_24 (by decide)) ?_
  refine lf (a_inv (b2 := (0, 0)) (m_isRefused0 (by repeat (first | with_reducible exact hw | with_reducible exact hwc | with_reducible assumption | with_reducible apply Wf.sI | with_reducible apply Wf.sL | with_reducible apply Wf.cpI | with_reducible apply Wf.cpL | with_reducible apply Wf.cp2 | with_reducible apply Wf.sIs | with_reducible apply Wf.sLs | with_reducible apply Wf.cpU | with_reducible apply Wf.fillI | with_reducible apply Wf.clU | with_reducible apply Wf.dnF | with_reducible apply Wf.gbW))) rfl dX11_meal_28 yk_X11_isRefused im_X11_isRefused se_X11_isRefused ml_X11_98 rfl (co_338 (by repeat (first | with_reducible exact hw | with_reducible exact hwc | with_reducible assumption | with_reducible apply Wf.sI | with_reducible apply Wf.sL | with_reducible apply Wf.cpI | with_reducible apply Wf.cpL | with_reducible apply Wf.cp2 | with_reducible apply Wf.sIs | with_reducible apply Wf.sLs | with_reducible apply Wf.cpU | with_reducible apply Wf.fillI | with_reducible apply Wf.clU | with_reducible apply Wf.dnF | with_reducible apply Wf.gbW))) (by decide) hc_X11 (by decide) (by decide) (Nat.le_of_ble_eq_true rfl)) ?_
  refine lf2 (a_if_eq (tgt := 36) dX11_meal_31 (by decide)) (fun h31 => ?_) (fun h31 => absurd h31 (fun z => z rfl))
  refine lf (a_aload_n dX11_meal_36 rfl) ?_
  obtain ⟨v_, W37, k37, rfl, hO, hu⟩ := (m_laysOrder hw1 hv1 hq0 hd0)
  have hwc := hO.1
  have hv2 := hv1.om hO
  refine lf (a_inv (b2 := (0, 0)) k37 rfl dX11_meal_37 yk_X11_laysOrder im_X11_laysOrder se_X11_laysOrder ml_X11_354 rfl (co_338 (by repeat (first | with_reducible exact hw | with_reducible exact hwc | with_reducible assumption | with_reducible apply Wf.sI | with_reducible apply Wf.sL | with_reducible apply Wf.cpI | with_reducible apply Wf.cpL | with_reducible apply Wf.cp2 | with_reducible apply Wf.sIs | with_reducible apply Wf.sLs | with_reducible apply Wf.cpU | with_reducible apply Wf.fillI | with_reducible apply Wf.clU | with_reducible apply Wf.dnF | with_reducible apply Wf.gbW))) (by decide) hc_X11 (by decide) (by decide) (Nat.le_of_ble_eq_true rfl)) ?_
  refine lf (a_iload_n dX11_meal_40 rfl) ?_
  refine lf (a_tsOut (tgt := 112) dX11_meal_41 (by decide) (by decide)) ?_
  refine lf (a_aload_n dX11_meal_112 rfl) ?_
  refine lf (a_iload_n dX11_meal_113 rfl) ?_
  refine lf (a_iload_n dX11_meal_114 rfl) ?_
  refine lf (a_inv (b2 := (0, 0)) (m_ofMeal2 (by repeat (first | with_reducible exact hw | with_reducible exact hwc | with_reducible assumption | with_reducible apply Wf.sI | with_reducible apply Wf.sL | with_reducible apply Wf.cpI | with_reducible apply Wf.cpL | with_reducible apply Wf.cp2 | with_reducible apply Wf.sIs | with_reducible apply Wf.sLs | with_reducible apply Wf.cpU | with_reducible apply Wf.fillI | with_reducible apply Wf.clU | with_reducible apply Wf.dnF | with_reducible apply Wf.gbW)) hv2 hm) rfl dX11_meal_115 yk_X11_ofMeal im_X11_ofMeal se_X11_ofMeal ml_X11_297 rfl (co_338 (by repeat (first | with_reducible exact hw | with_reducible exact hwc | with_reducible assumption | with_reducible apply Wf.sI | with_reducible apply Wf.sL | with_reducible apply Wf.cpI | with_reducible apply Wf.cpL | with_reducible apply Wf.cp2 | with_reducible apply Wf.sIs | with_reducible apply Wf.sLs | with_reducible apply Wf.cpU | with_reducible apply Wf.fillI | with_reducible apply Wf.clU | with_reducible apply Wf.dnF | with_reducible apply Wf.gbW))) (by decide) hc_X11 (by decide) (by decide) (Nat.le_of_ble_eq_true rfl)) ?_
  refine ⟨_, _, (a_ireturn dX11_meal_118 rfl rfl), ?_⟩
  exact ⟨_, rfl, rfl, MqQ.ord hw hO⟩

theorem m_meal_3 (hw : Wf μ) (hv : MdV μ q d) (hq0 : GdP q) (hd0 : GdD q d) (hx : MxV (gI μ 344) q d) {m : Nat} (hm : m < pM q) : CV Y_X11_meal R_X11_meal [.ref 338, .int (nI m), .int (nI 3)] μ (fun v V => v = some (.int (mlV q d m 3)) ∧ MqQ μ 0 V) := by
  have hM4 := hv.M4
  have hT4 := hv.T4
  have hP4 := hv.P4
  have hC4 := hv.C4
  have hw1 : Wf (sI μ 338 0 0) := hw.sI
  have hv1 : MdV (sI μ 338 0 0) q d := hv.th 0
  refine CV.ent yk_X11_meal (Nat.le_of_ble_eq_true rfl) ?_
  refine lf (a_aload_n dX11_meal_0 rfl) ?_
  refine lf (a_aload_n dX11_meal_1 rfl) ?_
  refine lf (a_iload_n dX11_meal_2 rfl) ?_
  refine lf (a_inv (b2 := (0, 0)) (Ct.int (isO_lt hm (by omega)) (m_isMeal (by repeat (first | with_reducible exact hw | with_reducible exact hwc | with_reducible assumption | with_reducible apply Wf.sI | with_reducible apply Wf.sL | with_reducible apply Wf.cpI | with_reducible apply Wf.cpL | with_reducible apply Wf.cp2 | with_reducible apply Wf.sIs | with_reducible apply Wf.sLs | with_reducible apply Wf.cpU | with_reducible apply Wf.fillI | with_reducible apply Wf.clU | with_reducible apply Wf.dnF | with_reducible apply Wf.gbW)) hv (nI m))) rfl dX11_meal_3 yk_X11_isMeal im_X11_isMeal se_X11_isMeal ml_X11_379 rfl (co_338 (by repeat (first | with_reducible exact hw | with_reducible exact hwc | with_reducible assumption | with_reducible apply Wf.sI | with_reducible apply Wf.sL | with_reducible apply Wf.cpI | with_reducible apply Wf.cpL | with_reducible apply Wf.cp2 | with_reducible apply Wf.sIs | with_reducible apply Wf.sLs | with_reducible apply Wf.cpU | with_reducible apply Wf.fillI | with_reducible apply Wf.clU | with_reducible apply Wf.dnF | with_reducible apply Wf.gbW))) (by decide) hc_X11 (by decide) (by decide) (Nat.le_of_ble_eq_true rfl)) ?_
  refine lfn (a_if_ne (tgt := 13) dX11_meal_6 (by decide)) (fun h6 => ?_) (fun h6 => absurd h6 (by decide))
  refine lf (a_iload_n dX11_meal_13 rfl) ?_
  refine lf (a_iconst (0 : Int32) dX11_meal_14 (by decide)) ?_
  refine lf (a_bipush (9 : Int32) dX11_meal_15 (by decide)) ?_
  refine lf (a_invS (b2 := (0, 0)) (Ct.int (y := 1) (by decide) (m_in (nI 3) 0 9)) rfl dX11_meal_17 yk_X11_in sm_X11_in ml_X11_102 rfl (by decide) (by decide) (Nat.le_of_ble_eq_true rfl)) ?_
  refine lf2 (a_if_eq (tgt := 27) dX11_meal_20 (by decide)) (fun h20 => absurd h20 (by decide)) (fun h20 => ?_)
  refine lf (a_iconst (0 : Int32) dX11_meal_23 (by decide)) ?_
  refine lf (a_goto (tgt := 28) dX11_meal_24 (by decide)) ?_
  refine lf (a_inv (b2 := (0, 0)) (m_isRefused0 (by repeat (first | with_reducible exact hw | with_reducible exact hwc | with_reducible assumption | with_reducible apply Wf.sI | with_reducible apply Wf.sL | with_reducible apply Wf.cpI | with_reducible apply Wf.cpL | with_reducible apply Wf.cp2 | with_reducible apply Wf.sIs | with_reducible apply Wf.sLs | with_reducible apply Wf.cpU | with_reducible apply Wf.fillI | with_reducible apply Wf.clU | with_reducible apply Wf.dnF | with_reducible apply Wf.gbW))) rfl dX11_meal_28 yk_X11_isRefused im_X11_isRefused se_X11_isRefused ml_X11_98 rfl (co_338 (by repeat (first | with_reducible exact hw | with_reducible exact hwc | with_reducible assumption | with_reducible apply Wf.sI | with_reducible apply Wf.sL | with_reducible apply Wf.cpI | with_reducible apply Wf.cpL | with_reducible apply Wf.cp2 | with_reducible apply Wf.sIs | with_reducible apply Wf.sLs | with_reducible apply Wf.cpU | with_reducible apply Wf.fillI | with_reducible apply Wf.clU | with_reducible apply Wf.dnF | with_reducible apply Wf.gbW))) (by decide) hc_X11 (by decide) (by decide) (Nat.le_of_ble_eq_true rfl)) ?_
  refine lf2 (a_if_eq (tgt := 36) dX11_meal_31 (by decide)) (fun h31 => ?_) (fun h31 => absurd h31 (fun z => z rfl))
  refine lf (a_aload_n dX11_meal_36 rfl) ?_
  obtain ⟨v_, W37, k37, rfl, hO, hu⟩ := (m_laysOrder hw1 hv1 hq0 hd0)
  have hwc := hO.1
  have hv2 := hv1.om hO
  refine lf (a_inv (b2 := (0, 0)) k37 rfl dX11_meal_37 yk_X11_laysOrder im_X11_laysOrder se_X11_laysOrder ml_X11_354 rfl (co_338 (by repeat (first | with_reducible exact hw | with_reducible exact hwc | with_reducible assumption | with_reducible apply Wf.sI | with_reducible apply Wf.sL | with_reducible apply Wf.cpI | with_reducible apply Wf.cpL | with_reducible apply Wf.cp2 | with_reducible apply Wf.sIs | with_reducible apply Wf.sLs | with_reducible apply Wf.cpU | with_reducible apply Wf.fillI | with_reducible apply Wf.clU | with_reducible apply Wf.dnF | with_reducible apply Wf.gbW))) (by decide) hc_X11 (by decide) (by decide) (Nat.le_of_ble_eq_true rfl)) ?_
  refine lf (a_iload_n dX11_meal_40 rfl) ?_
  refine lf (a_tsOut (tgt := 112) dX11_meal_41 (by decide) (by decide)) ?_
  refine lf (a_aload_n dX11_meal_112 rfl) ?_
  refine lf (a_iload_n dX11_meal_113 rfl) ?_
  refine lf (a_iload_n dX11_meal_114 rfl) ?_
  refine lf (a_inv (b2 := (0, 0)) (m_ofMeal3 (by repeat (first | with_reducible exact hw | with_reducible exact hwc | with_reducible assumption | with_reducible apply Wf.sI | with_reducible apply Wf.sL | with_reducible apply Wf.cpI | with_reducible apply Wf.cpL | with_reducible apply Wf.cp2 | with_reducible apply Wf.sIs | with_reducible apply Wf.sLs | with_reducible apply Wf.cpU | with_reducible apply Wf.fillI | with_reducible apply Wf.clU | with_reducible apply Wf.dnF | with_reducible apply Wf.gbW)) hv2 hm) rfl dX11_meal_115 yk_X11_ofMeal im_X11_ofMeal se_X11_ofMeal ml_X11_297 rfl (co_338 (by repeat (first | with_reducible exact hw | with_reducible exact hwc | with_reducible assumption | with_reducible apply Wf.sI | with_reducible apply Wf.sL | with_reducible apply Wf.cpI | with_reducible apply Wf.cpL | with_reducible apply Wf.cp2 | with_reducible apply Wf.sIs | with_reducible apply Wf.sLs | with_reducible apply Wf.cpU | with_reducible apply Wf.fillI | with_reducible apply Wf.clU | with_reducible apply Wf.dnF | with_reducible apply Wf.gbW))) (by decide) hc_X11 (by decide) (by decide) (Nat.le_of_ble_eq_true rfl)) ?_
  refine ⟨_, _, (a_ireturn dX11_meal_118 rfl rfl), ?_⟩
  exact ⟨_, rfl, rfl, MqQ.ord hw hO⟩

theorem m_meal_4 (hw : Wf μ) (hv : MdV μ q d) (hq0 : GdP q) (hd0 : GdD q d) (hx : MxV (gI μ 344) q d) {m : Nat} (hm : m < pM q) : CV Y_X11_meal R_X11_meal [.ref 338, .int (nI m), .int (nI 4)] μ (fun v V => v = some (.int (mlV q d m 4)) ∧ MqQ μ 0 V) := by
  have hM4 := hv.M4
  have hT4 := hv.T4
  have hP4 := hv.P4
  have hC4 := hv.C4
  have hw1 : Wf (sI μ 338 0 0) := hw.sI
  have hv1 : MdV (sI μ 338 0 0) q d := hv.th 0
  refine CV.ent yk_X11_meal (Nat.le_of_ble_eq_true rfl) ?_
  refine lf (a_aload_n dX11_meal_0 rfl) ?_
  refine lf (a_aload_n dX11_meal_1 rfl) ?_
  refine lf (a_iload_n dX11_meal_2 rfl) ?_
  refine lf (a_inv (b2 := (0, 0)) (Ct.int (isO_lt hm (by omega)) (m_isMeal (by repeat (first | with_reducible exact hw | with_reducible exact hwc | with_reducible assumption | with_reducible apply Wf.sI | with_reducible apply Wf.sL | with_reducible apply Wf.cpI | with_reducible apply Wf.cpL | with_reducible apply Wf.cp2 | with_reducible apply Wf.sIs | with_reducible apply Wf.sLs | with_reducible apply Wf.cpU | with_reducible apply Wf.fillI | with_reducible apply Wf.clU | with_reducible apply Wf.dnF | with_reducible apply Wf.gbW)) hv (nI m))) rfl dX11_meal_3 yk_X11_isMeal im_X11_isMeal se_X11_isMeal ml_X11_379 rfl (co_338 (by repeat (first | with_reducible exact hw | with_reducible exact hwc | with_reducible assumption | with_reducible apply Wf.sI | with_reducible apply Wf.sL | with_reducible apply Wf.cpI | with_reducible apply Wf.cpL | with_reducible apply Wf.cp2 | with_reducible apply Wf.sIs | with_reducible apply Wf.sLs | with_reducible apply Wf.cpU | with_reducible apply Wf.fillI | with_reducible apply Wf.clU | with_reducible apply Wf.dnF | with_reducible apply Wf.gbW))) (by decide) hc_X11 (by decide) (by decide) (Nat.le_of_ble_eq_true rfl)) ?_
  refine lfn (a_if_ne (tgt := 13) dX11_meal_6 (by decide)) (fun h6 => ?_) (fun h6 => absurd h6 (by decide))
  refine lf (a_iload_n dX11_meal_13 rfl) ?_
  refine lf (a_iconst (0 : Int32) dX11_meal_14 (by decide)) ?_
  refine lf (a_bipush (9 : Int32) dX11_meal_15 (by decide)) ?_
  refine lf (a_invS (b2 := (0, 0)) (Ct.int (y := 1) (by decide) (m_in (nI 4) 0 9)) rfl dX11_meal_17 yk_X11_in sm_X11_in ml_X11_102 rfl (by decide) (by decide) (Nat.le_of_ble_eq_true rfl)) ?_
  refine lf2 (a_if_eq (tgt := 27) dX11_meal_20 (by decide)) (fun h20 => absurd h20 (by decide)) (fun h20 => ?_)
  refine lf (a_iconst (0 : Int32) dX11_meal_23 (by decide)) ?_
  refine lf (a_goto (tgt := 28) dX11_meal_24 (by decide)) ?_
  refine lf (a_inv (b2 := (0, 0)) (m_isRefused0 (by repeat (first | with_reducible exact hw | with_reducible exact hwc | with_reducible assumption | with_reducible apply Wf.sI | with_reducible apply Wf.sL | with_reducible apply Wf.cpI | with_reducible apply Wf.cpL | with_reducible apply Wf.cp2 | with_reducible apply Wf.sIs | with_reducible apply Wf.sLs | with_reducible apply Wf.cpU | with_reducible apply Wf.fillI | with_reducible apply Wf.clU | with_reducible apply Wf.dnF | with_reducible apply Wf.gbW))) rfl dX11_meal_28 yk_X11_isRefused im_X11_isRefused se_X11_isRefused ml_X11_98 rfl (co_338 (by repeat (first | with_reducible exact hw | with_reducible exact hwc | with_reducible assumption | with_reducible apply Wf.sI | with_reducible apply Wf.sL | with_reducible apply Wf.cpI | with_reducible apply Wf.cpL | with_reducible apply Wf.cp2 | with_reducible apply Wf.sIs | with_reducible apply Wf.sLs | with_reducible apply Wf.cpU | with_reducible apply Wf.fillI | with_reducible apply Wf.clU | with_reducible apply Wf.dnF | with_reducible apply Wf.gbW))) (by decide) hc_X11 (by decide) (by decide) (Nat.le_of_ble_eq_true rfl)) ?_
  refine lf2 (a_if_eq (tgt := 36) dX11_meal_31 (by decide)) (fun h31 => ?_) (fun h31 => absurd h31 (fun z => z rfl))
  refine lf (a_aload_n dX11_meal_36 rfl) ?_
  obtain ⟨v_, W37, k37, rfl, hO, hu⟩ := (m_laysOrder hw1 hv1 hq0 hd0)
  have hwc := hO.1
  have hv2 := hv1.om hO
  refine lf (a_inv (b2 := (0, 0)) k37 rfl dX11_meal_37 yk_X11_laysOrder im_X11_laysOrder se_X11_laysOrder ml_X11_354 rfl (co_338 (by repeat (first | with_reducible exact hw | with_reducible exact hwc | with_reducible assumption | with_reducible apply Wf.sI | with_reducible apply Wf.sL | with_reducible apply Wf.cpI | with_reducible apply Wf.cpL | with_reducible apply Wf.cp2 | with_reducible apply Wf.sIs | with_reducible apply Wf.sLs | with_reducible apply Wf.cpU | with_reducible apply Wf.fillI | with_reducible apply Wf.clU | with_reducible apply Wf.dnF | with_reducible apply Wf.gbW))) (by decide) hc_X11 (by decide) (by decide) (Nat.le_of_ble_eq_true rfl)) ?_
  refine lf (a_iload_n dX11_meal_40 rfl) ?_
  refine lf (a_tsOut (tgt := 112) dX11_meal_41 (by decide) (by decide)) ?_
  refine lf (a_aload_n dX11_meal_112 rfl) ?_
  refine lf (a_iload_n dX11_meal_113 rfl) ?_
  refine lf (a_iload_n dX11_meal_114 rfl) ?_
  refine lf (a_inv (b2 := (0, 0)) (m_ofMeal4 (by repeat (first | with_reducible exact hw | with_reducible exact hwc | with_reducible assumption | with_reducible apply Wf.sI | with_reducible apply Wf.sL | with_reducible apply Wf.cpI | with_reducible apply Wf.cpL | with_reducible apply Wf.cp2 | with_reducible apply Wf.sIs | with_reducible apply Wf.sLs | with_reducible apply Wf.cpU | with_reducible apply Wf.fillI | with_reducible apply Wf.clU | with_reducible apply Wf.dnF | with_reducible apply Wf.gbW)) hv2 hm) rfl dX11_meal_115 yk_X11_ofMeal im_X11_ofMeal se_X11_ofMeal ml_X11_297 rfl (co_338 (by repeat (first | with_reducible exact hw | with_reducible exact hwc | with_reducible assumption | with_reducible apply Wf.sI | with_reducible apply Wf.sL | with_reducible apply Wf.cpI | with_reducible apply Wf.cpL | with_reducible apply Wf.cp2 | with_reducible apply Wf.sIs | with_reducible apply Wf.sLs | with_reducible apply Wf.cpU | with_reducible apply Wf.fillI | with_reducible apply Wf.clU | with_reducible apply Wf.dnF | with_reducible apply Wf.gbW))) (by decide) hc_X11 (by decide) (by decide) (Nat.le_of_ble_eq_true rfl)) ?_
  refine ⟨_, _, (a_ireturn dX11_meal_118 rfl rfl), ?_⟩
  exact ⟨_, rfl, rfl, MqQ.ord hw hO⟩

theorem m_meal_5 (hw : Wf μ) (hv : MdV μ q d) (hq0 : GdP q) (hd0 : GdD q d) (hx : MxV (gI μ 344) q d) {m : Nat} (hm : m < pM q) : CV Y_X11_meal R_X11_meal [.ref 338, .int (nI m), .int (nI 5)] μ (fun v V => v = some (.int (mlV q d m 5)) ∧ MqQ μ 0 V) := by
  have hM4 := hv.M4
  have hT4 := hv.T4
  have hP4 := hv.P4
  have hC4 := hv.C4
  have hw1 : Wf (sI μ 338 0 0) := hw.sI
  have hv1 : MdV (sI μ 338 0 0) q d := hv.th 0
  refine CV.ent yk_X11_meal (Nat.le_of_ble_eq_true rfl) ?_
  refine lf (a_aload_n dX11_meal_0 rfl) ?_
  refine lf (a_aload_n dX11_meal_1 rfl) ?_
  refine lf (a_iload_n dX11_meal_2 rfl) ?_
  refine lf (a_inv (b2 := (0, 0)) (Ct.int (isO_lt hm (by omega)) (m_isMeal (by repeat (first | with_reducible exact hw | with_reducible exact hwc | with_reducible assumption | with_reducible apply Wf.sI | with_reducible apply Wf.sL | with_reducible apply Wf.cpI | with_reducible apply Wf.cpL | with_reducible apply Wf.cp2 | with_reducible apply Wf.sIs | with_reducible apply Wf.sLs | with_reducible apply Wf.cpU | with_reducible apply Wf.fillI | with_reducible apply Wf.clU | with_reducible apply Wf.dnF | with_reducible apply Wf.gbW)) hv (nI m))) rfl dX11_meal_3 yk_X11_isMeal im_X11_isMeal se_X11_isMeal ml_X11_379 rfl (co_338 (by repeat (first | with_reducible exact hw | with_reducible exact hwc | with_reducible assumption | with_reducible apply Wf.sI | with_reducible apply Wf.sL | with_reducible apply Wf.cpI | with_reducible apply Wf.cpL | with_reducible apply Wf.cp2 | with_reducible apply Wf.sIs | with_reducible apply Wf.sLs | with_reducible apply Wf.cpU | with_reducible apply Wf.fillI | with_reducible apply Wf.clU | with_reducible apply Wf.dnF | with_reducible apply Wf.gbW))) (by decide) hc_X11 (by decide) (by decide) (Nat.le_of_ble_eq_true rfl)) ?_
  refine lfn (a_if_ne (tgt := 13) dX11_meal_6 (by decide)) (fun h6 => ?_) (fun h6 => absurd h6 (by decide))
  refine lf (a_iload_n dX11_meal_13 rfl) ?_
  refine lf (a_iconst (0 : Int32) dX11_meal_14 (by decide)) ?_
  refine lf (a_bipush (9 : Int32) dX11_meal_15 (by decide)) ?_
  refine lf (a_invS (b2 := (0, 0)) (Ct.int (y := 1) (by decide) (m_in (nI 5) 0 9)) rfl dX11_meal_17 yk_X11_in sm_X11_in ml_X11_102 rfl (by decide) (by decide) (Nat.le_of_ble_eq_true rfl)) ?_
  refine lf2 (a_if_eq (tgt := 27) dX11_meal_20 (by decide)) (fun h20 => absurd h20 (by decide)) (fun h20 => ?_)
  refine lf (a_iconst (0 : Int32) dX11_meal_23 (by decide)) ?_
  refine lf (a_goto (tgt := 28) dX11_meal_24 (by decide)) ?_
  refine lf (a_inv (b2 := (0, 0)) (m_isRefused0 (by repeat (first | with_reducible exact hw | with_reducible exact hwc | with_reducible assumption | with_reducible apply Wf.sI | with_reducible apply Wf.sL | with_reducible apply Wf.cpI | with_reducible apply Wf.cpL | with_reducible apply Wf.cp2 | with_reducible apply Wf.sIs | with_reducible apply Wf.sLs | with_reducible apply Wf.cpU | with_reducible apply Wf.fillI | with_reducible apply Wf.clU | with_reducible apply Wf.dnF | with_reducible apply Wf.gbW))) rfl dX11_meal_28 yk_X11_isRefused im_X11_isRefused se_X11_isRefused ml_X11_98 rfl (co_338 (by repeat (first | with_reducible exact hw | with_reducible exact hwc | with_reducible assumption | with_reducible apply Wf.sI | with_reducible apply Wf.sL | with_reducible apply Wf.cpI | with_reducible apply Wf.cpL | with_reducible apply Wf.cp2 | with_reducible apply Wf.sIs | with_reducible apply Wf.sLs | with_reducible apply Wf.cpU | with_reducible apply Wf.fillI | with_reducible apply Wf.clU | with_reducible apply Wf.dnF | with_reducible apply Wf.gbW))) (by decide) hc_X11 (by decide) (by decide) (Nat.le_of_ble_eq_true rfl)) ?_
  refine lf2 (a_if_eq (tgt := 36) dX11_meal_31 (by decide)) (fun h31 => ?_) (fun h31 => absurd h31 (fun z => z rfl))
  refine lf (a_aload_n dX11_meal_36 rfl) ?_
  obtain ⟨v_, W37, k37, rfl, hO, hu⟩ := (m_laysOrder hw1 hv1 hq0 hd0)
  have hwc := hO.1
  have hv2 := hv1.om hO
  refine lf (a_inv (b2 := (0, 0)) k37 rfl dX11_meal_37 yk_X11_laysOrder im_X11_laysOrder se_X11_laysOrder ml_X11_354 rfl (co_338 (by repeat (first | with_reducible exact hw | with_reducible exact hwc | with_reducible assumption | with_reducible apply Wf.sI | with_reducible apply Wf.sL | with_reducible apply Wf.cpI | with_reducible apply Wf.cpL | with_reducible apply Wf.cp2 | with_reducible apply Wf.sIs | with_reducible apply Wf.sLs | with_reducible apply Wf.cpU | with_reducible apply Wf.fillI | with_reducible apply Wf.clU | with_reducible apply Wf.dnF | with_reducible apply Wf.gbW))) (by decide) hc_X11 (by decide) (by decide) (Nat.le_of_ble_eq_true rfl)) ?_
  refine lf (a_iload_n dX11_meal_40 rfl) ?_
  refine lf (a_tsIn (tgt := 76) dX11_meal_41 (by decide) (by decide) rfl (by decide)) ?_
  refine lf (a_aload_n dX11_meal_76 rfl) ?_
  refine lf (a_iload_n dX11_meal_77 rfl) ?_
  refine lf (a_inv (b2 := (0, 0)) (m_loadedOf (by repeat (first | with_reducible exact hw | with_reducible exact hwc | with_reducible assumption | with_reducible apply Wf.sI | with_reducible apply Wf.sL | with_reducible apply Wf.cpI | with_reducible apply Wf.cpL | with_reducible apply Wf.cp2 | with_reducible apply Wf.sIs | with_reducible apply Wf.sLs | with_reducible apply Wf.cpU | with_reducible apply Wf.fillI | with_reducible apply Wf.clU | with_reducible apply Wf.dnF | with_reducible apply Wf.gbW)) hv2 (show m < 12 by omega)) rfl dX11_meal_78 yk_X11_loadedOf im_X11_loadedOf se_X11_loadedOf ml_X11_336 rfl (co_338 (by repeat (first | with_reducible exact hw | with_reducible exact hwc | with_reducible assumption | with_reducible apply Wf.sI | with_reducible apply Wf.sL | with_reducible apply Wf.cpI | with_reducible apply Wf.cpL | with_reducible apply Wf.cp2 | with_reducible apply Wf.sIs | with_reducible apply Wf.sLs | with_reducible apply Wf.cpU | with_reducible apply Wf.fillI | with_reducible apply Wf.clU | with_reducible apply Wf.dnF | with_reducible apply Wf.gbW))) (by decide) hc_X11 (by decide) (by decide) (Nat.le_of_ble_eq_true rfl)) ?_
  refine ⟨_, _, (a_ireturn dX11_meal_81 rfl rfl), ?_⟩
  exact ⟨_, rfl, rfl, MqQ.ord hw hO⟩

theorem m_meal_6 (hw : Wf μ) (hv : MdV μ q d) (hq0 : GdP q) (hd0 : GdD q d) (hx : MxV (gI μ 344) q d) {m : Nat} (hm : m < pM q) : CV Y_X11_meal R_X11_meal [.ref 338, .int (nI m), .int (nI 6)] μ (fun v V => v = some (.int (mlV q d m 6)) ∧ MqQ μ 0 V) := by
  have hM4 := hv.M4
  have hT4 := hv.T4
  have hP4 := hv.P4
  have hC4 := hv.C4
  have hw1 : Wf (sI μ 338 0 0) := hw.sI
  have hv1 : MdV (sI μ 338 0 0) q d := hv.th 0
  refine CV.ent yk_X11_meal (Nat.le_of_ble_eq_true rfl) ?_
  refine lf (a_aload_n dX11_meal_0 rfl) ?_
  refine lf (a_aload_n dX11_meal_1 rfl) ?_
  refine lf (a_iload_n dX11_meal_2 rfl) ?_
  refine lf (a_inv (b2 := (0, 0)) (Ct.int (isO_lt hm (by omega)) (m_isMeal (by repeat (first | with_reducible exact hw | with_reducible exact hwc | with_reducible assumption | with_reducible apply Wf.sI | with_reducible apply Wf.sL | with_reducible apply Wf.cpI | with_reducible apply Wf.cpL | with_reducible apply Wf.cp2 | with_reducible apply Wf.sIs | with_reducible apply Wf.sLs | with_reducible apply Wf.cpU | with_reducible apply Wf.fillI | with_reducible apply Wf.clU | with_reducible apply Wf.dnF | with_reducible apply Wf.gbW)) hv (nI m))) rfl dX11_meal_3 yk_X11_isMeal im_X11_isMeal se_X11_isMeal ml_X11_379 rfl (co_338 (by repeat (first | with_reducible exact hw | with_reducible exact hwc | with_reducible assumption | with_reducible apply Wf.sI | with_reducible apply Wf.sL | with_reducible apply Wf.cpI | with_reducible apply Wf.cpL | with_reducible apply Wf.cp2 | with_reducible apply Wf.sIs | with_reducible apply Wf.sLs | with_reducible apply Wf.cpU | with_reducible apply Wf.fillI | with_reducible apply Wf.clU | with_reducible apply Wf.dnF | with_reducible apply Wf.gbW))) (by decide) hc_X11 (by decide) (by decide) (Nat.le_of_ble_eq_true rfl)) ?_
  refine lfn (a_if_ne (tgt := 13) dX11_meal_6 (by decide)) (fun h6 => ?_) (fun h6 => absurd h6 (by decide))
  refine lf (a_iload_n dX11_meal_13 rfl) ?_
  refine lf (a_iconst (0 : Int32) dX11_meal_14 (by decide)) ?_
  refine lf (a_bipush (9 : Int32) dX11_meal_15 (by decide)) ?_
  refine lf (a_invS (b2 := (0, 0)) (Ct.int (y := 1) (by decide) (m_in (nI 6) 0 9)) rfl dX11_meal_17 yk_X11_in sm_X11_in ml_X11_102 rfl (by decide) (by decide) (Nat.le_of_ble_eq_true rfl)) ?_
  refine lf2 (a_if_eq (tgt := 27) dX11_meal_20 (by decide)) (fun h20 => absurd h20 (by decide)) (fun h20 => ?_)
  refine lf (a_iconst (0 : Int32) dX11_meal_23 (by decide)) ?_
  refine lf (a_goto (tgt := 28) dX11_meal_24 (by decide)) ?_
  refine lf (a_inv (b2 := (0, 0)) (m_isRefused0 (by repeat (first | with_reducible exact hw | with_reducible exact hwc | with_reducible assumption | with_reducible apply Wf.sI | with_reducible apply Wf.sL | with_reducible apply Wf.cpI | with_reducible apply Wf.cpL | with_reducible apply Wf.cp2 | with_reducible apply Wf.sIs | with_reducible apply Wf.sLs | with_reducible apply Wf.cpU | with_reducible apply Wf.fillI | with_reducible apply Wf.clU | with_reducible apply Wf.dnF | with_reducible apply Wf.gbW))) rfl dX11_meal_28 yk_X11_isRefused im_X11_isRefused se_X11_isRefused ml_X11_98 rfl (co_338 (by repeat (first | with_reducible exact hw | with_reducible exact hwc | with_reducible assumption | with_reducible apply Wf.sI | with_reducible apply Wf.sL | with_reducible apply Wf.cpI | with_reducible apply Wf.cpL | with_reducible apply Wf.cp2 | with_reducible apply Wf.sIs | with_reducible apply Wf.sLs | with_reducible apply Wf.cpU | with_reducible apply Wf.fillI | with_reducible apply Wf.clU | with_reducible apply Wf.dnF | with_reducible apply Wf.gbW))) (by decide) hc_X11 (by decide) (by decide) (Nat.le_of_ble_eq_true rfl)) ?_
  refine lf2 (a_if_eq (tgt := 36) dX11_meal_31 (by decide)) (fun h31 => ?_) (fun h31 => absurd h31 (fun z => z rfl))
  refine lf (a_aload_n dX11_meal_36 rfl) ?_
  obtain ⟨v_, W37, k37, rfl, hO, hu⟩ := (m_laysOrder hw1 hv1 hq0 hd0)
  have hwc := hO.1
  have hv2 := hv1.om hO
  refine lf (a_inv (b2 := (0, 0)) k37 rfl dX11_meal_37 yk_X11_laysOrder im_X11_laysOrder se_X11_laysOrder ml_X11_354 rfl (co_338 (by repeat (first | with_reducible exact hw | with_reducible exact hwc | with_reducible assumption | with_reducible apply Wf.sI | with_reducible apply Wf.sL | with_reducible apply Wf.cpI | with_reducible apply Wf.cpL | with_reducible apply Wf.cp2 | with_reducible apply Wf.sIs | with_reducible apply Wf.sLs | with_reducible apply Wf.cpU | with_reducible apply Wf.fillI | with_reducible apply Wf.clU | with_reducible apply Wf.dnF | with_reducible apply Wf.gbW))) (by decide) hc_X11 (by decide) (by decide) (Nat.le_of_ble_eq_true rfl)) ?_
  refine lf (a_iload_n dX11_meal_40 rfl) ?_
  refine lf (a_tsIn (tgt := 82) dX11_meal_41 (by decide) (by decide) rfl (by decide)) ?_
  refine lf (a_aload_n dX11_meal_82 rfl) ?_
  refine lf (a_getR (cr_338_28 (by repeat (first | with_reducible exact hw | with_reducible exact hwc | with_reducible assumption | with_reducible apply Wf.sI | with_reducible apply Wf.sL | with_reducible apply Wf.cpI | with_reducible apply Wf.cpL | with_reducible apply Wf.cp2 | with_reducible apply Wf.sIs | with_reducible apply Wf.sLs | with_reducible apply Wf.cpU | with_reducible apply Wf.fillI | with_reducible apply Wf.clU | with_reducible apply Wf.dnF | with_reducible apply Wf.gbW))) dX11_meal_83 fs_X11_58 rfl (co_338 (by repeat (first | with_reducible exact hw | with_reducible exact hwc | with_reducible assumption | with_reducible apply Wf.sI | with_reducible apply Wf.sL | with_reducible apply Wf.cpI | with_reducible apply Wf.cpL | with_reducible apply Wf.cp2 | with_reducible apply Wf.sIs | with_reducible apply Wf.sLs | with_reducible apply Wf.cpU | with_reducible apply Wf.fillI | with_reducible apply Wf.clU | with_reducible apply Wf.dnF | with_reducible apply Wf.gbW)))) ?_
  refine lf (a_iload_n dX11_meal_86 rfl) ?_
  refine lf (a_ild dX11_meal_87 (ca_353 (by repeat (first | with_reducible exact hw | with_reducible exact hwc | with_reducible assumption | with_reducible apply Wf.sI | with_reducible apply Wf.sL | with_reducible apply Wf.cpI | with_reducible apply Wf.cpL | with_reducible apply Wf.cp2 | with_reducible apply Wf.sIs | with_reducible apply Wf.sLs | with_reducible apply Wf.cpU | with_reducible apply Wf.fillI | with_reducible apply Wf.clU | with_reducible apply Wf.dnF | with_reducible apply Wf.gbW))) (ixn (show m < 12 by omega) (by decide))) ?_
  rw [hu m (by omega)]
  refine ⟨_, _, (a_ireturn dX11_meal_88 rfl rfl), ?_⟩
  exact ⟨_, rfl, rfl, MqQ.ord hw hO⟩

theorem m_meal_7 (hw : Wf μ) (hv : MdV μ q d) (hq0 : GdP q) (hd0 : GdD q d) (hx : MxV (gI μ 344) q d) {m : Nat} (hm : m < pM q) : CV Y_X11_meal R_X11_meal [.ref 338, .int (nI m), .int (nI 7)] μ (fun v V => v = some (.int (mlV q d m 7)) ∧ MqQ μ 0 V) := by
  have hM4 := hv.M4
  have hT4 := hv.T4
  have hP4 := hv.P4
  have hC4 := hv.C4
  have hw1 : Wf (sI μ 338 0 0) := hw.sI
  have hv1 : MdV (sI μ 338 0 0) q d := hv.th 0
  refine CV.ent yk_X11_meal (Nat.le_of_ble_eq_true rfl) ?_
  refine lf (a_aload_n dX11_meal_0 rfl) ?_
  refine lf (a_aload_n dX11_meal_1 rfl) ?_
  refine lf (a_iload_n dX11_meal_2 rfl) ?_
  refine lf (a_inv (b2 := (0, 0)) (Ct.int (isO_lt hm (by omega)) (m_isMeal (by repeat (first | with_reducible exact hw | with_reducible exact hwc | with_reducible assumption | with_reducible apply Wf.sI | with_reducible apply Wf.sL | with_reducible apply Wf.cpI | with_reducible apply Wf.cpL | with_reducible apply Wf.cp2 | with_reducible apply Wf.sIs | with_reducible apply Wf.sLs | with_reducible apply Wf.cpU | with_reducible apply Wf.fillI | with_reducible apply Wf.clU | with_reducible apply Wf.dnF | with_reducible apply Wf.gbW)) hv (nI m))) rfl dX11_meal_3 yk_X11_isMeal im_X11_isMeal se_X11_isMeal ml_X11_379 rfl (co_338 (by repeat (first | with_reducible exact hw | with_reducible exact hwc | with_reducible assumption | with_reducible apply Wf.sI | with_reducible apply Wf.sL | with_reducible apply Wf.cpI | with_reducible apply Wf.cpL | with_reducible apply Wf.cp2 | with_reducible apply Wf.sIs | with_reducible apply Wf.sLs | with_reducible apply Wf.cpU | with_reducible apply Wf.fillI | with_reducible apply Wf.clU | with_reducible apply Wf.dnF | with_reducible apply Wf.gbW))) (by decide) hc_X11 (by decide) (by decide) (Nat.le_of_ble_eq_true rfl)) ?_
  refine lfn (a_if_ne (tgt := 13) dX11_meal_6 (by decide)) (fun h6 => ?_) (fun h6 => absurd h6 (by decide))
  refine lf (a_iload_n dX11_meal_13 rfl) ?_
  refine lf (a_iconst (0 : Int32) dX11_meal_14 (by decide)) ?_
  refine lf (a_bipush (9 : Int32) dX11_meal_15 (by decide)) ?_
  refine lf (a_invS (b2 := (0, 0)) (Ct.int (y := 1) (by decide) (m_in (nI 7) 0 9)) rfl dX11_meal_17 yk_X11_in sm_X11_in ml_X11_102 rfl (by decide) (by decide) (Nat.le_of_ble_eq_true rfl)) ?_
  refine lf2 (a_if_eq (tgt := 27) dX11_meal_20 (by decide)) (fun h20 => absurd h20 (by decide)) (fun h20 => ?_)
  refine lf (a_iconst (0 : Int32) dX11_meal_23 (by decide)) ?_
  refine lf (a_goto (tgt := 28) dX11_meal_24 (by decide)) ?_
  refine lf (a_inv (b2 := (0, 0)) (m_isRefused0 (by repeat (first | with_reducible exact hw | with_reducible exact hwc | with_reducible assumption | with_reducible apply Wf.sI | with_reducible apply Wf.sL | with_reducible apply Wf.cpI | with_reducible apply Wf.cpL | with_reducible apply Wf.cp2 | with_reducible apply Wf.sIs | with_reducible apply Wf.sLs | with_reducible apply Wf.cpU | with_reducible apply Wf.fillI | with_reducible apply Wf.clU | with_reducible apply Wf.dnF | with_reducible apply Wf.gbW))) rfl dX11_meal_28 yk_X11_isRefused im_X11_isRefused se_X11_isRefused ml_X11_98 rfl (co_338 (by repeat (first | with_reducible exact hw | with_reducible exact hwc | with_reducible assumption | with_reducible apply Wf.sI | with_reducible apply Wf.sL | with_reducible apply Wf.cpI | with_reducible apply Wf.cpL | with_reducible apply Wf.cp2 | with_reducible apply Wf.sIs | with_reducible apply Wf.sLs | with_reducible apply Wf.cpU | with_reducible apply Wf.fillI | with_reducible apply Wf.clU | with_reducible apply Wf.dnF | with_reducible apply Wf.gbW))) (by decide) hc_X11 (by decide) (by decide) (Nat.le_of_ble_eq_true rfl)) ?_
  refine lf2 (a_if_eq (tgt := 36) dX11_meal_31 (by decide)) (fun h31 => ?_) (fun h31 => absurd h31 (fun z => z rfl))
  refine lf (a_aload_n dX11_meal_36 rfl) ?_
  obtain ⟨v_, W37, k37, rfl, hO, hu⟩ := (m_laysOrder hw1 hv1 hq0 hd0)
  have hwc := hO.1
  have hv2 := hv1.om hO
  refine lf (a_inv (b2 := (0, 0)) k37 rfl dX11_meal_37 yk_X11_laysOrder im_X11_laysOrder se_X11_laysOrder ml_X11_354 rfl (co_338 (by repeat (first | with_reducible exact hw | with_reducible exact hwc | with_reducible assumption | with_reducible apply Wf.sI | with_reducible apply Wf.sL | with_reducible apply Wf.cpI | with_reducible apply Wf.cpL | with_reducible apply Wf.cp2 | with_reducible apply Wf.sIs | with_reducible apply Wf.sLs | with_reducible apply Wf.cpU | with_reducible apply Wf.fillI | with_reducible apply Wf.clU | with_reducible apply Wf.dnF | with_reducible apply Wf.gbW))) (by decide) hc_X11 (by decide) (by decide) (Nat.le_of_ble_eq_true rfl)) ?_
  refine lf (a_iload_n dX11_meal_40 rfl) ?_
  refine lf (a_tsIn (tgt := 89) dX11_meal_41 (by decide) (by decide) rfl (by decide)) ?_
  refine lf (a_aload_n dX11_meal_89 rfl) ?_
  refine lf (a_iload_n dX11_meal_90 rfl) ?_
  refine lf (a_inv (b2 := (0, 0)) (m_comingOf (by repeat (first | with_reducible exact hw | with_reducible exact hwc | with_reducible assumption | with_reducible apply Wf.sI | with_reducible apply Wf.sL | with_reducible apply Wf.cpI | with_reducible apply Wf.cpL | with_reducible apply Wf.cp2 | with_reducible apply Wf.sIs | with_reducible apply Wf.sLs | with_reducible apply Wf.cpU | with_reducible apply Wf.fillI | with_reducible apply Wf.clU | with_reducible apply Wf.dnF | with_reducible apply Wf.gbW)) hv2 (nI m)) rfl dX11_meal_91 yk_X11_comingOf im_X11_comingOf se_X11_comingOf ml_X11_339 rfl (co_338 (by repeat (first | with_reducible exact hw | with_reducible exact hwc | with_reducible assumption | with_reducible apply Wf.sI | with_reducible apply Wf.sL | with_reducible apply Wf.cpI | with_reducible apply Wf.cpL | with_reducible apply Wf.cp2 | with_reducible apply Wf.sIs | with_reducible apply Wf.sLs | with_reducible apply Wf.cpU | with_reducible apply Wf.fillI | with_reducible apply Wf.clU | with_reducible apply Wf.dnF | with_reducible apply Wf.gbW))) (by decide) hc_X11 (by decide) (by decide) (Nat.le_of_ble_eq_true rfl)) ?_
  refine ⟨_, _, (a_ireturn dX11_meal_94 rfl rfl), ?_⟩
  exact ⟨_, rfl, rfl, MqQ.ord hw hO⟩

theorem m_meal_8 (hw : Wf μ) (hv : MdV μ q d) (hq0 : GdP q) (hd0 : GdD q d) (hx : MxV (gI μ 344) q d) {m : Nat} (hm : m < pM q) : CV Y_X11_meal R_X11_meal [.ref 338, .int (nI m), .int (nI 8)] μ (fun v V => v = some (.int (mlV q d m 8)) ∧ MqQ μ 0 V) := by
  have hM4 := hv.M4
  have hT4 := hv.T4
  have hP4 := hv.P4
  have hC4 := hv.C4
  have hw1 : Wf (sI μ 338 0 0) := hw.sI
  have hv1 : MdV (sI μ 338 0 0) q d := hv.th 0
  refine CV.ent yk_X11_meal (Nat.le_of_ble_eq_true rfl) ?_
  refine lf (a_aload_n dX11_meal_0 rfl) ?_
  refine lf (a_aload_n dX11_meal_1 rfl) ?_
  refine lf (a_iload_n dX11_meal_2 rfl) ?_
  refine lf (a_inv (b2 := (0, 0)) (Ct.int (isO_lt hm (by omega)) (m_isMeal (by repeat (first | with_reducible exact hw | with_reducible exact hwc | with_reducible assumption | with_reducible apply Wf.sI | with_reducible apply Wf.sL | with_reducible apply Wf.cpI | with_reducible apply Wf.cpL | with_reducible apply Wf.cp2 | with_reducible apply Wf.sIs | with_reducible apply Wf.sLs | with_reducible apply Wf.cpU | with_reducible apply Wf.fillI | with_reducible apply Wf.clU | with_reducible apply Wf.dnF | with_reducible apply Wf.gbW)) hv (nI m))) rfl dX11_meal_3 yk_X11_isMeal im_X11_isMeal se_X11_isMeal ml_X11_379 rfl (co_338 (by repeat (first | with_reducible exact hw | with_reducible exact hwc | with_reducible assumption | with_reducible apply Wf.sI | with_reducible apply Wf.sL | with_reducible apply Wf.cpI | with_reducible apply Wf.cpL | with_reducible apply Wf.cp2 | with_reducible apply Wf.sIs | with_reducible apply Wf.sLs | with_reducible apply Wf.cpU | with_reducible apply Wf.fillI | with_reducible apply Wf.clU | with_reducible apply Wf.dnF | with_reducible apply Wf.gbW))) (by decide) hc_X11 (by decide) (by decide) (Nat.le_of_ble_eq_true rfl)) ?_
  refine lfn (a_if_ne (tgt := 13) dX11_meal_6 (by decide)) (fun h6 => ?_) (fun h6 => absurd h6 (by decide))
  refine lf (a_iload_n dX11_meal_13 rfl) ?_
  refine lf (a_iconst (0 : Int32) dX11_meal_14 (by decide)) ?_
  refine lf (a_bipush (9 : Int32) dX11_meal_15 (by decide)) ?_
  refine lf (a_invS (b2 := (0, 0)) (Ct.int (y := 1) (by decide) (m_in (nI 8) 0 9)) rfl dX11_meal_17 yk_X11_in sm_X11_in ml_X11_102 rfl (by decide) (by decide) (Nat.le_of_ble_eq_true rfl)) ?_
  refine lf2 (a_if_eq (tgt := 27) dX11_meal_20 (by decide)) (fun h20 => absurd h20 (by decide)) (fun h20 => ?_)
  refine lf (a_iconst (0 : Int32) dX11_meal_23 (by decide)) ?_
  refine lf (a_goto (tgt := 28) dX11_meal_24 (by decide)) ?_
  refine lf (a_inv (b2 := (0, 0)) (m_isRefused0 (by repeat (first | with_reducible exact hw | with_reducible exact hwc | with_reducible assumption | with_reducible apply Wf.sI | with_reducible apply Wf.sL | with_reducible apply Wf.cpI | with_reducible apply Wf.cpL | with_reducible apply Wf.cp2 | with_reducible apply Wf.sIs | with_reducible apply Wf.sLs | with_reducible apply Wf.cpU | with_reducible apply Wf.fillI | with_reducible apply Wf.clU | with_reducible apply Wf.dnF | with_reducible apply Wf.gbW))) rfl dX11_meal_28 yk_X11_isRefused im_X11_isRefused se_X11_isRefused ml_X11_98 rfl (co_338 (by repeat (first | with_reducible exact hw | with_reducible exact hwc | with_reducible assumption | with_reducible apply Wf.sI | with_reducible apply Wf.sL | with_reducible apply Wf.cpI | with_reducible apply Wf.cpL | with_reducible apply Wf.cp2 | with_reducible apply Wf.sIs | with_reducible apply Wf.sLs | with_reducible apply Wf.cpU | with_reducible apply Wf.fillI | with_reducible apply Wf.clU | with_reducible apply Wf.dnF | with_reducible apply Wf.gbW))) (by decide) hc_X11 (by decide) (by decide) (Nat.le_of_ble_eq_true rfl)) ?_
  refine lf2 (a_if_eq (tgt := 36) dX11_meal_31 (by decide)) (fun h31 => ?_) (fun h31 => absurd h31 (fun z => z rfl))
  refine lf (a_aload_n dX11_meal_36 rfl) ?_
  obtain ⟨v_, W37, k37, rfl, hO, hu⟩ := (m_laysOrder hw1 hv1 hq0 hd0)
  have hwc := hO.1
  have hv2 := hv1.om hO
  have he : gI W37 344 (279 + m) = mlV q d m 8 := by
    rw [hO.i (fun z => z.elim (by decide) (by decide)), gI_sI, if_neg (by omega), hx.2 m hm]
    show _ = if phD q d = 3 then nI (cntG (svR q d).1 (dP d) m) else 0
    by_cases h : dF d 6 0 = 0
    · rw [if_pos h, if_neg (fun z => ((ph3 q d).mp z).2 h)]
    · rw [if_neg h, if_pos ((ph3 q d).mpr ⟨fun z => by have := (hv.z z).2.1; omega, h⟩)]
  refine lf (a_inv (b2 := (0, 0)) k37 rfl dX11_meal_37 yk_X11_laysOrder im_X11_laysOrder se_X11_laysOrder ml_X11_354 rfl (co_338 (by repeat (first | with_reducible exact hw | with_reducible exact hwc | with_reducible assumption | with_reducible apply Wf.sI | with_reducible apply Wf.sL | with_reducible apply Wf.cpI | with_reducible apply Wf.cpL | with_reducible apply Wf.cp2 | with_reducible apply Wf.sIs | with_reducible apply Wf.sLs | with_reducible apply Wf.cpU | with_reducible apply Wf.fillI | with_reducible apply Wf.clU | with_reducible apply Wf.dnF | with_reducible apply Wf.gbW))) (by decide) hc_X11 (by decide) (by decide) (Nat.le_of_ble_eq_true rfl)) ?_
  refine lf (a_iload_n dX11_meal_40 rfl) ?_
  refine lf (a_tsIn (tgt := 95) dX11_meal_41 (by decide) (by decide) rfl (by decide)) ?_
  refine lf (a_aload_n dX11_meal_95 rfl) ?_
  refine lf (a_getR (cr_338_6 (by repeat (first | with_reducible exact hw | with_reducible exact hwc | with_reducible assumption | with_reducible apply Wf.sI | with_reducible apply Wf.sL | with_reducible apply Wf.cpI | with_reducible apply Wf.cpL | with_reducible apply Wf.cp2 | with_reducible apply Wf.sIs | with_reducible apply Wf.sLs | with_reducible apply Wf.cpU | with_reducible apply Wf.fillI | with_reducible apply Wf.clU | with_reducible apply Wf.dnF | with_reducible apply Wf.gbW))) dX11_meal_96 fs_X11_26 rfl (co_338 (by repeat (first | with_reducible exact hw | with_reducible exact hwc | with_reducible assumption | with_reducible apply Wf.sI | with_reducible apply Wf.sL | with_reducible apply Wf.cpI | with_reducible apply Wf.cpL | with_reducible apply Wf.cp2 | with_reducible apply Wf.sIs | with_reducible apply Wf.sLs | with_reducible apply Wf.cpU | with_reducible apply Wf.fillI | with_reducible apply Wf.clU | with_reducible apply Wf.dnF | with_reducible apply Wf.gbW)))) ?_
  refine lf (a_sipush (279 : Int32) dX11_meal_99 (by decide)) ?_
  refine lf (a_iload_n dX11_meal_102 rfl) ?_
  refine lf (a_iadd dX11_meal_103) ?_
  rw [show (279 : Int32) + nI m = nI (279 + m) from nI_add 279 m]
  refine lf (a_ild dX11_meal_104 (ca_344 (by repeat (first | with_reducible exact hw | with_reducible exact hwc | with_reducible assumption | with_reducible apply Wf.sI | with_reducible apply Wf.sL | with_reducible apply Wf.cpI | with_reducible apply Wf.cpL | with_reducible apply Wf.cp2 | with_reducible apply Wf.sIs | with_reducible apply Wf.sLs | with_reducible apply Wf.cpU | with_reducible apply Wf.fillI | with_reducible apply Wf.clU | with_reducible apply Wf.dnF | with_reducible apply Wf.gbW))) (ixn (show 279 + m < 291 by omega) (by omega))) ?_
  rw [he]
  refine ⟨_, _, (a_ireturn dX11_meal_105 rfl rfl), ?_⟩
  exact ⟨_, rfl, rfl, MqQ.ord hw hO⟩

theorem m_meal_9 (hw : Wf μ) (hv : MdV μ q d) (hq0 : GdP q) (hd0 : GdD q d) (hx : MxV (gI μ 344) q d) {m : Nat} (hm : m < pM q) : CV Y_X11_meal R_X11_meal [.ref 338, .int (nI m), .int (nI 9)] μ (fun v V => v = some (.int (mlV q d m 9)) ∧ MqQ μ 0 V) := by
  have hM4 := hv.M4
  have hT4 := hv.T4
  have hP4 := hv.P4
  have hC4 := hv.C4
  have hw1 : Wf (sI μ 338 0 0) := hw.sI
  have hv1 : MdV (sI μ 338 0 0) q d := hv.th 0
  refine CV.ent yk_X11_meal (Nat.le_of_ble_eq_true rfl) ?_
  refine lf (a_aload_n dX11_meal_0 rfl) ?_
  refine lf (a_aload_n dX11_meal_1 rfl) ?_
  refine lf (a_iload_n dX11_meal_2 rfl) ?_
  refine lf (a_inv (b2 := (0, 0)) (Ct.int (isO_lt hm (by omega)) (m_isMeal (by repeat (first | with_reducible exact hw | with_reducible exact hwc | with_reducible assumption | with_reducible apply Wf.sI | with_reducible apply Wf.sL | with_reducible apply Wf.cpI | with_reducible apply Wf.cpL | with_reducible apply Wf.cp2 | with_reducible apply Wf.sIs | with_reducible apply Wf.sLs | with_reducible apply Wf.cpU | with_reducible apply Wf.fillI | with_reducible apply Wf.clU | with_reducible apply Wf.dnF | with_reducible apply Wf.gbW)) hv (nI m))) rfl dX11_meal_3 yk_X11_isMeal im_X11_isMeal se_X11_isMeal ml_X11_379 rfl (co_338 (by repeat (first | with_reducible exact hw | with_reducible exact hwc | with_reducible assumption | with_reducible apply Wf.sI | with_reducible apply Wf.sL | with_reducible apply Wf.cpI | with_reducible apply Wf.cpL | with_reducible apply Wf.cp2 | with_reducible apply Wf.sIs | with_reducible apply Wf.sLs | with_reducible apply Wf.cpU | with_reducible apply Wf.fillI | with_reducible apply Wf.clU | with_reducible apply Wf.dnF | with_reducible apply Wf.gbW))) (by decide) hc_X11 (by decide) (by decide) (Nat.le_of_ble_eq_true rfl)) ?_
  refine lfn (a_if_ne (tgt := 13) dX11_meal_6 (by decide)) (fun h6 => ?_) (fun h6 => absurd h6 (by decide))
  refine lf (a_iload_n dX11_meal_13 rfl) ?_
  refine lf (a_iconst (0 : Int32) dX11_meal_14 (by decide)) ?_
  refine lf (a_bipush (9 : Int32) dX11_meal_15 (by decide)) ?_
  refine lf (a_invS (b2 := (0, 0)) (Ct.int (y := 1) (by decide) (m_in (nI 9) 0 9)) rfl dX11_meal_17 yk_X11_in sm_X11_in ml_X11_102 rfl (by decide) (by decide) (Nat.le_of_ble_eq_true rfl)) ?_
  refine lf2 (a_if_eq (tgt := 27) dX11_meal_20 (by decide)) (fun h20 => absurd h20 (by decide)) (fun h20 => ?_)
  refine lf (a_iconst (0 : Int32) dX11_meal_23 (by decide)) ?_
  refine lf (a_goto (tgt := 28) dX11_meal_24 (by decide)) ?_
  refine lf (a_inv (b2 := (0, 0)) (m_isRefused0 (by repeat (first | with_reducible exact hw | with_reducible exact hwc | with_reducible assumption | with_reducible apply Wf.sI | with_reducible apply Wf.sL | with_reducible apply Wf.cpI | with_reducible apply Wf.cpL | with_reducible apply Wf.cp2 | with_reducible apply Wf.sIs | with_reducible apply Wf.sLs | with_reducible apply Wf.cpU | with_reducible apply Wf.fillI | with_reducible apply Wf.clU | with_reducible apply Wf.dnF | with_reducible apply Wf.gbW))) rfl dX11_meal_28 yk_X11_isRefused im_X11_isRefused se_X11_isRefused ml_X11_98 rfl (co_338 (by repeat (first | with_reducible exact hw | with_reducible exact hwc | with_reducible assumption | with_reducible apply Wf.sI | with_reducible apply Wf.sL | with_reducible apply Wf.cpI | with_reducible apply Wf.cpL | with_reducible apply Wf.cp2 | with_reducible apply Wf.sIs | with_reducible apply Wf.sLs | with_reducible apply Wf.cpU | with_reducible apply Wf.fillI | with_reducible apply Wf.clU | with_reducible apply Wf.dnF | with_reducible apply Wf.gbW))) (by decide) hc_X11 (by decide) (by decide) (Nat.le_of_ble_eq_true rfl)) ?_
  refine lf2 (a_if_eq (tgt := 36) dX11_meal_31 (by decide)) (fun h31 => ?_) (fun h31 => absurd h31 (fun z => z rfl))
  refine lf (a_aload_n dX11_meal_36 rfl) ?_
  obtain ⟨v_, W37, k37, rfl, hO, hu⟩ := (m_laysOrder hw1 hv1 hq0 hd0)
  have hwc := hO.1
  have hv2 := hv1.om hO
  refine lf (a_inv (b2 := (0, 0)) k37 rfl dX11_meal_37 yk_X11_laysOrder im_X11_laysOrder se_X11_laysOrder ml_X11_354 rfl (co_338 (by repeat (first | with_reducible exact hw | with_reducible exact hwc | with_reducible assumption | with_reducible apply Wf.sI | with_reducible apply Wf.sL | with_reducible apply Wf.cpI | with_reducible apply Wf.cpL | with_reducible apply Wf.cp2 | with_reducible apply Wf.sIs | with_reducible apply Wf.sLs | with_reducible apply Wf.cpU | with_reducible apply Wf.fillI | with_reducible apply Wf.clU | with_reducible apply Wf.dnF | with_reducible apply Wf.gbW))) (by decide) hc_X11 (by decide) (by decide) (Nat.le_of_ble_eq_true rfl)) ?_
  refine lf (a_iload_n dX11_meal_40 rfl) ?_
  refine lf (a_tsIn (tgt := 106) dX11_meal_41 (by decide) (by decide) rfl (by decide)) ?_
  refine lf (a_aload_n dX11_meal_106 rfl) ?_
  refine lf (a_iload_n dX11_meal_107 rfl) ?_
  refine lf (a_inv (b2 := (0, 0)) (m_missingOf (by repeat (first | with_reducible exact hw | with_reducible exact hwc | with_reducible assumption | with_reducible apply Wf.sI | with_reducible apply Wf.sL | with_reducible apply Wf.cpI | with_reducible apply Wf.cpL | with_reducible apply Wf.cp2 | with_reducible apply Wf.sIs | with_reducible apply Wf.sLs | with_reducible apply Wf.cpU | with_reducible apply Wf.fillI | with_reducible apply Wf.clU | with_reducible apply Wf.dnF | with_reducible apply Wf.gbW)) hv2 (show m < 12 by omega) (hu m (by omega))) rfl dX11_meal_108 yk_X11_missingOf im_X11_missingOf se_X11_missingOf ml_X11_382 rfl (co_338 (by repeat (first | with_reducible exact hw | with_reducible exact hwc | with_reducible assumption | with_reducible apply Wf.sI | with_reducible apply Wf.sL | with_reducible apply Wf.cpI | with_reducible apply Wf.cpL | with_reducible apply Wf.cp2 | with_reducible apply Wf.sIs | with_reducible apply Wf.sLs | with_reducible apply Wf.cpU | with_reducible apply Wf.fillI | with_reducible apply Wf.clU | with_reducible apply Wf.dnF | with_reducible apply Wf.gbW))) (by decide) hc_X11 (by decide) (by decide) (Nat.le_of_ble_eq_true rfl)) ?_
  refine ⟨_, _, (a_ireturn dX11_meal_111 rfl rfl), ?_⟩
  exact ⟨_, rfl, rfl, MqQ.ord hw hO⟩
theorem m_meal (hw : Wf μ) (hv : MdV μ q d) (hq0 : GdP q) (hd0 : GdD q d) (hx : MxV (gI μ 344) q d) {m : Nat} (hm : m < pM q) {k : Nat} (hk : k < 10) : CV Y_X11_meal R_X11_meal [.ref 338, .int (nI m), .int (nI k)] μ (fun v V => v = some (.int (mlV q d m k)) ∧ MqQ μ 0 V) := by
  rcases (by omega : k = 0 ∨ k = 1 ∨ k = 2 ∨ k = 3 ∨ k = 4 ∨ k = 5 ∨ k = 6 ∨ k = 7 ∨ k = 8 ∨ k = 9) with rfl | rfl | rfl | rfl | rfl | rfl | rfl | rfl | rfl | rfl
  · exact m_meal_0 hw hv hq0 hd0 hx hm
  · exact m_meal_1 hw hv hq0 hd0 hx hm
  · exact m_meal_2 hw hv hq0 hd0 hx hm
  · exact m_meal_3 hw hv hq0 hd0 hx hm
  · exact m_meal_4 hw hv hq0 hd0 hx hm
  · exact m_meal_5 hw hv hq0 hd0 hx hm
  · exact m_meal_6 hw hv hq0 hd0 hx hm
  · exact m_meal_7 hw hv hq0 hd0 hx hm
  · exact m_meal_8 hw hv hq0 hd0 hx hm
  · exact m_meal_9 hw hv hq0 hd0 hx hm

theorem mx_meal (hw : Wf μ) (hv : MdV μ q d) {x y : Int32} (h : ixO x (pM q) = none) : Ct Y_X11_meal R_X11_meal [.ref 338, .int x, .int y] μ (.inl (some (.int (0)))) (sI μ 338 0 1) := by
  refine Ct.ent yk_X11_meal (Nat.le_of_ble_eq_true rfl) ?_
  refine a_aload_n dX11_meal_0 rfl ?_
  refine a_aload_n dX11_meal_1 rfl ?_
  refine a_iload_n dX11_meal_2 rfl ?_
  refine a_inv (b2 := (0, 0)) (Ct.int (isO_none h) (m_isMeal (by repeat (first | with_reducible exact hw | with_reducible exact hwc | with_reducible assumption | with_reducible apply Wf.sI | with_reducible apply Wf.sL | with_reducible apply Wf.cpI | with_reducible apply Wf.cpL | with_reducible apply Wf.cp2 | with_reducible apply Wf.sIs | with_reducible apply Wf.sLs | with_reducible apply Wf.cpU | with_reducible apply Wf.fillI | with_reducible apply Wf.clU | with_reducible apply Wf.dnF | with_reducible apply Wf.gbW)) hv x)) rfl dX11_meal_3 yk_X11_isMeal im_X11_isMeal se_X11_isMeal ml_X11_379 rfl (co_338 (by repeat (first | with_reducible exact hw | with_reducible exact hwc | with_reducible assumption | with_reducible apply Wf.sI | with_reducible apply Wf.sL | with_reducible apply Wf.cpI | with_reducible apply Wf.cpL | with_reducible apply Wf.cp2 | with_reducible apply Wf.sIs | with_reducible apply Wf.sLs | with_reducible apply Wf.cpU | with_reducible apply Wf.fillI | with_reducible apply Wf.clU | with_reducible apply Wf.dnF | with_reducible apply Wf.gbW))) (by decide) hc_X11 (by decide) (by decide) (Nat.le_of_ble_eq_true rfl) ?_
  refine a_if_ne (tgt := 13) dX11_meal_6 (by decide) (fun h6 => absurd h6 (fun z => z rfl)) (fun h6 => ?_)
  refine a_iconst (1 : Int32) dX11_meal_9 (by decide) ?_
  refine a_goto (tgt := 28) dX11_meal_10 (by decide) ?_
  refine a_inv (b2 := (0, 0)) (m_isRefused1 (by repeat (first | with_reducible exact hw | with_reducible exact hwc | with_reducible assumption | with_reducible apply Wf.sI | with_reducible apply Wf.sL | with_reducible apply Wf.cpI | with_reducible apply Wf.cpL | with_reducible apply Wf.cp2 | with_reducible apply Wf.sIs | with_reducible apply Wf.sLs | with_reducible apply Wf.cpU | with_reducible apply Wf.fillI | with_reducible apply Wf.clU | with_reducible apply Wf.dnF | with_reducible apply Wf.gbW)) (v := 1) (by decide)) rfl dX11_meal_28 yk_X11_isRefused im_X11_isRefused se_X11_isRefused ml_X11_98 rfl (co_338 (by repeat (first | with_reducible exact hw | with_reducible exact hwc | with_reducible assumption | with_reducible apply Wf.sI | with_reducible apply Wf.sL | with_reducible apply Wf.cpI | with_reducible apply Wf.cpL | with_reducible apply Wf.cp2 | with_reducible apply Wf.sIs | with_reducible apply Wf.sLs | with_reducible apply Wf.cpU | with_reducible apply Wf.fillI | with_reducible apply Wf.clU | with_reducible apply Wf.dnF | with_reducible apply Wf.gbW))) (by decide) hc_X11 (by decide) (by decide) (Nat.le_of_ble_eq_true rfl) ?_
  refine a_if_eq (tgt := 36) dX11_meal_31 (by decide) (fun h31 => absurd h31 (by decide)) (fun h31 => ?_)
  refine a_iconst (0 : Int32) dX11_meal_34 (by decide) ?_
  exact a_out rfl rfl (a_ireturn dX11_meal_35 rfl rfl)

theorem my_meal (hw : Wf μ) (hv : MdV μ q d) {m : Nat} (hm : m < pM q) {y : Int32} (h : ixO y 10 = none) : Ct Y_X11_meal R_X11_meal [.ref 338, .int (nI m), .int y] μ (.inl (some (.int (0)))) (sI μ 338 0 2) := by
  refine Ct.ent yk_X11_meal (Nat.le_of_ble_eq_true rfl) ?_
  have h4 := hv.M4
  have h2 : inI y 0 9 = 0 := (inI_ix (x := y) (n := 10) (by decide)).trans (isO_none h)
  refine a_aload_n dX11_meal_0 rfl ?_
  refine a_aload_n dX11_meal_1 rfl ?_
  refine a_iload_n dX11_meal_2 rfl ?_
  refine a_inv (b2 := (0, 0)) (Ct.int (isO_lt hm (by omega)) (m_isMeal (by repeat (first | with_reducible exact hw | with_reducible exact hwc | with_reducible assumption | with_reducible apply Wf.sI | with_reducible apply Wf.sL | with_reducible apply Wf.cpI | with_reducible apply Wf.cpL | with_reducible apply Wf.cp2 | with_reducible apply Wf.sIs | with_reducible apply Wf.sLs | with_reducible apply Wf.cpU | with_reducible apply Wf.fillI | with_reducible apply Wf.clU | with_reducible apply Wf.dnF | with_reducible apply Wf.gbW)) hv (nI m))) rfl dX11_meal_3 yk_X11_isMeal im_X11_isMeal se_X11_isMeal ml_X11_379 rfl (co_338 (by repeat (first | with_reducible exact hw | with_reducible exact hwc | with_reducible assumption | with_reducible apply Wf.sI | with_reducible apply Wf.sL | with_reducible apply Wf.cpI | with_reducible apply Wf.cpL | with_reducible apply Wf.cp2 | with_reducible apply Wf.sIs | with_reducible apply Wf.sLs | with_reducible apply Wf.cpU | with_reducible apply Wf.fillI | with_reducible apply Wf.clU | with_reducible apply Wf.dnF | with_reducible apply Wf.gbW))) (by decide) hc_X11 (by decide) (by decide) (Nat.le_of_ble_eq_true rfl) ?_
  refine a_if_ne (tgt := 13) dX11_meal_6 (by decide) (fun h6 => ?_) (fun h6 => absurd h6 (by decide))
  refine a_iload_n dX11_meal_13 rfl ?_
  refine a_iconst (0 : Int32) dX11_meal_14 (by decide) ?_
  refine a_bipush (9 : Int32) dX11_meal_15 (by decide) ?_
  refine a_invS (b2 := (0, 0)) (Ct.int h2 (m_in y 0 9)) rfl dX11_meal_17 yk_X11_in sm_X11_in ml_X11_102 rfl (by decide) (by decide) (Nat.le_of_ble_eq_true rfl) ?_
  refine a_if_eq (tgt := 27) dX11_meal_20 (by decide) (fun h20 => ?_) (fun h20 => absurd h20 (fun z => z rfl))
  refine a_iconst (2 : Int32) dX11_meal_27 (by decide) ?_
  refine a_inv (b2 := (0, 0)) (m_isRefused1 (by repeat (first | with_reducible exact hw | with_reducible exact hwc | with_reducible assumption | with_reducible apply Wf.sI | with_reducible apply Wf.sL | with_reducible apply Wf.cpI | with_reducible apply Wf.cpL | with_reducible apply Wf.cp2 | with_reducible apply Wf.sIs | with_reducible apply Wf.sLs | with_reducible apply Wf.cpU | with_reducible apply Wf.fillI | with_reducible apply Wf.clU | with_reducible apply Wf.dnF | with_reducible apply Wf.gbW)) (v := 2) (by decide)) rfl dX11_meal_28 yk_X11_isRefused im_X11_isRefused se_X11_isRefused ml_X11_98 rfl (co_338 (by repeat (first | with_reducible exact hw | with_reducible exact hwc | with_reducible assumption | with_reducible apply Wf.sI | with_reducible apply Wf.sL | with_reducible apply Wf.cpI | with_reducible apply Wf.cpL | with_reducible apply Wf.cp2 | with_reducible apply Wf.sIs | with_reducible apply Wf.sLs | with_reducible apply Wf.cpU | with_reducible apply Wf.fillI | with_reducible apply Wf.clU | with_reducible apply Wf.dnF | with_reducible apply Wf.gbW))) (by decide) hc_X11 (by decide) (by decide) (Nat.le_of_ble_eq_true rfl) ?_
  refine a_if_eq (tgt := 36) dX11_meal_31 (by decide) (fun h31 => absurd h31 (by decide)) (fun h31 => ?_)
  refine a_iconst (0 : Int32) dX11_meal_34 (by decide) ?_
  exact a_out rfl rfl (a_ireturn dX11_meal_35 rfl rfl)
abbrev R_X11_count : Room := { frames := 7, cells := 0, slots := 0, locals := 158 }
abbrev RX_X11_count : Room := { frames := 7, cells := 1, slots := 6, locals := 158 }

theorem m_count_0 (hw : Wf μ) (hv : MdV μ q d) (hq0 : GdP q) (hd0 : GdD q d) (h0 : ¬ pF q 9 0 = 0) (hn : Nat) : CV Y_X11_count R_X11_count [.ref 338, .int (nI 0)] μ (fun v V => v = some (.int (cnV q d hn 0)) ∧ MqQ μ 0 V) := by
  have hM4 := hv.M4
  have hT4 := hv.T4
  have hP4 := hv.P4
  have hC4 := hv.C4
  have hw1 : Wf (sI μ 338 0 0) := hw.sI
  have hv1 : MdV (sI μ 338 0 0) q d := hv.th 0
  refine CV.ent yk_X11_count (Nat.le_of_ble_eq_true rfl) ?_
  refine lf (a_aload_n dX11_count_0 rfl) ?_
  refine lf (a_iload_n dX11_count_1 rfl) ?_
  refine lf (a_iconst (0 : Int32) dX11_count_2 (by decide)) ?_
  refine lf (a_bipush (11 : Int32) dX11_count_3 (by decide)) ?_
  refine lf (a_invS (b2 := (0, 0)) (Ct.int (y := 1) (by decide) (m_in (nI 0) 0 11)) rfl dX11_count_5 yk_X11_in sm_X11_in ml_X11_102 rfl (by decide) (by decide) (Nat.le_of_ble_eq_true rfl)) ?_
  refine lf2 (a_if_eq (tgt := 15) dX11_count_8 (by decide)) (fun h8 => absurd h8 (by decide)) (fun h8 => ?_)
  refine lf (a_iconst (0 : Int32) dX11_count_11 (by decide)) ?_
  refine lf (a_goto (tgt := 16) dX11_count_12 (by decide)) ?_
  refine lf (a_inv (b2 := (0, 0)) (m_isRefused0 (by repeat (first | with_reducible exact hw | with_reducible exact hwc | with_reducible assumption | with_reducible apply Wf.sI | with_reducible apply Wf.sL | with_reducible apply Wf.cpI | with_reducible apply Wf.cpL | with_reducible apply Wf.cp2 | with_reducible apply Wf.sIs | with_reducible apply Wf.sLs | with_reducible apply Wf.cpU | with_reducible apply Wf.fillI | with_reducible apply Wf.clU | with_reducible apply Wf.dnF | with_reducible apply Wf.gbW))) rfl dX11_count_16 yk_X11_isRefused im_X11_isRefused se_X11_isRefused ml_X11_98 rfl (co_338 (by repeat (first | with_reducible exact hw | with_reducible exact hwc | with_reducible assumption | with_reducible apply Wf.sI | with_reducible apply Wf.sL | with_reducible apply Wf.cpI | with_reducible apply Wf.cpL | with_reducible apply Wf.cp2 | with_reducible apply Wf.sIs | with_reducible apply Wf.sLs | with_reducible apply Wf.cpU | with_reducible apply Wf.fillI | with_reducible apply Wf.clU | with_reducible apply Wf.dnF | with_reducible apply Wf.gbW))) (by decide) hc_X11 (by decide) (by decide) (Nat.le_of_ble_eq_true rfl)) ?_
  refine lf2 (a_if_eq (tgt := 24) dX11_count_19 (by decide)) (fun h19 => ?_) (fun h19 => absurd h19 (fun z => z rfl))
  refine lf (a_iload_n dX11_count_24 rfl) ?_
  refine lf (a_bipush (9 : Int32) dX11_count_25 (by decide)) ?_
  refine lfn (a_icmp_ne (tgt := 35) dX11_count_27 (by decide)) (fun h27 => ?_) (fun h27 => absurd h27 (by decide))
  refine lf (a_aload_n dX11_count_35 rfl) ?_
  refine lf (a_getR (cr_338_6 (by repeat (first | with_reducible exact hw | with_reducible exact hwc | with_reducible assumption | with_reducible apply Wf.sI | with_reducible apply Wf.sL | with_reducible apply Wf.cpI | with_reducible apply Wf.cpL | with_reducible apply Wf.cp2 | with_reducible apply Wf.sIs | with_reducible apply Wf.sLs | with_reducible apply Wf.cpU | with_reducible apply Wf.fillI | with_reducible apply Wf.clU | with_reducible apply Wf.dnF | with_reducible apply Wf.gbW))) dX11_count_36 fs_X11_26 rfl (co_338 (by repeat (first | with_reducible exact hw | with_reducible exact hwc | with_reducible assumption | with_reducible apply Wf.sI | with_reducible apply Wf.sL | with_reducible apply Wf.cpI | with_reducible apply Wf.cpL | with_reducible apply Wf.cp2 | with_reducible apply Wf.sIs | with_reducible apply Wf.sLs | with_reducible apply Wf.cpU | with_reducible apply Wf.fillI | with_reducible apply Wf.clU | with_reducible apply Wf.dnF | with_reducible apply Wf.gbW)))) ?_
  refine lf (a_iconst (0 : Int32) dX11_count_39 (by decide)) ?_
  refine lf (a_ild dX11_count_40 (ca_344 (by repeat (first | with_reducible exact hw | with_reducible exact hwc | with_reducible assumption | with_reducible apply Wf.sI | with_reducible apply Wf.sL | with_reducible apply Wf.cpI | with_reducible apply Wf.cpL | with_reducible apply Wf.cp2 | with_reducible apply Wf.sIs | with_reducible apply Wf.sLs | with_reducible apply Wf.cpU | with_reducible apply Wf.fillI | with_reducible apply Wf.clU | with_reducible apply Wf.dnF | with_reducible apply Wf.gbW))) (ixn (m := 0) (by omega) (by decide))) ?_
  rw [hv1.s0]
  refine lfn (a_if_ne (tgt := 46) dX11_count_41 (by decide)) (fun h41 => ?_) (fun h41 => absurd h41 h0)
  refine lf (a_iload_n dX11_count_46 rfl) ?_
  refine lf (a_tsIn (tgt := 96) dX11_count_47 (by decide) (by decide) rfl (by decide)) ?_
  refine lf (a_aload_n dX11_count_96 rfl) ?_
  refine lf (a_inv (b2 := (0, 0)) (m_phase (by repeat (first | with_reducible exact hw | with_reducible exact hwc | with_reducible assumption | with_reducible apply Wf.sI | with_reducible apply Wf.sL | with_reducible apply Wf.cpI | with_reducible apply Wf.cpL | with_reducible apply Wf.cp2 | with_reducible apply Wf.sIs | with_reducible apply Wf.sLs | with_reducible apply Wf.cpU | with_reducible apply Wf.fillI | with_reducible apply Wf.clU | with_reducible apply Wf.dnF | with_reducible apply Wf.gbW)) (hv.th 0)) rfl dX11_count_97 yk_X11_phase im_X11_phase se_X11_phase ml_X11_106 rfl (co_338 (by repeat (first | with_reducible exact hw | with_reducible exact hwc | with_reducible assumption | with_reducible apply Wf.sI | with_reducible apply Wf.sL | with_reducible apply Wf.cpI | with_reducible apply Wf.cpL | with_reducible apply Wf.cp2 | with_reducible apply Wf.sIs | with_reducible apply Wf.sLs | with_reducible apply Wf.cpU | with_reducible apply Wf.fillI | with_reducible apply Wf.clU | with_reducible apply Wf.dnF | with_reducible apply Wf.gbW))) (by decide) hc_X11 (by decide) (by decide) (Nat.le_of_ble_eq_true rfl)) ?_
  refine ⟨_, _, (a_ireturn dX11_count_100 rfl rfl), ?_⟩
  exact ⟨_, rfl, rfl, MqQ.of hw 0⟩

theorem m_count_1 (hw : Wf μ) (hv : MdV μ q d) (hq0 : GdP q) (hd0 : GdD q d) (h0 : ¬ pF q 9 0 = 0) (hn : Nat) : CV Y_X11_count R_X11_count [.ref 338, .int (nI 1)] μ (fun v V => v = some (.int (cnV q d hn 1)) ∧ MqQ μ 0 V) := by
  have hM4 := hv.M4
  have hT4 := hv.T4
  have hP4 := hv.P4
  have hC4 := hv.C4
  have hw1 : Wf (sI μ 338 0 0) := hw.sI
  have hv1 : MdV (sI μ 338 0 0) q d := hv.th 0
  refine CV.ent yk_X11_count (Nat.le_of_ble_eq_true rfl) ?_
  refine lf (a_aload_n dX11_count_0 rfl) ?_
  refine lf (a_iload_n dX11_count_1 rfl) ?_
  refine lf (a_iconst (0 : Int32) dX11_count_2 (by decide)) ?_
  refine lf (a_bipush (11 : Int32) dX11_count_3 (by decide)) ?_
  refine lf (a_invS (b2 := (0, 0)) (Ct.int (y := 1) (by decide) (m_in (nI 1) 0 11)) rfl dX11_count_5 yk_X11_in sm_X11_in ml_X11_102 rfl (by decide) (by decide) (Nat.le_of_ble_eq_true rfl)) ?_
  refine lf2 (a_if_eq (tgt := 15) dX11_count_8 (by decide)) (fun h8 => absurd h8 (by decide)) (fun h8 => ?_)
  refine lf (a_iconst (0 : Int32) dX11_count_11 (by decide)) ?_
  refine lf (a_goto (tgt := 16) dX11_count_12 (by decide)) ?_
  refine lf (a_inv (b2 := (0, 0)) (m_isRefused0 (by repeat (first | with_reducible exact hw | with_reducible exact hwc | with_reducible assumption | with_reducible apply Wf.sI | with_reducible apply Wf.sL | with_reducible apply Wf.cpI | with_reducible apply Wf.cpL | with_reducible apply Wf.cp2 | with_reducible apply Wf.sIs | with_reducible apply Wf.sLs | with_reducible apply Wf.cpU | with_reducible apply Wf.fillI | with_reducible apply Wf.clU | with_reducible apply Wf.dnF | with_reducible apply Wf.gbW))) rfl dX11_count_16 yk_X11_isRefused im_X11_isRefused se_X11_isRefused ml_X11_98 rfl (co_338 (by repeat (first | with_reducible exact hw | with_reducible exact hwc | with_reducible assumption | with_reducible apply Wf.sI | with_reducible apply Wf.sL | with_reducible apply Wf.cpI | with_reducible apply Wf.cpL | with_reducible apply Wf.cp2 | with_reducible apply Wf.sIs | with_reducible apply Wf.sLs | with_reducible apply Wf.cpU | with_reducible apply Wf.fillI | with_reducible apply Wf.clU | with_reducible apply Wf.dnF | with_reducible apply Wf.gbW))) (by decide) hc_X11 (by decide) (by decide) (Nat.le_of_ble_eq_true rfl)) ?_
  refine lf2 (a_if_eq (tgt := 24) dX11_count_19 (by decide)) (fun h19 => ?_) (fun h19 => absurd h19 (fun z => z rfl))
  refine lf (a_iload_n dX11_count_24 rfl) ?_
  refine lf (a_bipush (9 : Int32) dX11_count_25 (by decide)) ?_
  refine lfn (a_icmp_ne (tgt := 35) dX11_count_27 (by decide)) (fun h27 => ?_) (fun h27 => absurd h27 (by decide))
  refine lf (a_aload_n dX11_count_35 rfl) ?_
  refine lf (a_getR (cr_338_6 (by repeat (first | with_reducible exact hw | with_reducible exact hwc | with_reducible assumption | with_reducible apply Wf.sI | with_reducible apply Wf.sL | with_reducible apply Wf.cpI | with_reducible apply Wf.cpL | with_reducible apply Wf.cp2 | with_reducible apply Wf.sIs | with_reducible apply Wf.sLs | with_reducible apply Wf.cpU | with_reducible apply Wf.fillI | with_reducible apply Wf.clU | with_reducible apply Wf.dnF | with_reducible apply Wf.gbW))) dX11_count_36 fs_X11_26 rfl (co_338 (by repeat (first | with_reducible exact hw | with_reducible exact hwc | with_reducible assumption | with_reducible apply Wf.sI | with_reducible apply Wf.sL | with_reducible apply Wf.cpI | with_reducible apply Wf.cpL | with_reducible apply Wf.cp2 | with_reducible apply Wf.sIs | with_reducible apply Wf.sLs | with_reducible apply Wf.cpU | with_reducible apply Wf.fillI | with_reducible apply Wf.clU | with_reducible apply Wf.dnF | with_reducible apply Wf.gbW)))) ?_
  refine lf (a_iconst (0 : Int32) dX11_count_39 (by decide)) ?_
  refine lf (a_ild dX11_count_40 (ca_344 (by repeat (first | with_reducible exact hw | with_reducible exact hwc | with_reducible assumption | with_reducible apply Wf.sI | with_reducible apply Wf.sL | with_reducible apply Wf.cpI | with_reducible apply Wf.cpL | with_reducible apply Wf.cp2 | with_reducible apply Wf.sIs | with_reducible apply Wf.sLs | with_reducible apply Wf.cpU | with_reducible apply Wf.fillI | with_reducible apply Wf.clU | with_reducible apply Wf.dnF | with_reducible apply Wf.gbW))) (ixn (m := 0) (by omega) (by decide))) ?_
  rw [hv1.s0]
  refine lfn (a_if_ne (tgt := 46) dX11_count_41 (by decide)) (fun h41 => ?_) (fun h41 => absurd h41 h0)
  refine lf (a_iload_n dX11_count_46 rfl) ?_
  refine lf (a_tsIn (tgt := 101) dX11_count_47 (by decide) (by decide) rfl (by decide)) ?_
  refine lf (a_aload_n dX11_count_101 rfl) ?_
  refine lf (a_getR (cr_338_1 (by repeat (first | with_reducible exact hw | with_reducible exact hwc | with_reducible assumption | with_reducible apply Wf.sI | with_reducible apply Wf.sL | with_reducible apply Wf.cpI | with_reducible apply Wf.cpL | with_reducible apply Wf.cp2 | with_reducible apply Wf.sIs | with_reducible apply Wf.sLs | with_reducible apply Wf.cpU | with_reducible apply Wf.fillI | with_reducible apply Wf.clU | with_reducible apply Wf.dnF | with_reducible apply Wf.gbW))) dX11_count_102 fs_X11_7 rfl (co_338 (by repeat (first | with_reducible exact hw | with_reducible exact hwc | with_reducible assumption | with_reducible apply Wf.sI | with_reducible apply Wf.sL | with_reducible apply Wf.cpI | with_reducible apply Wf.cpL | with_reducible apply Wf.cp2 | with_reducible apply Wf.sIs | with_reducible apply Wf.sLs | with_reducible apply Wf.cpU | with_reducible apply Wf.fillI | with_reducible apply Wf.clU | with_reducible apply Wf.dnF | with_reducible apply Wf.gbW)))) ?_
  refine lf (a_iconst (0 : Int32) dX11_count_105 (by decide)) ?_
  refine lf (a_ild dX11_count_106 (ca_339 (by repeat (first | with_reducible exact hw | with_reducible exact hwc | with_reducible assumption | with_reducible apply Wf.sI | with_reducible apply Wf.sL | with_reducible apply Wf.cpI | with_reducible apply Wf.cpL | with_reducible apply Wf.cp2 | with_reducible apply Wf.sIs | with_reducible apply Wf.sLs | with_reducible apply Wf.cpU | with_reducible apply Wf.fillI | with_reducible apply Wf.clU | with_reducible apply Wf.dnF | with_reducible apply Wf.gbW))) (ixn (m := 0) (by omega) (by decide))) ?_
  rw [hv1.p0]
  refine ⟨_, _, (a_ireturn dX11_count_107 rfl rfl), ?_⟩
  exact ⟨_, rfl, rfl, MqQ.of hw 0⟩

theorem m_count_2 (hw : Wf μ) (hv : MdV μ q d) (hq0 : GdP q) (hd0 : GdD q d) (h0 : ¬ pF q 9 0 = 0) (hn : Nat) : CV Y_X11_count R_X11_count [.ref 338, .int (nI 2)] μ (fun v V => v = some (.int (cnV q d hn 2)) ∧ MqQ μ 0 V) := by
  have hM4 := hv.M4
  have hT4 := hv.T4
  have hP4 := hv.P4
  have hC4 := hv.C4
  have hw1 : Wf (sI μ 338 0 0) := hw.sI
  have hv1 : MdV (sI μ 338 0 0) q d := hv.th 0
  refine CV.ent yk_X11_count (Nat.le_of_ble_eq_true rfl) ?_
  refine lf (a_aload_n dX11_count_0 rfl) ?_
  refine lf (a_iload_n dX11_count_1 rfl) ?_
  refine lf (a_iconst (0 : Int32) dX11_count_2 (by decide)) ?_
  refine lf (a_bipush (11 : Int32) dX11_count_3 (by decide)) ?_
  refine lf (a_invS (b2 := (0, 0)) (Ct.int (y := 1) (by decide) (m_in (nI 2) 0 11)) rfl dX11_count_5 yk_X11_in sm_X11_in ml_X11_102 rfl (by decide) (by decide) (Nat.le_of_ble_eq_true rfl)) ?_
  refine lf2 (a_if_eq (tgt := 15) dX11_count_8 (by decide)) (fun h8 => absurd h8 (by decide)) (fun h8 => ?_)
  refine lf (a_iconst (0 : Int32) dX11_count_11 (by decide)) ?_
  refine lf (a_goto (tgt := 16) dX11_count_12 (by decide)) ?_
  refine lf (a_inv (b2 := (0, 0)) (m_isRefused0 (by repeat (first | with_reducible exact hw | with_reducible exact hwc | with_reducible assumption | with_reducible apply Wf.sI | with_reducible apply Wf.sL | with_reducible apply Wf.cpI | with_reducible apply Wf.cpL | with_reducible apply Wf.cp2 | with_reducible apply Wf.sIs | with_reducible apply Wf.sLs | with_reducible apply Wf.cpU | with_reducible apply Wf.fillI | with_reducible apply Wf.clU | with_reducible apply Wf.dnF | with_reducible apply Wf.gbW))) rfl dX11_count_16 yk_X11_isRefused im_X11_isRefused se_X11_isRefused ml_X11_98 rfl (co_338 (by repeat (first | with_reducible exact hw | with_reducible exact hwc | with_reducible assumption | with_reducible apply Wf.sI | with_reducible apply Wf.sL | with_reducible apply Wf.cpI | with_reducible apply Wf.cpL | with_reducible apply Wf.cp2 | with_reducible apply Wf.sIs | with_reducible apply Wf.sLs | with_reducible apply Wf.cpU | with_reducible apply Wf.fillI | with_reducible apply Wf.clU | with_reducible apply Wf.dnF | with_reducible apply Wf.gbW))) (by decide) hc_X11 (by decide) (by decide) (Nat.le_of_ble_eq_true rfl)) ?_
  refine lf2 (a_if_eq (tgt := 24) dX11_count_19 (by decide)) (fun h19 => ?_) (fun h19 => absurd h19 (fun z => z rfl))
  refine lf (a_iload_n dX11_count_24 rfl) ?_
  refine lf (a_bipush (9 : Int32) dX11_count_25 (by decide)) ?_
  refine lfn (a_icmp_ne (tgt := 35) dX11_count_27 (by decide)) (fun h27 => ?_) (fun h27 => absurd h27 (by decide))
  refine lf (a_aload_n dX11_count_35 rfl) ?_
  refine lf (a_getR (cr_338_6 (by repeat (first | with_reducible exact hw | with_reducible exact hwc | with_reducible assumption | with_reducible apply Wf.sI | with_reducible apply Wf.sL | with_reducible apply Wf.cpI | with_reducible apply Wf.cpL | with_reducible apply Wf.cp2 | with_reducible apply Wf.sIs | with_reducible apply Wf.sLs | with_reducible apply Wf.cpU | with_reducible apply Wf.fillI | with_reducible apply Wf.clU | with_reducible apply Wf.dnF | with_reducible apply Wf.gbW))) dX11_count_36 fs_X11_26 rfl (co_338 (by repeat (first | with_reducible exact hw | with_reducible exact hwc | with_reducible assumption | with_reducible apply Wf.sI | with_reducible apply Wf.sL | with_reducible apply Wf.cpI | with_reducible apply Wf.cpL | with_reducible apply Wf.cp2 | with_reducible apply Wf.sIs | with_reducible apply Wf.sLs | with_reducible apply Wf.cpU | with_reducible apply Wf.fillI | with_reducible apply Wf.clU | with_reducible apply Wf.dnF | with_reducible apply Wf.gbW)))) ?_
  refine lf (a_iconst (0 : Int32) dX11_count_39 (by decide)) ?_
  refine lf (a_ild dX11_count_40 (ca_344 (by repeat (first | with_reducible exact hw | with_reducible exact hwc | with_reducible assumption | with_reducible apply Wf.sI | with_reducible apply Wf.sL | with_reducible apply Wf.cpI | with_reducible apply Wf.cpL | with_reducible apply Wf.cp2 | with_reducible apply Wf.sIs | with_reducible apply Wf.sLs | with_reducible apply Wf.cpU | with_reducible apply Wf.fillI | with_reducible apply Wf.clU | with_reducible apply Wf.dnF | with_reducible apply Wf.gbW))) (ixn (m := 0) (by omega) (by decide))) ?_
  rw [hv1.s0]
  refine lfn (a_if_ne (tgt := 46) dX11_count_41 (by decide)) (fun h41 => ?_) (fun h41 => absurd h41 h0)
  refine lf (a_iload_n dX11_count_46 rfl) ?_
  refine lf (a_tsIn (tgt := 108) dX11_count_47 (by decide) (by decide) rfl (by decide)) ?_
  refine lf (a_aload_n dX11_count_108 rfl) ?_
  refine lf (a_getR (cr_338_1 (by repeat (first | with_reducible exact hw | with_reducible exact hwc | with_reducible assumption | with_reducible apply Wf.sI | with_reducible apply Wf.sL | with_reducible apply Wf.cpI | with_reducible apply Wf.cpL | with_reducible apply Wf.cp2 | with_reducible apply Wf.sIs | with_reducible apply Wf.sLs | with_reducible apply Wf.cpU | with_reducible apply Wf.fillI | with_reducible apply Wf.clU | with_reducible apply Wf.dnF | with_reducible apply Wf.gbW))) dX11_count_109 fs_X11_7 rfl (co_338 (by repeat (first | with_reducible exact hw | with_reducible exact hwc | with_reducible assumption | with_reducible apply Wf.sI | with_reducible apply Wf.sL | with_reducible apply Wf.cpI | with_reducible apply Wf.cpL | with_reducible apply Wf.cp2 | with_reducible apply Wf.sIs | with_reducible apply Wf.sLs | with_reducible apply Wf.cpU | with_reducible apply Wf.fillI | with_reducible apply Wf.clU | with_reducible apply Wf.dnF | with_reducible apply Wf.gbW)))) ?_
  refine lf (a_iconst (1 : Int32) dX11_count_112 (by decide)) ?_
  refine lf (a_ild dX11_count_113 (ca_339 (by repeat (first | with_reducible exact hw | with_reducible exact hwc | with_reducible assumption | with_reducible apply Wf.sI | with_reducible apply Wf.sL | with_reducible apply Wf.cpI | with_reducible apply Wf.cpL | with_reducible apply Wf.cp2 | with_reducible apply Wf.sIs | with_reducible apply Wf.sLs | with_reducible apply Wf.cpU | with_reducible apply Wf.fillI | with_reducible apply Wf.clU | with_reducible apply Wf.dnF | with_reducible apply Wf.gbW))) (ixn (m := 1) (by omega) (by decide))) ?_
  rw [hv1.p1]
  refine ⟨_, _, (a_ireturn dX11_count_114 rfl rfl), ?_⟩
  exact ⟨_, rfl, rfl, MqQ.of hw 0⟩

theorem m_count_3 (hw : Wf μ) (hv : MdV μ q d) (hq0 : GdP q) (hd0 : GdD q d) (h0 : ¬ pF q 9 0 = 0) (hn : Nat) : CV Y_X11_count R_X11_count [.ref 338, .int (nI 3)] μ (fun v V => v = some (.int (cnV q d hn 3)) ∧ MqQ μ 0 V) := by
  have hM4 := hv.M4
  have hT4 := hv.T4
  have hP4 := hv.P4
  have hC4 := hv.C4
  have hw1 : Wf (sI μ 338 0 0) := hw.sI
  have hv1 : MdV (sI μ 338 0 0) q d := hv.th 0
  refine CV.ent yk_X11_count (Nat.le_of_ble_eq_true rfl) ?_
  refine lf (a_aload_n dX11_count_0 rfl) ?_
  refine lf (a_iload_n dX11_count_1 rfl) ?_
  refine lf (a_iconst (0 : Int32) dX11_count_2 (by decide)) ?_
  refine lf (a_bipush (11 : Int32) dX11_count_3 (by decide)) ?_
  refine lf (a_invS (b2 := (0, 0)) (Ct.int (y := 1) (by decide) (m_in (nI 3) 0 11)) rfl dX11_count_5 yk_X11_in sm_X11_in ml_X11_102 rfl (by decide) (by decide) (Nat.le_of_ble_eq_true rfl)) ?_
  refine lf2 (a_if_eq (tgt := 15) dX11_count_8 (by decide)) (fun h8 => absurd h8 (by decide)) (fun h8 => ?_)
  refine lf (a_iconst (0 : Int32) dX11_count_11 (by decide)) ?_
  refine lf (a_goto (tgt := 16) dX11_count_12 (by decide)) ?_
  refine lf (a_inv (b2 := (0, 0)) (m_isRefused0 (by repeat (first | with_reducible exact hw | with_reducible exact hwc | with_reducible assumption | with_reducible apply Wf.sI | with_reducible apply Wf.sL | with_reducible apply Wf.cpI | with_reducible apply Wf.cpL | with_reducible apply Wf.cp2 | with_reducible apply Wf.sIs | with_reducible apply Wf.sLs | with_reducible apply Wf.cpU | with_reducible apply Wf.fillI | with_reducible apply Wf.clU | with_reducible apply Wf.dnF | with_reducible apply Wf.gbW))) rfl dX11_count_16 yk_X11_isRefused im_X11_isRefused se_X11_isRefused ml_X11_98 rfl (co_338 (by repeat (first | with_reducible exact hw | with_reducible exact hwc | with_reducible assumption | with_reducible apply Wf.sI | with_reducible apply Wf.sL | with_reducible apply Wf.cpI | with_reducible apply Wf.cpL | with_reducible apply Wf.cp2 | with_reducible apply Wf.sIs | with_reducible apply Wf.sLs | with_reducible apply Wf.cpU | with_reducible apply Wf.fillI | with_reducible apply Wf.clU | with_reducible apply Wf.dnF | with_reducible apply Wf.gbW))) (by decide) hc_X11 (by decide) (by decide) (Nat.le_of_ble_eq_true rfl)) ?_
  refine lf2 (a_if_eq (tgt := 24) dX11_count_19 (by decide)) (fun h19 => ?_) (fun h19 => absurd h19 (fun z => z rfl))
  refine lf (a_iload_n dX11_count_24 rfl) ?_
  refine lf (a_bipush (9 : Int32) dX11_count_25 (by decide)) ?_
  refine lfn (a_icmp_ne (tgt := 35) dX11_count_27 (by decide)) (fun h27 => ?_) (fun h27 => absurd h27 (by decide))
  refine lf (a_aload_n dX11_count_35 rfl) ?_
  refine lf (a_getR (cr_338_6 (by repeat (first | with_reducible exact hw | with_reducible exact hwc | with_reducible assumption | with_reducible apply Wf.sI | with_reducible apply Wf.sL | with_reducible apply Wf.cpI | with_reducible apply Wf.cpL | with_reducible apply Wf.cp2 | with_reducible apply Wf.sIs | with_reducible apply Wf.sLs | with_reducible apply Wf.cpU | with_reducible apply Wf.fillI | with_reducible apply Wf.clU | with_reducible apply Wf.dnF | with_reducible apply Wf.gbW))) dX11_count_36 fs_X11_26 rfl (co_338 (by repeat (first | with_reducible exact hw | with_reducible exact hwc | with_reducible assumption | with_reducible apply Wf.sI | with_reducible apply Wf.sL | with_reducible apply Wf.cpI | with_reducible apply Wf.cpL | with_reducible apply Wf.cp2 | with_reducible apply Wf.sIs | with_reducible apply Wf.sLs | with_reducible apply Wf.cpU | with_reducible apply Wf.fillI | with_reducible apply Wf.clU | with_reducible apply Wf.dnF | with_reducible apply Wf.gbW)))) ?_
  refine lf (a_iconst (0 : Int32) dX11_count_39 (by decide)) ?_
  refine lf (a_ild dX11_count_40 (ca_344 (by repeat (first | with_reducible exact hw | with_reducible exact hwc | with_reducible assumption | with_reducible apply Wf.sI | with_reducible apply Wf.sL | with_reducible apply Wf.cpI | with_reducible apply Wf.cpL | with_reducible apply Wf.cp2 | with_reducible apply Wf.sIs | with_reducible apply Wf.sLs | with_reducible apply Wf.cpU | with_reducible apply Wf.fillI | with_reducible apply Wf.clU | with_reducible apply Wf.dnF | with_reducible apply Wf.gbW))) (ixn (m := 0) (by omega) (by decide))) ?_
  rw [hv1.s0]
  refine lfn (a_if_ne (tgt := 46) dX11_count_41 (by decide)) (fun h41 => ?_) (fun h41 => absurd h41 h0)
  refine lf (a_iload_n dX11_count_46 rfl) ?_
  refine lf (a_tsIn (tgt := 115) dX11_count_47 (by decide) (by decide) rfl (by decide)) ?_
  refine lf (a_aload_n dX11_count_115 rfl) ?_
  refine lf (a_getR (cr_338_6 (by repeat (first | with_reducible exact hw | with_reducible exact hwc | with_reducible assumption | with_reducible apply Wf.sI | with_reducible apply Wf.sL | with_reducible apply Wf.cpI | with_reducible apply Wf.cpL | with_reducible apply Wf.cp2 | with_reducible apply Wf.sIs | with_reducible apply Wf.sLs | with_reducible apply Wf.cpU | with_reducible apply Wf.fillI | with_reducible apply Wf.clU | with_reducible apply Wf.dnF | with_reducible apply Wf.gbW))) dX11_count_116 fs_X11_26 rfl (co_338 (by repeat (first | with_reducible exact hw | with_reducible exact hwc | with_reducible assumption | with_reducible apply Wf.sI | with_reducible apply Wf.sL | with_reducible apply Wf.cpI | with_reducible apply Wf.cpL | with_reducible apply Wf.cp2 | with_reducible apply Wf.sIs | with_reducible apply Wf.sLs | with_reducible apply Wf.cpU | with_reducible apply Wf.fillI | with_reducible apply Wf.clU | with_reducible apply Wf.dnF | with_reducible apply Wf.gbW)))) ?_
  refine lf (a_iconst (3 : Int32) dX11_count_119 (by decide)) ?_
  refine lf (a_ild dX11_count_120 (ca_344 (by repeat (first | with_reducible exact hw | with_reducible exact hwc | with_reducible assumption | with_reducible apply Wf.sI | with_reducible apply Wf.sL | with_reducible apply Wf.cpI | with_reducible apply Wf.cpL | with_reducible apply Wf.cp2 | with_reducible apply Wf.sIs | with_reducible apply Wf.sLs | with_reducible apply Wf.cpU | with_reducible apply Wf.fillI | with_reducible apply Wf.clU | with_reducible apply Wf.dnF | with_reducible apply Wf.gbW))) (ixn (m := 3) (by omega) (by decide))) ?_
  rw [hv1.s3]
  refine ⟨_, _, (a_ireturn dX11_count_121 rfl rfl), ?_⟩
  exact ⟨_, rfl, rfl, MqQ.of hw 0⟩

theorem m_count_4 (hw : Wf μ) (hv : MdV μ q d) (hq0 : GdP q) (hd0 : GdD q d) (h0 : ¬ pF q 9 0 = 0) (hn : Nat) : CV Y_X11_count R_X11_count [.ref 338, .int (nI 4)] μ (fun v V => v = some (.int (cnV q d hn 4)) ∧ MqQ μ 0 V) := by
  have hM4 := hv.M4
  have hT4 := hv.T4
  have hP4 := hv.P4
  have hC4 := hv.C4
  have hw1 : Wf (sI μ 338 0 0) := hw.sI
  have hv1 : MdV (sI μ 338 0 0) q d := hv.th 0
  refine CV.ent yk_X11_count (Nat.le_of_ble_eq_true rfl) ?_
  refine lf (a_aload_n dX11_count_0 rfl) ?_
  refine lf (a_iload_n dX11_count_1 rfl) ?_
  refine lf (a_iconst (0 : Int32) dX11_count_2 (by decide)) ?_
  refine lf (a_bipush (11 : Int32) dX11_count_3 (by decide)) ?_
  refine lf (a_invS (b2 := (0, 0)) (Ct.int (y := 1) (by decide) (m_in (nI 4) 0 11)) rfl dX11_count_5 yk_X11_in sm_X11_in ml_X11_102 rfl (by decide) (by decide) (Nat.le_of_ble_eq_true rfl)) ?_
  refine lf2 (a_if_eq (tgt := 15) dX11_count_8 (by decide)) (fun h8 => absurd h8 (by decide)) (fun h8 => ?_)
  refine lf (a_iconst (0 : Int32) dX11_count_11 (by decide)) ?_
  refine lf (a_goto (tgt := 16) dX11_count_12 (by decide)) ?_
  refine lf (a_inv (b2 := (0, 0)) (m_isRefused0 (by repeat (first | with_reducible exact hw | with_reducible exact hwc | with_reducible assumption | with_reducible apply Wf.sI | with_reducible apply Wf.sL | with_reducible apply Wf.cpI | with_reducible apply Wf.cpL | with_reducible apply Wf.cp2 | with_reducible apply Wf.sIs | with_reducible apply Wf.sLs | with_reducible apply Wf.cpU | with_reducible apply Wf.fillI | with_reducible apply Wf.clU | with_reducible apply Wf.dnF | with_reducible apply Wf.gbW))) rfl dX11_count_16 yk_X11_isRefused im_X11_isRefused se_X11_isRefused ml_X11_98 rfl (co_338 (by repeat (first | with_reducible exact hw | with_reducible exact hwc | with_reducible assumption | with_reducible apply Wf.sI | with_reducible apply Wf.sL | with_reducible apply Wf.cpI | with_reducible apply Wf.cpL | with_reducible apply Wf.cp2 | with_reducible apply Wf.sIs | with_reducible apply Wf.sLs | with_reducible apply Wf.cpU | with_reducible apply Wf.fillI | with_reducible apply Wf.clU | with_reducible apply Wf.dnF | with_reducible apply Wf.gbW))) (by decide) hc_X11 (by decide) (by decide) (Nat.le_of_ble_eq_true rfl)) ?_
  refine lf2 (a_if_eq (tgt := 24) dX11_count_19 (by decide)) (fun h19 => ?_) (fun h19 => absurd h19 (fun z => z rfl))
  refine lf (a_iload_n dX11_count_24 rfl) ?_
  refine lf (a_bipush (9 : Int32) dX11_count_25 (by decide)) ?_
  refine lfn (a_icmp_ne (tgt := 35) dX11_count_27 (by decide)) (fun h27 => ?_) (fun h27 => absurd h27 (by decide))
  refine lf (a_aload_n dX11_count_35 rfl) ?_
  refine lf (a_getR (cr_338_6 (by repeat (first | with_reducible exact hw | with_reducible exact hwc | with_reducible assumption | with_reducible apply Wf.sI | with_reducible apply Wf.sL | with_reducible apply Wf.cpI | with_reducible apply Wf.cpL | with_reducible apply Wf.cp2 | with_reducible apply Wf.sIs | with_reducible apply Wf.sLs | with_reducible apply Wf.cpU | with_reducible apply Wf.fillI | with_reducible apply Wf.clU | with_reducible apply Wf.dnF | with_reducible apply Wf.gbW))) dX11_count_36 fs_X11_26 rfl (co_338 (by repeat (first | with_reducible exact hw | with_reducible exact hwc | with_reducible assumption | with_reducible apply Wf.sI | with_reducible apply Wf.sL | with_reducible apply Wf.cpI | with_reducible apply Wf.cpL | with_reducible apply Wf.cp2 | with_reducible apply Wf.sIs | with_reducible apply Wf.sLs | with_reducible apply Wf.cpU | with_reducible apply Wf.fillI | with_reducible apply Wf.clU | with_reducible apply Wf.dnF | with_reducible apply Wf.gbW)))) ?_
  refine lf (a_iconst (0 : Int32) dX11_count_39 (by decide)) ?_
  refine lf (a_ild dX11_count_40 (ca_344 (by repeat (first | with_reducible exact hw | with_reducible exact hwc | with_reducible assumption | with_reducible apply Wf.sI | with_reducible apply Wf.sL | with_reducible apply Wf.cpI | with_reducible apply Wf.cpL | with_reducible apply Wf.cp2 | with_reducible apply Wf.sIs | with_reducible apply Wf.sLs | with_reducible apply Wf.cpU | with_reducible apply Wf.fillI | with_reducible apply Wf.clU | with_reducible apply Wf.dnF | with_reducible apply Wf.gbW))) (ixn (m := 0) (by omega) (by decide))) ?_
  rw [hv1.s0]
  refine lfn (a_if_ne (tgt := 46) dX11_count_41 (by decide)) (fun h41 => ?_) (fun h41 => absurd h41 h0)
  refine lf (a_iload_n dX11_count_46 rfl) ?_
  refine lf (a_tsIn (tgt := 122) dX11_count_47 (by decide) (by decide) rfl (by decide)) ?_
  refine lf (a_aload_n dX11_count_122 rfl) ?_
  refine lf (a_getR (cr_338_1 (by repeat (first | with_reducible exact hw | with_reducible exact hwc | with_reducible assumption | with_reducible apply Wf.sI | with_reducible apply Wf.sL | with_reducible apply Wf.cpI | with_reducible apply Wf.cpL | with_reducible apply Wf.cp2 | with_reducible apply Wf.sIs | with_reducible apply Wf.sLs | with_reducible apply Wf.cpU | with_reducible apply Wf.fillI | with_reducible apply Wf.clU | with_reducible apply Wf.dnF | with_reducible apply Wf.gbW))) dX11_count_123 fs_X11_7 rfl (co_338 (by repeat (first | with_reducible exact hw | with_reducible exact hwc | with_reducible assumption | with_reducible apply Wf.sI | with_reducible apply Wf.sL | with_reducible apply Wf.cpI | with_reducible apply Wf.cpL | with_reducible apply Wf.cp2 | with_reducible apply Wf.sIs | with_reducible apply Wf.sLs | with_reducible apply Wf.cpU | with_reducible apply Wf.fillI | with_reducible apply Wf.clU | with_reducible apply Wf.dnF | with_reducible apply Wf.gbW)))) ?_
  refine lf (a_iconst (2 : Int32) dX11_count_126 (by decide)) ?_
  refine lf (a_ild dX11_count_127 (ca_339 (by repeat (first | with_reducible exact hw | with_reducible exact hwc | with_reducible assumption | with_reducible apply Wf.sI | with_reducible apply Wf.sL | with_reducible apply Wf.cpI | with_reducible apply Wf.cpL | with_reducible apply Wf.cp2 | with_reducible apply Wf.sIs | with_reducible apply Wf.sLs | with_reducible apply Wf.cpU | with_reducible apply Wf.fillI | with_reducible apply Wf.clU | with_reducible apply Wf.dnF | with_reducible apply Wf.gbW))) (ixn (m := 2) (by omega) (by decide))) ?_
  rw [hv1.p2]
  refine ⟨_, _, (a_ireturn dX11_count_128 rfl rfl), ?_⟩
  exact ⟨_, rfl, rfl, MqQ.of hw 0⟩

theorem m_count_5 (hw : Wf μ) (hv : MdV μ q d) (hq0 : GdP q) (hd0 : GdD q d) (h0 : ¬ pF q 9 0 = 0) (hn : Nat) : CV Y_X11_count R_X11_count [.ref 338, .int (nI 5)] μ (fun v V => v = some (.int (cnV q d hn 5)) ∧ MqQ μ 0 V) := by
  have hM4 := hv.M4
  have hT4 := hv.T4
  have hP4 := hv.P4
  have hC4 := hv.C4
  have hw1 : Wf (sI μ 338 0 0) := hw.sI
  have hv1 : MdV (sI μ 338 0 0) q d := hv.th 0
  refine CV.ent yk_X11_count (Nat.le_of_ble_eq_true rfl) ?_
  refine lf (a_aload_n dX11_count_0 rfl) ?_
  refine lf (a_iload_n dX11_count_1 rfl) ?_
  refine lf (a_iconst (0 : Int32) dX11_count_2 (by decide)) ?_
  refine lf (a_bipush (11 : Int32) dX11_count_3 (by decide)) ?_
  refine lf (a_invS (b2 := (0, 0)) (Ct.int (y := 1) (by decide) (m_in (nI 5) 0 11)) rfl dX11_count_5 yk_X11_in sm_X11_in ml_X11_102 rfl (by decide) (by decide) (Nat.le_of_ble_eq_true rfl)) ?_
  refine lf2 (a_if_eq (tgt := 15) dX11_count_8 (by decide)) (fun h8 => absurd h8 (by decide)) (fun h8 => ?_)
  refine lf (a_iconst (0 : Int32) dX11_count_11 (by decide)) ?_
  refine lf (a_goto (tgt := 16) dX11_count_12 (by decide)) ?_
  refine lf (a_inv (b2 := (0, 0)) (m_isRefused0 (by repeat (first | with_reducible exact hw | with_reducible exact hwc | with_reducible assumption | with_reducible apply Wf.sI | with_reducible apply Wf.sL | with_reducible apply Wf.cpI | with_reducible apply Wf.cpL | with_reducible apply Wf.cp2 | with_reducible apply Wf.sIs | with_reducible apply Wf.sLs | with_reducible apply Wf.cpU | with_reducible apply Wf.fillI | with_reducible apply Wf.clU | with_reducible apply Wf.dnF | with_reducible apply Wf.gbW))) rfl dX11_count_16 yk_X11_isRefused im_X11_isRefused se_X11_isRefused ml_X11_98 rfl (co_338 (by repeat (first | with_reducible exact hw | with_reducible exact hwc | with_reducible assumption | with_reducible apply Wf.sI | with_reducible apply Wf.sL | with_reducible apply Wf.cpI | with_reducible apply Wf.cpL | with_reducible apply Wf.cp2 | with_reducible apply Wf.sIs | with_reducible apply Wf.sLs | with_reducible apply Wf.cpU | with_reducible apply Wf.fillI | with_reducible apply Wf.clU | with_reducible apply Wf.dnF | with_reducible apply Wf.gbW))) (by decide) hc_X11 (by decide) (by decide) (Nat.le_of_ble_eq_true rfl)) ?_
  refine lf2 (a_if_eq (tgt := 24) dX11_count_19 (by decide)) (fun h19 => ?_) (fun h19 => absurd h19 (fun z => z rfl))
  refine lf (a_iload_n dX11_count_24 rfl) ?_
  refine lf (a_bipush (9 : Int32) dX11_count_25 (by decide)) ?_
  refine lfn (a_icmp_ne (tgt := 35) dX11_count_27 (by decide)) (fun h27 => ?_) (fun h27 => absurd h27 (by decide))
  refine lf (a_aload_n dX11_count_35 rfl) ?_
  refine lf (a_getR (cr_338_6 (by repeat (first | with_reducible exact hw | with_reducible exact hwc | with_reducible assumption | with_reducible apply Wf.sI | with_reducible apply Wf.sL | with_reducible apply Wf.cpI | with_reducible apply Wf.cpL | with_reducible apply Wf.cp2 | with_reducible apply Wf.sIs | with_reducible apply Wf.sLs | with_reducible apply Wf.cpU | with_reducible apply Wf.fillI | with_reducible apply Wf.clU | with_reducible apply Wf.dnF | with_reducible apply Wf.gbW))) dX11_count_36 fs_X11_26 rfl (co_338 (by repeat (first | with_reducible exact hw | with_reducible exact hwc | with_reducible assumption | with_reducible apply Wf.sI | with_reducible apply Wf.sL | with_reducible apply Wf.cpI | with_reducible apply Wf.cpL | with_reducible apply Wf.cp2 | with_reducible apply Wf.sIs | with_reducible apply Wf.sLs | with_reducible apply Wf.cpU | with_reducible apply Wf.fillI | with_reducible apply Wf.clU | with_reducible apply Wf.dnF | with_reducible apply Wf.gbW)))) ?_
  refine lf (a_iconst (0 : Int32) dX11_count_39 (by decide)) ?_
  refine lf (a_ild dX11_count_40 (ca_344 (by repeat (first | with_reducible exact hw | with_reducible exact hwc | with_reducible assumption | with_reducible apply Wf.sI | with_reducible apply Wf.sL | with_reducible apply Wf.cpI | with_reducible apply Wf.cpL | with_reducible apply Wf.cp2 | with_reducible apply Wf.sIs | with_reducible apply Wf.sLs | with_reducible apply Wf.cpU | with_reducible apply Wf.fillI | with_reducible apply Wf.clU | with_reducible apply Wf.dnF | with_reducible apply Wf.gbW))) (ixn (m := 0) (by omega) (by decide))) ?_
  rw [hv1.s0]
  refine lfn (a_if_ne (tgt := 46) dX11_count_41 (by decide)) (fun h41 => ?_) (fun h41 => absurd h41 h0)
  refine lf (a_iload_n dX11_count_46 rfl) ?_
  refine lf (a_tsIn (tgt := 129) dX11_count_47 (by decide) (by decide) rfl (by decide)) ?_
  refine lf (a_aload_n dX11_count_129 rfl) ?_
  refine lf (a_getR (cr_338_6 (by repeat (first | with_reducible exact hw | with_reducible exact hwc | with_reducible assumption | with_reducible apply Wf.sI | with_reducible apply Wf.sL | with_reducible apply Wf.cpI | with_reducible apply Wf.cpL | with_reducible apply Wf.cp2 | with_reducible apply Wf.sIs | with_reducible apply Wf.sLs | with_reducible apply Wf.cpU | with_reducible apply Wf.fillI | with_reducible apply Wf.clU | with_reducible apply Wf.dnF | with_reducible apply Wf.gbW))) dX11_count_130 fs_X11_26 rfl (co_338 (by repeat (first | with_reducible exact hw | with_reducible exact hwc | with_reducible assumption | with_reducible apply Wf.sI | with_reducible apply Wf.sL | with_reducible apply Wf.cpI | with_reducible apply Wf.cpL | with_reducible apply Wf.cp2 | with_reducible apply Wf.sIs | with_reducible apply Wf.sLs | with_reducible apply Wf.cpU | with_reducible apply Wf.fillI | with_reducible apply Wf.clU | with_reducible apply Wf.dnF | with_reducible apply Wf.gbW)))) ?_
  refine lf (a_iconst (2 : Int32) dX11_count_133 (by decide)) ?_
  refine lf (a_ild dX11_count_134 (ca_344 (by repeat (first | with_reducible exact hw | with_reducible exact hwc | with_reducible assumption | with_reducible apply Wf.sI | with_reducible apply Wf.sL | with_reducible apply Wf.cpI | with_reducible apply Wf.cpL | with_reducible apply Wf.cp2 | with_reducible apply Wf.sIs | with_reducible apply Wf.sLs | with_reducible apply Wf.cpU | with_reducible apply Wf.fillI | with_reducible apply Wf.clU | with_reducible apply Wf.dnF | with_reducible apply Wf.gbW))) (ixn (m := 2) (by omega) (by decide))) ?_
  rw [hv1.s2]
  refine ⟨_, _, (a_ireturn dX11_count_135 rfl rfl), ?_⟩
  exact ⟨_, rfl, rfl, MqQ.of hw 0⟩

theorem m_count_6 (hw : Wf μ) (hv : MdV μ q d) (hq0 : GdP q) (hd0 : GdD q d) (h0 : ¬ pF q 9 0 = 0) (hn : Nat) : CV Y_X11_count R_X11_count [.ref 338, .int (nI 6)] μ (fun v V => v = some (.int (cnV q d hn 6)) ∧ MqQ μ 0 V) := by
  have hM4 := hv.M4
  have hT4 := hv.T4
  have hP4 := hv.P4
  have hC4 := hv.C4
  have hw1 : Wf (sI μ 338 0 0) := hw.sI
  have hv1 : MdV (sI μ 338 0 0) q d := hv.th 0
  refine CV.ent yk_X11_count (Nat.le_of_ble_eq_true rfl) ?_
  refine lf (a_aload_n dX11_count_0 rfl) ?_
  refine lf (a_iload_n dX11_count_1 rfl) ?_
  refine lf (a_iconst (0 : Int32) dX11_count_2 (by decide)) ?_
  refine lf (a_bipush (11 : Int32) dX11_count_3 (by decide)) ?_
  refine lf (a_invS (b2 := (0, 0)) (Ct.int (y := 1) (by decide) (m_in (nI 6) 0 11)) rfl dX11_count_5 yk_X11_in sm_X11_in ml_X11_102 rfl (by decide) (by decide) (Nat.le_of_ble_eq_true rfl)) ?_
  refine lf2 (a_if_eq (tgt := 15) dX11_count_8 (by decide)) (fun h8 => absurd h8 (by decide)) (fun h8 => ?_)
  refine lf (a_iconst (0 : Int32) dX11_count_11 (by decide)) ?_
  refine lf (a_goto (tgt := 16) dX11_count_12 (by decide)) ?_
  refine lf (a_inv (b2 := (0, 0)) (m_isRefused0 (by repeat (first | with_reducible exact hw | with_reducible exact hwc | with_reducible assumption | with_reducible apply Wf.sI | with_reducible apply Wf.sL | with_reducible apply Wf.cpI | with_reducible apply Wf.cpL | with_reducible apply Wf.cp2 | with_reducible apply Wf.sIs | with_reducible apply Wf.sLs | with_reducible apply Wf.cpU | with_reducible apply Wf.fillI | with_reducible apply Wf.clU | with_reducible apply Wf.dnF | with_reducible apply Wf.gbW))) rfl dX11_count_16 yk_X11_isRefused im_X11_isRefused se_X11_isRefused ml_X11_98 rfl (co_338 (by repeat (first | with_reducible exact hw | with_reducible exact hwc | with_reducible assumption | with_reducible apply Wf.sI | with_reducible apply Wf.sL | with_reducible apply Wf.cpI | with_reducible apply Wf.cpL | with_reducible apply Wf.cp2 | with_reducible apply Wf.sIs | with_reducible apply Wf.sLs | with_reducible apply Wf.cpU | with_reducible apply Wf.fillI | with_reducible apply Wf.clU | with_reducible apply Wf.dnF | with_reducible apply Wf.gbW))) (by decide) hc_X11 (by decide) (by decide) (Nat.le_of_ble_eq_true rfl)) ?_
  refine lf2 (a_if_eq (tgt := 24) dX11_count_19 (by decide)) (fun h19 => ?_) (fun h19 => absurd h19 (fun z => z rfl))
  refine lf (a_iload_n dX11_count_24 rfl) ?_
  refine lf (a_bipush (9 : Int32) dX11_count_25 (by decide)) ?_
  refine lfn (a_icmp_ne (tgt := 35) dX11_count_27 (by decide)) (fun h27 => ?_) (fun h27 => absurd h27 (by decide))
  refine lf (a_aload_n dX11_count_35 rfl) ?_
  refine lf (a_getR (cr_338_6 (by repeat (first | with_reducible exact hw | with_reducible exact hwc | with_reducible assumption | with_reducible apply Wf.sI | with_reducible apply Wf.sL | with_reducible apply Wf.cpI | with_reducible apply Wf.cpL | with_reducible apply Wf.cp2 | with_reducible apply Wf.sIs | with_reducible apply Wf.sLs | with_reducible apply Wf.cpU | with_reducible apply Wf.fillI | with_reducible apply Wf.clU | with_reducible apply Wf.dnF | with_reducible apply Wf.gbW))) dX11_count_36 fs_X11_26 rfl (co_338 (by repeat (first | with_reducible exact hw | with_reducible exact hwc | with_reducible assumption | with_reducible apply Wf.sI | with_reducible apply Wf.sL | with_reducible apply Wf.cpI | with_reducible apply Wf.cpL | with_reducible apply Wf.cp2 | with_reducible apply Wf.sIs | with_reducible apply Wf.sLs | with_reducible apply Wf.cpU | with_reducible apply Wf.fillI | with_reducible apply Wf.clU | with_reducible apply Wf.dnF | with_reducible apply Wf.gbW)))) ?_
  refine lf (a_iconst (0 : Int32) dX11_count_39 (by decide)) ?_
  refine lf (a_ild dX11_count_40 (ca_344 (by repeat (first | with_reducible exact hw | with_reducible exact hwc | with_reducible assumption | with_reducible apply Wf.sI | with_reducible apply Wf.sL | with_reducible apply Wf.cpI | with_reducible apply Wf.cpL | with_reducible apply Wf.cp2 | with_reducible apply Wf.sIs | with_reducible apply Wf.sLs | with_reducible apply Wf.cpU | with_reducible apply Wf.fillI | with_reducible apply Wf.clU | with_reducible apply Wf.dnF | with_reducible apply Wf.gbW))) (ixn (m := 0) (by omega) (by decide))) ?_
  rw [hv1.s0]
  refine lfn (a_if_ne (tgt := 46) dX11_count_41 (by decide)) (fun h41 => ?_) (fun h41 => absurd h41 h0)
  refine lf (a_iload_n dX11_count_46 rfl) ?_
  refine lf (a_tsIn (tgt := 136) dX11_count_47 (by decide) (by decide) rfl (by decide)) ?_
  refine lf (a_aload_n dX11_count_136 rfl) ?_
  refine lf (a_getR (cr_338_6 (by repeat (first | with_reducible exact hw | with_reducible exact hwc | with_reducible assumption | with_reducible apply Wf.sI | with_reducible apply Wf.sL | with_reducible apply Wf.cpI | with_reducible apply Wf.cpL | with_reducible apply Wf.cp2 | with_reducible apply Wf.sIs | with_reducible apply Wf.sLs | with_reducible apply Wf.cpU | with_reducible apply Wf.fillI | with_reducible apply Wf.clU | with_reducible apply Wf.dnF | with_reducible apply Wf.gbW))) dX11_count_137 fs_X11_26 rfl (co_338 (by repeat (first | with_reducible exact hw | with_reducible exact hwc | with_reducible assumption | with_reducible apply Wf.sI | with_reducible apply Wf.sL | with_reducible apply Wf.cpI | with_reducible apply Wf.cpL | with_reducible apply Wf.cp2 | with_reducible apply Wf.sIs | with_reducible apply Wf.sLs | with_reducible apply Wf.cpU | with_reducible apply Wf.fillI | with_reducible apply Wf.clU | with_reducible apply Wf.dnF | with_reducible apply Wf.gbW)))) ?_
  refine lf (a_iconst (4 : Int32) dX11_count_140 (by decide)) ?_
  refine lf (a_ild dX11_count_141 (ca_344 (by repeat (first | with_reducible exact hw | with_reducible exact hwc | with_reducible assumption | with_reducible apply Wf.sI | with_reducible apply Wf.sL | with_reducible apply Wf.cpI | with_reducible apply Wf.cpL | with_reducible apply Wf.cp2 | with_reducible apply Wf.sIs | with_reducible apply Wf.sLs | with_reducible apply Wf.cpU | with_reducible apply Wf.fillI | with_reducible apply Wf.clU | with_reducible apply Wf.dnF | with_reducible apply Wf.gbW))) (ixn (m := 4) (by omega) (by decide))) ?_
  rw [hv1.s4]
  refine ⟨_, _, (a_ireturn dX11_count_142 rfl rfl), ?_⟩
  exact ⟨_, rfl, rfl, MqQ.of hw 0⟩

theorem m_count_7 (hw : Wf μ) (hv : MdV μ q d) (hq0 : GdP q) (hd0 : GdD q d) (h0 : ¬ pF q 9 0 = 0) (hn : Nat) : CV Y_X11_count R_X11_count [.ref 338, .int (nI 7)] μ (fun v V => v = some (.int (cnV q d hn 7)) ∧ MqQ μ 0 V) := by
  have hM4 := hv.M4
  have hT4 := hv.T4
  have hP4 := hv.P4
  have hC4 := hv.C4
  have hw1 : Wf (sI μ 338 0 0) := hw.sI
  have hv1 : MdV (sI μ 338 0 0) q d := hv.th 0
  refine CV.ent yk_X11_count (Nat.le_of_ble_eq_true rfl) ?_
  refine lf (a_aload_n dX11_count_0 rfl) ?_
  refine lf (a_iload_n dX11_count_1 rfl) ?_
  refine lf (a_iconst (0 : Int32) dX11_count_2 (by decide)) ?_
  refine lf (a_bipush (11 : Int32) dX11_count_3 (by decide)) ?_
  refine lf (a_invS (b2 := (0, 0)) (Ct.int (y := 1) (by decide) (m_in (nI 7) 0 11)) rfl dX11_count_5 yk_X11_in sm_X11_in ml_X11_102 rfl (by decide) (by decide) (Nat.le_of_ble_eq_true rfl)) ?_
  refine lf2 (a_if_eq (tgt := 15) dX11_count_8 (by decide)) (fun h8 => absurd h8 (by decide)) (fun h8 => ?_)
  refine lf (a_iconst (0 : Int32) dX11_count_11 (by decide)) ?_
  refine lf (a_goto (tgt := 16) dX11_count_12 (by decide)) ?_
  refine lf (a_inv (b2 := (0, 0)) (m_isRefused0 (by repeat (first | with_reducible exact hw | with_reducible exact hwc | with_reducible assumption | with_reducible apply Wf.sI | with_reducible apply Wf.sL | with_reducible apply Wf.cpI | with_reducible apply Wf.cpL | with_reducible apply Wf.cp2 | with_reducible apply Wf.sIs | with_reducible apply Wf.sLs | with_reducible apply Wf.cpU | with_reducible apply Wf.fillI | with_reducible apply Wf.clU | with_reducible apply Wf.dnF | with_reducible apply Wf.gbW))) rfl dX11_count_16 yk_X11_isRefused im_X11_isRefused se_X11_isRefused ml_X11_98 rfl (co_338 (by repeat (first | with_reducible exact hw | with_reducible exact hwc | with_reducible assumption | with_reducible apply Wf.sI | with_reducible apply Wf.sL | with_reducible apply Wf.cpI | with_reducible apply Wf.cpL | with_reducible apply Wf.cp2 | with_reducible apply Wf.sIs | with_reducible apply Wf.sLs | with_reducible apply Wf.cpU | with_reducible apply Wf.fillI | with_reducible apply Wf.clU | with_reducible apply Wf.dnF | with_reducible apply Wf.gbW))) (by decide) hc_X11 (by decide) (by decide) (Nat.le_of_ble_eq_true rfl)) ?_
  refine lf2 (a_if_eq (tgt := 24) dX11_count_19 (by decide)) (fun h19 => ?_) (fun h19 => absurd h19 (fun z => z rfl))
  refine lf (a_iload_n dX11_count_24 rfl) ?_
  refine lf (a_bipush (9 : Int32) dX11_count_25 (by decide)) ?_
  refine lfn (a_icmp_ne (tgt := 35) dX11_count_27 (by decide)) (fun h27 => ?_) (fun h27 => absurd h27 (by decide))
  refine lf (a_aload_n dX11_count_35 rfl) ?_
  refine lf (a_getR (cr_338_6 (by repeat (first | with_reducible exact hw | with_reducible exact hwc | with_reducible assumption | with_reducible apply Wf.sI | with_reducible apply Wf.sL | with_reducible apply Wf.cpI | with_reducible apply Wf.cpL | with_reducible apply Wf.cp2 | with_reducible apply Wf.sIs | with_reducible apply Wf.sLs | with_reducible apply Wf.cpU | with_reducible apply Wf.fillI | with_reducible apply Wf.clU | with_reducible apply Wf.dnF | with_reducible apply Wf.gbW))) dX11_count_36 fs_X11_26 rfl (co_338 (by repeat (first | with_reducible exact hw | with_reducible exact hwc | with_reducible assumption | with_reducible apply Wf.sI | with_reducible apply Wf.sL | with_reducible apply Wf.cpI | with_reducible apply Wf.cpL | with_reducible apply Wf.cp2 | with_reducible apply Wf.sIs | with_reducible apply Wf.sLs | with_reducible apply Wf.cpU | with_reducible apply Wf.fillI | with_reducible apply Wf.clU | with_reducible apply Wf.dnF | with_reducible apply Wf.gbW)))) ?_
  refine lf (a_iconst (0 : Int32) dX11_count_39 (by decide)) ?_
  refine lf (a_ild dX11_count_40 (ca_344 (by repeat (first | with_reducible exact hw | with_reducible exact hwc | with_reducible assumption | with_reducible apply Wf.sI | with_reducible apply Wf.sL | with_reducible apply Wf.cpI | with_reducible apply Wf.cpL | with_reducible apply Wf.cp2 | with_reducible apply Wf.sIs | with_reducible apply Wf.sLs | with_reducible apply Wf.cpU | with_reducible apply Wf.fillI | with_reducible apply Wf.clU | with_reducible apply Wf.dnF | with_reducible apply Wf.gbW))) (ixn (m := 0) (by omega) (by decide))) ?_
  rw [hv1.s0]
  refine lfn (a_if_ne (tgt := 46) dX11_count_41 (by decide)) (fun h41 => ?_) (fun h41 => absurd h41 h0)
  refine lf (a_iload_n dX11_count_46 rfl) ?_
  refine lf (a_tsIn (tgt := 143) dX11_count_47 (by decide) (by decide) rfl (by decide)) ?_
  refine lf (a_aload_n dX11_count_143 rfl) ?_
  refine lf (a_inv (b2 := (0, 0)) (m_allLoaded (by repeat (first | with_reducible exact hw | with_reducible exact hwc | with_reducible assumption | with_reducible apply Wf.sI | with_reducible apply Wf.sL | with_reducible apply Wf.cpI | with_reducible apply Wf.cpL | with_reducible apply Wf.cp2 | with_reducible apply Wf.sIs | with_reducible apply Wf.sLs | with_reducible apply Wf.cpU | with_reducible apply Wf.fillI | with_reducible apply Wf.clU | with_reducible apply Wf.dnF | with_reducible apply Wf.gbW)) (hv.th 0)) rfl dX11_count_144 yk_X11_allLoaded im_X11_allLoaded se_X11_allLoaded ml_X11_357 rfl (co_338 (by repeat (first | with_reducible exact hw | with_reducible exact hwc | with_reducible assumption | with_reducible apply Wf.sI | with_reducible apply Wf.sL | with_reducible apply Wf.cpI | with_reducible apply Wf.cpL | with_reducible apply Wf.cp2 | with_reducible apply Wf.sIs | with_reducible apply Wf.sLs | with_reducible apply Wf.cpU | with_reducible apply Wf.fillI | with_reducible apply Wf.clU | with_reducible apply Wf.dnF | with_reducible apply Wf.gbW))) (by decide) hc_X11 (by decide) (by decide) (Nat.le_of_ble_eq_true rfl)) ?_
  refine ⟨_, _, (a_ireturn dX11_count_147 rfl rfl), ?_⟩
  exact ⟨_, rfl, rfl, MqQ.of hw 0⟩

theorem m_count_8 (hw : Wf μ) (hv : MdV μ q d) (hq0 : GdP q) (hd0 : GdD q d) (h0 : ¬ pF q 9 0 = 0) (hn : Nat) : CV Y_X11_count R_X11_count [.ref 338, .int (nI 8)] μ (fun v V => v = some (.int (cnV q d hn 8)) ∧ MqQ μ 0 V) := by
  have hM4 := hv.M4
  have hT4 := hv.T4
  have hP4 := hv.P4
  have hC4 := hv.C4
  have hw1 : Wf (sI μ 338 0 0) := hw.sI
  have hv1 : MdV (sI μ 338 0 0) q d := hv.th 0
  refine CV.ent yk_X11_count (Nat.le_of_ble_eq_true rfl) ?_
  refine lf (a_aload_n dX11_count_0 rfl) ?_
  refine lf (a_iload_n dX11_count_1 rfl) ?_
  refine lf (a_iconst (0 : Int32) dX11_count_2 (by decide)) ?_
  refine lf (a_bipush (11 : Int32) dX11_count_3 (by decide)) ?_
  refine lf (a_invS (b2 := (0, 0)) (Ct.int (y := 1) (by decide) (m_in (nI 8) 0 11)) rfl dX11_count_5 yk_X11_in sm_X11_in ml_X11_102 rfl (by decide) (by decide) (Nat.le_of_ble_eq_true rfl)) ?_
  refine lf2 (a_if_eq (tgt := 15) dX11_count_8 (by decide)) (fun h8 => absurd h8 (by decide)) (fun h8 => ?_)
  refine lf (a_iconst (0 : Int32) dX11_count_11 (by decide)) ?_
  refine lf (a_goto (tgt := 16) dX11_count_12 (by decide)) ?_
  refine lf (a_inv (b2 := (0, 0)) (m_isRefused0 (by repeat (first | with_reducible exact hw | with_reducible exact hwc | with_reducible assumption | with_reducible apply Wf.sI | with_reducible apply Wf.sL | with_reducible apply Wf.cpI | with_reducible apply Wf.cpL | with_reducible apply Wf.cp2 | with_reducible apply Wf.sIs | with_reducible apply Wf.sLs | with_reducible apply Wf.cpU | with_reducible apply Wf.fillI | with_reducible apply Wf.clU | with_reducible apply Wf.dnF | with_reducible apply Wf.gbW))) rfl dX11_count_16 yk_X11_isRefused im_X11_isRefused se_X11_isRefused ml_X11_98 rfl (co_338 (by repeat (first | with_reducible exact hw | with_reducible exact hwc | with_reducible assumption | with_reducible apply Wf.sI | with_reducible apply Wf.sL | with_reducible apply Wf.cpI | with_reducible apply Wf.cpL | with_reducible apply Wf.cp2 | with_reducible apply Wf.sIs | with_reducible apply Wf.sLs | with_reducible apply Wf.cpU | with_reducible apply Wf.fillI | with_reducible apply Wf.clU | with_reducible apply Wf.dnF | with_reducible apply Wf.gbW))) (by decide) hc_X11 (by decide) (by decide) (Nat.le_of_ble_eq_true rfl)) ?_
  refine lf2 (a_if_eq (tgt := 24) dX11_count_19 (by decide)) (fun h19 => ?_) (fun h19 => absurd h19 (fun z => z rfl))
  refine lf (a_iload_n dX11_count_24 rfl) ?_
  refine lf (a_bipush (9 : Int32) dX11_count_25 (by decide)) ?_
  refine lfn (a_icmp_ne (tgt := 35) dX11_count_27 (by decide)) (fun h27 => ?_) (fun h27 => absurd h27 (by decide))
  refine lf (a_aload_n dX11_count_35 rfl) ?_
  refine lf (a_getR (cr_338_6 (by repeat (first | with_reducible exact hw | with_reducible exact hwc | with_reducible assumption | with_reducible apply Wf.sI | with_reducible apply Wf.sL | with_reducible apply Wf.cpI | with_reducible apply Wf.cpL | with_reducible apply Wf.cp2 | with_reducible apply Wf.sIs | with_reducible apply Wf.sLs | with_reducible apply Wf.cpU | with_reducible apply Wf.fillI | with_reducible apply Wf.clU | with_reducible apply Wf.dnF | with_reducible apply Wf.gbW))) dX11_count_36 fs_X11_26 rfl (co_338 (by repeat (first | with_reducible exact hw | with_reducible exact hwc | with_reducible assumption | with_reducible apply Wf.sI | with_reducible apply Wf.sL | with_reducible apply Wf.cpI | with_reducible apply Wf.cpL | with_reducible apply Wf.cp2 | with_reducible apply Wf.sIs | with_reducible apply Wf.sLs | with_reducible apply Wf.cpU | with_reducible apply Wf.fillI | with_reducible apply Wf.clU | with_reducible apply Wf.dnF | with_reducible apply Wf.gbW)))) ?_
  refine lf (a_iconst (0 : Int32) dX11_count_39 (by decide)) ?_
  refine lf (a_ild dX11_count_40 (ca_344 (by repeat (first | with_reducible exact hw | with_reducible exact hwc | with_reducible assumption | with_reducible apply Wf.sI | with_reducible apply Wf.sL | with_reducible apply Wf.cpI | with_reducible apply Wf.cpL | with_reducible apply Wf.cp2 | with_reducible apply Wf.sIs | with_reducible apply Wf.sLs | with_reducible apply Wf.cpU | with_reducible apply Wf.fillI | with_reducible apply Wf.clU | with_reducible apply Wf.dnF | with_reducible apply Wf.gbW))) (ixn (m := 0) (by omega) (by decide))) ?_
  rw [hv1.s0]
  refine lfn (a_if_ne (tgt := 46) dX11_count_41 (by decide)) (fun h41 => ?_) (fun h41 => absurd h41 h0)
  refine lf (a_iload_n dX11_count_46 rfl) ?_
  refine lf (a_tsIn (tgt := 148) dX11_count_47 (by decide) (by decide) rfl (by decide)) ?_
  refine lf (a_aload_n dX11_count_148 rfl) ?_
  obtain ⟨v_, W149, k149, rfl, hO⟩ := (m_orderUnits hw1 hv1 hq0 hd0)
  have hwc := hO.1
  refine lf (a_inv (b2 := (0, 0)) k149 rfl dX11_count_149 yk_X11_orderUnits im_X11_orderUnits se_X11_orderUnits ml_X11_360 rfl (co_338 (by repeat (first | with_reducible exact hw | with_reducible exact hwc | with_reducible assumption | with_reducible apply Wf.sI | with_reducible apply Wf.sL | with_reducible apply Wf.cpI | with_reducible apply Wf.cpL | with_reducible apply Wf.cp2 | with_reducible apply Wf.sIs | with_reducible apply Wf.sLs | with_reducible apply Wf.cpU | with_reducible apply Wf.fillI | with_reducible apply Wf.clU | with_reducible apply Wf.dnF | with_reducible apply Wf.gbW))) (by decide) hc_X11 (by decide) (by decide) (Nat.le_of_ble_eq_true rfl)) ?_
  refine ⟨_, _, (a_ireturn dX11_count_152 rfl rfl), ?_⟩
  exact ⟨_, rfl, rfl, MqQ.ord hw hO⟩

theorem m_count_10 (hw : Wf μ) (hv : MdV μ q d) (hq0 : GdP q) (hd0 : GdD q d) (h0 : ¬ pF q 9 0 = 0) (hn : Nat) : CV Y_X11_count R_X11_count [.ref 338, .int (nI 10)] μ (fun v V => v = some (.int (cnV q d hn 10)) ∧ MqQ μ 0 V) := by
  have hM4 := hv.M4
  have hT4 := hv.T4
  have hP4 := hv.P4
  have hC4 := hv.C4
  have hw1 : Wf (sI μ 338 0 0) := hw.sI
  have hv1 : MdV (sI μ 338 0 0) q d := hv.th 0
  refine CV.ent yk_X11_count (Nat.le_of_ble_eq_true rfl) ?_
  refine lf (a_aload_n dX11_count_0 rfl) ?_
  refine lf (a_iload_n dX11_count_1 rfl) ?_
  refine lf (a_iconst (0 : Int32) dX11_count_2 (by decide)) ?_
  refine lf (a_bipush (11 : Int32) dX11_count_3 (by decide)) ?_
  refine lf (a_invS (b2 := (0, 0)) (Ct.int (y := 1) (by decide) (m_in (nI 10) 0 11)) rfl dX11_count_5 yk_X11_in sm_X11_in ml_X11_102 rfl (by decide) (by decide) (Nat.le_of_ble_eq_true rfl)) ?_
  refine lf2 (a_if_eq (tgt := 15) dX11_count_8 (by decide)) (fun h8 => absurd h8 (by decide)) (fun h8 => ?_)
  refine lf (a_iconst (0 : Int32) dX11_count_11 (by decide)) ?_
  refine lf (a_goto (tgt := 16) dX11_count_12 (by decide)) ?_
  refine lf (a_inv (b2 := (0, 0)) (m_isRefused0 (by repeat (first | with_reducible exact hw | with_reducible exact hwc | with_reducible assumption | with_reducible apply Wf.sI | with_reducible apply Wf.sL | with_reducible apply Wf.cpI | with_reducible apply Wf.cpL | with_reducible apply Wf.cp2 | with_reducible apply Wf.sIs | with_reducible apply Wf.sLs | with_reducible apply Wf.cpU | with_reducible apply Wf.fillI | with_reducible apply Wf.clU | with_reducible apply Wf.dnF | with_reducible apply Wf.gbW))) rfl dX11_count_16 yk_X11_isRefused im_X11_isRefused se_X11_isRefused ml_X11_98 rfl (co_338 (by repeat (first | with_reducible exact hw | with_reducible exact hwc | with_reducible assumption | with_reducible apply Wf.sI | with_reducible apply Wf.sL | with_reducible apply Wf.cpI | with_reducible apply Wf.cpL | with_reducible apply Wf.cp2 | with_reducible apply Wf.sIs | with_reducible apply Wf.sLs | with_reducible apply Wf.cpU | with_reducible apply Wf.fillI | with_reducible apply Wf.clU | with_reducible apply Wf.dnF | with_reducible apply Wf.gbW))) (by decide) hc_X11 (by decide) (by decide) (Nat.le_of_ble_eq_true rfl)) ?_
  refine lf2 (a_if_eq (tgt := 24) dX11_count_19 (by decide)) (fun h19 => ?_) (fun h19 => absurd h19 (fun z => z rfl))
  refine lf (a_iload_n dX11_count_24 rfl) ?_
  refine lf (a_bipush (9 : Int32) dX11_count_25 (by decide)) ?_
  refine lfn (a_icmp_ne (tgt := 35) dX11_count_27 (by decide)) (fun h27 => ?_) (fun h27 => absurd h27 (by decide))
  refine lf (a_aload_n dX11_count_35 rfl) ?_
  refine lf (a_getR (cr_338_6 (by repeat (first | with_reducible exact hw | with_reducible exact hwc | with_reducible assumption | with_reducible apply Wf.sI | with_reducible apply Wf.sL | with_reducible apply Wf.cpI | with_reducible apply Wf.cpL | with_reducible apply Wf.cp2 | with_reducible apply Wf.sIs | with_reducible apply Wf.sLs | with_reducible apply Wf.cpU | with_reducible apply Wf.fillI | with_reducible apply Wf.clU | with_reducible apply Wf.dnF | with_reducible apply Wf.gbW))) dX11_count_36 fs_X11_26 rfl (co_338 (by repeat (first | with_reducible exact hw | with_reducible exact hwc | with_reducible assumption | with_reducible apply Wf.sI | with_reducible apply Wf.sL | with_reducible apply Wf.cpI | with_reducible apply Wf.cpL | with_reducible apply Wf.cp2 | with_reducible apply Wf.sIs | with_reducible apply Wf.sLs | with_reducible apply Wf.cpU | with_reducible apply Wf.fillI | with_reducible apply Wf.clU | with_reducible apply Wf.dnF | with_reducible apply Wf.gbW)))) ?_
  refine lf (a_iconst (0 : Int32) dX11_count_39 (by decide)) ?_
  refine lf (a_ild dX11_count_40 (ca_344 (by repeat (first | with_reducible exact hw | with_reducible exact hwc | with_reducible assumption | with_reducible apply Wf.sI | with_reducible apply Wf.sL | with_reducible apply Wf.cpI | with_reducible apply Wf.cpL | with_reducible apply Wf.cp2 | with_reducible apply Wf.sIs | with_reducible apply Wf.sLs | with_reducible apply Wf.cpU | with_reducible apply Wf.fillI | with_reducible apply Wf.clU | with_reducible apply Wf.dnF | with_reducible apply Wf.gbW))) (ixn (m := 0) (by omega) (by decide))) ?_
  rw [hv1.s0]
  refine lfn (a_if_ne (tgt := 46) dX11_count_41 (by decide)) (fun h41 => ?_) (fun h41 => absurd h41 h0)
  refine lf (a_iload_n dX11_count_46 rfl) ?_
  refine lf (a_tsOut (tgt := 153) dX11_count_47 (by decide) (by decide)) ?_
  refine lf (a_aload_n dX11_count_153 rfl) ?_
  refine lf (a_getR (cr_338_1 (by repeat (first | with_reducible exact hw | with_reducible exact hwc | with_reducible assumption | with_reducible apply Wf.sI | with_reducible apply Wf.sL | with_reducible apply Wf.cpI | with_reducible apply Wf.cpL | with_reducible apply Wf.cp2 | with_reducible apply Wf.sIs | with_reducible apply Wf.sLs | with_reducible apply Wf.cpU | with_reducible apply Wf.fillI | with_reducible apply Wf.clU | with_reducible apply Wf.dnF | with_reducible apply Wf.gbW))) dX11_count_154 fs_X11_7 rfl (co_338 (by repeat (first | with_reducible exact hw | with_reducible exact hwc | with_reducible assumption | with_reducible apply Wf.sI | with_reducible apply Wf.sL | with_reducible apply Wf.cpI | with_reducible apply Wf.cpL | with_reducible apply Wf.cp2 | with_reducible apply Wf.sIs | with_reducible apply Wf.sLs | with_reducible apply Wf.cpU | with_reducible apply Wf.fillI | with_reducible apply Wf.clU | with_reducible apply Wf.dnF | with_reducible apply Wf.gbW)))) ?_
  refine lf (a_iload_n dX11_count_157 rfl) ?_
  refine lf (a_bipush (10 : Int32) dX11_count_158 (by decide)) ?_
  refine lfn (a_icmp_ne (tgt := 167) dX11_count_160 (by decide)) (fun h160 => absurd h160 (by decide)) (fun h160 => ?_)
  refine lf (a_iconst (3 : Int32) dX11_count_163 (by decide)) ?_
  refine lf (a_goto (tgt := 168) dX11_count_164 (by decide)) ?_
  refine lf (a_ild dX11_count_168 (ca_339 (by repeat (first | with_reducible exact hw | with_reducible exact hwc | with_reducible assumption | with_reducible apply Wf.sI | with_reducible apply Wf.sL | with_reducible apply Wf.cpI | with_reducible apply Wf.cpL | with_reducible apply Wf.cp2 | with_reducible apply Wf.sIs | with_reducible apply Wf.sLs | with_reducible apply Wf.cpU | with_reducible apply Wf.fillI | with_reducible apply Wf.clU | with_reducible apply Wf.dnF | with_reducible apply Wf.gbW))) (ixn (m := 3) (by omega) (by decide))) ?_
  rw [hv1.p3]
  refine ⟨_, _, (a_ireturn dX11_count_169 rfl rfl), ?_⟩
  exact ⟨_, rfl, rfl, MqQ.of hw 0⟩

theorem m_count_11 (hw : Wf μ) (hv : MdV μ q d) (hq0 : GdP q) (hd0 : GdD q d) (h0 : ¬ pF q 9 0 = 0) (hn : Nat) : CV Y_X11_count R_X11_count [.ref 338, .int (nI 11)] μ (fun v V => v = some (.int (cnV q d hn 11)) ∧ MqQ μ 0 V) := by
  have hM4 := hv.M4
  have hT4 := hv.T4
  have hP4 := hv.P4
  have hC4 := hv.C4
  have hw1 : Wf (sI μ 338 0 0) := hw.sI
  have hv1 : MdV (sI μ 338 0 0) q d := hv.th 0
  refine CV.ent yk_X11_count (Nat.le_of_ble_eq_true rfl) ?_
  refine lf (a_aload_n dX11_count_0 rfl) ?_
  refine lf (a_iload_n dX11_count_1 rfl) ?_
  refine lf (a_iconst (0 : Int32) dX11_count_2 (by decide)) ?_
  refine lf (a_bipush (11 : Int32) dX11_count_3 (by decide)) ?_
  refine lf (a_invS (b2 := (0, 0)) (Ct.int (y := 1) (by decide) (m_in (nI 11) 0 11)) rfl dX11_count_5 yk_X11_in sm_X11_in ml_X11_102 rfl (by decide) (by decide) (Nat.le_of_ble_eq_true rfl)) ?_
  refine lf2 (a_if_eq (tgt := 15) dX11_count_8 (by decide)) (fun h8 => absurd h8 (by decide)) (fun h8 => ?_)
  refine lf (a_iconst (0 : Int32) dX11_count_11 (by decide)) ?_
  refine lf (a_goto (tgt := 16) dX11_count_12 (by decide)) ?_
  refine lf (a_inv (b2 := (0, 0)) (m_isRefused0 (by repeat (first | with_reducible exact hw | with_reducible exact hwc | with_reducible assumption | with_reducible apply Wf.sI | with_reducible apply Wf.sL | with_reducible apply Wf.cpI | with_reducible apply Wf.cpL | with_reducible apply Wf.cp2 | with_reducible apply Wf.sIs | with_reducible apply Wf.sLs | with_reducible apply Wf.cpU | with_reducible apply Wf.fillI | with_reducible apply Wf.clU | with_reducible apply Wf.dnF | with_reducible apply Wf.gbW))) rfl dX11_count_16 yk_X11_isRefused im_X11_isRefused se_X11_isRefused ml_X11_98 rfl (co_338 (by repeat (first | with_reducible exact hw | with_reducible exact hwc | with_reducible assumption | with_reducible apply Wf.sI | with_reducible apply Wf.sL | with_reducible apply Wf.cpI | with_reducible apply Wf.cpL | with_reducible apply Wf.cp2 | with_reducible apply Wf.sIs | with_reducible apply Wf.sLs | with_reducible apply Wf.cpU | with_reducible apply Wf.fillI | with_reducible apply Wf.clU | with_reducible apply Wf.dnF | with_reducible apply Wf.gbW))) (by decide) hc_X11 (by decide) (by decide) (Nat.le_of_ble_eq_true rfl)) ?_
  refine lf2 (a_if_eq (tgt := 24) dX11_count_19 (by decide)) (fun h19 => ?_) (fun h19 => absurd h19 (fun z => z rfl))
  refine lf (a_iload_n dX11_count_24 rfl) ?_
  refine lf (a_bipush (9 : Int32) dX11_count_25 (by decide)) ?_
  refine lfn (a_icmp_ne (tgt := 35) dX11_count_27 (by decide)) (fun h27 => ?_) (fun h27 => absurd h27 (by decide))
  refine lf (a_aload_n dX11_count_35 rfl) ?_
  refine lf (a_getR (cr_338_6 (by repeat (first | with_reducible exact hw | with_reducible exact hwc | with_reducible assumption | with_reducible apply Wf.sI | with_reducible apply Wf.sL | with_reducible apply Wf.cpI | with_reducible apply Wf.cpL | with_reducible apply Wf.cp2 | with_reducible apply Wf.sIs | with_reducible apply Wf.sLs | with_reducible apply Wf.cpU | with_reducible apply Wf.fillI | with_reducible apply Wf.clU | with_reducible apply Wf.dnF | with_reducible apply Wf.gbW))) dX11_count_36 fs_X11_26 rfl (co_338 (by repeat (first | with_reducible exact hw | with_reducible exact hwc | with_reducible assumption | with_reducible apply Wf.sI | with_reducible apply Wf.sL | with_reducible apply Wf.cpI | with_reducible apply Wf.cpL | with_reducible apply Wf.cp2 | with_reducible apply Wf.sIs | with_reducible apply Wf.sLs | with_reducible apply Wf.cpU | with_reducible apply Wf.fillI | with_reducible apply Wf.clU | with_reducible apply Wf.dnF | with_reducible apply Wf.gbW)))) ?_
  refine lf (a_iconst (0 : Int32) dX11_count_39 (by decide)) ?_
  refine lf (a_ild dX11_count_40 (ca_344 (by repeat (first | with_reducible exact hw | with_reducible exact hwc | with_reducible assumption | with_reducible apply Wf.sI | with_reducible apply Wf.sL | with_reducible apply Wf.cpI | with_reducible apply Wf.cpL | with_reducible apply Wf.cp2 | with_reducible apply Wf.sIs | with_reducible apply Wf.sLs | with_reducible apply Wf.cpU | with_reducible apply Wf.fillI | with_reducible apply Wf.clU | with_reducible apply Wf.dnF | with_reducible apply Wf.gbW))) (ixn (m := 0) (by omega) (by decide))) ?_
  rw [hv1.s0]
  refine lfn (a_if_ne (tgt := 46) dX11_count_41 (by decide)) (fun h41 => ?_) (fun h41 => absurd h41 h0)
  refine lf (a_iload_n dX11_count_46 rfl) ?_
  refine lf (a_tsOut (tgt := 153) dX11_count_47 (by decide) (by decide)) ?_
  refine lf (a_aload_n dX11_count_153 rfl) ?_
  refine lf (a_getR (cr_338_1 (by repeat (first | with_reducible exact hw | with_reducible exact hwc | with_reducible assumption | with_reducible apply Wf.sI | with_reducible apply Wf.sL | with_reducible apply Wf.cpI | with_reducible apply Wf.cpL | with_reducible apply Wf.cp2 | with_reducible apply Wf.sIs | with_reducible apply Wf.sLs | with_reducible apply Wf.cpU | with_reducible apply Wf.fillI | with_reducible apply Wf.clU | with_reducible apply Wf.dnF | with_reducible apply Wf.gbW))) dX11_count_154 fs_X11_7 rfl (co_338 (by repeat (first | with_reducible exact hw | with_reducible exact hwc | with_reducible assumption | with_reducible apply Wf.sI | with_reducible apply Wf.sL | with_reducible apply Wf.cpI | with_reducible apply Wf.cpL | with_reducible apply Wf.cp2 | with_reducible apply Wf.sIs | with_reducible apply Wf.sLs | with_reducible apply Wf.cpU | with_reducible apply Wf.fillI | with_reducible apply Wf.clU | with_reducible apply Wf.dnF | with_reducible apply Wf.gbW)))) ?_
  refine lf (a_iload_n dX11_count_157 rfl) ?_
  refine lf (a_bipush (10 : Int32) dX11_count_158 (by decide)) ?_
  refine lfn (a_icmp_ne (tgt := 167) dX11_count_160 (by decide)) (fun h160 => ?_) (fun h160 => absurd h160 (by decide))
  refine lf (a_iconst (4 : Int32) dX11_count_167 (by decide)) ?_
  refine lf (a_ild dX11_count_168 (ca_339 (by repeat (first | with_reducible exact hw | with_reducible exact hwc | with_reducible assumption | with_reducible apply Wf.sI | with_reducible apply Wf.sL | with_reducible apply Wf.cpI | with_reducible apply Wf.cpL | with_reducible apply Wf.cp2 | with_reducible apply Wf.sIs | with_reducible apply Wf.sLs | with_reducible apply Wf.cpU | with_reducible apply Wf.fillI | with_reducible apply Wf.clU | with_reducible apply Wf.dnF | with_reducible apply Wf.gbW))) (ixn (m := 4) (by omega) (by decide))) ?_
  rw [hv1.p4]
  refine ⟨_, _, (a_ireturn dX11_count_169 rfl rfl), ?_⟩
  exact ⟨_, rfl, rfl, MqQ.of hw 0⟩

theorem m_count_9 (hw : Wf μ) (hv : MdV μ q d) {hn : Nat} (hu : gI μ 338 14 = nI hn) : CV Y_X11_count R_X11_count [.ref 338, .int (nI 9)] μ (fun v V => v = some (.int (cnV q d hn 9)) ∧ MqQ μ 0 V) := by
  refine CV.ent yk_X11_count (Nat.le_of_ble_eq_true rfl) ?_
  refine lf (a_aload_n dX11_count_0 rfl) ?_
  refine lf (a_iload_n dX11_count_1 rfl) ?_
  refine lf (a_iconst (0 : Int32) dX11_count_2 (by decide)) ?_
  refine lf (a_bipush (11 : Int32) dX11_count_3 (by decide)) ?_
  refine lf (a_invS (b2 := (0, 0)) (Ct.int (y := 1) (by decide) (m_in (nI 9) 0 11)) rfl dX11_count_5 yk_X11_in sm_X11_in ml_X11_102 rfl (by decide) (by decide) (Nat.le_of_ble_eq_true rfl)) ?_
  refine lf2 (a_if_eq (tgt := 15) dX11_count_8 (by decide)) (fun h8 => absurd h8 (by decide)) (fun h8 => ?_)
  refine lf (a_iconst (0 : Int32) dX11_count_11 (by decide)) ?_
  refine lf (a_goto (tgt := 16) dX11_count_12 (by decide)) ?_
  refine lf (a_inv (b2 := (0, 0)) (m_isRefused0 (by repeat (first | with_reducible exact hw | with_reducible exact hwc | with_reducible assumption | with_reducible apply Wf.sI | with_reducible apply Wf.sL | with_reducible apply Wf.cpI | with_reducible apply Wf.cpL | with_reducible apply Wf.cp2 | with_reducible apply Wf.sIs | with_reducible apply Wf.sLs | with_reducible apply Wf.cpU | with_reducible apply Wf.fillI | with_reducible apply Wf.clU | with_reducible apply Wf.dnF | with_reducible apply Wf.gbW))) rfl dX11_count_16 yk_X11_isRefused im_X11_isRefused se_X11_isRefused ml_X11_98 rfl (co_338 (by repeat (first | with_reducible exact hw | with_reducible exact hwc | with_reducible assumption | with_reducible apply Wf.sI | with_reducible apply Wf.sL | with_reducible apply Wf.cpI | with_reducible apply Wf.cpL | with_reducible apply Wf.cp2 | with_reducible apply Wf.sIs | with_reducible apply Wf.sLs | with_reducible apply Wf.cpU | with_reducible apply Wf.fillI | with_reducible apply Wf.clU | with_reducible apply Wf.dnF | with_reducible apply Wf.gbW))) (by decide) hc_X11 (by decide) (by decide) (Nat.le_of_ble_eq_true rfl)) ?_
  refine lf2 (a_if_eq (tgt := 24) dX11_count_19 (by decide)) (fun h19 => ?_) (fun h19 => absurd h19 (fun z => z rfl))
  refine lf (a_iload_n dX11_count_24 rfl) ?_
  refine lf (a_bipush (9 : Int32) dX11_count_25 (by decide)) ?_
  refine lfn (a_icmp_ne (tgt := 35) dX11_count_27 (by decide)) (fun h27 => absurd h27 (by decide)) (fun h27 => ?_)
  refine lf (a_aload_n dX11_count_30 rfl) ?_
  refine lf (a_getI dX11_count_31 fs_X11_95 rfl (co_338 (by repeat (first | with_reducible exact hw | with_reducible exact hwc | with_reducible assumption | with_reducible apply Wf.sI | with_reducible apply Wf.sL | with_reducible apply Wf.cpI | with_reducible apply Wf.cpL | with_reducible apply Wf.cp2 | with_reducible apply Wf.sIs | with_reducible apply Wf.sLs | with_reducible apply Wf.cpU | with_reducible apply Wf.fillI | with_reducible apply Wf.clU | with_reducible apply Wf.dnF | with_reducible apply Wf.gbW)))) ?_
  rw [gI_sI, if_neg (by omega), hu]
  refine ⟨_, _, (a_ireturn dX11_count_34 rfl rfl), ?_⟩
  exact ⟨_, rfl, rfl, MqQ.of hw 0⟩
theorem m_count_z (hw : Wf μ) (hv : MdV μ q d) (h0 : pF q 9 0 = 0) {k : Nat} (hk : k < 12) (h9 : k ≠ 9) : CV Y_X11_count R_X11_count [.ref 338, .int (nI k)] μ (fun v V => v = some (.int 0) ∧ MqQ μ 0 V) := by
  have hv1 : MdV (sI μ 338 0 0) q d := hv.th 0
  have h1 : inI (nI k) 0 11 = 1 := (inI_ix (x := nI k) (n := 12) (by decide)).trans (isO_lt hk (by decide))
  refine CV.ent yk_X11_count (Nat.le_of_ble_eq_true rfl) ?_
  refine lf (a_aload_n dX11_count_0 rfl) ?_
  refine lf (a_iload_n dX11_count_1 rfl) ?_
  refine lf (a_iconst (0 : Int32) dX11_count_2 (by decide)) ?_
  refine lf (a_bipush (11 : Int32) dX11_count_3 (by decide)) ?_
  refine lf (a_invS (b2 := (0, 0)) (Ct.int h1 (m_in (nI k) 0 11)) rfl dX11_count_5 yk_X11_in sm_X11_in ml_X11_102 rfl (by decide) (by decide) (Nat.le_of_ble_eq_true rfl)) ?_
  refine lf2 (a_if_eq (tgt := 15) dX11_count_8 (by decide)) (fun h8 => absurd h8 (by decide)) (fun h8 => ?_)
  refine lf (a_iconst (0 : Int32) dX11_count_11 (by decide)) ?_
  refine lf (a_goto (tgt := 16) dX11_count_12 (by decide)) ?_
  refine lf (a_inv (b2 := (0, 0)) (m_isRefused0 (by repeat (first | with_reducible exact hw | with_reducible exact hwc | with_reducible assumption | with_reducible apply Wf.sI | with_reducible apply Wf.sL | with_reducible apply Wf.cpI | with_reducible apply Wf.cpL | with_reducible apply Wf.cp2 | with_reducible apply Wf.sIs | with_reducible apply Wf.sLs | with_reducible apply Wf.cpU | with_reducible apply Wf.fillI | with_reducible apply Wf.clU | with_reducible apply Wf.dnF | with_reducible apply Wf.gbW))) rfl dX11_count_16 yk_X11_isRefused im_X11_isRefused se_X11_isRefused ml_X11_98 rfl (co_338 (by repeat (first | with_reducible exact hw | with_reducible exact hwc | with_reducible assumption | with_reducible apply Wf.sI | with_reducible apply Wf.sL | with_reducible apply Wf.cpI | with_reducible apply Wf.cpL | with_reducible apply Wf.cp2 | with_reducible apply Wf.sIs | with_reducible apply Wf.sLs | with_reducible apply Wf.cpU | with_reducible apply Wf.fillI | with_reducible apply Wf.clU | with_reducible apply Wf.dnF | with_reducible apply Wf.gbW))) (by decide) hc_X11 (by decide) (by decide) (Nat.le_of_ble_eq_true rfl)) ?_
  refine lf2 (a_if_eq (tgt := 24) dX11_count_19 (by decide)) (fun h19 => ?_) (fun h19 => absurd h19 (fun z => z rfl))
  refine lf (a_iload_n dX11_count_24 rfl) ?_
  refine lf (a_bipush (9 : Int32) dX11_count_25 (by decide)) ?_
  refine lfn (a_icmp_ne (tgt := 35) dX11_count_27 (by decide)) (fun h27 => ?_) (fun h27 => absurd h27 (fun z => h9 ((nI_eqI (a := k) (b := 9) (by omega) (by decide)).mp z)))
  refine lf (a_aload_n dX11_count_35 rfl) ?_
  refine lf (a_getR (cr_338_6 (by repeat (first | with_reducible exact hw | with_reducible exact hwc | with_reducible assumption | with_reducible apply Wf.sI | with_reducible apply Wf.sL | with_reducible apply Wf.cpI | with_reducible apply Wf.cpL | with_reducible apply Wf.cp2 | with_reducible apply Wf.sIs | with_reducible apply Wf.sLs | with_reducible apply Wf.cpU | with_reducible apply Wf.fillI | with_reducible apply Wf.clU | with_reducible apply Wf.dnF | with_reducible apply Wf.gbW))) dX11_count_36 fs_X11_26 rfl (co_338 (by repeat (first | with_reducible exact hw | with_reducible exact hwc | with_reducible assumption | with_reducible apply Wf.sI | with_reducible apply Wf.sL | with_reducible apply Wf.cpI | with_reducible apply Wf.cpL | with_reducible apply Wf.cp2 | with_reducible apply Wf.sIs | with_reducible apply Wf.sLs | with_reducible apply Wf.cpU | with_reducible apply Wf.fillI | with_reducible apply Wf.clU | with_reducible apply Wf.dnF | with_reducible apply Wf.gbW)))) ?_
  refine lf (a_iconst (0 : Int32) dX11_count_39 (by decide)) ?_
  refine lf (a_ild dX11_count_40 (ca_344 (by repeat (first | with_reducible exact hw | with_reducible exact hwc | with_reducible assumption | with_reducible apply Wf.sI | with_reducible apply Wf.sL | with_reducible apply Wf.cpI | with_reducible apply Wf.cpL | with_reducible apply Wf.cp2 | with_reducible apply Wf.sIs | with_reducible apply Wf.sLs | with_reducible apply Wf.cpU | with_reducible apply Wf.fillI | with_reducible apply Wf.clU | with_reducible apply Wf.dnF | with_reducible apply Wf.gbW))) (ixn (m := 0) (by omega) (by decide))) ?_
  rw [hv1.s0]
  refine lfn (a_if_ne (tgt := 46) dX11_count_41 (by decide)) (fun h41 => absurd h41 (fun z => z h0)) (fun h41 => ?_)
  refine lf (a_iconst (0 : Int32) dX11_count_44 (by decide)) ?_
  refine ⟨_, _, (a_ireturn dX11_count_45 rfl rfl), ?_⟩
  exact ⟨_, rfl, rfl, MqQ.of hw 0⟩
theorem itN_id {α : Type} (f : Nat → α → α) (a : α) (h : ∀ i, f i a = a) : ∀ n, itN f a n = a
  | 0 => rfl
  | n + 1 => by rw [itN_succ, itN_id f a h n, h]
theorem cn_z (h0 : pF q 9 0 = 0) (hz : NoF q d) (hp : pC q = 0 ∧ pM q = 0 ∧ pT q = 0) (hn : Nat) {k : Nat} (hk : k < 12) (h9 : k ≠ 9) : cnV q d hn k = 0 := by
  obtain ⟨z1, z2, z3, z4, z5⟩ := hz h0
  obtain ⟨p1, p2, p3⟩ := hp
  rcases (by omega : k = 0 ∨ k = 1 ∨ k = 2 ∨ k = 3 ∨ k = 4 ∨ k = 5 ∨ k = 6 ∨ k = 7 ∨ k = 8 ∨ k = 10 ∨ k = 11) with rfl | rfl | rfl | rfl | rfl | rfl | rfl | rfl | rfl | rfl | rfl
  · exact if_pos h0
  · show nI (pC q) = 0; rw [p1]; rfl
  · show nI (pM q) = 0; rw [p2]; rfl
  · show nI (dP d) = 0; rw [z1]; rfl
  · show nI (pT q) = 0; rw [p3]; rfl
  · exact z3
  · show nI (dU d) = 0; rw [z2]; rfl
  · show itN _ 0 (pT q) = 0; rw [p3]; rfl
  · show itN (fun i a => a + orD q d i) 0 12 = 0
    have e : orD q d = fun _ => 0 := by unfold orD; rw [z1, p1]; rfl
    rw [e]; rfl
  · exact z4
  · exact z5
theorem m_count (hw : Wf μ) (hv : MdV μ q d) (hq0 : GdP q) (hd0 : GdD q d) (hz : NoF q d) {hn : Nat} (hu : gI μ 338 14 = nI hn) {k : Nat} (hk : k < 12) : CV Y_X11_count R_X11_count [.ref 338, .int (nI k)] μ (fun v V => v = some (.int (cnV q d hn k)) ∧ MqQ μ 0 V) := by
  by_cases h9 : k = 9
  · subst h9; exact m_count_9 hw hv hu
  by_cases h0 : pF q 9 0 = 0
  · rw [cn_z h0 hz (hv.z h0) hn hk h9]; exact m_count_z hw hv h0 hk h9
  rcases (by omega : k = 0 ∨ k = 1 ∨ k = 2 ∨ k = 3 ∨ k = 4 ∨ k = 5 ∨ k = 6 ∨ k = 7 ∨ k = 8 ∨ k = 10 ∨ k = 11) with rfl | rfl | rfl | rfl | rfl | rfl | rfl | rfl | rfl | rfl | rfl
  · exact m_count_0 hw hv hq0 hd0 h0 hn
  · exact m_count_1 hw hv hq0 hd0 h0 hn
  · exact m_count_2 hw hv hq0 hd0 h0 hn
  · exact m_count_3 hw hv hq0 hd0 h0 hn
  · exact m_count_4 hw hv hq0 hd0 h0 hn
  · exact m_count_5 hw hv hq0 hd0 h0 hn
  · exact m_count_6 hw hv hq0 hd0 h0 hn
  · exact m_count_7 hw hv hq0 hd0 h0 hn
  · exact m_count_8 hw hv hq0 hd0 h0 hn
  · exact m_count_10 hw hv hq0 hd0 h0 hn
  · exact m_count_11 hw hv hq0 hd0 h0 hn

theorem mx_count (hw : Wf μ) (hv : MdV μ q d) {x : Int32} (h : ixO x 12 = none) : Ct Y_X11_count R_X11_count [.ref 338, .int x] μ (.inl (some (.int (0)))) (sI μ 338 0 1) := by
  refine Ct.ent yk_X11_count (Nat.le_of_ble_eq_true rfl) ?_
  have h2 : inI x 0 11 = 0 := (inI_ix (x := x) (n := 12) (by decide)).trans (isO_none h)
  refine a_aload_n dX11_count_0 rfl ?_
  refine a_iload_n dX11_count_1 rfl ?_
  refine a_iconst (0 : Int32) dX11_count_2 (by decide) ?_
  refine a_bipush (11 : Int32) dX11_count_3 (by decide) ?_
  refine a_invS (b2 := (0, 0)) (Ct.int h2 (m_in x 0 11)) rfl dX11_count_5 yk_X11_in sm_X11_in ml_X11_102 rfl (by decide) (by decide) (Nat.le_of_ble_eq_true rfl) ?_
  refine a_if_eq (tgt := 15) dX11_count_8 (by decide) (fun h8 => ?_) (fun h8 => absurd h8 (fun z => z rfl))
  refine a_iconst (1 : Int32) dX11_count_15 (by decide) ?_
  refine a_inv (b2 := (0, 0)) (m_isRefused1 (by repeat (first | with_reducible exact hw | with_reducible exact hwc | with_reducible assumption | with_reducible apply Wf.sI | with_reducible apply Wf.sL | with_reducible apply Wf.cpI | with_reducible apply Wf.cpL | with_reducible apply Wf.cp2 | with_reducible apply Wf.sIs | with_reducible apply Wf.sLs | with_reducible apply Wf.cpU | with_reducible apply Wf.fillI | with_reducible apply Wf.clU | with_reducible apply Wf.dnF | with_reducible apply Wf.gbW)) (v := 1) (by decide)) rfl dX11_count_16 yk_X11_isRefused im_X11_isRefused se_X11_isRefused ml_X11_98 rfl (co_338 (by repeat (first | with_reducible exact hw | with_reducible exact hwc | with_reducible assumption | with_reducible apply Wf.sI | with_reducible apply Wf.sL | with_reducible apply Wf.cpI | with_reducible apply Wf.cpL | with_reducible apply Wf.cp2 | with_reducible apply Wf.sIs | with_reducible apply Wf.sLs | with_reducible apply Wf.cpU | with_reducible apply Wf.fillI | with_reducible apply Wf.clU | with_reducible apply Wf.dnF | with_reducible apply Wf.gbW))) (by decide) hc_X11 (by decide) (by decide) (Nat.le_of_ble_eq_true rfl) ?_
  refine a_if_eq (tgt := 24) dX11_count_19 (by decide) (fun h19 => absurd h19 (by decide)) (fun h19 => ?_)
  refine a_iconst (0 : Int32) dX11_count_22 (by decide) ?_
  exact a_out rfl rfl (a_ireturn dX11_count_23 rfl rfl)
end MODELV
