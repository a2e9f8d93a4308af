section SERVICG
variable {μ : Wd} {W : Wd} {p f : Nat} {q : PDt} {d : FDt} {g : Nat → Option Nat} {cap : Nat → Nat}
theorem SvV.cg4 {k M fed fed2 wm wm2 : Nat} {G G2 : Nat → Option Nat} {rs rs2 ea ea2 : Nat → Nat} (h : SvV W k M G rs ea fed wm) (h0 : ∀ i, i < k → G i = G2 i) (h1 : ∀ m, m < M → rs m = rs2 m) (h2 : ∀ m, m < M → ea m = ea2 m) (h3 : fed = fed2) (h4 : wm = wm2) : SvV W k M G2 rs2 ea2 fed2 wm2 :=
  ⟨fun i hi => h0 i hi ▸ h.1 i hi, fun m hm => ⟨h1 m hm ▸ (h.2.1 m hm).1, h2 m hm ▸ (h.2.1 m hm).2⟩, h3 ▸ h.2.2.1, h4 ▸ h.2.2.2⟩
theorem cnt_succ (g : Nat → Option Nat) (i m : Nat) : cntG g (i + 1) m = cntG g i m + if g i = some m then 1 else 0 := by
  show fb_ct _ (i + 1) = _
  rw [fb_ct_succ]
  simp only [decide_eq_true_eq]
  rfl
theorem sz_succ (g : Nat → Option Nat) (i : Nat) : szG g (i + 1) = szG g i + if (g i).isSome then 1 else 0 := rfl
theorem cnt_mono (g : Nat → Option Nat) {i P : Nat} (h : i ≤ P) (m : Nat) : cntG g i m ≤ cntG g P m := fb_ct_mono _ h
/-- what the service leaves -/
def SvcQ (μ : Wd) (q : PDt) (d : FDt) (cap : Nat → Nat) (g : Nat → Option Nat) (V : Wd) : Prop :=
  Out sV μ V ∧ ∃ (G : Nat → Option Nat) (rs : Nat → Nat), (G, rs) = svD q d g (fun m => cap m - cntG g (dP d) m) (dP d) ∧ SvV V (dP d) (pM q) G rs (cntG G (dP d)) (szG G (dP d)) (wmG d G (dP d)) ∧ gI V 334 3 = nI (szG g (dP d)) ∧ gI V 334 5 = waS rs (pM q) ∧ gI V 334 6 = wcS q rs (pM q)
abbrev R_X8_reckon : Room := { frames := 2, cells := 0, slots := 0, locals := 48 }
abbrev RX_X8_reckon : Room := { frames := 2, cells := 1, slots := 6, locals := 48 }

theorem l_X8_reckon_20 (hv0 : FV μ f p d) (hq0 : PV μ p q) (hcap : ∀ k, k < pM q → ldD q d k = nI (cap k)) {Q : Oc → Wd → Prop} (kx : ∀ W : Wd, (Out sV μ W ∧ gI W 334 4 = 0 ∧ gI W 334 7 = 0 ∧ (∀ k, k < 12 → gI W 337 k = 0) ∧ ∀ k, k < (pM q) → gI W 336 k = nI (cap k)) → WP Y_X8_reckon R_X8_reckon (0, 0) W 48 [(0, .ref 334), (1, .ref f), (2, .ref 329), (3, .int (nI (pM q)))] [] Q) : ∀ dd m (W : Wd), m + dd = (pM q) → (Out sV μ W ∧ gI W 334 4 = 0 ∧ gI W 334 7 = 0 ∧ (∀ k, k < 12 → gI W 337 k = 0) ∧ ∀ k, k < m → gI W 336 k = nI (cap k)) → WP Y_X8_reckon R_X8_reckon (0, 0) W 20 [(0, .ref 334), (1, .ref f), (2, .ref 329), (3, .int (nI m))] [] Q := by
  have hM4 := hq0.M4
  have hP4 := hv0.P4
  have hf := hv0.fl
  have hpl := hq0.pl
  intro dd
  induction dd with
  | zero =>
    intro m W hm hI
    obtain rfl : (pM q) = m := by omega
    have hw := hI.1.1
    have hv := hv0.hi hI.1 sV_hi
    have hq := hq0.hi hI.1 sV_hi
    have hp := hv.rp
    refine lf (a_iload_n dX8_reckon_20 rfl) ?_
    refine lf (a_aload_n dX8_reckon_21 rfl) ?_
    refine lf (a_getR hp dX8_reckon_22 fs_X8_34 rfl (fl_o hw hf)) ?_
    refine lf (a_getI dX8_reckon_25 fs_X8_40 rfl (pl_o hw hpl)) ?_
    rw [hq.hM]
    refine lf2 (a_icmp_ge (tgt := 48) dX8_reckon_28 (by decide)) (fun h28 => ?_) (fun h28 => absurd h28 (fun z => z (nI_le (Nat.le_refl _) (by omega))))
    exact lf (a_loc _ rfl) (kx W hI)
  | succ dd ih =>
    intro m W hm hI
    have hw := hI.1.1
    have hv := hv0.hi hI.1 sV_hi
    have hq := hq0.hi hI.1 sV_hi
    have hp := hv.rp
    have hm12 : m < 12 := by omega
    refine lf (a_iload_n dX8_reckon_20 rfl) ?_
    refine lf (a_aload_n dX8_reckon_21 rfl) ?_
    refine lf (a_getR hp dX8_reckon_22 fs_X8_34 rfl (fl_o (by repeat (first | with_reducible exact hw | with_reducible exact hwc | with_reducible assumption | with_reducible apply Wf.sI | with_reducible apply Wf.sL | with_reducible apply Wf.cpI | with_reducible apply Wf.cpL | with_reducible apply Wf.cp2 | with_reducible apply Wf.sIs | with_reducible apply Wf.sLs | with_reducible apply Wf.cpU | with_reducible apply Wf.fillI | with_reducible apply Wf.clU | with_reducible apply Wf.dnF | with_reducible apply Wf.gbW | with_reducible apply Wf.gvW)) hf)) ?_
    refine lf (a_getI dX8_reckon_25 fs_X8_40 rfl (pl_o (by repeat (first | with_reducible exact hw | with_reducible exact hwc | with_reducible assumption | with_reducible apply Wf.sI | with_reducible apply Wf.sL | with_reducible apply Wf.cpI | with_reducible apply Wf.cpL | with_reducible apply Wf.cp2 | with_reducible apply Wf.sIs | with_reducible apply Wf.sLs | with_reducible apply Wf.cpU | with_reducible apply Wf.fillI | with_reducible apply Wf.clU | with_reducible apply Wf.dnF | with_reducible apply Wf.gbW | with_reducible apply Wf.gvW)) hpl)) ?_
    rw [hq.hM]
    refine lf2 (a_icmp_ge (tgt := 48) dX8_reckon_28 (by decide)) (fun h28 => absurd h28 (nI_ge (by omega) (by omega))) (fun h28 => ?_)
    refine lf (a_aload_n dX8_reckon_31 rfl) ?_
    refine lf (a_getR (cr_334_1 (by repeat (first | with_reducible exact hw | with_reducible exact hwc | with_reducible assumption | with_reducible apply Wf.sI | with_reducible apply Wf.sL | with_reducible apply Wf.cpI | with_reducible apply Wf.cpL | with_reducible apply Wf.cp2 | with_reducible apply Wf.sIs | with_reducible apply Wf.sLs | with_reducible apply Wf.cpU | with_reducible apply Wf.fillI | with_reducible apply Wf.clU | with_reducible apply Wf.dnF | with_reducible apply Wf.gbW | with_reducible apply Wf.gvW))) dX8_reckon_32 fs_X8_15 rfl (co_334 (by repeat (first | with_reducible exact hw | with_reducible exact hwc | with_reducible assumption | with_reducible apply Wf.sI | with_reducible apply Wf.sL | with_reducible apply Wf.cpI | with_reducible apply Wf.cpL | with_reducible apply Wf.cp2 | with_reducible apply Wf.sIs | with_reducible apply Wf.sLs | with_reducible apply Wf.cpU | with_reducible apply Wf.fillI | with_reducible apply Wf.clU | with_reducible apply Wf.dnF | with_reducible apply Wf.gbW | with_reducible apply Wf.gvW)))) ?_
    refine lf (a_iload_n dX8_reckon_35 rfl) ?_
    refine lf (a_aload_n dX8_reckon_36 rfl) ?_
    refine lf (a_iload_n dX8_reckon_37 rfl) ?_
    refine lf (a_inv (b2 := (0, 0)) (v_X1_loadedOf (by repeat (first | with_reducible exact hw | with_reducible exact hwc | with_reducible assumption | with_reducible apply Wf.sI | with_reducible apply Wf.sL | with_reducible apply Wf.cpI | with_reducible apply Wf.cpL | with_reducible apply Wf.cp2 | with_reducible apply Wf.sIs | with_reducible apply Wf.sLs | with_reducible apply Wf.cpU | with_reducible apply Wf.fillI | with_reducible apply Wf.clU | with_reducible apply Wf.dnF | with_reducible apply Wf.gbW | with_reducible apply Wf.gvW)) hv hq hm12) rfl dX8_reckon_38 yk_X1_loadedOf im_X1_loadedOf se_X1_loadedOf ml_X8_45 rfl (fl_o (by repeat (first | with_reducible exact hw | with_reducible exact hwc | with_reducible assumption | with_reducible apply Wf.sI | with_reducible apply Wf.sL | with_reducible apply Wf.cpI | with_reducible apply Wf.cpL | with_reducible apply Wf.cp2 | with_reducible apply Wf.sIs | with_reducible apply Wf.sLs | with_reducible apply Wf.cpU | with_reducible apply Wf.fillI | with_reducible apply Wf.clU | with_reducible apply Wf.dnF | with_reducible apply Wf.gbW | with_reducible apply Wf.gvW)) hf) (by decide) hc_X1 (by decide) (by decide) (Nat.le_of_ble_eq_true rfl)) ?_
    rw [hcap m (by omega)]
    refine lf (a_ist dX8_reckon_41 (ca_336 (by repeat (first | with_reducible exact hw | with_reducible exact hwc | with_reducible assumption | with_reducible apply Wf.sI | with_reducible apply Wf.sL | with_reducible apply Wf.cpI | with_reducible apply Wf.cpL | with_reducible apply Wf.cp2 | with_reducible apply Wf.sIs | with_reducible apply Wf.sLs | with_reducible apply Wf.cpU | with_reducible apply Wf.fillI | with_reducible apply Wf.clU | with_reducible apply Wf.dnF | with_reducible apply Wf.gbW | with_reducible apply Wf.gvW))) (ixn (by omega) (by decide))) ?_
    refine lf (a_iincN dX8_reckon_42 rfl (by decide)) ?_
    refine lf (a_goto (tgt := 20) dX8_reckon_45 (by decide)) ?_
    refine lf (a_loc _ rfl) (ih (m + 1) _ (by omega) ⟨hI.1.sI ⟨by decide, by decide⟩ _ _, by rw [gI_sI, if_neg (by omega)]; exact hI.2.1, by rw [gI_sI, if_neg (by omega)]; exact hI.2.2.1, fun k hk => by rw [gI_sI, if_neg (by omega)]; exact hI.2.2.2.1 k hk, fun k hk => ?_⟩)
    rw [gI_sI]
    by_cases z : k = m
    · subst z; rw [if_pos ⟨rfl, rfl⟩]
    · rw [if_neg (fun e => z e.2)]; exact hI.2.2.2.2 k (by omega)
theorem l_X8_reckon_50 (hv0 : FV μ f p d) (hq0 : PV μ p q) (hgo : ∀ i, i < dP d → gI μ 329 i = oI (g i)) (hgv : ∀ i m, i < dP d → g i = some m → m < pM q) (hgc : ∀ m, m < pM q → cntG g (dP d) m ≤ cap m) {Q : Oc → Wd → Prop} (kx : ∀ W : Wd, (Out sV μ W ∧ SvV W (dP d) (pM q) g (fun y => cap y - cntG g (dP d) y) (cntG g (dP d)) (szG g (dP d)) 0) → WP Y_X8_reckon R_X8_reckon (0, 0) W 72 [(0, .ref 334), (1, .ref f), (2, .ref 329), (3, .int (nI (dP d)))] [] Q) : ∀ dd m (W : Wd), m + dd = (dP d) → (Out sV μ W ∧ SvV W m (pM q) g (fun y => cap y - cntG g m y) (cntG g m) (szG g m) 0) → WP Y_X8_reckon R_X8_reckon (0, 0) W 50 [(0, .ref 334), (1, .ref f), (2, .ref 329), (3, .int (nI m))] [] Q := by
  have hM4 := hq0.M4
  have hP4 := hv0.P4
  have hf := hv0.fl
  have hpl := hq0.pl
  intro dd
  induction dd with
  | zero =>
    intro m W hm hI
    obtain rfl : (dP d) = m := by omega
    have hw := hI.1.1
    have hv := hv0.hi hI.1 sV_hi
    have hq := hq0.hi hI.1 sV_hi
    have hp := hv.rp
    refine lf (a_iload_n dX8_reckon_50 rfl) ?_
    refine lf (a_aload_n dX8_reckon_51 rfl) ?_
    refine lf (a_getI dX8_reckon_52 fs_X8_49 rfl (fl_o hw hf)) ?_
    rw [hv.hP]
    refine lf2 (a_icmp_ge (tgt := 72) dX8_reckon_55 (by decide)) (fun h55 => ?_) (fun h55 => absurd h55 (fun z => z (nI_le (Nat.le_refl _) (by omega))))
    exact lf (a_loc _ rfl) (kx W hI)
  | succ dd ih =>
    intro m W hm hI
    have hw := hI.1.1
    have hv := hv0.hi hI.1 sV_hi
    have hq := hq0.hi hI.1 sV_hi
    have hp := hv.rp
    have hm40 : m < 40 := by omega
    have hx : ∀ k, g m = some k → k < pM q ∧ 0 < cap k - cntG g m k := fun k e => by
      have h1 := hgv m k (by omega) e
      have h2 := hgc k h1
      have h3 := cnt_mono g (show m + 1 ≤ dP d by omega) k
      rw [cnt_succ, if_pos e] at h3
      exact ⟨h1, by omega⟩
    refine lf (a_iload_n dX8_reckon_50 rfl) ?_
    refine lf (a_aload_n dX8_reckon_51 rfl) ?_
    refine lf (a_getI dX8_reckon_52 fs_X8_49 rfl (fl_o hw hf)) ?_
    rw [hv.hP]
    refine lf2 (a_icmp_ge (tgt := 72) dX8_reckon_55 (by decide)) (fun h55 => absurd h55 (nI_ge (by omega) (by omega))) (fun h55 => ?_)
    refine lf (a_aload_n dX8_reckon_58 rfl) ?_
    refine lf (a_iload_n dX8_reckon_59 rfl) ?_
    refine lf (a_aload_n dX8_reckon_60 rfl) ?_
    refine lf (a_iload_n dX8_reckon_61 rfl) ?_
    refine lf (a_ild dX8_reckon_62 (ca_329 hw) (ixn hm40 (by decide))) ?_
    rw [show gI W 329 m = oI (g m) from (hI.1.i (by simp only [sV]; omega) m).trans (hgo m (by omega))]
    refine lf (a_inv (b2 := (0, 0)) (t_X8_give hw hm40 (fun k e => by have := (hx k e).1; omega)) rfl dX8_reckon_63 yk_X8_give im_X8_give se_X8_give ml_X8_52 rfl (co_334 hw) (by decide) hc_X8 (by decide) (by decide) (Nat.le_of_ble_eq_true rfl)) ?_
    refine lf (a_iincN dX8_reckon_66 rfl (by decide)) ?_
    refine lf (a_goto (tgt := 50) dX8_reckon_69 (by decide)) ?_
    refine lf (a_loc _ rfl) (ih (m + 1) _ (by omega) ⟨hI.1.gv ⟨by decide, by decide⟩ ⟨by decide, by decide⟩ ⟨by decide, by decide⟩ ⟨by decide, by decide⟩ _ _, (hI.2.gv (k2 := m + 1) m hx (fun j h1 h2 => by omega)).cg4 (fun i _ => ?_) (fun k hk => ?_) (fun k _ => (cnt_succ g m k).symm) rfl rfl⟩)
    · unfold up1
      split
      · next h => rw [h]
      · rfl
    · show deR (fun y => cap y - cntG g m y) (g m) k = cap k - cntG g (m + 1) k
      rw [cnt_succ]
      cases e : g m with
      | none => rw [if_neg (show ¬ (none = some k) from fun z => nomatch z)]; rfl
      | some j =>
        show up1 (fun y => cap y - cntG g m y) j (cap j - cntG g m j - 1) k = _
        by_cases z : k = j
        · subst z; rw [up1_eq, if_pos rfl]; omega
        · rw [up1_ne z, if_neg (show ¬ some j = some k from fun y => by injection y with y; exact z y.symm)]; rfl
theorem t_X8_reckon (hw : Wf μ) (hv : FV μ f p d) (hq : PV μ p q) (hwi : WiD q d) (hcap : ∀ k, k < pM q → ldD q d k = nI (cap k)) (hcb : ∀ m, m < pM q → cap m < 2 ^ 30) (hgo : ∀ i, i < dP d → gI μ 329 i = oI (g i)) (hgv : ∀ i m, i < dP d → g i = some m → m < pM q) (hgc : ∀ m, m < pM q → cntG g (dP d) m ≤ cap m) (hg0 : ∀ i, i < dP d → dF d 1 i = 0 → g i = none) :
    CV Y_X8_reckon R_X8_reckon [.ref 334, .ref f, .ref 329] μ (fun v V => v = none ∧ SvcQ μ q d cap g V) := by
  refine CV.ent yk_X8_reckon (Nat.le_of_ble_eq_true rfl) ?_
  have hf := hv.fl
  have hpl := hq.pl
  have hp := hv.rp
  have hwm0 : wmG d g (dP d) = 0 := fb_ct_zero.mpr fun k hk => decide_eq_false fun z => z.2.1 (hg0 k hk z.1)
  have hO1 : Out sV μ (fillI (sI (sI μ 334 4 0) 334 7 0) 337 12 0) := (((Out.rfl' hw).sI ⟨by decide, by decide⟩ _ _).sI ⟨by decide, by decide⟩ _ _).sIs fun i hi k => if_neg (show ¬ (i = 337 ∧ k < 12) from fun z => hi (by rw [z.1]; exact ⟨by decide, by decide⟩))
  have hfo : ∀ i k, i ≠ 337 → gI (fillI (sI (sI μ 334 4 0) 334 7 0) 337 12 0) i k = gI (sI (sI μ 334 4 0) 334 7 0) i k := fun i k z => if_neg fun y => z y.1
  refine lf (a_aload_n dX8_reckon_0 rfl) ?_
  refine lf (a_iconst (0 : Int32) dX8_reckon_1 (by decide)) ?_
  refine lf (a_putI dX8_reckon_2 fs_X8_21 rfl rfl rfl (co_334 (by repeat (first | with_reducible exact hw | with_reducible exact hwc | with_reducible assumption | with_reducible apply Wf.sI | with_reducible apply Wf.sL | with_reducible apply Wf.cpI | with_reducible apply Wf.cpL | with_reducible apply Wf.cp2 | with_reducible apply Wf.sIs | with_reducible apply Wf.sLs | with_reducible apply Wf.cpU | with_reducible apply Wf.fillI | with_reducible apply Wf.clU | with_reducible apply Wf.dnF | with_reducible apply Wf.gbW | with_reducible apply Wf.gvW)))) ?_
  refine lf (a_aload_n dX8_reckon_5 rfl) ?_
  refine lf (a_iconst (0 : Int32) dX8_reckon_6 (by decide)) ?_
  refine lf (a_putI dX8_reckon_7 fs_X8_25 rfl rfl rfl (co_334 (by repeat (first | with_reducible exact hw | with_reducible exact hwc | with_reducible assumption | with_reducible apply Wf.sI | with_reducible apply Wf.sL | with_reducible apply Wf.cpI | with_reducible apply Wf.cpL | with_reducible apply Wf.cp2 | with_reducible apply Wf.sIs | with_reducible apply Wf.sLs | with_reducible apply Wf.cpU | with_reducible apply Wf.fillI | with_reducible apply Wf.clU | with_reducible apply Wf.dnF | with_reducible apply Wf.gbW | with_reducible apply Wf.gvW)))) ?_
  refine lf (a_aload_n dX8_reckon_10 rfl) ?_
  refine lf (a_getR (cr_334_2 (by repeat (first | with_reducible exact hw | with_reducible exact hwc | with_reducible assumption | with_reducible apply Wf.sI | with_reducible apply Wf.sL | with_reducible apply Wf.cpI | with_reducible apply Wf.cpL | with_reducible apply Wf.cp2 | with_reducible apply Wf.sIs | with_reducible apply Wf.sLs | with_reducible apply Wf.cpU | with_reducible apply Wf.fillI | with_reducible apply Wf.clU | with_reducible apply Wf.dnF | with_reducible apply Wf.gbW | with_reducible apply Wf.gvW))) dX8_reckon_11 fs_X8_18 rfl (co_334 (by repeat (first | with_reducible exact hw | with_reducible exact hwc | with_reducible assumption | with_reducible apply Wf.sI | with_reducible apply Wf.sL | with_reducible apply Wf.cpI | with_reducible apply Wf.cpL | with_reducible apply Wf.cp2 | with_reducible apply Wf.sIs | with_reducible apply Wf.sLs | with_reducible apply Wf.cpU | with_reducible apply Wf.fillI | with_reducible apply Wf.clU | with_reducible apply Wf.dnF | with_reducible apply Wf.gbW | with_reducible apply Wf.gvW)))) ?_
  refine lf (a_iconst (0 : Int32) dX8_reckon_14 (by decide)) ?_
  refine lf (a_invS (b2 := (0, 0)) (t_J7_fill_53178 (ca_337 (by repeat (first | with_reducible exact hw | with_reducible exact hwc | with_reducible assumption | with_reducible apply Wf.sI | with_reducible apply Wf.sL | with_reducible apply Wf.cpI | with_reducible apply Wf.cpL | with_reducible apply Wf.cp2 | with_reducible apply Wf.sIs | with_reducible apply Wf.sLs | with_reducible apply Wf.cpU | with_reducible apply Wf.fillI | with_reducible apply Wf.clU | with_reducible apply Wf.dnF | with_reducible apply Wf.gbW | with_reducible apply Wf.gvW))) (by decide) 0) rfl dX8_reckon_15 yk_J7_fill_53178 sm_J7_fill_53178 ml_X8_28 rfl (by decide) (by decide) (Nat.le_of_ble_eq_true rfl)) ?_
  refine lf (a_iconst (0 : Int32) dX8_reckon_18 (by decide)) ?_
  refine lf (a_istore_n dX8_reckon_19 (by decide)) ?_
  refine lf (a_loc [(0, .ref 334), (1, .ref f), (2, .ref 329), (3, .int (nI 0))] rfl) (l_X8_reckon_20 hv hq hcap (fun W hI => ?_) (pM q) 0 _ (by omega) ⟨hO1, by rw [hfo 334 4 (by decide), gI_sI, if_neg (by omega), gI_sI, if_pos ⟨rfl, rfl⟩], by rw [hfo 334 7 (by decide), gI_sI, if_pos ⟨rfl, rfl⟩], fun k hk => if_pos ⟨rfl, hk⟩, fun k hk => by omega⟩)
  refine lf (a_iconst (0 : Int32) dX8_reckon_48 (by decide)) ?_
  refine lf (a_istore_n dX8_reckon_49 (by decide)) ?_
  refine lf (a_loc [(0, .ref 334), (1, .ref f), (2, .ref 329), (3, .int (nI 0))] rfl) (l_X8_reckon_50 hv hq hgo hgv hgc (fun W2 hI2 => ?_) (dP d) 0 W (by omega) ⟨hI.1, fun i hi => by omega, fun m hm => ⟨by rw [hI.2.2.2.2 m hm]; rfl, by have := hq.M4; rw [hI.2.2.2.1 m (by omega)]; rfl⟩, hI.2.1, hI.2.2.1⟩)
  have hw2 := hI2.1.1
  have hO3 : Out sV μ (sI W2 334 3 (nI (szG g (dP d)))) := hI2.1.sI ⟨by decide, by decide⟩ _ _
  have hv3 := hv.hi hO3 sV_hi
  have hq3 := hq.hi hO3 sV_hi
  have hsp : SvP q d cap 0 (g, fun m => cap m - cntG g (dP d) m) := ⟨fun m hm => by have := hgc m hm; show cap m - cntG g (dP d) m + cntG g (dP d) m = cap m; omega, fun j _ h1 h2 => hg0 j h1 h2, fun j m h1 h2 => hgv j m h1 h2⟩
  have hS3 : PlI (sI W2 334 3 (nI (szG g (dP d)))) q d g (fun m => cap m - cntG g (dP d) m) 0 (sI W2 334 3 (nI (szG g (dP d)))) := ⟨Out.rfl' hO3.1, rfl, by
    show SvV _ (dP d) (pM q) g (fun m => cap m - cntG g (dP d) m) (cntG g (dP d)) (szG g (dP d)) (wmG d g (dP d))
    rw [hwm0]
    exact ⟨fun i hi => by rw [gI_sI, if_neg (by omega)]; exact hI2.2.1 i hi, fun m hm => by rw [gI_sI, if_neg (by omega), gI_sI, if_neg (by omega)]; exact hI2.2.2.1 m hm, by rw [gI_sI, if_neg (by omega)]; exact hI2.2.2.2.1, by rw [gI_sI, if_neg (by omega)]; exact hI2.2.2.2.2⟩⟩
  have hp3 := hv3.rp
  have hw := hw2
  refine lf (a_aload_n dX8_reckon_72 rfl) ?_
  refine lf (a_aload_n dX8_reckon_73 rfl) ?_
  refine lf (a_getI dX8_reckon_74 fs_X8_21 rfl (co_334 (by repeat (first | with_reducible exact hw | with_reducible exact hwc | with_reducible assumption | with_reducible apply Wf.sI | with_reducible apply Wf.sL | with_reducible apply Wf.cpI | with_reducible apply Wf.cpL | with_reducible apply Wf.cp2 | with_reducible apply Wf.sIs | with_reducible apply Wf.sLs | with_reducible apply Wf.cpU | with_reducible apply Wf.fillI | with_reducible apply Wf.clU | with_reducible apply Wf.dnF | with_reducible apply Wf.gbW | with_reducible apply Wf.gvW)))) ?_
  rw [hI2.2.2.2.1]
  refine lf (a_putI dX8_reckon_77 fs_X8_56 rfl rfl rfl (co_334 (by repeat (first | with_reducible exact hw | with_reducible exact hwc | with_reducible assumption | with_reducible apply Wf.sI | with_reducible apply Wf.sL | with_reducible apply Wf.cpI | with_reducible apply Wf.cpL | with_reducible apply Wf.cp2 | with_reducible apply Wf.sIs | with_reducible apply Wf.sLs | with_reducible apply Wf.cpU | with_reducible apply Wf.fillI | with_reducible apply Wf.clU | with_reducible apply Wf.dnF | with_reducible apply Wf.gbW | with_reducible apply Wf.gvW)))) ?_
  refine lf (a_aload_n dX8_reckon_80 rfl) ?_
  refine lf (a_aload_n dX8_reckon_81 rfl) ?_
  obtain ⟨v_, W82, k82, rfl, hPl⟩ := (t_X8_servePlain hO3.1 hv3 hq3 hwi hsp hcb hS3)
  have hv5 := hv3.hi hPl.1 sV_hi
  have hq5 := hq3.hi hPl.1 sV_hi
  have hp5 := hv5.rp
  have hwc := hPl.1.1
  refine lf (a_inv (b2 := (0, 0)) k82 rfl dX8_reckon_82 yk_X8_servePlain im_X8_servePlain se_X8_servePlain ml_X8_59 rfl (co_334 (by repeat (first | with_reducible exact hw | with_reducible exact hwc | with_reducible assumption | with_reducible apply Wf.sI | with_reducible apply Wf.sL | with_reducible apply Wf.cpI | with_reducible apply Wf.cpL | with_reducible apply Wf.cp2 | with_reducible apply Wf.sIs | with_reducible apply Wf.sLs | with_reducible apply Wf.cpU | with_reducible apply Wf.fillI | with_reducible apply Wf.clU | with_reducible apply Wf.dnF | with_reducible apply Wf.gbW | with_reducible apply Wf.gvW))) (by decide) hc_X8 (by decide) (by decide) (Nat.le_of_ble_eq_true rfl)) ?_
  refine lf (a_aload_n dX8_reckon_85 rfl) ?_
  refine lf (a_aload_n dX8_reckon_86 rfl) ?_
  refine lf (a_getR hp5 dX8_reckon_87 fs_X8_34 rfl (fl_o (by repeat (first | with_reducible exact hw | with_reducible exact hwc | with_reducible assumption | with_reducible apply Wf.sI | with_reducible apply Wf.sL | with_reducible apply Wf.cpI | with_reducible apply Wf.cpL | with_reducible apply Wf.cp2 | with_reducible apply Wf.sIs | with_reducible apply Wf.sLs | with_reducible apply Wf.cpU | with_reducible apply Wf.fillI | with_reducible apply Wf.clU | with_reducible apply Wf.dnF | with_reducible apply Wf.gbW | with_reducible apply Wf.gvW)) hf)) ?_
  obtain ⟨v_, W90, k90, rfl, hWa⟩ := (t_X8_addUpWaste hPl.1.1 hq5 (fun m hm => (hPl.2.2.2.1 m hm).1))
  refine lf (a_inv (b2 := (0, 0)) k90 rfl dX8_reckon_90 yk_X8_addUpWaste im_X8_addUpWaste se_X8_addUpWaste ml_X8_63 rfl (co_334 (by repeat (first | with_reducible exact hw | with_reducible exact hwc | with_reducible assumption | with_reducible apply Wf.sI | with_reducible apply Wf.sL | with_reducible apply Wf.cpI | with_reducible apply Wf.cpL | with_reducible apply Wf.cp2 | with_reducible apply Wf.sIs | with_reducible apply Wf.sLs | with_reducible apply Wf.cpU | with_reducible apply Wf.fillI | with_reducible apply Wf.clU | with_reducible apply Wf.dnF | with_reducible apply Wf.gbW | with_reducible apply Wf.gvW))) (by decide) hc_X8 (by decide) (by decide) (Nat.le_of_ble_eq_true rfl)) ?_
  refine ⟨_, _, (a_return dX8_reckon_93 rfl), ?_⟩
  refine ⟨_, rfl, rfl, hO3.trans (hPl.1.trans hWa.1), _, _, rfl, ?_, ?_, hWa.2.2.1, hWa.2.2.2⟩
  · have h := hPl.2.2
    exact ⟨fun i hi => (hWa.2.1 335 i (by omega)).trans (h.1 i hi), fun m hm => ⟨(hWa.2.1 336 m (by omega)).trans (h.2.1 m hm).1, (hWa.2.1 337 m (by omega)).trans (h.2.1 m hm).2⟩, (hWa.2.1 334 4 (by omega)).trans h.2.2.1, (hWa.2.1 334 7 (by omega)).trans h.2.2.2⟩
  · rw [hWa.2.1 334 3 (by omega), hPl.2.1, gI_sI, if_pos ⟨rfl, rfl⟩]
end SERVICG
