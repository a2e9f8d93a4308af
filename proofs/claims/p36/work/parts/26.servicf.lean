section SERVICF
variable {μ : Wd} {W : Wd} {p f : Nat} {q : PDt} {d : FDt} {g : Nat → Option Nat} {cap : Nat → Nat}
/-- wishes are none or meals -/
def WiD (q : PDt) (d : FDt) : Prop := ∀ i, i < dP d → dF d 2 i = -1 ∨ ∃ w, w < pM q ∧ dF d 2 i = nI w
/-- how many plain ones got what they wished -/
def wmG (d : FDt) (G : Nat → Option Nat) (P : Nat) : Nat := fb_ct (fun j => decide (dF d 1 j = 0 ∧ G j ≠ none ∧ oI (G j) = dF d 2 j)) P
def SvP (q : PDt) (d : FDt) (cap : Nat → Nat) (i : Nat) (s : (Nat → Option Nat) × (Nat → Nat)) : Prop :=
  (∀ m, m < pM q → s.2 m + cntG s.1 (dP d) m = cap m) ∧ (∀ j, i ≤ j → j < dP d → dF d 1 j = 0 → s.1 j = none) ∧ ∀ j m, j < dP d → s.1 j = some m → m < pM q
theorem plX_ok (hM : pM q ≤ 12) (hwi : WiD q d) {i : Nat} (hi : i < dP d) {rs : Nat → Nat} : ∀ m, plX q d rs i = some m → m < pM q ∧ 0 < rs m := fun m h => by
  unfold plX at h
  split at h
  · exact ⟨(mlD_lt h).1, (mlD_lt h).2.1⟩
  · split at h
    · exact ⟨(mlD_lt h).1, (mlD_lt h).2.1⟩
    · rename_i h1 h2
      injection h with h
      subst h
      rcases hwi i hi with e | ⟨w, hw, e⟩
      · exact absurd e h1
      · rw [e, nN_nI (by omega)] at h2 ⊢; exact ⟨hw, by omega⟩
theorem SvP.step (hM : pM q ≤ 12) (hwi : WiD q d) {i : Nat} (hi : i < dP d) {s : (Nat → Option Nat) × (Nat → Nat)} (h : SvP q d cap i s) : SvP q d cap (i + 1) (plS q d i s) := by
  unfold plS
  by_cases e : dF d 1 i = 0
  · rw [if_pos e]
    have hx := plX_ok hM hwi hi (rs := s.2)
    have hn := h.2.1 i (Nat.le_refl i) hi e
    generalize plX q d s.2 i = x at hx ⊢
    refine ⟨fun m hm => ?_, fun j h1 h2 h3 => ?_, fun j m hj h1 => ?_⟩
    · have z1 := cnt_up (g := s.1) hi x m
      have z2 := h.1 m hm
      rw [hn, if_neg (show ¬ (none = some m) from fun z => nomatch z)] at z1
      show deR s.2 x m + cntG (up1 s.1 i x) (dP d) m = cap m
      cases x with
      | none => rw [if_neg (show ¬ (none = some m) from fun z => nomatch z)] at z1; show s.2 m + _ = _; omega
      | some k =>
        have := (hx k rfl).2
        show up1 s.2 k (s.2 k - 1) m + _ = _
        by_cases z : m = k
        · subst z; rw [up1_eq]; rw [if_pos rfl] at z1; omega
        · rw [up1_ne z]; rw [if_neg (show ¬ some k = some m from fun y => by injection y with y; exact z y.symm)] at z1; omega
    · show up1 s.1 i x j = none
      rw [up1_ne (by omega)]; exact h.2.1 j (by omega) h2 h3
    · have h1 : up1 s.1 i x j = some m := h1
      by_cases z : j = i
      · subst z; rw [up1_eq] at h1; exact (hx m h1).1
      · rw [up1_ne z] at h1; exact h.2.2 j m hj h1
  · rw [if_neg e]
    exact ⟨h.1, fun j h1 h2 h3 => by
      by_cases z : j = i
      · subst z; exact absurd h3 e
      · exact h.2.1 j (by omega) h2 h3, h.2.2⟩
theorem svD_P (hM : pM q ≤ 12) (hwi : WiD q d) {rs : Nat → Nat} (h : SvP q d cap 0 (g, rs)) : ∀ i, i ≤ dP d → SvP q d cap i (svD q d g rs i)
  | 0, _ => h
  | i + 1, hi => SvP.step hM hwi (by omega) (svD_P hM hwi h i (by omega))
theorem wm_up {P i : Nat} (hi : i < P) {G : Nat → Option Nat} (hn : G i = none) (he : dF d 1 i = 0) (x : Option Nat) : wmG d (up1 G i x) P = wmG d G P + if x ≠ none ∧ oI x = dF d 2 i then 1 else 0 := by
  have u := fb_ct_upd (fun j => decide (dF d 1 j = 0 ∧ G j ≠ none ∧ oI (G j) = dF d 2 j)) (decide (x ≠ none ∧ oI x = dF d 2 i)) (i := i) (n := P) hi
  have e : (fun k => if k = i then decide (x ≠ none ∧ oI x = dF d 2 i) else decide (dF d 1 k = 0 ∧ G k ≠ none ∧ oI (G k) = dF d 2 k)) = fun j => decide (dF d 1 j = 0 ∧ up1 G i x j ≠ none ∧ oI (up1 G i x j) = dF d 2 j) := funext fun k => by
    by_cases z : k = i
    · subst z; rw [if_pos rfl, up1_eq]; exact decide_eq_decide.mpr ⟨fun y => ⟨he, y⟩, fun y => y.2⟩
    · rw [if_neg z, up1_ne z]
  rw [e] at u
  have z : ¬ (decide (dF d 1 i = 0 ∧ G i ≠ none ∧ oI (G i) = dF d 2 i) = true) := by rw [decide_eq_true_eq, hn]; exact fun y => y.2.1 rfl
  rw [if_neg z] at u
  simp only [decide_eq_true_eq] at u
  exact u
theorem SvV.wm {k M fed wm x : Nat} {G : Nat → Option Nat} {rs ea : Nat → Nat} (h : SvV W k M G rs ea fed wm) : SvV (sI W 334 7 (nI x)) k M G rs ea fed x :=
  ⟨fun i hi => by rw [gI_sI, if_neg (by omega)]; exact h.1 i hi, fun m hm => by rw [gI_sI, if_neg (by omega), gI_sI, if_neg (by omega)]; exact h.2.1 m hm, by rw [gI_sI, if_neg (by omega)]; exact h.2.2.1, by rw [gI_sI, if_pos ⟨rfl, rfl⟩]⟩
theorem SvV.cg {k M fed fed2 wm : Nat} {G : Nat → Option Nat} {rs ea ea2 : Nat → Nat} (h : SvV W k M G rs ea fed wm) (h1 : ∀ m, m < M → ea m = ea2 m) (h2 : fed = fed2) : SvV W k M G rs ea2 fed2 wm :=
  ⟨h.1, fun m hm => ⟨(h.2.1 m hm).1, h1 m hm ▸ (h.2.1 m hm).2⟩, h2 ▸ h.2.2.1, h.2.2.2⟩
theorem svD_succ (q : PDt) (d : FDt) (g : Nat → Option Nat) (rs : Nat → Nat) (i : Nat) : svD q d g rs (i + 1) = plS q d i (svD q d g rs i) := rfl
theorem plS_0 {i : Nat} (h : dF d 1 i = 0) {s : (Nat → Option Nat) × (Nat → Nat)} : plS q d i s = (up1 s.1 i (plX q d s.2 i), deR s.2 (plX q d s.2 i)) := if_pos h
theorem plS_1 {i : Nat} (h : ¬ dF d 1 i = 0) {s : (Nat → Option Nat) × (Nat → Nat)} : plS q d i s = s := if_neg h
/-- what plain service does -/
def PlI (μ : Wd) (q : PDt) (d : FDt) (g : Nat → Option Nat) (rs : Nat → Nat) (i : Nat) (W : Wd) : Prop :=
  Out sV μ W ∧ gI W 334 3 = gI μ 334 3 ∧ SvV W (dP d) (pM q) (svD q d g rs i).1 (svD q d g rs i).2 (cntG (svD q d g rs i).1 (dP d)) (szG (svD q d g rs i).1 (dP d)) (wmG d (svD q d g rs i).1 (dP d))

abbrev R_X8_servePlain : Room := { frames := 1, cells := 0, slots := 0, locals := 24 }
abbrev RX_X8_servePlain : Room := { frames := 1, cells := 1, slots := 6, locals := 24 }

theorem gv33 (W : Wd) (i : Nat) (x : Option Nat) : gI (gvW W i x) 334 3 = gI W 334 3 := by
  cases x with
  | none => show gI (sI W 335 i (-1)) 334 3 = _; rw [gI_sI, if_neg (by omega)]
  | some m => show gI (sI (sI (sI (sI W 335 i (nI m)) 336 m (gI W 336 m - 1)) 337 m (gI W 337 m + 1)) 334 4 (gI W 334 4 + 1)) 334 3 = _; rw [gI_sI, if_neg (by omega), gI_sI, if_neg (by omega), gI_sI, if_neg (by omega), gI_sI, if_neg (by omega)]
theorem pl_turn (hM : pM q ≤ 12) (hwi : WiD q d) {m : Nat} (hm : m < dP d) (he : dF d 1 m = 0) {s : (Nat → Option Nat) × (Nat → Nat)} (hP : SvP q d cap m s) (hS : SvV W (dP d) (pM q) s.1 s.2 (cntG s.1 (dP d)) (szG s.1 (dP d)) (wmG d s.1 (dP d))) {x : Option Nat} (hx : plX q d s.2 m = x) :
    SvV (gvW W m x) (dP d) (pM q) (up1 s.1 m (plX q d s.2 m)) (deR s.2 (plX q d s.2 m)) (cntG (up1 s.1 m (plX q d s.2 m)) (dP d)) (szG (up1 s.1 m (plX q d s.2 m)) (dP d)) (wmG d s.1 (dP d)) ∧
    ∀ e : Nat, (if x ≠ none ∧ oI x = dF d 2 m then 1 else 0) = e → wmG d (up1 s.1 m (plX q d s.2 m)) (dP d) = wmG d s.1 (dP d) + e := by
  have hn := hP.2.1 m (Nat.le_refl m) hm he
  have hX := plX_ok hM hwi hm (rs := s.2)
  rw [hx] at hX ⊢
  refine ⟨(hS.gv m hX (fun j hj _ => hj)).cg (fun k _ => ?_) ?_, fun e h => by rw [wm_up hm hn he x, h]⟩
  · have z1 := cnt_up (g := s.1) hm x k
    rw [hn, if_neg (show ¬ (none = some k) from fun z => nomatch z)] at z1
    exact z1.symm
  · have z1 := sz_up (g := s.1) hm x
    rw [hn] at z1
    simpa using z1.symm
theorem l_X8_servePlain_2 (hv0 : FV μ f p d) (hq0 : PV μ p q) (hwi : WiD q d) {rs : Nat → Nat} (hsp : SvP q d cap 0 (g, rs)) (hcb : ∀ m, m < pM q → cap m < 2 ^ 30) {Q : Oc → Wd → Prop} (kx : ∀ W : Wd, (PlI μ q d g rs (dP d) W) → WP Y_X8_servePlain R_X8_servePlain (0, 0) W 100 [(0, .ref 334), (1, .ref f), (2, .int (nI (dP d)))] [] Q) : ∀ dd m (W : Wd), m + dd = (dP d) → (PlI μ q d g rs m W) → WP Y_X8_servePlain R_X8_servePlain (0, 0) W 2 [(0, .ref 334), (1, .ref f), (2, .int (nI m))] [] Q := by
  have hM4 := hq0.M4
  have hP4 := hv0.P4
  have hf := hv0.fl
  have hpl := hq0.pl
  intro dd
  induction dd with
  | zero =>
    intro m W hm hI
    obtain rfl : (dP d) = m := by omega
    have hw := hI.1.1
    have hv := hv0.hi hI.1 sV_hi
    have hq := hq0.hi hI.1 sV_hi
    have hp := hv.rp
    refine lf (a_iload_n dX8_servePlain_2 rfl) ?_
    refine lf (a_aload_n dX8_servePlain_3 rfl) ?_
    refine lf (a_getI dX8_servePlain_4 fs_X8_49 rfl (fl_o hw hf)) ?_
    rw [hv.hP]
    refine lf2 (a_icmp_ge (tgt := 100) dX8_servePlain_7 (by decide)) (fun h7 => ?_) (fun h7 => absurd h7 (fun z => z (nI_le (Nat.le_refl _) (by omega))))
    exact lf (a_loc _ rfl) (kx W hI)
  | succ dd ih =>
    intro m W hm hI
    have hw := hI.1.1
    have hv := hv0.hi hI.1 sV_hi
    have hq := hq0.hi hI.1 sV_hi
    have hp := hv.rp
    have hmP : m < dP d := by omega
    have hP := svD_P hM4 hwi hsp m (by omega)
    have hrb : ∀ k, k < pM q → (svD q d g rs m).2 k < 2 ^ 30 := fun k hk => by have := hP.1 k hk; have := hcb k hk; omega
    have hX0 := plX_ok hM4 hwi hmP (rs := (svD q d g rs m).2)
    have hSV := hI.2.2
    refine lf (a_iload_n dX8_servePlain_2 rfl) ?_
    refine lf (a_aload_n dX8_servePlain_3 rfl) ?_
    refine lf (a_getI dX8_servePlain_4 fs_X8_49 rfl (fl_o (by repeat (first | with_reducible exact hw | with_reducible exact hwc | with_reducible assumption | with_reducible apply Wf.sI | with_reducible apply Wf.sL | with_reducible apply Wf.cpI | with_reducible apply Wf.cpL | with_reducible apply Wf.cp2 | with_reducible apply Wf.sIs | with_reducible apply Wf.sLs | with_reducible apply Wf.cpU | with_reducible apply Wf.fillI | with_reducible apply Wf.clU | with_reducible apply Wf.dnF | with_reducible apply Wf.gbW | with_reducible apply Wf.gvW)) hf)) ?_
    rw [hv.hP]
    refine lf2 (a_icmp_ge (tgt := 100) dX8_servePlain_7 (by decide)) (fun h7 => absurd h7 (nI_ge (by omega) (by omega))) (fun h7 => ?_)
    refine lf (a_aload_n dX8_servePlain_10 rfl) ?_
    refine lf (a_getR (fl_r5 (by repeat (first | with_reducible exact hw | with_reducible exact hwc | with_reducible assumption | with_reducible apply Wf.sI | with_reducible apply Wf.sL | with_reducible apply Wf.cpI | with_reducible apply Wf.cpL | with_reducible apply Wf.cp2 | with_reducible apply Wf.sIs | with_reducible apply Wf.sLs | with_reducible apply Wf.cpU | with_reducible apply Wf.fillI | with_reducible apply Wf.clU | with_reducible apply Wf.dnF | with_reducible apply Wf.gbW | with_reducible apply Wf.gvW)) hf) dX8_servePlain_11 fs_X8_67 rfl (fl_o (by repeat (first | with_reducible exact hw | with_reducible exact hwc | with_reducible assumption | with_reducible apply Wf.sI | with_reducible apply Wf.sL | with_reducible apply Wf.cpI | with_reducible apply Wf.cpL | with_reducible apply Wf.cp2 | with_reducible apply Wf.sIs | with_reducible apply Wf.sLs | with_reducible apply Wf.cpU | with_reducible apply Wf.fillI | with_reducible apply Wf.clU | with_reducible apply Wf.dnF | with_reducible apply Wf.gbW | with_reducible apply Wf.gvW)) hf)) ?_
    refine lf (a_iload_n dX8_servePlain_14 rfl) ?_
    refine lf (a_ild dX8_servePlain_15 (fl_a2 (by repeat (first | with_reducible exact hw | with_reducible exact hwc | with_reducible assumption | with_reducible apply Wf.sI | with_reducible apply Wf.sL | with_reducible apply Wf.cpI | with_reducible apply Wf.cpL | with_reducible apply Wf.cp2 | with_reducible apply Wf.sIs | with_reducible apply Wf.sLs | with_reducible apply Wf.cpU | with_reducible apply Wf.fillI | with_reducible apply Wf.clU | with_reducible apply Wf.dnF | with_reducible apply Wf.gbW | with_reducible apply Wf.gvW)) hf) (ixn (show m < 40 by omega) (by decide))) ?_
    rw [hv.nee hmP]
    refine lfn (a_if_ne (tgt := 94) dX8_servePlain_16 (by decide)) (fun h16 => ?_) (fun h16 => ?_)
    · refine lf (a_iincN dX8_servePlain_94 rfl (by decide)) ?_
      refine lf (a_goto (tgt := 2) dX8_servePlain_97 (by decide)) ?_
      first
      | (refine lf (a_loc _ rfl) (ih (m + 1) _ (by omega) ?_)
         unfold PlI
         rw [svD_succ, plS_1 h16]
         exact hI)
      | (refine lf (a_loc _ rfl) (ih (m + 1) _ (by omega) ⟨(hI.1.gv ⟨by decide, by decide⟩ ⟨by decide, by decide⟩ ⟨by decide, by decide⟩ ⟨by decide, by decide⟩ _ _).sI ⟨by decide, by decide⟩ _ _, by rw [gI_sI, if_neg (by omega), gv33]; exact hI.2.1, ?_⟩)
         rw [svD_succ, plS_0 h16]
         dsimp only
         rw [hT.2 _ hY]
         exact hT.1.wm)
    · refine lf (a_aload_n dX8_servePlain_19 rfl) ?_
      refine lf (a_getR (fl_r6 (by repeat (first | with_reducible exact hw | with_reducible exact hwc | with_reducible assumption | with_reducible apply Wf.sI | with_reducible apply Wf.sL | with_reducible apply Wf.cpI | with_reducible apply Wf.cpL | with_reducible apply Wf.cp2 | with_reducible apply Wf.sIs | with_reducible apply Wf.sLs | with_reducible apply Wf.cpU | with_reducible apply Wf.fillI | with_reducible apply Wf.clU | with_reducible apply Wf.dnF | with_reducible apply Wf.gbW | with_reducible apply Wf.gvW)) hf) dX8_servePlain_20 fs_X8_70 rfl (fl_o (by repeat (first | with_reducible exact hw | with_reducible exact hwc | with_reducible assumption | with_reducible apply Wf.sI | with_reducible apply Wf.sL | with_reducible apply Wf.cpI | with_reducible apply Wf.cpL | with_reducible apply Wf.cp2 | with_reducible apply Wf.sIs | with_reducible apply Wf.sLs | with_reducible apply Wf.cpU | with_reducible apply Wf.fillI | with_reducible apply Wf.clU | with_reducible apply Wf.dnF | with_reducible apply Wf.gbW | with_reducible apply Wf.gvW)) hf)) ?_
      refine lf (a_iload_n dX8_servePlain_23 rfl) ?_
      refine lf (a_ild dX8_servePlain_24 (fl_a3 (by repeat (first | with_reducible exact hw | with_reducible exact hwc | with_reducible assumption | with_reducible apply Wf.sI | with_reducible apply Wf.sL | with_reducible apply Wf.cpI | with_reducible apply Wf.cpL | with_reducible apply Wf.cp2 | with_reducible apply Wf.sIs | with_reducible apply Wf.sLs | with_reducible apply Wf.cpU | with_reducible apply Wf.fillI | with_reducible apply Wf.clU | with_reducible apply Wf.dnF | with_reducible apply Wf.gbW | with_reducible apply Wf.gvW)) hf) (ixn (show m < 40 by omega) (by decide))) ?_
      rw [hv.wis hmP]
      refine lf (a_istore_n dX8_servePlain_25 (by decide)) ?_
      refine lf (a_iload_n dX8_servePlain_26 rfl) ?_
      refine lf (a_iconst (-1 : Int32) dX8_servePlain_27 (by decide)) ?_
      refine lf2 (a_icmp_eq (tgt := 44) dX8_servePlain_28 (by decide)) (fun h28 => ?_) (fun h28 => ?_)
      · have hx : plX q d (svD q d g rs m).2 m = mlD q (svD q d g rs m).2 (dF d 0 m) (pM q) := if_pos h28
        have hT := pl_turn hM4 hwi hmP h16 hP hSV hx
        have hY : (if mlD q (svD q d g rs m).2 (dF d 0 m) (pM q) ≠ none ∧ oI (mlD q (svD q d g rs m).2 (dF d 0 m) (pM q)) = dF d 2 m then 1 else 0) = 0 := if_neg fun z => by
          cases e : mlD q (svD q d g rs m).2 (dF d 0 m) (pM q) with
          | none => exact z.1 e
          | some b => rw [e, h28] at z; exact nI_ne1 (by have := (mlD_lt e).1; omega) z.2
        refine lf (a_iconst (0 : Int32) dX8_servePlain_44 (by decide)) ?_
        refine lf (a_istore dX8_servePlain_45 (by decide)) ?_
        refine lf (a_aload_n dX8_servePlain_47 rfl) ?_
        refine lf (a_iload_n dX8_servePlain_48 rfl) ?_
        refine lf (a_iload dX8_servePlain_49 rfl) ?_
        refine lf2 (a_if_eq (tgt := 58) dX8_servePlain_51 (by decide)) (fun h51 => ?_) (fun h51 => absurd h51 (by decide))
        refine lf (a_aload_n dX8_servePlain_58 rfl) ?_
        refine lf (a_aload_n dX8_servePlain_59 rfl) ?_
        refine lf (a_getR hp dX8_servePlain_60 fs_X8_34 rfl (fl_o (by repeat (first | with_reducible exact hw | with_reducible exact hwc | with_reducible assumption | with_reducible apply Wf.sI | with_reducible apply Wf.sL | with_reducible apply Wf.cpI | with_reducible apply Wf.cpL | with_reducible apply Wf.cp2 | with_reducible apply Wf.sIs | with_reducible apply Wf.sLs | with_reducible apply Wf.cpU | with_reducible apply Wf.fillI | with_reducible apply Wf.clU | with_reducible apply Wf.dnF | with_reducible apply Wf.gbW | with_reducible apply Wf.gvW)) hf)) ?_
        refine lf (a_aload_n dX8_servePlain_63 rfl) ?_
        refine lf (a_getR (fl_r4 (by repeat (first | with_reducible exact hw | with_reducible exact hwc | with_reducible assumption | with_reducible apply Wf.sI | with_reducible apply Wf.sL | with_reducible apply Wf.cpI | with_reducible apply Wf.cpL | with_reducible apply Wf.cp2 | with_reducible apply Wf.sIs | with_reducible apply Wf.sLs | with_reducible apply Wf.cpU | with_reducible apply Wf.fillI | with_reducible apply Wf.clU | with_reducible apply Wf.dnF | with_reducible apply Wf.gbW | with_reducible apply Wf.gvW)) hf) dX8_servePlain_64 fs_X8_73 rfl (fl_o (by repeat (first | with_reducible exact hw | with_reducible exact hwc | with_reducible assumption | with_reducible apply Wf.sI | with_reducible apply Wf.sL | with_reducible apply Wf.cpI | with_reducible apply Wf.cpL | with_reducible apply Wf.cp2 | with_reducible apply Wf.sIs | with_reducible apply Wf.sLs | with_reducible apply Wf.cpU | with_reducible apply Wf.fillI | with_reducible apply Wf.clU | with_reducible apply Wf.dnF | with_reducible apply Wf.gbW | with_reducible apply Wf.gvW)) hf)) ?_
        refine lf (a_iload_n dX8_servePlain_67 rfl) ?_
        refine lf (a_ild dX8_servePlain_68 (fl_a1 (by repeat (first | with_reducible exact hw | with_reducible exact hwc | with_reducible assumption | with_reducible apply Wf.sI | with_reducible apply Wf.sL | with_reducible apply Wf.cpI | with_reducible apply Wf.cpL | with_reducible apply Wf.cp2 | with_reducible apply Wf.sIs | with_reducible apply Wf.sLs | with_reducible apply Wf.cpU | with_reducible apply Wf.fillI | with_reducible apply Wf.clU | with_reducible apply Wf.dnF | with_reducible apply Wf.gbW | with_reducible apply Wf.gvW)) hf) (ixn (show m < 40 by omega) (by decide))) ?_
        rw [hv.cab hmP]
        refine lf (a_inv (b2 := (0, 0)) (t_X8_mostLeft (by repeat (first | with_reducible exact hw | with_reducible exact hwc | with_reducible assumption | with_reducible apply Wf.sI | with_reducible apply Wf.sL | with_reducible apply Wf.cpI | with_reducible apply Wf.cpL | with_reducible apply Wf.cp2 | with_reducible apply Wf.sIs | with_reducible apply Wf.sLs | with_reducible apply Wf.cpU | with_reducible apply Wf.fillI | with_reducible apply Wf.clU | with_reducible apply Wf.dnF | with_reducible apply Wf.gbW | with_reducible apply Wf.gvW)) hq (fun k hk => (hSV.2.1 k hk).1) hrb (dF d 0 m)) rfl dX8_servePlain_69 yk_X8_mostLeft im_X8_mostLeft se_X8_mostLeft ml_X8_76 rfl (co_334 (by repeat (first | with_reducible exact hw | with_reducible exact hwc | with_reducible assumption | with_reducible apply Wf.sI | with_reducible apply Wf.sL | with_reducible apply Wf.cpI | with_reducible apply Wf.cpL | with_reducible apply Wf.cp2 | with_reducible apply Wf.sIs | with_reducible apply Wf.sLs | with_reducible apply Wf.cpU | with_reducible apply Wf.fillI | with_reducible apply Wf.clU | with_reducible apply Wf.dnF | with_reducible apply Wf.gbW | with_reducible apply Wf.gvW))) (by decide) hc_X8 (by decide) (by decide) (Nat.le_of_ble_eq_true rfl)) ?_
        refine lf (a_inv (b2 := (0, 0)) (t_X8_give (by repeat (first | with_reducible exact hw | with_reducible exact hwc | with_reducible assumption | with_reducible apply Wf.sI | with_reducible apply Wf.sL | with_reducible apply Wf.cpI | with_reducible apply Wf.cpL | with_reducible apply Wf.cp2 | with_reducible apply Wf.sIs | with_reducible apply Wf.sLs | with_reducible apply Wf.cpU | with_reducible apply Wf.fillI | with_reducible apply Wf.clU | with_reducible apply Wf.dnF | with_reducible apply Wf.gbW | with_reducible apply Wf.gvW)) (show m < 40 by omega) (fun k e => by have := (hX0 k (hx.trans e)).1; omega)) rfl dX8_servePlain_72 yk_X8_give im_X8_give se_X8_give ml_X8_52 rfl (co_334 (by repeat (first | with_reducible exact hw | with_reducible exact hwc | with_reducible assumption | with_reducible apply Wf.sI | with_reducible apply Wf.sL | with_reducible apply Wf.cpI | with_reducible apply Wf.cpL | with_reducible apply Wf.cp2 | with_reducible apply Wf.sIs | with_reducible apply Wf.sLs | with_reducible apply Wf.cpU | with_reducible apply Wf.fillI | with_reducible apply Wf.clU | with_reducible apply Wf.dnF | with_reducible apply Wf.gbW | with_reducible apply Wf.gvW))) (by decide) hc_X8 (by decide) (by decide) (Nat.le_of_ble_eq_true rfl)) ?_
        refine lf (a_aload_n dX8_servePlain_75 rfl) ?_
        refine lf (a_dup dX8_servePlain_76 rfl) ?_
        refine lf (a_getI dX8_servePlain_77 fs_X8_25 rfl (co_334 (by repeat (first | with_reducible exact hw | with_reducible exact hwc | with_reducible assumption | with_reducible apply Wf.sI | with_reducible apply Wf.sL | with_reducible apply Wf.cpI | with_reducible apply Wf.cpL | with_reducible apply Wf.cp2 | with_reducible apply Wf.sIs | with_reducible apply Wf.sLs | with_reducible apply Wf.cpU | with_reducible apply Wf.fillI | with_reducible apply Wf.clU | with_reducible apply Wf.dnF | with_reducible apply Wf.gbW | with_reducible apply Wf.gvW)))) ?_
        rw [hT.1.2.2.2]
        refine lf (a_iload dX8_servePlain_80 rfl) ?_
        refine lf2 (a_if_eq (tgt := 89) dX8_servePlain_82 (by decide)) (fun h82 => ?_) (fun h82 => absurd h82 (by decide))
        refine lf (a_iconst (0 : Int32) dX8_servePlain_89 (by decide)) ?_
        rw [show (0 : Int32) = nI 0 from rfl]
        refine lf (a_iadd dX8_servePlain_90) ?_
        rw [nI_add]
        refine lf (a_putI dX8_servePlain_91 fs_X8_25 rfl rfl rfl (co_334 (by repeat (first | with_reducible exact hw | with_reducible exact hwc | with_reducible assumption | with_reducible apply Wf.sI | with_reducible apply Wf.sL | with_reducible apply Wf.cpI | with_reducible apply Wf.cpL | with_reducible apply Wf.cp2 | with_reducible apply Wf.sIs | with_reducible apply Wf.sLs | with_reducible apply Wf.cpU | with_reducible apply Wf.fillI | with_reducible apply Wf.clU | with_reducible apply Wf.dnF | with_reducible apply Wf.gbW | with_reducible apply Wf.gvW)))) ?_
        refine lf (a_iincN dX8_servePlain_94 rfl (by decide)) ?_
        refine lf (a_goto (tgt := 2) dX8_servePlain_97 (by decide)) ?_
        first
        | (refine lf (a_loc _ rfl) (ih (m + 1) _ (by omega) ?_)
           unfold PlI
           rw [svD_succ, plS_1 h16]
           exact hI)
        | (refine lf (a_loc _ rfl) (ih (m + 1) _ (by omega) ⟨(hI.1.gv ⟨by decide, by decide⟩ ⟨by decide, by decide⟩ ⟨by decide, by decide⟩ ⟨by decide, by decide⟩ _ _).sI ⟨by decide, by decide⟩ _ _, by rw [gI_sI, if_neg (by omega), gv33]; exact hI.2.1, ?_⟩)
           rw [svD_succ, plS_0 h16]
           dsimp only
           rw [hT.2 _ hY]
           exact hT.1.wm)
      · obtain ⟨w0, hw0, e2⟩ := (hwi m hmP).resolve_left h28
        have hnN : nN (dF d 2 m) = w0 := by rw [e2]; exact nN_nI (by omega)
        refine lf (a_aload_n dX8_servePlain_31 rfl) ?_
        refine lf (a_getR (cr_334_1 (by repeat (first | with_reducible exact hw | with_reducible exact hwc | with_reducible assumption | with_reducible apply Wf.sI | with_reducible apply Wf.sL | with_reducible apply Wf.cpI | with_reducible apply Wf.cpL | with_reducible apply Wf.cp2 | with_reducible apply Wf.sIs | with_reducible apply Wf.sLs | with_reducible apply Wf.cpU | with_reducible apply Wf.fillI | with_reducible apply Wf.clU | with_reducible apply Wf.dnF | with_reducible apply Wf.gbW | with_reducible apply Wf.gvW))) dX8_servePlain_32 fs_X8_15 rfl (co_334 (by repeat (first | with_reducible exact hw | with_reducible exact hwc | with_reducible assumption | with_reducible apply Wf.sI | with_reducible apply Wf.sL | with_reducible apply Wf.cpI | with_reducible apply Wf.cpL | with_reducible apply Wf.cp2 | with_reducible apply Wf.sIs | with_reducible apply Wf.sLs | with_reducible apply Wf.cpU | with_reducible apply Wf.fillI | with_reducible apply Wf.clU | with_reducible apply Wf.dnF | with_reducible apply Wf.gbW | with_reducible apply Wf.gvW)))) ?_
        refine lf (a_iload_n dX8_servePlain_35 rfl) ?_
        rw [e2]
        refine lf (a_ild dX8_servePlain_36 (ca_336 (by repeat (first | with_reducible exact hw | with_reducible exact hwc | with_reducible assumption | with_reducible apply Wf.sI | with_reducible apply Wf.sL | with_reducible apply Wf.cpI | with_reducible apply Wf.cpL | with_reducible apply Wf.cp2 | with_reducible apply Wf.sIs | with_reducible apply Wf.sLs | with_reducible apply Wf.cpU | with_reducible apply Wf.fillI | with_reducible apply Wf.clU | with_reducible apply Wf.dnF | with_reducible apply Wf.gbW | with_reducible apply Wf.gvW))) (ixn (show w0 < 12 by omega) (by decide))) ?_
        rw [(hSV.2.1 w0 hw0).1]
        refine lf2 (a_if_le (tgt := 44) dX8_servePlain_37 (by decide)) (fun h37 => ?_) (fun h37 => ?_)
        · have h37' : (svD q d g rs m).2 w0 ≤ 0 := (nI_leI (b := 0) (by have := hrb w0 hw0; omega) (by decide)).mp h37
          have hx : plX q d (svD q d g rs m).2 m = mlD q (svD q d g rs m).2 (dF d 0 m) (pM q) := by unfold plX; rw [if_neg h28, hnN, if_pos h37']
          have hT := pl_turn hM4 hwi hmP h16 hP hSV hx
          have hY : (if mlD q (svD q d g rs m).2 (dF d 0 m) (pM q) ≠ none ∧ oI (mlD q (svD q d g rs m).2 (dF d 0 m) (pM q)) = dF d 2 m then 1 else 0) = 0 := if_neg fun z => by
            cases e : mlD q (svD q d g rs m).2 (dF d 0 m) (pM q) with
            | none => exact z.1 e
            | some b =>
              rw [e, e2] at z
              have e3 : b = w0 := (nI_eqI (by have := (mlD_lt e).1; omega) (by omega)).mp z.2
              have := (mlD_lt e).2.1
              rw [e3] at this
              omega
          refine lf (a_iconst (0 : Int32) dX8_servePlain_44 (by decide)) ?_
          refine lf (a_istore dX8_servePlain_45 (by decide)) ?_
          refine lf (a_aload_n dX8_servePlain_47 rfl) ?_
          refine lf (a_iload_n dX8_servePlain_48 rfl) ?_
          refine lf (a_iload dX8_servePlain_49 rfl) ?_
          refine lf2 (a_if_eq (tgt := 58) dX8_servePlain_51 (by decide)) (fun h51 => ?_) (fun h51 => absurd h51 (by decide))
          refine lf (a_aload_n dX8_servePlain_58 rfl) ?_
          refine lf (a_aload_n dX8_servePlain_59 rfl) ?_
          refine lf (a_getR hp dX8_servePlain_60 fs_X8_34 rfl (fl_o (by repeat (first | with_reducible exact hw | with_reducible exact hwc | with_reducible assumption | with_reducible apply Wf.sI | with_reducible apply Wf.sL | with_reducible apply Wf.cpI | with_reducible apply Wf.cpL | with_reducible apply Wf.cp2 | with_reducible apply Wf.sIs | with_reducible apply Wf.sLs | with_reducible apply Wf.cpU | with_reducible apply Wf.fillI | with_reducible apply Wf.clU | with_reducible apply Wf.dnF | with_reducible apply Wf.gbW | with_reducible apply Wf.gvW)) hf)) ?_
          refine lf (a_aload_n dX8_servePlain_63 rfl) ?_
          refine lf (a_getR (fl_r4 (by repeat (first | with_reducible exact hw | with_reducible exact hwc | with_reducible assumption | with_reducible apply Wf.sI | with_reducible apply Wf.sL | with_reducible apply Wf.cpI | with_reducible apply Wf.cpL | with_reducible apply Wf.cp2 | with_reducible apply Wf.sIs | with_reducible apply Wf.sLs | with_reducible apply Wf.cpU | with_reducible apply Wf.fillI | with_reducible apply Wf.clU | with_reducible apply Wf.dnF | with_reducible apply Wf.gbW | with_reducible apply Wf.gvW)) hf) dX8_servePlain_64 fs_X8_73 rfl (fl_o (by repeat (first | with_reducible exact hw | with_reducible exact hwc | with_reducible assumption | with_reducible apply Wf.sI | with_reducible apply Wf.sL | with_reducible apply Wf.cpI | with_reducible apply Wf.cpL | with_reducible apply Wf.cp2 | with_reducible apply Wf.sIs | with_reducible apply Wf.sLs | with_reducible apply Wf.cpU | with_reducible apply Wf.fillI | with_reducible apply Wf.clU | with_reducible apply Wf.dnF | with_reducible apply Wf.gbW | with_reducible apply Wf.gvW)) hf)) ?_
          refine lf (a_iload_n dX8_servePlain_67 rfl) ?_
          refine lf (a_ild dX8_servePlain_68 (fl_a1 (by repeat (first | with_reducible exact hw | with_reducible exact hwc | with_reducible assumption | with_reducible apply Wf.sI | with_reducible apply Wf.sL | with_reducible apply Wf.cpI | with_reducible apply Wf.cpL | with_reducible apply Wf.cp2 | with_reducible apply Wf.sIs | with_reducible apply Wf.sLs | with_reducible apply Wf.cpU | with_reducible apply Wf.fillI | with_reducible apply Wf.clU | with_reducible apply Wf.dnF | with_reducible apply Wf.gbW | with_reducible apply Wf.gvW)) hf) (ixn (show m < 40 by omega) (by decide))) ?_
          rw [hv.cab hmP]
          refine lf (a_inv (b2 := (0, 0)) (t_X8_mostLeft (by repeat (first | with_reducible exact hw | with_reducible exact hwc | with_reducible assumption | with_reducible apply Wf.sI | with_reducible apply Wf.sL | with_reducible apply Wf.cpI | with_reducible apply Wf.cpL | with_reducible apply Wf.cp2 | with_reducible apply Wf.sIs | with_reducible apply Wf.sLs | with_reducible apply Wf.cpU | with_reducible apply Wf.fillI | with_reducible apply Wf.clU | with_reducible apply Wf.dnF | with_reducible apply Wf.gbW | with_reducible apply Wf.gvW)) hq (fun k hk => (hSV.2.1 k hk).1) hrb (dF d 0 m)) rfl dX8_servePlain_69 yk_X8_mostLeft im_X8_mostLeft se_X8_mostLeft ml_X8_76 rfl (co_334 (by repeat (first | with_reducible exact hw | with_reducible exact hwc | with_reducible assumption | with_reducible apply Wf.sI | with_reducible apply Wf.sL | with_reducible apply Wf.cpI | with_reducible apply Wf.cpL | with_reducible apply Wf.cp2 | with_reducible apply Wf.sIs | with_reducible apply Wf.sLs | with_reducible apply Wf.cpU | with_reducible apply Wf.fillI | with_reducible apply Wf.clU | with_reducible apply Wf.dnF | with_reducible apply Wf.gbW | with_reducible apply Wf.gvW))) (by decide) hc_X8 (by decide) (by decide) (Nat.le_of_ble_eq_true rfl)) ?_
          refine lf (a_inv (b2 := (0, 0)) (t_X8_give (by repeat (first | with_reducible exact hw | with_reducible exact hwc | with_reducible assumption | with_reducible apply Wf.sI | with_reducible apply Wf.sL | with_reducible apply Wf.cpI | with_reducible apply Wf.cpL | with_reducible apply Wf.cp2 | with_reducible apply Wf.sIs | with_reducible apply Wf.sLs | with_reducible apply Wf.cpU | with_reducible apply Wf.fillI | with_reducible apply Wf.clU | with_reducible apply Wf.dnF | with_reducible apply Wf.gbW | with_reducible apply Wf.gvW)) (show m < 40 by omega) (fun k e => by have := (hX0 k (hx.trans e)).1; omega)) rfl dX8_servePlain_72 yk_X8_give im_X8_give se_X8_give ml_X8_52 rfl (co_334 (by repeat (first | with_reducible exact hw | with_reducible exact hwc | with_reducible assumption | with_reducible apply Wf.sI | with_reducible apply Wf.sL | with_reducible apply Wf.cpI | with_reducible apply Wf.cpL | with_reducible apply Wf.cp2 | with_reducible apply Wf.sIs | with_reducible apply Wf.sLs | with_reducible apply Wf.cpU | with_reducible apply Wf.fillI | with_reducible apply Wf.clU | with_reducible apply Wf.dnF | with_reducible apply Wf.gbW | with_reducible apply Wf.gvW))) (by decide) hc_X8 (by decide) (by decide) (Nat.le_of_ble_eq_true rfl)) ?_
          refine lf (a_aload_n dX8_servePlain_75 rfl) ?_
          refine lf (a_dup dX8_servePlain_76 rfl) ?_
          refine lf (a_getI dX8_servePlain_77 fs_X8_25 rfl (co_334 (by repeat (first | with_reducible exact hw | with_reducible exact hwc | with_reducible assumption | with_reducible apply Wf.sI | with_reducible apply Wf.sL | with_reducible apply Wf.cpI | with_reducible apply Wf.cpL | with_reducible apply Wf.cp2 | with_reducible apply Wf.sIs | with_reducible apply Wf.sLs | with_reducible apply Wf.cpU | with_reducible apply Wf.fillI | with_reducible apply Wf.clU | with_reducible apply Wf.dnF | with_reducible apply Wf.gbW | with_reducible apply Wf.gvW)))) ?_
          rw [hT.1.2.2.2]
          refine lf (a_iload dX8_servePlain_80 rfl) ?_
          refine lf2 (a_if_eq (tgt := 89) dX8_servePlain_82 (by decide)) (fun h82 => ?_) (fun h82 => absurd h82 (by decide))
          refine lf (a_iconst (0 : Int32) dX8_servePlain_89 (by decide)) ?_
          rw [show (0 : Int32) = nI 0 from rfl]
          refine lf (a_iadd dX8_servePlain_90) ?_
          rw [nI_add]
          refine lf (a_putI dX8_servePlain_91 fs_X8_25 rfl rfl rfl (co_334 (by repeat (first | with_reducible exact hw | with_reducible exact hwc | with_reducible assumption | with_reducible apply Wf.sI | with_reducible apply Wf.sL | with_reducible apply Wf.cpI | with_reducible apply Wf.cpL | with_reducible apply Wf.cp2 | with_reducible apply Wf.sIs | with_reducible apply Wf.sLs | with_reducible apply Wf.cpU | with_reducible apply Wf.fillI | with_reducible apply Wf.clU | with_reducible apply Wf.dnF | with_reducible apply Wf.gbW | with_reducible apply Wf.gvW)))) ?_
          refine lf (a_iincN dX8_servePlain_94 rfl (by decide)) ?_
          refine lf (a_goto (tgt := 2) dX8_servePlain_97 (by decide)) ?_
          first
          | (refine lf (a_loc _ rfl) (ih (m + 1) _ (by omega) ?_)
             unfold PlI
             rw [svD_succ, plS_1 h16]
             exact hI)
          | (refine lf (a_loc _ rfl) (ih (m + 1) _ (by omega) ⟨(hI.1.gv ⟨by decide, by decide⟩ ⟨by decide, by decide⟩ ⟨by decide, by decide⟩ ⟨by decide, by decide⟩ _ _).sI ⟨by decide, by decide⟩ _ _, by rw [gI_sI, if_neg (by omega), gv33]; exact hI.2.1, ?_⟩)
             rw [svD_succ, plS_0 h16]
             dsimp only
             rw [hT.2 _ hY]
             exact hT.1.wm)
        · have h37' : ¬ (svD q d g rs m).2 w0 ≤ 0 := fun z => h37 ((nI_leI (b := 0) (by have := hrb w0 hw0; omega) (by decide)).mpr z)
          have hx : plX q d (svD q d g rs m).2 m = some w0 := by unfold plX; rw [if_neg h28, hnN, if_neg h37']
          have hT := pl_turn hM4 hwi hmP h16 hP hSV hx
          have hY : (if some w0 ≠ none ∧ oI (some w0) = dF d 2 m then 1 else 0) = 1 := if_pos ⟨(fun z => nomatch z), e2.symm⟩
          refine lf (a_iconst (1 : Int32) dX8_servePlain_40 (by decide)) ?_
          refine lf (a_goto (tgt := 45) dX8_servePlain_41 (by decide)) ?_
          refine lf (a_istore dX8_servePlain_45 (by decide)) ?_
          refine lf (a_aload_n dX8_servePlain_47 rfl) ?_
          refine lf (a_iload_n dX8_servePlain_48 rfl) ?_
          refine lf (a_iload dX8_servePlain_49 rfl) ?_
          refine lf2 (a_if_eq (tgt := 58) dX8_servePlain_51 (by decide)) (fun h51 => absurd h51 (by decide)) (fun h51 => ?_)
          refine lf (a_iload_n dX8_servePlain_54 rfl) ?_
          rw [show nI w0 = oI (some w0) from rfl]
          refine lf (a_goto (tgt := 72) dX8_servePlain_55 (by decide)) ?_
          refine lf (a_inv (b2 := (0, 0)) (t_X8_give (by repeat (first | with_reducible exact hw | with_reducible exact hwc | with_reducible assumption | with_reducible apply Wf.sI | with_reducible apply Wf.sL | with_reducible apply Wf.cpI | with_reducible apply Wf.cpL | with_reducible apply Wf.cp2 | with_reducible apply Wf.sIs | with_reducible apply Wf.sLs | with_reducible apply Wf.cpU | with_reducible apply Wf.fillI | with_reducible apply Wf.clU | with_reducible apply Wf.dnF | with_reducible apply Wf.gbW | with_reducible apply Wf.gvW)) (show m < 40 by omega) (fun k e => by have := (hX0 k (hx.trans e)).1; omega)) rfl dX8_servePlain_72 yk_X8_give im_X8_give se_X8_give ml_X8_52 rfl (co_334 (by repeat (first | with_reducible exact hw | with_reducible exact hwc | with_reducible assumption | with_reducible apply Wf.sI | with_reducible apply Wf.sL | with_reducible apply Wf.cpI | with_reducible apply Wf.cpL | with_reducible apply Wf.cp2 | with_reducible apply Wf.sIs | with_reducible apply Wf.sLs | with_reducible apply Wf.cpU | with_reducible apply Wf.fillI | with_reducible apply Wf.clU | with_reducible apply Wf.dnF | with_reducible apply Wf.gbW | with_reducible apply Wf.gvW))) (by decide) hc_X8 (by decide) (by decide) (Nat.le_of_ble_eq_true rfl)) ?_
          refine lf (a_aload_n dX8_servePlain_75 rfl) ?_
          refine lf (a_dup dX8_servePlain_76 rfl) ?_
          refine lf (a_getI dX8_servePlain_77 fs_X8_25 rfl (co_334 (by repeat (first | with_reducible exact hw | with_reducible exact hwc | with_reducible assumption | with_reducible apply Wf.sI | with_reducible apply Wf.sL | with_reducible apply Wf.cpI | with_reducible apply Wf.cpL | with_reducible apply Wf.cp2 | with_reducible apply Wf.sIs | with_reducible apply Wf.sLs | with_reducible apply Wf.cpU | with_reducible apply Wf.fillI | with_reducible apply Wf.clU | with_reducible apply Wf.dnF | with_reducible apply Wf.gbW | with_reducible apply Wf.gvW)))) ?_
          rw [hT.1.2.2.2]
          refine lf (a_iload dX8_servePlain_80 rfl) ?_
          refine lf2 (a_if_eq (tgt := 89) dX8_servePlain_82 (by decide)) (fun h82 => absurd h82 (by decide)) (fun h82 => ?_)
          refine lf (a_iconst (1 : Int32) dX8_servePlain_85 (by decide)) ?_
          rw [show (1 : Int32) = nI 1 from rfl]
          refine lf (a_goto (tgt := 90) dX8_servePlain_86 (by decide)) ?_
          refine lf (a_iadd dX8_servePlain_90) ?_
          rw [nI_add]
          refine lf (a_putI dX8_servePlain_91 fs_X8_25 rfl rfl rfl (co_334 (by repeat (first | with_reducible exact hw | with_reducible exact hwc | with_reducible assumption | with_reducible apply Wf.sI | with_reducible apply Wf.sL | with_reducible apply Wf.cpI | with_reducible apply Wf.cpL | with_reducible apply Wf.cp2 | with_reducible apply Wf.sIs | with_reducible apply Wf.sLs | with_reducible apply Wf.cpU | with_reducible apply Wf.fillI | with_reducible apply Wf.clU | with_reducible apply Wf.dnF | with_reducible apply Wf.gbW | with_reducible apply Wf.gvW)))) ?_
          refine lf (a_iincN dX8_servePlain_94 rfl (by decide)) ?_
          refine lf (a_goto (tgt := 2) dX8_servePlain_97 (by decide)) ?_
          first
          | (refine lf (a_loc _ rfl) (ih (m + 1) _ (by omega) ?_)
             unfold PlI
             rw [svD_succ, plS_1 h16]
             exact hI)
          | (refine lf (a_loc _ rfl) (ih (m + 1) _ (by omega) ⟨(hI.1.gv ⟨by decide, by decide⟩ ⟨by decide, by decide⟩ ⟨by decide, by decide⟩ ⟨by decide, by decide⟩ _ _).sI ⟨by decide, by decide⟩ _ _, by rw [gI_sI, if_neg (by omega), gv33]; exact hI.2.1, ?_⟩)
             rw [svD_succ, plS_0 h16]
             dsimp only
             rw [hT.2 _ hY]
             exact hT.1.wm)
theorem t_X8_servePlain (hw : Wf μ) (hv : FV μ f p d) (hq : PV μ p q) (hwi : WiD q d) {rs : Nat → Nat} (hsp : SvP q d cap 0 (g, rs)) (hcb : ∀ m, m < pM q → cap m < 2 ^ 30) (h0 : PlI μ q d g rs 0 μ) : CV Y_X8_servePlain R_X8_servePlain [.ref 334, .ref f] μ (fun v V => v = none ∧ PlI μ q d g rs (dP d) V) := by
  refine CV.ent yk_X8_servePlain (Nat.le_of_ble_eq_true rfl) ?_
  refine lf (a_iconst (0 : Int32) dX8_servePlain_0 (by decide)) ?_
  refine lf (a_istore_n dX8_servePlain_1 (by decide)) ?_
  exact lf (a_loc [(0, .ref 334), (1, .ref f), (2, .int (nI 0))] rfl) (l_X8_servePlain_2 hv hq hwi hsp hcb (fun W hI => ⟨_, _, a_return dX8_servePlain_100 rfl, _, rfl, rfl, hI⟩) (dP d) 0 μ (by omega) h0)
abbrev R_X8_addUpWaste : Room := { frames := 0, cells := 0, slots := 0, locals := 0 }
abbrev RX_X8_addUpWaste : Room := { frames := 0, cells := 1, slots := 6, locals := 0 }

/-- the waste added up -/
def waS (rs : Nat → Nat) (m : Nat) : Int32 := itN (fun i a => a + nI (rs i)) 0 m
def wcS (q : PDt) (rs : Nat → Nat) (m : Nat) : Int32 := itN (fun i a => a + nI (rs i) * pF q 5 i) 0 m
def WaI (μ : Wd) (q : PDt) (rs : Nat → Nat) (m : Nat) (W : Wd) : Prop := Out sV μ W ∧ (∀ i k, ¬ (i = 334 ∧ (k = 5 ∨ k = 6)) → gI W i k = gI μ i k) ∧ gI W 334 5 = waS rs m ∧ gI W 334 6 = wcS q rs m
theorem l_X8_addUpWaste_12 (hq0 : PV μ p q) {rs : Nat → Nat} (hrs : ∀ m, m < pM q → gI μ 336 m = nI (rs m)) {Q : Oc → Wd → Prop} (kx : ∀ W : Wd, (WaI μ q rs (pM q) W) → WP Y_X8_addUpWaste R_X8_addUpWaste (0, 0) W 66 [(0, .ref 334), (1, .ref p), (2, .int (nI (pM q)))] [] Q) : ∀ dd m (W : Wd), m + dd = (pM q) → (WaI μ q rs m W) → WP Y_X8_addUpWaste R_X8_addUpWaste (0, 0) W 12 [(0, .ref 334), (1, .ref p), (2, .int (nI m))] [] Q := by
  have hM4 := hq0.M4
  have hp := hq0.pl
  intro dd
  induction dd with
  | zero =>
    intro m W hm hI
    obtain rfl : (pM q) = m := by omega
    have hw := hI.1.1
    have hq := hq0.hi hI.1 sV_hi
    refine lf (a_iload_n dX8_addUpWaste_12 rfl) ?_
    refine lf (a_aload_n dX8_addUpWaste_13 rfl) ?_
    refine lf (a_getI dX8_addUpWaste_14 fs_X8_40 rfl (pl_o hw hp)) ?_
    rw [hq.hM]
    refine lf2 (a_icmp_ge (tgt := 66) dX8_addUpWaste_17 (by decide)) (fun h17 => ?_) (fun h17 => absurd h17 (fun z => z (nI_le (Nat.le_refl _) (by omega))))
    exact lf (a_loc _ rfl) (kx W hI)
  | succ dd ih =>
    intro m W hm hI
    have hw := hI.1.1
    have hq := hq0.hi hI.1 sV_hi
    have hm12 : m < 12 := by omega
    refine lf (a_iload_n dX8_addUpWaste_12 rfl) ?_
    refine lf (a_aload_n dX8_addUpWaste_13 rfl) ?_
    refine lf (a_getI dX8_addUpWaste_14 fs_X8_40 rfl (pl_o (by repeat (first | with_reducible exact hw | with_reducible exact hwc | with_reducible assumption | with_reducible apply Wf.sI | with_reducible apply Wf.sL | with_reducible apply Wf.cpI | with_reducible apply Wf.cpL | with_reducible apply Wf.cp2 | with_reducible apply Wf.sIs | with_reducible apply Wf.sLs | with_reducible apply Wf.cpU | with_reducible apply Wf.fillI | with_reducible apply Wf.clU | with_reducible apply Wf.dnF | with_reducible apply Wf.gbW | with_reducible apply Wf.gvW)) hp)) ?_
    rw [hq.hM]
    refine lf2 (a_icmp_ge (tgt := 66) dX8_addUpWaste_17 (by decide)) (fun h17 => absurd h17 (nI_ge (by omega) (by omega))) (fun h17 => ?_)
    refine lf (a_aload_n dX8_addUpWaste_20 rfl) ?_
    refine lf (a_dup dX8_addUpWaste_21 rfl) ?_
    refine lf (a_getI dX8_addUpWaste_22 fs_X8_89 rfl (co_334 (by repeat (first | with_reducible exact hw | with_reducible exact hwc | with_reducible assumption | with_reducible apply Wf.sI | with_reducible apply Wf.sL | with_reducible apply Wf.cpI | with_reducible apply Wf.cpL | with_reducible apply Wf.cp2 | with_reducible apply Wf.sIs | with_reducible apply Wf.sLs | with_reducible apply Wf.cpU | with_reducible apply Wf.fillI | with_reducible apply Wf.clU | with_reducible apply Wf.dnF | with_reducible apply Wf.gbW | with_reducible apply Wf.gvW)))) ?_
    rw [hI.2.2.1]
    refine lf (a_aload_n dX8_addUpWaste_25 rfl) ?_
    refine lf (a_getR (cr_334_1 (by repeat (first | with_reducible exact hw | with_reducible exact hwc | with_reducible assumption | with_reducible apply Wf.sI | with_reducible apply Wf.sL | with_reducible apply Wf.cpI | with_reducible apply Wf.cpL | with_reducible apply Wf.cp2 | with_reducible apply Wf.sIs | with_reducible apply Wf.sLs | with_reducible apply Wf.cpU | with_reducible apply Wf.fillI | with_reducible apply Wf.clU | with_reducible apply Wf.dnF | with_reducible apply Wf.gbW | with_reducible apply Wf.gvW))) dX8_addUpWaste_26 fs_X8_15 rfl (co_334 (by repeat (first | with_reducible exact hw | with_reducible exact hwc | with_reducible assumption | with_reducible apply Wf.sI | with_reducible apply Wf.sL | with_reducible apply Wf.cpI | with_reducible apply Wf.cpL | with_reducible apply Wf.cp2 | with_reducible apply Wf.sIs | with_reducible apply Wf.sLs | with_reducible apply Wf.cpU | with_reducible apply Wf.fillI | with_reducible apply Wf.clU | with_reducible apply Wf.dnF | with_reducible apply Wf.gbW | with_reducible apply Wf.gvW)))) ?_
    refine lf (a_iload_n dX8_addUpWaste_29 rfl) ?_
    refine lf (a_ild dX8_addUpWaste_30 (ca_336 (by repeat (first | with_reducible exact hw | with_reducible exact hwc | with_reducible assumption | with_reducible apply Wf.sI | with_reducible apply Wf.sL | with_reducible apply Wf.cpI | with_reducible apply Wf.cpL | with_reducible apply Wf.cp2 | with_reducible apply Wf.sIs | with_reducible apply Wf.sLs | with_reducible apply Wf.cpU | with_reducible apply Wf.fillI | with_reducible apply Wf.clU | with_reducible apply Wf.dnF | with_reducible apply Wf.gbW | with_reducible apply Wf.gvW))) (ixn hm12 (by decide))) ?_
    rw [hI.2.1 336 m (by omega), hrs m (by omega)]
    refine lf (a_iadd dX8_addUpWaste_31) ?_
    refine lf (a_putI dX8_addUpWaste_32 fs_X8_89 rfl rfl rfl (co_334 (by repeat (first | with_reducible exact hw | with_reducible exact hwc | with_reducible assumption | with_reducible apply Wf.sI | with_reducible apply Wf.sL | with_reducible apply Wf.cpI | with_reducible apply Wf.cpL | with_reducible apply Wf.cp2 | with_reducible apply Wf.sIs | with_reducible apply Wf.sLs | with_reducible apply Wf.cpU | with_reducible apply Wf.fillI | with_reducible apply Wf.clU | with_reducible apply Wf.dnF | with_reducible apply Wf.gbW | with_reducible apply Wf.gvW)))) ?_
    refine lf (a_aload_n dX8_addUpWaste_35 rfl) ?_
    refine lf (a_dup dX8_addUpWaste_36 rfl) ?_
    refine lf (a_getI dX8_addUpWaste_37 fs_X8_92 rfl (co_334 (by repeat (first | with_reducible exact hw | with_reducible exact hwc | with_reducible assumption | with_reducible apply Wf.sI | with_reducible apply Wf.sL | with_reducible apply Wf.cpI | with_reducible apply Wf.cpL | with_reducible apply Wf.cp2 | with_reducible apply Wf.sIs | with_reducible apply Wf.sLs | with_reducible apply Wf.cpU | with_reducible apply Wf.fillI | with_reducible apply Wf.clU | with_reducible apply Wf.dnF | with_reducible apply Wf.gbW | with_reducible apply Wf.gvW)))) ?_
    rw [gI_sI, if_neg (by omega), hI.2.2.2]
    refine lf (a_aload_n dX8_addUpWaste_40 rfl) ?_
    refine lf (a_getR (cr_334_1 (by repeat (first | with_reducible exact hw | with_reducible exact hwc | with_reducible assumption | with_reducible apply Wf.sI | with_reducible apply Wf.sL | with_reducible apply Wf.cpI | with_reducible apply Wf.cpL | with_reducible apply Wf.cp2 | with_reducible apply Wf.sIs | with_reducible apply Wf.sLs | with_reducible apply Wf.cpU | with_reducible apply Wf.fillI | with_reducible apply Wf.clU | with_reducible apply Wf.dnF | with_reducible apply Wf.gbW | with_reducible apply Wf.gvW))) dX8_addUpWaste_41 fs_X8_15 rfl (co_334 (by repeat (first | with_reducible exact hw | with_reducible exact hwc | with_reducible assumption | with_reducible apply Wf.sI | with_reducible apply Wf.sL | with_reducible apply Wf.cpI | with_reducible apply Wf.cpL | with_reducible apply Wf.cp2 | with_reducible apply Wf.sIs | with_reducible apply Wf.sLs | with_reducible apply Wf.cpU | with_reducible apply Wf.fillI | with_reducible apply Wf.clU | with_reducible apply Wf.dnF | with_reducible apply Wf.gbW | with_reducible apply Wf.gvW)))) ?_
    refine lf (a_iload_n dX8_addUpWaste_44 rfl) ?_
    refine lf (a_ild dX8_addUpWaste_45 (ca_336 (by repeat (first | with_reducible exact hw | with_reducible exact hwc | with_reducible assumption | with_reducible apply Wf.sI | with_reducible apply Wf.sL | with_reducible apply Wf.cpI | with_reducible apply Wf.cpL | with_reducible apply Wf.cp2 | with_reducible apply Wf.sIs | with_reducible apply Wf.sLs | with_reducible apply Wf.cpU | with_reducible apply Wf.fillI | with_reducible apply Wf.clU | with_reducible apply Wf.dnF | with_reducible apply Wf.gbW | with_reducible apply Wf.gvW))) (ixn hm12 (by decide))) ?_
    rw [gI_sI, if_neg (by omega), hI.2.1 336 m (by omega), hrs m (by omega)]
    refine lf (a_aload_n dX8_addUpWaste_46 rfl) ?_
    refine lf (a_getR (pl_r4 (by repeat (first | with_reducible exact hw | with_reducible exact hwc | with_reducible assumption | with_reducible apply Wf.sI | with_reducible apply Wf.sL | with_reducible apply Wf.cpI | with_reducible apply Wf.cpL | with_reducible apply Wf.cp2 | with_reducible apply Wf.sIs | with_reducible apply Wf.sLs | with_reducible apply Wf.cpU | with_reducible apply Wf.fillI | with_reducible apply Wf.clU | with_reducible apply Wf.dnF | with_reducible apply Wf.gbW | with_reducible apply Wf.gvW)) hp) dX8_addUpWaste_47 fs_X8_80 rfl (pl_o (by repeat (first | with_reducible exact hw | with_reducible exact hwc | with_reducible assumption | with_reducible apply Wf.sI | with_reducible apply Wf.sL | with_reducible apply Wf.cpI | with_reducible apply Wf.cpL | with_reducible apply Wf.cp2 | with_reducible apply Wf.sIs | with_reducible apply Wf.sLs | with_reducible apply Wf.cpU | with_reducible apply Wf.fillI | with_reducible apply Wf.clU | with_reducible apply Wf.dnF | with_reducible apply Wf.gbW | with_reducible apply Wf.gvW)) hp)) ?_
    refine lf (a_iload_n dX8_addUpWaste_50 rfl) ?_
    refine lf (a_aald (j := m) dX8_addUpWaste_51 (pl_a6 (by repeat (first | with_reducible exact hw | with_reducible exact hwc | with_reducible assumption | with_reducible apply Wf.sI | with_reducible apply Wf.sL | with_reducible apply Wf.cpI | with_reducible apply Wf.cpL | with_reducible apply Wf.cp2 | with_reducible apply Wf.sIs | with_reducible apply Wf.sLs | with_reducible apply Wf.cpU | with_reducible apply Wf.fillI | with_reducible apply Wf.clU | with_reducible apply Wf.dnF | with_reducible apply Wf.gbW | with_reducible apply Wf.gvW)) hp) (by decide) (ixn (by omega) (by decide)) (pl_rm (by repeat (first | with_reducible exact hw | with_reducible exact hwc | with_reducible assumption | with_reducible apply Wf.sI | with_reducible apply Wf.sL | with_reducible apply Wf.cpI | with_reducible apply Wf.cpL | with_reducible apply Wf.cp2 | with_reducible apply Wf.sIs | with_reducible apply Wf.sLs | with_reducible apply Wf.cpU | with_reducible apply Wf.fillI | with_reducible apply Wf.clU | with_reducible apply Wf.dnF | with_reducible apply Wf.gbW | with_reducible apply Wf.gvW)) hp (by omega))) ?_
    refine lf (a_getI dX8_addUpWaste_52 fs_X8_95 rfl (pl_m (by repeat (first | with_reducible exact hw | with_reducible exact hwc | with_reducible assumption | with_reducible apply Wf.sI | with_reducible apply Wf.sL | with_reducible apply Wf.cpI | with_reducible apply Wf.cpL | with_reducible apply Wf.cp2 | with_reducible apply Wf.sIs | with_reducible apply Wf.sLs | with_reducible apply Wf.cpU | with_reducible apply Wf.fillI | with_reducible apply Wf.clU | with_reducible apply Wf.dnF | with_reducible apply Wf.gbW | with_reducible apply Wf.gvW)) hp (by omega))) ?_
    rw [gI_sI, if_neg (by have := hq.pl; rcases this with e | e <;> omega), hq.m4 (by omega)]
    refine lf (a_imul dX8_addUpWaste_55) ?_
    refine lf (a_iadd dX8_addUpWaste_56) ?_
    refine lf (a_putI dX8_addUpWaste_57 fs_X8_92 rfl rfl rfl (co_334 (by repeat (first | with_reducible exact hw | with_reducible exact hwc | with_reducible assumption | with_reducible apply Wf.sI | with_reducible apply Wf.sL | with_reducible apply Wf.cpI | with_reducible apply Wf.cpL | with_reducible apply Wf.cp2 | with_reducible apply Wf.sIs | with_reducible apply Wf.sLs | with_reducible apply Wf.cpU | with_reducible apply Wf.fillI | with_reducible apply Wf.clU | with_reducible apply Wf.dnF | with_reducible apply Wf.gbW | with_reducible apply Wf.gvW)))) ?_
    refine lf (a_iincN dX8_addUpWaste_60 rfl (by decide)) ?_
    refine lf (a_goto (tgt := 12) dX8_addUpWaste_63 (by decide)) ?_
    refine lf (a_loc _ rfl) (ih (m + 1) _ (by omega) ⟨(hI.1.sI ⟨by decide, by decide⟩ _ _).sI ⟨by decide, by decide⟩ _ _, fun i k z => ?_, ?_, ?_⟩)
    · rw [gI_sI, if_neg (by omega), gI_sI, if_neg (by omega)]; exact hI.2.1 i k z
    · rw [gI_sI, if_neg (by omega), gI_sI, if_pos ⟨rfl, rfl⟩]; rfl
    · rw [gI_sI, if_pos ⟨rfl, rfl⟩]; rfl
theorem t_X8_addUpWaste (hw : Wf μ) (hq : PV μ p q) {rs : Nat → Nat} (hrs : ∀ m, m < pM q → gI μ 336 m = nI (rs m)) : CV Y_X8_addUpWaste R_X8_addUpWaste [.ref 334, .ref p] μ (fun v V => v = none ∧ WaI μ q rs (pM q) V) := by
  refine CV.ent yk_X8_addUpWaste (Nat.le_of_ble_eq_true rfl) ?_
  have h0 : WaI μ q rs 0 (sI (sI μ 334 5 0) 334 6 0) := ⟨((Out.rfl' hw).sI ⟨by decide, by decide⟩ _ _).sI ⟨by decide, by decide⟩ _ _, fun i k z => by rw [gI_sI, if_neg (by omega), gI_sI, if_neg (by omega)], by rw [gI_sI, if_neg (by omega), gI_sI, if_pos ⟨rfl, rfl⟩]; rfl, by rw [gI_sI, if_pos ⟨rfl, rfl⟩]; rfl⟩
  refine lf (a_aload_n dX8_addUpWaste_0 rfl) ?_
  refine lf (a_iconst (0 : Int32) dX8_addUpWaste_1 (by decide)) ?_
  refine lf (a_putI dX8_addUpWaste_2 fs_X8_89 rfl rfl rfl (co_334 (by repeat (first | with_reducible exact hw | with_reducible exact hwc | with_reducible assumption | with_reducible apply Wf.sI | with_reducible apply Wf.sL | with_reducible apply Wf.cpI | with_reducible apply Wf.cpL | with_reducible apply Wf.cp2 | with_reducible apply Wf.sIs | with_reducible apply Wf.sLs | with_reducible apply Wf.cpU | with_reducible apply Wf.fillI | with_reducible apply Wf.clU | with_reducible apply Wf.dnF | with_reducible apply Wf.gbW | with_reducible apply Wf.gvW)))) ?_
  refine lf (a_aload_n dX8_addUpWaste_5 rfl) ?_
  refine lf (a_iconst (0 : Int32) dX8_addUpWaste_6 (by decide)) ?_
  refine lf (a_putI dX8_addUpWaste_7 fs_X8_92 rfl rfl rfl (co_334 (by repeat (first | with_reducible exact hw | with_reducible exact hwc | with_reducible assumption | with_reducible apply Wf.sI | with_reducible apply Wf.sL | with_reducible apply Wf.cpI | with_reducible apply Wf.cpL | with_reducible apply Wf.cp2 | with_reducible apply Wf.sIs | with_reducible apply Wf.sLs | with_reducible apply Wf.cpU | with_reducible apply Wf.fillI | with_reducible apply Wf.clU | with_reducible apply Wf.dnF | with_reducible apply Wf.gbW | with_reducible apply Wf.gvW)))) ?_
  refine lf (a_iconst (0 : Int32) dX8_addUpWaste_10 (by decide)) ?_
  refine lf (a_istore_n dX8_addUpWaste_11 (by decide)) ?_
  exact lf (a_loc [(0, .ref 334), (1, .ref p), (2, .int (nI 0))] rfl) (l_X8_addUpWaste_12 hq hrs (fun W hI => ⟨_, _, a_return dX8_addUpWaste_66 rfl, _, rfl, rfl, hI⟩) (pM q) 0 _ (by omega) h0)
end SERVICF
