section FRESH
variable {μ W : Wd} {p : Nat} {q : PDt} {d : FDt}
/-- G: who gets what; rs: what is left; n: how many with diets are fed -/
def SvS (q : PDt) (d : FDt) (G : Nat → Option Nat) (rs : Nat → Nat) (n : Nat) : Prop :=
  ∃ g, LexG (fun p m => bt (suM q d p) m) (ldN q d) (dP d) (pM q) g n ∧ (G, rs) = svD q d g (fun m => ldN q d m - cntG g (dP d) m) (dP d)
theorem WiD.of (hd : GdD q d) : WiD q d := fun i hi => (hd.wis hi).imp (fun h => h) (fun ⟨x, h1, h2⟩ => ⟨x, h1, h2⟩)
theorem suM0 {i : Nat} (h : dF d 1 i = 0) (m : Nat) : bt (suM q d i) m = false := by
  unfold suM
  rw [if_pos h, b_0]
theorem lex_plain {g : Nat → Option Nat} {cap : Nat → Nat} {n : Nat} (h : LexG (fun p m => bt (suM q d p) m) cap (dP d) (pM q) g n) {i : Nat} (hi : i < dP d) (h0 : dF d 1 i = 0) : g i = none := by
  cases e : g i with
  | none => rfl
  | some m =>
    have h2 := (h.1.1.1 i m hi e).2
    have h2 : bt (suM q d i) m = true := h2
    rw [suM0 h0] at h2
    cases h2
theorem plX_congr {rs rs' : Nat → Nat} (hPM : pM q ≤ 12) (hw : WiD q d) {i : Nat} (hi : i < dP d) (h : ∀ m, m < pM q → rs m = rs' m) : plX q d rs i = plX q d rs' i := by
  unfold plX
  rw [mlD_congr h]
  rcases hw i hi with e | ⟨x, hx, e⟩
  · rw [if_pos e, if_pos e]
  · by_cases h1 : dF d 2 i = -1
    · rw [if_pos h1, if_pos h1]
    · rw [if_neg h1, if_neg h1]
      by_cases hx31 : x < 2 ^ 31
      · rw [e, nN_nI hx31, h x hx]
      · exact absurd hx31 (fun z => z (by have := hPM; omega))
theorem svD_congr (hM : pM q ≤ 12) {g g' : Nat → Option Nat} {rs rs' : Nat → Nat} (hw : WiD q d) (hg : ∀ i, i < dP d → g i = g' i) (hr : ∀ m, m < pM q → rs m = rs' m) : ∀ n, n ≤ dP d →
    (∀ i, i < dP d → (svD q d g rs n).1 i = (svD q d g' rs' n).1 i) ∧ ∀ m, m < pM q → (svD q d g rs n).2 m = (svD q d g' rs' n).2 m := by
  intro n
  induction n with
  | zero => intro _; exact ⟨hg, hr⟩
  | succ n ih =>
    intro hn
    obtain ⟨i1, i2⟩ := ih (by omega)
    rw [svD_succ, svD_succ]
    by_cases h0 : dF d 1 n = 0
    · rw [plS_0 h0, plS_0 h0]
      have e := plX_congr hM hw (show n < dP d by omega) i2
      rw [e]
      refine ⟨fun i hi => ?_, fun m hm => ?_⟩
      · show up1 _ _ _ i = up1 _ _ _ i
        unfold up1
        split
        · rfl
        · exact i1 i hi
      · show deR _ _ m = deR _ _ m
        cases plX q d (svD q d g' rs' n).2 n with
        | none => exact i2 m hm
        | some y =>
          show up1 _ _ _ m = up1 _ _ _ m
          unfold up1
          split
          · rename_i hmy; rw [← hmy, i2 m hm]
          · exact i2 m hm
    · rw [plS_1 h0, plS_1 h0]; exact ⟨i1, i2⟩
theorem SvS.uniq (hM : pM q ≤ 12) (hw : WiD q d) {G G' : Nat → Option Nat} {rs rs' : Nat → Nat} {n n' : Nat} (h : SvS q d G rs n) (h' : SvS q d G' rs' n') : (∀ i, i < dP d → G i = G' i) ∧ (∀ m, m < pM q → rs m = rs' m) ∧ n = n' := by
  obtain ⟨g, h1, h2⟩ := h
  obtain ⟨g', h1', h2'⟩ := h'
  have hg := Lex_uniq h1 h1'
  have hs := svD_congr hM hw hg (rs := fun m => ldN q d m - cntG g (dP d) m) (rs' := fun m => ldN q d m - cntG g' (dP d) m) (fun m hm => by rw [cnt_cg hg]) (dP d) (Nat.le_refl _)
  rw [← h2, ← h2'] at hs
  refine ⟨hs.1, hs.2, ?_⟩
  rw [← h1.1.2.1, ← h1'.1.2.1]
  exact sz_cg hg
noncomputable def svR (q : PDt) (d : FDt) : (Nat → Option Nat) × (Nat → Nat) × Nat := by
  classical exact if h : ∃ x : (Nat → Option Nat) × (Nat → Nat) × Nat, SvS q d x.1 x.2.1 x.2.2 then h.choose else (fun _ => none, fun _ => 0, 0)
theorem svR_of {G : Nat → Option Nat} {rs : Nat → Nat} {n : Nat} (h : SvS q d G rs n) : SvS q d (svR q d).1 (svR q d).2.1 (svR q d).2.2 := by
  have hx : ∃ x : (Nat → Option Nat) × (Nat → Nat) × Nat, SvS q d x.1 x.2.1 x.2.2 := ⟨(G, rs, n), h⟩
  unfold svR
  rw [dif_pos hx]
  exact hx.choose_spec
/-- the service's cells hold the service -/
def SvOK (W : Wd) (q : PDt) (d : FDt) : Prop := ∃ (G : Nat → Option Nat) (rs : Nat → Nat) (n : Nat), SvS q d G rs n ∧ SvV W (dP d) (pM q) G rs (cntG G (dP d)) (szG G (dP d)) (wmG d G (dP d)) ∧ gI W 334 3 = nI n ∧ gI W 334 5 = waS rs (pM q) ∧ gI W 334 6 = wcS q rs (pM q)
abbrev sSv : Nat → Prop := fun i => i = 0 ∨ (327 ≤ i ∧ i ≤ 337)
def FrQ (μ V : Wd) : Prop := Out sSv μ V ∧ (∀ k, k ≠ 17 → gI V 0 k = gI μ 0 k) ∧ ∀ k, gR V 0 k = gR μ 0 k
abbrev R_X10_freshService : Room := { frames := 5, cells := 0, slots := 0, locals := 124 }
abbrev RX_X10_freshService : Room := { frames := 5, cells := 1, slots := 6, locals := 124 }

theorem c_freshService (hw : Wf μ) (hv : FV μ 24 p d) (hq : PV μ p q) (hq1 : GdP q) (hd : GdD q d) (hs : gI μ 0 17 = 0 ∨ gI μ 0 17 = 1 ∧ SvOK μ q d) : CV Y_X10_freshService R_X10_freshService [.ref 0] μ (fun v V => v = some (.ref 334) ∧ FrQ μ V ∧ gI V 0 17 = 1 ∧ SvOK V q d) := by
  refine CV.ent yk_X10_freshService (Nat.le_of_ble_eq_true rfl) ?_
  have hM4 := hq.M4
  have hcap : ∀ k, k < pM q → ldD q d k = nI (ldN q d k) := fun k hk => (ldD_N hq1 hd (show k < 12 by omega)).1
  have hcb : ∀ k, k < pM q → ldN q d k < 2 ^ 30 := fun k hk => by have := (ldD_N hq1 hd (show k < 12 by omega)).2; omega
  rcases hs with h0 | ⟨h1, hok⟩
  · refine lf (a_aload_n dX10_freshService_0 rfl) ?_
    refine lf (a_getI dX10_freshService_1 fs_X10_406 rfl (co_0 (by repeat (first | with_reducible exact hw | with_reducible exact hwc | with_reducible assumption | with_reducible apply Wf.sI | with_reducible apply Wf.sL | with_reducible apply Wf.cpI | with_reducible apply Wf.cpL | with_reducible apply Wf.cp2 | with_reducible apply Wf.sIs | with_reducible apply Wf.sLs | with_reducible apply Wf.cpU | with_reducible apply Wf.fillI | with_reducible apply Wf.clU | with_reducible apply Wf.dnF | with_reducible apply Wf.gbW)))) ?_
    rw [h0]
    refine lfn (a_if_ne (tgt := 41) dX10_freshService_4 (by decide)) (fun h4 => absurd h4 (fun z => z rfl)) (fun h4 => ?_)
    refine lf (a_aload_n dX10_freshService_7 rfl) ?_
    refine lf (a_getR (cr_0_15 (by repeat (first | with_reducible exact hw | with_reducible exact hwc | with_reducible assumption | with_reducible apply Wf.sI | with_reducible apply Wf.sL | with_reducible apply Wf.cpI | with_reducible apply Wf.cpL | with_reducible apply Wf.cp2 | with_reducible apply Wf.sIs | with_reducible apply Wf.sLs | with_reducible apply Wf.cpU | with_reducible apply Wf.fillI | with_reducible apply Wf.clU | with_reducible apply Wf.dnF | with_reducible apply Wf.gbW))) dX10_freshService_8 fs_X10_71 rfl (co_0 (by repeat (first | with_reducible exact hw | with_reducible exact hwc | with_reducible assumption | with_reducible apply Wf.sI | with_reducible apply Wf.sL | with_reducible apply Wf.cpI | with_reducible apply Wf.cpL | with_reducible apply Wf.cp2 | with_reducible apply Wf.sIs | with_reducible apply Wf.sLs | with_reducible apply Wf.cpU | with_reducible apply Wf.fillI | with_reducible apply Wf.clU | with_reducible apply Wf.dnF | with_reducible apply Wf.gbW)))) ?_
    refine lf (a_aload_n dX10_freshService_11 rfl) ?_
    refine lf (a_getR (cr_0_7 (by repeat (first | with_reducible exact hw | with_reducible exact hwc | with_reducible assumption | with_reducible apply Wf.sI | with_reducible apply Wf.sL | with_reducible apply Wf.cpI | with_reducible apply Wf.cpL | with_reducible apply Wf.cp2 | with_reducible apply Wf.sIs | with_reducible apply Wf.sLs | with_reducible apply Wf.cpU | with_reducible apply Wf.fillI | with_reducible apply Wf.clU | with_reducible apply Wf.dnF | with_reducible apply Wf.gbW))) dX10_freshService_12 fs_X10_28 rfl (co_0 (by repeat (first | with_reducible exact hw | with_reducible exact hwc | with_reducible assumption | with_reducible apply Wf.sI | with_reducible apply Wf.sL | with_reducible apply Wf.cpI | with_reducible apply Wf.cpL | with_reducible apply Wf.cp2 | with_reducible apply Wf.sIs | with_reducible apply Wf.sLs | with_reducible apply Wf.cpU | with_reducible apply Wf.fillI | with_reducible apply Wf.clU | with_reducible apply Wf.dnF | with_reducible apply Wf.gbW)))) ?_
    obtain ⟨v_, W15, k15, rfl, hO, g, n, hgo, hlex⟩ := (t_X4_match hw hv hq hcap hcb)
    have hwc := hO.1
    have hv2 := hv.hi hO sM_hi
    have hq2 := hq.hi hO sM_hi
    refine lf (a_inv (b2 := (0, 0)) k15 rfl dX10_freshService_15 yk_X4_match im_X4_match se_X4_match ml_X10_468 rfl (co_327 (by repeat (first | with_reducible exact hw | with_reducible exact hwc | with_reducible assumption | with_reducible apply Wf.sI | with_reducible apply Wf.sL | with_reducible apply Wf.cpI | with_reducible apply Wf.cpL | with_reducible apply Wf.cp2 | with_reducible apply Wf.sIs | with_reducible apply Wf.sLs | with_reducible apply Wf.cpU | with_reducible apply Wf.fillI | with_reducible apply Wf.clU | with_reducible apply Wf.dnF | with_reducible apply Wf.gbW))) (by decide) hc_X4 (by decide) (by decide) (Nat.le_of_ble_eq_true rfl)) ?_
    refine lf (a_aload_n dX10_freshService_18 rfl) ?_
    refine lf (a_getR (cr_0_16 (by repeat (first | with_reducible exact hw | with_reducible exact hwc | with_reducible assumption | with_reducible apply Wf.sI | with_reducible apply Wf.sL | with_reducible apply Wf.cpI | with_reducible apply Wf.cpL | with_reducible apply Wf.cp2 | with_reducible apply Wf.sIs | with_reducible apply Wf.sLs | with_reducible apply Wf.cpU | with_reducible apply Wf.fillI | with_reducible apply Wf.clU | with_reducible apply Wf.dnF | with_reducible apply Wf.gbW))) dX10_freshService_19 fs_X10_78 rfl (co_0 (by repeat (first | with_reducible exact hw | with_reducible exact hwc | with_reducible assumption | with_reducible apply Wf.sI | with_reducible apply Wf.sL | with_reducible apply Wf.cpI | with_reducible apply Wf.cpL | with_reducible apply Wf.cp2 | with_reducible apply Wf.sIs | with_reducible apply Wf.sLs | with_reducible apply Wf.cpU | with_reducible apply Wf.fillI | with_reducible apply Wf.clU | with_reducible apply Wf.dnF | with_reducible apply Wf.gbW)))) ?_
    refine lf (a_aload_n dX10_freshService_22 rfl) ?_
    refine lf (a_getR (cr_0_7 (by repeat (first | with_reducible exact hw | with_reducible exact hwc | with_reducible assumption | with_reducible apply Wf.sI | with_reducible apply Wf.sL | with_reducible apply Wf.cpI | with_reducible apply Wf.cpL | with_reducible apply Wf.cp2 | with_reducible apply Wf.sIs | with_reducible apply Wf.sLs | with_reducible apply Wf.cpU | with_reducible apply Wf.fillI | with_reducible apply Wf.clU | with_reducible apply Wf.dnF | with_reducible apply Wf.gbW))) dX10_freshService_23 fs_X10_28 rfl (co_0 (by repeat (first | with_reducible exact hw | with_reducible exact hwc | with_reducible assumption | with_reducible apply Wf.sI | with_reducible apply Wf.sL | with_reducible apply Wf.cpI | with_reducible apply Wf.cpL | with_reducible apply Wf.cp2 | with_reducible apply Wf.sIs | with_reducible apply Wf.sLs | with_reducible apply Wf.cpU | with_reducible apply Wf.fillI | with_reducible apply Wf.clU | with_reducible apply Wf.dnF | with_reducible apply Wf.gbW)))) ?_
    refine lf (a_aload_n dX10_freshService_26 rfl) ?_
    refine lf (a_getR (cr_0_15 (by repeat (first | with_reducible exact hw | with_reducible exact hwc | with_reducible assumption | with_reducible apply Wf.sI | with_reducible apply Wf.sL | with_reducible apply Wf.cpI | with_reducible apply Wf.cpL | with_reducible apply Wf.cp2 | with_reducible apply Wf.sIs | with_reducible apply Wf.sLs | with_reducible apply Wf.cpU | with_reducible apply Wf.fillI | with_reducible apply Wf.clU | with_reducible apply Wf.dnF | with_reducible apply Wf.gbW))) dX10_freshService_27 fs_X10_71 rfl (co_0 (by repeat (first | with_reducible exact hw | with_reducible exact hwc | with_reducible assumption | with_reducible apply Wf.sI | with_reducible apply Wf.sL | with_reducible apply Wf.cpI | with_reducible apply Wf.cpL | with_reducible apply Wf.cp2 | with_reducible apply Wf.sIs | with_reducible apply Wf.sLs | with_reducible apply Wf.cpU | with_reducible apply Wf.fillI | with_reducible apply Wf.clU | with_reducible apply Wf.dnF | with_reducible apply Wf.gbW)))) ?_
    refine lf (a_getR (cr_327_3 (by repeat (first | with_reducible exact hw | with_reducible exact hwc | with_reducible assumption | with_reducible apply Wf.sI | with_reducible apply Wf.sL | with_reducible apply Wf.cpI | with_reducible apply Wf.cpL | with_reducible apply Wf.cp2 | with_reducible apply Wf.sIs | with_reducible apply Wf.sLs | with_reducible apply Wf.cpU | with_reducible apply Wf.fillI | with_reducible apply Wf.clU | with_reducible apply Wf.dnF | with_reducible apply Wf.gbW))) dX10_freshService_30 fs_X10_471 rfl (co_327 (by repeat (first | with_reducible exact hw | with_reducible exact hwc | with_reducible assumption | with_reducible apply Wf.sI | with_reducible apply Wf.sL | with_reducible apply Wf.cpI | with_reducible apply Wf.cpL | with_reducible apply Wf.cp2 | with_reducible apply Wf.sIs | with_reducible apply Wf.sLs | with_reducible apply Wf.cpU | with_reducible apply Wf.fillI | with_reducible apply Wf.clU | with_reducible apply Wf.dnF | with_reducible apply Wf.gbW)))) ?_
    obtain ⟨v_, W33, k33, rfl, hS⟩ := (t_X8_reckon hwc hv2 hq2 (WiD.of hd) hcap hcb hgo (fun i m hi e => (hlex.1.1.1 i m hi e).1) (fun m hm => hlex.1.1.2 m hm) (fun i hi h0 => lex_plain hlex hi h0))
    obtain ⟨hO2, G, rs, e1, e2, e3, e4, e5⟩ := hS
    have hwc := hO2.1
    refine lf (a_inv (b2 := (0, 0)) k33 rfl dX10_freshService_33 yk_X8_reckon im_X8_reckon se_X8_reckon ml_X10_472 rfl (co_334 (by repeat (first | with_reducible exact hw | with_reducible exact hwc | with_reducible assumption | with_reducible apply Wf.sI | with_reducible apply Wf.sL | with_reducible apply Wf.cpI | with_reducible apply Wf.cpL | with_reducible apply Wf.cp2 | with_reducible apply Wf.sIs | with_reducible apply Wf.sLs | with_reducible apply Wf.cpU | with_reducible apply Wf.fillI | with_reducible apply Wf.clU | with_reducible apply Wf.dnF | with_reducible apply Wf.gbW))) (by decide) hc_X8 (by decide) (by decide) (Nat.le_of_ble_eq_true rfl)) ?_
    refine lf (a_aload_n dX10_freshService_36 rfl) ?_
    refine lf (a_iconst (1 : Int32) dX10_freshService_37 (by decide)) ?_
    refine lf (a_putI dX10_freshService_38 fs_X10_406 rfl rfl rfl (co_0 (by repeat (first | with_reducible exact hw | with_reducible exact hwc | with_reducible assumption | with_reducible apply Wf.sI | with_reducible apply Wf.sL | with_reducible apply Wf.cpI | with_reducible apply Wf.cpL | with_reducible apply Wf.cp2 | with_reducible apply Wf.sIs | with_reducible apply Wf.sLs | with_reducible apply Wf.cpU | with_reducible apply Wf.fillI | with_reducible apply Wf.clU | with_reducible apply Wf.dnF | with_reducible apply Wf.gbW)))) ?_
    refine lf (a_aload_n dX10_freshService_41 rfl) ?_
    refine lf (a_getR (cr_0_16 (by repeat (first | with_reducible exact hw | with_reducible exact hwc | with_reducible assumption | with_reducible apply Wf.sI | with_reducible apply Wf.sL | with_reducible apply Wf.cpI | with_reducible apply Wf.cpL | with_reducible apply Wf.cp2 | with_reducible apply Wf.sIs | with_reducible apply Wf.sLs | with_reducible apply Wf.cpU | with_reducible apply Wf.fillI | with_reducible apply Wf.clU | with_reducible apply Wf.dnF | with_reducible apply Wf.gbW))) dX10_freshService_42 fs_X10_78 rfl (co_0 (by repeat (first | with_reducible exact hw | with_reducible exact hwc | with_reducible assumption | with_reducible apply Wf.sI | with_reducible apply Wf.sL | with_reducible apply Wf.cpI | with_reducible apply Wf.cpL | with_reducible apply Wf.cp2 | with_reducible apply Wf.sIs | with_reducible apply Wf.sLs | with_reducible apply Wf.cpU | with_reducible apply Wf.fillI | with_reducible apply Wf.clU | with_reducible apply Wf.dnF | with_reducible apply Wf.gbW)))) ?_
    refine ⟨_, _, (a_areturn dX10_freshService_45 rfl (by first | exact Or.inl ⟨_, rfl⟩ | exact Or.inr ⟨_, rfl⟩)), ?_⟩
    have hoo : Out sSv μ (sI W33 0 17 1) := ((hO.mono (S' := sSv) (fun i y => Or.inr ⟨y.1, by have := y.2; omega⟩)).trans (hO2.mono (S' := sSv) (fun i y => Or.inr ⟨by have := y.1; omega, y.2⟩))).sI (S := sSv) (Or.inl rfl) _ _
    refine ⟨_, rfl, rfl, ⟨hoo, fun k hk => ?_, fun k => (hO2.r (by decide) k).trans (hO.r (by decide) k)⟩, by rw [gI_sI, if_pos ⟨rfl, rfl⟩], G, rs, n, ⟨g, hlex, e1⟩, ⟨fun i hi => ?_, fun m hm => ?_, ?_, ?_⟩, ?_, ?_, ?_⟩
    · rw [gI_sI, if_neg (fun z => hk z.2), hO2.i (by decide) k, hO.i (by decide) k]
    · rw [gI_sI, if_neg (by omega)]; exact e2.1 i hi
    · rw [gI_sI, if_neg (by omega), gI_sI, if_neg (by omega)]; exact e2.2.1 m hm
    · rw [gI_sI, if_neg (by omega)]; exact e2.2.2.1
    · rw [gI_sI, if_neg (by omega)]; exact e2.2.2.2
    · rw [gI_sI, if_neg (by omega), e3, hlex.1.2.1]
    · rw [gI_sI, if_neg (by omega)]; exact e4
    · rw [gI_sI, if_neg (by omega)]; exact e5
  · refine lf (a_aload_n dX10_freshService_0 rfl) ?_
    refine lf (a_getI dX10_freshService_1 fs_X10_406 rfl (co_0 hw)) ?_
    rw [h1]
    refine lfn (a_if_ne (tgt := 41) dX10_freshService_4 (by decide)) (fun h4 => ?_) (fun h4 => absurd h4 (by decide))
    refine lf (a_aload_n dX10_freshService_41 rfl) ?_
    refine lf (a_getR (cr_0_16 hw) dX10_freshService_42 fs_X10_78 rfl (co_0 hw)) ?_
    refine ⟨_, _, (a_areturn dX10_freshService_45 rfl (by first | exact Or.inl ⟨_, rfl⟩ | exact Or.inr ⟨_, rfl⟩)), ?_⟩
    exact ⟨_, rfl, rfl, ⟨Out.rfl' hw, fun _ _ => rfl, fun _ => rfl⟩, h1, hok⟩
end FRESH
