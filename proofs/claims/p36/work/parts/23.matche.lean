section MATCHE
variable {μ : Wd} {W : Wd} {P M : Nat} {su : Nat → Int32} {g : Nat → Option Nat} {fr : Nat → Nat} {cap : Nat → Nat}
/-- one unit back, in the accounts -/
def gbF (fr : Nat → Nat) (o : Option Nat) : Nat → Nat := match o with
  | none => fr
  | some m => up1 fr m (fr m + 1)
theorem MtV.gb (h : MtV μ P M su g fr) {o : Option Nat} (ho : ∀ m, o = some m → m < M) : MtV (gbW μ o) P M su g (gbF fr o) := by
  cases o with
  | none => exact h
  | some m =>
    have e : gI μ 330 m + 1 = nI (fr m + 1) := by rw [h.hfr (ho m rfl), ← nI_succ]
    show MtV (sI μ 330 m (gI μ 330 m + 1)) P M su g (up1 fr m (fr m + 1))
    rw [e]
    exact h.setF m (fr m + 1)
theorem Out.gb {S : Nat → Prop} (h : Out S μ W) (hS : S 330) (o : Option Nat) : Out S μ (gbW W o) := by
  cases o with
  | none => exact h
  | some m => exact h.sI hS _ _
theorem Wf.gbW (hw : Wf W) {o : Option Nat} : Wf (gbW W o) := by
  cases o with
  | none => exact hw
  | some m => exact hw.sI
theorem gb_at (fr : Nat → Nat) (o : Option Nat) (y : Nat) : gbF fr o y = fr y + (if o = some y then 1 else 0) := by
  cases o with
  | none => rfl
  | some m =>
    show up1 fr m (fr m + 1) y = _
    unfold up1
    by_cases e : y = m
    · subst e; rw [if_pos rfl, if_pos rfl]
    · rw [if_neg e, if_neg (show ¬ some m = some y from fun z => by injection z with z; exact e z.symm)]
      rfl
/-- the matching is as large as can be -/
def MaxG (su : Nat → Int32) (cap : Nat → Nat) (P M n : Nat) : Prop := ∀ g', MtG (fun p m => bt (su p) m) cap P M g' → szG g' P ≤ n
/-- what a try leaves -/
def HavQ (su : Nat → Int32) (cap : Nat → Nat) (P M p m n : Nat) (g : Nat → Option Nat) (μ : Wd) (v : Option Value) (V : Wd) : Prop :=
  Out sM μ V ∧ ∃ g2 fr2, MtV V P M su g2 fr2 ∧ GA su cap P M g2 fr2 ∧ szG g2 P = n ∧ (∀ i, i < p → g2 i = g i) ∧ ((v = some (.int 1) ∧ g2 p = some m) ∨
    (v = some (.int 0) ∧ g2 p = g p ∧ ∀ h, MtG (fun p m => bt (su p) m) cap P M h → szG h P = n → (∀ i, i < p → h i = g i) → h p ≠ some m))
/-- p takes m, what p had is back -/
theorem GA.take (hG : GA su cap P M g fr) {p m : Nat} (hp : p < P) (hm : m < M) (hb : bt (su p) m = true) {fr1 : Nat → Nat} (hf : ∀ y, y < M → fr1 y + (if m = y then 1 else 0) = fr y + (if g p = some y then 1 else 0)) : GA su cap P M (up1 g p (some m)) fr1 :=
  ⟨fun x k hx e => by
    unfold up1 at e
    by_cases z : x = p
    · rw [if_pos z] at e; injection e with e; subst e; subst z; exact ⟨hm, hb⟩
    · rw [if_neg z] at e; exact hG.1 x k hx e, fun y hy => by
    have z1 := cnt_up (g := g) hp (some m) y
    have z2 := hG.2 y hy
    have z3 := hf y hy
    simp only [Option.some.injEq] at z1
    omega⟩
theorem GA.drop (hG : GA su cap P M g fr) {p m : Nat} (hp : p < P) (hg : g p = some m) {fr1 : Nat → Nat} (hf : ∀ y, y < M → fr1 y = fr y + (if m = y then 1 else 0)) : GA su cap P M (up1 g p none) fr1 :=
  ⟨fun x k hx e => by
    unfold up1 at e
    by_cases z : x = p
    · rw [if_pos z] at e; exact nomatch e
    · rw [if_neg z] at e; exact hG.1 x k hx e, fun y hy => by
    have z1 := cnt_up (g := g) hp none y
    have z2 := hG.2 y hy
    have z3 := hf y hy
    rw [hg, if_neg (show ¬ (none = some y) from fun z => nomatch z)] at z1
    simp only [Option.some.injEq] at z1
    omega⟩

abbrev R_X4_canHave : Room := { frames := 3, cells := 0, slots := 0, locals := 74 }
abbrev RX_X4_canHave : Room := { frames := 3, cells := 1, slots := 6, locals := 74 }

theorem t_X4_canHave (hw : Wf μ) (hP : P ≤ 40) (hM : M ≤ 12) (hV : MtV μ P M su g fr) (hG : GA su cap P M g fr) (hcap : ∀ m, m < M → cap m < 2 ^ 30) {n : Nat} (hsz : szG g P = n) (hmax : MaxG su cap P M n) {p m : Nat} (hp : p < P) (hm : m < M) (hb : bt (su p) m = true) (hpm : g p ≠ some m) :
    CV Y_X4_canHave R_X4_canHave [.ref 327, .int (nI p), .int (nI m)] μ (HavQ su cap P M p m n g μ) := by
  refine CV.ent yk_X4_canHave (Nat.le_of_ble_eq_true rfl) ?_
  have p40 : p < 40 := by omega
  have m12 : m < 12 := by omega
  have hfb := fr_bound hV hG hm (hcap m hm)
  have hg12 : ∀ p m, p < P → g p = some m → m < 12 := fun p m hp e => by have := hG.lt p m hp e; omega
  have hpv : ∀ m, g p = some m → m < M := fun m e => hG.lt p m hp e
  have hpv12 : ∀ m, g p = some m → m < 12 := fun m e => hg12 p m hp e
  have hO := Out.rfl' (S := sM) hw
  refine lf (a_aload_n dX4_canHave_0 rfl) ?_
  refine lf (a_getR (cr_327_3 (by repeat (first | with_reducible exact hw | with_reducible exact hwc | with_reducible assumption | with_reducible apply Wf.sI | with_reducible apply Wf.sL | with_reducible apply Wf.cpI | with_reducible apply Wf.cpL | with_reducible apply Wf.cp2 | with_reducible apply Wf.sIs | with_reducible apply Wf.sLs | with_reducible apply Wf.cpU | with_reducible apply Wf.fillI | with_reducible apply Wf.clU | with_reducible apply Wf.dnF | with_reducible apply Wf.gbW))) dX4_canHave_1 fs_X4_15 rfl (co_327 (by repeat (first | with_reducible exact hw | with_reducible exact hwc | with_reducible assumption | with_reducible apply Wf.sI | with_reducible apply Wf.sL | with_reducible apply Wf.cpI | with_reducible apply Wf.cpL | with_reducible apply Wf.cp2 | with_reducible apply Wf.sIs | with_reducible apply Wf.sLs | with_reducible apply Wf.cpU | with_reducible apply Wf.fillI | with_reducible apply Wf.clU | with_reducible apply Wf.dnF | with_reducible apply Wf.gbW)))) ?_
  refine lf (a_iload_n dX4_canHave_4 rfl) ?_
  refine lf (a_ild dX4_canHave_5 (ca_329 (by repeat (first | with_reducible exact hw | with_reducible exact hwc | with_reducible assumption | with_reducible apply Wf.sI | with_reducible apply Wf.sL | with_reducible apply Wf.cpI | with_reducible apply Wf.cpL | with_reducible apply Wf.cp2 | with_reducible apply Wf.sIs | with_reducible apply Wf.sLs | with_reducible apply Wf.cpU | with_reducible apply Wf.fillI | with_reducible apply Wf.clU | with_reducible apply Wf.dnF | with_reducible apply Wf.gbW))) (ixn p40 (by decide))) ?_
  rw [hV.hgo hp]
  refine lf (a_istore_n dX4_canHave_6 (by decide)) ?_
  refine lf (a_aload_n dX4_canHave_7 rfl) ?_
  refine lf (a_getR (cr_327_4 (by repeat (first | with_reducible exact hw | with_reducible exact hwc | with_reducible assumption | with_reducible apply Wf.sI | with_reducible apply Wf.sL | with_reducible apply Wf.cpI | with_reducible apply Wf.cpL | with_reducible apply Wf.cp2 | with_reducible apply Wf.sIs | with_reducible apply Wf.sLs | with_reducible apply Wf.cpU | with_reducible apply Wf.fillI | with_reducible apply Wf.clU | with_reducible apply Wf.dnF | with_reducible apply Wf.gbW))) dX4_canHave_8 fs_X4_18 rfl (co_327 (by repeat (first | with_reducible exact hw | with_reducible exact hwc | with_reducible assumption | with_reducible apply Wf.sI | with_reducible apply Wf.sL | with_reducible apply Wf.cpI | with_reducible apply Wf.cpL | with_reducible apply Wf.cp2 | with_reducible apply Wf.sIs | with_reducible apply Wf.sLs | with_reducible apply Wf.cpU | with_reducible apply Wf.fillI | with_reducible apply Wf.clU | with_reducible apply Wf.dnF | with_reducible apply Wf.gbW)))) ?_
  refine lf (a_iload_n dX4_canHave_11 rfl) ?_
  refine lf (a_ild dX4_canHave_12 (ca_330 (by repeat (first | with_reducible exact hw | with_reducible exact hwc | with_reducible assumption | with_reducible apply Wf.sI | with_reducible apply Wf.sL | with_reducible apply Wf.cpI | with_reducible apply Wf.cpL | with_reducible apply Wf.cp2 | with_reducible apply Wf.sIs | with_reducible apply Wf.sLs | with_reducible apply Wf.cpU | with_reducible apply Wf.fillI | with_reducible apply Wf.clU | with_reducible apply Wf.dnF | with_reducible apply Wf.gbW))) (ixn m12 (by decide))) ?_
  rw [hV.hfr hm]
  refine lf2 (a_if_le (tgt := 40) dX4_canHave_13 (by decide)) (fun h13 => ?_) (fun h13 => ?_)
  · have hf0 : fr m = 0 := by
      have := (nI_leI (b := 0) (by omega) (by decide)).mp h13
      omega
    refine lf (a_aload_n dX4_canHave_40 rfl) ?_
    refine lf (a_iload_n dX4_canHave_41 rfl) ?_
    refine lf (a_iconst (1 : Int32) dX4_canHave_42 (by decide)) ?_
    refine lf (a_iadd dX4_canHave_43) ?_
    rw [← nI_succ]
    refine lf (a_iload_n dX4_canHave_44 rfl) ?_
    refine lf (a_iload_n dX4_canHave_45 rfl) ?_
    refine lf (a_inv (b2 := (0, 0)) (t_X4_findMover (by repeat (first | with_reducible exact hw | with_reducible exact hwc | with_reducible assumption | with_reducible apply Wf.sI | with_reducible apply Wf.sL | with_reducible apply Wf.cpI | with_reducible apply Wf.cpL | with_reducible apply Wf.cp2 | with_reducible apply Wf.sIs | with_reducible apply Wf.sLs | with_reducible apply Wf.cpU | with_reducible apply Wf.fillI | with_reducible apply Wf.clU | with_reducible apply Wf.dnF | with_reducible apply Wf.gbW)) hV hP hg12 (h := some m) (fun k e => by injection e with e; omega) m12 (a := p + 1) (by omega)) rfl dX4_canHave_46 yk_X4_findMover im_X4_findMover se_X4_findMover ml_X4_75 rfl (co_327 (by repeat (first | with_reducible exact hw | with_reducible exact hwc | with_reducible assumption | with_reducible apply Wf.sI | with_reducible apply Wf.sL | with_reducible apply Wf.cpI | with_reducible apply Wf.cpL | with_reducible apply Wf.cp2 | with_reducible apply Wf.sIs | with_reducible apply Wf.sLs | with_reducible apply Wf.cpU | with_reducible apply Wf.fillI | with_reducible apply Wf.clU | with_reducible apply Wf.dnF | with_reducible apply Wf.gbW))) (by decide) hc_X4 (by decide) (by decide) (Nat.le_of_ble_eq_true rfl)) ?_
    have hff : ∀ r, fstF (fun x => decide (g x = some m) && bt (su x) m) (P - (p + 1)) (p + 1) = some r → r < P ∧ p < r ∧ g r = some m := fun r e => by
      obtain ⟨h1, h2, h3, -⟩ := fstF_some e
      exact ⟨by omega, by omega, by have h3 : decide (g r = some m) = true ∧ bt (su r) m = true := by simpa using h3
                                    exact of_decide_eq_true h3.1⟩
    have hfn : fstF (fun x => decide (g x = some m) && bt (su x) m) (P - (p + 1)) (p + 1) = none → ∀ x, p < x → x < P → g x ≠ some m := fun e x h1 h2 h3 => by
      have z := fstF_none e x (by omega) (by omega)
      simp [h3, (hG.1 x m h2 h3).2] at z
    generalize fstF (fun x => decide (g x = some m) && bt (su x) m) (P - (p + 1)) (p + 1) = ro at hff hfn ⊢
    refine lf (a_istore dX4_canHave_49 (by decide)) ?_
    refine lf (a_iload dX4_canHave_51 rfl) ?_
    refine lf (a_iconst (-1 : Int32) dX4_canHave_53 (by decide)) ?_
    refine lfn (a_icmp_ne (tgt := 59) dX4_canHave_54 (by decide)) (fun h54 => ?_) (fun h54 => ?_)
    · obtain ⟨r, rfl⟩ : ∃ r, ro = some r := by
        cases ro with
        | none => exact absurd rfl h54
        | some r => exact ⟨r, rfl⟩
      obtain ⟨hrP, hpr, hgr⟩ := hff r rfl
      have r40 : r < 40 := by omega
      have hVa := (hV.setG p (some m)).setG r none
      have hOa := (hO.sI (S := sM) (i := 329) ⟨by decide, by decide⟩ p (nI m)).sI (S := sM) (i := 329) ⟨by decide, by decide⟩ r (-1)
      have hVb := hVa.gb hpv
      have hOb := hOa.gb (S := sM) ⟨by decide, by decide⟩ (g p)
      have hgr1 : up1 g p (some m) r = some m := by rw [up1_ne (by omega)]; exact hgr
      have hGa : GA su cap P M (up1 g p (some m)) (fun y => fr y + (if g p = some y then 1 else 0) - (if m = y then 1 else 0)) ∨ True := Or.inr trivial
      have hva1 : ∀ x k, x < P → up1 (up1 g p (some m)) r none x = some k → k < M ∧ bt (su x) k = true := fun x k hx e => by
        unfold up1 at e
        by_cases z : x = r
        · rw [if_pos z] at e; exact nomatch e
        · rw [if_neg z] at e
          by_cases z2 : x = p
          · rw [if_pos z2] at e; injection e with e; subst e; subst z2; exact ⟨hm, hb⟩
          · rw [if_neg z2] at e; exact hG.1 x k hx e
      have hGb : GA su cap P M (up1 (up1 g p (some m)) r none) (gbF fr (g p)) := ⟨hva1, fun y hy => by
        have z1 := cnt_up (g := g) hp (some m) y
        have z2 := cnt_up (g := up1 g p (some m)) hrP none y
        have z3 := hG.2 y hy
        rw [hgr1, if_neg (show ¬ (none = some y) from fun z => nomatch z)] at z2
        simp only [Option.some.injEq] at z1 z2
        rw [gb_at]
        omega⟩
      have hs1 := sz_up (g := g) hp (some m)
      have hs2 := sz_up (g := up1 g p (some m)) hrP none
      rw [hgr1] at hs2
      simp at hs1 hs2
      have hgb1 : up1 (up1 g p (some m)) r none p = some m := by rw [up1_ne (by omega), up1_eq]
      have hgb0 : ∀ i, i < p → up1 (up1 g p (some m)) r none i = g i := fun i hi => by rw [up1_ne (by omega), up1_ne (by omega)]
      refine lf (a_aload_n dX4_canHave_59 rfl) ?_
      refine lf (a_getR (cr_327_3 (by repeat (first | with_reducible exact hw | with_reducible exact hwc | with_reducible assumption | with_reducible apply Wf.sI | with_reducible apply Wf.sL | with_reducible apply Wf.cpI | with_reducible apply Wf.cpL | with_reducible apply Wf.cp2 | with_reducible apply Wf.sIs | with_reducible apply Wf.sLs | with_reducible apply Wf.cpU | with_reducible apply Wf.fillI | with_reducible apply Wf.clU | with_reducible apply Wf.dnF | with_reducible apply Wf.gbW))) dX4_canHave_60 fs_X4_15 rfl (co_327 (by repeat (first | with_reducible exact hw | with_reducible exact hwc | with_reducible assumption | with_reducible apply Wf.sI | with_reducible apply Wf.sL | with_reducible apply Wf.cpI | with_reducible apply Wf.cpL | with_reducible apply Wf.cp2 | with_reducible apply Wf.sIs | with_reducible apply Wf.sLs | with_reducible apply Wf.cpU | with_reducible apply Wf.fillI | with_reducible apply Wf.clU | with_reducible apply Wf.dnF | with_reducible apply Wf.gbW)))) ?_
      refine lf (a_iload_n dX4_canHave_63 rfl) ?_
      refine lf (a_iload_n dX4_canHave_64 rfl) ?_
      refine lf (a_ist dX4_canHave_65 (ca_329 (by repeat (first | with_reducible exact hw | with_reducible exact hwc | with_reducible assumption | with_reducible apply Wf.sI | with_reducible apply Wf.sL | with_reducible apply Wf.cpI | with_reducible apply Wf.cpL | with_reducible apply Wf.cp2 | with_reducible apply Wf.sIs | with_reducible apply Wf.sLs | with_reducible apply Wf.cpU | with_reducible apply Wf.fillI | with_reducible apply Wf.clU | with_reducible apply Wf.dnF | with_reducible apply Wf.gbW))) (ixn p40 (by decide))) ?_
      refine lf (a_aload_n dX4_canHave_66 rfl) ?_
      refine lf (a_getR (cr_327_3 (by repeat (first | with_reducible exact hw | with_reducible exact hwc | with_reducible assumption | with_reducible apply Wf.sI | with_reducible apply Wf.sL | with_reducible apply Wf.cpI | with_reducible apply Wf.cpL | with_reducible apply Wf.cp2 | with_reducible apply Wf.sIs | with_reducible apply Wf.sLs | with_reducible apply Wf.cpU | with_reducible apply Wf.fillI | with_reducible apply Wf.clU | with_reducible apply Wf.dnF | with_reducible apply Wf.gbW))) dX4_canHave_67 fs_X4_15 rfl (co_327 (by repeat (first | with_reducible exact hw | with_reducible exact hwc | with_reducible assumption | with_reducible apply Wf.sI | with_reducible apply Wf.sL | with_reducible apply Wf.cpI | with_reducible apply Wf.cpL | with_reducible apply Wf.cp2 | with_reducible apply Wf.sIs | with_reducible apply Wf.sLs | with_reducible apply Wf.cpU | with_reducible apply Wf.fillI | with_reducible apply Wf.clU | with_reducible apply Wf.dnF | with_reducible apply Wf.gbW)))) ?_
      refine lf (a_iload dX4_canHave_70 rfl) ?_
      refine lf (a_iconst (-1 : Int32) dX4_canHave_72 (by decide)) ?_
      refine lf (a_ist dX4_canHave_73 (ca_329 (by repeat (first | with_reducible exact hw | with_reducible exact hwc | with_reducible assumption | with_reducible apply Wf.sI | with_reducible apply Wf.sL | with_reducible apply Wf.cpI | with_reducible apply Wf.cpL | with_reducible apply Wf.cp2 | with_reducible apply Wf.sIs | with_reducible apply Wf.sLs | with_reducible apply Wf.cpU | with_reducible apply Wf.fillI | with_reducible apply Wf.clU | with_reducible apply Wf.dnF | with_reducible apply Wf.gbW))) (ixn r40 (by decide))) ?_
      refine lf (a_aload_n dX4_canHave_74 rfl) ?_
      refine lf (a_iload_n dX4_canHave_75 rfl) ?_
      refine lf (a_inv (b2 := (0, 0)) (t_X4_giveBack hOa.1 hpv12) rfl dX4_canHave_76 yk_X4_giveBack im_X4_giveBack se_X4_giveBack ml_X4_71 rfl (co_327 (by repeat (first | with_reducible exact hw | with_reducible exact hwc | with_reducible assumption | with_reducible apply Wf.sI | with_reducible apply Wf.sL | with_reducible apply Wf.cpI | with_reducible apply Wf.cpL | with_reducible apply Wf.cp2 | with_reducible apply Wf.sIs | with_reducible apply Wf.sLs | with_reducible apply Wf.cpU | with_reducible apply Wf.fillI | with_reducible apply Wf.clU | with_reducible apply Wf.dnF | with_reducible apply Wf.gbW))) (by decide) hc_X4 (by decide) (by decide) (Nat.le_of_ble_eq_true rfl)) ?_
      refine lf (a_iload_n dX4_canHave_79 rfl) ?_
      refine lf (a_iconst (-1 : Int32) dX4_canHave_80 (by decide)) ?_
      refine lf2 (a_icmp_eq (tgt := 94) dX4_canHave_81 (by decide)) (fun h81 => ?_) (fun h81 => ?_)
      · have hpn : g p = none := oI_inj (fun m z => by have := hpv12 m z; omega) (fun m z => nomatch z) h81
        rw [hpn] at hs1
        simp at hs1
        refine lf (a_iconst (1 : Int32) dX4_canHave_94 (by decide)) ?_
        refine ⟨_, _, (a_ireturn dX4_canHave_95 rfl rfl), ?_⟩
        first
        | exact ⟨_, rfl, hOb, _, _, hVb, hGb, by omega, hgb0, Or.inl ⟨rfl, hgb1⟩⟩
        | (rcases hon with ⟨e1, e2⟩ | ⟨e1, e2⟩
           · exact ⟨_, rfl, hOb.trans hOc, g2, fr2, hVc, hGc, by omega, fun i hi => (hprec i (by omega)).trans (hgb0 i hi), Or.inl ⟨rfl, (hprec p (by omega)).trans hgb1⟩⟩
           · injection e1 with e1; injection e1 with e1; exact absurd e1 h91)
      · obtain ⟨x, hpx⟩ : ∃ x, g p = some x := by
          cases e : g p with
          | none => rw [e] at h81; exact absurd rfl h81
          | some x => exact ⟨x, rfl⟩
        have hx := hpv x hpx
        have x12 : x < 12 := by omega
        rw [hpx] at hs1
        simp at hs1
        refine lf (a_aload_n dX4_canHave_84 rfl) ?_
        refine lf (a_iload_n dX4_canHave_85 rfl) ?_
        refine lf (a_iconst (1 : Int32) dX4_canHave_86 (by decide)) ?_
        refine lf (a_iadd dX4_canHave_87) ?_
        rw [← nI_succ]
        obtain ⟨v_, W88, k88, hOc, g2, fr2, hVc, hGc, hprec, hon⟩ := (t_X4_matchOneMore hOb.1 hP hM hVb hGb hcap (a := p + 1) (by omega))
        have hwc := hOc.1
        obtain ⟨b88, rfl⟩ : ∃ b, v_ = some (.int b) := by rcases hon with ⟨e, _⟩ | ⟨e, _⟩ <;> exact ⟨_, e⟩
        refine lf (a_inv (b2 := (0, 0)) k88 rfl dX4_canHave_88 yk_X4_matchOneMore im_X4_matchOneMore se_X4_matchOneMore ml_X4_63 rfl (co_327 (by repeat (first | with_reducible exact hw | with_reducible exact hwc | with_reducible assumption | with_reducible apply Wf.sI | with_reducible apply Wf.sL | with_reducible apply Wf.cpI | with_reducible apply Wf.cpL | with_reducible apply Wf.cp2 | with_reducible apply Wf.sIs | with_reducible apply Wf.sLs | with_reducible apply Wf.cpU | with_reducible apply Wf.fillI | with_reducible apply Wf.clU | with_reducible apply Wf.dnF | with_reducible apply Wf.gbW))) (by decide) hc_X4 (by decide) (by decide) (Nat.le_of_ble_eq_true rfl)) ?_
        refine lf2 (a_if_eq (tgt := 96) dX4_canHave_91 (by decide)) (fun h91 => ?_) (fun h91 => ?_)
        · obtain ⟨rfl, rfl, R, hR1, hR2⟩ : g2 = up1 (up1 g p (some m)) r none ∧ fr2 = gbF fr (g p) ∧ ∃ R : Nat → Bool, (∀ m, m < M → R m = true → gbF fr (g p) m = 0) ∧ ∀ x, p + 1 ≤ x → x < P → (up1 (up1 g p (some m)) r none x = none ∨ ∃ m2, up1 (up1 g p (some m)) r none x = some m2 ∧ R m2 = true) → ∀ m, m < M → bt (su x) m = true → R m = true := by
            rcases hon with ⟨e1, e2⟩ | ⟨e1, e2⟩
            · injection e1 with e1; injection e1 with e1; exact absurd (e1.symm.trans h91) (by decide)
            · exact e2
          have hfx : gbF fr (g p) x = fr x + 1 := by rw [gb_at, hpx, if_pos rfl]
          refine lf (a_aload_n dX4_canHave_96 rfl) ?_
          refine lf (a_getR (cr_327_4 (by repeat (first | with_reducible exact hw | with_reducible exact hwc | with_reducible assumption | with_reducible apply Wf.sI | with_reducible apply Wf.sL | with_reducible apply Wf.cpI | with_reducible apply Wf.cpL | with_reducible apply Wf.cp2 | with_reducible apply Wf.sIs | with_reducible apply Wf.sLs | with_reducible apply Wf.cpU | with_reducible apply Wf.fillI | with_reducible apply Wf.clU | with_reducible apply Wf.dnF | with_reducible apply Wf.gbW))) dX4_canHave_97 fs_X4_18 rfl (co_327 (by repeat (first | with_reducible exact hw | with_reducible exact hwc | with_reducible assumption | with_reducible apply Wf.sI | with_reducible apply Wf.sL | with_reducible apply Wf.cpI | with_reducible apply Wf.cpL | with_reducible apply Wf.cp2 | with_reducible apply Wf.sIs | with_reducible apply Wf.sLs | with_reducible apply Wf.cpU | with_reducible apply Wf.fillI | with_reducible apply Wf.clU | with_reducible apply Wf.dnF | with_reducible apply Wf.gbW)))) ?_
          refine lf (a_iload_n dX4_canHave_100 rfl) ?_
          rw [show oI (g p) = nI x by rw [hpx]; rfl]
          refine lf (a_dup2 dX4_canHave_101 rfl rfl) ?_
          refine lf (a_ild dX4_canHave_102 (ca_330 (by repeat (first | with_reducible exact hw | with_reducible exact hwc | with_reducible assumption | with_reducible apply Wf.sI | with_reducible apply Wf.sL | with_reducible apply Wf.cpI | with_reducible apply Wf.cpL | with_reducible apply Wf.cp2 | with_reducible apply Wf.sIs | with_reducible apply Wf.sLs | with_reducible apply Wf.cpU | with_reducible apply Wf.fillI | with_reducible apply Wf.clU | with_reducible apply Wf.dnF | with_reducible apply Wf.gbW))) (ixn x12 (by decide))) ?_
          rw [hVc.hfr hx, hfx]
          refine lf (a_iconst (1 : Int32) dX4_canHave_103 (by decide)) ?_
          refine lf (a_isub dX4_canHave_104) ?_
          rw [nI_pred]
          refine lf (a_ist dX4_canHave_105 (ca_330 (by repeat (first | with_reducible exact hw | with_reducible exact hwc | with_reducible assumption | with_reducible apply Wf.sI | with_reducible apply Wf.sL | with_reducible apply Wf.cpI | with_reducible apply Wf.cpL | with_reducible apply Wf.cp2 | with_reducible apply Wf.sIs | with_reducible apply Wf.sLs | with_reducible apply Wf.cpU | with_reducible apply Wf.fillI | with_reducible apply Wf.clU | with_reducible apply Wf.dnF | with_reducible apply Wf.gbW))) (ixn x12 (by decide))) ?_
          refine lf (a_aload_n dX4_canHave_106 rfl) ?_
          refine lf (a_getR (cr_327_3 (by repeat (first | with_reducible exact hw | with_reducible exact hwc | with_reducible assumption | with_reducible apply Wf.sI | with_reducible apply Wf.sL | with_reducible apply Wf.cpI | with_reducible apply Wf.cpL | with_reducible apply Wf.cp2 | with_reducible apply Wf.sIs | with_reducible apply Wf.sLs | with_reducible apply Wf.cpU | with_reducible apply Wf.fillI | with_reducible apply Wf.clU | with_reducible apply Wf.dnF | with_reducible apply Wf.gbW))) dX4_canHave_107 fs_X4_15 rfl (co_327 (by repeat (first | with_reducible exact hw | with_reducible exact hwc | with_reducible assumption | with_reducible apply Wf.sI | with_reducible apply Wf.sL | with_reducible apply Wf.cpI | with_reducible apply Wf.cpL | with_reducible apply Wf.cp2 | with_reducible apply Wf.sIs | with_reducible apply Wf.sLs | with_reducible apply Wf.cpU | with_reducible apply Wf.fillI | with_reducible apply Wf.clU | with_reducible apply Wf.dnF | with_reducible apply Wf.gbW)))) ?_
          refine lf (a_iload dX4_canHave_110 rfl) ?_
          refine lf (a_iload_n dX4_canHave_112 rfl) ?_
          refine lf (a_ist dX4_canHave_113 (ca_329 (by repeat (first | with_reducible exact hw | with_reducible exact hwc | with_reducible assumption | with_reducible apply Wf.sI | with_reducible apply Wf.sL | with_reducible apply Wf.cpI | with_reducible apply Wf.cpL | with_reducible apply Wf.cp2 | with_reducible apply Wf.sIs | with_reducible apply Wf.sLs | with_reducible apply Wf.cpU | with_reducible apply Wf.fillI | with_reducible apply Wf.clU | with_reducible apply Wf.dnF | with_reducible apply Wf.gbW))) (ixn r40 (by decide))) ?_
          refine lf (a_aload_n dX4_canHave_114 rfl) ?_
          refine lf (a_getR (cr_327_3 (by repeat (first | with_reducible exact hw | with_reducible exact hwc | with_reducible assumption | with_reducible apply Wf.sI | with_reducible apply Wf.sL | with_reducible apply Wf.cpI | with_reducible apply Wf.cpL | with_reducible apply Wf.cp2 | with_reducible apply Wf.sIs | with_reducible apply Wf.sLs | with_reducible apply Wf.cpU | with_reducible apply Wf.fillI | with_reducible apply Wf.clU | with_reducible apply Wf.dnF | with_reducible apply Wf.gbW))) dX4_canHave_115 fs_X4_15 rfl (co_327 (by repeat (first | with_reducible exact hw | with_reducible exact hwc | with_reducible assumption | with_reducible apply Wf.sI | with_reducible apply Wf.sL | with_reducible apply Wf.cpI | with_reducible apply Wf.cpL | with_reducible apply Wf.cp2 | with_reducible apply Wf.sIs | with_reducible apply Wf.sLs | with_reducible apply Wf.cpU | with_reducible apply Wf.fillI | with_reducible apply Wf.clU | with_reducible apply Wf.dnF | with_reducible apply Wf.gbW)))) ?_
          refine lf (a_iload_n dX4_canHave_118 rfl) ?_
          refine lf (a_iload_n dX4_canHave_119 rfl) ?_
          refine lf (a_ist dX4_canHave_120 (ca_329 (by repeat (first | with_reducible exact hw | with_reducible exact hwc | with_reducible assumption | with_reducible apply Wf.sI | with_reducible apply Wf.sL | with_reducible apply Wf.cpI | with_reducible apply Wf.cpL | with_reducible apply Wf.cp2 | with_reducible apply Wf.sIs | with_reducible apply Wf.sLs | with_reducible apply Wf.cpU | with_reducible apply Wf.fillI | with_reducible apply Wf.clU | with_reducible apply Wf.dnF | with_reducible apply Wf.gbW))) (ixn p40 (by decide))) ?_
          refine lf (a_iconst (0 : Int32) dX4_canHave_121 (by decide)) ?_
          refine ⟨_, _, (a_ireturn dX4_canHave_122 rfl rfl), ?_⟩
          refine ⟨_, rfl, ((((hOb.trans hOc).sI (S := sM) (i := 330) ⟨by decide, by decide⟩ x _).sI (S := sM) (i := 329) ⟨by decide, by decide⟩ r _).sI (S := sM) (i := 329) ⟨by decide, by decide⟩ p _), _, _, ((hVc.setF x (fr x)).setG r (some m)).setG p (some x), ?_, ?_, fun i hi => ?_, Or.inr ⟨rfl, (up1_eq _ _ _).trans hpx.symm, fun h hh hs hpre e => ?_⟩⟩
          · have hback : ∀ i, up1 (up1 (up1 (up1 g p (some m)) r none) r (some m)) p (some x) i = g i := fun i => by
              by_cases z : i = p
              · subst z; rw [up1_eq, hpx]
              · rw [up1_ne z]
                by_cases z2 : i = r
                · subst z2; rw [up1_eq, hgr]
                · rw [up1_ne z2, up1_ne z2, up1_ne z]
            have hfback : ∀ i, up1 (gbF fr (g p)) x (fr x) i = fr i := fun i => by
              by_cases z : i = x
              · subst z; rw [up1_eq]
              · rw [up1_ne z, gb_at, hpx, if_neg (fun e => by injection e with e; exact z e.symm)]; rfl
            rw [show up1 (up1 (up1 (up1 g p (some m)) r none) r (some m)) p (some x) = g from funext hback, show up1 (gbF fr (g p)) x (fr x) = fr from funext hfback]
            exact hG
          · rw [sz_cg (g' := g) (fun i _ => ?_)]
            · exact hsz
            · by_cases z : i = p
              · subst z; rw [up1_eq, hpx]
              · rw [up1_ne z]
                by_cases z2 : i = r
                · subst z2; rw [up1_eq, hgr]
                · rw [up1_ne z2, up1_ne z2, up1_ne z]
          · rw [up1_ne (by omega), up1_ne (by omega)]; exact hgb0 i hi
          · have k1 := koe (first := p + 1) hGb.1 hh (fun i hi => by
              by_cases z : i = p
              · subst z; rw [e, hgb1]
              · rw [hpre i (by omega), hgb0 i (by omega)]) (fun y hy hR => by
              have := hGb.2 y hy
              rw [hR1 y hy hR] at this
              exact this) hR2
            omega
        · refine lf (a_iconst (1 : Int32) dX4_canHave_94 (by decide)) ?_
          refine ⟨_, _, (a_ireturn dX4_canHave_95 rfl rfl), ?_⟩
          first
          | exact ⟨_, rfl, hOb, _, _, hVb, hGb, by omega, hgb0, Or.inl ⟨rfl, hgb1⟩⟩
          | (rcases hon with ⟨e1, e2⟩ | ⟨e1, e2⟩
             · exact ⟨_, rfl, hOb.trans hOc, g2, fr2, hVc, hGc, by omega, fun i hi => (hprec i (by omega)).trans (hgb0 i hi), Or.inl ⟨rfl, (hprec p (by omega)).trans hgb1⟩⟩
             · injection e1 with e1; injection e1 with e1; exact absurd e1 h91)
    · have hro : ro = none := by
        cases ro with
        | none => rfl
        | some r => exact absurd h54 (nI_ne1 (by have := hff r rfl; omega))
      refine lf (a_iconst (0 : Int32) dX4_canHave_57 (by decide)) ?_
      refine ⟨_, _, (a_ireturn dX4_canHave_58 rfl rfl), ?_⟩
      refine ⟨_, rfl, hO, g, fr, hV, hG, hsz, fun _ _ => rfl, Or.inr ⟨rfl, rfl, fun h hh hs hpre e => ?_⟩⟩
      have c1 := hh.2 m hm
      have c2 := hG.2 m hm
      have c3 := fb_ct_split (fun x => decide (g x = some m)) p (P - p)
      rw [show p + (P - p) = P by omega] at c3
      have c4 : fb_ct (fun k => decide (g (p + k) = some m)) (P - p) = 0 := fb_ct_zero.mpr fun k hk => decide_eq_false (by
        by_cases z : k = 0
        · subst z; exact hpm
        · exact hfn hro (p + k) (by omega) (by omega))
      have c5 : fb_ct (fun x => decide (h x = some m)) p = fb_ct (fun x => decide (g x = some m)) p := fb_ct_cong fun k hk => by rw [hpre k hk]
      have c6 := fb_ct_mono (fun x => decide (h x = some m)) (m := p + 1) (n := P) (by omega)
      have c7 : fb_ct (fun x => decide (h x = some m)) (p + 1) = fb_ct (fun x => decide (h x = some m)) p + 1 := by rw [fb_ct_succ, decide_eq_true e, if_pos rfl]
      unfold cntG at c1 c2
      omega
  · have hf0 : 0 < fr m := Nat.pos_of_ne_zero fun z => h13 (by rw [z]; decide)
    obtain ⟨c, hc⟩ : ∃ c, fr m = c + 1 := ⟨fr m - 1, by omega⟩
    have hV1 := hV.setF m c
    have hO1 := hO.sI (S := sM) (i := 330) ⟨by decide, by decide⟩ m (nI c)
    have hV2 := hV1.gb hpv
    have hO2 := hO1.gb (S := sM) ⟨by decide, by decide⟩ (g p)
    refine lf (a_aload_n dX4_canHave_16 rfl) ?_
    refine lf (a_getR (cr_327_4 (by repeat (first | with_reducible exact hw | with_reducible exact hwc | with_reducible assumption | with_reducible apply Wf.sI | with_reducible apply Wf.sL | with_reducible apply Wf.cpI | with_reducible apply Wf.cpL | with_reducible apply Wf.cp2 | with_reducible apply Wf.sIs | with_reducible apply Wf.sLs | with_reducible apply Wf.cpU | with_reducible apply Wf.fillI | with_reducible apply Wf.clU | with_reducible apply Wf.dnF | with_reducible apply Wf.gbW))) dX4_canHave_17 fs_X4_18 rfl (co_327 (by repeat (first | with_reducible exact hw | with_reducible exact hwc | with_reducible assumption | with_reducible apply Wf.sI | with_reducible apply Wf.sL | with_reducible apply Wf.cpI | with_reducible apply Wf.cpL | with_reducible apply Wf.cp2 | with_reducible apply Wf.sIs | with_reducible apply Wf.sLs | with_reducible apply Wf.cpU | with_reducible apply Wf.fillI | with_reducible apply Wf.clU | with_reducible apply Wf.dnF | with_reducible apply Wf.gbW)))) ?_
    refine lf (a_iload_n dX4_canHave_20 rfl) ?_
    refine lf (a_dup2 dX4_canHave_21 rfl rfl) ?_
    refine lf (a_ild dX4_canHave_22 (ca_330 (by repeat (first | with_reducible exact hw | with_reducible exact hwc | with_reducible assumption | with_reducible apply Wf.sI | with_reducible apply Wf.sL | with_reducible apply Wf.cpI | with_reducible apply Wf.cpL | with_reducible apply Wf.cp2 | with_reducible apply Wf.sIs | with_reducible apply Wf.sLs | with_reducible apply Wf.cpU | with_reducible apply Wf.fillI | with_reducible apply Wf.clU | with_reducible apply Wf.dnF | with_reducible apply Wf.gbW))) (ixn m12 (by decide))) ?_
    rw [hV.hfr hm, hc]
    refine lf (a_iconst (1 : Int32) dX4_canHave_23 (by decide)) ?_
    refine lf (a_isub dX4_canHave_24) ?_
    rw [nI_pred]
    refine lf (a_ist dX4_canHave_25 (ca_330 (by repeat (first | with_reducible exact hw | with_reducible exact hwc | with_reducible assumption | with_reducible apply Wf.sI | with_reducible apply Wf.sL | with_reducible apply Wf.cpI | with_reducible apply Wf.cpL | with_reducible apply Wf.cp2 | with_reducible apply Wf.sIs | with_reducible apply Wf.sLs | with_reducible apply Wf.cpU | with_reducible apply Wf.fillI | with_reducible apply Wf.clU | with_reducible apply Wf.dnF | with_reducible apply Wf.gbW))) (ixn m12 (by decide))) ?_
    refine lf (a_aload_n dX4_canHave_26 rfl) ?_
    refine lf (a_iload_n dX4_canHave_27 rfl) ?_
    refine lf (a_inv (b2 := (0, 0)) (t_X4_giveBack hO1.1 hpv12) rfl dX4_canHave_28 yk_X4_giveBack im_X4_giveBack se_X4_giveBack ml_X4_71 rfl (co_327 (by repeat (first | with_reducible exact hw | with_reducible exact hwc | with_reducible assumption | with_reducible apply Wf.sI | with_reducible apply Wf.sL | with_reducible apply Wf.cpI | with_reducible apply Wf.cpL | with_reducible apply Wf.cp2 | with_reducible apply Wf.sIs | with_reducible apply Wf.sLs | with_reducible apply Wf.cpU | with_reducible apply Wf.fillI | with_reducible apply Wf.clU | with_reducible apply Wf.dnF | with_reducible apply Wf.gbW))) (by decide) hc_X4 (by decide) (by decide) (Nat.le_of_ble_eq_true rfl)) ?_
    refine lf (a_aload_n dX4_canHave_31 rfl) ?_
    refine lf (a_getR (cr_327_3 (by repeat (first | with_reducible exact hw | with_reducible exact hwc | with_reducible assumption | with_reducible apply Wf.sI | with_reducible apply Wf.sL | with_reducible apply Wf.cpI | with_reducible apply Wf.cpL | with_reducible apply Wf.cp2 | with_reducible apply Wf.sIs | with_reducible apply Wf.sLs | with_reducible apply Wf.cpU | with_reducible apply Wf.fillI | with_reducible apply Wf.clU | with_reducible apply Wf.dnF | with_reducible apply Wf.gbW))) dX4_canHave_32 fs_X4_15 rfl (co_327 (by repeat (first | with_reducible exact hw | with_reducible exact hwc | with_reducible assumption | with_reducible apply Wf.sI | with_reducible apply Wf.sL | with_reducible apply Wf.cpI | with_reducible apply Wf.cpL | with_reducible apply Wf.cp2 | with_reducible apply Wf.sIs | with_reducible apply Wf.sLs | with_reducible apply Wf.cpU | with_reducible apply Wf.fillI | with_reducible apply Wf.clU | with_reducible apply Wf.dnF | with_reducible apply Wf.gbW)))) ?_
    refine lf (a_iload_n dX4_canHave_35 rfl) ?_
    refine lf (a_iload_n dX4_canHave_36 rfl) ?_
    refine lf (a_ist dX4_canHave_37 (ca_329 (by repeat (first | with_reducible exact hw | with_reducible exact hwc | with_reducible assumption | with_reducible apply Wf.sI | with_reducible apply Wf.sL | with_reducible apply Wf.cpI | with_reducible apply Wf.cpL | with_reducible apply Wf.cp2 | with_reducible apply Wf.sIs | with_reducible apply Wf.sLs | with_reducible apply Wf.cpU | with_reducible apply Wf.fillI | with_reducible apply Wf.clU | with_reducible apply Wf.dnF | with_reducible apply Wf.gbW))) (ixn p40 (by decide))) ?_
    refine lf (a_iconst (1 : Int32) dX4_canHave_38 (by decide)) ?_
    refine ⟨_, _, (a_ireturn dX4_canHave_39 rfl rfl), ?_⟩
    have hV3 := hV2.setG p (some m)
    have hO3 := hO2.sI (S := sM) (i := 329) ⟨by decide, by decide⟩ p (nI m)
    have hG3 := hG.take hp hm hb (fr1 := gbF (up1 fr m c) (g p)) (fun y hy => by
      rw [gb_at]
      unfold up1
      by_cases z : y = m
      · subst z; rw [if_pos rfl, if_pos rfl]; omega
      · rw [if_neg z, if_neg (show ¬ m = y from fun e => z e.symm)]; omega)
    have hs3 := sz_up (g := g) hp (some m)
    have hsome : (g p).isSome = true := by
      cases e : g p with
      | some x => rfl
      | none =>
        rw [e] at hs3
        simp at hs3
        have := hmax _ hG3.mt
        omega
    rw [hsome] at hs3
    simp at hs3
    exact ⟨_, rfl, hO3, _, _, hV3, hG3, by omega, fun i hi => up1_ne (by omega), Or.inl ⟨rfl, up1_eq _ _ _⟩⟩
end MATCHE
