section MATCHD
variable {μ : Wd} {W : Wd} {P M : Nat} {su : Nat → Int32} {g : Nat → Option Nat} {fr : Nat → Nat} {cap : Nat → Nat}
/-- each in the queue has one who would come to it -/
def Wit (su : Nat → Int32) (g : Nat → Option Nat) (P a : Nat) (qf : Nat → Nat) (og : Nat → Option Nat) (i : Nat) : Prop :=
  (og (qf i) = none ∨ ∃ j, j < i ∧ og (qf i) = some (qf j)) ∧ ∃ p, a ≤ p ∧ p < P ∧ g p = og (qf i) ∧ bt (su p) (qf i) = true
theorem fr_bound (h : MtV μ P M su g fr) (hG : GA su cap P M g fr) {m : Nat} (hm : m < M) (hc : cap m < 2 ^ 30) : fr m < 2 ^ 30 := by
  have := hG.2 m hm
  omega
theorem GA.lt (hG : GA su cap P M g fr) : ∀ p m, p < P → g p = some m → m < M := fun p m hp e => (hG.1 p m hp e).1
theorem GA.mt (hG : GA su cap P M g fr) : MtG (fun p m => bt (su p) m) cap P M g := ⟨hG.1, fun m hm => by have := hG.2 m hm; omega⟩
abbrev R_X4_moveAlong : Room := { frames := 1, cells := 0, slots := 0, locals := 24 }
abbrev RX_X4_moveAlong : Room := { frames := 1, cells := 1, slots := 6, locals := 24 }

theorem l_X4_moveAlong_end (hw : Wf W) (hM1 : gI W 327 1 = nI M) (hM : M ≤ 12) {a s : Nat} (hs : s < 2 ^ 31) {x : Int32} {Q : Option Value → Wd → Prop} (hQ : Q none W) : WP Y_X4_moveAlong R_X4_moveAlong (0, 0) W 15 [(0, .ref 327), (1, .int (nI a)), (2, .int x), (3, .int (-1)), (4, .int (nI (s)))] [] (fun o V => ∃ v, o = .inl v ∧ Q v V) := by
  refine lf (a_iload dX4_moveAlong_15 rfl) ?_
  refine lf (a_aload_n dX4_moveAlong_17 rfl) ?_
  refine lf (a_getI dX4_moveAlong_18 fs_X4_48 rfl (co_327 hw)) ?_
  refine lf2 (a_icmp_ge (tgt := 70) dX4_moveAlong_21 (by decide)) (fun h21 => ?_) (fun h21 => ?_)
  · refine ⟨_, _, (a_return dX4_moveAlong_70 rfl), ?_⟩
    exact ⟨_, rfl, hQ⟩
  · refine lf (a_iload_n dX4_moveAlong_24 rfl) ?_
    refine lf (a_iconst (-1 : Int32) dX4_moveAlong_25 (by decide)) ?_
    refine lf2 (a_icmp_eq (tgt := 70) dX4_moveAlong_26 (by decide)) (fun h26 => ?_) (fun h26 => absurd h26 (fun z => z rfl))
    refine ⟨_, _, (a_return dX4_moveAlong_70 rfl), ?_⟩
    exact ⟨_, rfl, hQ⟩
theorem l_X4_moveAlong_15 (hP : P ≤ 40) (hM : M ≤ 12) {a n : Nat} (ha : a ≤ P) {sn : Int32} {qf : Nat → Nat} {og : Nat → Option Nat} {fr1 : Nat → Nat} (hq : QV μ M sn n qf og) (hnM : n ≤ M) {x : Int32} : ∀ (k i : Nat), i < k → ∀ (s : Nat) (g1 : Nat → Option Nat) (W : Wd), i < n → i + s < M → Out sM μ W →
    (∀ m, m < M → bt sn m = true → gI W 332 m = oI (og m)) → MtV W P M su g1 fr1 → (∀ p m, p < P → g1 p = some m → m < M ∧ bt (su p) m = true) → (∀ m, m < M → cntG g1 P m + fr1 m + (if m = qf i then 1 else 0) = cap m) → (∀ p, p < a → g1 p = g p) → szG g1 P = szG g P → (∀ i', i' ≤ i → Wit su g1 P a qf og i') →
    WP Y_X4_moveAlong R_X4_moveAlong (0, 0) W 15 [(0, .ref 327), (1, .int (nI a)), (2, .int x), (3, .int (nI (qf i))), (4, .int (nI (s)))] [] (fun o V => ∃ v, o = .inl v ∧ (fun v V => v = none ∧ Out sM μ V ∧ ∃ g2, MtV V P M su g2 fr1 ∧ GA su cap P M g2 fr1 ∧ (∀ p, p < a → g2 p = g p) ∧ szG g2 P = szG g P + 1) v V) := by
  intro k
  induction k with
  | zero => intro i hi; omega
  | succ k ih =>
    intro i hik s g1 W hi his hO hog hV hva hc hpre hsz hwit
    have hw := hO.1
    have hqi := (hq.2.2.2.1 i hi).2
    have e12 : qf i < 12 := by omega
    obtain ⟨hor, p, hpa, hpP, hgp, hbt⟩ := hwit i (Nat.le_refl i)
    have hg12 : ∀ p m, p < P → g1 p = some m → m < 12 := fun p m hp e => by have := (hva p m hp e).1; omega
    have ho12 : ∀ m, og (qf i) = some m → m < 12 := fun m e => hg12 p m hpP (hgp.trans e)
    obtain ⟨r, hr⟩ : ∃ r, fstF (fun p => decide (g1 p = og (qf i)) && bt (su p) (qf i)) (P - a) a = some r := by
      cases e : fstF (fun p => decide (g1 p = og (qf i)) && bt (su p) (qf i)) (P - a) a with
      | some r => exact ⟨r, rfl⟩
      | none =>
        have z := fstF_none e p hpa (by omega)
        simp [hgp, hbt] at z
    obtain ⟨hra, hrP, hrp, -⟩ := fstF_some hr
    have hrP : r < P := by omega
    have hrp : g1 r = og (qf i) ∧ bt (su r) (qf i) = true := by simpa using hrp
    have hV2 := hV.setG r (some (qf i))
    have hcu := fun m => cnt_up (g := g1) hrP (some (qf i)) m
    have hsu := sz_up (g := g1) hrP (some (qf i))
    have hva2 : ∀ p m, p < P → up1 g1 r (some (qf i)) p = some m → m < M ∧ bt (su p) m = true := fun p m hp e => by
      unfold up1 at e
      by_cases h : p = r
      · rw [if_pos h] at e; injection e with e; subst e; subst h; exact ⟨hqi.1, hrp.2⟩
      · rw [if_neg h] at e; exact hva p m hp e
    have hpre2 : ∀ p, p < a → up1 g1 r (some (qf i)) p = g p := fun p hp => by rw [up1_ne (by omega)]; exact hpre p hp
    refine lf (a_iload dX4_moveAlong_15 rfl) ?_
    refine lf (a_aload_n dX4_moveAlong_17 rfl) ?_
    refine lf (a_getI dX4_moveAlong_18 fs_X4_48 rfl (co_327 (by repeat (first | with_reducible exact hw | with_reducible exact hwc | with_reducible assumption | with_reducible apply Wf.sI | with_reducible apply Wf.sL | with_reducible apply Wf.cpI | with_reducible apply Wf.cpL | with_reducible apply Wf.cp2 | with_reducible apply Wf.sIs | with_reducible apply Wf.sLs | with_reducible apply Wf.cpU | with_reducible apply Wf.fillI | with_reducible apply Wf.clU | with_reducible apply Wf.dnF | with_reducible apply Wf.gbW)))) ?_
    rw [hV.hM]
    refine lf2 (a_icmp_ge (tgt := 70) dX4_moveAlong_21 (by decide)) (fun h21 => absurd h21 (nI_ge (show s < M by omega) (by omega))) (fun h21 => ?_)
    refine lf (a_iload_n dX4_moveAlong_24 rfl) ?_
    refine lf (a_iconst (-1 : Int32) dX4_moveAlong_25 (by decide)) ?_
    refine lf2 (a_icmp_eq (tgt := 70) dX4_moveAlong_26 (by decide)) (fun h26 => absurd h26 (nI_ne1 (by omega))) (fun h26 => ?_)
    refine lf (a_aload_n dX4_moveAlong_29 rfl) ?_
    refine lf (a_getR (cr_327_6 (by repeat (first | with_reducible exact hw | with_reducible exact hwc | with_reducible assumption | with_reducible apply Wf.sI | with_reducible apply Wf.sL | with_reducible apply Wf.cpI | with_reducible apply Wf.cpL | with_reducible apply Wf.cp2 | with_reducible apply Wf.sIs | with_reducible apply Wf.sLs | with_reducible apply Wf.cpU | with_reducible apply Wf.fillI | with_reducible apply Wf.clU | with_reducible apply Wf.dnF | with_reducible apply Wf.gbW))) dX4_moveAlong_30 fs_X4_24 rfl (co_327 (by repeat (first | with_reducible exact hw | with_reducible exact hwc | with_reducible assumption | with_reducible apply Wf.sI | with_reducible apply Wf.sL | with_reducible apply Wf.cpI | with_reducible apply Wf.cpL | with_reducible apply Wf.cp2 | with_reducible apply Wf.sIs | with_reducible apply Wf.sLs | with_reducible apply Wf.cpU | with_reducible apply Wf.fillI | with_reducible apply Wf.clU | with_reducible apply Wf.dnF | with_reducible apply Wf.gbW)))) ?_
    refine lf (a_iload_n dX4_moveAlong_33 rfl) ?_
    refine lf (a_ild dX4_moveAlong_34 (ca_332 (by repeat (first | with_reducible exact hw | with_reducible exact hwc | with_reducible assumption | with_reducible apply Wf.sI | with_reducible apply Wf.sL | with_reducible apply Wf.cpI | with_reducible apply Wf.cpL | with_reducible apply Wf.cp2 | with_reducible apply Wf.sIs | with_reducible apply Wf.sLs | with_reducible apply Wf.cpU | with_reducible apply Wf.fillI | with_reducible apply Wf.clU | with_reducible apply Wf.dnF | with_reducible apply Wf.gbW))) (ixn e12 (by decide))) ?_
    rw [hog _ hqi.1 hqi.2]
    refine lf (a_istore dX4_moveAlong_35 (by decide)) ?_
    refine lf (a_aload_n dX4_moveAlong_37 rfl) ?_
    refine lf (a_iload_n dX4_moveAlong_38 rfl) ?_
    refine lf (a_iload dX4_moveAlong_39 rfl) ?_
    refine lf (a_iload_n dX4_moveAlong_41 rfl) ?_
    refine lf (a_inv (b2 := (0, 0)) (t_X4_findMover (by repeat (first | with_reducible exact hw | with_reducible exact hwc | with_reducible assumption | with_reducible apply Wf.sI | with_reducible apply Wf.sL | with_reducible apply Wf.cpI | with_reducible apply Wf.cpL | with_reducible apply Wf.cp2 | with_reducible apply Wf.sIs | with_reducible apply Wf.sLs | with_reducible apply Wf.cpU | with_reducible apply Wf.fillI | with_reducible apply Wf.clU | with_reducible apply Wf.dnF | with_reducible apply Wf.gbW)) hV hP hg12 ho12 e12 ha) rfl dX4_moveAlong_42 yk_X4_findMover im_X4_findMover se_X4_findMover ml_X4_75 rfl (co_327 (by repeat (first | with_reducible exact hw | with_reducible exact hwc | with_reducible assumption | with_reducible apply Wf.sI | with_reducible apply Wf.sL | with_reducible apply Wf.cpI | with_reducible apply Wf.cpL | with_reducible apply Wf.cp2 | with_reducible apply Wf.sIs | with_reducible apply Wf.sLs | with_reducible apply Wf.cpU | with_reducible apply Wf.fillI | with_reducible apply Wf.clU | with_reducible apply Wf.dnF | with_reducible apply Wf.gbW))) (by decide) hc_X4 (by decide) (by decide) (Nat.le_of_ble_eq_true rfl)) ?_
    rw [hr]
    refine lf (a_istore dX4_moveAlong_45 (by decide)) ?_
    refine lf (a_iload dX4_moveAlong_47 rfl) ?_
    refine lf (a_iconst (-1 : Int32) dX4_moveAlong_49 (by decide)) ?_
    refine lf2 (a_icmp_eq (tgt := 61) dX4_moveAlong_50 (by decide)) (fun h50 => absurd h50 (nI_ne1 (by omega))) (fun h50 => ?_)
    refine lf (a_aload_n dX4_moveAlong_53 rfl) ?_
    refine lf (a_getR (cr_327_3 (by repeat (first | with_reducible exact hw | with_reducible exact hwc | with_reducible assumption | with_reducible apply Wf.sI | with_reducible apply Wf.sL | with_reducible apply Wf.cpI | with_reducible apply Wf.cpL | with_reducible apply Wf.cp2 | with_reducible apply Wf.sIs | with_reducible apply Wf.sLs | with_reducible apply Wf.cpU | with_reducible apply Wf.fillI | with_reducible apply Wf.clU | with_reducible apply Wf.dnF | with_reducible apply Wf.gbW))) dX4_moveAlong_54 fs_X4_15 rfl (co_327 (by repeat (first | with_reducible exact hw | with_reducible exact hwc | with_reducible assumption | with_reducible apply Wf.sI | with_reducible apply Wf.sL | with_reducible apply Wf.cpI | with_reducible apply Wf.cpL | with_reducible apply Wf.cp2 | with_reducible apply Wf.sIs | with_reducible apply Wf.sLs | with_reducible apply Wf.cpU | with_reducible apply Wf.fillI | with_reducible apply Wf.clU | with_reducible apply Wf.dnF | with_reducible apply Wf.gbW)))) ?_
    refine lf (a_iload dX4_moveAlong_57 rfl) ?_
    refine lf (a_iload_n dX4_moveAlong_59 rfl) ?_
    refine lf (a_ist dX4_moveAlong_60 (ca_329 (by repeat (first | with_reducible exact hw | with_reducible exact hwc | with_reducible assumption | with_reducible apply Wf.sI | with_reducible apply Wf.sL | with_reducible apply Wf.cpI | with_reducible apply Wf.cpL | with_reducible apply Wf.cp2 | with_reducible apply Wf.sIs | with_reducible apply Wf.sLs | with_reducible apply Wf.cpU | with_reducible apply Wf.fillI | with_reducible apply Wf.clU | with_reducible apply Wf.dnF | with_reducible apply Wf.gbW))) (ixn (show r < 40 by omega) (by decide))) ?_
    refine lf (a_iload dX4_moveAlong_61 rfl) ?_
    refine lf (a_istore_n dX4_moveAlong_63 (by decide)) ?_
    refine lf (a_iincN dX4_moveAlong_64 rfl (by decide)) ?_
    refine lf (a_goto (tgt := 15) dX4_moveAlong_67 (by decide)) ?_
    have hO2 : Out sM μ (sI W 329 r (nI (qf i))) := hO.sI ⟨by decide, by decide⟩ _ _
    rcases hor with e | ⟨j, hj, e⟩
    · rw [e]
      refine lf (a_loc [(0, .ref 327), (1, .int (nI a)), (2, .int x), (3, .int (-1)), (4, .int (nI (s + 1)))] rfl) (l_X4_moveAlong_end hO2.1 hV2.hM hM (by omega) ⟨rfl, hO2, _, hV2, ⟨hva2, fun m hm => ?_⟩, hpre2, ?_⟩)
      · have z1 := hcu m
        have z2 := hc m hm
        rw [hrp.1, e, if_neg (show ¬ (none = some m) by simp)] at z1
        simp only [Option.some.injEq] at z1
        by_cases h : m = qf i
        · rw [if_pos h.symm] at z1; rw [if_pos h] at z2; omega
        · rw [if_neg (fun z => h z.symm)] at z1; rw [if_neg h] at z2; omega
      · rw [hrp.1, e] at hsu
        simp at hsu
        omega
    · rw [e]
      refine lf (a_loc [(0, .ref 327), (1, .int (nI a)), (2, .int x), (3, .int (nI (qf j))), (4, .int (nI (s + 1)))] rfl) (ih j (by omega) (s + 1) _ _ (by omega) (by omega) hO2 (fun m hm hb => by rw [gI_sI, if_neg (by omega)]; exact hog m hm hb) hV2 hva2 (fun m hm => ?_) hpre2 ?_ (fun i' hi' => ?_))
      · have z1 := hcu m
        have z2 := hc m hm
        have hne : qf j ≠ qf i := hq.2.2.2.2.2 j i hj hi
        rw [hrp.1, e] at z1
        simp only [Option.some.injEq] at z1
        by_cases h : m = qf i
        · rw [if_pos (show qf i = m from h.symm), if_neg (show ¬ qf j = m by omega)] at z1; rw [if_pos h] at z2; rw [if_neg (show ¬ m = qf j by omega)]; omega
        · rw [if_neg (show ¬ qf i = m from fun z => h z.symm)] at z1; rw [if_neg h] at z2
          by_cases h3 : m = qf j
          · rw [if_pos (show qf j = m from h3.symm)] at z1; rw [if_pos h3]; omega
          · rw [if_neg (show ¬ qf j = m from fun z => h3 z.symm)] at z1; rw [if_neg h3]; omega
      · rw [hrp.1, e] at hsu
        simp at hsu
        omega
      · obtain ⟨h1, p', h2, h3, h4, h5⟩ := hwit i' (by omega)
        refine ⟨h1, p', h2, h3, ?_, h5⟩
        have : p' ≠ r := by
          rintro rfl
          rw [hrp.1, e] at h4
          rcases h1 with z | ⟨j', hj', z⟩
          · rw [z] at h4; exact nomatch h4
          · rw [z] at h4
            injection h4 with h4
            exact hq.2.2.2.2.2 j' j (by omega) (by omega) h4.symm
        rw [up1_ne this]; exact h4
theorem t_X4_moveAlong (hw : Wf μ) (hP : P ≤ 40) (hM : M ≤ 12) (hV : MtV μ P M su g fr) (hG : GA su cap P M g fr) {a n i : Nat} (ha : a ≤ P) {sn : Int32} {qf : Nat → Nat} {og : Nat → Option Nat} (hq : QV μ M sn n qf og) (hi : i < n) (hwit : ∀ i', i' ≤ i → Wit su g P a qf og i') (hf : 0 < fr (qf i)) (hcap : ∀ m, m < M → cap m < 2 ^ 30) {fr1 : Nat → Nat} (hfr1 : fr1 = up1 fr (qf i) (fr (qf i) - 1)) :
    CV Y_X4_moveAlong R_X4_moveAlong [.ref 327, .int (nI a), .int (nI (qf i))] μ (fun v V => v = none ∧ Out sM μ V ∧ ∃ g2, MtV V P M su g2 fr1 ∧ GA su cap P M g2 fr1 ∧ (∀ p, p < a → g2 p = g p) ∧ szG g2 P = szG g P + 1) := by
  refine CV.ent yk_X4_moveAlong (Nat.le_of_ble_eq_true rfl) ?_
  have hqi := (hq.2.2.2.1 i hi).2
  have e12 : qf i < 12 := by omega
  have hnM : n ≤ M := by rw [hq.2.2.1]; exact fb_ct_le _ _
  obtain ⟨c, hc⟩ : ∃ c, fr (qf i) = c + 1 := ⟨fr (qf i) - 1, by omega⟩
  have hV2 := hV.setF (qf i) c
  have hfr2 : up1 fr (qf i) c = fr1 := by rw [hfr1, hc]; rfl
  rw [hfr2] at hV2
  have hO2 : Out sM μ (sI μ 330 (qf i) (nI c)) := (Out.rfl' hw).sI ⟨by decide, by decide⟩ _ _
  have hq2 : QV (sI μ 330 (qf i) (nI c)) M sn n qf og := ⟨by rw [gI_sI, if_neg (by omega)]; exact hq.1, by rw [gI_sI, if_neg (by omega)]; exact hq.2.1, hq.2.2.1, fun i hi => by rw [gI_sI, if_neg (by omega)]; exact hq.2.2.2.1 i hi, fun m hm hb => by rw [gI_sI, if_neg (by omega)]; exact hq.2.2.2.2.1 m hm hb, hq.2.2.2.2.2⟩
  refine lf (a_aload_n dX4_moveAlong_0 rfl) ?_
  refine lf (a_getR (cr_327_4 (by repeat (first | with_reducible exact hw | with_reducible exact hwc | with_reducible assumption | with_reducible apply Wf.sI | with_reducible apply Wf.sL | with_reducible apply Wf.cpI | with_reducible apply Wf.cpL | with_reducible apply Wf.cp2 | with_reducible apply Wf.sIs | with_reducible apply Wf.sLs | with_reducible apply Wf.cpU | with_reducible apply Wf.fillI | with_reducible apply Wf.clU | with_reducible apply Wf.dnF | with_reducible apply Wf.gbW))) dX4_moveAlong_1 fs_X4_18 rfl (co_327 (by repeat (first | with_reducible exact hw | with_reducible exact hwc | with_reducible assumption | with_reducible apply Wf.sI | with_reducible apply Wf.sL | with_reducible apply Wf.cpI | with_reducible apply Wf.cpL | with_reducible apply Wf.cp2 | with_reducible apply Wf.sIs | with_reducible apply Wf.sLs | with_reducible apply Wf.cpU | with_reducible apply Wf.fillI | with_reducible apply Wf.clU | with_reducible apply Wf.dnF | with_reducible apply Wf.gbW)))) ?_
  refine lf (a_iload_n dX4_moveAlong_4 rfl) ?_
  refine lf (a_dup2 dX4_moveAlong_5 rfl rfl) ?_
  refine lf (a_ild dX4_moveAlong_6 (ca_330 (by repeat (first | with_reducible exact hw | with_reducible exact hwc | with_reducible assumption | with_reducible apply Wf.sI | with_reducible apply Wf.sL | with_reducible apply Wf.cpI | with_reducible apply Wf.cpL | with_reducible apply Wf.cp2 | with_reducible apply Wf.sIs | with_reducible apply Wf.sLs | with_reducible apply Wf.cpU | with_reducible apply Wf.fillI | with_reducible apply Wf.clU | with_reducible apply Wf.dnF | with_reducible apply Wf.gbW))) (ixn e12 (by decide))) ?_
  rw [hV.hfr hqi.1, hc]
  refine lf (a_iconst (1 : Int32) dX4_moveAlong_7 (by decide)) ?_
  refine lf (a_isub dX4_moveAlong_8) ?_
  rw [nI_pred]
  refine lf (a_ist dX4_moveAlong_9 (ca_330 (by repeat (first | with_reducible exact hw | with_reducible exact hwc | with_reducible assumption | with_reducible apply Wf.sI | with_reducible apply Wf.sL | with_reducible apply Wf.cpI | with_reducible apply Wf.cpL | with_reducible apply Wf.cp2 | with_reducible apply Wf.sIs | with_reducible apply Wf.sLs | with_reducible apply Wf.cpU | with_reducible apply Wf.fillI | with_reducible apply Wf.clU | with_reducible apply Wf.dnF | with_reducible apply Wf.gbW))) (ixn e12 (by decide))) ?_
  refine lf (a_iload_n dX4_moveAlong_10 rfl) ?_
  refine lf (a_istore_n dX4_moveAlong_11 (by decide)) ?_
  refine lf (a_iconst (0 : Int32) dX4_moveAlong_12 (by decide)) ?_
  refine lf (a_istore dX4_moveAlong_13 (by decide)) ?_
  refine lf (a_loc [(0, .ref 327), (1, .int (nI a)), (2, .int (nI (qf i))), (3, .int (nI (qf i))), (4, .int (nI (0)))] rfl) ((l_X4_moveAlong_15 (g := g) (cap := cap) hP hM ha hq2 hnM (i + 1) i (by omega) 0 g _ hi (by omega) (Out.rfl' hO2.1) (fun m hm hb => (hq2.2.2.2.2.1 m hm hb).1) hV2 hG.1 (fun m hm => ?_) (fun _ _ => rfl) rfl hwit).mono ?_)
  · have z := hG.2 m hm
    rw [hfr1]
    unfold up1
    by_cases h : m = qf i
    · subst h; rw [if_pos rfl, if_pos rfl]; omega
    · rw [if_neg h, if_neg h]; omega
  · rintro o V ⟨v, h1, h2, h3, h4⟩
    exact ⟨v, h1, h2, hO2.trans h3, h4⟩
abbrev R_X4_matchOneMore : Room := { frames := 2, cells := 0, slots := 0, locals := 50 }
abbrev RX_X4_matchOneMore : Room := { frames := 2, cells := 1, slots := 6, locals := 50 }

/-- who may move: by the meal that they have -/
def Mov (su : Nat → Int32) (g : Nat → Option Nat) (a e : Nat) (h : Option Nat) (x : Int32) : Prop := ∀ j, j < 32 → (bt x j = true ↔ ∃ p, a ≤ p ∧ p < e ∧ g p = h ∧ bt (su p) j = true)
theorem Mov.skip {su : Nat → Int32} {g : Nat → Option Nat} {a e : Nat} {h : Option Nat} {x : Int32} (hm : Mov su g a e h x) (hn : g e ≠ h) : Mov su g a (e + 1) h x := fun j hj => by
  rw [hm j hj]
  constructor
  · rintro ⟨p, h1, h2, h3⟩; exact ⟨p, h1, by omega, h3⟩
  · rintro ⟨p, h1, h2, h3⟩
    refine ⟨p, h1, ?_, h3⟩
    have : p ≠ e := by rintro rfl; exact hn h3.1
    omega
theorem Mov.add {su : Nat → Int32} {g : Nat → Option Nat} {a e : Nat} {h : Option Nat} {x : Int32} (hm : Mov su g a e h x) (ha : a ≤ e) (he : g e = h) : Mov su g a (e + 1) h (x ||| su e) := fun j hj => by
  rw [b_or, Bool.or_eq_true, hm j hj]
  constructor
  · rintro (⟨p, h1, h2, h3⟩ | h)
    · exact ⟨p, h1, by omega, h3⟩
    · exact ⟨e, ha, by omega, he, h⟩
  · rintro ⟨p, h1, h2, h3, h4⟩
    by_cases z : p = e
    · subst z; exact Or.inr h4
    · exact Or.inl ⟨p, h1, by omega, h3, h4⟩
abbrev s31 : Nat → Prop := fun i => i = 331
theorem l_X4_matchOneMore_12 (hP : P ≤ 40) (hM : M ≤ 12) (hV0 : MtV μ P M su g fr) (hg : ∀ p m, p < P → g p = some m → m < M) {a : Nat} {Q : Oc → Wd → Prop} (kx : ∀ (x : Int32) (W : Wd), Out s31 μ W → Mov su g a P none x → (∀ m, m < M → Mov su g a P (some m) (gI W 331 m)) → WP Y_X4_matchOneMore R_X4_matchOneMore (0, 0) W 68 [(0, .ref 327), (1, .int (nI a)), (2, .int x), (3, .int (nI P))] [] Q) : ∀ (dd e : Nat) (x : Int32) (W : Wd), e + dd = P → a ≤ e → Out s31 μ W → Mov su g a e none x → (∀ m, m < M → Mov su g a e (some m) (gI W 331 m)) → WP Y_X4_matchOneMore R_X4_matchOneMore (0, 0) W 12 [(0, .ref 327), (1, .int (nI a)), (2, .int x), (3, .int (nI e))] [] Q := by
  intro dd
  induction dd with
  | zero =>
    intro e x W he hae hO hm hmm
    obtain rfl : P = e := by omega
    have hw := hO.1
    have hP1 : gI W 327 0 = nI P := (hO.i (by simp only [s31]; omega) 0).trans hV0.hP
    refine lf (a_iload_n dX4_matchOneMore_12 rfl) ?_
    refine lf (a_aload_n dX4_matchOneMore_13 rfl) ?_
    refine lf (a_getI dX4_matchOneMore_14 fs_X4_36 rfl (co_327 hw)) ?_
    rw [hP1]
    refine lf2 (a_icmp_ge (tgt := 68) dX4_matchOneMore_17 (by decide)) (fun h17 => ?_) (fun h17 => absurd h17 (fun z => z (nI_le (Nat.le_refl _) (by omega))))
    exact lf (a_loc _ rfl) (kx x W hO hm hmm)
  | succ dd ih =>
    intro e x W he hae hO hm hmm
    have hw := hO.1
    have hP1 : gI W 327 0 = nI P := (hO.i (by simp only [s31]; omega) 0).trans hV0.hP
    have eg : gI W 329 e = oI (g e) := (hO.i (by simp only [s31]; omega) e).trans (hV0.hgo (by omega))
    have es : gI W 328 e = su e := (hO.i (by simp only [s31]; omega) e).trans (hV0.hsu (by omega))
    have e40 : e < 40 := by omega
    refine lf (a_iload_n dX4_matchOneMore_12 rfl) ?_
    refine lf (a_aload_n dX4_matchOneMore_13 rfl) ?_
    refine lf (a_getI dX4_matchOneMore_14 fs_X4_36 rfl (co_327 (by repeat (first | with_reducible exact hw | with_reducible exact hwc | with_reducible assumption | with_reducible apply Wf.sI | with_reducible apply Wf.sL | with_reducible apply Wf.cpI | with_reducible apply Wf.cpL | with_reducible apply Wf.cp2 | with_reducible apply Wf.sIs | with_reducible apply Wf.sLs | with_reducible apply Wf.cpU | with_reducible apply Wf.fillI | with_reducible apply Wf.clU | with_reducible apply Wf.dnF | with_reducible apply Wf.gbW)))) ?_
    rw [hP1]
    refine lf2 (a_icmp_ge (tgt := 68) dX4_matchOneMore_17 (by decide)) (fun h17 => absurd h17 (nI_ge (show e < P by omega) (by omega))) (fun h17 => ?_)
    refine lf (a_aload_n dX4_matchOneMore_20 rfl) ?_
    refine lf (a_getR (cr_327_3 (by repeat (first | with_reducible exact hw | with_reducible exact hwc | with_reducible assumption | with_reducible apply Wf.sI | with_reducible apply Wf.sL | with_reducible apply Wf.cpI | with_reducible apply Wf.cpL | with_reducible apply Wf.cp2 | with_reducible apply Wf.sIs | with_reducible apply Wf.sLs | with_reducible apply Wf.cpU | with_reducible apply Wf.fillI | with_reducible apply Wf.clU | with_reducible apply Wf.dnF | with_reducible apply Wf.gbW))) dX4_matchOneMore_21 fs_X4_15 rfl (co_327 (by repeat (first | with_reducible exact hw | with_reducible exact hwc | with_reducible assumption | with_reducible apply Wf.sI | with_reducible apply Wf.sL | with_reducible apply Wf.cpI | with_reducible apply Wf.cpL | with_reducible apply Wf.cp2 | with_reducible apply Wf.sIs | with_reducible apply Wf.sLs | with_reducible apply Wf.cpU | with_reducible apply Wf.fillI | with_reducible apply Wf.clU | with_reducible apply Wf.dnF | with_reducible apply Wf.gbW)))) ?_
    refine lf (a_iload_n dX4_matchOneMore_24 rfl) ?_
    refine lf (a_ild dX4_matchOneMore_25 (ca_329 (by repeat (first | with_reducible exact hw | with_reducible exact hwc | with_reducible assumption | with_reducible apply Wf.sI | with_reducible apply Wf.sL | with_reducible apply Wf.cpI | with_reducible apply Wf.cpL | with_reducible apply Wf.cp2 | with_reducible apply Wf.sIs | with_reducible apply Wf.sLs | with_reducible apply Wf.cpU | with_reducible apply Wf.fillI | with_reducible apply Wf.clU | with_reducible apply Wf.dnF | with_reducible apply Wf.gbW))) (ixn e40 (by decide))) ?_
    rw [eg]
    refine lf (a_iconst (-1 : Int32) dX4_matchOneMore_26 (by decide)) ?_
    refine lfn (a_icmp_ne (tgt := 42) dX4_matchOneMore_27 (by decide)) (fun h27 => ?_) (fun h27 => ?_)
    · obtain ⟨m, hge⟩ : ∃ m, g e = some m := by
        cases z : g e with
        | none => rw [z] at h27; exact absurd rfl h27
        | some m => exact ⟨m, rfl⟩
      have hmM := hg e m (by omega) hge
      refine lf (a_aload_n dX4_matchOneMore_42 rfl) ?_
      refine lf (a_getR (cr_327_5 (by repeat (first | with_reducible exact hw | with_reducible exact hwc | with_reducible assumption | with_reducible apply Wf.sI | with_reducible apply Wf.sL | with_reducible apply Wf.cpI | with_reducible apply Wf.cpL | with_reducible apply Wf.cp2 | with_reducible apply Wf.sIs | with_reducible apply Wf.sLs | with_reducible apply Wf.cpU | with_reducible apply Wf.fillI | with_reducible apply Wf.clU | with_reducible apply Wf.dnF | with_reducible apply Wf.gbW))) dX4_matchOneMore_43 fs_X4_21 rfl (co_327 (by repeat (first | with_reducible exact hw | with_reducible exact hwc | with_reducible assumption | with_reducible apply Wf.sI | with_reducible apply Wf.sL | with_reducible apply Wf.cpI | with_reducible apply Wf.cpL | with_reducible apply Wf.cp2 | with_reducible apply Wf.sIs | with_reducible apply Wf.sLs | with_reducible apply Wf.cpU | with_reducible apply Wf.fillI | with_reducible apply Wf.clU | with_reducible apply Wf.dnF | with_reducible apply Wf.gbW)))) ?_
      refine lf (a_aload_n dX4_matchOneMore_46 rfl) ?_
      refine lf (a_getR (cr_327_3 (by repeat (first | with_reducible exact hw | with_reducible exact hwc | with_reducible assumption | with_reducible apply Wf.sI | with_reducible apply Wf.sL | with_reducible apply Wf.cpI | with_reducible apply Wf.cpL | with_reducible apply Wf.cp2 | with_reducible apply Wf.sIs | with_reducible apply Wf.sLs | with_reducible apply Wf.cpU | with_reducible apply Wf.fillI | with_reducible apply Wf.clU | with_reducible apply Wf.dnF | with_reducible apply Wf.gbW))) dX4_matchOneMore_47 fs_X4_15 rfl (co_327 (by repeat (first | with_reducible exact hw | with_reducible exact hwc | with_reducible assumption | with_reducible apply Wf.sI | with_reducible apply Wf.sL | with_reducible apply Wf.cpI | with_reducible apply Wf.cpL | with_reducible apply Wf.cp2 | with_reducible apply Wf.sIs | with_reducible apply Wf.sLs | with_reducible apply Wf.cpU | with_reducible apply Wf.fillI | with_reducible apply Wf.clU | with_reducible apply Wf.dnF | with_reducible apply Wf.gbW)))) ?_
      refine lf (a_iload_n dX4_matchOneMore_50 rfl) ?_
      refine lf (a_ild dX4_matchOneMore_51 (ca_329 (by repeat (first | with_reducible exact hw | with_reducible exact hwc | with_reducible assumption | with_reducible apply Wf.sI | with_reducible apply Wf.sL | with_reducible apply Wf.cpI | with_reducible apply Wf.cpL | with_reducible apply Wf.cp2 | with_reducible apply Wf.sIs | with_reducible apply Wf.sLs | with_reducible apply Wf.cpU | with_reducible apply Wf.fillI | with_reducible apply Wf.clU | with_reducible apply Wf.dnF | with_reducible apply Wf.gbW))) (ixn e40 (by decide))) ?_
      rw [eg, hge]
      refine lf (a_dup2 dX4_matchOneMore_52 rfl rfl) ?_
      refine lf (a_ild dX4_matchOneMore_53 (ca_331 (by repeat (first | with_reducible exact hw | with_reducible exact hwc | with_reducible assumption | with_reducible apply Wf.sI | with_reducible apply Wf.sL | with_reducible apply Wf.cpI | with_reducible apply Wf.cpL | with_reducible apply Wf.cp2 | with_reducible apply Wf.sIs | with_reducible apply Wf.sLs | with_reducible apply Wf.cpU | with_reducible apply Wf.fillI | with_reducible apply Wf.clU | with_reducible apply Wf.dnF | with_reducible apply Wf.gbW))) (ixn (show m < 12 by omega) (by decide))) ?_
      refine lf (a_aload_n dX4_matchOneMore_54 rfl) ?_
      refine lf (a_getR (cr_327_2 (by repeat (first | with_reducible exact hw | with_reducible exact hwc | with_reducible assumption | with_reducible apply Wf.sI | with_reducible apply Wf.sL | with_reducible apply Wf.cpI | with_reducible apply Wf.cpL | with_reducible apply Wf.cp2 | with_reducible apply Wf.sIs | with_reducible apply Wf.sLs | with_reducible apply Wf.cpU | with_reducible apply Wf.fillI | with_reducible apply Wf.clU | with_reducible apply Wf.dnF | with_reducible apply Wf.gbW))) dX4_matchOneMore_55 fs_X4_9 rfl (co_327 (by repeat (first | with_reducible exact hw | with_reducible exact hwc | with_reducible assumption | with_reducible apply Wf.sI | with_reducible apply Wf.sL | with_reducible apply Wf.cpI | with_reducible apply Wf.cpL | with_reducible apply Wf.cp2 | with_reducible apply Wf.sIs | with_reducible apply Wf.sLs | with_reducible apply Wf.cpU | with_reducible apply Wf.fillI | with_reducible apply Wf.clU | with_reducible apply Wf.dnF | with_reducible apply Wf.gbW)))) ?_
      refine lf (a_iload_n dX4_matchOneMore_58 rfl) ?_
      refine lf (a_ild dX4_matchOneMore_59 (ca_328 (by repeat (first | with_reducible exact hw | with_reducible exact hwc | with_reducible assumption | with_reducible apply Wf.sI | with_reducible apply Wf.sL | with_reducible apply Wf.cpI | with_reducible apply Wf.cpL | with_reducible apply Wf.cp2 | with_reducible apply Wf.sIs | with_reducible apply Wf.sLs | with_reducible apply Wf.cpU | with_reducible apply Wf.fillI | with_reducible apply Wf.clU | with_reducible apply Wf.dnF | with_reducible apply Wf.gbW))) (ixn e40 (by decide))) ?_
      rw [es]
      refine lf (a_ior dX4_matchOneMore_60) ?_
      refine lf (a_ist dX4_matchOneMore_61 (ca_331 (by repeat (first | with_reducible exact hw | with_reducible exact hwc | with_reducible assumption | with_reducible apply Wf.sI | with_reducible apply Wf.sL | with_reducible apply Wf.cpI | with_reducible apply Wf.cpL | with_reducible apply Wf.cp2 | with_reducible apply Wf.sIs | with_reducible apply Wf.sLs | with_reducible apply Wf.cpU | with_reducible apply Wf.fillI | with_reducible apply Wf.clU | with_reducible apply Wf.dnF | with_reducible apply Wf.gbW))) (ixn (show m < 12 by omega) (by decide))) ?_
      refine lf (a_iincN dX4_matchOneMore_62 rfl (by decide)) ?_
      refine lf (a_goto (tgt := 12) dX4_matchOneMore_65 (by decide)) ?_
      first
      | exact lf (a_loc _ rfl) (ih (e + 1) _ _ (by omega) (by omega) hO (hm.add hae hge) (fun k hk => (hmm k hk).skip (by rw [hge]; exact fun z => nomatch z)))
      | exact lf (a_loc _ rfl) (ih (e + 1) _ _ (by omega) (by omega) (hO.sI rfl _ _) (hm.skip (by rw [hge]; exact fun z => nomatch z)) (fun k hk => by
          rw [gI_sI]
          by_cases z : k = m
          · subst z; rw [if_pos ⟨rfl, rfl⟩]; exact (hmm k hk).add hae hge
          · rw [if_neg (fun y => z y.2)]; exact (hmm k hk).skip (by rw [hge]; intro y; injection y with y; exact z y.symm)))
    · have hge : g e = none := oI_inj (fun m z => by have := hg e m (by omega) z; omega) (fun m z => nomatch z) h27
      refine lf (a_iload_n dX4_matchOneMore_30 rfl) ?_
      refine lf (a_aload_n dX4_matchOneMore_31 rfl) ?_
      refine lf (a_getR (cr_327_2 (by repeat (first | with_reducible exact hw | with_reducible exact hwc | with_reducible assumption | with_reducible apply Wf.sI | with_reducible apply Wf.sL | with_reducible apply Wf.cpI | with_reducible apply Wf.cpL | with_reducible apply Wf.cp2 | with_reducible apply Wf.sIs | with_reducible apply Wf.sLs | with_reducible apply Wf.cpU | with_reducible apply Wf.fillI | with_reducible apply Wf.clU | with_reducible apply Wf.dnF | with_reducible apply Wf.gbW))) dX4_matchOneMore_32 fs_X4_9 rfl (co_327 (by repeat (first | with_reducible exact hw | with_reducible exact hwc | with_reducible assumption | with_reducible apply Wf.sI | with_reducible apply Wf.sL | with_reducible apply Wf.cpI | with_reducible apply Wf.cpL | with_reducible apply Wf.cp2 | with_reducible apply Wf.sIs | with_reducible apply Wf.sLs | with_reducible apply Wf.cpU | with_reducible apply Wf.fillI | with_reducible apply Wf.clU | with_reducible apply Wf.dnF | with_reducible apply Wf.gbW)))) ?_
      refine lf (a_iload_n dX4_matchOneMore_35 rfl) ?_
      refine lf (a_ild dX4_matchOneMore_36 (ca_328 (by repeat (first | with_reducible exact hw | with_reducible exact hwc | with_reducible assumption | with_reducible apply Wf.sI | with_reducible apply Wf.sL | with_reducible apply Wf.cpI | with_reducible apply Wf.cpL | with_reducible apply Wf.cp2 | with_reducible apply Wf.sIs | with_reducible apply Wf.sLs | with_reducible apply Wf.cpU | with_reducible apply Wf.fillI | with_reducible apply Wf.clU | with_reducible apply Wf.dnF | with_reducible apply Wf.gbW))) (ixn e40 (by decide))) ?_
      rw [es]
      refine lf (a_ior dX4_matchOneMore_37) ?_
      refine lf (a_istore_n dX4_matchOneMore_38 (by decide)) ?_
      refine lf (a_goto (tgt := 62) dX4_matchOneMore_39 (by decide)) ?_
      refine lf (a_iincN dX4_matchOneMore_62 rfl (by decide)) ?_
      refine lf (a_goto (tgt := 12) dX4_matchOneMore_65 (by decide)) ?_
      first
      | exact lf (a_loc _ rfl) (ih (e + 1) _ _ (by omega) (by omega) hO (hm.add hae hge) (fun k hk => (hmm k hk).skip (by rw [hge]; exact fun z => nomatch z)))
      | exact lf (a_loc _ rfl) (ih (e + 1) _ _ (by omega) (by omega) (hO.sI rfl _ _) (hm.skip (by rw [hge]; exact fun z => nomatch z)) (fun k hk => by
          rw [gI_sI]
          by_cases z : k = m
          · subst z; rw [if_pos ⟨rfl, rfl⟩]; exact (hmm k hk).add hae hge
          · rw [if_neg (fun y => z y.2)]; exact (hmm k hk).skip (by rw [hge]; intro y; injection y with y; exact z y.symm)))
/-- what one more matched leaves -/
def OneQ (su : Nat → Int32) (cap : Nat → Nat) (P M a : Nat) (g : Nat → Option Nat) (fr : Nat → Nat) (μ : Wd) (v : Option Value) (V : Wd) : Prop :=
  Out sM μ V ∧ ∃ g2 fr2, MtV V P M su g2 fr2 ∧ GA su cap P M g2 fr2 ∧ (∀ p, p < a → g2 p = g p) ∧ ((v = some (.int 1) ∧ szG g2 P = szG g P + 1) ∨
    (v = some (.int 0) ∧ g2 = g ∧ fr2 = fr ∧ ∃ R : Nat → Bool, (∀ m, m < M → R m = true → fr m = 0) ∧ ∀ p, a ≤ p → p < P → (g p = none ∨ ∃ m, g p = some m ∧ R m = true) → ∀ m, m < M → bt (su p) m = true → R m = true))
/-- the search, ahead of the h-th in the queue -/
def BfI (su : Nat → Int32) (P M a : Nat) (g : Nat → Option Nat) (fr : Nat → Nat) (h : Nat) (W : Wd) : Prop :=
  MtV W P M su g fr ∧ (∀ m, m < M → Mov su g a P (some m) (gI W 331 m)) ∧ ∃ (sn : Int32) (n : Nat) (qf : Nat → Nat) (og : Nat → Option Nat), QV W M sn n qf og ∧ (∀ i, i < n → Wit su g P a qf og i) ∧
    (∀ p, a ≤ p → p < P → g p = none → ∀ m, m < M → bt (su p) m = true → bt sn m = true) ∧ h ≤ n ∧ ∀ i, i < h → fr (qf i) = 0 ∧ ∀ p, a ≤ p → p < P → g p = some (qf i) → ∀ m, m < M → bt (su p) m = true → bt sn m = true
theorem l_X4_matchOneMore_86 (hP : P ≤ 40) (hM : M ≤ 12) (hG : GA su cap P M g fr) (hcap : ∀ m, m < M → cap m < 2 ^ 30) {a : Nat} (ha : a ≤ P) {x : Int32} : ∀ (k h : Nat) (W : Wd), h + k = M → Out sM μ W → BfI su P M a g fr h W → WP Y_X4_matchOneMore R_X4_matchOneMore (0, 0) W 86 [(0, .ref 327), (1, .int (nI a)), (2, .int x), (3, .int (nI h))] [] (fun o V => ∃ v, o = .inl v ∧ OneQ su cap P M a g fr μ v V) := by
  intro k
  induction k with
  | zero =>
    intro h W hh hO hI
    obtain ⟨hV, hmv, sn, n, qf, og, hq, hwit, hroot, hhn, hdone⟩ := hI
    have hw := hO.1
    have hnM : n ≤ M := by rw [hq.2.2.1]; exact fb_ct_le _ _
    obtain rfl : n = h := by omega
    refine lf (a_iload_n dX4_matchOneMore_86 rfl) ?_
    refine lf (a_aload_n dX4_matchOneMore_87 rfl) ?_
    refine lf (a_getI dX4_matchOneMore_88 fs_X4_85 rfl (co_327 hw)) ?_
    rw [hq.2.1]
    refine lf2 (a_icmp_ge (tgt := 148) dX4_matchOneMore_91 (by decide)) (fun h91 => ?_) (fun h91 => absurd h91 (fun z => z (nI_le (Nat.le_refl _) (by omega))))
    refine lf (a_iconst (0 : Int32) dX4_matchOneMore_148 (by decide)) ?_
    refine ⟨_, _, (a_ireturn dX4_matchOneMore_149 rfl rfl), ?_⟩
    exact ⟨_, rfl, hO, g, fr, hV, hG, fun _ _ => rfl, Or.inr ⟨rfl, rfl, rfl, fun m => bt sn m, fun m hm hb => by
      obtain ⟨-, i, hi, e⟩ := hq.2.2.2.2.1 m hm hb
      rw [← e]; exact (hdone i (by omega)).1, fun p h1 h2 h3 m hm hb => by
      rcases h3 with e | ⟨m2, e, hb2⟩
      · exact hroot p h1 h2 e m hm hb
      · obtain ⟨-, i, hi, e2⟩ := hq.2.2.2.2.1 m2 (hG.lt p m2 h2 e) hb2
        exact (hdone i (by omega)).2 p h1 h2 (by rw [e2]; exact e) m hm hb⟩⟩
  | succ k ih =>
    intro h W hh hO hI
    obtain ⟨hV, hmv, sn, n, qf, og, hq, hwit, hroot, hhn, hdone⟩ := hI
    have hw := hO.1
    have hnM : n ≤ M := by rw [hq.2.2.1]; exact fb_ct_le _ _
    refine lf (a_iload_n dX4_matchOneMore_86 rfl) ?_
    refine lf (a_aload_n dX4_matchOneMore_87 rfl) ?_
    refine lf (a_getI dX4_matchOneMore_88 fs_X4_85 rfl (co_327 hw)) ?_
    rw [hq.2.1]
    refine lf2 (a_icmp_ge (tgt := 148) dX4_matchOneMore_91 (by decide)) (fun h91 => ?_) (fun h91 => ?_)
    · obtain rfl : n = h := by
        have := (nI_leI (by omega) (by omega)).mp h91
        omega
      refine lf (a_iconst (0 : Int32) dX4_matchOneMore_148 (by decide)) ?_
      refine ⟨_, _, (a_ireturn dX4_matchOneMore_149 rfl rfl), ?_⟩
      exact ⟨_, rfl, hO, g, fr, hV, hG, fun _ _ => rfl, Or.inr ⟨rfl, rfl, rfl, fun m => bt sn m, fun m hm hb => by
        obtain ⟨-, i, hi, e⟩ := hq.2.2.2.2.1 m hm hb
        rw [← e]; exact (hdone i (by omega)).1, fun p h1 h2 h3 m hm hb => by
        rcases h3 with e | ⟨m2, e, hb2⟩
        · exact hroot p h1 h2 e m hm hb
        · obtain ⟨-, i, hi, e2⟩ := hq.2.2.2.2.1 m2 (hG.lt p m2 h2 e) hb2
          exact (hdone i (by omega)).2 p h1 h2 (by rw [e2]; exact e) m hm hb⟩⟩
    · have hhn2 : h < n := by
        have : ¬ n ≤ h := fun z => h91 ((nI_leI (by omega) (by omega)).mpr z)
        omega
      obtain ⟨hqf, hqh⟩ := hq.2.2.2.1 h hhn2
      have e12 : qf h < 12 := by omega
      have hfb := fr_bound hV hG hqh.1 (hcap _ hqh.1)
      refine lf (a_iload_n dX4_matchOneMore_94 rfl) ?_
      refine lf (a_aload_n dX4_matchOneMore_95 rfl) ?_
      refine lf (a_getI dX4_matchOneMore_96 fs_X4_48 rfl (co_327 hw)) ?_
      rw [hV.hM]
      refine lf2 (a_icmp_ge (tgt := 148) dX4_matchOneMore_99 (by decide)) (fun h99 => absurd h99 (nI_ge (show h < M by omega) (by omega))) (fun h99 => ?_)
      refine lf (a_aload_n dX4_matchOneMore_102 rfl) ?_
      refine lf (a_getR (cr_327_7 hw) dX4_matchOneMore_103 fs_X4_27 rfl (co_327 hw)) ?_
      refine lf (a_iload_n dX4_matchOneMore_106 rfl) ?_
      refine lf (a_ild dX4_matchOneMore_107 (ca_333 hw) (ixn (show h < 12 by omega) (by decide))) ?_
      rw [hqf]
      refine lf (a_istore dX4_matchOneMore_108 (by decide)) ?_
      refine lf (a_aload_n dX4_matchOneMore_110 rfl) ?_
      refine lf (a_getR (cr_327_4 hw) dX4_matchOneMore_111 fs_X4_18 rfl (co_327 hw)) ?_
      refine lf (a_iload dX4_matchOneMore_114 rfl) ?_
      refine lf (a_ild dX4_matchOneMore_116 (ca_330 hw) (ixn e12 (by decide))) ?_
      rw [hV.hfr hqh.1]
      refine lf2 (a_if_le (tgt := 129) dX4_matchOneMore_117 (by decide)) (fun h117 => ?_) (fun h117 => ?_)
      · have hf0 : fr (qf h) = 0 := by
          have := (nI_leI (b := 0) (by omega) (by decide)).mp h117
          omega
        refine lf (a_aload_n dX4_matchOneMore_129 rfl) ?_
        refine lf (a_aload_n dX4_matchOneMore_130 rfl) ?_
        refine lf (a_getR (cr_327_5 hw) dX4_matchOneMore_131 fs_X4_21 rfl (co_327 hw)) ?_
        refine lf (a_iload dX4_matchOneMore_134 rfl) ?_
        refine lf (a_ild dX4_matchOneMore_136 (ca_331 hw) (ixn e12 (by decide))) ?_
        refine lf (a_iload dX4_matchOneMore_137 rfl) ?_
        obtain ⟨v_, W139, k139, rfl, hOR, hRe⟩ := (t_X4_reach hw hV.hM hM hq (gI W 331 (qf h)) (some (qf h)))
        refine lf (a_inv (b2 := (0, 0)) k139 rfl dX4_matchOneMore_139 yk_X4_reach im_X4_reach se_X4_reach ml_X4_91 rfl (co_327 hw) (by decide) hc_X4 (by decide) (by decide) (Nat.le_of_ble_eq_true rfl)) ?_
        refine lf (a_iincN dX4_matchOneMore_142 rfl (by decide)) ?_
        refine lf (a_goto (tgt := 86) dX4_matchOneMore_145 (by decide)) ?_
        obtain ⟨sn2, n2, qf2, og2, hq2, hs2, hn2, hf2, ho2, hw2⟩ := hRe
        have hsub : ∀ m, m < M → bt sn m = true → bt sn2 m = true := fun m hm hb => by rw [hs2 m hm, hb]; rfl
        have hold : ∀ i, i < n → qf2 i = qf i ∧ og2 (qf i) = og (qf i) := fun i hi => ⟨hf2 i hi, ho2 _ (hq.2.2.2.1 i hi).2.1 (hq.2.2.2.1 i hi).2.2⟩
        have hmh := hmv (qf h) hqh.1
        refine lf (a_loc _ rfl) (ih (h + 1) _ (by omega) (hO.trans hOR.sM) ⟨hOR.mt hV, fun m hm => by rw [hOR.mv]; exact hmv m hm, sn2, n2, qf2, og2, hq2, fun i hi => ?_, fun p h1 h2 h3 m hm hb => hsub m hm (hroot p h1 h2 h3 m hm hb), by omega, fun i hi => ?_⟩)
        · by_cases z : i < n
          · obtain ⟨e1, e2⟩ := hold i z
            obtain ⟨c1, c2⟩ := hwit i z
            unfold Wit
            rw [e1, e2]
            refine ⟨?_, c2⟩
            rcases c1 with c1 | ⟨j, hj, c1⟩
            · exact Or.inl c1
            · exact Or.inr ⟨j, hj, by rw [(hold j (by omega)).1]; exact c1⟩
          · obtain ⟨e1, e2, -⟩ := hw2 i (by omega) hi
            have hqi := (hq2.2.2.2.1 i hi).2.1
            obtain ⟨p, h1, h2, h3, h4⟩ := (hmh (qf2 i) (by omega)).mp e2
            unfold Wit
            rw [e1]
            exact ⟨Or.inr ⟨h, by omega, by rw [(hold h (by omega)).1]⟩, p, h1, h2, h3, h4⟩
        · by_cases z : i < h
          · obtain ⟨c1, c2⟩ := hdone i z
            rw [(hold i (by omega)).1]
            exact ⟨c1, fun p h1 h2 h3 m hm hb => hsub m hm (c2 p h1 h2 h3 m hm hb)⟩
          · obtain rfl : i = h := by omega
            rw [(hold i (by omega)).1]
            exact ⟨hf0, fun p h1 h2 h3 m hm hb => by
              rw [hs2 m hm, decide_eq_true hm, (hmh m (by omega)).mpr ⟨p, h1, h2, h3, hb⟩]; simp⟩
      · have hf0 : 0 < fr (qf h) := Nat.pos_of_ne_zero fun z => h117 (by rw [z]; decide)
        refine lf (a_aload_n dX4_matchOneMore_120 rfl) ?_
        refine lf (a_iload_n dX4_matchOneMore_121 rfl) ?_
        refine lf (a_iload dX4_matchOneMore_122 rfl) ?_
        obtain ⟨v_, W124, k124, rfl, hO2, g2, hV2, hG2, hpre2, hsz2⟩ := (t_X4_moveAlong hw hP hM hV hG ha hq hhn2 (fun i hi => hwit i (by omega)) hf0 hcap rfl)
        refine lf (a_inv (b2 := (0, 0)) k124 rfl dX4_matchOneMore_124 yk_X4_moveAlong im_X4_moveAlong se_X4_moveAlong ml_X4_95 rfl (co_327 hw) (by decide) hc_X4 (by decide) (by decide) (Nat.le_of_ble_eq_true rfl)) ?_
        refine lf (a_iconst (1 : Int32) dX4_matchOneMore_127 (by decide)) ?_
        refine ⟨_, _, (a_ireturn dX4_matchOneMore_128 rfl rfl), ?_⟩
        exact ⟨_, rfl, hO.trans hO2, g2, _, hV2, hG2, hpre2, Or.inl ⟨rfl, hsz2⟩⟩
theorem t_X4_matchOneMore (hw : Wf μ) (hP : P ≤ 40) (hM : M ≤ 12) (hV : MtV μ P M su g fr) (hG : GA su cap P M g fr) (hcap : ∀ m, m < M → cap m < 2 ^ 30) {a : Nat} (ha : a ≤ P) : CV Y_X4_matchOneMore R_X4_matchOneMore [.ref 327, .int (nI a)] μ (OneQ su cap P M a g fr μ) := by
  refine CV.ent yk_X4_matchOneMore (Nat.le_of_ble_eq_true rfl) ?_
  have hO0 : Out s31 μ (fillI μ 331 12 0) := (Out.rfl' hw).sIs fun i hi k => if_neg (show ¬ (i = 331 ∧ k < 12) from fun z => hi z.1)
  refine lf (a_aload_n dX4_matchOneMore_0 rfl) ?_
  refine lf (a_getR (cr_327_5 hw) dX4_matchOneMore_1 fs_X4_21 rfl (co_327 hw)) ?_
  refine lf (a_iconst (0 : Int32) dX4_matchOneMore_4 (by decide)) ?_
  refine lf (a_invS (b2 := (0, 0)) (t_J7_fill_53178 (ca_331 hw) (by decide) 0) rfl dX4_matchOneMore_5 yk_J7_fill_53178 sm_J7_fill_53178 ml_X4_79 rfl (by decide) (by decide) (Nat.le_of_ble_eq_true rfl)) ?_
  refine lf (a_iconst (0 : Int32) dX4_matchOneMore_8 (by decide)) ?_
  refine lf (a_istore_n dX4_matchOneMore_9 (by decide)) ?_
  refine lf (a_iload_n dX4_matchOneMore_10 rfl) ?_
  refine lf (a_istore_n dX4_matchOneMore_11 (by decide)) ?_
  refine lf (a_loc [(0, .ref 327), (1, .int (nI a)), (2, .int 0), (3, .int (nI a))] rfl) (l_X4_matchOneMore_12 hP hM hV hG.lt (a := a) (fun x W hO hmn hmm => ?_) (P - a) a 0 _ (by omega) (Nat.le_refl _) hO0 (fun j hj => ⟨fun z => absurd z (by rw [b_0]; exact Bool.false_ne_true), fun ⟨p, h1, h2, _⟩ => by omega⟩) (fun m hm j hj => (by
    have e0 : gI (fillI μ 331 12 0) 331 m = 0 := if_pos ⟨rfl, by omega⟩
    rw [e0]
    exact ⟨fun z => absurd z (by rw [b_0]; exact Bool.false_ne_true), fun ⟨p, h1, h2, _⟩ => by omega⟩)))
  have hw := hO.1
  have h0 : ∀ (i k : Nat), i ≠ 331 → gI W i k = gI μ i k := fun i k z => hO.i z k
  have hw2 : Wf (sI (sI W 327 8 0) 327 9 0) := hw.sI.sI
  have hV2 : MtV (sI (sI W 327 8 0) 327 9 0) P M su g fr := hV.of (by rw [gI_sI, if_neg (by omega), gI_sI, if_neg (by omega)]; exact h0 327 0 (by decide)) (by rw [gI_sI, if_neg (by omega), gI_sI, if_neg (by omega)]; exact h0 327 1 (by decide)) (fun i h1 h2 k => by rw [gI_sI, if_neg (by omega), gI_sI, if_neg (by omega)]; exact h0 i k (by omega))
  have hq0 : QV (sI (sI W 327 8 0) 327 9 0) M 0 0 (fun _ => 0) (fun _ => none) := ⟨by rw [gI_sI, if_pos ⟨rfl, rfl⟩], by rw [gI_sI, if_neg (by omega), gI_sI, if_pos ⟨rfl, rfl⟩]; rfl, (fb_ct_zero.mpr fun k _ => b_0 k).symm, fun i hi => by omega, fun m hm hb => absurd hb (by rw [b_0]; exact Bool.false_ne_true), fun i j _ hj => by omega⟩
  have hO2 : Out sM μ (sI (sI W 327 8 0) 327 9 0) := ((hO.mono (fun i (z : i = 331) => by subst z; exact ⟨by decide, by decide⟩)).sI ⟨by decide, by decide⟩ _ _).sI ⟨by decide, by decide⟩ _ _
  refine lf (a_aload_n dX4_matchOneMore_68 rfl) ?_
  refine lf (a_iconst (0 : Int32) dX4_matchOneMore_69 (by decide)) ?_
  refine lf (a_putI dX4_matchOneMore_70 fs_X4_85 rfl rfl rfl (co_327 (by repeat (first | with_reducible exact hw | with_reducible exact hwc | with_reducible assumption | with_reducible apply Wf.sI | with_reducible apply Wf.sL | with_reducible apply Wf.cpI | with_reducible apply Wf.cpL | with_reducible apply Wf.cp2 | with_reducible apply Wf.sIs | with_reducible apply Wf.sLs | with_reducible apply Wf.cpU | with_reducible apply Wf.fillI | with_reducible apply Wf.clU | with_reducible apply Wf.dnF | with_reducible apply Wf.gbW)))) ?_
  refine lf (a_aload_n dX4_matchOneMore_73 rfl) ?_
  refine lf (a_iconst (0 : Int32) dX4_matchOneMore_74 (by decide)) ?_
  refine lf (a_putI dX4_matchOneMore_75 fs_X4_88 rfl rfl rfl (co_327 (by repeat (first | with_reducible exact hw | with_reducible exact hwc | with_reducible assumption | with_reducible apply Wf.sI | with_reducible apply Wf.sL | with_reducible apply Wf.cpI | with_reducible apply Wf.cpL | with_reducible apply Wf.cp2 | with_reducible apply Wf.sIs | with_reducible apply Wf.sLs | with_reducible apply Wf.cpU | with_reducible apply Wf.fillI | with_reducible apply Wf.clU | with_reducible apply Wf.dnF | with_reducible apply Wf.gbW)))) ?_
  refine lf (a_aload_n dX4_matchOneMore_78 rfl) ?_
  refine lf (a_iload_n dX4_matchOneMore_79 rfl) ?_
  refine lf (a_iconst (-1 : Int32) dX4_matchOneMore_80 (by decide)) ?_
  obtain ⟨v_, W81, k81, rfl, hOR, hRe⟩ := (t_X4_reach hw2 hV2.hM hM hq0 x none)
  refine lf (a_inv (b2 := (0, 0)) k81 rfl dX4_matchOneMore_81 yk_X4_reach im_X4_reach se_X4_reach ml_X4_91 rfl (co_327 (by repeat (first | with_reducible exact hw | with_reducible exact hwc | with_reducible assumption | with_reducible apply Wf.sI | with_reducible apply Wf.sL | with_reducible apply Wf.cpI | with_reducible apply Wf.cpL | with_reducible apply Wf.cp2 | with_reducible apply Wf.sIs | with_reducible apply Wf.sLs | with_reducible apply Wf.cpU | with_reducible apply Wf.fillI | with_reducible apply Wf.clU | with_reducible apply Wf.dnF | with_reducible apply Wf.gbW))) (by decide) hc_X4 (by decide) (by decide) (Nat.le_of_ble_eq_true rfl)) ?_
  refine lf (a_iconst (0 : Int32) dX4_matchOneMore_84 (by decide)) ?_
  refine lf (a_istore_n dX4_matchOneMore_85 (by decide)) ?_
  obtain ⟨sn2, n2, qf2, og2, hq2, hs2, hn2, hf2, ho2, hw2⟩ := hRe
  refine lf (a_loc [(0, .ref 327), (1, .int (nI a)), (2, .int x), (3, .int (nI 0))] rfl) (l_X4_matchOneMore_86 hP hM hG hcap ha M 0 _ (by omega) (hO2.trans hOR.sM) ⟨hOR.mt hV2, fun m hm => by rw [hOR.mv, gI_sI, if_neg (by omega), gI_sI, if_neg (by omega)]; exact hmm m hm, sn2, n2, qf2, og2, hq2, fun i hi => ?_, fun p h1 h2 h3 m hm hb => ?_, by omega, fun i hi => by omega⟩)
  · obtain ⟨e1, e2, -⟩ := hw2 i (by omega) hi
    have hqi := (hq2.2.2.2.1 i hi).2.1
    obtain ⟨p, h1, h2, h3, h4⟩ := (hmn (qf2 i) (by omega)).mp e2
    unfold Wit
    rw [e1]
    exact ⟨Or.inl rfl, p, h1, h2, h3, h4⟩
  · rw [hs2 m hm, decide_eq_true hm, (hmn m (by omega)).mpr ⟨p, h1, h2, h3, hb⟩]; simp
end MATCHD
