section MCABIN
variable {μ W V : Wd} {B : Nat → Nat} {n p x : Nat} {z : PZ}
theorem DrV.nC (h : DrV z μ) {k : Nat} (hk : pC z.1 ≤ k) (v : Int64) : DrV z (sL μ 342 k v) := ⟨h.1, h.2.1, fun i hi => by rw [gL_sL, if_neg (by omega)]; exact h.2.2.1 i hi, fun i hi => by rw [gL_sL, if_neg (by omega)]; exact h.2.2.2 i hi⟩
theorem DrV.nM (h : DrV z μ) {k : Nat} (hk : pM z.1 ≤ k) (v : Int64) : DrV z (sL μ 343 k v) := ⟨h.1, h.2.1, fun i hi => by rw [gL_sL, if_neg (by omega)]; exact h.2.2.1 i hi, fun i hi => by rw [gL_sL, if_neg (by omega)]; exact h.2.2.2 i hi⟩
theorem DrV.cabin (h : DrV z μ) (hC : pC z.1 < 4) {a b : Int32} {l : List Nat} (ea : gI μ 340 (5 + 2 * pC z.1 + 0) = a) (eb : gI μ 340 (5 + 2 * pC z.1 + 1) = b) (en : gL μ 342 (pC z.1) = lN (wvN l)) : DrV (caZ z a b l) (sI μ 340 0 (nI (pC z.1 + 1))) := by
  have e0 : gI (sI μ 340 0 (nI (pC z.1 + 1))) 345 = gI μ 345 := funext fun j => by rw [gI_sI, if_neg (by omega)]
  have e : ∀ k, k ≠ 0 → gI (sI μ 340 0 (nI (pC z.1 + 1))) 340 k = gI μ 340 k := fun k hk => by rw [gI_sI, if_neg (by omega)]
  obtain ⟨⟨⟨a0, a1, a2, a3, a4⟩, b1, c1, d1⟩, ⟨⟨r0, r1, r2, r3, r4⟩, rb, rc⟩, h3, h4⟩ := h
  have hu : ∀ x i, x ≠ 0 → x ≠ 1 → up2 (up2 (pF z.1) 0 (pC z.1) a) 1 (pC z.1) b x i = pF z.1 x i := fun x i y1 y2 => by rw [up2_ne (fun y => y2 y.1), up2_ne (fun y => y1 y.1)]
  refine ⟨⟨⟨?_, ?_, ?_, ?_, ?_⟩, fun i hi => ?_, fun i hi => ?_, fun i hi => ?_⟩, ?_, fun i hi => ?_, h4⟩
  · rw [gI_sI, if_pos ⟨rfl, rfl⟩]; rfl
  · rw [e _ (by decide)]; exact a1
  · rw [e _ (by decide)]; exact a2
  · rw [e _ (by decide)]; exact a3.trans (hu _ _ (by decide) (by decide)).symm
  · rw [e _ (by decide)]; exact a4.trans (hu _ _ (by decide) (by decide)).symm
  · rw [e _ (by omega), e _ (by omega)]
    have hi : i < pC z.1 + 1 := hi
    show _ = up2 (up2 (pF z.1) 0 (pC z.1) a) 1 (pC z.1) b 0 i ∧ _ = up2 (up2 (pF z.1) 0 (pC z.1) a) 1 (pC z.1) b 1 i
    by_cases hx : i = pC z.1
    · subst hx
      rw [ea, eb, up2_eq, up2_ne (fun y => absurd y.1 (by decide)), up2_eq]; exact ⟨rfl, rfl⟩
    · rw [up2_ne (fun y => absurd y.1 (by decide)), up2_ne (fun y => hx y.2), up2_ne (fun y => hx y.2), up2_ne (fun y => absurd y.1 (by decide))]
      exact b1 i (by omega)
  · rw [e _ (by omega), e _ (by omega), e _ (by omega), e _ (by omega), e _ (by omega)]
    obtain ⟨q1, q2, q3, q4, q5⟩ := c1 i hi
    exact ⟨q1.trans (hu _ _ (by decide) (by decide)).symm, q2.trans (hu _ _ (by decide) (by decide)).symm, q3.trans (hu _ _ (by decide) (by decide)).symm, q4.trans (hu _ _ (by decide) (by decide)).symm, q5.trans (hu _ _ (by decide) (by decide)).symm⟩
  · rw [e _ (by omega), e _ (by omega)]
    exact ⟨(d1 i hi).1.trans (hu _ _ (by decide) (by decide)).symm, (d1 i hi).2.trans (hu _ _ (by decide) (by decide)).symm⟩
  · rw [e0]; exact ⟨⟨r0, r1, r2.trans (hu _ _ (by decide) (by decide)).symm, r3, r4⟩, rb, rc⟩
  · have hi : i < pC z.1 + 1 := hi
    show gL μ 342 i = lN (wvN (up1 z.2.2.1 (pC z.1) l i))
    by_cases hx : i = pC z.1
    · subst hx; rw [up1_eq]; exact en
    · rw [up1_ne hx]; exact h3 i (by omega)
theorem DrV.meal (h : DrV z μ) (hM : pM z.1 < 12) {a b c d g : Int32} {l : List Nat} (ea : gI μ 340 (13 + 5 * pM z.1 + 0) = a) (eb : gI μ 340 (13 + 5 * pM z.1 + 1) = b) (ec : gI μ 340 (13 + 5 * pM z.1 + 2) = c) (ed : gI μ 340 (13 + 5 * pM z.1 + 3) = d) (eg : gI μ 340 (13 + 5 * pM z.1 + 4) = g) (en : gL μ 343 (pM z.1) = lN (wvN l)) : DrV (meZ z a b c d g l) (sI μ 340 1 (nI (pM z.1 + 1))) := by
  have e0 : gI (sI μ 340 1 (nI (pM z.1 + 1))) 345 = gI μ 345 := funext fun j => by rw [gI_sI, if_neg (by omega)]
  have e : ∀ k, k ≠ 1 → gI (sI μ 340 1 (nI (pM z.1 + 1))) 340 k = gI μ 340 k := fun k hk => by rw [gI_sI, if_neg (by omega)]
  obtain ⟨⟨⟨a0, a1, a2, a3, a4⟩, b1, c1, d1⟩, ⟨⟨r0, r1, r2, r3, r4⟩, rb, rc⟩, h3, h4⟩ := h
  have hu : ∀ x i, x < 2 ∨ 6 < x → up5 (pF z.1) (pM z.1) a b c d g x i = pF z.1 x i := fun x i y1 => by
    unfold up5
    rw [up2_ne (by omega), up2_ne (by omega), up2_ne (by omega), up2_ne (by omega), up2_ne (by omega)]
  refine ⟨⟨⟨?_, ?_, ?_, ?_, ?_⟩, fun i hi => ?_, fun i hi => ?_, fun i hi => ?_⟩, ?_, h3, fun i hi => ?_⟩
  · rw [e _ (by decide)]; exact a0
  · rw [gI_sI, if_pos ⟨rfl, rfl⟩]; rfl
  · rw [e _ (by decide)]; exact a2
  · rw [e _ (by decide)]; exact a3.trans (hu _ _ (by decide)).symm
  · rw [e _ (by decide)]; exact a4.trans (hu _ _ (by decide)).symm
  · rw [e _ (by omega), e _ (by omega)]
    exact ⟨(b1 i hi).1.trans (hu _ _ (by decide)).symm, (b1 i hi).2.trans (hu _ _ (by decide)).symm⟩
  · rw [e _ (by omega), e _ (by omega), e _ (by omega), e _ (by omega), e _ (by omega)]
    have hi : i < pM z.1 + 1 := hi
    show _ = up5 (pF z.1) (pM z.1) a b c d g 2 i ∧ _ = up5 (pF z.1) (pM z.1) a b c d g 3 i ∧ _ = up5 (pF z.1) (pM z.1) a b c d g 4 i ∧ _ = up5 (pF z.1) (pM z.1) a b c d g 5 i ∧ _ = up5 (pF z.1) (pM z.1) a b c d g 6 i
    unfold up5
    by_cases hx : i = pM z.1
    · subst hx
      rw [ea, eb, ec, ed, eg]
      refine ⟨?_, ?_, ?_, ?_, ?_⟩
      · rw [up2_ne (by omega), up2_ne (by omega), up2_ne (by omega), up2_ne (by omega), up2_eq]
      · rw [up2_ne (by omega), up2_ne (by omega), up2_ne (by omega), up2_eq]
      · rw [up2_ne (by omega), up2_ne (by omega), up2_eq]
      · rw [up2_ne (by omega), up2_eq]
      · rw [up2_eq]
    · have hv : ∀ x, up2 (up2 (up2 (up2 (up2 (pF z.1) 2 (pM z.1) a) 3 (pM z.1) b) 4 (pM z.1) c) 5 (pM z.1) d) 6 (pM z.1) g x i = pF z.1 x i := fun x => by
        rw [up2_ne (by omega), up2_ne (by omega), up2_ne (by omega), up2_ne (by omega), up2_ne (by omega)]
      rw [hv, hv, hv, hv, hv]
      exact c1 i (by omega)
  · rw [e _ (by omega), e _ (by omega)]
    exact ⟨(d1 i hi).1.trans (hu _ _ (by decide)).symm, (d1 i hi).2.trans (hu _ _ (by decide)).symm⟩
  · rw [e0]; exact ⟨⟨r0, r1, r2.trans (hu _ _ (by decide)).symm, r3, r4⟩, rb, rc⟩
  · have hi : i < pM z.1 + 1 := hi
    show gL μ 343 i = lN (wvN (up1 z.2.2.2 (pM z.1) l i))
    by_cases hx : i = pM z.1
    · subst hx; rw [up1_eq]; exact en
    · rw [up1_ne hx]; exact h4 i (by omega)
abbrev sMe : Nat → Prop := fun i => i = 338 ∨ i = 340
/-- a place of two numbers in the draft's plan written -/
def MeF (A : Nat) (μ V : Wd) : Prop := Out sMe μ V ∧ ((∀ k, k < 18 ∨ k = 19 ∨ 28 ≤ k → gI V 338 k = gI μ 338 k) ∧ ∀ k, k ≠ 25 → gL V 338 k = gL μ 338 k) ∧ ∀ k, k ≠ A + 0 → k ≠ A + 1 → gI V 340 k = gI μ 340 k
theorem MeF.pa {A : Nat} (a : MeF A μ V) : PaF μ V := ⟨a.1.mono (fun i y => y.elim Or.inl (fun y => Or.inr (Or.inl y))), a.2.1⟩
theorem MeF.rfl' {A : Nat} (hw : Wf μ) : MeF A μ μ := ⟨Out.rfl' hw, ⟨fun _ _ => rfl, fun _ _ => rfl⟩, fun _ _ _ => rfl⟩
theorem MeF.fk {A : Nat} (a : MeF A μ W) (b : FkF W V) : MeF A μ V := ⟨a.1.trans (b.1.mono fun _ y => Or.inl y), ⟨fun k h => (b.2.1 k h).trans (a.2.1.1 k h), fun k h => (b.2.2 k h).trans (a.2.1.2 k h)⟩, fun k h1 h2 => (b.1.i (by decide) k).trans (a.2.2 k h1 h2)⟩
theorem MeF.w {A : Nat} (a : MeF A μ W) {k : Nat} (hk : k = A + 0 ∨ k = A + 1) (v : Int32) : MeF A μ (sI W 340 k v) := ⟨a.1.sI (S := sMe) (Or.inr rfl) _ _, ⟨fun j h => by rw [gI_sI, if_neg (by omega)]; exact a.2.1.1 j h, fun j h => a.2.1.2 j h⟩, fun j h1 h2 => by rw [gI_sI, if_neg (by omega)]; exact a.2.2 j h1 h2⟩
def MeQ {α : Type} (A : Nat) (μ : Wd) (r : (Nat × Nat) ⊕ α) (ok : α → Wd → Prop) (v : Option Value) (V : Wd) : Prop := MeF A μ V ∧ RdO r ok v V
theorem MeQ.fail {α : Type} {A : Nat} {r : (Nat × Nat) ⊕ α} {ok : α → Wd → Prop} {c t : Nat} (a : MeF A μ V) (h20 : gI V 338 20 = nI t) (hr : r = .inl (c, t)) : MeQ A μ r ok (some (.int 0)) (fW V (nI c)) :=
  ⟨a.fk (((FkF.rfl' a.1.1).set (by decide) _).set (by decide) _), RdO.fail h20 hr⟩
theorem MeQ.ok {α : Type} {A : Nat} {r : (Nat × Nat) ⊕ α} {ok : α → Wd → Prop} {x : α} (a : MeF A μ V) (hr : r = .inr x) (k : ok x V) : MeQ A μ r ok (some (.int 1)) V := ⟨a, by rw [hr]; exact ⟨rfl, k⟩⟩
theorem MeQ.bad {α : Type} {A : Nat} {r : (Nat × Nat) ⊕ α} {ok : α → Wd → Prop} {e : Nat × Nat} (a : MeF A μ V) (hr : r = .inl e) (k : gI V 338 23 = nI e.1 ∧ gI V 338 24 = nI e.2) : MeQ A μ r ok (some (.int 0)) V := ⟨a, by rw [hr]; exact ⟨rfl, k⟩⟩
abbrev R_X11_readMenu : Room := { frames := 6, cells := 0, slots := 0, locals := 126 }
abbrev RX_X11_readMenu : Room := { frames := 6, cells := 1, slots := 6, locals := 126 }

theorem m_readMenu (hz : MgV B n (tkE B n p) z μ) (hg : GzD z) {A : Nat} (hA0 : ¬ Lv z.1 (A + 0)) (hA1 : ¬ Lv z.1 (A + 1)) (hA : A < 88) : CV Y_X11_readMenu R_X11_readMenu [.ref 338, .int (nI A)] μ (MeQ A μ (paS B n p z) (fun a V => MgV B n (tkE B n a.1) z V ∧ gI V 340 (A + 0) = a.2.1 ∧ gI V 340 (A + 1) = a.2.2)) := by
  refine CV.ent yk_X11_readMenu (Nat.le_of_ble_eq_true rfl) ?_
  have hw := hz.wf
  have hF0 : MeF A μ μ := MeF.rfl' hw
  refine lf (a_aload_n dX11_readMenu_0 rfl) ?_
  refine lf (a_ldc2 (v := 20943316012) dX11_readMenu_1 (lwa_in 1798 (by decide +kernel) rfl)) ?_
  obtain ⟨v_, W4, k4, hR4⟩ := (m_pw_9 hz)
  obtain ⟨hX4, hR4⟩ := hR4
  generalize hr4 : wdI B n (tkE B n p) 9 = r4 at hR4
  cases r4 with
  | false =>
    obtain ⟨rfl, hM4, hH4⟩ := hR4
    have hw4x := hM4.wf
    have hF4 := hF0.fk hX4
    refine lf (a_inv (b2 := (0, 0)) k4 rfl dX11_readMenu_4 yk_X11_passesWord im_X11_passesWord se_X11_passesWord ml_X11_204 rfl (co_338 (by repeat (first | with_reducible exact hw | with_reducible exact hwc | with_reducible assumption | with_reducible apply Wf.sI | with_reducible apply Wf.sL | with_reducible apply Wf.cpI | with_reducible apply Wf.cpL | with_reducible apply Wf.cp2 | with_reducible apply Wf.sIs | with_reducible apply Wf.sLs | with_reducible apply Wf.cpU | with_reducible apply Wf.fillI | with_reducible apply Wf.clU | with_reducible apply Wf.dnF | with_reducible apply Wf.gbW))) (by decide) hc_X11 (by decide) (by decide) (Nat.le_of_ble_eq_true rfl)) ?_
    refine lf2 (a_if_eq (tgt := 30) dX11_readMenu_7 (by decide)) (fun h7 => ?_) (fun h7 => absurd h7 (by decide))
    refine lf (a_aload_n dX11_readMenu_30 rfl) ?_
    refine lf (a_ldc2 (v := 431573) dX11_readMenu_31 (lwa_in 1803 (by decide +kernel) rfl)) ?_
    obtain ⟨v_, W34, k34, hR34⟩ := (m_pw_10 hM4)
    obtain ⟨hX34, hR34⟩ := hR34
    generalize hr34 : wdI B n (tkE B n p) 10 = r34 at hR34
    cases r34 with
    | false =>
      obtain ⟨rfl, hM34, hH34⟩ := hR34
      have hw34x := hM34.wf
      have hF34 := hF4.fk hX34
      refine lf (a_inv (b2 := (0, 0)) k34 rfl dX11_readMenu_34 yk_X11_passesWord im_X11_passesWord se_X11_passesWord ml_X11_204 rfl (co_338 (by repeat (first | with_reducible exact hw | with_reducible exact hwc | with_reducible assumption | with_reducible apply Wf.sI | with_reducible apply Wf.sL | with_reducible apply Wf.cpI | with_reducible apply Wf.cpL | with_reducible apply Wf.cp2 | with_reducible apply Wf.sIs | with_reducible apply Wf.sLs | with_reducible apply Wf.cpU | with_reducible apply Wf.fillI | with_reducible apply Wf.clU | with_reducible apply Wf.dnF | with_reducible apply Wf.gbW))) (by decide) hc_X11 (by decide) (by decide) (Nat.le_of_ble_eq_true rfl)) ?_
      refine lfn (a_if_ne (tgt := 46) dX11_readMenu_37 (by decide)) (fun h37 => absurd h37 (by decide)) (fun h37 => ?_)
      refine lf (a_aload_n dX11_readMenu_40 rfl) ?_
      refine lf (a_iconst (1 : Int32) dX11_readMenu_41 (by decide)) ?_
      refine lf (a_inv (b2 := (0, 0)) (m_fails hw34x 1) rfl dX11_readMenu_42 yk_X11_fails im_X11_fails se_X11_fails ml_X11_166 rfl (co_338 (by repeat (first | with_reducible exact hw | with_reducible exact hwc | with_reducible assumption | with_reducible apply Wf.sI | with_reducible apply Wf.sL | with_reducible apply Wf.cpI | with_reducible apply Wf.cpL | with_reducible apply Wf.cp2 | with_reducible apply Wf.sIs | with_reducible apply Wf.sLs | with_reducible apply Wf.cpU | with_reducible apply Wf.fillI | with_reducible apply Wf.clU | with_reducible apply Wf.dnF | with_reducible apply Wf.gbW))) (by decide) hc_X11 (by decide) (by decide) (Nat.le_of_ble_eq_true rfl)) ?_
      refine ⟨_, _, (a_ireturn dX11_readMenu_45 rfl rfl), ?_⟩
      exact ⟨_, rfl, MeQ.fail (c := 1) hF34 hH34.2.1 (by unfold paS; rw [hr4, if_neg (by decide), hr34, if_neg (by decide)])⟩
    | true =>
      obtain ⟨rfl, hM34⟩ := hR34
      have hw34x := hM34.wf
      have hF34 := hF4.fk hX34
      refine lf (a_inv (b2 := (0, 0)) k34 rfl dX11_readMenu_34 yk_X11_passesWord im_X11_passesWord se_X11_passesWord ml_X11_204 rfl (co_338 (by repeat (first | with_reducible exact hw | with_reducible exact hwc | with_reducible assumption | with_reducible apply Wf.sI | with_reducible apply Wf.sL | with_reducible apply Wf.cpI | with_reducible apply Wf.cpL | with_reducible apply Wf.cp2 | with_reducible apply Wf.sIs | with_reducible apply Wf.sLs | with_reducible apply Wf.cpU | with_reducible apply Wf.fillI | with_reducible apply Wf.clU | with_reducible apply Wf.dnF | with_reducible apply Wf.gbW))) (by decide) hc_X11 (by decide) (by decide) (Nat.le_of_ble_eq_true rfl)) ?_
      refine lfn (a_if_ne (tgt := 46) dX11_readMenu_37 (by decide)) (fun h37 => ?_) (fun h37 => absurd h37 (by decide))
      refine lf (a_aload_n dX11_readMenu_46 rfl) ?_
      obtain ⟨v_, W47, k47, hR47⟩ := (m_readCabinName hM34 hg)
      obtain ⟨hX47, hR47⟩ := hR47
      generalize hr47 : ncS B n (tkE B n (tkE B n p)) z = r47 at hR47
      cases r47 with
      | inl a47 =>
        obtain ⟨rfl, hE47⟩ := hR47
        have hF47 := hF34.fk hX47
        refine lf (a_inv (b2 := (0, 0)) k47 rfl dX11_readMenu_47 yk_X11_readCabinName im_X11_readCabinName se_X11_readCabinName ml_X11_210 rfl (co_338 (by repeat (first | with_reducible exact hw | with_reducible exact hwc | with_reducible assumption | with_reducible apply Wf.sI | with_reducible apply Wf.sL | with_reducible apply Wf.cpI | with_reducible apply Wf.cpL | with_reducible apply Wf.cp2 | with_reducible apply Wf.sIs | with_reducible apply Wf.sLs | with_reducible apply Wf.cpU | with_reducible apply Wf.fillI | with_reducible apply Wf.clU | with_reducible apply Wf.dnF | with_reducible apply Wf.gbW))) (by decide) hc_X11 (by decide) (by decide) (Nat.le_of_ble_eq_true rfl)) ?_
        refine lfn (a_if_ne (tgt := 55) dX11_readMenu_50 (by decide)) (fun h50 => absurd h50 (by decide)) (fun h50 => ?_)
        refine lf (a_iconst (0 : Int32) dX11_readMenu_53 (by decide)) ?_
        refine ⟨_, _, (a_ireturn dX11_readMenu_54 rfl rfl), ?_⟩
        exact ⟨_, rfl, MeQ.bad hF47 (by unfold paS; rw [hr4, if_neg (by decide), hr34, if_pos rfl, bnd_l hr47]) hE47⟩
      | inr a47 =>
        obtain ⟨rfl, hM47, e26⟩ := hR47
        have hw47x := hM47.wf
        have hF47 := hF34.fk hX47
        have hz2 := hM47.un hA0 (nI a47)
        have hF2 := hF47.w (Or.inl rfl) (nI a47)
        have hw2 := hz2.wf
        refine lf (a_inv (b2 := (0, 0)) k47 rfl dX11_readMenu_47 yk_X11_readCabinName im_X11_readCabinName se_X11_readCabinName ml_X11_210 rfl (co_338 (by repeat (first | with_reducible exact hw | with_reducible exact hwc | with_reducible assumption | with_reducible apply Wf.sI | with_reducible apply Wf.sL | with_reducible apply Wf.cpI | with_reducible apply Wf.cpL | with_reducible apply Wf.cp2 | with_reducible apply Wf.sIs | with_reducible apply Wf.sLs | with_reducible apply Wf.cpU | with_reducible apply Wf.fillI | with_reducible apply Wf.clU | with_reducible apply Wf.dnF | with_reducible apply Wf.gbW))) (by decide) hc_X11 (by decide) (by decide) (Nat.le_of_ble_eq_true rfl)) ?_
        refine lfn (a_if_ne (tgt := 55) dX11_readMenu_50 (by decide)) (fun h50 => ?_) (fun h50 => absurd h50 (by decide))
        refine lf (a_aload_n dX11_readMenu_55 rfl) ?_
        refine lf (a_getR (cr_338_2 (by repeat (first | with_reducible exact hw | with_reducible exact hwc | with_reducible assumption | with_reducible apply Wf.sI | with_reducible apply Wf.sL | with_reducible apply Wf.cpI | with_reducible apply Wf.cpL | with_reducible apply Wf.cp2 | with_reducible apply Wf.sIs | with_reducible apply Wf.sLs | with_reducible apply Wf.cpU | with_reducible apply Wf.fillI | with_reducible apply Wf.clU | with_reducible apply Wf.dnF | with_reducible apply Wf.gbW))) dX11_readMenu_56 fs_X11_13 rfl (co_338 (by repeat (first | with_reducible exact hw | with_reducible exact hwc | with_reducible assumption | with_reducible apply Wf.sI | with_reducible apply Wf.sL | with_reducible apply Wf.cpI | with_reducible apply Wf.cpL | with_reducible apply Wf.cp2 | with_reducible apply Wf.sIs | with_reducible apply Wf.sLs | with_reducible apply Wf.cpU | with_reducible apply Wf.fillI | with_reducible apply Wf.clU | with_reducible apply Wf.dnF | with_reducible apply Wf.gbW)))) ?_
        refine lf (a_iload_n dX11_readMenu_59 rfl) ?_
        refine lf (a_iconst (0 : Int32) dX11_readMenu_60 (by decide)) ?_
        refine lf (a_iadd dX11_readMenu_61) ?_
        rw [show nI (A) + (0 : Int32) = nI (A + 0) from nI_add (A) 0]
        refine lf (a_aload_n dX11_readMenu_62 rfl) ?_
        refine lf (a_getI dX11_readMenu_63 fs_X11_184 rfl (co_338 (by repeat (first | with_reducible exact hw | with_reducible exact hwc | with_reducible assumption | with_reducible apply Wf.sI | with_reducible apply Wf.sL | with_reducible apply Wf.cpI | with_reducible apply Wf.cpL | with_reducible apply Wf.cp2 | with_reducible apply Wf.sIs | with_reducible apply Wf.sLs | with_reducible apply Wf.cpU | with_reducible apply Wf.fillI | with_reducible apply Wf.clU | with_reducible apply Wf.dnF | with_reducible apply Wf.gbW)))) ?_
        rw [e26]
        refine lf (a_ist dX11_readMenu_66 (ca_340 (by repeat (first | with_reducible exact hw | with_reducible exact hwc | with_reducible assumption | with_reducible apply Wf.sI | with_reducible apply Wf.sL | with_reducible apply Wf.cpI | with_reducible apply Wf.cpL | with_reducible apply Wf.cp2 | with_reducible apply Wf.sIs | with_reducible apply Wf.sLs | with_reducible apply Wf.cpU | with_reducible apply Wf.fillI | with_reducible apply Wf.clU | with_reducible apply Wf.dnF | with_reducible apply Wf.gbW))) (ixn (show A + 0 < 89 by omega) (by decide))) ?_
        refine lf (a_aload_n dX11_readMenu_67 rfl) ?_
        refine lf (a_iconst (1 : Int32) dX11_readMenu_68 (by decide)) ?_
        refine lf (a_bipush (99 : Int32) dX11_readMenu_69 (by decide)) ?_
        obtain ⟨v_, W71, k71, hR71⟩ := (m_readNumber hz2 (lo := 1) (hi := 99) (by decide) (by decide))
        obtain ⟨hX71, hR71⟩ := hR71
        generalize hr71 : nhS B n (tkE B n (tkE B n (tkE B n p))) 1 99 = r71 at hR71
        cases r71 with
        | inl a71 =>
          obtain ⟨rfl, hE71⟩ := hR71
          have hF71 := hF2.fk hX71
          refine lf (a_inv (b2 := (0, 0)) k71 rfl dX11_readMenu_71 yk_X11_readNumber im_X11_readNumber se_X11_readNumber ml_X11_196 rfl (co_338 (by repeat (first | with_reducible exact hw | with_reducible exact hwc | with_reducible assumption | with_reducible apply Wf.sI | with_reducible apply Wf.sL | with_reducible apply Wf.cpI | with_reducible apply Wf.cpL | with_reducible apply Wf.cp2 | with_reducible apply Wf.sIs | with_reducible apply Wf.sLs | with_reducible apply Wf.cpU | with_reducible apply Wf.fillI | with_reducible apply Wf.clU | with_reducible apply Wf.dnF | with_reducible apply Wf.gbW))) (by decide) hc_X11 (by decide) (by decide) (Nat.le_of_ble_eq_true rfl)) ?_
          refine lfn (a_if_ne (tgt := 79) dX11_readMenu_74 (by decide)) (fun h74 => absurd h74 (by decide)) (fun h74 => ?_)
          refine lf (a_iconst (0 : Int32) dX11_readMenu_77 (by decide)) ?_
          refine ⟨_, _, (a_ireturn dX11_readMenu_78 rfl rfl), ?_⟩
          exact ⟨_, rfl, MeQ.bad hF71 (by unfold paS; rw [hr4, if_neg (by decide), hr34, if_pos rfl, bnd_r hr47, bnd_l hr71]) hE71⟩
        | inr a71 =>
          obtain ⟨rfl, hM71, e22⟩ := hR71
          have hw71x := hM71.wf
          have hF71 := hF2.fk hX71
          have ta : gI W71 340 (A + 0) = nI a47 := (hX71.1.i (by decide) _).trans (by rw [gI_sI, if_pos ⟨rfl, rfl⟩])
          refine lf (a_inv (b2 := (0, 0)) k71 rfl dX11_readMenu_71 yk_X11_readNumber im_X11_readNumber se_X11_readNumber ml_X11_196 rfl (co_338 (by repeat (first | with_reducible exact hw | with_reducible exact hwc | with_reducible assumption | with_reducible apply Wf.sI | with_reducible apply Wf.sL | with_reducible apply Wf.cpI | with_reducible apply Wf.cpL | with_reducible apply Wf.cp2 | with_reducible apply Wf.sIs | with_reducible apply Wf.sLs | with_reducible apply Wf.cpU | with_reducible apply Wf.fillI | with_reducible apply Wf.clU | with_reducible apply Wf.dnF | with_reducible apply Wf.gbW))) (by decide) hc_X11 (by decide) (by decide) (Nat.le_of_ble_eq_true rfl)) ?_
          refine lfn (a_if_ne (tgt := 79) dX11_readMenu_74 (by decide)) (fun h74 => ?_) (fun h74 => absurd h74 (by decide))
          refine lf (a_aload_n dX11_readMenu_79 rfl) ?_
          refine lf (a_getR (cr_338_2 (by repeat (first | with_reducible exact hw | with_reducible exact hwc | with_reducible assumption | with_reducible apply Wf.sI | with_reducible apply Wf.sL | with_reducible apply Wf.cpI | with_reducible apply Wf.cpL | with_reducible apply Wf.cp2 | with_reducible apply Wf.sIs | with_reducible apply Wf.sLs | with_reducible apply Wf.cpU | with_reducible apply Wf.fillI | with_reducible apply Wf.clU | with_reducible apply Wf.dnF | with_reducible apply Wf.gbW))) dX11_readMenu_80 fs_X11_13 rfl (co_338 (by repeat (first | with_reducible exact hw | with_reducible exact hwc | with_reducible assumption | with_reducible apply Wf.sI | with_reducible apply Wf.sL | with_reducible apply Wf.cpI | with_reducible apply Wf.cpL | with_reducible apply Wf.cp2 | with_reducible apply Wf.sIs | with_reducible apply Wf.sLs | with_reducible apply Wf.cpU | with_reducible apply Wf.fillI | with_reducible apply Wf.clU | with_reducible apply Wf.dnF | with_reducible apply Wf.gbW)))) ?_
          refine lf (a_iload_n dX11_readMenu_83 rfl) ?_
          refine lf (a_iconst (1 : Int32) dX11_readMenu_84 (by decide)) ?_
          refine lf (a_iadd dX11_readMenu_85) ?_
          rw [show nI (A) + (1 : Int32) = nI (A + 1) from nI_add (A) 1]
          refine lf (a_aload_n dX11_readMenu_86 rfl) ?_
          refine lf (a_getI dX11_readMenu_87 fs_X11_169 rfl (co_338 (by repeat (first | with_reducible exact hw | with_reducible exact hwc | with_reducible assumption | with_reducible apply Wf.sI | with_reducible apply Wf.sL | with_reducible apply Wf.cpI | with_reducible apply Wf.cpL | with_reducible apply Wf.cp2 | with_reducible apply Wf.sIs | with_reducible apply Wf.sLs | with_reducible apply Wf.cpU | with_reducible apply Wf.fillI | with_reducible apply Wf.clU | with_reducible apply Wf.dnF | with_reducible apply Wf.gbW)))) ?_
          rw [e22]
          refine lf (a_ist dX11_readMenu_90 (ca_340 (by repeat (first | with_reducible exact hw | with_reducible exact hwc | with_reducible assumption | with_reducible apply Wf.sI | with_reducible apply Wf.sL | with_reducible apply Wf.cpI | with_reducible apply Wf.cpL | with_reducible apply Wf.cp2 | with_reducible apply Wf.sIs | with_reducible apply Wf.sLs | with_reducible apply Wf.cpU | with_reducible apply Wf.fillI | with_reducible apply Wf.clU | with_reducible apply Wf.dnF | with_reducible apply Wf.gbW))) (ixn (show A + 1 < 89 by omega) (by decide))) ?_
          refine lf (a_iconst (1 : Int32) dX11_readMenu_91 (by decide)) ?_
          refine ⟨_, _, (a_ireturn dX11_readMenu_92 rfl rfl), ?_⟩
          exact ⟨_, rfl, MeQ.ok (hF71.w (Or.inr rfl) _) (by unfold paS; rw [hr4, if_neg (by decide), hr34, if_pos rfl, bnd_r hr47, bnd_r hr71]) ⟨hM71.un hA1 _, by rw [gI_sI, if_neg (by omega)]; exact ta, by rw [gI_sI, if_pos ⟨rfl, rfl⟩]⟩⟩
  | true =>
    obtain ⟨rfl, hM4⟩ := hR4
    have hw4x := hM4.wf
    have hF4 := hF0.fk hX4
    refine lf (a_inv (b2 := (0, 0)) k4 rfl dX11_readMenu_4 yk_X11_passesWord im_X11_passesWord se_X11_passesWord ml_X11_204 rfl (co_338 (by repeat (first | with_reducible exact hw | with_reducible exact hwc | with_reducible assumption | with_reducible apply Wf.sI | with_reducible apply Wf.sL | with_reducible apply Wf.cpI | with_reducible apply Wf.cpL | with_reducible apply Wf.cp2 | with_reducible apply Wf.sIs | with_reducible apply Wf.sLs | with_reducible apply Wf.cpU | with_reducible apply Wf.fillI | with_reducible apply Wf.clU | with_reducible apply Wf.dnF | with_reducible apply Wf.gbW))) (by decide) hc_X11 (by decide) (by decide) (Nat.le_of_ble_eq_true rfl)) ?_
    refine lf2 (a_if_eq (tgt := 30) dX11_readMenu_7 (by decide)) (fun h7 => absurd h7 (by decide)) (fun h7 => ?_)
    refine lf (a_aload_n dX11_readMenu_10 rfl) ?_
    refine lf (a_getR (cr_338_2 (by repeat (first | with_reducible exact hw | with_reducible exact hwc | with_reducible assumption | with_reducible apply Wf.sI | with_reducible apply Wf.sL | with_reducible apply Wf.cpI | with_reducible apply Wf.cpL | with_reducible apply Wf.cp2 | with_reducible apply Wf.sIs | with_reducible apply Wf.sLs | with_reducible apply Wf.cpU | with_reducible apply Wf.fillI | with_reducible apply Wf.clU | with_reducible apply Wf.dnF | with_reducible apply Wf.gbW))) dX11_readMenu_11 fs_X11_13 rfl (co_338 (by repeat (first | with_reducible exact hw | with_reducible exact hwc | with_reducible assumption | with_reducible apply Wf.sI | with_reducible apply Wf.sL | with_reducible apply Wf.cpI | with_reducible apply Wf.cpL | with_reducible apply Wf.cp2 | with_reducible apply Wf.sIs | with_reducible apply Wf.sLs | with_reducible apply Wf.cpU | with_reducible apply Wf.fillI | with_reducible apply Wf.clU | with_reducible apply Wf.dnF | with_reducible apply Wf.gbW)))) ?_
    refine lf (a_iload_n dX11_readMenu_14 rfl) ?_
    refine lf (a_iconst (0 : Int32) dX11_readMenu_15 (by decide)) ?_
    refine lf (a_iadd dX11_readMenu_16) ?_
    rw [show nI (A) + (0 : Int32) = nI (A + 0) from nI_add (A) 0]
    refine lf (a_iconst (-1 : Int32) dX11_readMenu_17 (by decide)) ?_
    refine lf (a_ist dX11_readMenu_18 (ca_340 (by repeat (first | with_reducible exact hw | with_reducible exact hwc | with_reducible assumption | with_reducible apply Wf.sI | with_reducible apply Wf.sL | with_reducible apply Wf.cpI | with_reducible apply Wf.cpL | with_reducible apply Wf.cp2 | with_reducible apply Wf.sIs | with_reducible apply Wf.sLs | with_reducible apply Wf.cpU | with_reducible apply Wf.fillI | with_reducible apply Wf.clU | with_reducible apply Wf.dnF | with_reducible apply Wf.gbW))) (ixn (show A + 0 < 89 by omega) (by decide))) ?_
    refine lf (a_aload_n dX11_readMenu_19 rfl) ?_
    refine lf (a_getR (cr_338_2 (by repeat (first | with_reducible exact hw | with_reducible exact hwc | with_reducible assumption | with_reducible apply Wf.sI | with_reducible apply Wf.sL | with_reducible apply Wf.cpI | with_reducible apply Wf.cpL | with_reducible apply Wf.cp2 | with_reducible apply Wf.sIs | with_reducible apply Wf.sLs | with_reducible apply Wf.cpU | with_reducible apply Wf.fillI | with_reducible apply Wf.clU | with_reducible apply Wf.dnF | with_reducible apply Wf.gbW))) dX11_readMenu_20 fs_X11_13 rfl (co_338 (by repeat (first | with_reducible exact hw | with_reducible exact hwc | with_reducible assumption | with_reducible apply Wf.sI | with_reducible apply Wf.sL | with_reducible apply Wf.cpI | with_reducible apply Wf.cpL | with_reducible apply Wf.cp2 | with_reducible apply Wf.sIs | with_reducible apply Wf.sLs | with_reducible apply Wf.cpU | with_reducible apply Wf.fillI | with_reducible apply Wf.clU | with_reducible apply Wf.dnF | with_reducible apply Wf.gbW)))) ?_
    refine lf (a_iload_n dX11_readMenu_23 rfl) ?_
    refine lf (a_iconst (1 : Int32) dX11_readMenu_24 (by decide)) ?_
    refine lf (a_iadd dX11_readMenu_25) ?_
    rw [show nI (A) + (1 : Int32) = nI (A + 1) from nI_add (A) 1]
    refine lf (a_iconst (0 : Int32) dX11_readMenu_26 (by decide)) ?_
    refine lf (a_ist dX11_readMenu_27 (ca_340 (by repeat (first | with_reducible exact hw | with_reducible exact hwc | with_reducible assumption | with_reducible apply Wf.sI | with_reducible apply Wf.sL | with_reducible apply Wf.cpI | with_reducible apply Wf.cpL | with_reducible apply Wf.cp2 | with_reducible apply Wf.sIs | with_reducible apply Wf.sLs | with_reducible apply Wf.cpU | with_reducible apply Wf.fillI | with_reducible apply Wf.clU | with_reducible apply Wf.dnF | with_reducible apply Wf.gbW))) (ixn (show A + 1 < 89 by omega) (by decide))) ?_
    refine lf (a_iconst (1 : Int32) dX11_readMenu_28 (by decide)) ?_
    refine ⟨_, _, (a_ireturn dX11_readMenu_29 rfl rfl), ?_⟩
    exact ⟨_, rfl, MeQ.ok ((hF4.w (Or.inl rfl) _).w (Or.inr rfl) _) (by unfold paS; rw [hr4, if_pos rfl]) ⟨(hM4.un hA0 _).un hA1 _, by rw [gI_sI, if_neg (by omega), gI_sI, if_pos ⟨rfl, rfl⟩], by rw [gI_sI, if_pos ⟨rfl, rfl⟩]⟩⟩
end MCABIN
