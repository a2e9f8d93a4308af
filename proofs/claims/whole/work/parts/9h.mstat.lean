section MSTAT
variable {μ W V : Wd} {B : Nat → Nat} {n p x : Nat} {z : PZ}
abbrev sPa : Nat → Prop := fun i => i = 338 ∨ i = 340 ∨ i = 342 ∨ i = 343 ∨ i = 345
def PaF (μ V : Wd) : Prop := Out sPa μ V ∧ (∀ k, k < 18 ∨ k = 19 ∨ 28 ≤ k → gI V 338 k = gI μ 338 k) ∧ ∀ k, k ≠ 25 → gL V 338 k = gL μ 338 k
theorem PaF.rfl' (hw : Wf μ) : PaF μ μ := ⟨Out.rfl' hw, fun _ _ => rfl, fun _ _ => rfl⟩
theorem PaF.trans (a : PaF μ W) (b : PaF W V) : PaF μ V := ⟨a.1.trans b.1, fun k h => (b.2.1 k h).trans (a.2.1 k h), fun k h => (b.2.2 k h).trans (a.2.2 k h)⟩
theorem FkF.pa (a : FkF μ V) : PaF μ V := ⟨a.1.mono (fun _ h => Or.inl h), a.2.1, a.2.2⟩
theorem PaF.w (a : PaF μ W) {i : Nat} (hi : i = 340 ∨ i = 345) (k : Nat) (v : Int32) : PaF μ (sI W i k v) := ⟨a.1.sI (S := sPa) (by rcases hi with rfl | rfl <;> decide) _ _, fun j h => by rw [gI_sI, if_neg (by omega)]; exact a.2.1 j h, fun j h => a.2.2 j h⟩
theorem PaF.wl (a : PaF μ W) {i : Nat} (hi : i = 342 ∨ i = 343) (k : Nat) (v : Int64) : PaF μ (sL W i k v) := ⟨a.1.sL (S := sPa) (by rcases hi with rfl | rfl <;> decide) _ _, fun j h => a.2.1 j h, fun j h => by rw [gL_sL, if_neg (by omega)]; exact a.2.2 j h⟩
theorem PaF.s (a : PaF μ W) {k : Nat} (hk : 18 ≤ k ∧ k ≠ 19 ∧ k < 28) (v : Int32) : PaF μ (sI W 338 k v) := ⟨a.1.sI (S := sPa) (Or.inl rfl) _ _, fun j h => by rw [gI_sI, if_neg (by omega)]; exact a.2.1 j h, fun j h => a.2.2 j h⟩
def RdM {α : Type} (μ : Wd) (r : (Nat × Nat) ⊕ α) (ok : α → Wd → Prop) (v : Option Value) (V : Wd) : Prop := PaF μ V ∧ RdO r ok v V
/-- a statement's result -/
def StM (B : Nat → Nat) (n : Nat) (μ : Wd) (r : (Nat × Nat) ⊕ (Nat × PZ)) (v : Option Value) (V : Wd) : Prop := PaF μ V ∧ ((v = some (.int 1) ∧ ∃ P z', r = sgZ B n P z' ∧ MgV B n P z' V) ∨ (v = some (.int 0) ∧ ∃ e, r = .inl e ∧ gI V 338 23 = nI e.1 ∧ gI V 338 24 = nI e.2))
theorem StM.bad {r : (Nat × Nat) ⊕ (Nat × PZ)} {e : Nat × Nat} (a : PaF μ V) (hr : r = .inl e) (k : gI V 338 23 = nI e.1 ∧ gI V 338 24 = nI e.2) : StM B n μ r (some (.int 0)) V := ⟨a, Or.inr ⟨rfl, e, hr, k⟩⟩
theorem StM.ok {r : (Nat × Nat) ⊕ (Nat × PZ)} {P : Nat} {z' : PZ} (a : PaF μ V) (hr : r = sgZ B n P z') (k : MgV B n P z' V) : StM B n μ r (some (.int 1)) V := ⟨a, Or.inl ⟨rfl, P, z', hr, k⟩⟩
theorem StM.fail {r : (Nat × Nat) ⊕ (Nat × PZ)} {c t : Nat} (a : PaF μ V) (h20 : gI V 338 20 = nI t) (hr : r = .inl (c, t)) : StM B n μ r (some (.int 0)) (fW V (nI c)) :=
  ⟨(a.s (by decide) _).s (by decide) _, Or.inr ⟨rfl, (c, t), hr, by unfold fW; rw [gI_sI, if_neg (by omega), gI_sI, if_pos ⟨rfl, rfl⟩], by unfold fW; rw [gI_sI, if_pos ⟨rfl, rfl⟩, h20]⟩⟩
/-- the draft written -/
theorem MgV.w {z' : PZ} (h : MgV B n p z μ) {i : Nat} (hi : i = 340 ∨ i = 345) {k : Nat} {v : Int32} (hd : DrV z' (sI μ i k v)) : MgV B n p z' (sI μ i k v) := by
  obtain ⟨h1, ⟨a1, a2, a3, a4, a5⟩, ⟨b1, b2⟩, _⟩ := h
  have e : ∀ k', gI (sI μ i k v) 338 k' = gI μ 338 k' := fun k' => by rw [gI_sI, if_neg (by omega)]
  have e5 : ∀ k', gI (sI μ i k v) 352 k' = gI μ 352 k' := fun k' => by rw [gI_sI, if_neg (by omega)]
  exact ⟨h1.sI, ⟨a1, a2, by rw [e]; exact a3, fun k hk => by rw [e5]; exact a4 k hk, by rw [e]; exact a5⟩, ⟨by rw [e]; exact b1, by rw [e]; exact b2⟩, hd⟩
theorem MgV.wl {z' : PZ} (h : MgV B n p z μ) {i : Nat} {k : Nat} {v : Int64} (hd : DrV z' (sL μ i k v)) : MgV B n p z' (sL μ i k v) := ⟨h.1.sL, h.2.1, h.2.2.1, hd⟩
/-- places of a plan's row that are in use -/
def Lv (q : PDt) (k : Nat) : Prop := k < 5 ∨ (5 ≤ k ∧ k < 5 + 2 * pC q) ∨ (13 ≤ k ∧ k < 13 + 5 * pM q) ∨ (73 ≤ k ∧ k < 73 + 2 * pT q)
theorem PwV.ext {r r' : Nat → Int32} {q : PDt} (h : PwV r q) (he : ∀ k, Lv q k → r' k = r k) : PwV r' q := by
  obtain ⟨⟨a0, a1, a2, a3, a4⟩, b, c, d⟩ := h
  refine ⟨⟨?_, ?_, ?_, ?_, ?_⟩, fun i hi => ?_, fun i hi => ?_, fun i hi => ?_⟩
  · rw [he 0 (by unfold Lv; omega)]; exact a0
  · rw [he 1 (by unfold Lv; omega)]; exact a1
  · rw [he 2 (by unfold Lv; omega)]; exact a2
  · rw [he 3 (by unfold Lv; omega)]; exact a3
  · rw [he 4 (by unfold Lv; omega)]; exact a4
  · rw [he _ (by unfold Lv; omega), he _ (by unfold Lv; omega)]; exact b i hi
  · rw [he _ (by unfold Lv; omega), he _ (by unfold Lv; omega), he _ (by unfold Lv; omega), he _ (by unfold Lv; omega), he _ (by unfold Lv; omega)]; exact c i hi
  · rw [he _ (by unfold Lv; omega), he _ (by unfold Lv; omega)]; exact d i hi
theorem DrV.un {k : Nat} (h : DrV z μ) (hk : ¬ Lv z.1 k) (v : Int32) : DrV z (sI μ 340 k v) := by
  refine ⟨h.1.ext fun j hj => by rw [gI_sI, if_neg (by rintro ⟨_, rfl⟩; exact hk hj)], ?_, h.2.2.1, h.2.2.2⟩
  have e : gI (sI μ 340 k v) 345 = gI μ 345 := funext fun j => by rw [gI_sI, if_neg (by omega)]
  rw [e]; exact h.2.1
theorem MgV.un (h : MgV B n p z μ) {k : Nat} (hk : ¬ Lv z.1 k) (v : Int32) : MgV B n p z (sI μ 340 k v) := h.w (Or.inl rfl) (h.dr.un hk v)
theorem ps_eq (q : PDt) (i : Nat) (v : Int32) : pF (pset q 9 i v) 9 i = v := if_pos ⟨rfl, rfl⟩
theorem ps_ne (q : PDt) {i j : Nat} (v : Int32) (h : j ≠ i) : pF (pset q 9 i v) 9 j = pF q 9 j := if_neg (fun y => h y.2)
theorem PwV.set9 {r : Nat → Int32} {q : PDt} (h : PwV r q) (v : Int32) : PwV r (pset q 9 1 v) ∧ (∀ r' : Nat → Int32, (∀ k, k ≠ 3 → r' k = r k) → r' 3 = v → PwV r' (pset q 9 2 v)) ∧ ∀ r' : Nat → Int32, (∀ k, k ≠ 4 → r' k = r k) → r' 4 = v → PwV r' (pset q 9 3 v) := by
  have hu : ∀ j a i, a ≠ 9 → up2 q.2.2.2 9 j v a i = q.2.2.2 a i := fun j a i z => up2_ne (fun y => z y.1)
  obtain ⟨⟨a0, a1, a2, a3, a4⟩, b, c, d⟩ := h
  have B1 : ∀ j i, i < pC q → r (5 + 2 * i + 0) = up2 q.2.2.2 9 j v 0 i ∧ r (5 + 2 * i + 1) = up2 q.2.2.2 9 j v 1 i := fun j i hi => by rw [hu _ _ _ (by decide), hu _ _ _ (by decide)]; exact b i hi
  have C1 : ∀ j i, i < pM q → r (13 + 5 * i + 0) = up2 q.2.2.2 9 j v 2 i ∧ r (13 + 5 * i + 1) = up2 q.2.2.2 9 j v 3 i ∧ r (13 + 5 * i + 2) = up2 q.2.2.2 9 j v 4 i ∧ r (13 + 5 * i + 3) = up2 q.2.2.2 9 j v 5 i ∧ r (13 + 5 * i + 4) = up2 q.2.2.2 9 j v 6 i := fun j i hi => by rw [hu _ _ _ (by decide), hu _ _ _ (by decide), hu _ _ _ (by decide), hu _ _ _ (by decide), hu _ _ _ (by decide)]; exact c i hi
  have D1 : ∀ j i, i < pT q → r (73 + 2 * i + 0) = up2 q.2.2.2 9 j v 7 i ∧ r (73 + 2 * i + 1) = up2 q.2.2.2 9 j v 8 i := fun j i hi => by rw [hu _ _ _ (by decide), hu _ _ _ (by decide)]; exact d i hi
  refine ⟨⟨⟨a0, a1, a2, a3.trans (ps_ne q v (show 2 ≠ 1 by decide)).symm, a4.trans (ps_ne q v (show 3 ≠ 1 by decide)).symm⟩, B1 1, C1 1, D1 1⟩, fun r' f3 e3 => ⟨⟨(f3 _ (by decide)).trans a0, (f3 _ (by decide)).trans a1, (f3 _ (by decide)).trans a2, e3.trans (ps_eq q 2 v).symm, (f3 _ (by decide)).trans (a4.trans (ps_ne q v (show 3 ≠ 2 by decide)).symm)⟩, fun i hi => ?_, fun i hi => ?_, fun i hi => ?_⟩, fun r' f4 e4 => ⟨⟨(f4 _ (by decide)).trans a0, (f4 _ (by decide)).trans a1, (f4 _ (by decide)).trans a2, (f4 _ (by decide)).trans (a3.trans (ps_ne q v (show 2 ≠ 3 by decide)).symm), e4.trans (ps_eq q 3 v).symm⟩, fun i hi => ?_, fun i hi => ?_, fun i hi => ?_⟩⟩
  · rw [f3 _ (by omega), f3 _ (by omega)]; exact B1 2 i hi
  · rw [f3 _ (by omega), f3 _ (by omega), f3 _ (by omega), f3 _ (by omega), f3 _ (by omega)]; exact C1 2 i hi
  · rw [f3 _ (by omega), f3 _ (by omega)]; exact D1 2 i hi
  · rw [f4 _ (by omega), f4 _ (by omega)]; exact B1 3 i hi
  · rw [f4 _ (by omega), f4 _ (by omega), f4 _ (by omega), f4 _ (by omega), f4 _ (by omega)]; exact C1 3 i hi
  · rw [f4 _ (by omega), f4 _ (by omega)]; exact D1 3 i hi
theorem DrV.min (h : DrV z μ) (v : Int32) : DrV (pset z.1 9 1 v, z.2) (sI μ 345 2 v) := by
  have e0 : gI (sI μ 345 2 v) 340 = gI μ 340 := funext fun j => by rw [gI_sI, if_neg (by omega)]
  have e : ∀ k, k ≠ 2 → gI (sI μ 345 2 v) 345 k = gI μ 345 k := fun k hk => by rw [gI_sI, if_neg (by omega)]
  obtain ⟨h1, ⟨⟨a0, a1, a2, a3, a4⟩, b, c⟩, h3, h4⟩ := h
  refine ⟨by rw [e0]; exact (h1.set9 v).1, ⟨⟨by rw [e _ (by decide)]; exact a0, by rw [e _ (by decide)]; exact a1, ?_, by rw [e _ (by decide)]; exact a3, by rw [e _ (by decide)]; exact a4⟩, fun i hi => ?_, fun k k1 k2 => by rw [e _ (by omega)]; exact c k k1 k2⟩, h3, h4⟩
  · rw [gI_sI, if_pos ⟨rfl, rfl⟩]; exact (ps_eq z.1 1 v).symm
  · rw [e _ (by omega), e _ (by omega), e _ (by omega), e _ (by omega)]; exact b i hi
theorem DrV.clo (h : DrV z μ) (v : Int32) : DrV (pset z.1 9 2 v, z.2) (sI μ 340 3 v) := by
  have e0 : gI (sI μ 340 3 v) 345 = gI μ 345 := funext fun j => by rw [gI_sI, if_neg (by omega)]
  have e : ∀ k, k ≠ 3 → gI (sI μ 340 3 v) 340 k = gI μ 340 k := fun k hk => by rw [gI_sI, if_neg (fun y => hk y.2)]
  have ec : gI (sI μ 340 3 v) 340 3 = v := by rw [gI_sI, if_pos ⟨rfl, rfl⟩]
  obtain ⟨h1, ⟨⟨a0, a1, a2, a3, a4⟩, b, c⟩, h3, h4⟩ := h
  exact ⟨(h1.set9 v).2.1 _ e ec, by rw [e0]; exact ⟨⟨a0, a1, a2.trans (ps_ne z.1 v (show 1 ≠ 2 by decide)).symm, a3, a4⟩, b, c⟩, h3, h4⟩
theorem DrV.lea (h : DrV z μ) (v : Int32) : DrV (pset z.1 9 3 v, z.2) (sI μ 340 4 v) := by
  have e0 : gI (sI μ 340 4 v) 345 = gI μ 345 := funext fun j => by rw [gI_sI, if_neg (by omega)]
  have e : ∀ k, k ≠ 4 → gI (sI μ 340 4 v) 340 k = gI μ 340 k := fun k hk => by rw [gI_sI, if_neg (fun y => hk y.2)]
  have ec : gI (sI μ 340 4 v) 340 4 = v := by rw [gI_sI, if_pos ⟨rfl, rfl⟩]
  obtain ⟨h1, ⟨⟨a0, a1, a2, a3, a4⟩, b, c⟩, h3, h4⟩ := h
  exact ⟨(h1.set9 v).2.2 _ e ec, by rw [e0]; exact ⟨⟨a0, a1, a2.trans (ps_ne z.1 v (show 1 ≠ 3 by decide)).symm, a3, a4⟩, b, c⟩, h3, h4⟩
theorem MgV.min (h : MgV B n p z μ) (v : Int32) : MgV B n p (pset z.1 9 1 v, z.2) (sI μ 345 2 v) := h.w (Or.inr rfl) (h.dr.min v)
theorem MgV.clo (h : MgV B n p z μ) (v : Int32) : MgV B n p (pset z.1 9 2 v, z.2) (sI μ 340 3 v) := h.w (Or.inl rfl) (h.dr.clo v)
theorem MgV.lea (h : MgV B n p z μ) (v : Int32) : MgV B n p (pset z.1 9 3 v, z.2) (sI μ 340 4 v) := h.w (Or.inl rfl) (h.dr.lea v)
abbrev R_X11_readTime : Room := { frames := 5, cells := 0, slots := 0, locals := 108 }
abbrev RX_X11_readTime : Room := { frames := 5, cells := 1, slots := 6, locals := 108 }

theorem m_readTime (hz : MgV B n (tkE B n p) z μ) : CV Y_X11_readTime R_X11_readTime [.ref 338] μ (StM B n μ (stTime B n p z)) := by
  refine CV.ent yk_X11_readTime (Nat.le_of_ble_eq_true rfl) ?_
  have hw := hz.wf
  have hF0 := PaF.rfl' hw
  refine lf (a_aload_n dX11_readTime_0 rfl) ?_
  refine lf (a_iconst (1 : Int32) dX11_readTime_1 (by decide)) ?_
  refine lf (a_sipush (999 : Int32) dX11_readTime_2 (by decide)) ?_
  obtain ⟨v_, W5, k5, hR5⟩ := (m_readNumber hz (lo := 1) (hi := 999) (by decide) (by decide))
  obtain ⟨hX5, hR5⟩ := hR5
  generalize hr5 : nhS B n (tkE B n p) 1 999 = r5 at hR5
  cases r5 with
  | inl a5 =>
    obtain ⟨rfl, hE5⟩ := hR5
    have hF5 := hF0.trans hX5.pa
    refine lf (a_inv (b2 := (0, 0)) k5 rfl dX11_readTime_5 yk_X11_readNumber im_X11_readNumber se_X11_readNumber ml_X11_196 rfl (co_338 (by repeat (first | with_reducible exact hw | with_reducible exact hwc | with_reducible assumption | with_reducible apply Wf.sI | with_reducible apply Wf.sL | with_reducible apply Wf.cpI | with_reducible apply Wf.cpL | with_reducible apply Wf.cp2 | with_reducible apply Wf.sIs | with_reducible apply Wf.sLs | with_reducible apply Wf.cpU | with_reducible apply Wf.fillI | with_reducible apply Wf.clU | with_reducible apply Wf.dnF | with_reducible apply Wf.gbW))) (by decide) hc_X11 (by decide) (by decide) (Nat.le_of_ble_eq_true rfl)) ?_
    refine lfn (a_if_ne (tgt := 13) dX11_readTime_8 (by decide)) (fun h8 => absurd h8 (by decide)) (fun h8 => ?_)
    refine lf (a_iconst (0 : Int32) dX11_readTime_11 (by decide)) ?_
    refine ⟨_, _, (a_ireturn dX11_readTime_12 rfl rfl), ?_⟩
    exact ⟨_, rfl, StM.bad hF5 (by rw [stTime, bnd_l hr5]) hE5⟩
  | inr a5 =>
    obtain ⟨rfl, hM5, e22_5⟩ := hR5
    have hw5x := hM5.wf
    have hF5 := hF0.trans hX5.pa
    have hz2 := hM5.min (nI a5)
    have hF2 := hF5.w (Or.inr rfl) 2 (nI a5)
    have hw2 := hz2.wf
    refine lf (a_inv (b2 := (0, 0)) k5 rfl dX11_readTime_5 yk_X11_readNumber im_X11_readNumber se_X11_readNumber ml_X11_196 rfl (co_338 (by repeat (first | with_reducible exact hw | with_reducible exact hwc | with_reducible assumption | with_reducible apply Wf.sI | with_reducible apply Wf.sL | with_reducible apply Wf.cpI | with_reducible apply Wf.cpL | with_reducible apply Wf.cp2 | with_reducible apply Wf.sIs | with_reducible apply Wf.sLs | with_reducible apply Wf.cpU | with_reducible apply Wf.fillI | with_reducible apply Wf.clU | with_reducible apply Wf.dnF | with_reducible apply Wf.gbW))) (by decide) hc_X11 (by decide) (by decide) (Nat.le_of_ble_eq_true rfl)) ?_
    refine lfn (a_if_ne (tgt := 13) dX11_readTime_8 (by decide)) (fun h8 => ?_) (fun h8 => absurd h8 (by decide))
    refine lf (a_aload_n dX11_readTime_13 rfl) ?_
    refine lf (a_getR (cr_338_7 (by repeat (first | with_reducible exact hw | with_reducible exact hwc | with_reducible assumption | with_reducible apply Wf.sI | with_reducible apply Wf.sL | with_reducible apply Wf.cpI | with_reducible apply Wf.cpL | with_reducible apply Wf.cp2 | with_reducible apply Wf.sIs | with_reducible apply Wf.sLs | with_reducible apply Wf.cpU | with_reducible apply Wf.fillI | with_reducible apply Wf.clU | with_reducible apply Wf.dnF | with_reducible apply Wf.gbW))) dX11_readTime_14 fs_X11_29 rfl (co_338 (by repeat (first | with_reducible exact hw | with_reducible exact hwc | with_reducible assumption | with_reducible apply Wf.sI | with_reducible apply Wf.sL | with_reducible apply Wf.cpI | with_reducible apply Wf.cpL | with_reducible apply Wf.cp2 | with_reducible apply Wf.sIs | with_reducible apply Wf.sLs | with_reducible apply Wf.cpU | with_reducible apply Wf.fillI | with_reducible apply Wf.clU | with_reducible apply Wf.dnF | with_reducible apply Wf.gbW)))) ?_
    refine lf (a_iconst (2 : Int32) dX11_readTime_17 (by decide)) ?_
    refine lf (a_aload_n dX11_readTime_18 rfl) ?_
    refine lf (a_getI dX11_readTime_19 fs_X11_169 rfl (co_338 (by repeat (first | with_reducible exact hw | with_reducible exact hwc | with_reducible assumption | with_reducible apply Wf.sI | with_reducible apply Wf.sL | with_reducible apply Wf.cpI | with_reducible apply Wf.cpL | with_reducible apply Wf.cp2 | with_reducible apply Wf.sIs | with_reducible apply Wf.sLs | with_reducible apply Wf.cpU | with_reducible apply Wf.fillI | with_reducible apply Wf.clU | with_reducible apply Wf.dnF | with_reducible apply Wf.gbW)))) ?_
    rw [e22_5]
    refine lf (a_ist dX11_readTime_22 (ca_345 (by repeat (first | with_reducible exact hw | with_reducible exact hwc | with_reducible assumption | with_reducible apply Wf.sI | with_reducible apply Wf.sL | with_reducible apply Wf.cpI | with_reducible apply Wf.cpL | with_reducible apply Wf.cp2 | with_reducible apply Wf.sIs | with_reducible apply Wf.sLs | with_reducible apply Wf.cpU | with_reducible apply Wf.fillI | with_reducible apply Wf.clU | with_reducible apply Wf.dnF | with_reducible apply Wf.gbW))) (ixn (m := 2) (by omega) (by decide))) ?_
    refine lf (a_aload_n dX11_readTime_23 rfl) ?_
    refine lf (a_iconst (0 : Int32) dX11_readTime_24 (by decide)) ?_
    refine lf (a_sipush (999 : Int32) dX11_readTime_25 (by decide)) ?_
    obtain ⟨v_, W28, k28, hR28⟩ := (m_readNumber hz2 (lo := 0) (hi := 999) (by decide) (by decide))
    obtain ⟨hX28, hR28⟩ := hR28
    generalize hr28 : nhS B n (tkE B n (tkE B n p)) 0 999 = r28 at hR28
    cases r28 with
    | inl a28 =>
      obtain ⟨rfl, hE28⟩ := hR28
      have hF28 := hF2.trans hX28.pa
      refine lf (a_inv (b2 := (0, 0)) k28 rfl dX11_readTime_28 yk_X11_readNumber im_X11_readNumber se_X11_readNumber ml_X11_196 rfl (co_338 (by repeat (first | with_reducible exact hw | with_reducible exact hwc | with_reducible assumption | with_reducible apply Wf.sI | with_reducible apply Wf.sL | with_reducible apply Wf.cpI | with_reducible apply Wf.cpL | with_reducible apply Wf.cp2 | with_reducible apply Wf.sIs | with_reducible apply Wf.sLs | with_reducible apply Wf.cpU | with_reducible apply Wf.fillI | with_reducible apply Wf.clU | with_reducible apply Wf.dnF | with_reducible apply Wf.gbW))) (by decide) hc_X11 (by decide) (by decide) (Nat.le_of_ble_eq_true rfl)) ?_
      refine lfn (a_if_ne (tgt := 36) dX11_readTime_31 (by decide)) (fun h31 => absurd h31 (by decide)) (fun h31 => ?_)
      refine lf (a_iconst (0 : Int32) dX11_readTime_34 (by decide)) ?_
      refine ⟨_, _, (a_ireturn dX11_readTime_35 rfl rfl), ?_⟩
      exact ⟨_, rfl, StM.bad hF28 (by rw [stTime, bnd_r hr5, bnd_l hr28]) hE28⟩
    | inr a28 =>
      obtain ⟨rfl, hM28, e22_28⟩ := hR28
      have hw28x := hM28.wf
      have hF28 := hF2.trans hX28.pa
      refine lf (a_inv (b2 := (0, 0)) k28 rfl dX11_readTime_28 yk_X11_readNumber im_X11_readNumber se_X11_readNumber ml_X11_196 rfl (co_338 (by repeat (first | with_reducible exact hw | with_reducible exact hwc | with_reducible assumption | with_reducible apply Wf.sI | with_reducible apply Wf.sL | with_reducible apply Wf.cpI | with_reducible apply Wf.cpL | with_reducible apply Wf.cp2 | with_reducible apply Wf.sIs | with_reducible apply Wf.sLs | with_reducible apply Wf.cpU | with_reducible apply Wf.fillI | with_reducible apply Wf.clU | with_reducible apply Wf.dnF | with_reducible apply Wf.gbW))) (by decide) hc_X11 (by decide) (by decide) (Nat.le_of_ble_eq_true rfl)) ?_
      refine lfn (a_if_ne (tgt := 36) dX11_readTime_31 (by decide)) (fun h31 => ?_) (fun h31 => absurd h31 (by decide))
      refine lf (a_aload_n dX11_readTime_36 rfl) ?_
      refine lf (a_getR (cr_338_2 (by repeat (first | with_reducible exact hw | with_reducible exact hwc | with_reducible assumption | with_reducible apply Wf.sI | with_reducible apply Wf.sL | with_reducible apply Wf.cpI | with_reducible apply Wf.cpL | with_reducible apply Wf.cp2 | with_reducible apply Wf.sIs | with_reducible apply Wf.sLs | with_reducible apply Wf.cpU | with_reducible apply Wf.fillI | with_reducible apply Wf.clU | with_reducible apply Wf.dnF | with_reducible apply Wf.gbW))) dX11_readTime_37 fs_X11_13 rfl (co_338 (by repeat (first | with_reducible exact hw | with_reducible exact hwc | with_reducible assumption | with_reducible apply Wf.sI | with_reducible apply Wf.sL | with_reducible apply Wf.cpI | with_reducible apply Wf.cpL | with_reducible apply Wf.cp2 | with_reducible apply Wf.sIs | with_reducible apply Wf.sLs | with_reducible apply Wf.cpU | with_reducible apply Wf.fillI | with_reducible apply Wf.clU | with_reducible apply Wf.dnF | with_reducible apply Wf.gbW)))) ?_
      refine lf (a_iconst (3 : Int32) dX11_readTime_40 (by decide)) ?_
      refine lf (a_aload_n dX11_readTime_41 rfl) ?_
      refine lf (a_getI dX11_readTime_42 fs_X11_169 rfl (co_338 (by repeat (first | with_reducible exact hw | with_reducible exact hwc | with_reducible assumption | with_reducible apply Wf.sI | with_reducible apply Wf.sL | with_reducible apply Wf.cpI | with_reducible apply Wf.cpL | with_reducible apply Wf.cp2 | with_reducible apply Wf.sIs | with_reducible apply Wf.sLs | with_reducible apply Wf.cpU | with_reducible apply Wf.fillI | with_reducible apply Wf.clU | with_reducible apply Wf.dnF | with_reducible apply Wf.gbW)))) ?_
      rw [e22_28]
      refine lf (a_ist dX11_readTime_45 (ca_340 (by repeat (first | with_reducible exact hw | with_reducible exact hwc | with_reducible assumption | with_reducible apply Wf.sI | with_reducible apply Wf.sL | with_reducible apply Wf.cpI | with_reducible apply Wf.cpL | with_reducible apply Wf.cp2 | with_reducible apply Wf.sIs | with_reducible apply Wf.sLs | with_reducible apply Wf.cpU | with_reducible apply Wf.fillI | with_reducible apply Wf.clU | with_reducible apply Wf.dnF | with_reducible apply Wf.gbW))) (ixn (m := 3) (by omega) (by decide))) ?_
      refine lf (a_iconst (1 : Int32) dX11_readTime_46 (by decide)) ?_
      refine ⟨_, _, (a_ireturn dX11_readTime_47 rfl rfl), ?_⟩
      exact ⟨_, rfl, StM.ok (hF28.w (Or.inl rfl) _ _) (by rw [stTime, bnd_r hr5, bnd_r hr28]) (hM28.clo _)⟩
abbrev R_X11_readLead : Room := { frames := 5, cells := 0, slots := 0, locals := 108 }
abbrev RX_X11_readLead : Room := { frames := 5, cells := 1, slots := 6, locals := 108 }

theorem m_readLead (hz : MgV B n (tkE B n p) z μ) : CV Y_X11_readLead R_X11_readLead [.ref 338] μ (StM B n μ (stLead B n p z)) := by
  refine CV.ent yk_X11_readLead (Nat.le_of_ble_eq_true rfl) ?_
  have hw := hz.wf
  have hF0 := PaF.rfl' hw
  refine lf (a_aload_n dX11_readLead_0 rfl) ?_
  refine lf (a_iconst (0 : Int32) dX11_readLead_1 (by decide)) ?_
  refine lf (a_bipush (99 : Int32) dX11_readLead_2 (by decide)) ?_
  obtain ⟨v_, W4, k4, hR4⟩ := (m_readNumber hz (lo := 0) (hi := 99) (by decide) (by decide))
  obtain ⟨hX4, hR4⟩ := hR4
  generalize hr4 : nhS B n (tkE B n p) 0 99 = r4 at hR4
  cases r4 with
  | inl a4 =>
    obtain ⟨rfl, hE4⟩ := hR4
    have hF4 := hF0.trans hX4.pa
    refine lf (a_inv (b2 := (0, 0)) k4 rfl dX11_readLead_4 yk_X11_readNumber im_X11_readNumber se_X11_readNumber ml_X11_196 rfl (co_338 (by repeat (first | with_reducible exact hw | with_reducible exact hwc | with_reducible assumption | with_reducible apply Wf.sI | with_reducible apply Wf.sL | with_reducible apply Wf.cpI | with_reducible apply Wf.cpL | with_reducible apply Wf.cp2 | with_reducible apply Wf.sIs | with_reducible apply Wf.sLs | with_reducible apply Wf.cpU | with_reducible apply Wf.fillI | with_reducible apply Wf.clU | with_reducible apply Wf.dnF | with_reducible apply Wf.gbW))) (by decide) hc_X11 (by decide) (by decide) (Nat.le_of_ble_eq_true rfl)) ?_
    refine lfn (a_if_ne (tgt := 12) dX11_readLead_7 (by decide)) (fun h7 => absurd h7 (by decide)) (fun h7 => ?_)
    refine lf (a_iconst (0 : Int32) dX11_readLead_10 (by decide)) ?_
    refine ⟨_, _, (a_ireturn dX11_readLead_11 rfl rfl), ?_⟩
    exact ⟨_, rfl, StM.bad hF4 (by rw [stLead, bnd_l hr4]) hE4⟩
  | inr a4 =>
    obtain ⟨rfl, hM4, e22_4⟩ := hR4
    have hw4x := hM4.wf
    have hF4 := hF0.trans hX4.pa
    refine lf (a_inv (b2 := (0, 0)) k4 rfl dX11_readLead_4 yk_X11_readNumber im_X11_readNumber se_X11_readNumber ml_X11_196 rfl (co_338 (by repeat (first | with_reducible exact hw | with_reducible exact hwc | with_reducible assumption | with_reducible apply Wf.sI | with_reducible apply Wf.sL | with_reducible apply Wf.cpI | with_reducible apply Wf.cpL | with_reducible apply Wf.cp2 | with_reducible apply Wf.sIs | with_reducible apply Wf.sLs | with_reducible apply Wf.cpU | with_reducible apply Wf.fillI | with_reducible apply Wf.clU | with_reducible apply Wf.dnF | with_reducible apply Wf.gbW))) (by decide) hc_X11 (by decide) (by decide) (Nat.le_of_ble_eq_true rfl)) ?_
    refine lfn (a_if_ne (tgt := 12) dX11_readLead_7 (by decide)) (fun h7 => ?_) (fun h7 => absurd h7 (by decide))
    refine lf (a_aload_n dX11_readLead_12 rfl) ?_
    refine lf (a_getR (cr_338_2 (by repeat (first | with_reducible exact hw | with_reducible exact hwc | with_reducible assumption | with_reducible apply Wf.sI | with_reducible apply Wf.sL | with_reducible apply Wf.cpI | with_reducible apply Wf.cpL | with_reducible apply Wf.cp2 | with_reducible apply Wf.sIs | with_reducible apply Wf.sLs | with_reducible apply Wf.cpU | with_reducible apply Wf.fillI | with_reducible apply Wf.clU | with_reducible apply Wf.dnF | with_reducible apply Wf.gbW))) dX11_readLead_13 fs_X11_13 rfl (co_338 (by repeat (first | with_reducible exact hw | with_reducible exact hwc | with_reducible assumption | with_reducible apply Wf.sI | with_reducible apply Wf.sL | with_reducible apply Wf.cpI | with_reducible apply Wf.cpL | with_reducible apply Wf.cp2 | with_reducible apply Wf.sIs | with_reducible apply Wf.sLs | with_reducible apply Wf.cpU | with_reducible apply Wf.fillI | with_reducible apply Wf.clU | with_reducible apply Wf.dnF | with_reducible apply Wf.gbW)))) ?_
    refine lf (a_iconst (4 : Int32) dX11_readLead_16 (by decide)) ?_
    refine lf (a_aload_n dX11_readLead_17 rfl) ?_
    refine lf (a_getI dX11_readLead_18 fs_X11_169 rfl (co_338 (by repeat (first | with_reducible exact hw | with_reducible exact hwc | with_reducible assumption | with_reducible apply Wf.sI | with_reducible apply Wf.sL | with_reducible apply Wf.cpI | with_reducible apply Wf.cpL | with_reducible apply Wf.cp2 | with_reducible apply Wf.sIs | with_reducible apply Wf.sLs | with_reducible apply Wf.cpU | with_reducible apply Wf.fillI | with_reducible apply Wf.clU | with_reducible apply Wf.dnF | with_reducible apply Wf.gbW)))) ?_
    rw [e22_4]
    refine lf (a_ist dX11_readLead_21 (ca_340 (by repeat (first | with_reducible exact hw | with_reducible exact hwc | with_reducible assumption | with_reducible apply Wf.sI | with_reducible apply Wf.sL | with_reducible apply Wf.cpI | with_reducible apply Wf.cpL | with_reducible apply Wf.cp2 | with_reducible apply Wf.sIs | with_reducible apply Wf.sLs | with_reducible apply Wf.cpU | with_reducible apply Wf.fillI | with_reducible apply Wf.clU | with_reducible apply Wf.dnF | with_reducible apply Wf.gbW))) (ixn (m := 4) (by omega) (by decide))) ?_
    refine lf (a_iconst (1 : Int32) dX11_readLead_22 (by decide)) ?_
    refine ⟨_, _, (a_ireturn dX11_readLead_23 rfl rfl), ?_⟩
    exact ⟨_, rfl, StM.ok (hF4.w (Or.inl rfl) _ _) (by rw [stLead, bnd_r hr4]) (hM4.lea _)⟩
theorem DrV.trolley (h : DrV z μ) (hT : pT z.1 < 8) {a b : Int32} (ea : gI μ 340 (73 + 2 * pT z.1 + 0) = a) (eb : gI μ 340 (73 + 2 * pT z.1 + 1) = b) : DrV ((pC z.1, pM z.1, pT z.1 + 1, up2 (up2 (pF z.1) 7 (pT z.1) a) 8 (pT z.1) b), z.2) (sI μ 340 2 (nI (pT z.1 + 1))) := by
  have e0 : gI (sI μ 340 2 (nI (pT z.1 + 1))) 345 = gI μ 345 := funext fun j => by rw [gI_sI, if_neg (by omega)]
  have e : ∀ k, k ≠ 2 → gI (sI μ 340 2 (nI (pT z.1 + 1))) 340 k = gI μ 340 k := fun k hk => by rw [gI_sI, if_neg (by omega)]
  obtain ⟨⟨⟨a0, a1, a2, a3, a4⟩, b1, c1, d1⟩, ⟨⟨r0, r1, r2, r3, r4⟩, rb, rc⟩, h3, h4⟩ := h
  have hu : ∀ x i, x ≠ 7 → x ≠ 8 → up2 (up2 (pF z.1) 7 (pT z.1) a) 8 (pT z.1) b x i = pF z.1 x i := fun x i y1 y2 => by rw [up2_ne (fun y => y2 y.1), up2_ne (fun y => y1 y.1)]
  refine ⟨⟨⟨?_, ?_, ?_, ?_, ?_⟩, fun i hi => ?_, fun i hi => ?_, fun i hi => ?_⟩, ?_, h3, h4⟩
  · rw [e _ (by decide)]; exact a0
  · rw [e _ (by decide)]; exact a1
  · rw [gI_sI, if_pos ⟨rfl, rfl⟩]; rfl
  · rw [e _ (by decide)]; exact a3.trans (hu _ _ (by decide) (by decide)).symm
  · rw [e _ (by decide)]; exact a4.trans (hu _ _ (by decide) (by decide)).symm
  · rw [e _ (by omega), e _ (by omega)]; exact ⟨(b1 i hi).1.trans (hu _ _ (by decide) (by decide)).symm, (b1 i hi).2.trans (hu _ _ (by decide) (by decide)).symm⟩
  · rw [e _ (by omega), e _ (by omega), e _ (by omega), e _ (by omega), e _ (by omega)]
    obtain ⟨q1, q2, q3, q4, q5⟩ := c1 i hi
    exact ⟨q1.trans (hu _ _ (by decide) (by decide)).symm, q2.trans (hu _ _ (by decide) (by decide)).symm, q3.trans (hu _ _ (by decide) (by decide)).symm, q4.trans (hu _ _ (by decide) (by decide)).symm, q5.trans (hu _ _ (by decide) (by decide)).symm⟩
  · rw [e _ (by omega), e _ (by omega)]
    have hi : i < pT z.1 + 1 := hi
    show _ = up2 (up2 (pF z.1) 7 (pT z.1) a) 8 (pT z.1) b 7 i ∧ _ = up2 (up2 (pF z.1) 7 (pT z.1) a) 8 (pT z.1) b 8 i
    by_cases hx : i = pT z.1
    · subst hx
      rw [ea, eb, up2_eq, up2_ne (fun y => absurd y.1 (by decide)), up2_eq]; exact ⟨rfl, rfl⟩
    · rw [up2_ne (fun y => absurd y.1 (by decide)), up2_ne (fun y => hx y.2), up2_ne (fun y => hx y.2), up2_ne (fun y => absurd y.1 (by decide))]
      exact d1 i (by omega)
  · rw [e0]; exact ⟨⟨r0, r1, r2.trans (hu _ _ (by decide) (by decide)).symm, r3, r4⟩, rb, rc⟩
abbrev R_X11_readTrolley : Room := { frames := 6, cells := 0, slots := 0, locals := 126 }
abbrev RX_X11_readTrolley : Room := { frames := 6, cells := 1, slots := 6, locals := 126 }

theorem m_readTrolley (hz : MgV B n (tkE B n p) z μ) (hg : GzD z) (hT : ¬ 8 ≤ pT z.1) : CV Y_X11_readTrolley R_X11_readTrolley [.ref 338] μ (StM B n μ (stTrolley B n p z)) := by
  refine CV.ent yk_X11_readTrolley (Nat.le_of_ble_eq_true rfl) ?_
  have hw := hz.wf
  have hF0 := PaF.rfl' hw
  have e2 := hz.dr.1.1.2.2.1
  have hta : ¬ Lv z.1 (73 + 2 * pT z.1 + 0) := by have := hg.q.C4; have := hg.q.M4; unfold Lv; omega
  have htb : ¬ Lv z.1 (73 + 2 * pT z.1 + 1) := by have := hg.q.C4; have := hg.q.M4; unfold Lv; omega
  refine lf (a_bipush (73 : Int32) dX11_readTrolley_0 (by decide)) ?_
  refine lf (a_iconst (2 : Int32) dX11_readTrolley_2 (by decide)) ?_
  refine lf (a_aload_n dX11_readTrolley_3 rfl) ?_
  refine lf (a_getR (cr_338_2 (by repeat (first | with_reducible exact hw | with_reducible exact hwc | with_reducible assumption | with_reducible apply Wf.sI | with_reducible apply Wf.sL | with_reducible apply Wf.cpI | with_reducible apply Wf.cpL | with_reducible apply Wf.cp2 | with_reducible apply Wf.sIs | with_reducible apply Wf.sLs | with_reducible apply Wf.cpU | with_reducible apply Wf.fillI | with_reducible apply Wf.clU | with_reducible apply Wf.dnF | with_reducible apply Wf.gbW))) dX11_readTrolley_4 fs_X11_13 rfl (co_338 (by repeat (first | with_reducible exact hw | with_reducible exact hwc | with_reducible assumption | with_reducible apply Wf.sI | with_reducible apply Wf.sL | with_reducible apply Wf.cpI | with_reducible apply Wf.cpL | with_reducible apply Wf.cp2 | with_reducible apply Wf.sIs | with_reducible apply Wf.sLs | with_reducible apply Wf.cpU | with_reducible apply Wf.fillI | with_reducible apply Wf.clU | with_reducible apply Wf.dnF | with_reducible apply Wf.gbW)))) ?_
  refine lf (a_iconst (2 : Int32) dX11_readTrolley_7 (by decide)) ?_
  refine lf (a_ild dX11_readTrolley_8 (ca_340 (by repeat (first | with_reducible exact hw | with_reducible exact hwc | with_reducible assumption | with_reducible apply Wf.sI | with_reducible apply Wf.sL | with_reducible apply Wf.cpI | with_reducible apply Wf.cpL | with_reducible apply Wf.cp2 | with_reducible apply Wf.sIs | with_reducible apply Wf.sLs | with_reducible apply Wf.cpU | with_reducible apply Wf.fillI | with_reducible apply Wf.clU | with_reducible apply Wf.dnF | with_reducible apply Wf.gbW))) (ixn (m := 2) (by omega) (by decide))) ?_
  rw [e2]
  refine lf (a_imul dX11_readTrolley_9) ?_
  refine lf (a_iadd dX11_readTrolley_10) ?_
  rw [show (73 : Int32) + 2 * nI (pT z.1) = nI (73 + 2 * pT z.1) from by have := ixt (pT z.1) 0; rw [← nI_add] at this; exact (Int32.add_zero _).symm.trans (this.trans (Int32.add_zero _))]
  refine lf (a_istore_n dX11_readTrolley_11 (by decide)) ?_
  refine lf (a_aload_n dX11_readTrolley_12 rfl) ?_
  obtain ⟨v_, W13, k13, hR13⟩ := (m_readCabinName hz hg)
  obtain ⟨hX13, hR13⟩ := hR13
  generalize hr13 : ncS B n (tkE B n p) z = r13 at hR13
  cases r13 with
  | inl a13 =>
    obtain ⟨rfl, hE13⟩ := hR13
    have hF13 := hF0.trans hX13.pa
    refine lf (a_inv (b2 := (0, 0)) k13 rfl dX11_readTrolley_13 yk_X11_readCabinName im_X11_readCabinName se_X11_readCabinName ml_X11_210 rfl (co_338 (by repeat (first | with_reducible exact hw | with_reducible exact hwc | with_reducible assumption | with_reducible apply Wf.sI | with_reducible apply Wf.sL | with_reducible apply Wf.cpI | with_reducible apply Wf.cpL | with_reducible apply Wf.cp2 | with_reducible apply Wf.sIs | with_reducible apply Wf.sLs | with_reducible apply Wf.cpU | with_reducible apply Wf.fillI | with_reducible apply Wf.clU | with_reducible apply Wf.dnF | with_reducible apply Wf.gbW))) (by decide) hc_X11 (by decide) (by decide) (Nat.le_of_ble_eq_true rfl)) ?_
    refine lfn (a_if_ne (tgt := 21) dX11_readTrolley_16 (by decide)) (fun h16 => absurd h16 (by decide)) (fun h16 => ?_)
    refine lf (a_iconst (0 : Int32) dX11_readTrolley_19 (by decide)) ?_
    refine ⟨_, _, (a_ireturn dX11_readTrolley_20 rfl rfl), ?_⟩
    exact ⟨_, rfl, StM.bad hF13 (by rw [stTrolley, if_neg hT, bnd_l hr13]) hE13⟩
  | inr a13 =>
    obtain ⟨rfl, hM13, e26⟩ := hR13
    have hw13 := hM13.wf
    have hF13 := hF0.trans hX13.pa
    have hz2 := hM13.un hta (nI a13)
    have hF2 := hF13.w (Or.inl rfl) (73 + 2 * pT z.1 + 0) (nI a13)
    have hw2 := hz2.wf
    refine lf (a_inv (b2 := (0, 0)) k13 rfl dX11_readTrolley_13 yk_X11_readCabinName im_X11_readCabinName se_X11_readCabinName ml_X11_210 rfl (co_338 (by repeat (first | with_reducible exact hw | with_reducible exact hwc | with_reducible assumption | with_reducible apply Wf.sI | with_reducible apply Wf.sL | with_reducible apply Wf.cpI | with_reducible apply Wf.cpL | with_reducible apply Wf.cp2 | with_reducible apply Wf.sIs | with_reducible apply Wf.sLs | with_reducible apply Wf.cpU | with_reducible apply Wf.fillI | with_reducible apply Wf.clU | with_reducible apply Wf.dnF | with_reducible apply Wf.gbW))) (by decide) hc_X11 (by decide) (by decide) (Nat.le_of_ble_eq_true rfl)) ?_
    refine lfn (a_if_ne (tgt := 21) dX11_readTrolley_16 (by decide)) (fun h16 => ?_) (fun h16 => absurd h16 (by decide))
    refine lf (a_aload_n dX11_readTrolley_21 rfl) ?_
    refine lf (a_getR (cr_338_2 (by repeat (first | with_reducible exact hw | with_reducible exact hwc | with_reducible assumption | with_reducible apply Wf.sI | with_reducible apply Wf.sL | with_reducible apply Wf.cpI | with_reducible apply Wf.cpL | with_reducible apply Wf.cp2 | with_reducible apply Wf.sIs | with_reducible apply Wf.sLs | with_reducible apply Wf.cpU | with_reducible apply Wf.fillI | with_reducible apply Wf.clU | with_reducible apply Wf.dnF | with_reducible apply Wf.gbW))) dX11_readTrolley_22 fs_X11_13 rfl (co_338 (by repeat (first | with_reducible exact hw | with_reducible exact hwc | with_reducible assumption | with_reducible apply Wf.sI | with_reducible apply Wf.sL | with_reducible apply Wf.cpI | with_reducible apply Wf.cpL | with_reducible apply Wf.cp2 | with_reducible apply Wf.sIs | with_reducible apply Wf.sLs | with_reducible apply Wf.cpU | with_reducible apply Wf.fillI | with_reducible apply Wf.clU | with_reducible apply Wf.dnF | with_reducible apply Wf.gbW)))) ?_
    refine lf (a_iload_n dX11_readTrolley_25 rfl) ?_
    refine lf (a_iconst (0 : Int32) dX11_readTrolley_26 (by decide)) ?_
    refine lf (a_iadd dX11_readTrolley_27) ?_
    rw [show nI (73 + 2 * pT z.1) + (0 : Int32) = nI (73 + 2 * pT z.1 + 0) from nI_add (73 + 2 * pT z.1) 0]
    refine lf (a_aload_n dX11_readTrolley_28 rfl) ?_
    refine lf (a_getI dX11_readTrolley_29 fs_X11_184 rfl (co_338 (by repeat (first | with_reducible exact hw | with_reducible exact hwc | with_reducible assumption | with_reducible apply Wf.sI | with_reducible apply Wf.sL | with_reducible apply Wf.cpI | with_reducible apply Wf.cpL | with_reducible apply Wf.cp2 | with_reducible apply Wf.sIs | with_reducible apply Wf.sLs | with_reducible apply Wf.cpU | with_reducible apply Wf.fillI | with_reducible apply Wf.clU | with_reducible apply Wf.dnF | with_reducible apply Wf.gbW)))) ?_
    rw [e26]
    refine lf (a_ist dX11_readTrolley_32 (ca_340 (by repeat (first | with_reducible exact hw | with_reducible exact hwc | with_reducible assumption | with_reducible apply Wf.sI | with_reducible apply Wf.sL | with_reducible apply Wf.cpI | with_reducible apply Wf.cpL | with_reducible apply Wf.cp2 | with_reducible apply Wf.sIs | with_reducible apply Wf.sLs | with_reducible apply Wf.cpU | with_reducible apply Wf.fillI | with_reducible apply Wf.clU | with_reducible apply Wf.dnF | with_reducible apply Wf.gbW))) (ixn (show 73 + 2 * pT z.1 + 0 < 89 by omega) (by decide))) ?_
    refine lf (a_aload_n dX11_readTrolley_33 rfl) ?_
    refine lf (a_iconst (1 : Int32) dX11_readTrolley_34 (by decide)) ?_
    refine lf (a_bipush (40 : Int32) dX11_readTrolley_35 (by decide)) ?_
    obtain ⟨v_, W37, k37, hR37⟩ := (m_readNumber hz2 (lo := 1) (hi := 40) (by decide) (by decide))
    obtain ⟨hX37, hR37⟩ := hR37
    generalize hr37 : nhS B n (tkE B n (tkE B n p)) 1 40 = r37 at hR37
    cases r37 with
    | inl a37 =>
      obtain ⟨rfl, hE37⟩ := hR37
      have hF37 := hF2.trans hX37.pa
      refine lf (a_inv (b2 := (0, 0)) k37 rfl dX11_readTrolley_37 yk_X11_readNumber im_X11_readNumber se_X11_readNumber ml_X11_196 rfl (co_338 (by repeat (first | with_reducible exact hw | with_reducible exact hwc | with_reducible assumption | with_reducible apply Wf.sI | with_reducible apply Wf.sL | with_reducible apply Wf.cpI | with_reducible apply Wf.cpL | with_reducible apply Wf.cp2 | with_reducible apply Wf.sIs | with_reducible apply Wf.sLs | with_reducible apply Wf.cpU | with_reducible apply Wf.fillI | with_reducible apply Wf.clU | with_reducible apply Wf.dnF | with_reducible apply Wf.gbW))) (by decide) hc_X11 (by decide) (by decide) (Nat.le_of_ble_eq_true rfl)) ?_
      refine lfn (a_if_ne (tgt := 45) dX11_readTrolley_40 (by decide)) (fun h40 => absurd h40 (by decide)) (fun h40 => ?_)
      refine lf (a_iconst (0 : Int32) dX11_readTrolley_43 (by decide)) ?_
      refine ⟨_, _, (a_ireturn dX11_readTrolley_44 rfl rfl), ?_⟩
      exact ⟨_, rfl, StM.bad hF37 (by rw [stTrolley, if_neg hT, bnd_r hr13, bnd_l hr37]) hE37⟩
    | inr a37 =>
      obtain ⟨rfl, hM37, e22_37⟩ := hR37
      have hw37x := hM37.wf
      have hF37 := hF2.trans hX37.pa
      have ta : gI W37 340 (73 + 2 * pT z.1 + 0) = nI a13 := (hX37.1.i (by decide) _).trans (by rw [gI_sI, if_pos ⟨rfl, rfl⟩])
      have hz3 := hM37.un htb (nI a37)
      have hF3 := hF37.w (Or.inl rfl) (73 + 2 * pT z.1 + 1) (nI a37)
      have hw3 := hz3.wf
      have e2b := hz3.dr.1.1.2.2.1
      have tb : gI (sI W37 340 (73 + 2 * pT z.1 + 1) (nI a37)) 340 (73 + 2 * pT z.1 + 1) = nI a37 := by rw [gI_sI, if_pos ⟨rfl, rfl⟩]
      have ta2 : gI (sI W37 340 (73 + 2 * pT z.1 + 1) (nI a37)) 340 (73 + 2 * pT z.1 + 0) = nI a13 := by rw [gI_sI, if_neg (by omega)]; exact ta
      refine lf (a_inv (b2 := (0, 0)) k37 rfl dX11_readTrolley_37 yk_X11_readNumber im_X11_readNumber se_X11_readNumber ml_X11_196 rfl (co_338 (by repeat (first | with_reducible exact hw | with_reducible exact hwc | with_reducible assumption | with_reducible apply Wf.sI | with_reducible apply Wf.sL | with_reducible apply Wf.cpI | with_reducible apply Wf.cpL | with_reducible apply Wf.cp2 | with_reducible apply Wf.sIs | with_reducible apply Wf.sLs | with_reducible apply Wf.cpU | with_reducible apply Wf.fillI | with_reducible apply Wf.clU | with_reducible apply Wf.dnF | with_reducible apply Wf.gbW))) (by decide) hc_X11 (by decide) (by decide) (Nat.le_of_ble_eq_true rfl)) ?_
      refine lfn (a_if_ne (tgt := 45) dX11_readTrolley_40 (by decide)) (fun h40 => ?_) (fun h40 => absurd h40 (by decide))
      refine lf (a_aload_n dX11_readTrolley_45 rfl) ?_
      refine lf (a_getR (cr_338_2 (by repeat (first | with_reducible exact hw | with_reducible exact hwc | with_reducible assumption | with_reducible apply Wf.sI | with_reducible apply Wf.sL | with_reducible apply Wf.cpI | with_reducible apply Wf.cpL | with_reducible apply Wf.cp2 | with_reducible apply Wf.sIs | with_reducible apply Wf.sLs | with_reducible apply Wf.cpU | with_reducible apply Wf.fillI | with_reducible apply Wf.clU | with_reducible apply Wf.dnF | with_reducible apply Wf.gbW))) dX11_readTrolley_46 fs_X11_13 rfl (co_338 (by repeat (first | with_reducible exact hw | with_reducible exact hwc | with_reducible assumption | with_reducible apply Wf.sI | with_reducible apply Wf.sL | with_reducible apply Wf.cpI | with_reducible apply Wf.cpL | with_reducible apply Wf.cp2 | with_reducible apply Wf.sIs | with_reducible apply Wf.sLs | with_reducible apply Wf.cpU | with_reducible apply Wf.fillI | with_reducible apply Wf.clU | with_reducible apply Wf.dnF | with_reducible apply Wf.gbW)))) ?_
      refine lf (a_iload_n dX11_readTrolley_49 rfl) ?_
      refine lf (a_iconst (1 : Int32) dX11_readTrolley_50 (by decide)) ?_
      refine lf (a_iadd dX11_readTrolley_51) ?_
      rw [show nI (73 + 2 * pT z.1) + (1 : Int32) = nI (73 + 2 * pT z.1 + 1) from nI_add (73 + 2 * pT z.1) 1]
      refine lf (a_aload_n dX11_readTrolley_52 rfl) ?_
      refine lf (a_getI dX11_readTrolley_53 fs_X11_169 rfl (co_338 (by repeat (first | with_reducible exact hw | with_reducible exact hwc | with_reducible assumption | with_reducible apply Wf.sI | with_reducible apply Wf.sL | with_reducible apply Wf.cpI | with_reducible apply Wf.cpL | with_reducible apply Wf.cp2 | with_reducible apply Wf.sIs | with_reducible apply Wf.sLs | with_reducible apply Wf.cpU | with_reducible apply Wf.fillI | with_reducible apply Wf.clU | with_reducible apply Wf.dnF | with_reducible apply Wf.gbW)))) ?_
      rw [e22_37]
      refine lf (a_ist dX11_readTrolley_56 (ca_340 (by repeat (first | with_reducible exact hw | with_reducible exact hwc | with_reducible assumption | with_reducible apply Wf.sI | with_reducible apply Wf.sL | with_reducible apply Wf.cpI | with_reducible apply Wf.cpL | with_reducible apply Wf.cp2 | with_reducible apply Wf.sIs | with_reducible apply Wf.sLs | with_reducible apply Wf.cpU | with_reducible apply Wf.fillI | with_reducible apply Wf.clU | with_reducible apply Wf.dnF | with_reducible apply Wf.gbW))) (ixn (show 73 + 2 * pT z.1 + 1 < 89 by omega) (by decide))) ?_
      refine lf (a_aload_n dX11_readTrolley_57 rfl) ?_
      refine lf (a_getR (cr_338_2 (by repeat (first | with_reducible exact hw | with_reducible exact hwc | with_reducible assumption | with_reducible apply Wf.sI | with_reducible apply Wf.sL | with_reducible apply Wf.cpI | with_reducible apply Wf.cpL | with_reducible apply Wf.cp2 | with_reducible apply Wf.sIs | with_reducible apply Wf.sLs | with_reducible apply Wf.cpU | with_reducible apply Wf.fillI | with_reducible apply Wf.clU | with_reducible apply Wf.dnF | with_reducible apply Wf.gbW))) dX11_readTrolley_58 fs_X11_13 rfl (co_338 (by repeat (first | with_reducible exact hw | with_reducible exact hwc | with_reducible assumption | with_reducible apply Wf.sI | with_reducible apply Wf.sL | with_reducible apply Wf.cpI | with_reducible apply Wf.cpL | with_reducible apply Wf.cp2 | with_reducible apply Wf.sIs | with_reducible apply Wf.sLs | with_reducible apply Wf.cpU | with_reducible apply Wf.fillI | with_reducible apply Wf.clU | with_reducible apply Wf.dnF | with_reducible apply Wf.gbW)))) ?_
      refine lf (a_iconst (2 : Int32) dX11_readTrolley_61 (by decide)) ?_
      refine lf (a_aload_n dX11_readTrolley_62 rfl) ?_
      refine lf (a_getR (cr_338_2 (by repeat (first | with_reducible exact hw | with_reducible exact hwc | with_reducible assumption | with_reducible apply Wf.sI | with_reducible apply Wf.sL | with_reducible apply Wf.cpI | with_reducible apply Wf.cpL | with_reducible apply Wf.cp2 | with_reducible apply Wf.sIs | with_reducible apply Wf.sLs | with_reducible apply Wf.cpU | with_reducible apply Wf.fillI | with_reducible apply Wf.clU | with_reducible apply Wf.dnF | with_reducible apply Wf.gbW))) dX11_readTrolley_63 fs_X11_13 rfl (co_338 (by repeat (first | with_reducible exact hw | with_reducible exact hwc | with_reducible assumption | with_reducible apply Wf.sI | with_reducible apply Wf.sL | with_reducible apply Wf.cpI | with_reducible apply Wf.cpL | with_reducible apply Wf.cp2 | with_reducible apply Wf.sIs | with_reducible apply Wf.sLs | with_reducible apply Wf.cpU | with_reducible apply Wf.fillI | with_reducible apply Wf.clU | with_reducible apply Wf.dnF | with_reducible apply Wf.gbW)))) ?_
      refine lf (a_iconst (2 : Int32) dX11_readTrolley_66 (by decide)) ?_
      refine lf (a_ild dX11_readTrolley_67 (ca_340 (by repeat (first | with_reducible exact hw | with_reducible exact hwc | with_reducible assumption | with_reducible apply Wf.sI | with_reducible apply Wf.sL | with_reducible apply Wf.cpI | with_reducible apply Wf.cpL | with_reducible apply Wf.cp2 | with_reducible apply Wf.sIs | with_reducible apply Wf.sLs | with_reducible apply Wf.cpU | with_reducible apply Wf.fillI | with_reducible apply Wf.clU | with_reducible apply Wf.dnF | with_reducible apply Wf.gbW))) (ixn (m := 2) (by omega) (by decide))) ?_
      rw [e2b]
      refine lf (a_iconst (1 : Int32) dX11_readTrolley_68 (by decide)) ?_
      refine lf (a_iadd dX11_readTrolley_69) ?_
      rw [nI_1]
      refine lf (a_ist dX11_readTrolley_70 (ca_340 (by repeat (first | with_reducible exact hw | with_reducible exact hwc | with_reducible assumption | with_reducible apply Wf.sI | with_reducible apply Wf.sL | with_reducible apply Wf.cpI | with_reducible apply Wf.cpL | with_reducible apply Wf.cp2 | with_reducible apply Wf.sIs | with_reducible apply Wf.sLs | with_reducible apply Wf.cpU | with_reducible apply Wf.fillI | with_reducible apply Wf.clU | with_reducible apply Wf.dnF | with_reducible apply Wf.gbW))) (ixn (m := 2) (by omega) (by decide))) ?_
      refine lf (a_iconst (1 : Int32) dX11_readTrolley_71 (by decide)) ?_
      refine ⟨_, _, (a_ireturn dX11_readTrolley_72 rfl rfl), ?_⟩
      exact ⟨_, rfl, StM.ok (hF3.w (Or.inl rfl) _ _) (by rw [stTrolley, if_neg hT, bnd_r hr13, bnd_r hr37]) (hz3.w (Or.inl rfl) (hz3.dr.trolley (by omega) ta2 tb))⟩
end MSTAT
