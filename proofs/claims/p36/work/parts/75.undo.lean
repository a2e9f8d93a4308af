section UNDO
variable {μ W V : Wd} {p f g : Nat} {q : PDt} {d d2 e : FDt} {H : Hst} {S : Nat → Option FDt}
theorem ring_d {a n k : Nat} (ha : a < 12) (hk : k < 12) (h : (a + (n + 1)) % 12 = (k + n) % 12) : a = (k + 11) % 12 := by omega
theorem ring_e {a n k i : Nat} (hk : k < 12) (h : (a + (n + 1)) % 12 = (k + i) % 12) : (a + n) % 12 = ((k + 11) % 12 + i) % 12 := by omega
abbrev sTb : Nat → Prop := fun i => i = 82 ∨ (24 ≤ i ∧ i ≤ 40)
theorem tb_a {Z : Wd} {j : Nat} {a b : Int32} (hw : Wf μ) (hZ : Z = sI (sI μ 82 1 a) 82 2 b) : Wf Z ∧ Out (fun i => i = 82) μ Z ∧ gI Z 82 1 = a ∧ gI Z 82 2 = b := by
  rw [hZ]
  exact ⟨hw.sI.sI, ((Out.rfl' hw).sI (S := fun i => i = 82) rfl _ _).sI (S := fun i => i = 82) rfl _ _, by rw [gI_sI, if_neg (by omega), gI_sI, if_pos ⟨rfl, rfl⟩], by rw [gI_sI, if_pos ⟨rfl, rfl⟩]⟩
theorem tb_b {j n k : Nat} (hw : Wf μ) (hj : j < 12) (ej : j = (k + 11) % 12) (hF : FV μ (84 + 17 * j) p e) (h01 : dF e 6 0 = 0 ∨ dF e 6 0 = 1) (k1 : k < 12) (k2 : gI μ 82 1 = nI k) (k3 : gI μ 82 2 = nI (n + 1)) (hn : n < 12) : ∃ Z V, Wf Z ∧ Out (fun i => i = 82) μ Z ∧ gI Z 82 1 = nI j ∧ gI Z 82 2 = nI n ∧ Wf V ∧ Out (sFl 24) Z V ∧ FV V 24 p e ∧ Ct Y_X3_takeBack R_X3_takeBack [.ref 82, .ref 24] μ (.inl none) V := by
  have hc := t_X3_takeBack hw fl_now (f := 24) (k := k) (n := n) (p := p) (by omega) (by rw [← ej]; exact hF.rp) (by rw [← ej, hF.srv]; exact h01) k2 k1 k3 hn
  rw [← ej] at hc
  obtain ⟨z1, z2, z3, z4⟩ := tb_a (j := j) (a := nI j) (b := nI n) hw rfl
  generalize sI (sI μ 82 1 (nI j)) 82 2 (nI n) = Z at hc z1 z2 z3 z4
  have hF2 : FV Z (84 + 17 * j) p e := hF.out z2 (fun i a b y => by omega)
  have hcp := cp_all z1 fl_now hF2 (show 24 ≠ 84 + 17 * j by omega)
  revert hc hcp
  generalize cpF Z 24 (84 + 17 * j) p = V
  intro hc hcp
  exact ⟨Z, V, z1, z2, z3, z4, hcp.1, hcp.2.1, hcp.2.2, hc⟩
theorem v_X3_takeBack (hw : Wf μ) (h : HsV μ p H) {n : Nat} (hn : H.1 = n + 1) (h01 : dF (H.2 n) 6 0 = 0 ∨ dF (H.2 n) 6 0 = 1) : CV Y_X3_takeBack R_X3_takeBack [.ref 82, .ref 24] μ (fun v V => v = none ∧ FV V 24 p (H.2 n) ∧ HsV V p (n, H.2) ∧ gI V 82 2 = nI n ∧ Out sTb μ V) := by
  obtain ⟨k, r, k1, k2, k3, k4, k6, k5⟩ := h
  have hr := k6 n (by omega)
  have hF := k5 n (by omega)
  rw [hn] at k3
  have ej : r n = (k + 11) % 12 := ring_d hr.1 k1 (by rw [← hn]; exact hr.2)
  obtain ⟨Z, V, z1, z2, z3, z4, v1, v2, v3, hc⟩ := tb_b hw hr.1 ej hF h01 k1 k2 k3 (by omega)
  have hO : Out sTb μ V := (z2.mono (S' := sTb) (fun i y => Or.inl y)).trans (v2.mono (S' := sTb) (fun i y => Or.inr ⟨y.1, by have := y.2; omega⟩))
  have e82 : ∀ x, gI V 82 x = gI Z 82 x := fun x => v2.i (fun y => by have := y.2; omega) x
  refine ⟨none, V, hc, rfl, v3, ⟨r n, r, hr.1, (e82 1).trans z3, (e82 2).trans z4, show n ≤ 12 by omega, fun i (hi : i < n) => ?_, fun i (hi : i < n) => ?_⟩, (e82 2).trans z4, hO⟩
  · have h6 := k6 i (by omega)
    refine ⟨h6.1, ?_⟩
    rw [ej]
    exact ring_e k1 (by rw [← hn]; exact h6.2)
  · have h6 := (k6 i (by omega)).1
    exact (k5 i (by omega)).out hO (fun x a b y => by rcases y with y | y <;> omega)
def popH (H : Hst) : Hst := (H.1 - 1, H.2)
/-- an act is undone -/
theorem undo_fin {n : Nat} (h : CrV μ p q d H S) (hn : H.1 = n + 1) (hO : Out sTb μ W) (hF : FV W 24 p (H.2 n)) (hH : HsV W p (n, H.2)) : ActQ μ (sI W 0 17 0) p q (H.2 n) (popH H) S ∧ gI (sI W 0 17 0) 82 2 = gI W 82 2 := by
  have hpp := h.pv.pl
  have eH : popH H = (n, H.2) := by unfold popH; rw [hn]; rfl
  have hO1 : Out (fun i => i = 0 ∨ sTb i) μ (sI W 0 17 0) := (hO.mono (S' := fun i => i = 0 ∨ sTb i) (fun i y => Or.inr y)).sI (S := fun i => i = 0 ∨ sTb i) (Or.inl rfl) _ _
  have hO2 : Out (fun i => i = 0) W (sI W 0 17 0) := (Out.rfl' hO.wf).sI (S := fun i => i = 0) rfl _ _
  have e17 : gI (sI W 0 17 0) 0 17 = 0 := by rw [gI_sI, if_pos ⟨rfl, rfl⟩]
  have e82 : gI (sI W 0 17 0) 82 2 = gI W 82 2 := by rw [gI_sI, if_neg (by omega)]
  have eo : Own μ (sI W 0 17 0) := ⟨fun x hx => by rw [gI_sI, if_neg (by omega)]; exact hO.i (fun y => by rcases y with y | y <;> omega) x, fun x => by rw [gR_sI]; exact hO.r (fun y => by rcases y with y | y <;> omega) x⟩
  rw [eH]
  generalize sI W 0 17 0 = Z at hO1 hO2 e17 e82 eo ⊢
  refine ⟨⟨⟨hO1.1, h.pv.out hO1 (fun i a b y => by rcases hpp with e | e <;> (subst e; rcases y with y | y | y <;> omega)), hF.out hO2 (fun i a b y => by omega), hH.out hO2 (fun i y => ⟨by omega, by omega⟩), h.sl.out hO1 (fun i y => by rcases y with y | y | y <;> omega), Or.inl e17⟩, e17, hO1.mono (S' := sAct) (fun i y => ?_), eo⟩, e82⟩
  rcases y with y | y | y
  · exact Or.inl y
  · exact Or.inr (Or.inr (Or.inl y))
  · exact Or.inr (Or.inl ⟨y.1, by omega⟩)
abbrev R_X10_undo : Room := { frames := 7, cells := 0, slots := 0, locals := 140 }
abbrev RX_X10_undo : Room := { frames := 7, cells := 1, slots := 6, locals := 140 }

theorem c_undo (h : CrV μ p q d H S) {n : Nat} (hn : H.1 = n + 1) (g12 : n < 12) (h01 : dF (H.2 n) 6 0 = 0 ∨ dF (H.2 n) 6 0 = 1) (hsz : gI μ 82 2 = nI (n + 1)) : CV Y_X10_undo R_X10_undo [.ref 0] μ (fun v V => v = some (.int (nI n)) ∧ ActQ μ V p q (H.2 n) (popH H) S) := by
  have hw := h.wf
  have hv := h.fv
  have hq := h.pv
  have hC4 := hq.C4
  have hM4 := hq.M4
  have hT4 := hq.T4
  have hP4 := hv.P4
  have hU4 := hv.U4
  refine CV.ent yk_X10_undo (Nat.le_of_ble_eq_true rfl) ?_
  refine lf (a_aload_n dX10_undo_0 rfl) ?_
  refine lf (a_getR (cr_0_11 (by repeat (first | with_reducible exact hw | with_reducible exact hwc | with_reducible assumption | with_reducible apply Wf.sI | with_reducible apply Wf.sL | with_reducible apply Wf.cpI | with_reducible apply Wf.cpL | with_reducible apply Wf.cp2 | with_reducible apply Wf.sIs | with_reducible apply Wf.sLs | with_reducible apply Wf.cpU | with_reducible apply Wf.fillI | with_reducible apply Wf.clU | with_reducible apply Wf.dnF | with_reducible apply Wf.gbW))) dX10_undo_1 fs_X10_49 rfl (co_0 (by repeat (first | with_reducible exact hw | with_reducible exact hwc | with_reducible assumption | with_reducible apply Wf.sI | with_reducible apply Wf.sL | with_reducible apply Wf.cpI | with_reducible apply Wf.cpL | with_reducible apply Wf.cp2 | with_reducible apply Wf.sIs | with_reducible apply Wf.sLs | with_reducible apply Wf.cpU | with_reducible apply Wf.fillI | with_reducible apply Wf.clU | with_reducible apply Wf.dnF | with_reducible apply Wf.gbW)))) ?_
  refine lf (a_getI dX10_undo_4 fs_X10_164 rfl (co_82 (by repeat (first | with_reducible exact hw | with_reducible exact hwc | with_reducible assumption | with_reducible apply Wf.sI | with_reducible apply Wf.sL | with_reducible apply Wf.cpI | with_reducible apply Wf.cpL | with_reducible apply Wf.cp2 | with_reducible apply Wf.sIs | with_reducible apply Wf.sLs | with_reducible apply Wf.cpU | with_reducible apply Wf.fillI | with_reducible apply Wf.clU | with_reducible apply Wf.dnF | with_reducible apply Wf.gbW)))) ?_
  rw [hsz]
  refine lfn (a_if_ne (tgt := 21) dX10_undo_7 (by decide)) (fun h7 => ?_) (fun h7 => absurd h7 (fun z => absurd ((nI_eqI (a := n + 1) (b := 0) (by omega) (by decide)).mp z) (by omega)))
  refine lf (a_aload_n dX10_undo_21 rfl) ?_
  refine lf (a_getR (cr_0_11 (by repeat (first | with_reducible exact hw | with_reducible exact hwc | with_reducible assumption | with_reducible apply Wf.sI | with_reducible apply Wf.sL | with_reducible apply Wf.cpI | with_reducible apply Wf.cpL | with_reducible apply Wf.cp2 | with_reducible apply Wf.sIs | with_reducible apply Wf.sLs | with_reducible apply Wf.cpU | with_reducible apply Wf.fillI | with_reducible apply Wf.clU | with_reducible apply Wf.dnF | with_reducible apply Wf.gbW))) dX10_undo_22 fs_X10_49 rfl (co_0 (by repeat (first | with_reducible exact hw | with_reducible exact hwc | with_reducible assumption | with_reducible apply Wf.sI | with_reducible apply Wf.sL | with_reducible apply Wf.cpI | with_reducible apply Wf.cpL | with_reducible apply Wf.cp2 | with_reducible apply Wf.sIs | with_reducible apply Wf.sLs | with_reducible apply Wf.cpU | with_reducible apply Wf.fillI | with_reducible apply Wf.clU | with_reducible apply Wf.dnF | with_reducible apply Wf.gbW)))) ?_
  refine lf (a_aload_n dX10_undo_25 rfl) ?_
  refine lf (a_getR (cr_0_7 (by repeat (first | with_reducible exact hw | with_reducible exact hwc | with_reducible assumption | with_reducible apply Wf.sI | with_reducible apply Wf.sL | with_reducible apply Wf.cpI | with_reducible apply Wf.cpL | with_reducible apply Wf.cp2 | with_reducible apply Wf.sIs | with_reducible apply Wf.sLs | with_reducible apply Wf.cpU | with_reducible apply Wf.fillI | with_reducible apply Wf.clU | with_reducible apply Wf.dnF | with_reducible apply Wf.gbW))) dX10_undo_26 fs_X10_28 rfl (co_0 (by repeat (first | with_reducible exact hw | with_reducible exact hwc | with_reducible assumption | with_reducible apply Wf.sI | with_reducible apply Wf.sL | with_reducible apply Wf.cpI | with_reducible apply Wf.cpL | with_reducible apply Wf.cp2 | with_reducible apply Wf.sIs | with_reducible apply Wf.sLs | with_reducible apply Wf.cpU | with_reducible apply Wf.fillI | with_reducible apply Wf.clU | with_reducible apply Wf.dnF | with_reducible apply Wf.gbW)))) ?_
  obtain ⟨v_, W29, k29, rfl, hF, hH, hs2, hO⟩ := (v_X3_takeBack hw h.hs hn h01)
  have hwc := hO.wf
  refine lf (a_inv (b2 := (0, 0)) k29 rfl dX10_undo_29 yk_X3_takeBack im_X3_takeBack se_X3_takeBack ml_X10_403 rfl (co_82 (by repeat (first | with_reducible exact hw | with_reducible exact hwc | with_reducible assumption | with_reducible apply Wf.sI | with_reducible apply Wf.sL | with_reducible apply Wf.cpI | with_reducible apply Wf.cpL | with_reducible apply Wf.cp2 | with_reducible apply Wf.sIs | with_reducible apply Wf.sLs | with_reducible apply Wf.cpU | with_reducible apply Wf.fillI | with_reducible apply Wf.clU | with_reducible apply Wf.dnF | with_reducible apply Wf.gbW))) (by decide) hc_X3 (by decide) (by decide) (Nat.le_of_ble_eq_true rfl)) ?_
  refine lf (a_aload_n dX10_undo_32 rfl) ?_
  refine lf (a_iconst (0 : Int32) dX10_undo_33 (by decide)) ?_
  refine lf (a_putI dX10_undo_34 fs_X10_406 rfl rfl rfl (co_0 (by repeat (first | with_reducible exact hw | with_reducible exact hwc | with_reducible assumption | with_reducible apply Wf.sI | with_reducible apply Wf.sL | with_reducible apply Wf.cpI | with_reducible apply Wf.cpL | with_reducible apply Wf.cp2 | with_reducible apply Wf.sIs | with_reducible apply Wf.sLs | with_reducible apply Wf.cpU | with_reducible apply Wf.fillI | with_reducible apply Wf.clU | with_reducible apply Wf.dnF | with_reducible apply Wf.gbW)))) ?_
  refine lf (a_aload_n dX10_undo_37 rfl) ?_
  refine lf (a_getR (cr_0_11 (by repeat (first | with_reducible exact hw | with_reducible exact hwc | with_reducible assumption | with_reducible apply Wf.sI | with_reducible apply Wf.sL | with_reducible apply Wf.cpI | with_reducible apply Wf.cpL | with_reducible apply Wf.cp2 | with_reducible apply Wf.sIs | with_reducible apply Wf.sLs | with_reducible apply Wf.cpU | with_reducible apply Wf.fillI | with_reducible apply Wf.clU | with_reducible apply Wf.dnF | with_reducible apply Wf.gbW))) dX10_undo_38 fs_X10_49 rfl (co_0 (by repeat (first | with_reducible exact hw | with_reducible exact hwc | with_reducible assumption | with_reducible apply Wf.sI | with_reducible apply Wf.sL | with_reducible apply Wf.cpI | with_reducible apply Wf.cpL | with_reducible apply Wf.cp2 | with_reducible apply Wf.sIs | with_reducible apply Wf.sLs | with_reducible apply Wf.cpU | with_reducible apply Wf.fillI | with_reducible apply Wf.clU | with_reducible apply Wf.dnF | with_reducible apply Wf.gbW)))) ?_
  refine lf (a_getI dX10_undo_41 fs_X10_164 rfl (co_82 (by repeat (first | with_reducible exact hw | with_reducible exact hwc | with_reducible assumption | with_reducible apply Wf.sI | with_reducible apply Wf.sL | with_reducible apply Wf.cpI | with_reducible apply Wf.cpL | with_reducible apply Wf.cp2 | with_reducible apply Wf.sIs | with_reducible apply Wf.sLs | with_reducible apply Wf.cpU | with_reducible apply Wf.fillI | with_reducible apply Wf.clU | with_reducible apply Wf.dnF | with_reducible apply Wf.gbW)))) ?_
  rw [gI_sI, if_neg (by omega), hs2]
  refine ⟨_, _, (a_ireturn dX10_undo_44 rfl rfl), ?_⟩
  exact ⟨_, rfl, rfl, (undo_fin h hn hO hF hH).1⟩
theorem cx_undo (hw : Wf μ) (hsz : gI μ 82 2 = nI 0) : Ct Y_X10_undo RX_X10_undo [.ref 0] μ (.inr ISE) μ := by
  refine Ct.ent yk_X10_undo (Nat.le_of_ble_eq_true rfl) ?_
  refine a_aload_n dX10_undo_0 rfl ?_
  refine a_getR (cr_0_11 hw) dX10_undo_1 fs_X10_49 rfl (co_0 hw) ?_
  refine a_getI dX10_undo_4 fs_X10_164 rfl (co_82 hw) ?_
  rw [hsz]
  refine a_if_ne (tgt := 21) dX10_undo_7 (by decide) (fun h7 => absurd h7 (fun z => z rfl)) (fun h7 => ?_)
  exact a_throwSW (n := 45) (tx := "nothing can be undone") (by decide) (by decide) xw_ISE rfl rfl dX10_undo_10 dX10_undo_13 dX10_undo_14 dX10_undo_17 dX10_undo_20 (by decide) (by decide) (by decide) (by decide) (by decide)
def upS (S : Nat → Option FDt) (j : Nat) (d : FDt) : Nat → Option FDt := fun i => if i = j then some d else S i
abbrev sSl : Nat → Prop := fun i => 289 ≤ i ∧ i ≤ 323
theorem keep_fin {j : Nat} (h : CrV μ p q d H S) (hj : j < 2) (hO : Out (sFl (289 + 17 * j)) μ W) (hF : FV W (289 + 17 * j) p d) (x : Int32) (hx : x = 1) : CrV (sI W 323 j x) p q d H (upS S j d) ∧ Out sSl μ (sI W 323 j x) := by
  have hpp := h.pv.pl
  have hO1 : Out sSl μ (sI W 323 j x) := (hO.mono (S' := sSl) (fun i y => ⟨by have := y.1; omega, by have := y.2; omega⟩)).sI (S := sSl) ⟨by omega, by omega⟩ _ _
  have hO2 : Out (fun i => i = 323) W (sI W 323 j x) := (Out.rfl' hO.wf).sI (S := fun i => i = 323) rfl _ _
  have e1 : ∀ i, gI (sI W 323 j x) 323 i = if i = j then 1 else gI μ 323 i := fun i => by
    rw [gI_sI]
    by_cases e : i = j
    · rw [if_pos ⟨rfl, e⟩, if_pos e, hx]
    · rw [if_neg (fun z => e z.2), if_neg e]; exact hO.i (fun y => by have := y.2; omega) i
  generalize sI W 323 j x = Z at hO1 hO2 e1 ⊢
  refine ⟨⟨hO1.1, h.pv.out hO1 (fun i a b y => by have := y.1; have := y.2; rcases hpp with e | e <;> omega), h.fv.out hO1 (fun i a b y => by have := y.1; omega), h.hs.out hO1 (fun i y => ⟨by have := y.1; omega, Or.inr (by have := y.1; omega)⟩), fun i hi => ?_, h.sv.out hO1 (fun i a b y => by have := y.2; omega) (hO1.i (fun y => by have := y.1; omega) 17)⟩, hO1⟩
  by_cases e : i = j
  · have es : upS S j d i = some d := if_pos e
    rw [es]
    exact ⟨by rw [e1, if_pos e], by rw [e]; exact hF.out hO2 (fun a b c y => by omega)⟩
  · have es : upS S j d i = S i := if_neg e
    rw [es]
    have hs := h.sl i hi
    cases hS : S i with
    | none => rw [hS] at hs; exact (by rw [e1, if_neg e]; exact hs)
    | some z =>
      rw [hS] at hs
      exact ⟨by rw [e1, if_neg e]; exact hs.1, (hs.2.out hO (fun a b c y => by have := y.1; have := y.2; omega)).out hO2 (fun a b c y => by omega)⟩
abbrev R_X10_keep : Room := { frames := 8, cells := 0, slots := 0, locals := 161 }
abbrev RX_X10_keep : Room := { frames := 8, cells := 1, slots := 6, locals := 161 }

theorem c_keep (h : CrV μ p q d H S) (h01 : dF d 6 0 = 0 ∨ dF d 6 0 = 1) {j : Nat} (hj : j < 2) : CV Y_X10_keep R_X10_keep [.ref 0, .int (nI j)] μ (fun v V => v = some (.int (phD q d)) ∧ CrV V p q d H (upS S j d) ∧ Out sSl μ V) := by
  have hw := h.wf
  have hv := h.fv
  have hq := h.pv
  have hC4 := hq.C4
  have hM4 := hq.M4
  have hT4 := hq.T4
  have hP4 := hv.P4
  have hU4 := hv.U4
  refine CV.ent yk_X10_keep (Nat.le_of_ble_eq_true rfl) ?_
  refine lf (a_aload_n dX10_keep_0 rfl) ?_
  refine lf (a_iload_n dX10_keep_1 rfl) ?_
  refine lf (a_inv (b2 := (0, 0)) (c_requireSlot (by repeat (first | with_reducible exact hw | with_reducible exact hwc | with_reducible assumption | with_reducible apply Wf.sI | with_reducible apply Wf.sL | with_reducible apply Wf.cpI | with_reducible apply Wf.cpL | with_reducible apply Wf.cp2 | with_reducible apply Wf.sIs | with_reducible apply Wf.sLs | with_reducible apply Wf.cpU | with_reducible apply Wf.fillI | with_reducible apply Wf.clU | with_reducible apply Wf.dnF | with_reducible apply Wf.gbW)) hv hq hj) rfl dX10_keep_2 yk_X10_requireSlot im_X10_requireSlot se_X10_requireSlot ml_X10_409 rfl (co_0 (by repeat (first | with_reducible exact hw | with_reducible exact hwc | with_reducible assumption | with_reducible apply Wf.sI | with_reducible apply Wf.sL | with_reducible apply Wf.cpI | with_reducible apply Wf.cpL | with_reducible apply Wf.cp2 | with_reducible apply Wf.sIs | with_reducible apply Wf.sLs | with_reducible apply Wf.cpU | with_reducible apply Wf.fillI | with_reducible apply Wf.clU | with_reducible apply Wf.dnF | with_reducible apply Wf.gbW))) (by decide) hc_X10 (by decide) (by decide) (Nat.le_of_ble_eq_true rfl)) ?_
  refine lf (a_aload_n dX10_keep_5 rfl) ?_
  refine lf (a_getR (cr_0_12 (by repeat (first | with_reducible exact hw | with_reducible exact hwc | with_reducible assumption | with_reducible apply Wf.sI | with_reducible apply Wf.sL | with_reducible apply Wf.cpI | with_reducible apply Wf.cpL | with_reducible apply Wf.cp2 | with_reducible apply Wf.sIs | with_reducible apply Wf.sLs | with_reducible apply Wf.cpU | with_reducible apply Wf.fillI | with_reducible apply Wf.clU | with_reducible apply Wf.dnF | with_reducible apply Wf.gbW))) dX10_keep_6 fs_X10_53 rfl (co_0 (by repeat (first | with_reducible exact hw | with_reducible exact hwc | with_reducible assumption | with_reducible apply Wf.sI | with_reducible apply Wf.sL | with_reducible apply Wf.cpI | with_reducible apply Wf.cpL | with_reducible apply Wf.cp2 | with_reducible apply Wf.sIs | with_reducible apply Wf.sLs | with_reducible apply Wf.cpU | with_reducible apply Wf.fillI | with_reducible apply Wf.clU | with_reducible apply Wf.dnF | with_reducible apply Wf.gbW)))) ?_
  refine lf (a_iload_n dX10_keep_9 rfl) ?_
  refine lf (a_aald (j := j) dX10_keep_10 (ca_288 (by repeat (first | with_reducible exact hw | with_reducible exact hwc | with_reducible assumption | with_reducible apply Wf.sI | with_reducible apply Wf.sL | with_reducible apply Wf.cpI | with_reducible apply Wf.cpL | with_reducible apply Wf.cp2 | with_reducible apply Wf.sIs | with_reducible apply Wf.sLs | with_reducible apply Wf.cpU | with_reducible apply Wf.fillI | with_reducible apply Wf.clU | with_reducible apply Wf.dnF | with_reducible apply Wf.gbW))) (by decide) (ixn (by omega) (by decide)) (slot_r (by repeat (first | with_reducible exact hw | with_reducible exact hwc | with_reducible assumption | with_reducible apply Wf.sI | with_reducible apply Wf.sL | with_reducible apply Wf.cpI | with_reducible apply Wf.cpL | with_reducible apply Wf.cp2 | with_reducible apply Wf.sIs | with_reducible apply Wf.sLs | with_reducible apply Wf.cpU | with_reducible apply Wf.fillI | with_reducible apply Wf.clU | with_reducible apply Wf.dnF | with_reducible apply Wf.gbW)) (by omega))) ?_
  refine lf (a_aload_n dX10_keep_11 rfl) ?_
  refine lf (a_getR (cr_0_7 (by repeat (first | with_reducible exact hw | with_reducible exact hwc | with_reducible assumption | with_reducible apply Wf.sI | with_reducible apply Wf.sL | with_reducible apply Wf.cpI | with_reducible apply Wf.cpL | with_reducible apply Wf.cp2 | with_reducible apply Wf.sIs | with_reducible apply Wf.sLs | with_reducible apply Wf.cpU | with_reducible apply Wf.fillI | with_reducible apply Wf.clU | with_reducible apply Wf.dnF | with_reducible apply Wf.gbW))) dX10_keep_12 fs_X10_28 rfl (co_0 (by repeat (first | with_reducible exact hw | with_reducible exact hwc | with_reducible assumption | with_reducible apply Wf.sI | with_reducible apply Wf.sL | with_reducible apply Wf.cpI | with_reducible apply Wf.cpL | with_reducible apply Wf.cp2 | with_reducible apply Wf.sIs | with_reducible apply Wf.sLs | with_reducible apply Wf.cpU | with_reducible apply Wf.fillI | with_reducible apply Wf.clU | with_reducible apply Wf.dnF | with_reducible apply Wf.gbW)))) ?_
  obtain ⟨v_, W15, k15, rfl, hF, hO⟩ := (v_X1_copy hw (slot_fl hj) hv (by omega) h01)
  have hwc := hO.wf
  refine lf (a_inv (b2 := (0, 0)) k15 rfl dX10_keep_15 yk_X1_copy im_X1_copy se_X1_copy ml_X10_123 rfl (fl_o (by repeat (first | with_reducible exact hw | with_reducible exact hwc | with_reducible assumption | with_reducible apply Wf.sI | with_reducible apply Wf.sL | with_reducible apply Wf.cpI | with_reducible apply Wf.cpL | with_reducible apply Wf.cp2 | with_reducible apply Wf.sIs | with_reducible apply Wf.sLs | with_reducible apply Wf.cpU | with_reducible apply Wf.fillI | with_reducible apply Wf.clU | with_reducible apply Wf.dnF | with_reducible apply Wf.gbW)) (slot_fl (by omega))) (by decide) hc_X1 (by decide) (by decide) (Nat.le_of_ble_eq_true rfl)) ?_
  refine lf (a_aload_n dX10_keep_18 rfl) ?_
  refine lf (a_getR (cr_0_13 (by repeat (first | with_reducible exact hw | with_reducible exact hwc | with_reducible assumption | with_reducible apply Wf.sI | with_reducible apply Wf.sL | with_reducible apply Wf.cpI | with_reducible apply Wf.cpL | with_reducible apply Wf.cp2 | with_reducible apply Wf.sIs | with_reducible apply Wf.sLs | with_reducible apply Wf.cpU | with_reducible apply Wf.fillI | with_reducible apply Wf.clU | with_reducible apply Wf.dnF | with_reducible apply Wf.gbW))) dX10_keep_19 fs_X10_57 rfl (co_0 (by repeat (first | with_reducible exact hw | with_reducible exact hwc | with_reducible assumption | with_reducible apply Wf.sI | with_reducible apply Wf.sL | with_reducible apply Wf.cpI | with_reducible apply Wf.cpL | with_reducible apply Wf.cp2 | with_reducible apply Wf.sIs | with_reducible apply Wf.sLs | with_reducible apply Wf.cpU | with_reducible apply Wf.fillI | with_reducible apply Wf.clU | with_reducible apply Wf.dnF | with_reducible apply Wf.gbW)))) ?_
  refine lf (a_iload_n dX10_keep_22 rfl) ?_
  refine lf (a_iconst (1 : Int32) dX10_keep_23 (by decide)) ?_
  refine lf (a_zst dX10_keep_24 (ca_323 (by repeat (first | with_reducible exact hw | with_reducible exact hwc | with_reducible assumption | with_reducible apply Wf.sI | with_reducible apply Wf.sL | with_reducible apply Wf.cpI | with_reducible apply Wf.cpL | with_reducible apply Wf.cp2 | with_reducible apply Wf.sIs | with_reducible apply Wf.sLs | with_reducible apply Wf.cpU | with_reducible apply Wf.fillI | with_reducible apply Wf.clU | with_reducible apply Wf.dnF | with_reducible apply Wf.gbW))) (ixn hj (by decide))) ?_
  have hC := keep_fin h hj hO hF (vp_nar .boolean 1) (by decide)
  refine lf (a_aload_n dX10_keep_25 rfl) ?_
  refine lf (a_getR (cr_0_7 (by repeat (first | with_reducible exact hw | with_reducible exact hwc | with_reducible assumption | with_reducible apply Wf.sI | with_reducible apply Wf.sL | with_reducible apply Wf.cpI | with_reducible apply Wf.cpL | with_reducible apply Wf.cp2 | with_reducible apply Wf.sIs | with_reducible apply Wf.sLs | with_reducible apply Wf.cpU | with_reducible apply Wf.fillI | with_reducible apply Wf.clU | with_reducible apply Wf.dnF | with_reducible apply Wf.gbW))) dX10_keep_26 fs_X10_28 rfl (co_0 (by repeat (first | with_reducible exact hw | with_reducible exact hwc | with_reducible assumption | with_reducible apply Wf.sI | with_reducible apply Wf.sL | with_reducible apply Wf.cpI | with_reducible apply Wf.cpL | with_reducible apply Wf.cp2 | with_reducible apply Wf.sIs | with_reducible apply Wf.sLs | with_reducible apply Wf.cpU | with_reducible apply Wf.fillI | with_reducible apply Wf.clU | with_reducible apply Wf.dnF | with_reducible apply Wf.gbW)))) ?_
  refine lf (a_inv (b2 := (0, 0)) (v_X1_phase hC.1.wf hC.1.fv hC.1.pv) rfl dX10_keep_29 yk_X1_phase im_X1_phase se_X1_phase ml_X10_135 rfl (fl_o (by repeat (first | with_reducible exact hw | with_reducible exact hwc | with_reducible assumption | with_reducible apply Wf.sI | with_reducible apply Wf.sL | with_reducible apply Wf.cpI | with_reducible apply Wf.cpL | with_reducible apply Wf.cp2 | with_reducible apply Wf.sIs | with_reducible apply Wf.sLs | with_reducible apply Wf.cpU | with_reducible apply Wf.fillI | with_reducible apply Wf.clU | with_reducible apply Wf.dnF | with_reducible apply Wf.gbW)) fl_now) (by decide) hc_X1 (by decide) (by decide) (Nat.le_of_ble_eq_true rfl)) ?_
  refine ⟨_, _, (a_ireturn dX10_keep_32 rfl rfl), ?_⟩
  exact ⟨_, rfl, rfl, hC.1, hC.2⟩

theorem cx_keep (hw : Wf μ) (hv : FV μ 24 p d) (hq : PV μ p q) {x : Int32} (h : ixO x 2 = none) : Ct Y_X10_keep RX_X10_keep [.ref 0, .int x] μ (.inr IAE) μ := by
  have hC4 := hq.C4
  have hM4 := hq.M4
  have hT4 := hq.T4
  have hP4 := hv.P4
  have hU4 := hv.U4
  refine Ct.ent yk_X10_keep (Nat.le_of_ble_eq_true rfl) ?_
  refine a_aload_n dX10_keep_0 rfl ?_
  refine a_iload_n dX10_keep_1 rfl ?_
  exact a_out rfl rfl (a_invX (cx_requireSlot hw hv hq h) rfl dX10_keep_2 yk_X10_requireSlot im_X10_requireSlot se_X10_requireSlot ml_X10_409 rfl (co_0 hw) (by decide) hc_X10 (by decide) (by decide) (Nat.le_of_ble_eq_true rfl) rfl)
theorem restore_fin (h : CrV μ p q d H S) (hO : Out (sFl 24) μ W) (hF : FV W 24 p e) : ActQ μ (sI (sI W 82 2 0) 0 17 0) p q e (0, H.2) S := by
  have hpp := h.pv.pl
  obtain ⟨k, r, k1, k2, k3, k4, k6, k5⟩ := h.hs
  have hO1 : Out (fun i => i = 0 ∨ sTb i) μ (sI (sI W 82 2 0) 0 17 0) := ((hO.mono (S' := fun i => i = 0 ∨ sTb i) (fun i y => Or.inr (Or.inr ⟨y.1, by have := y.2; omega⟩))).sI (S := fun i => i = 0 ∨ sTb i) (Or.inr (Or.inl rfl)) _ _).sI (S := fun i => i = 0 ∨ sTb i) (Or.inl rfl) _ _
  have hO2 : Out (fun i => i = 0 ∨ i = 82) W (sI (sI W 82 2 0) 0 17 0) := ((Out.rfl' hO.wf).sI (S := fun i => i = 0 ∨ i = 82) (Or.inr rfl) _ _).sI (S := fun i => i = 0 ∨ i = 82) (Or.inl rfl) _ _
  have e17 : gI (sI (sI W 82 2 0) 0 17 0) 0 17 = 0 := by rw [gI_sI, if_pos ⟨rfl, rfl⟩]
  have e1 : gI (sI (sI W 82 2 0) 0 17 0) 82 1 = nI k := by rw [gI_sI, if_neg (by omega), gI_sI, if_neg (by omega)]; exact (hO.i (fun y => by have := y.2; omega) 1).trans k2
  have e2 : gI (sI (sI W 82 2 0) 0 17 0) 82 2 = nI 0 := by rw [gI_sI, if_neg (by omega), gI_sI, if_pos ⟨rfl, rfl⟩]; rfl
  have eo : Own μ (sI (sI W 82 2 0) 0 17 0) := ⟨fun x hx => by rw [gI_sI, if_neg (by omega), gI_sI, if_neg (by omega)]; exact hO.i (fun y => by have := y.1; omega) x, fun x => by rw [gR_sI, gR_sI]; exact hO.r (fun y => by have := y.1; omega) x⟩
  generalize sI (sI W 82 2 0) 0 17 0 = Z at hO1 hO2 e17 e1 e2 eo ⊢
  refine ⟨⟨hO1.1, h.pv.out hO1 (fun i a b y => by rcases hpp with e | e <;> (subst e; rcases y with y | y | y <;> omega)), hF.out hO2 (fun i a b y => by rcases y with y | y <;> omega), ⟨k, r, k1, e1, e2, Nat.zero_le _, fun i (hi : i < 0) => absurd hi (Nat.not_lt_zero i), fun i (hi : i < 0) => absurd hi (Nat.not_lt_zero i)⟩, h.sl.out hO1 (fun i y => by rcases y with y | y | y <;> omega), Or.inl e17⟩, e17, hO1.mono (S' := sAct) (fun i y => ?_), eo⟩
  rcases y with y | y | y
  · exact Or.inl y
  · exact Or.inr (Or.inr (Or.inl y))
  · exact Or.inr (Or.inl ⟨y.1, by omega⟩)
abbrev R_X10_restore : Room := { frames := 8, cells := 0, slots := 0, locals := 161 }
abbrev RX_X10_restore : Room := { frames := 8, cells := 1, slots := 6, locals := 161 }

theorem c_restore (h : CrV μ p q d H S) {j : Nat} (hj : j < 2) (hS : S j = some e) (h01 : dF e 6 0 = 0 ∨ dF e 6 0 = 1) : CV Y_X10_restore R_X10_restore [.ref 0, .int (nI j)] μ (fun v V => v = some (.int (phD q e)) ∧ ActQ μ V p q e (0, H.2) S) := by
  have hw := h.wf
  have hv := h.fv
  have hq := h.pv
  have hs := h.sl j hj
  rw [hS] at hs
  have hC4 := hq.C4
  have hM4 := hq.M4
  have hT4 := hq.T4
  have hP4 := hv.P4
  have hU4 := hv.U4
  refine CV.ent yk_X10_restore (Nat.le_of_ble_eq_true rfl) ?_
  refine lf (a_aload_n dX10_restore_0 rfl) ?_
  refine lf (a_iload_n dX10_restore_1 rfl) ?_
  refine lf (a_inv (b2 := (0, 0)) (c_requireSlot (by repeat (first | with_reducible exact hw | with_reducible exact hwc | with_reducible assumption | with_reducible apply Wf.sI | with_reducible apply Wf.sL | with_reducible apply Wf.cpI | with_reducible apply Wf.cpL | with_reducible apply Wf.cp2 | with_reducible apply Wf.sIs | with_reducible apply Wf.sLs | with_reducible apply Wf.cpU | with_reducible apply Wf.fillI | with_reducible apply Wf.clU | with_reducible apply Wf.dnF | with_reducible apply Wf.gbW)) hv hq hj) rfl dX10_restore_2 yk_X10_requireSlot im_X10_requireSlot se_X10_requireSlot ml_X10_409 rfl (co_0 (by repeat (first | with_reducible exact hw | with_reducible exact hwc | with_reducible assumption | with_reducible apply Wf.sI | with_reducible apply Wf.sL | with_reducible apply Wf.cpI | with_reducible apply Wf.cpL | with_reducible apply Wf.cp2 | with_reducible apply Wf.sIs | with_reducible apply Wf.sLs | with_reducible apply Wf.cpU | with_reducible apply Wf.fillI | with_reducible apply Wf.clU | with_reducible apply Wf.dnF | with_reducible apply Wf.gbW))) (by decide) hc_X10 (by decide) (by decide) (Nat.le_of_ble_eq_true rfl)) ?_
  refine lf (a_aload_n dX10_restore_5 rfl) ?_
  refine lf (a_getR (cr_0_13 (by repeat (first | with_reducible exact hw | with_reducible exact hwc | with_reducible assumption | with_reducible apply Wf.sI | with_reducible apply Wf.sL | with_reducible apply Wf.cpI | with_reducible apply Wf.cpL | with_reducible apply Wf.cp2 | with_reducible apply Wf.sIs | with_reducible apply Wf.sLs | with_reducible apply Wf.cpU | with_reducible apply Wf.fillI | with_reducible apply Wf.clU | with_reducible apply Wf.dnF | with_reducible apply Wf.gbW))) dX10_restore_6 fs_X10_57 rfl (co_0 (by repeat (first | with_reducible exact hw | with_reducible exact hwc | with_reducible assumption | with_reducible apply Wf.sI | with_reducible apply Wf.sL | with_reducible apply Wf.cpI | with_reducible apply Wf.cpL | with_reducible apply Wf.cp2 | with_reducible apply Wf.sIs | with_reducible apply Wf.sLs | with_reducible apply Wf.cpU | with_reducible apply Wf.fillI | with_reducible apply Wf.clU | with_reducible apply Wf.dnF | with_reducible apply Wf.gbW)))) ?_
  refine lf (a_iload_n dX10_restore_9 rfl) ?_
  refine lf (a_zld dX10_restore_10 (ca_323 (by repeat (first | with_reducible exact hw | with_reducible exact hwc | with_reducible assumption | with_reducible apply Wf.sI | with_reducible apply Wf.sL | with_reducible apply Wf.cpI | with_reducible apply Wf.cpL | with_reducible apply Wf.cp2 | with_reducible apply Wf.sIs | with_reducible apply Wf.sLs | with_reducible apply Wf.cpU | with_reducible apply Wf.fillI | with_reducible apply Wf.clU | with_reducible apply Wf.dnF | with_reducible apply Wf.gbW))) (ixn hj (by decide))) ?_
  rw [hs.1]
  refine lfn (a_if_ne (tgt := 25) dX10_restore_11 (by decide)) (fun h11 => ?_) (fun h11 => absurd h11 (by decide))
  refine lf (a_aload_n dX10_restore_25 rfl) ?_
  refine lf (a_getR (cr_0_7 (by repeat (first | with_reducible exact hw | with_reducible exact hwc | with_reducible assumption | with_reducible apply Wf.sI | with_reducible apply Wf.sL | with_reducible apply Wf.cpI | with_reducible apply Wf.cpL | with_reducible apply Wf.cp2 | with_reducible apply Wf.sIs | with_reducible apply Wf.sLs | with_reducible apply Wf.cpU | with_reducible apply Wf.fillI | with_reducible apply Wf.clU | with_reducible apply Wf.dnF | with_reducible apply Wf.gbW))) dX10_restore_26 fs_X10_28 rfl (co_0 (by repeat (first | with_reducible exact hw | with_reducible exact hwc | with_reducible assumption | with_reducible apply Wf.sI | with_reducible apply Wf.sL | with_reducible apply Wf.cpI | with_reducible apply Wf.cpL | with_reducible apply Wf.cp2 | with_reducible apply Wf.sIs | with_reducible apply Wf.sLs | with_reducible apply Wf.cpU | with_reducible apply Wf.fillI | with_reducible apply Wf.clU | with_reducible apply Wf.dnF | with_reducible apply Wf.gbW)))) ?_
  refine lf (a_aload_n dX10_restore_29 rfl) ?_
  refine lf (a_getR (cr_0_12 (by repeat (first | with_reducible exact hw | with_reducible exact hwc | with_reducible assumption | with_reducible apply Wf.sI | with_reducible apply Wf.sL | with_reducible apply Wf.cpI | with_reducible apply Wf.cpL | with_reducible apply Wf.cp2 | with_reducible apply Wf.sIs | with_reducible apply Wf.sLs | with_reducible apply Wf.cpU | with_reducible apply Wf.fillI | with_reducible apply Wf.clU | with_reducible apply Wf.dnF | with_reducible apply Wf.gbW))) dX10_restore_30 fs_X10_53 rfl (co_0 (by repeat (first | with_reducible exact hw | with_reducible exact hwc | with_reducible assumption | with_reducible apply Wf.sI | with_reducible apply Wf.sL | with_reducible apply Wf.cpI | with_reducible apply Wf.cpL | with_reducible apply Wf.cp2 | with_reducible apply Wf.sIs | with_reducible apply Wf.sLs | with_reducible apply Wf.cpU | with_reducible apply Wf.fillI | with_reducible apply Wf.clU | with_reducible apply Wf.dnF | with_reducible apply Wf.gbW)))) ?_
  refine lf (a_iload_n dX10_restore_33 rfl) ?_
  refine lf (a_aald (j := j) dX10_restore_34 (ca_288 (by repeat (first | with_reducible exact hw | with_reducible exact hwc | with_reducible assumption | with_reducible apply Wf.sI | with_reducible apply Wf.sL | with_reducible apply Wf.cpI | with_reducible apply Wf.cpL | with_reducible apply Wf.cp2 | with_reducible apply Wf.sIs | with_reducible apply Wf.sLs | with_reducible apply Wf.cpU | with_reducible apply Wf.fillI | with_reducible apply Wf.clU | with_reducible apply Wf.dnF | with_reducible apply Wf.gbW))) (by decide) (ixn (by omega) (by decide)) (slot_r (by repeat (first | with_reducible exact hw | with_reducible exact hwc | with_reducible assumption | with_reducible apply Wf.sI | with_reducible apply Wf.sL | with_reducible apply Wf.cpI | with_reducible apply Wf.cpL | with_reducible apply Wf.cp2 | with_reducible apply Wf.sIs | with_reducible apply Wf.sLs | with_reducible apply Wf.cpU | with_reducible apply Wf.fillI | with_reducible apply Wf.clU | with_reducible apply Wf.dnF | with_reducible apply Wf.gbW)) (by omega))) ?_
  obtain ⟨v_, W35, k35, rfl, hF, hO⟩ := (v_X1_copy hw fl_now hs.2 (by omega) h01)
  have hwc := hO.wf
  have hR := restore_fin h hO hF
  refine lf (a_inv (b2 := (0, 0)) k35 rfl dX10_restore_35 yk_X1_copy im_X1_copy se_X1_copy ml_X10_123 rfl (fl_o (by repeat (first | with_reducible exact hw | with_reducible exact hwc | with_reducible assumption | with_reducible apply Wf.sI | with_reducible apply Wf.sL | with_reducible apply Wf.cpI | with_reducible apply Wf.cpL | with_reducible apply Wf.cp2 | with_reducible apply Wf.sIs | with_reducible apply Wf.sLs | with_reducible apply Wf.cpU | with_reducible apply Wf.fillI | with_reducible apply Wf.clU | with_reducible apply Wf.dnF | with_reducible apply Wf.gbW)) fl_now) (by decide) hc_X1 (by decide) (by decide) (Nat.le_of_ble_eq_true rfl)) ?_
  refine lf (a_aload_n dX10_restore_38 rfl) ?_
  refine lf (a_inv (b2 := (0, 0)) (c_forgetPast hwc) rfl dX10_restore_39 yk_X10_forgetPast im_X10_forgetPast se_X10_forgetPast ml_X10_126 rfl (co_0 (by repeat (first | with_reducible exact hw | with_reducible exact hwc | with_reducible assumption | with_reducible apply Wf.sI | with_reducible apply Wf.sL | with_reducible apply Wf.cpI | with_reducible apply Wf.cpL | with_reducible apply Wf.cp2 | with_reducible apply Wf.sIs | with_reducible apply Wf.sLs | with_reducible apply Wf.cpU | with_reducible apply Wf.fillI | with_reducible apply Wf.clU | with_reducible apply Wf.dnF | with_reducible apply Wf.gbW))) (by decide) hc_X10 (by decide) (by decide) (Nat.le_of_ble_eq_true rfl)) ?_
  refine lf (a_aload_n dX10_restore_42 rfl) ?_
  refine lf (a_getR (cr_0_7 (by repeat (first | with_reducible exact hw | with_reducible exact hwc | with_reducible assumption | with_reducible apply Wf.sI | with_reducible apply Wf.sL | with_reducible apply Wf.cpI | with_reducible apply Wf.cpL | with_reducible apply Wf.cp2 | with_reducible apply Wf.sIs | with_reducible apply Wf.sLs | with_reducible apply Wf.cpU | with_reducible apply Wf.fillI | with_reducible apply Wf.clU | with_reducible apply Wf.dnF | with_reducible apply Wf.gbW))) dX10_restore_43 fs_X10_28 rfl (co_0 (by repeat (first | with_reducible exact hw | with_reducible exact hwc | with_reducible assumption | with_reducible apply Wf.sI | with_reducible apply Wf.sL | with_reducible apply Wf.cpI | with_reducible apply Wf.cpL | with_reducible apply Wf.cp2 | with_reducible apply Wf.sIs | with_reducible apply Wf.sLs | with_reducible apply Wf.cpU | with_reducible apply Wf.fillI | with_reducible apply Wf.clU | with_reducible apply Wf.dnF | with_reducible apply Wf.gbW)))) ?_
  refine lf (a_inv (b2 := (0, 0)) (v_X1_phase hR.1.wf hR.1.fv hR.1.pv) rfl dX10_restore_46 yk_X1_phase im_X1_phase se_X1_phase ml_X10_135 rfl (fl_o (by repeat (first | with_reducible exact hw | with_reducible exact hwc | with_reducible assumption | with_reducible apply Wf.sI | with_reducible apply Wf.sL | with_reducible apply Wf.cpI | with_reducible apply Wf.cpL | with_reducible apply Wf.cp2 | with_reducible apply Wf.sIs | with_reducible apply Wf.sLs | with_reducible apply Wf.cpU | with_reducible apply Wf.fillI | with_reducible apply Wf.clU | with_reducible apply Wf.dnF | with_reducible apply Wf.gbW)) fl_now) (by decide) hc_X1 (by decide) (by decide) (Nat.le_of_ble_eq_true rfl)) ?_
  refine ⟨_, _, (a_ireturn dX10_restore_49 rfl rfl), ?_⟩
  exact ⟨_, rfl, rfl, hR⟩

theorem cx_restore (hw : Wf μ) (hv : FV μ 24 p d) (hq : PV μ p q) {x : Int32} (h : ixO x 2 = none) : Ct Y_X10_restore RX_X10_restore [.ref 0, .int x] μ (.inr IAE) μ := by
  have hC4 := hq.C4
  have hM4 := hq.M4
  have hT4 := hq.T4
  have hP4 := hv.P4
  have hU4 := hv.U4
  refine Ct.ent yk_X10_restore (Nat.le_of_ble_eq_true rfl) ?_
  refine a_aload_n dX10_restore_0 rfl ?_
  refine a_iload_n dX10_restore_1 rfl ?_
  exact a_out rfl rfl (a_invX (cx_requireSlot hw hv hq h) rfl dX10_restore_2 yk_X10_requireSlot im_X10_requireSlot se_X10_requireSlot ml_X10_409 rfl (co_0 hw) (by decide) hc_X10 (by decide) (by decide) (Nat.le_of_ble_eq_true rfl) rfl)

theorem cy_restore (hw : Wf μ) (hv : FV μ 24 p d) (hq : PV μ p q) {j : Nat} (hj : j < 2) (h : gI μ 323 j = 0) : Ct Y_X10_restore RX_X10_restore [.ref 0, .int (nI j)] μ (.inr NSE) μ := by
  have hC4 := hq.C4
  have hM4 := hq.M4
  have hT4 := hq.T4
  have hP4 := hv.P4
  have hU4 := hv.U4
  refine Ct.ent yk_X10_restore (Nat.le_of_ble_eq_true rfl) ?_
  refine a_aload_n dX10_restore_0 rfl ?_
  refine a_iload_n dX10_restore_1 rfl ?_
  refine a_inv (b2 := (1, 6)) (c_requireSlot hw hv hq hj) rfl dX10_restore_2 yk_X10_requireSlot im_X10_requireSlot se_X10_requireSlot ml_X10_409 rfl (co_0 hw) (by decide) hc_X10 (by decide) (by decide) (Nat.le_of_ble_eq_true rfl) ?_
  refine a_aload_n dX10_restore_5 rfl ?_
  refine a_getR (cr_0_13 hw) dX10_restore_6 fs_X10_57 rfl (co_0 hw) ?_
  refine a_iload_n dX10_restore_9 rfl ?_
  refine a_zld dX10_restore_10 (ca_323 hw) (ixn hj (by decide)) ?_
  rw [h]
  refine a_if_ne (tgt := 25) dX10_restore_11 (by decide) (fun h11 => absurd h11 (fun z => z rfl)) (fun h11 => ?_)
  exact a_throwNW (n := 25) (tx := "the slot is empty") (by decide) (by decide) xw_NSE rfl rfl dX10_restore_14 dX10_restore_17 dX10_restore_18 dX10_restore_21 dX10_restore_24 (by decide) (by decide) (by decide) (by decide) (by decide)
end UNDO
