section LOAD
variable {μ W V Z : Wd} {p p0 f g : Nat} {q : PDt} {d d2 e : FDt} {H : Hst} {S : Nat → Option FDt}
theorem SvOK.sm (h : SvOK μ q d) (e : ∀ i k, 334 ≤ i → i ≤ 337 → gI W i k = gI μ i k) : SvOK W q d := by
  obtain ⟨G, rs, n, h1, ⟨h2, h3, h4, h5⟩, h6, h7, h8⟩ := h
  exact ⟨G, rs, n, h1, ⟨fun i hi => by rw [e 335 i (by decide) (by decide)]; exact h2 i hi, fun m hm => by rw [e 336 m (by decide) (by decide), e 337 m (by decide) (by decide)]; exact h3 m hm, by rw [e 334 _ (by decide) (by decide)]; exact h4, by rw [e 334 _ (by decide) (by decide)]; exact h5⟩, by rw [e 334 _ (by decide) (by decide)]; exact h6, by rw [e 334 _ (by decide) (by decide)]; exact h7, by rw [e 334 _ (by decide) (by decide)]; exact h8⟩
theorem CrV.sm (h : CrV μ p q d H S) (hp0 : Pl p0) (hne : p0 ≠ p) (hw : Wf W) (hm : ∀ i, i < 339 → ¬ sP p0 i → Sm μ W i) : CrV W p q d H S := by
  have hpp := h.pv.pl
  have hk : ∀ i, i < 339 → i ≠ 79 → i ≠ 80 → (i < p0 ∨ p0 + 20 < i) → (i < 41 ∨ 57 < i) → Sm μ W i := fun i h1 h2 h3 h4 h5 => hm i h1 (fun y => by rcases y with y | y | y | y <;> omega)
  obtain ⟨k, r, k1, k2, k3, k4, k6, k5⟩ := h.hs
  have s82 : ∀ x, gI W 82 x = gI μ 82 x := fun x => (hk 82 (by omega) (by omega) (by omega) (by rcases hp0 with e | e <;> omega) (by omega) x).1
  have s323 : ∀ x, gI W 323 x = gI μ 323 x := fun x => (hk 323 (by omega) (by omega) (by omega) (by rcases hp0 with e | e <;> omega) (by omega) x).1
  have s0 : ∀ x, gI W 0 x = gI μ 0 x := fun x => (hk 0 (by omega) (by omega) (by omega) (by rcases hp0 with e | e <;> omega) (by omega) x).1
  refine ⟨hw, h.pv.fr fun i a b => hk i (by rcases hpp with e | e <;> omega) (by rcases hpp with e | e <;> omega) (by rcases hpp with e | e <;> omega) (by rcases hpp with e | e <;> rcases hp0 with e2 | e2 <;> omega) (by rcases hpp with e | e <;> omega), h.fv.fr fun i a b => hk i (by omega) (by omega) (by omega) (by rcases hp0 with e | e <;> omega) (by omega), ⟨k, r, k1, (s82 1).trans k2, (s82 2).trans k3, k4, k6, fun i hi => (k5 i hi).fr fun j a b => ?_⟩, fun j hj => ?_, ?_⟩
  · have := (k6 i hi).1
    exact hk j (by omega) (by omega) (by omega) (by rcases hp0 with e | e <;> omega) (by omega)
  · have h1 := h.sl j hj
    cases hS : S j with
    | none => rw [hS] at h1; exact (s323 j).trans h1
    | some x =>
      rw [hS] at h1
      exact ⟨(s323 j).trans h1.1, h1.2.fr fun i a b => hk i (by omega) (by omega) (by omega) (by rcases hp0 with e | e <;> omega) (by omega)⟩
  · have hs := h.sv
    unfold SvA at hs ⊢
    rw [s0]
    exact hs.imp (fun z => z) (fun z => ⟨z.1, z.2.sm fun i k a b => (hk i (by omega) (by omega) (by omega) (by rcases hp0 with e | e <;> omega) (by omega) k).1⟩)
theorem CrV.ex (h : CrV μ p q d H S) (hp0 : Pl p0) (hne : p0 ≠ p) (he : Ex (sP p0) μ W) : CrV W p q d H S := h.sm hp0 hne he.1 fun i hi hs => he.2.2.2.2 i (h.wf.lt hi) hs
/-- the class's own ints changed, not that of the service -/
theorem CrV.o0 (h : CrV μ p q d H S) (ho : Out (fun i => i = 0) μ W) (h17 : gI W 0 17 = gI μ 0 17) : CrV W p q d H S := by
  have hpp := h.pv.pl
  exact ⟨ho.1, h.pv.out ho (fun i a b y => by rcases hpp with e | e <;> omega), h.fv.out ho (fun i a b y => by omega), h.hs.out ho (fun i y => by omega), h.sl.out ho (fun i y => by omega), h.sv.out ho (fun i a b y => by omega) h17⟩
/-- what a text with the error x leaves -/
def LdE (μ V : Wd) (p : Nat) (q : PDt) (d : FDt) (H : Hst) (S : Nat → Option FDt) (p0 : Nat) (x : Nat × Nat) : Prop := CrV V p q d H S ∧ gI V 0 1 = 0 ∧ gI V 0 4 = nI x.1 ∧ gI V 0 5 = nI x.2 ∧ (∀ k, k ≠ 1 → k ≠ 4 → k ≠ 5 → gI V 0 k = gI μ 0 k) ∧ (∀ k, gR V 0 k = gR μ 0 k) ∧ Ex (fun i => i = 0 ∨ sP p0 i) μ V ∧ wn V ≤ wn μ + 48 ∧ K3 (wn V)
theorem lde_fin {x : Nat × Nat} (h : CrV μ p q d H S) (hp0 : Pl p0) (hne : p0 ≠ p) (he : Ex (sP p0) μ W) (hn : wn W ≤ wn μ + 48) (hk : K3 (wn W)) (hZ : Z = sI (sI (sI W 0 1 0) 0 4 (nI x.1)) 0 5 (nI x.2)) : LdE μ Z p q d H S p0 x := by
  have hC := h.ex hp0 hne he
  have hO : Out (fun i => i = 0) W Z := by
    rw [hZ]
    exact (((Out.rfl' he.1).sI (S := fun i => i = 0) rfl _ _).sI (S := fun i => i = 0) rfl _ _).sI (S := fun i => i = 0) rfl _ _
  have e0 : ∀ k, gI Z 0 k = if k = 5 then nI x.2 else if k = 4 then nI x.1 else if k = 1 then 0 else gI W 0 k := fun k => by
    have t : ∀ (X : Wd) (j : Nat) (v : Int32), gI (sI X 0 j v) 0 k = if k = j then v else gI X 0 k := fun X j v => by
      rw [gI_sI]
      by_cases z : k = j
      · rw [if_pos z, if_pos ⟨rfl, z⟩]
      · rw [if_neg z, if_neg (fun y => z y.2)]
    rw [hZ, t, t, t]
  have er : ∀ k, gR Z 0 k = gR W 0 k := fun k => by rw [hZ, gR_sI, gR_sI, gR_sI]
  have en : wn Z = wn W := by rw [hZ]; rfl
  clear hZ
  have n0 : ¬ sP p0 0 := fun y => by rcases hp0 with e | e <;> (subst e; rcases y with y | y | y | y <;> omega)
  have hw0 : 0 < wn μ := h.wf.lt (by decide)
  refine ⟨hC.o0 hO (by rw [e0, if_neg (by decide), if_neg (by decide), if_neg (by decide)]), by rw [e0, if_neg (by decide), if_neg (by decide), if_pos rfl], by rw [e0, if_neg (by decide), if_pos rfl], by rw [e0, if_pos rfl], fun k g1 g2 g3 => by rw [e0, if_neg g3, if_neg g2, if_neg g1]; exact he.i hw0 n0 k, fun k => (er k).trans (he.r hw0 n0 k), (he.mono (S' := fun i => i = 0 ∨ sP p0 i) (fun i _ y => Or.inr y)).trans ((Ex.of hO).mono (fun i _ y => Or.inl y)), by rw [en]; exact hn, by rw [en]; exact hk⟩
abbrev R48_X10_load : Room := { frames := 14, cells := 48, slots := 256, locals := 352 }
abbrev RX48_X10_load : Room := { frames := 14, cells := 49, slots := 262, locals := 352 }
abbrev R_X10_load : Room := { frames := 14, cells := 0, slots := 0, locals := 352 }
abbrev RX_X10_load : Room := { frames := 14, cells := 1, slots := 6, locals := 352 }

theorem cr_load (h : CrV μ p q d H S) (hid : gR μ 0 9 = some p0) (hp0 : Pl p0) (hne : p0 ≠ p) {n L : Nat} (hl : gI μ 0 1 = nI L) (hL : L ≤ 900) (hn : n ≤ L) {B : Nat → Nat} (hB : ∀ k, k < n → B k < 256 ∧ gI μ 1 k = sby (B k)) (hk3 : K3 (wn μ)) (hmx : wn μ + 51 < 1000000) {x : Nat × Nat} (he : rdS B n (n + 1) 0 (rz0 (gI μ 41 2) (gL μ 57)) = .inl x) : CO Y_X10_load RX48_X10_load [.ref 0, .int (nI n)] μ (fun o V => o = .inr ISE ∧ LdE μ V p q d H S p0 x) := by
  have hw := h.wf
  have hv := h.fv
  have hq := h.pv
  have hC4 := hq.C4
  have hM4 := hq.M4
  have hT4 := hq.T4
  have hP4 := hv.P4
  have hU4 := hv.U4
  refine CO.ent yk_X10_load (Nat.le_of_ble_eq_true rfl) ?_
  refine lf (a_iload_n dX10_load_0 rfl) ?_
  refine lf2 (a_if_lt (tgt := 12) dX10_load_1 (by decide)) (fun h1 => absurd h1 (nI_pos (by omega))) (fun h1 => ?_)
  refine lf (a_iload_n dX10_load_4 rfl) ?_
  refine lf (a_aload_n dX10_load_5 rfl) ?_
  refine lf (a_getI dX10_load_6 fs_X10_82 rfl (co_0 (by repeat (first | with_reducible exact hw | with_reducible exact hwc | with_reducible assumption | with_reducible apply Wf.sI | with_reducible apply Wf.sL | with_reducible apply Wf.cpI | with_reducible apply Wf.cpL | with_reducible apply Wf.cp2 | with_reducible apply Wf.sIs | with_reducible apply Wf.sLs | with_reducible apply Wf.cpU | with_reducible apply Wf.fillI | with_reducible apply Wf.clU | with_reducible apply Wf.dnF | with_reducible apply Wf.gbW)))) ?_
  rw [hl]
  refine lf2 (a_icmp_le (tgt := 22) dX10_load_9 (by decide)) (fun h9 => ?_) (fun h9 => absurd h9 (fun z => z (nI_le hn (by omega))))
  refine lf (a_aload_n dX10_load_22 rfl) ?_
  refine lf (a_getR (cr_0_10 (by repeat (first | with_reducible exact hw | with_reducible exact hwc | with_reducible assumption | with_reducible apply Wf.sI | with_reducible apply Wf.sL | with_reducible apply Wf.cpI | with_reducible apply Wf.cpL | with_reducible apply Wf.cp2 | with_reducible apply Wf.sIs | with_reducible apply Wf.sLs | with_reducible apply Wf.cpU | with_reducible apply Wf.fillI | with_reducible apply Wf.clU | with_reducible apply Wf.dnF | with_reducible apply Wf.gbW))) dX10_load_23 fs_X10_42 rfl (co_0 (by repeat (first | with_reducible exact hw | with_reducible exact hwc | with_reducible assumption | with_reducible apply Wf.sI | with_reducible apply Wf.sL | with_reducible apply Wf.cpI | with_reducible apply Wf.cpL | with_reducible apply Wf.cp2 | with_reducible apply Wf.sIs | with_reducible apply Wf.sLs | with_reducible apply Wf.cpU | with_reducible apply Wf.fillI | with_reducible apply Wf.clU | with_reducible apply Wf.dnF | with_reducible apply Wf.gbW)))) ?_
  refine lf (a_aload_n dX10_load_26 rfl) ?_
  refine lf (a_getR (cr_0_0 (by repeat (first | with_reducible exact hw | with_reducible exact hwc | with_reducible assumption | with_reducible apply Wf.sI | with_reducible apply Wf.sL | with_reducible apply Wf.cpI | with_reducible apply Wf.cpL | with_reducible apply Wf.cp2 | with_reducible apply Wf.sIs | with_reducible apply Wf.sLs | with_reducible apply Wf.cpU | with_reducible apply Wf.fillI | with_reducible apply Wf.clU | with_reducible apply Wf.dnF | with_reducible apply Wf.gbW))) dX10_load_27 fs_X10_9 rfl (co_0 (by repeat (first | with_reducible exact hw | with_reducible exact hwc | with_reducible assumption | with_reducible apply Wf.sI | with_reducible apply Wf.sL | with_reducible apply Wf.cpI | with_reducible apply Wf.cpL | with_reducible apply Wf.cp2 | with_reducible apply Wf.sIs | with_reducible apply Wf.sLs | with_reducible apply Wf.cpU | with_reducible apply Wf.fillI | with_reducible apply Wf.clU | with_reducible apply Wf.dnF | with_reducible apply Wf.gbW)))) ?_
  refine lf (a_iload_n dX10_load_30 rfl) ?_
  refine lf (a_aload_n dX10_load_31 rfl) ?_
  refine lf (a_getR (cr_0_8 (by repeat (first | with_reducible exact hw | with_reducible exact hwc | with_reducible assumption | with_reducible apply Wf.sI | with_reducible apply Wf.sL | with_reducible apply Wf.cpI | with_reducible apply Wf.cpL | with_reducible apply Wf.cp2 | with_reducible apply Wf.sIs | with_reducible apply Wf.sLs | with_reducible apply Wf.cpU | with_reducible apply Wf.fillI | with_reducible apply Wf.clU | with_reducible apply Wf.dnF | with_reducible apply Wf.gbW))) dX10_load_32 fs_X10_32 rfl (co_0 (by repeat (first | with_reducible exact hw | with_reducible exact hwc | with_reducible assumption | with_reducible apply Wf.sI | with_reducible apply Wf.sL | with_reducible apply Wf.cpI | with_reducible apply Wf.cpL | with_reducible apply Wf.cp2 | with_reducible apply Wf.sIs | with_reducible apply Wf.sLs | with_reducible apply Wf.cpU | with_reducible apply Wf.fillI | with_reducible apply Wf.clU | with_reducible apply Wf.dnF | with_reducible apply Wf.gbW)))) ?_
  refine lf (a_aload_n dX10_load_35 rfl) ?_
  refine lf (a_getR hid dX10_load_36 fs_X10_35 rfl (co_0 (by repeat (first | with_reducible exact hw | with_reducible exact hwc | with_reducible assumption | with_reducible apply Wf.sI | with_reducible apply Wf.sL | with_reducible apply Wf.cpI | with_reducible apply Wf.cpL | with_reducible apply Wf.cp2 | with_reducible apply Wf.sIs | with_reducible apply Wf.sLs | with_reducible apply Wf.cpU | with_reducible apply Wf.fillI | with_reducible apply Wf.clU | with_reducible apply Wf.dnF | with_reducible apply Wf.gbW)))) ?_
  obtain ⟨v_, W39, k39, hrd⟩ := (t_X2_read hw hp0 (show n ≤ 900 by omega) hB hk3 hmx)
  obtain ⟨hE, hN, hK, hM⟩ := hrd
  rw [he] at hM
  obtain ⟨rfl, r1, r2⟩ := hM
  have hwc := hE.1
  refine lf (a_inv (b2 := (1, 6)) k39 rfl dX10_load_39 yk_X2_read im_X2_read se_X2_read ml_X10_101 rfl (co_79 (by repeat (first | with_reducible exact hw | with_reducible exact hwc | with_reducible assumption | with_reducible apply Wf.sI | with_reducible apply Wf.sL | with_reducible apply Wf.cpI | with_reducible apply Wf.cpL | with_reducible apply Wf.cp2 | with_reducible apply Wf.sIs | with_reducible apply Wf.sLs | with_reducible apply Wf.cpU | with_reducible apply Wf.fillI | with_reducible apply Wf.clU | with_reducible apply Wf.dnF | with_reducible apply Wf.gbW))) (by decide) hc_X2 (by decide) (by decide) (Nat.le_of_ble_eq_true rfl)) ?_
  refine lf (a_istore_n dX10_load_42 (by decide)) ?_
  refine lf (a_aload_n dX10_load_43 rfl) ?_
  refine lf (a_iconst (0 : Int32) dX10_load_44 (by decide)) ?_
  refine lf (a_putI dX10_load_45 fs_X10_82 rfl rfl rfl (co_0 (by repeat (first | with_reducible exact hw | with_reducible exact hwc | with_reducible assumption | with_reducible apply Wf.sI | with_reducible apply Wf.sL | with_reducible apply Wf.cpI | with_reducible apply Wf.cpL | with_reducible apply Wf.cp2 | with_reducible apply Wf.sIs | with_reducible apply Wf.sLs | with_reducible apply Wf.cpU | with_reducible apply Wf.fillI | with_reducible apply Wf.clU | with_reducible apply Wf.dnF | with_reducible apply Wf.gbW)))) ?_
  refine lf (a_aload_n dX10_load_48 rfl) ?_
  refine lf (a_aload_n dX10_load_49 rfl) ?_
  refine lf (a_getR (cr_0_10 (by repeat (first | with_reducible exact hw | with_reducible exact hwc | with_reducible assumption | with_reducible apply Wf.sI | with_reducible apply Wf.sL | with_reducible apply Wf.cpI | with_reducible apply Wf.cpL | with_reducible apply Wf.cp2 | with_reducible apply Wf.sIs | with_reducible apply Wf.sLs | with_reducible apply Wf.cpU | with_reducible apply Wf.fillI | with_reducible apply Wf.clU | with_reducible apply Wf.dnF | with_reducible apply Wf.gbW))) dX10_load_50 fs_X10_42 rfl (co_0 (by repeat (first | with_reducible exact hw | with_reducible exact hwc | with_reducible assumption | with_reducible apply Wf.sI | with_reducible apply Wf.sL | with_reducible apply Wf.cpI | with_reducible apply Wf.cpL | with_reducible apply Wf.cp2 | with_reducible apply Wf.sIs | with_reducible apply Wf.sLs | with_reducible apply Wf.cpU | with_reducible apply Wf.fillI | with_reducible apply Wf.clU | with_reducible apply Wf.dnF | with_reducible apply Wf.gbW)))) ?_
  refine lf (a_getI dX10_load_53 fs_X10_105 rfl (co_79 (by repeat (first | with_reducible exact hw | with_reducible exact hwc | with_reducible assumption | with_reducible apply Wf.sI | with_reducible apply Wf.sL | with_reducible apply Wf.cpI | with_reducible apply Wf.cpL | with_reducible apply Wf.cp2 | with_reducible apply Wf.sIs | with_reducible apply Wf.sLs | with_reducible apply Wf.cpU | with_reducible apply Wf.fillI | with_reducible apply Wf.clU | with_reducible apply Wf.dnF | with_reducible apply Wf.gbW)))) ?_
  rw [gI_sI, if_neg (by omega)]
  rw [r1]
  refine lf (a_putI dX10_load_56 fs_X10_108 rfl rfl rfl (co_0 (by repeat (first | with_reducible exact hw | with_reducible exact hwc | with_reducible assumption | with_reducible apply Wf.sI | with_reducible apply Wf.sL | with_reducible apply Wf.cpI | with_reducible apply Wf.cpL | with_reducible apply Wf.cp2 | with_reducible apply Wf.sIs | with_reducible apply Wf.sLs | with_reducible apply Wf.cpU | with_reducible apply Wf.fillI | with_reducible apply Wf.clU | with_reducible apply Wf.dnF | with_reducible apply Wf.gbW)))) ?_
  refine lf (a_aload_n dX10_load_59 rfl) ?_
  refine lf (a_aload_n dX10_load_60 rfl) ?_
  refine lf (a_getR (cr_0_10 (by repeat (first | with_reducible exact hw | with_reducible exact hwc | with_reducible assumption | with_reducible apply Wf.sI | with_reducible apply Wf.sL | with_reducible apply Wf.cpI | with_reducible apply Wf.cpL | with_reducible apply Wf.cp2 | with_reducible apply Wf.sIs | with_reducible apply Wf.sLs | with_reducible apply Wf.cpU | with_reducible apply Wf.fillI | with_reducible apply Wf.clU | with_reducible apply Wf.dnF | with_reducible apply Wf.gbW))) dX10_load_61 fs_X10_42 rfl (co_0 (by repeat (first | with_reducible exact hw | with_reducible exact hwc | with_reducible assumption | with_reducible apply Wf.sI | with_reducible apply Wf.sL | with_reducible apply Wf.cpI | with_reducible apply Wf.cpL | with_reducible apply Wf.cp2 | with_reducible apply Wf.sIs | with_reducible apply Wf.sLs | with_reducible apply Wf.cpU | with_reducible apply Wf.fillI | with_reducible apply Wf.clU | with_reducible apply Wf.dnF | with_reducible apply Wf.gbW)))) ?_
  refine lf (a_getI dX10_load_64 fs_X10_111 rfl (co_79 (by repeat (first | with_reducible exact hw | with_reducible exact hwc | with_reducible assumption | with_reducible apply Wf.sI | with_reducible apply Wf.sL | with_reducible apply Wf.cpI | with_reducible apply Wf.cpL | with_reducible apply Wf.cp2 | with_reducible apply Wf.sIs | with_reducible apply Wf.sLs | with_reducible apply Wf.cpU | with_reducible apply Wf.fillI | with_reducible apply Wf.clU | with_reducible apply Wf.dnF | with_reducible apply Wf.gbW)))) ?_
  rw [gI_sI, if_neg (by omega)]
  rw [gI_sI, if_neg (by omega)]
  rw [r2]
  refine lf (a_putI dX10_load_67 fs_X10_16 rfl rfl rfl (co_0 (by repeat (first | with_reducible exact hw | with_reducible exact hwc | with_reducible assumption | with_reducible apply Wf.sI | with_reducible apply Wf.sL | with_reducible apply Wf.cpI | with_reducible apply Wf.cpL | with_reducible apply Wf.cp2 | with_reducible apply Wf.sIs | with_reducible apply Wf.sLs | with_reducible apply Wf.cpU | with_reducible apply Wf.fillI | with_reducible apply Wf.clU | with_reducible apply Wf.dnF | with_reducible apply Wf.gbW)))) ?_
  refine lf (a_iload_n dX10_load_70 rfl) ?_
  refine lfn (a_if_ne (tgt := 84) dX10_load_71 (by decide)) (fun h71 => absurd h71 (fun z => z rfl)) (fun h71 => ?_)
  exact ⟨_, _, a_throwS (n := 17) (tx := "the text has an error") (by decide) (by decide) xw_ISE rfl rfl dX10_load_74 dX10_load_77 dX10_load_78 dX10_load_80 dX10_load_83 (by decide) (by decide) (by decide) (by decide) (by decide), rfl, lde_fin h hp0 hne hE hN hK rfl⟩
theorem cx_load (hw : Wf μ) {L : Nat} (hl : gI μ 0 1 = nI L) (hL : L ≤ 900) {x : Int32} (h : ixO x (L + 1) = none) : Ct Y_X10_load RX_X10_load [.ref 0, .int x] μ (.inr IAE) μ := by
  refine Ct.ent yk_X10_load (Nat.le_of_ble_eq_true rfl) ?_
  rcases ixO_none h with h0 | ⟨j, g1, g2, rfl⟩
  · refine a_iload_n dX10_load_0 rfl ?_
    refine a_if_lt (tgt := 12) dX10_load_1 (by decide) (fun h1 => ?_) (fun h1 => absurd h1 (fun z => z h0))
    exact a_throwS (n := 3) (tx := "no such length of the buffer") (by decide) (by decide) xw_IAE rfl rfl dX10_load_12 dX10_load_15 dX10_load_16 dX10_load_18 dX10_load_21 (by decide) (by decide) (by decide) (by decide) (by decide)
  · refine a_iload_n dX10_load_0 rfl ?_
    refine a_if_lt (tgt := 12) dX10_load_1 (by decide) (fun h1 => absurd h1 (nI_pos g2)) (fun h1 => ?_)
    refine a_iload_n dX10_load_4 rfl ?_
    refine a_aload_n dX10_load_5 rfl ?_
    refine a_getI dX10_load_6 fs_X10_82 rfl (co_0 hw) ?_
    rw [hl]
    refine a_icmp_le (tgt := 22) dX10_load_9 (by decide) (fun h9 => absurd h9 (nI_ge (show L < j by omega) (by omega))) (fun h9 => ?_)
    exact a_throwS (n := 3) (tx := "no such length of the buffer") (by decide) (by decide) xw_IAE rfl rfl dX10_load_12 dX10_load_15 dX10_load_16 dX10_load_18 dX10_load_21 (by decide) (by decide) (by decide) (by decide) (by decide)
end LOAD
