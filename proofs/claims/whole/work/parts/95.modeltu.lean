section MODELTU
variable {μ W V Z : Wd} {q : PDt} {d d2 d3 : FDt} {k : Nat}
theorem RxV.deq {r : Nat → Int32} (h : RxV r q d3) (e : DEq d2 d3) (h0 : dF d2 6 0 = 0) : RxV r q d2 := by
  obtain ⟨g0, ⟨g1, g2, g3, g4, g5, g6, g7⟩, g8, g9⟩ := h
  have h3 : dF d3 6 0 = 0 := (e.2.2.2.1 6 0 (by omega)).symm.trans h0
  refine ⟨g0, ⟨g1.trans (e.2.2.2.1 6 0 (by omega)).symm, g2.trans (e.2.2.2.1 6 1 (by omega)).symm, by rw [e.1]; exact g3, by rw [e.2.1]; exact g4, fun i hi => ?_, fun i hi => ?_, fun t k ht hk => (g7 t k ht hk).trans (e.2.2.2.1 _ _ (by omega)).symm⟩, fun i hi => ?_, fun m hm => ?_⟩
  · rw [e.1] at hi
    rw [e.2.2.2.1 0 i (by omega), e.2.2.2.1 1 i (by omega), e.2.2.2.1 2 i (by omega)]
    exact g5 i hi
  · have hi3 := hi
    rw [e.2.1] at hi3
    rw [e.2.2.2.2 3 i (by decide) (by decide) hi, e.2.2.2.2 4 i (by decide) (by decide) hi, e.2.2.2.2 5 i (by decide) (by decide) hi]
    exact g6 i hi3
  · rw [if_pos h0, g8 i (by rw [← e.1]; exact hi), if_pos h3]
  · rw [if_pos h0, g9 m hm, if_pos h3]
/-- rows of passengers and of what was eaten stay -/
def ArQ (μ V : Wd) : Prop := Out s344 μ V ∧ ∀ y, (5 ≤ y ∧ y < 165) ∨ 279 ≤ y → gI V 344 y = gI μ 344 y
theorem ArQ.trans (h1 : ArQ μ W) (h2 : ArQ W V) : ArQ μ V := ⟨h1.1.trans h2.1, fun y hy => (h2.2 y hy).trans (h1.2 y hy)⟩
theorem ArQ.so (h : SoQ μ V) : ArQ μ V := ⟨h.1, fun y hy => h.2 y (by omega)⟩
theorem MaQ.ar {H : Hst} (hR : RmQ μ W q d H) (hm : MdV V q d3) (hA : ArQ W V) (h0 : dF d 6 0 = 0) (hP : dP d3 = dP d) (hAc : dA d3 = dA d) (h1 : dF d3 6 0 = 0) (e : DEq d2 d3) : MaQ μ V q d2 H := by
  have hr := hR.2.1.rx
  have hf := hR.2.1.fit
  have hM := hf.1.2.1
  have hPP := hf.1.2.2.2.1
  have h2 : dF d2 6 0 = 0 := (e.2.2.2.1 6 0 (by omega)).trans h1
  have hrx : RxV (gI V 344) q d3 := by
    refine ⟨hm.1, hm.2.2.2, fun i hi => ?_, fun m hmm => ?_⟩
    · rw [if_pos h1, hA.2 _ (by omega)]
      exact hr.got h0 (by omega)
    · rw [if_pos h1, hA.2 _ (by omega), hr.2.2.2 m hmm, if_pos h0]
  exact MaQ.fin hR hA.1 (hm.2.1.deq e.symm) (hrx.deq e h2) (e.2.2.1.trans hAc)
theorem shf_Md (hv : MdV μ q d) (hw : Wf μ) (hU : 0 < dU d) (hZ : Z = cpX (sI μ 344 4 (nI (dU d - 1))) 344 264 344 261 (3 * (dU d - 1))) : MdV Z q (shfD 1 d) ∧ ArQ μ Z := by
  have hU4 := hv.U4
  have hP4 := hv.P4
  have hO : Out s344 μ Z := by
    rw [hZ]
    exact ((Out.rfl' hw).sI (S := s344) rfl _ _).cpXo (S := s344) rfl
  have e : ∀ x, gI Z 344 x = if 261 ≤ x ∧ x < 261 + 3 * (dU d - 1) then gI μ 344 (x + 3) else if x = 4 then nI (dU d - 1) else gI μ 344 x := fun x => by
    rw [hZ, gI_cpX]
    by_cases z : 261 ≤ x ∧ x < 261 + 3 * (dU d - 1)
    · rw [if_pos ⟨rfl, z⟩, if_pos z, gI_sI, if_neg (by omega), show x - 261 + 264 = x + 3 by omega]
    · rw [if_neg (fun y => z y.2), if_neg z, gI_sI]
      by_cases z2 : x = 4
      · rw [if_pos ⟨rfl, z2⟩, if_pos z2]
      · rw [if_neg (fun y => z2 y.2), if_neg z2]
  clear hZ
  have o : ∀ x, x ≠ 4 → (x < 261 ∨ 279 ≤ x) → gI Z 344 x = gI μ 344 x := fun x h4 h => by rw [e, if_neg (by omega), if_neg h4]
  have e9 : gI Z 339 = gI μ 339 := funext (hO.i (by decide))
  obtain ⟨g0, ⟨⟨f1, f2, f3, f4, f5⟩, f6, f7⟩, g2, g3, g4, g5, g6, g7, g8, g9⟩ := hv
  refine ⟨⟨(o 0 (by decide) (by omega)).trans g0, ⟨⟨f1, f2, f3, f4, show dU d - 1 ≤ 6 by omega⟩, f6, f7⟩, by rw [e9]; exact g2, (o 1 (by decide) (by omega)).trans g3, (o 2 (by decide) (by omega)).trans g4, (o 3 (by decide) (by omega)).trans g5, ?_, fun i (hi : i < dP d) => ?_, fun i (hi : i < dU d - 1) => ?_, fun t k ht hk => ?_⟩, hO, fun y hy => o y (by omega) (by omega)⟩
  · rw [e, if_neg (by omega), if_pos rfl]; rfl
  · rw [o _ (by omega) (by omega), o _ (by omega) (by omega), o _ (by omega) (by omega)]; exact g7 i hi
  · have g := g8 (i + 1) (by omega)
    rw [shf_hi 1 d (by decide) (by decide), shf_hi 1 d (by decide) (by decide), shf_hi 1 d (by decide) (by decide), e, e, e, if_pos ⟨by omega, by omega⟩, if_pos ⟨by omega, by omega⟩, if_pos ⟨by omega, by omega⟩]
    exact g
  · rw [o _ (by omega) (by omega), shf_lo 1 d (by omega)]; exact g9 t k ht hk
abbrev R_X11_arrives : Room := { frames := 4, cells := 0, slots := 0, locals := 90 }
abbrev RX_X11_arrives : Room := { frames := 4, cells := 1, slots := 6, locals := 90 }

theorem l_X11_arrives_34 (hw : Wf W) {u : Nat} {x1 x2 : Int32} (h4 : gI W 344 4 = nI u) (hu : u ≤ 5) {oc : Oc} {μ1 : Wd} (kx : AW Y_X11_arrives R_X11_arrives (0, 0) (cpX W 344 264 344 261 (3 * u)) 74 [(0, .ref 338), (1, .int x1), (2, .int x2), (3, .int (nI (3 * u)))] [] oc μ1) : ∀ dd m, m + dd = 3 * u → AW Y_X11_arrives R_X11_arrives (0, 0) (cpX W 344 264 344 261 m) 34 [(0, .ref 338), (1, .int x1), (2, .int x2), (3, .int (nI m))] [] oc μ1 := by
  have e4 : ∀ m, gI (cpX W 344 264 344 261 m) 344 4 = nI u := fun m => by rw [gI_cpX, if_neg (by omega)]; exact h4
  intro dd
  induction dd with
  | zero =>
    intro m hm
    obtain rfl : 3 * u = m := by omega
    refine a_iload_n dX11_arrives_34 rfl ?_
    refine a_iconst (3 : Int32) dX11_arrives_35 (by decide) ?_
    refine a_aload_n dX11_arrives_36 rfl ?_
    refine a_getR (cr_338_6 (by repeat (first | with_reducible exact hw | with_reducible exact hwc | with_reducible assumption | with_reducible apply Wf.sI | with_reducible apply Wf.sL | with_reducible apply Wf.cpI | with_reducible apply Wf.cpL | with_reducible apply Wf.cp2 | with_reducible apply Wf.sIs | with_reducible apply Wf.sLs | with_reducible apply Wf.cpU | with_reducible apply Wf.fillI | with_reducible apply Wf.clU | with_reducible apply Wf.dnF | with_reducible apply Wf.gbW | with_reducible apply Wf.cpXf | with_reducible apply Wf.cpYf | with_reducible apply Wf.mkUf | with_reducible apply Wf.bkUf))) dX11_arrives_37 fs_X11_26 rfl (co_338 (by repeat (first | with_reducible exact hw | with_reducible exact hwc | with_reducible assumption | with_reducible apply Wf.sI | with_reducible apply Wf.sL | with_reducible apply Wf.cpI | with_reducible apply Wf.cpL | with_reducible apply Wf.cp2 | with_reducible apply Wf.sIs | with_reducible apply Wf.sLs | with_reducible apply Wf.cpU | with_reducible apply Wf.fillI | with_reducible apply Wf.clU | with_reducible apply Wf.dnF | with_reducible apply Wf.gbW | with_reducible apply Wf.cpXf | with_reducible apply Wf.cpYf | with_reducible apply Wf.mkUf | with_reducible apply Wf.bkUf))) ?_
    refine a_iconst (4 : Int32) dX11_arrives_40 (by decide) ?_
    refine a_ild dX11_arrives_41 (ca_344 (by repeat (first | with_reducible exact hw | with_reducible exact hwc | with_reducible assumption | with_reducible apply Wf.sI | with_reducible apply Wf.sL | with_reducible apply Wf.cpI | with_reducible apply Wf.cpL | with_reducible apply Wf.cp2 | with_reducible apply Wf.sIs | with_reducible apply Wf.sLs | with_reducible apply Wf.cpU | with_reducible apply Wf.fillI | with_reducible apply Wf.clU | with_reducible apply Wf.dnF | with_reducible apply Wf.gbW | with_reducible apply Wf.cpXf | with_reducible apply Wf.cpYf | with_reducible apply Wf.mkUf | with_reducible apply Wf.bkUf))) (ixn (m := 4) (by omega) (by decide)) ?_
    rw [e4]
    refine a_imul dX11_arrives_42 ?_
    rw [show (3 : Int32) * nI u = nI (3 * u) from nI_mulI 3 u]
    refine a_icmp_ge (tgt := 74) dX11_arrives_43 (by decide) (fun h43 => ?_) (fun h43 => absurd h43 (fun z => z (nI_le (Nat.le_refl _) (by omega))))
    exact a_loc _ rfl kx
  | succ dd ih =>
    intro m hm
    have qih := ih (m + 1) (by omega)
    rw [← cpX_succ] at qih
    refine a_iload_n dX11_arrives_34 rfl ?_
    refine a_iconst (3 : Int32) dX11_arrives_35 (by decide) ?_
    refine a_aload_n dX11_arrives_36 rfl ?_
    refine a_getR (cr_338_6 (by repeat (first | with_reducible exact hw | with_reducible exact hwc | with_reducible assumption | with_reducible apply Wf.sI | with_reducible apply Wf.sL | with_reducible apply Wf.cpI | with_reducible apply Wf.cpL | with_reducible apply Wf.cp2 | with_reducible apply Wf.sIs | with_reducible apply Wf.sLs | with_reducible apply Wf.cpU | with_reducible apply Wf.fillI | with_reducible apply Wf.clU | with_reducible apply Wf.dnF | with_reducible apply Wf.gbW | with_reducible apply Wf.cpXf | with_reducible apply Wf.cpYf | with_reducible apply Wf.mkUf | with_reducible apply Wf.bkUf))) dX11_arrives_37 fs_X11_26 rfl (co_338 (by repeat (first | with_reducible exact hw | with_reducible exact hwc | with_reducible assumption | with_reducible apply Wf.sI | with_reducible apply Wf.sL | with_reducible apply Wf.cpI | with_reducible apply Wf.cpL | with_reducible apply Wf.cp2 | with_reducible apply Wf.sIs | with_reducible apply Wf.sLs | with_reducible apply Wf.cpU | with_reducible apply Wf.fillI | with_reducible apply Wf.clU | with_reducible apply Wf.dnF | with_reducible apply Wf.gbW | with_reducible apply Wf.cpXf | with_reducible apply Wf.cpYf | with_reducible apply Wf.mkUf | with_reducible apply Wf.bkUf))) ?_
    refine a_iconst (4 : Int32) dX11_arrives_40 (by decide) ?_
    refine a_ild dX11_arrives_41 (ca_344 (by repeat (first | with_reducible exact hw | with_reducible exact hwc | with_reducible assumption | with_reducible apply Wf.sI | with_reducible apply Wf.sL | with_reducible apply Wf.cpI | with_reducible apply Wf.cpL | with_reducible apply Wf.cp2 | with_reducible apply Wf.sIs | with_reducible apply Wf.sLs | with_reducible apply Wf.cpU | with_reducible apply Wf.fillI | with_reducible apply Wf.clU | with_reducible apply Wf.dnF | with_reducible apply Wf.gbW | with_reducible apply Wf.cpXf | with_reducible apply Wf.cpYf | with_reducible apply Wf.mkUf | with_reducible apply Wf.bkUf))) (ixn (m := 4) (by omega) (by decide)) ?_
    rw [e4]
    refine a_imul dX11_arrives_42 ?_
    rw [show (3 : Int32) * nI u = nI (3 * u) from nI_mulI 3 u]
    refine a_icmp_ge (tgt := 74) dX11_arrives_43 (by decide) (fun h43 => absurd h43 (nI_ge (show m < 3 * u by omega) (by omega))) (fun h43 => ?_)
    refine a_aload_n dX11_arrives_46 rfl ?_
    refine a_getR (cr_338_6 (by repeat (first | with_reducible exact hw | with_reducible exact hwc | with_reducible assumption | with_reducible apply Wf.sI | with_reducible apply Wf.sL | with_reducible apply Wf.cpI | with_reducible apply Wf.cpL | with_reducible apply Wf.cp2 | with_reducible apply Wf.sIs | with_reducible apply Wf.sLs | with_reducible apply Wf.cpU | with_reducible apply Wf.fillI | with_reducible apply Wf.clU | with_reducible apply Wf.dnF | with_reducible apply Wf.gbW | with_reducible apply Wf.cpXf | with_reducible apply Wf.cpYf | with_reducible apply Wf.mkUf | with_reducible apply Wf.bkUf))) dX11_arrives_47 fs_X11_26 rfl (co_338 (by repeat (first | with_reducible exact hw | with_reducible exact hwc | with_reducible assumption | with_reducible apply Wf.sI | with_reducible apply Wf.sL | with_reducible apply Wf.cpI | with_reducible apply Wf.cpL | with_reducible apply Wf.cp2 | with_reducible apply Wf.sIs | with_reducible apply Wf.sLs | with_reducible apply Wf.cpU | with_reducible apply Wf.fillI | with_reducible apply Wf.clU | with_reducible apply Wf.dnF | with_reducible apply Wf.gbW | with_reducible apply Wf.cpXf | with_reducible apply Wf.cpYf | with_reducible apply Wf.mkUf | with_reducible apply Wf.bkUf))) ?_
    refine a_sipush (261 : Int32) dX11_arrives_50 (by decide) ?_
    refine a_iload_n dX11_arrives_53 rfl ?_
    refine a_iadd dX11_arrives_54 ?_
    rw [show (261 : Int32) + nI m = nI (261 + m) from nI_add 261 m]
    refine a_aload_n dX11_arrives_55 rfl ?_
    refine a_getR (cr_338_6 (by repeat (first | with_reducible exact hw | with_reducible exact hwc | with_reducible assumption | with_reducible apply Wf.sI | with_reducible apply Wf.sL | with_reducible apply Wf.cpI | with_reducible apply Wf.cpL | with_reducible apply Wf.cp2 | with_reducible apply Wf.sIs | with_reducible apply Wf.sLs | with_reducible apply Wf.cpU | with_reducible apply Wf.fillI | with_reducible apply Wf.clU | with_reducible apply Wf.dnF | with_reducible apply Wf.gbW | with_reducible apply Wf.cpXf | with_reducible apply Wf.cpYf | with_reducible apply Wf.mkUf | with_reducible apply Wf.bkUf))) dX11_arrives_56 fs_X11_26 rfl (co_338 (by repeat (first | with_reducible exact hw | with_reducible exact hwc | with_reducible assumption | with_reducible apply Wf.sI | with_reducible apply Wf.sL | with_reducible apply Wf.cpI | with_reducible apply Wf.cpL | with_reducible apply Wf.cp2 | with_reducible apply Wf.sIs | with_reducible apply Wf.sLs | with_reducible apply Wf.cpU | with_reducible apply Wf.fillI | with_reducible apply Wf.clU | with_reducible apply Wf.dnF | with_reducible apply Wf.gbW | with_reducible apply Wf.cpXf | with_reducible apply Wf.cpYf | with_reducible apply Wf.mkUf | with_reducible apply Wf.bkUf))) ?_
    refine a_sipush (261 : Int32) dX11_arrives_59 (by decide) ?_
    refine a_iload_n dX11_arrives_62 rfl ?_
    refine a_iadd dX11_arrives_63 ?_
    rw [show (261 : Int32) + nI m = nI (261 + m) from nI_add 261 m]
    refine a_iconst (3 : Int32) dX11_arrives_64 (by decide) ?_
    refine a_iadd dX11_arrives_65 ?_
    rw [show nI (261 + m) + 3 = nI (264 + m) from by rw [show (3 : Int32) = nI 3 from rfl, nI_add, show 261 + m + 3 = 264 + m by omega]]
    refine a_ild dX11_arrives_66 (ca_344 (by repeat (first | with_reducible exact hw | with_reducible exact hwc | with_reducible assumption | with_reducible apply Wf.sI | with_reducible apply Wf.sL | with_reducible apply Wf.cpI | with_reducible apply Wf.cpL | with_reducible apply Wf.cp2 | with_reducible apply Wf.sIs | with_reducible apply Wf.sLs | with_reducible apply Wf.cpU | with_reducible apply Wf.fillI | with_reducible apply Wf.clU | with_reducible apply Wf.dnF | with_reducible apply Wf.gbW | with_reducible apply Wf.cpXf | with_reducible apply Wf.cpYf | with_reducible apply Wf.mkUf | with_reducible apply Wf.bkUf))) (ixn (show 264 + m < 291 by omega) (by omega)) ?_
    rw [cpX_rd (Or.inr (by decide))]
    refine a_ist dX11_arrives_67 (ca_344 (by repeat (first | with_reducible exact hw | with_reducible exact hwc | with_reducible assumption | with_reducible apply Wf.sI | with_reducible apply Wf.sL | with_reducible apply Wf.cpI | with_reducible apply Wf.cpL | with_reducible apply Wf.cp2 | with_reducible apply Wf.sIs | with_reducible apply Wf.sLs | with_reducible apply Wf.cpU | with_reducible apply Wf.fillI | with_reducible apply Wf.clU | with_reducible apply Wf.dnF | with_reducible apply Wf.gbW | with_reducible apply Wf.cpXf | with_reducible apply Wf.cpYf | with_reducible apply Wf.mkUf | with_reducible apply Wf.bkUf))) (ixn (show 261 + m < 291 by omega) (by omega)) ?_
    refine a_iincN dX11_arrives_68 rfl (by decide) ?_
    refine a_goto (tgt := 34) dX11_arrives_71 (by decide) ?_
    exact a_loc _ rfl qih
theorem m_arrives (hw : Wf μ) (hv : MdV μ q d) (hU : 0 < dU d) {x n : Nat} (hx : x < pM q) (e3 : dF d 3 0 = nI x) (e4 : dF d 4 0 = nI n) (hn : n < 2 ^ 31) : CV Y_X11_arrives R_X11_arrives [.ref 338] μ (fun v V => v = some (.int (nI n - nI (stM q x n (shfD 1 d)).1)) ∧ MdV V q (stM q x n (shfD 1 d)).2 ∧ ArQ μ V) := by
  have hU4 := hv.U4
  have t3 : gI μ 344 261 = nI x := (hv.tm (i := 0) hU).trans e3
  have t4 : gI μ 344 262 = nI n := (hv.tu (i := 0) hU).trans e4
  refine CV.ent yk_X11_arrives (Nat.le_of_ble_eq_true rfl) ?_
  refine lf (a_aload_n dX11_arrives_0 rfl) ?_
  refine lf (a_getR (cr_338_6 (by repeat (first | with_reducible exact hw | with_reducible exact hwc | with_reducible assumption | with_reducible apply Wf.sI | with_reducible apply Wf.sL | with_reducible apply Wf.cpI | with_reducible apply Wf.cpL | with_reducible apply Wf.cp2 | with_reducible apply Wf.sIs | with_reducible apply Wf.sLs | with_reducible apply Wf.cpU | with_reducible apply Wf.fillI | with_reducible apply Wf.clU | with_reducible apply Wf.dnF | with_reducible apply Wf.gbW | with_reducible apply Wf.cpXf | with_reducible apply Wf.cpYf | with_reducible apply Wf.mkUf | with_reducible apply Wf.bkUf))) dX11_arrives_1 fs_X11_26 rfl (co_338 (by repeat (first | with_reducible exact hw | with_reducible exact hwc | with_reducible assumption | with_reducible apply Wf.sI | with_reducible apply Wf.sL | with_reducible apply Wf.cpI | with_reducible apply Wf.cpL | with_reducible apply Wf.cp2 | with_reducible apply Wf.sIs | with_reducible apply Wf.sLs | with_reducible apply Wf.cpU | with_reducible apply Wf.fillI | with_reducible apply Wf.clU | with_reducible apply Wf.dnF | with_reducible apply Wf.gbW | with_reducible apply Wf.cpXf | with_reducible apply Wf.cpYf | with_reducible apply Wf.mkUf | with_reducible apply Wf.bkUf)))) ?_
  refine lf (a_sipush (261 : Int32) dX11_arrives_4 (by decide)) ?_
  refine lf (a_ild dX11_arrives_7 (ca_344 (by repeat (first | with_reducible exact hw | with_reducible exact hwc | with_reducible assumption | with_reducible apply Wf.sI | with_reducible apply Wf.sL | with_reducible apply Wf.cpI | with_reducible apply Wf.cpL | with_reducible apply Wf.cp2 | with_reducible apply Wf.sIs | with_reducible apply Wf.sLs | with_reducible apply Wf.cpU | with_reducible apply Wf.fillI | with_reducible apply Wf.clU | with_reducible apply Wf.dnF | with_reducible apply Wf.gbW | with_reducible apply Wf.cpXf | with_reducible apply Wf.cpYf | with_reducible apply Wf.mkUf | with_reducible apply Wf.bkUf))) (ixn (m := 261) (by omega) (by decide))) ?_
  rw [t3]
  refine lf (a_istore_n dX11_arrives_8 (by decide)) ?_
  refine lf (a_aload_n dX11_arrives_9 rfl) ?_
  refine lf (a_getR (cr_338_6 (by repeat (first | with_reducible exact hw | with_reducible exact hwc | with_reducible assumption | with_reducible apply Wf.sI | with_reducible apply Wf.sL | with_reducible apply Wf.cpI | with_reducible apply Wf.cpL | with_reducible apply Wf.cp2 | with_reducible apply Wf.sIs | with_reducible apply Wf.sLs | with_reducible apply Wf.cpU | with_reducible apply Wf.fillI | with_reducible apply Wf.clU | with_reducible apply Wf.dnF | with_reducible apply Wf.gbW | with_reducible apply Wf.cpXf | with_reducible apply Wf.cpYf | with_reducible apply Wf.mkUf | with_reducible apply Wf.bkUf))) dX11_arrives_10 fs_X11_26 rfl (co_338 (by repeat (first | with_reducible exact hw | with_reducible exact hwc | with_reducible assumption | with_reducible apply Wf.sI | with_reducible apply Wf.sL | with_reducible apply Wf.cpI | with_reducible apply Wf.cpL | with_reducible apply Wf.cp2 | with_reducible apply Wf.sIs | with_reducible apply Wf.sLs | with_reducible apply Wf.cpU | with_reducible apply Wf.fillI | with_reducible apply Wf.clU | with_reducible apply Wf.dnF | with_reducible apply Wf.gbW | with_reducible apply Wf.cpXf | with_reducible apply Wf.cpYf | with_reducible apply Wf.mkUf | with_reducible apply Wf.bkUf)))) ?_
  refine lf (a_sipush (262 : Int32) dX11_arrives_13 (by decide)) ?_
  refine lf (a_ild dX11_arrives_16 (ca_344 (by repeat (first | with_reducible exact hw | with_reducible exact hwc | with_reducible assumption | with_reducible apply Wf.sI | with_reducible apply Wf.sL | with_reducible apply Wf.cpI | with_reducible apply Wf.cpL | with_reducible apply Wf.cp2 | with_reducible apply Wf.sIs | with_reducible apply Wf.sLs | with_reducible apply Wf.cpU | with_reducible apply Wf.fillI | with_reducible apply Wf.clU | with_reducible apply Wf.dnF | with_reducible apply Wf.gbW | with_reducible apply Wf.cpXf | with_reducible apply Wf.cpYf | with_reducible apply Wf.mkUf | with_reducible apply Wf.bkUf))) (ixn (m := 262) (by omega) (by decide))) ?_
  rw [t4]
  refine lf (a_istore_n dX11_arrives_17 (by decide)) ?_
  refine lf (a_aload_n dX11_arrives_18 rfl) ?_
  refine lf (a_getR (cr_338_6 (by repeat (first | with_reducible exact hw | with_reducible exact hwc | with_reducible assumption | with_reducible apply Wf.sI | with_reducible apply Wf.sL | with_reducible apply Wf.cpI | with_reducible apply Wf.cpL | with_reducible apply Wf.cp2 | with_reducible apply Wf.sIs | with_reducible apply Wf.sLs | with_reducible apply Wf.cpU | with_reducible apply Wf.fillI | with_reducible apply Wf.clU | with_reducible apply Wf.dnF | with_reducible apply Wf.gbW | with_reducible apply Wf.cpXf | with_reducible apply Wf.cpYf | with_reducible apply Wf.mkUf | with_reducible apply Wf.bkUf))) dX11_arrives_19 fs_X11_26 rfl (co_338 (by repeat (first | with_reducible exact hw | with_reducible exact hwc | with_reducible assumption | with_reducible apply Wf.sI | with_reducible apply Wf.sL | with_reducible apply Wf.cpI | with_reducible apply Wf.cpL | with_reducible apply Wf.cp2 | with_reducible apply Wf.sIs | with_reducible apply Wf.sLs | with_reducible apply Wf.cpU | with_reducible apply Wf.fillI | with_reducible apply Wf.clU | with_reducible apply Wf.dnF | with_reducible apply Wf.gbW | with_reducible apply Wf.cpXf | with_reducible apply Wf.cpYf | with_reducible apply Wf.mkUf | with_reducible apply Wf.bkUf)))) ?_
  refine lf (a_iconst (4 : Int32) dX11_arrives_22 (by decide)) ?_
  refine lf (a_aload_n dX11_arrives_23 rfl) ?_
  refine lf (a_getR (cr_338_6 (by repeat (first | with_reducible exact hw | with_reducible exact hwc | with_reducible assumption | with_reducible apply Wf.sI | with_reducible apply Wf.sL | with_reducible apply Wf.cpI | with_reducible apply Wf.cpL | with_reducible apply Wf.cp2 | with_reducible apply Wf.sIs | with_reducible apply Wf.sLs | with_reducible apply Wf.cpU | with_reducible apply Wf.fillI | with_reducible apply Wf.clU | with_reducible apply Wf.dnF | with_reducible apply Wf.gbW | with_reducible apply Wf.cpXf | with_reducible apply Wf.cpYf | with_reducible apply Wf.mkUf | with_reducible apply Wf.bkUf))) dX11_arrives_24 fs_X11_26 rfl (co_338 (by repeat (first | with_reducible exact hw | with_reducible exact hwc | with_reducible assumption | with_reducible apply Wf.sI | with_reducible apply Wf.sL | with_reducible apply Wf.cpI | with_reducible apply Wf.cpL | with_reducible apply Wf.cp2 | with_reducible apply Wf.sIs | with_reducible apply Wf.sLs | with_reducible apply Wf.cpU | with_reducible apply Wf.fillI | with_reducible apply Wf.clU | with_reducible apply Wf.dnF | with_reducible apply Wf.gbW | with_reducible apply Wf.cpXf | with_reducible apply Wf.cpYf | with_reducible apply Wf.mkUf | with_reducible apply Wf.bkUf)))) ?_
  refine lf (a_iconst (4 : Int32) dX11_arrives_27 (by decide)) ?_
  refine lf (a_ild dX11_arrives_28 (ca_344 (by repeat (first | with_reducible exact hw | with_reducible exact hwc | with_reducible assumption | with_reducible apply Wf.sI | with_reducible apply Wf.sL | with_reducible apply Wf.cpI | with_reducible apply Wf.cpL | with_reducible apply Wf.cp2 | with_reducible apply Wf.sIs | with_reducible apply Wf.sLs | with_reducible apply Wf.cpU | with_reducible apply Wf.fillI | with_reducible apply Wf.clU | with_reducible apply Wf.dnF | with_reducible apply Wf.gbW | with_reducible apply Wf.cpXf | with_reducible apply Wf.cpYf | with_reducible apply Wf.mkUf | with_reducible apply Wf.bkUf))) (ixn (m := 4) (by omega) (by decide))) ?_
  rw [hv.s4]
  refine lf (a_iconst (1 : Int32) dX11_arrives_29 (by decide)) ?_
  refine lf (a_isub dX11_arrives_30) ?_
  rw [show nI (dU d) - 1 = nI (dU d - 1) from nI_subI (b := 1) (by omega)]
  refine lf (a_ist dX11_arrives_31 (ca_344 (by repeat (first | with_reducible exact hw | with_reducible exact hwc | with_reducible assumption | with_reducible apply Wf.sI | with_reducible apply Wf.sL | with_reducible apply Wf.cpI | with_reducible apply Wf.cpL | with_reducible apply Wf.cp2 | with_reducible apply Wf.sIs | with_reducible apply Wf.sLs | with_reducible apply Wf.cpU | with_reducible apply Wf.fillI | with_reducible apply Wf.clU | with_reducible apply Wf.dnF | with_reducible apply Wf.gbW | with_reducible apply Wf.cpXf | with_reducible apply Wf.cpYf | with_reducible apply Wf.mkUf | with_reducible apply Wf.bkUf))) (ixn (m := 4) (by omega) (by decide))) ?_
  refine lf (a_iconst (0 : Int32) dX11_arrives_32 (by decide)) ?_
  refine lf (a_istore_n dX11_arrives_33 (by decide)) ?_
  have hwA : Wf (sI μ 344 4 (nI (dU d - 1))) := hw.sI
  have h4 : gI (sI μ 344 4 (nI (dU d - 1))) 344 4 = nI (dU d - 1) := by rw [gI_sI, if_pos ⟨rfl, rfl⟩]
  obtain ⟨hvZ, hAZ⟩ := shf_Md hv hw hU rfl
  have kk := @l_X11_arrives_34 (sI μ 344 4 (nI (dU d - 1))) hwA (dU d - 1) (nI x) (nI n) h4 (by omega)
  have hwZ := hAZ.1.wf
  refine lf (a_loc [(0, .ref 338), (1, .int (nI x)), (2, .int (nI n)), (3, .int (nI 0))] rfl) ?_
  refine lf (a_wd (cpX_zero (sI μ 344 4 (nI (dU d - 1))) 344 264 344 261).symm) ?_
  refine lf (fun k => kk k (3 * (dU d - 1)) 0 (Nat.zero_add _)) ?_
  clear kk
  revert hvZ hAZ hwZ
  generalize cpX (sI μ 344 4 (nI (dU d - 1))) 344 264 344 261 (3 * (dU d - 1)) = Z
  intro hvZ hAZ hwZ
  refine lf (a_iload_n dX11_arrives_74 rfl) ?_
  refine lf (a_aload_n dX11_arrives_75 rfl) ?_
  refine lf (a_iload_n dX11_arrives_76 rfl) ?_
  refine lf (a_iload_n dX11_arrives_77 rfl) ?_
  obtain ⟨v_, W78, k78, rfl, hv78, hS78⟩ := (m_storesMany hwZ hvZ hx hn)
  have hwc := hS78.1.wf
  refine lf (a_inv (b2 := (0, 0)) k78 rfl dX11_arrives_78 yk_X11_storesMany im_X11_storesMany se_X11_storesMany ml_X11_413 rfl (co_338 hwZ) (by decide) hc_X11 (by decide) (by decide) (Nat.le_of_ble_eq_true rfl)) ?_
  refine lf (a_isub dX11_arrives_81) ?_
  refine ⟨_, _, (a_ireturn dX11_arrives_82 rfl rfl), ?_⟩
  exact ⟨_, rfl, rfl, hv78, hAZ.trans (ArQ.so hS78)⟩
abbrev R_X11_advance : Room := { frames := 5, cells := 0, slots := 0, locals := 113 }
abbrev RX_X11_advance : Room := { frames := 5, cells := 1, slots := 6, locals := 113 }

theorem mx_advance (hw : Wf μ) (h : MnV μ q d) {x : Int32} (hx : x < 1 ∨ 999 < x) : Ct Y_X11_advance R_X11_advance [.ref 338, .int x] μ (.inl (some (.int 0))) (sI μ 338 0 1) := by
  have hv := h.1
  have hM4 := hv.M4
  have hT4 := hv.T4
  have hP4 := hv.P4
  have hC4 := hv.C4
  have hU4 := hv.U4
  have hw1 : Wf (sI μ 338 0 0) := hw.sI
  have hv1 : MdV (sI μ 338 0 0) q d := hv.th 0
  have h1 : inI x 1 999 = 0 := by
    unfold inI
    by_cases z : x < 1
    · rw [if_pos z]
    · rw [if_neg z, if_pos (hx.resolve_left z)]
  refine Ct.ent yk_X11_advance (Nat.le_of_ble_eq_true rfl) ?_
  refine a_aload_n dX11_advance_0 rfl ?_
  refine a_iload_n dX11_advance_1 rfl ?_
  refine a_iconst (1 : Int32) dX11_advance_2 (by decide) ?_
  refine a_sipush (999 : Int32) dX11_advance_3 (by decide) ?_
  refine a_invS (b2 := (0, 0)) (Ct.int h1 (m_in x 1 999)) rfl dX11_advance_6 yk_X11_in sm_X11_in ml_X11_102 rfl (by decide) (by decide) (Nat.le_of_ble_eq_true rfl) ?_
  refine a_if_eq (tgt := 16) dX11_advance_9 (by decide) (fun h9 => ?_) (fun h9 => absurd h9 (fun z => z rfl))
  refine a_iconst (1 : Int32) dX11_advance_16 (by decide) ?_
  refine a_inv (b2 := (0, 0)) (m_isRefused1 (by repeat (first | with_reducible exact hw | with_reducible exact hwc | with_reducible assumption | with_reducible apply Wf.sI | with_reducible apply Wf.sL | with_reducible apply Wf.cpI | with_reducible apply Wf.cpL | with_reducible apply Wf.cp2 | with_reducible apply Wf.sIs | with_reducible apply Wf.sLs | with_reducible apply Wf.cpU | with_reducible apply Wf.fillI | with_reducible apply Wf.clU | with_reducible apply Wf.dnF | with_reducible apply Wf.gbW | with_reducible apply Wf.cpXf | with_reducible apply Wf.cpYf | with_reducible apply Wf.mkUf | with_reducible apply Wf.bkUf)) (v := 1) (by decide)) rfl dX11_advance_17 yk_X11_isRefused im_X11_isRefused se_X11_isRefused ml_X11_98 rfl (co_338 (by repeat (first | with_reducible exact hw | with_reducible exact hwc | with_reducible assumption | with_reducible apply Wf.sI | with_reducible apply Wf.sL | with_reducible apply Wf.cpI | with_reducible apply Wf.cpL | with_reducible apply Wf.cp2 | with_reducible apply Wf.sIs | with_reducible apply Wf.sLs | with_reducible apply Wf.cpU | with_reducible apply Wf.fillI | with_reducible apply Wf.clU | with_reducible apply Wf.dnF | with_reducible apply Wf.gbW | with_reducible apply Wf.cpXf | with_reducible apply Wf.cpYf | with_reducible apply Wf.mkUf | with_reducible apply Wf.bkUf))) (by decide) hc_X11 (by decide) (by decide) (Nat.le_of_ble_eq_true rfl) ?_
  refine a_if_eq (tgt := 25) dX11_advance_20 (by decide) (fun h20 => absurd h20 (by decide)) (fun h20 => ?_)
  refine a_iconst (0 : Int32) dX11_advance_23 (by decide) ?_
  exact a_out rfl rfl (a_ireturn dX11_advance_24 rfl rfl)

theorem mp_advance (hw : Wf μ) (h : MnV μ q d) (hg : ¬ goD q d) {n : Nat} (g1 : 1 ≤ n) (g2 : n ≤ 999) : CV Y_X11_advance R_X11_advance [.ref 338, .int (nI n)] μ (fun v V => v = some (.int 0) ∧ MrQ μ 1 2 V) := by
  have hv := h.1
  have hM4 := hv.M4
  have hT4 := hv.T4
  have hP4 := hv.P4
  have hC4 := hv.C4
  have hU4 := hv.U4
  have hw1 : Wf (sI μ 338 0 0) := hw.sI
  have hv1 : MdV (sI μ 338 0 0) q d := hv.th 0
  have hin : inI (nI n) 1 999 = 1 := by
    unfold inI
    exact (if_neg (nI_nlt (b := 1) g1 (by omega))).trans (if_neg (nI_nlt (a := 999) (b := n) g2 (by decide)))
  refine CV.ent yk_X11_advance (Nat.le_of_ble_eq_true rfl) ?_
  refine lf (a_aload_n dX11_advance_0 rfl) ?_
  refine lf (a_iload_n dX11_advance_1 rfl) ?_
  refine lf (a_iconst (1 : Int32) dX11_advance_2 (by decide)) ?_
  refine lf (a_sipush (999 : Int32) dX11_advance_3 (by decide)) ?_
  refine lf (a_invS (b2 := (0, 0)) (Ct.int hin (m_in (nI n) 1 999)) rfl dX11_advance_6 yk_X11_in sm_X11_in ml_X11_102 rfl (by decide) (by decide) (Nat.le_of_ble_eq_true rfl)) ?_
  refine lf2 (a_if_eq (tgt := 16) dX11_advance_9 (by decide)) (fun h9 => absurd h9 (by decide)) (fun h9 => ?_)
  refine lf (a_iconst (0 : Int32) dX11_advance_12 (by decide)) ?_
  refine lf (a_goto (tgt := 17) dX11_advance_13 (by decide)) ?_
  refine lf (a_inv (b2 := (0, 0)) (m_isRefused0 (by repeat (first | with_reducible exact hw | with_reducible exact hwc | with_reducible assumption | with_reducible apply Wf.sI | with_reducible apply Wf.sL | with_reducible apply Wf.cpI | with_reducible apply Wf.cpL | with_reducible apply Wf.cp2 | with_reducible apply Wf.sIs | with_reducible apply Wf.sLs | with_reducible apply Wf.cpU | with_reducible apply Wf.fillI | with_reducible apply Wf.clU | with_reducible apply Wf.dnF | with_reducible apply Wf.gbW | with_reducible apply Wf.cpXf | with_reducible apply Wf.cpYf | with_reducible apply Wf.mkUf | with_reducible apply Wf.bkUf))) rfl dX11_advance_17 yk_X11_isRefused im_X11_isRefused se_X11_isRefused ml_X11_98 rfl (co_338 (by repeat (first | with_reducible exact hw | with_reducible exact hwc | with_reducible assumption | with_reducible apply Wf.sI | with_reducible apply Wf.sL | with_reducible apply Wf.cpI | with_reducible apply Wf.cpL | with_reducible apply Wf.cp2 | with_reducible apply Wf.sIs | with_reducible apply Wf.sLs | with_reducible apply Wf.cpU | with_reducible apply Wf.fillI | with_reducible apply Wf.clU | with_reducible apply Wf.dnF | with_reducible apply Wf.gbW | with_reducible apply Wf.cpXf | with_reducible apply Wf.cpYf | with_reducible apply Wf.mkUf | with_reducible apply Wf.bkUf))) (by decide) hc_X11 (by decide) (by decide) (Nat.le_of_ble_eq_true rfl)) ?_
  refine lf2 (a_if_eq (tgt := 25) dX11_advance_20 (by decide)) (fun h20 => ?_) (fun h20 => absurd h20 (fun z => z rfl))
  refine lf (a_aload_n dX11_advance_25 rfl) ?_
  refine lf (a_aload_n dX11_advance_26 rfl) ?_
  refine lf (a_inv (b2 := (0, 0)) (Ct.int (ngo_in hg) (m_isGoing (by repeat (first | with_reducible exact hw | with_reducible exact hwc | with_reducible assumption | with_reducible apply Wf.sI | with_reducible apply Wf.sL | with_reducible apply Wf.cpI | with_reducible apply Wf.cpL | with_reducible apply Wf.cp2 | with_reducible apply Wf.sIs | with_reducible apply Wf.sLs | with_reducible apply Wf.cpU | with_reducible apply Wf.fillI | with_reducible apply Wf.clU | with_reducible apply Wf.dnF | with_reducible apply Wf.gbW | with_reducible apply Wf.cpXf | with_reducible apply Wf.cpYf | with_reducible apply Wf.mkUf | with_reducible apply Wf.bkUf)) (h.1.th 0))) rfl dX11_advance_27 yk_X11_isGoing im_X11_isGoing se_X11_isGoing ml_X11_401 rfl (co_338 (by repeat (first | with_reducible exact hw | with_reducible exact hwc | with_reducible assumption | with_reducible apply Wf.sI | with_reducible apply Wf.sL | with_reducible apply Wf.cpI | with_reducible apply Wf.cpL | with_reducible apply Wf.cp2 | with_reducible apply Wf.sIs | with_reducible apply Wf.sLs | with_reducible apply Wf.cpU | with_reducible apply Wf.fillI | with_reducible apply Wf.clU | with_reducible apply Wf.dnF | with_reducible apply Wf.gbW | with_reducible apply Wf.cpXf | with_reducible apply Wf.cpYf | with_reducible apply Wf.mkUf | with_reducible apply Wf.bkUf))) (by decide) hc_X11 (by decide) (by decide) (Nat.le_of_ble_eq_true rfl)) ?_
  refine lfn (a_if_ne (tgt := 37) dX11_advance_30 (by decide)) (fun h30 => absurd h30 (fun z => z rfl)) (fun h30 => ?_)
  refine lf (a_iconst (1 : Int32) dX11_advance_33 (by decide)) ?_
  refine lf (a_goto (tgt := 53) dX11_advance_34 (by decide)) ?_
  refine lf (a_iconst (2 : Int32) dX11_advance_53 (by decide)) ?_
  refine lf (a_inv (b2 := (0, 0)) (m_refuses1 (by repeat (first | with_reducible exact hw | with_reducible exact hwc | with_reducible assumption | with_reducible apply Wf.sI | with_reducible apply Wf.sL | with_reducible apply Wf.cpI | with_reducible apply Wf.cpL | with_reducible apply Wf.cp2 | with_reducible apply Wf.sIs | with_reducible apply Wf.sLs | with_reducible apply Wf.cpU | with_reducible apply Wf.fillI | with_reducible apply Wf.clU | with_reducible apply Wf.dnF | with_reducible apply Wf.gbW | with_reducible apply Wf.cpXf | with_reducible apply Wf.cpYf | with_reducible apply Wf.mkUf | with_reducible apply Wf.bkUf)) (y := 1) (w := 2) (by decide) (by decide)) rfl dX11_advance_54 yk_X11_refuses im_X11_refuses se_X11_refuses ml_X11_407 rfl (co_338 (by repeat (first | with_reducible exact hw | with_reducible exact hwc | with_reducible assumption | with_reducible apply Wf.sI | with_reducible apply Wf.sL | with_reducible apply Wf.cpI | with_reducible apply Wf.cpL | with_reducible apply Wf.cp2 | with_reducible apply Wf.sIs | with_reducible apply Wf.sLs | with_reducible apply Wf.cpU | with_reducible apply Wf.fillI | with_reducible apply Wf.clU | with_reducible apply Wf.dnF | with_reducible apply Wf.gbW | with_reducible apply Wf.cpXf | with_reducible apply Wf.cpYf | with_reducible apply Wf.mkUf | with_reducible apply Wf.bkUf))) (by decide) hc_X11 (by decide) (by decide) (Nat.le_of_ble_eq_true rfl)) ?_
  refine lf2 (a_if_eq (tgt := 62) dX11_advance_57 (by decide)) (fun h57 => absurd h57 (by decide)) (fun h57 => ?_)
  refine lf (a_iconst (0 : Int32) dX11_advance_60 (by decide)) ?_
  refine ⟨_, _, (a_ireturn dX11_advance_61 rfl rfl), ?_⟩
  exact ⟨_, rfl, rfl, MrQ.of (MtQ.of hw 0) 1 2⟩

theorem mr_advance (hw : Wf μ) (h : MnV μ q d) (hgo : goD q d) {n : Nat} (g1 : 1 ≤ n) (g2 : n ≤ 999) (hmi : ¬ nI n ≤ dF d 6 1) : CV Y_X11_advance R_X11_advance [.ref 338, .int (nI n)] μ (fun v V => v = some (.int 0) ∧ MrQ μ 7 2 V) := by
  have hv := h.1
  have hM4 := hv.M4
  have hT4 := hv.T4
  have hP4 := hv.P4
  have hC4 := hv.C4
  have hU4 := hv.U4
  have hw1 : Wf (sI μ 338 0 0) := hw.sI
  have hv1 : MdV (sI μ 338 0 0) q d := hv.th 0
  have hin : inI (nI n) 1 999 = 1 := by
    unfold inI
    exact (if_neg (nI_nlt (b := 1) g1 (by omega))).trans (if_neg (nI_nlt (a := 999) (b := n) g2 (by decide)))
  refine CV.ent yk_X11_advance (Nat.le_of_ble_eq_true rfl) ?_
  refine lf (a_aload_n dX11_advance_0 rfl) ?_
  refine lf (a_iload_n dX11_advance_1 rfl) ?_
  refine lf (a_iconst (1 : Int32) dX11_advance_2 (by decide)) ?_
  refine lf (a_sipush (999 : Int32) dX11_advance_3 (by decide)) ?_
  refine lf (a_invS (b2 := (0, 0)) (Ct.int hin (m_in (nI n) 1 999)) rfl dX11_advance_6 yk_X11_in sm_X11_in ml_X11_102 rfl (by decide) (by decide) (Nat.le_of_ble_eq_true rfl)) ?_
  refine lf2 (a_if_eq (tgt := 16) dX11_advance_9 (by decide)) (fun h9 => absurd h9 (by decide)) (fun h9 => ?_)
  refine lf (a_iconst (0 : Int32) dX11_advance_12 (by decide)) ?_
  refine lf (a_goto (tgt := 17) dX11_advance_13 (by decide)) ?_
  refine lf (a_inv (b2 := (0, 0)) (m_isRefused0 (by repeat (first | with_reducible exact hw | with_reducible exact hwc | with_reducible assumption | with_reducible apply Wf.sI | with_reducible apply Wf.sL | with_reducible apply Wf.cpI | with_reducible apply Wf.cpL | with_reducible apply Wf.cp2 | with_reducible apply Wf.sIs | with_reducible apply Wf.sLs | with_reducible apply Wf.cpU | with_reducible apply Wf.fillI | with_reducible apply Wf.clU | with_reducible apply Wf.dnF | with_reducible apply Wf.gbW | with_reducible apply Wf.cpXf | with_reducible apply Wf.cpYf | with_reducible apply Wf.mkUf | with_reducible apply Wf.bkUf))) rfl dX11_advance_17 yk_X11_isRefused im_X11_isRefused se_X11_isRefused ml_X11_98 rfl (co_338 (by repeat (first | with_reducible exact hw | with_reducible exact hwc | with_reducible assumption | with_reducible apply Wf.sI | with_reducible apply Wf.sL | with_reducible apply Wf.cpI | with_reducible apply Wf.cpL | with_reducible apply Wf.cp2 | with_reducible apply Wf.sIs | with_reducible apply Wf.sLs | with_reducible apply Wf.cpU | with_reducible apply Wf.fillI | with_reducible apply Wf.clU | with_reducible apply Wf.dnF | with_reducible apply Wf.gbW | with_reducible apply Wf.cpXf | with_reducible apply Wf.cpYf | with_reducible apply Wf.mkUf | with_reducible apply Wf.bkUf))) (by decide) hc_X11 (by decide) (by decide) (Nat.le_of_ble_eq_true rfl)) ?_
  refine lf2 (a_if_eq (tgt := 25) dX11_advance_20 (by decide)) (fun h20 => ?_) (fun h20 => absurd h20 (fun z => z rfl))
  refine lf (a_aload_n dX11_advance_25 rfl) ?_
  refine lf (a_aload_n dX11_advance_26 rfl) ?_
  refine lf (a_inv (b2 := (0, 0)) (Ct.int (go_in hgo) (m_isGoing (by repeat (first | with_reducible exact hw | with_reducible exact hwc | with_reducible assumption | with_reducible apply Wf.sI | with_reducible apply Wf.sL | with_reducible apply Wf.cpI | with_reducible apply Wf.cpL | with_reducible apply Wf.cp2 | with_reducible apply Wf.sIs | with_reducible apply Wf.sLs | with_reducible apply Wf.cpU | with_reducible apply Wf.fillI | with_reducible apply Wf.clU | with_reducible apply Wf.dnF | with_reducible apply Wf.gbW | with_reducible apply Wf.cpXf | with_reducible apply Wf.cpYf | with_reducible apply Wf.mkUf | with_reducible apply Wf.bkUf)) (h.1.th 0))) rfl dX11_advance_27 yk_X11_isGoing im_X11_isGoing se_X11_isGoing ml_X11_401 rfl (co_338 (by repeat (first | with_reducible exact hw | with_reducible exact hwc | with_reducible assumption | with_reducible apply Wf.sI | with_reducible apply Wf.sL | with_reducible apply Wf.cpI | with_reducible apply Wf.cpL | with_reducible apply Wf.cp2 | with_reducible apply Wf.sIs | with_reducible apply Wf.sLs | with_reducible apply Wf.cpU | with_reducible apply Wf.fillI | with_reducible apply Wf.clU | with_reducible apply Wf.dnF | with_reducible apply Wf.gbW | with_reducible apply Wf.cpXf | with_reducible apply Wf.cpYf | with_reducible apply Wf.mkUf | with_reducible apply Wf.bkUf))) (by decide) hc_X11 (by decide) (by decide) (Nat.le_of_ble_eq_true rfl)) ?_
  refine lfn (a_if_ne (tgt := 37) dX11_advance_30 (by decide)) (fun h30 => ?_) (fun h30 => absurd h30 (by decide))
  refine lf (a_aload_n dX11_advance_37 rfl) ?_
  refine lf (a_getR (cr_338_6 (by repeat (first | with_reducible exact hw | with_reducible exact hwc | with_reducible assumption | with_reducible apply Wf.sI | with_reducible apply Wf.sL | with_reducible apply Wf.cpI | with_reducible apply Wf.cpL | with_reducible apply Wf.cp2 | with_reducible apply Wf.sIs | with_reducible apply Wf.sLs | with_reducible apply Wf.cpU | with_reducible apply Wf.fillI | with_reducible apply Wf.clU | with_reducible apply Wf.dnF | with_reducible apply Wf.gbW | with_reducible apply Wf.cpXf | with_reducible apply Wf.cpYf | with_reducible apply Wf.mkUf | with_reducible apply Wf.bkUf))) dX11_advance_38 fs_X11_26 rfl (co_338 (by repeat (first | with_reducible exact hw | with_reducible exact hwc | with_reducible assumption | with_reducible apply Wf.sI | with_reducible apply Wf.sL | with_reducible apply Wf.cpI | with_reducible apply Wf.cpL | with_reducible apply Wf.cp2 | with_reducible apply Wf.sIs | with_reducible apply Wf.sLs | with_reducible apply Wf.cpU | with_reducible apply Wf.fillI | with_reducible apply Wf.clU | with_reducible apply Wf.dnF | with_reducible apply Wf.gbW | with_reducible apply Wf.cpXf | with_reducible apply Wf.cpYf | with_reducible apply Wf.mkUf | with_reducible apply Wf.bkUf)))) ?_
  refine lf (a_iconst (2 : Int32) dX11_advance_41 (by decide)) ?_
  refine lf (a_ild dX11_advance_42 (ca_344 (by repeat (first | with_reducible exact hw | with_reducible exact hwc | with_reducible assumption | with_reducible apply Wf.sI | with_reducible apply Wf.sL | with_reducible apply Wf.cpI | with_reducible apply Wf.cpL | with_reducible apply Wf.cp2 | with_reducible apply Wf.sIs | with_reducible apply Wf.sLs | with_reducible apply Wf.cpU | with_reducible apply Wf.fillI | with_reducible apply Wf.clU | with_reducible apply Wf.dnF | with_reducible apply Wf.gbW | with_reducible apply Wf.cpXf | with_reducible apply Wf.cpYf | with_reducible apply Wf.mkUf | with_reducible apply Wf.bkUf))) (ixn (m := 2) (by omega) (by decide))) ?_
  rw [hv1.s2]
  refine lf (a_iload_n dX11_advance_43 rfl) ?_
  refine lf2 (a_icmp_ge (tgt := 52) dX11_advance_44 (by decide)) (fun h44 => absurd h44 hmi) (fun h44 => ?_)
  refine lf (a_bipush (7 : Int32) dX11_advance_47 (by decide)) ?_
  refine lf (a_goto (tgt := 53) dX11_advance_49 (by decide)) ?_
  refine lf (a_iconst (2 : Int32) dX11_advance_53 (by decide)) ?_
  refine lf (a_inv (b2 := (0, 0)) (m_refuses1 (by repeat (first | with_reducible exact hw | with_reducible exact hwc | with_reducible assumption | with_reducible apply Wf.sI | with_reducible apply Wf.sL | with_reducible apply Wf.cpI | with_reducible apply Wf.cpL | with_reducible apply Wf.cp2 | with_reducible apply Wf.sIs | with_reducible apply Wf.sLs | with_reducible apply Wf.cpU | with_reducible apply Wf.fillI | with_reducible apply Wf.clU | with_reducible apply Wf.dnF | with_reducible apply Wf.gbW | with_reducible apply Wf.cpXf | with_reducible apply Wf.cpYf | with_reducible apply Wf.mkUf | with_reducible apply Wf.bkUf)) (y := 7) (w := 2) (by decide) (by decide)) rfl dX11_advance_54 yk_X11_refuses im_X11_refuses se_X11_refuses ml_X11_407 rfl (co_338 (by repeat (first | with_reducible exact hw | with_reducible exact hwc | with_reducible assumption | with_reducible apply Wf.sI | with_reducible apply Wf.sL | with_reducible apply Wf.cpI | with_reducible apply Wf.cpL | with_reducible apply Wf.cp2 | with_reducible apply Wf.sIs | with_reducible apply Wf.sLs | with_reducible apply Wf.cpU | with_reducible apply Wf.fillI | with_reducible apply Wf.clU | with_reducible apply Wf.dnF | with_reducible apply Wf.gbW | with_reducible apply Wf.cpXf | with_reducible apply Wf.cpYf | with_reducible apply Wf.mkUf | with_reducible apply Wf.bkUf))) (by decide) hc_X11 (by decide) (by decide) (Nat.le_of_ble_eq_true rfl)) ?_
  refine lf2 (a_if_eq (tgt := 62) dX11_advance_57 (by decide)) (fun h57 => absurd h57 (by decide)) (fun h57 => ?_)
  refine lf (a_iconst (0 : Int32) dX11_advance_60 (by decide)) ?_
  refine ⟨_, _, (a_ireturn dX11_advance_61 rfl rfl), ?_⟩
  exact ⟨_, rfl, rfl, MrQ.of (MtQ.of hw 0) 7 2⟩
theorem l_X11_advance_82 (hq0 : GdP q) {Q : Oc → Wd → Prop} : ∀ (c : Nat) (b : Int32) (W : Wd) (d : FDt), dU d = c → Wf W → MdV W q d → GdD q d →
    (∀ V : Wd, ArQ W V → MdV V q (adM q c b d).2 → WP Y_X11_advance R_X11_advance (0, 0) V 118 [(0, .ref 338), (2, .int (adM q c b d).1)] [] Q) → WP Y_X11_advance R_X11_advance (0, 0) W 82 [(0, .ref 338), (2, .int b)] [] Q := by
  intro c
  induction c with
  | zero =>
    intro b W d hc hw hv hd kx
    refine lf (a_aload_n dX11_advance_82 rfl) ?_
    refine lf (a_getR (cr_338_6 hw) dX11_advance_83 fs_X11_26 rfl (co_338 hw)) ?_
    refine lf (a_iconst (4 : Int32) dX11_advance_86 (by decide)) ?_
    refine lf (a_ild dX11_advance_87 (ca_344 hw) (ixn (m := 4) (by omega) (by decide))) ?_
    rw [hv.s4]
    rw [hc]
    refine lf2 (a_if_le (tgt := 118) dX11_advance_88 (by decide)) (fun h88 => ?_) (fun h88 => absurd h88 (fun z => z (by decide)))
    exact lf (a_loc _ rfl) (kx W ⟨Out.rfl' hw, fun _ _ => rfl⟩ hv)
  | succ c ih =>
    intro b W d hc hw hv hd kx
    have hU4 := hv.U4
    have hM4 := hv.M4
    obtain ⟨⟨x, hx, ex⟩, n, n1, n2, en⟩ := hd.tu (show 0 < dU d by omega)
    have t5 : gI W 344 263 = dF d 5 0 := hv.td (i := 0) (by omega)
    unfold adM at kx
    refine lf (a_aload_n dX11_advance_82 rfl) ?_
    refine lf (a_getR (cr_338_6 hw) dX11_advance_83 fs_X11_26 rfl (co_338 hw)) ?_
    refine lf (a_iconst (4 : Int32) dX11_advance_86 (by decide)) ?_
    refine lf (a_ild dX11_advance_87 (ca_344 hw) (ixn (m := 4) (by omega) (by decide))) ?_
    rw [hv.s4]
    rw [hc]
    refine lf2 (a_if_le (tgt := 118) dX11_advance_88 (by decide)) (fun h88 => absurd h88 (nI_nle (Nat.succ_pos c) (by omega))) (fun h88 => ?_)
    refine lf (a_aload_n dX11_advance_91 rfl) ?_
    refine lf (a_getR (cr_338_6 hw) dX11_advance_92 fs_X11_26 rfl (co_338 hw)) ?_
    refine lf (a_sipush (263 : Int32) dX11_advance_95 (by decide)) ?_
    refine lf (a_ild dX11_advance_98 (ca_344 hw) (ixn (m := 263) (by omega) (by decide))) ?_
    rw [t5]
    refine lf (a_aload_n dX11_advance_99 rfl) ?_
    refine lf (a_getR (cr_338_6 hw) dX11_advance_100 fs_X11_26 rfl (co_338 hw)) ?_
    refine lf (a_iconst (2 : Int32) dX11_advance_103 (by decide)) ?_
    refine lf (a_ild dX11_advance_104 (ca_344 hw) (ixn (m := 2) (by omega) (by decide))) ?_
    rw [hv.s2]
    refine lf2 (a_icmp_lt (tgt := 118) dX11_advance_105 (by decide)) (fun h105 => ?_) (fun h105 => ?_)
    · rw [if_pos h105] at kx
      exact lf (a_loc _ rfl) (kx W ⟨Out.rfl' hw, fun _ _ => rfl⟩ hv)
    · rw [if_neg h105, ex, en, nN_nI (by omega), nN_nI (by omega)] at kx
      refine lf (a_iload_n dX11_advance_108 rfl) ?_
      refine lf (a_aload_n dX11_advance_109 rfl) ?_
      obtain ⟨v_, W110, k110, rfl, hv110, hA110⟩ := (m_arrives hw hv (by omega) hx ex en (by omega))
      have hwc := hA110.1.wf
      refine lf (a_inv (b2 := (0, 0)) k110 rfl dX11_advance_110 yk_X11_arrives im_X11_arrives se_X11_arrives ml_X11_437 rfl (co_338 hw) (by decide) hc_X11 (by decide) (by decide) (Nat.le_of_ble_eq_true rfl)) ?_
      refine lf (a_iadd dX11_advance_113) ?_
      refine lf (a_istore_n dX11_advance_114 (by decide)) ?_
      refine lf (a_goto (tgt := 82) dX11_advance_115 (by decide)) ?_
      have hlo := stM_lo (q := q) (k := x) n (shfD 1 d)
      refine lf (a_loc _ rfl) (ih _ W110 _ ?_ hwc hv110 ((hd.shf (a := 1) (by omega)).st hq0 hx n) (fun V h1 h2 => kx V (hA110.trans h1) h2))
      rw [hlo.2.1]
      show dU d - 1 = c
      omega
theorem adM_lo (q : PDt) : ∀ c b (d : FDt), dP (adM q c b d).2 = dP d ∧ dA (adM q c b d).2 = dA d ∧ dF (adM q c b d).2 6 0 = dF d 6 0 := by
  intro c
  induction c with
  | zero => intro b d; exact ⟨rfl, rfl, rfl⟩
  | succ c ih =>
    intro b d
    unfold adM
    split
    · exact ⟨rfl, rfl, rfl⟩
    · generalize b + (dF d 4 0 - nI (stM q (nN (dF d 3 0)) (nN (dF d 4 0)) (shfD 1 d)).1) = b2
      have s := stM_lo (q := q) (k := nN (dF d 3 0)) (nN (dF d 4 0)) (shfD 1 d)
      obtain ⟨i1, i2, i3⟩ := ih b2 (stM q (nN (dF d 3 0)) (nN (dF d 4 0)) (shfD 1 d)).2
      exact ⟨i1.trans s.1, i2.trans s.2.2.1, i3.trans ((s.2.2.2.1 6 0 (by decide)).trans (shf_lo 1 d (by omega)))⟩
theorem MdV.c6 (hv : MdV μ q d) (v : Int32) : MdV (sI μ 344 2 v) q (cellD d 6 1 v) := by
  obtain ⟨g0, ⟨f1, f2, f3⟩, g2, g3, g4, g5, g6, g7, g8, g9⟩ := hv
  have hP4 := f1.2.2.2.1
  have hU4 := f1.2.2.2.2
  have o : ∀ x, x ≠ 2 → gI (sI μ 344 2 v) 344 x = gI μ 344 x := fun x h => by rw [gI_sI, if_neg (by omega)]
  have e9 : gI (sI μ 344 2 v) 339 = gI μ 339 := funext fun x => by rw [gI_sI, if_neg (by omega)]
  have c : ∀ a i, ¬ (a = 6 ∧ i = 1) → dF (cellD d 6 1 v) a i = dF d a i := fun a i h => cell_ne d v h
  refine ⟨(o 0 (by decide)).trans g0, ⟨f1, by rw [c 6 0 (by omega)]; exact f2, f3⟩, by rw [e9]; exact g2, (o 1 (by decide)).trans (g3.trans (c 6 0 (by omega)).symm), ?_, (o 3 (by decide)).trans g5, (o 4 (by decide)).trans g6, fun i (hi : i < dP d) => ?_, fun i (hi : i < dU d) => ?_, fun t k ht hk => (o _ (by omega)).trans ((g9 t k ht hk).trans (c _ _ (by omega)).symm)⟩
  · rw [gI_sI, if_pos ⟨rfl, rfl⟩, cell_eq]
  · rw [o _ (by omega), o _ (by omega), o _ (by omega), c 0 i (by omega), c 1 i (by omega), c 2 i (by omega)]; exact g7 i hi
  · rw [o _ (by omega), o _ (by omega), o _ (by omega), c 3 i (by omega), c 4 i (by omega), c 5 i (by omega)]; exact g8 i hi

theorem v_advance (hw : Wf μ) (h : MnV μ q d) {H : Hst} (hp : MpV μ q H) (hq0 : GdP q) (hgo : goD q d) {n : Nat} (g1 : 1 ≤ n) (g2 : n ≤ 999) (hmi : nI n ≤ dF d 6 1) (hd3 : GdD q (cellD d 6 1 (dF d 6 1 - nI n))) : CV Y_X11_advance R_X11_advance [.ref 338, .int (nI n)] μ (fun v V => v = some (.int ((laD q (cellD d 6 1 (dF d 6 1 - nI n))).1)) ∧ MaQ μ V q ((laD q (cellD d 6 1 (dF d 6 1 - nI n))).2) (pushH H d)) := by
  have hv := h.1
  have hM4 := hv.M4
  have hT4 := hv.T4
  have hP4 := hv.P4
  have hC4 := hv.C4
  have hU4 := hv.U4
  have hw1 : Wf (sI μ 338 0 0) := hw.sI
  have hv1 : MdV (sI μ 338 0 0) q d := hv.th 0
  have hin : inI (nI n) 1 999 = 1 := by
    unfold inI
    exact (if_neg (nI_nlt (b := 1) g1 (by omega))).trans (if_neg (nI_nlt (a := 999) (b := n) g2 (by decide)))
  have h0 := (go_s0 hgo).1
  refine CV.ent yk_X11_advance (Nat.le_of_ble_eq_true rfl) ?_
  refine lf (a_aload_n dX11_advance_0 rfl) ?_
  refine lf (a_iload_n dX11_advance_1 rfl) ?_
  refine lf (a_iconst (1 : Int32) dX11_advance_2 (by decide)) ?_
  refine lf (a_sipush (999 : Int32) dX11_advance_3 (by decide)) ?_
  refine lf (a_invS (b2 := (0, 0)) (Ct.int hin (m_in (nI n) 1 999)) rfl dX11_advance_6 yk_X11_in sm_X11_in ml_X11_102 rfl (by decide) (by decide) (Nat.le_of_ble_eq_true rfl)) ?_
  refine lf2 (a_if_eq (tgt := 16) dX11_advance_9 (by decide)) (fun h9 => absurd h9 (by decide)) (fun h9 => ?_)
  refine lf (a_iconst (0 : Int32) dX11_advance_12 (by decide)) ?_
  refine lf (a_goto (tgt := 17) dX11_advance_13 (by decide)) ?_
  refine lf (a_inv (b2 := (0, 0)) (m_isRefused0 (by repeat (first | with_reducible exact hw | with_reducible exact hwc | with_reducible assumption | with_reducible apply Wf.sI | with_reducible apply Wf.sL | with_reducible apply Wf.cpI | with_reducible apply Wf.cpL | with_reducible apply Wf.cp2 | with_reducible apply Wf.sIs | with_reducible apply Wf.sLs | with_reducible apply Wf.cpU | with_reducible apply Wf.fillI | with_reducible apply Wf.clU | with_reducible apply Wf.dnF | with_reducible apply Wf.gbW | with_reducible apply Wf.cpXf | with_reducible apply Wf.cpYf | with_reducible apply Wf.mkUf | with_reducible apply Wf.bkUf))) rfl dX11_advance_17 yk_X11_isRefused im_X11_isRefused se_X11_isRefused ml_X11_98 rfl (co_338 (by repeat (first | with_reducible exact hw | with_reducible exact hwc | with_reducible assumption | with_reducible apply Wf.sI | with_reducible apply Wf.sL | with_reducible apply Wf.cpI | with_reducible apply Wf.cpL | with_reducible apply Wf.cp2 | with_reducible apply Wf.sIs | with_reducible apply Wf.sLs | with_reducible apply Wf.cpU | with_reducible apply Wf.fillI | with_reducible apply Wf.clU | with_reducible apply Wf.dnF | with_reducible apply Wf.gbW | with_reducible apply Wf.cpXf | with_reducible apply Wf.cpYf | with_reducible apply Wf.mkUf | with_reducible apply Wf.bkUf))) (by decide) hc_X11 (by decide) (by decide) (Nat.le_of_ble_eq_true rfl)) ?_
  refine lf2 (a_if_eq (tgt := 25) dX11_advance_20 (by decide)) (fun h20 => ?_) (fun h20 => absurd h20 (fun z => z rfl))
  refine lf (a_aload_n dX11_advance_25 rfl) ?_
  refine lf (a_aload_n dX11_advance_26 rfl) ?_
  refine lf (a_inv (b2 := (0, 0)) (Ct.int (go_in hgo) (m_isGoing (by repeat (first | with_reducible exact hw | with_reducible exact hwc | with_reducible assumption | with_reducible apply Wf.sI | with_reducible apply Wf.sL | with_reducible apply Wf.cpI | with_reducible apply Wf.cpL | with_reducible apply Wf.cp2 | with_reducible apply Wf.sIs | with_reducible apply Wf.sLs | with_reducible apply Wf.cpU | with_reducible apply Wf.fillI | with_reducible apply Wf.clU | with_reducible apply Wf.dnF | with_reducible apply Wf.gbW | with_reducible apply Wf.cpXf | with_reducible apply Wf.cpYf | with_reducible apply Wf.mkUf | with_reducible apply Wf.bkUf)) (h.1.th 0))) rfl dX11_advance_27 yk_X11_isGoing im_X11_isGoing se_X11_isGoing ml_X11_401 rfl (co_338 (by repeat (first | with_reducible exact hw | with_reducible exact hwc | with_reducible assumption | with_reducible apply Wf.sI | with_reducible apply Wf.sL | with_reducible apply Wf.cpI | with_reducible apply Wf.cpL | with_reducible apply Wf.cp2 | with_reducible apply Wf.sIs | with_reducible apply Wf.sLs | with_reducible apply Wf.cpU | with_reducible apply Wf.fillI | with_reducible apply Wf.clU | with_reducible apply Wf.dnF | with_reducible apply Wf.gbW | with_reducible apply Wf.cpXf | with_reducible apply Wf.cpYf | with_reducible apply Wf.mkUf | with_reducible apply Wf.bkUf))) (by decide) hc_X11 (by decide) (by decide) (Nat.le_of_ble_eq_true rfl)) ?_
  refine lfn (a_if_ne (tgt := 37) dX11_advance_30 (by decide)) (fun h30 => ?_) (fun h30 => absurd h30 (by decide))
  refine lf (a_aload_n dX11_advance_37 rfl) ?_
  refine lf (a_getR (cr_338_6 (by repeat (first | with_reducible exact hw | with_reducible exact hwc | with_reducible assumption | with_reducible apply Wf.sI | with_reducible apply Wf.sL | with_reducible apply Wf.cpI | with_reducible apply Wf.cpL | with_reducible apply Wf.cp2 | with_reducible apply Wf.sIs | with_reducible apply Wf.sLs | with_reducible apply Wf.cpU | with_reducible apply Wf.fillI | with_reducible apply Wf.clU | with_reducible apply Wf.dnF | with_reducible apply Wf.gbW | with_reducible apply Wf.cpXf | with_reducible apply Wf.cpYf | with_reducible apply Wf.mkUf | with_reducible apply Wf.bkUf))) dX11_advance_38 fs_X11_26 rfl (co_338 (by repeat (first | with_reducible exact hw | with_reducible exact hwc | with_reducible assumption | with_reducible apply Wf.sI | with_reducible apply Wf.sL | with_reducible apply Wf.cpI | with_reducible apply Wf.cpL | with_reducible apply Wf.cp2 | with_reducible apply Wf.sIs | with_reducible apply Wf.sLs | with_reducible apply Wf.cpU | with_reducible apply Wf.fillI | with_reducible apply Wf.clU | with_reducible apply Wf.dnF | with_reducible apply Wf.gbW | with_reducible apply Wf.cpXf | with_reducible apply Wf.cpYf | with_reducible apply Wf.mkUf | with_reducible apply Wf.bkUf)))) ?_
  refine lf (a_iconst (2 : Int32) dX11_advance_41 (by decide)) ?_
  refine lf (a_ild dX11_advance_42 (ca_344 (by repeat (first | with_reducible exact hw | with_reducible exact hwc | with_reducible assumption | with_reducible apply Wf.sI | with_reducible apply Wf.sL | with_reducible apply Wf.cpI | with_reducible apply Wf.cpL | with_reducible apply Wf.cp2 | with_reducible apply Wf.sIs | with_reducible apply Wf.sLs | with_reducible apply Wf.cpU | with_reducible apply Wf.fillI | with_reducible apply Wf.clU | with_reducible apply Wf.dnF | with_reducible apply Wf.gbW | with_reducible apply Wf.cpXf | with_reducible apply Wf.cpYf | with_reducible apply Wf.mkUf | with_reducible apply Wf.bkUf))) (ixn (m := 2) (by omega) (by decide))) ?_
  rw [show gI (sI μ 338 0 0) 344 2 = dF d 6 1 from hv1.s2]
  refine lf (a_iload_n dX11_advance_43 rfl) ?_
  refine lf2 (a_icmp_ge (tgt := 52) dX11_advance_44 (by decide)) (fun h44 => ?_) (fun h44 => absurd h44 (fun z => z hmi))
  refine lf (a_iconst (0 : Int32) dX11_advance_52 (by decide)) ?_
  refine lf (a_iconst (2 : Int32) dX11_advance_53 (by decide)) ?_
  refine lf (a_inv (b2 := (0, 0)) (m_refuses0 (by repeat (first | with_reducible exact hw | with_reducible exact hwc | with_reducible assumption | with_reducible apply Wf.sI | with_reducible apply Wf.sL | with_reducible apply Wf.cpI | with_reducible apply Wf.cpL | with_reducible apply Wf.cp2 | with_reducible apply Wf.sIs | with_reducible apply Wf.sLs | with_reducible apply Wf.cpU | with_reducible apply Wf.fillI | with_reducible apply Wf.clU | with_reducible apply Wf.dnF | with_reducible apply Wf.gbW | with_reducible apply Wf.cpXf | with_reducible apply Wf.cpYf | with_reducible apply Wf.mkUf | with_reducible apply Wf.bkUf)) 2) rfl dX11_advance_54 yk_X11_refuses im_X11_refuses se_X11_refuses ml_X11_407 rfl (co_338 (by repeat (first | with_reducible exact hw | with_reducible exact hwc | with_reducible assumption | with_reducible apply Wf.sI | with_reducible apply Wf.sL | with_reducible apply Wf.cpI | with_reducible apply Wf.cpL | with_reducible apply Wf.cp2 | with_reducible apply Wf.sIs | with_reducible apply Wf.sLs | with_reducible apply Wf.cpU | with_reducible apply Wf.fillI | with_reducible apply Wf.clU | with_reducible apply Wf.dnF | with_reducible apply Wf.gbW | with_reducible apply Wf.cpXf | with_reducible apply Wf.cpYf | with_reducible apply Wf.mkUf | with_reducible apply Wf.bkUf))) (by decide) hc_X11 (by decide) (by decide) (Nat.le_of_ble_eq_true rfl)) ?_
  refine lf2 (a_if_eq (tgt := 62) dX11_advance_57 (by decide)) (fun h57 => ?_) (fun h57 => absurd h57 (fun z => z rfl))
  refine lf (a_aload_n dX11_advance_62 rfl) ?_
  obtain ⟨v_, W63, k63, rfl, hR⟩ := (v_rem (MtQ.of2 hw) h hp)
  have hwR := hR.1
  have hnR := hR.2.1
  have hvR := hnR.1
  refine lf (a_inv (b2 := (0, 0)) k63 rfl dX11_advance_63 yk_X11_remembers im_X11_remembers se_X11_remembers ml_X11_410 rfl (co_338 (by repeat (first | with_reducible exact hw | with_reducible exact hwc | with_reducible assumption | with_reducible apply Wf.sI | with_reducible apply Wf.sL | with_reducible apply Wf.cpI | with_reducible apply Wf.cpL | with_reducible apply Wf.cp2 | with_reducible apply Wf.sIs | with_reducible apply Wf.sLs | with_reducible apply Wf.cpU | with_reducible apply Wf.fillI | with_reducible apply Wf.clU | with_reducible apply Wf.dnF | with_reducible apply Wf.gbW | with_reducible apply Wf.cpXf | with_reducible apply Wf.cpYf | with_reducible apply Wf.mkUf | with_reducible apply Wf.bkUf))) (by decide) hc_X11 (by decide) (by decide) (Nat.le_of_ble_eq_true rfl)) ?_
  refine lf (a_aload_n dX11_advance_66 rfl) ?_
  refine lf (a_getR (cr_338_6 (by repeat (first | with_reducible exact hw | with_reducible exact hwc | with_reducible assumption | with_reducible apply Wf.sI | with_reducible apply Wf.sL | with_reducible apply Wf.cpI | with_reducible apply Wf.cpL | with_reducible apply Wf.cp2 | with_reducible apply Wf.sIs | with_reducible apply Wf.sLs | with_reducible apply Wf.cpU | with_reducible apply Wf.fillI | with_reducible apply Wf.clU | with_reducible apply Wf.dnF | with_reducible apply Wf.gbW | with_reducible apply Wf.cpXf | with_reducible apply Wf.cpYf | with_reducible apply Wf.mkUf | with_reducible apply Wf.bkUf))) dX11_advance_67 fs_X11_26 rfl (co_338 (by repeat (first | with_reducible exact hw | with_reducible exact hwc | with_reducible assumption | with_reducible apply Wf.sI | with_reducible apply Wf.sL | with_reducible apply Wf.cpI | with_reducible apply Wf.cpL | with_reducible apply Wf.cp2 | with_reducible apply Wf.sIs | with_reducible apply Wf.sLs | with_reducible apply Wf.cpU | with_reducible apply Wf.fillI | with_reducible apply Wf.clU | with_reducible apply Wf.dnF | with_reducible apply Wf.gbW | with_reducible apply Wf.cpXf | with_reducible apply Wf.cpYf | with_reducible apply Wf.mkUf | with_reducible apply Wf.bkUf)))) ?_
  refine lf (a_iconst (2 : Int32) dX11_advance_70 (by decide)) ?_
  refine lf (a_aload_n dX11_advance_71 rfl) ?_
  refine lf (a_getR (cr_338_6 (by repeat (first | with_reducible exact hw | with_reducible exact hwc | with_reducible assumption | with_reducible apply Wf.sI | with_reducible apply Wf.sL | with_reducible apply Wf.cpI | with_reducible apply Wf.cpL | with_reducible apply Wf.cp2 | with_reducible apply Wf.sIs | with_reducible apply Wf.sLs | with_reducible apply Wf.cpU | with_reducible apply Wf.fillI | with_reducible apply Wf.clU | with_reducible apply Wf.dnF | with_reducible apply Wf.gbW | with_reducible apply Wf.cpXf | with_reducible apply Wf.cpYf | with_reducible apply Wf.mkUf | with_reducible apply Wf.bkUf))) dX11_advance_72 fs_X11_26 rfl (co_338 (by repeat (first | with_reducible exact hw | with_reducible exact hwc | with_reducible assumption | with_reducible apply Wf.sI | with_reducible apply Wf.sL | with_reducible apply Wf.cpI | with_reducible apply Wf.cpL | with_reducible apply Wf.cp2 | with_reducible apply Wf.sIs | with_reducible apply Wf.sLs | with_reducible apply Wf.cpU | with_reducible apply Wf.fillI | with_reducible apply Wf.clU | with_reducible apply Wf.dnF | with_reducible apply Wf.gbW | with_reducible apply Wf.cpXf | with_reducible apply Wf.cpYf | with_reducible apply Wf.mkUf | with_reducible apply Wf.bkUf)))) ?_
  refine lf (a_iconst (2 : Int32) dX11_advance_75 (by decide)) ?_
  refine lf (a_ild dX11_advance_76 (ca_344 (by repeat (first | with_reducible exact hw | with_reducible exact hwc | with_reducible assumption | with_reducible apply Wf.sI | with_reducible apply Wf.sL | with_reducible apply Wf.cpI | with_reducible apply Wf.cpL | with_reducible apply Wf.cp2 | with_reducible apply Wf.sIs | with_reducible apply Wf.sLs | with_reducible apply Wf.cpU | with_reducible apply Wf.fillI | with_reducible apply Wf.clU | with_reducible apply Wf.dnF | with_reducible apply Wf.gbW | with_reducible apply Wf.cpXf | with_reducible apply Wf.cpYf | with_reducible apply Wf.mkUf | with_reducible apply Wf.bkUf))) (ixn (m := 2) (by omega) (by decide))) ?_
  rw [hvR.s2]
  refine lf (a_iload_n dX11_advance_77 rfl) ?_
  refine lf (a_isub dX11_advance_78) ?_
  refine lf (a_ist dX11_advance_79 (ca_344 (by repeat (first | with_reducible exact hw | with_reducible exact hwc | with_reducible assumption | with_reducible apply Wf.sI | with_reducible apply Wf.sL | with_reducible apply Wf.cpI | with_reducible apply Wf.cpL | with_reducible apply Wf.cp2 | with_reducible apply Wf.sIs | with_reducible apply Wf.sLs | with_reducible apply Wf.cpU | with_reducible apply Wf.fillI | with_reducible apply Wf.clU | with_reducible apply Wf.dnF | with_reducible apply Wf.gbW | with_reducible apply Wf.cpXf | with_reducible apply Wf.cpYf | with_reducible apply Wf.mkUf | with_reducible apply Wf.bkUf))) (ixn (m := 2) (by omega) (by decide))) ?_
  refine lf (a_iconst (0 : Int32) dX11_advance_80 (by decide)) ?_
  refine lf (a_istore_n dX11_advance_81 (by decide)) ?_
  have hvX := hvR.c6 (dF d 6 1 - nI n)
  have hAX : ArQ W63 (sI W63 344 2 (dF d 6 1 - nI n)) := ⟨(Out.rfl' hwR).sI (S := s344) rfl _ _, fun y hy => by rw [gI_sI, if_neg (by omega)]⟩
  obtain ⟨ea, ed⟩ := la_ad q (cellD d 6 1 (dF d 6 1 - nI n))
  have hlo := adM_lo q (dU (cellD d 6 1 (dF d 6 1 - nI n))) 0 (cellD d 6 1 (dF d 6 1 - nI n))
  rw [← ea]
  have h02 : dF (cellD d 6 1 (dF d 6 1 - nI n)) 6 0 = 0 := (cell_ne d _ (by omega)).trans h0
  revert hvX hAX
  generalize sI W63 344 2 (dF d 6 1 - nI n) = X
  intro hvX hAX
  refine lf (a_loc [(0, .ref 338), (2, .int 0)] rfl) (l_X11_advance_82 hq0 (dU (cellD d 6 1 (dF d 6 1 - nI n))) 0 X (cellD d 6 1 (dF d 6 1 - nI n)) rfl hAX.1.wf hvX hd3 (fun V hA hvV => ?_))
  refine lf (a_iload_n dX11_advance_118 rfl) ?_
  refine ⟨_, _, (a_ireturn dX11_advance_119 rfl rfl), ?_⟩
  exact ⟨_, rfl, rfl, MaQ.ar hR hvV (hAX.trans hA) h0 hlo.1 hlo.2.1 (hlo.2.2.trans h02) ed⟩
abbrev R_X11_whyNotTopUp : Room := { frames := 2, cells := 0, slots := 0, locals := 42 }
abbrev RX_X11_whyNotTopUp : Room := { frames := 2, cells := 1, slots := 6, locals := 42 }

theorem m_wnt_1 (hw : Wf μ) (hv : MdV μ q d) (hg : ¬ goD q d) : Ct Y_X11_whyNotTopUp R_X11_whyNotTopUp [.ref 338] μ (.inl (some (.int (1)))) μ := by
  refine Ct.ent yk_X11_whyNotTopUp (Nat.le_of_ble_eq_true rfl) ?_
  refine a_aload_n dX11_whyNotTopUp_0 rfl ?_
  refine a_inv (b2 := (0, 0)) (Ct.int (ngo_in hg) (m_isGoing hw hv)) rfl dX11_whyNotTopUp_1 yk_X11_isGoing im_X11_isGoing se_X11_isGoing ml_X11_401 rfl (co_338 hw) (by decide) hc_X11 (by decide) (by decide) (Nat.le_of_ble_eq_true rfl) ?_
  refine a_if_ne (tgt := 9) dX11_whyNotTopUp_4 (by decide) (fun h4 => absurd h4 (fun z => z rfl)) (fun h4 => ?_)
  refine a_iconst (1 : Int32) dX11_whyNotTopUp_7 (by decide) ?_
  exact a_out rfl rfl (a_ireturn dX11_whyNotTopUp_8 rfl rfl)

theorem m_wnt_5 (hw : Wf μ) (hv : MdV μ q d) (hgo : goD q d) (hU : dU d = 6) : Ct Y_X11_whyNotTopUp R_X11_whyNotTopUp [.ref 338] μ (.inl (some (.int (5)))) μ := by
  refine Ct.ent yk_X11_whyNotTopUp (Nat.le_of_ble_eq_true rfl) ?_
  refine a_aload_n dX11_whyNotTopUp_0 rfl ?_
  refine a_inv (b2 := (0, 0)) (Ct.int (go_in hgo) (m_isGoing hw hv)) rfl dX11_whyNotTopUp_1 yk_X11_isGoing im_X11_isGoing se_X11_isGoing ml_X11_401 rfl (co_338 hw) (by decide) hc_X11 (by decide) (by decide) (Nat.le_of_ble_eq_true rfl) ?_
  refine a_if_ne (tgt := 9) dX11_whyNotTopUp_4 (by decide) (fun h4 => ?_) (fun h4 => absurd h4 (by decide))
  refine a_aload_n dX11_whyNotTopUp_9 rfl ?_
  refine a_getR (cr_338_6 hw) dX11_whyNotTopUp_10 fs_X11_26 rfl (co_338 hw) ?_
  refine a_iconst (4 : Int32) dX11_whyNotTopUp_13 (by decide) ?_
  refine a_ild dX11_whyNotTopUp_14 (ca_344 hw) (ixn (m := 4) (by omega) (by decide)) ?_
  rw [hv.s4]
  refine a_bipush (6 : Int32) dX11_whyNotTopUp_15 (by decide) ?_
  refine a_icmp_ne (tgt := 22) dX11_whyNotTopUp_17 (by decide) (fun h17 => absurd h17 (fun z => z (by rw [hU]; rfl))) (fun h17 => ?_)
  refine a_iconst (5 : Int32) dX11_whyNotTopUp_20 (by decide) ?_
  exact a_out rfl rfl (a_ireturn dX11_whyNotTopUp_21 rfl rfl)

theorem m_wnt_6 (hw : Wf μ) (hv : MdV μ q d) (hgo : goD q d) (hU : dU d < 6) (hle : ¬ pF q 9 3 ≤ dF d 6 1) : Ct Y_X11_whyNotTopUp R_X11_whyNotTopUp [.ref 338] μ (.inl (some (.int (6)))) μ := by
  refine Ct.ent yk_X11_whyNotTopUp (Nat.le_of_ble_eq_true rfl) ?_
  refine a_aload_n dX11_whyNotTopUp_0 rfl ?_
  refine a_inv (b2 := (0, 0)) (Ct.int (go_in hgo) (m_isGoing hw hv)) rfl dX11_whyNotTopUp_1 yk_X11_isGoing im_X11_isGoing se_X11_isGoing ml_X11_401 rfl (co_338 hw) (by decide) hc_X11 (by decide) (by decide) (Nat.le_of_ble_eq_true rfl) ?_
  refine a_if_ne (tgt := 9) dX11_whyNotTopUp_4 (by decide) (fun h4 => ?_) (fun h4 => absurd h4 (by decide))
  refine a_aload_n dX11_whyNotTopUp_9 rfl ?_
  refine a_getR (cr_338_6 hw) dX11_whyNotTopUp_10 fs_X11_26 rfl (co_338 hw) ?_
  refine a_iconst (4 : Int32) dX11_whyNotTopUp_13 (by decide) ?_
  refine a_ild dX11_whyNotTopUp_14 (ca_344 hw) (ixn (m := 4) (by omega) (by decide)) ?_
  rw [hv.s4]
  refine a_bipush (6 : Int32) dX11_whyNotTopUp_15 (by decide) ?_
  refine a_icmp_ne (tgt := 22) dX11_whyNotTopUp_17 (by decide) (fun h17 => ?_) (fun h17 => absurd h17 (fun z => absurd ((nI_eqI (a := dU d) (b := 6) (by omega) (by decide)).mp z) (by omega)))
  refine a_aload_n dX11_whyNotTopUp_22 rfl ?_
  refine a_getR (cr_338_6 hw) dX11_whyNotTopUp_23 fs_X11_26 rfl (co_338 hw) ?_
  refine a_iconst (2 : Int32) dX11_whyNotTopUp_26 (by decide) ?_
  refine a_ild dX11_whyNotTopUp_27 (ca_344 hw) (ixn (m := 2) (by omega) (by decide)) ?_
  rw [hv.s2]
  refine a_aload_n dX11_whyNotTopUp_28 rfl ?_
  refine a_getR (cr_338_1 hw) dX11_whyNotTopUp_29 fs_X11_7 rfl (co_338 hw) ?_
  refine a_iconst (4 : Int32) dX11_whyNotTopUp_32 (by decide) ?_
  refine a_ild dX11_whyNotTopUp_33 (ca_339 hw) (ixn (m := 4) (by omega) (by decide)) ?_
  rw [hv.p4]
  refine a_icmp_ge (tgt := 42) dX11_whyNotTopUp_34 (by decide) (fun h34 => absurd h34 hle) (fun h34 => ?_)
  refine a_bipush (6 : Int32) dX11_whyNotTopUp_37 (by decide) ?_
  refine a_goto (tgt := 43) dX11_whyNotTopUp_39 (by decide) ?_
  exact a_out rfl rfl (a_ireturn dX11_whyNotTopUp_43 rfl rfl)

theorem m_wnt_0 (hw : Wf μ) (hv : MdV μ q d) (hgo : goD q d) (hU : dU d < 6) (hle : pF q 9 3 ≤ dF d 6 1) : Ct Y_X11_whyNotTopUp R_X11_whyNotTopUp [.ref 338] μ (.inl (some (.int (0)))) μ := by
  refine Ct.ent yk_X11_whyNotTopUp (Nat.le_of_ble_eq_true rfl) ?_
  refine a_aload_n dX11_whyNotTopUp_0 rfl ?_
  refine a_inv (b2 := (0, 0)) (Ct.int (go_in hgo) (m_isGoing hw hv)) rfl dX11_whyNotTopUp_1 yk_X11_isGoing im_X11_isGoing se_X11_isGoing ml_X11_401 rfl (co_338 hw) (by decide) hc_X11 (by decide) (by decide) (Nat.le_of_ble_eq_true rfl) ?_
  refine a_if_ne (tgt := 9) dX11_whyNotTopUp_4 (by decide) (fun h4 => ?_) (fun h4 => absurd h4 (by decide))
  refine a_aload_n dX11_whyNotTopUp_9 rfl ?_
  refine a_getR (cr_338_6 hw) dX11_whyNotTopUp_10 fs_X11_26 rfl (co_338 hw) ?_
  refine a_iconst (4 : Int32) dX11_whyNotTopUp_13 (by decide) ?_
  refine a_ild dX11_whyNotTopUp_14 (ca_344 hw) (ixn (m := 4) (by omega) (by decide)) ?_
  rw [hv.s4]
  refine a_bipush (6 : Int32) dX11_whyNotTopUp_15 (by decide) ?_
  refine a_icmp_ne (tgt := 22) dX11_whyNotTopUp_17 (by decide) (fun h17 => ?_) (fun h17 => absurd h17 (fun z => absurd ((nI_eqI (a := dU d) (b := 6) (by omega) (by decide)).mp z) (by omega)))
  refine a_aload_n dX11_whyNotTopUp_22 rfl ?_
  refine a_getR (cr_338_6 hw) dX11_whyNotTopUp_23 fs_X11_26 rfl (co_338 hw) ?_
  refine a_iconst (2 : Int32) dX11_whyNotTopUp_26 (by decide) ?_
  refine a_ild dX11_whyNotTopUp_27 (ca_344 hw) (ixn (m := 2) (by omega) (by decide)) ?_
  rw [hv.s2]
  refine a_aload_n dX11_whyNotTopUp_28 rfl ?_
  refine a_getR (cr_338_1 hw) dX11_whyNotTopUp_29 fs_X11_7 rfl (co_338 hw) ?_
  refine a_iconst (4 : Int32) dX11_whyNotTopUp_32 (by decide) ?_
  refine a_ild dX11_whyNotTopUp_33 (ca_339 hw) (ixn (m := 4) (by omega) (by decide)) ?_
  rw [hv.p4]
  refine a_icmp_ge (tgt := 42) dX11_whyNotTopUp_34 (by decide) (fun h34 => ?_) (fun h34 => absurd h34 (fun z => z hle))
  refine a_iconst (0 : Int32) dX11_whyNotTopUp_42 (by decide) ?_
  exact a_out rfl rfl (a_ireturn dX11_whyNotTopUp_43 rfl rfl)
abbrev R_X11_topUp : Room := { frames := 4, cells := 0, slots := 0, locals := 90 }
abbrev RX_X11_topUp : Room := { frames := 4, cells := 1, slots := 6, locals := 90 }

theorem mx_topUp (hw : Wf μ) (h : MnV μ q d) {x y : Int32} (hx : ixO x (pM q) = none) : Ct Y_X11_topUp R_X11_topUp [.ref 338, .int x, .int y] μ (.inl (some (.int 0))) (sI μ 338 0 1) := by
  have hv := h.1
  have hM4 := hv.M4
  have hT4 := hv.T4
  have hP4 := hv.P4
  have hC4 := hv.C4
  have hU4 := hv.U4
  have hw1 : Wf (sI μ 338 0 0) := hw.sI
  have hv1 : MdV (sI μ 338 0 0) q d := hv.th 0
  refine Ct.ent yk_X11_topUp (Nat.le_of_ble_eq_true rfl) ?_
  refine a_aload_n dX11_topUp_0 rfl ?_
  refine a_aload_n dX11_topUp_1 rfl ?_
  refine a_iload_n dX11_topUp_2 rfl ?_
  refine a_iload_n dX11_topUp_3 rfl ?_
  refine a_inv (b2 := (0, 0)) (Ct.int (by rw [hx]) (m_wrongUnits (by repeat (first | with_reducible exact hw | with_reducible exact hwc | with_reducible assumption | with_reducible apply Wf.sI | with_reducible apply Wf.sL | with_reducible apply Wf.cpI | with_reducible apply Wf.cpL | with_reducible apply Wf.cp2 | with_reducible apply Wf.sIs | with_reducible apply Wf.sLs | with_reducible apply Wf.cpU | with_reducible apply Wf.fillI | with_reducible apply Wf.clU | with_reducible apply Wf.dnF | with_reducible apply Wf.gbW | with_reducible apply Wf.cpXf | with_reducible apply Wf.cpYf | with_reducible apply Wf.mkUf | with_reducible apply Wf.bkUf)) hv x y)) rfl dX11_topUp_4 yk_X11_wrongUnits im_X11_wrongUnits se_X11_wrongUnits ml_X11_428 rfl (co_338 (by repeat (first | with_reducible exact hw | with_reducible exact hwc | with_reducible assumption | with_reducible apply Wf.sI | with_reducible apply Wf.sL | with_reducible apply Wf.cpI | with_reducible apply Wf.cpL | with_reducible apply Wf.cp2 | with_reducible apply Wf.sIs | with_reducible apply Wf.sLs | with_reducible apply Wf.cpU | with_reducible apply Wf.fillI | with_reducible apply Wf.clU | with_reducible apply Wf.dnF | with_reducible apply Wf.gbW | with_reducible apply Wf.cpXf | with_reducible apply Wf.cpYf | with_reducible apply Wf.mkUf | with_reducible apply Wf.bkUf))) (by decide) hc_X11 (by decide) (by decide) (Nat.le_of_ble_eq_true rfl) ?_
  refine a_inv (b2 := (0, 0)) (m_isRefused1 (by repeat (first | with_reducible exact hw | with_reducible exact hwc | with_reducible assumption | with_reducible apply Wf.sI | with_reducible apply Wf.sL | with_reducible apply Wf.cpI | with_reducible apply Wf.cpL | with_reducible apply Wf.cp2 | with_reducible apply Wf.sIs | with_reducible apply Wf.sLs | with_reducible apply Wf.cpU | with_reducible apply Wf.fillI | with_reducible apply Wf.clU | with_reducible apply Wf.dnF | with_reducible apply Wf.gbW | with_reducible apply Wf.cpXf | with_reducible apply Wf.cpYf | with_reducible apply Wf.mkUf | with_reducible apply Wf.bkUf)) (v := 1) (by decide)) rfl dX11_topUp_7 yk_X11_isRefused im_X11_isRefused se_X11_isRefused ml_X11_98 rfl (co_338 (by repeat (first | with_reducible exact hw | with_reducible exact hwc | with_reducible assumption | with_reducible apply Wf.sI | with_reducible apply Wf.sL | with_reducible apply Wf.cpI | with_reducible apply Wf.cpL | with_reducible apply Wf.cp2 | with_reducible apply Wf.sIs | with_reducible apply Wf.sLs | with_reducible apply Wf.cpU | with_reducible apply Wf.fillI | with_reducible apply Wf.clU | with_reducible apply Wf.dnF | with_reducible apply Wf.gbW | with_reducible apply Wf.cpXf | with_reducible apply Wf.cpYf | with_reducible apply Wf.mkUf | with_reducible apply Wf.bkUf))) (by decide) hc_X11 (by decide) (by decide) (Nat.le_of_ble_eq_true rfl) ?_
  refine a_if_eq (tgt := 15) dX11_topUp_10 (by decide) (fun h10 => absurd h10 (by decide)) (fun h10 => ?_)
  refine a_iconst (0 : Int32) dX11_topUp_13 (by decide) ?_
  exact a_out rfl rfl (a_ireturn dX11_topUp_14 rfl rfl)

theorem my_topUp (hw : Wf μ) (h : MnV μ q d) {m : Nat} (hm : m < pM q) {y : Int32} (hy : unO y = none) : Ct Y_X11_topUp R_X11_topUp [.ref 338, .int (nI m), .int y] μ (.inl (some (.int 0))) (sI μ 338 0 2) := by
  have hv := h.1
  have hM4 := hv.M4
  have hT4 := hv.T4
  have hP4 := hv.P4
  have hC4 := hv.C4
  have hU4 := hv.U4
  have hw1 : Wf (sI μ 338 0 0) := hw.sI
  have hv1 : MdV (sI μ 338 0 0) q d := hv.th 0
  refine Ct.ent yk_X11_topUp (Nat.le_of_ble_eq_true rfl) ?_
  refine a_aload_n dX11_topUp_0 rfl ?_
  refine a_aload_n dX11_topUp_1 rfl ?_
  refine a_iload_n dX11_topUp_2 rfl ?_
  refine a_iload_n dX11_topUp_3 rfl ?_
  refine a_inv (b2 := (0, 0)) (Ct.int (by rw [ixO_of hm (by omega), hy]) (m_wrongUnits (by repeat (first | with_reducible exact hw | with_reducible exact hwc | with_reducible assumption | with_reducible apply Wf.sI | with_reducible apply Wf.sL | with_reducible apply Wf.cpI | with_reducible apply Wf.cpL | with_reducible apply Wf.cp2 | with_reducible apply Wf.sIs | with_reducible apply Wf.sLs | with_reducible apply Wf.cpU | with_reducible apply Wf.fillI | with_reducible apply Wf.clU | with_reducible apply Wf.dnF | with_reducible apply Wf.gbW | with_reducible apply Wf.cpXf | with_reducible apply Wf.cpYf | with_reducible apply Wf.mkUf | with_reducible apply Wf.bkUf)) hv (nI m) y)) rfl dX11_topUp_4 yk_X11_wrongUnits im_X11_wrongUnits se_X11_wrongUnits ml_X11_428 rfl (co_338 (by repeat (first | with_reducible exact hw | with_reducible exact hwc | with_reducible assumption | with_reducible apply Wf.sI | with_reducible apply Wf.sL | with_reducible apply Wf.cpI | with_reducible apply Wf.cpL | with_reducible apply Wf.cp2 | with_reducible apply Wf.sIs | with_reducible apply Wf.sLs | with_reducible apply Wf.cpU | with_reducible apply Wf.fillI | with_reducible apply Wf.clU | with_reducible apply Wf.dnF | with_reducible apply Wf.gbW | with_reducible apply Wf.cpXf | with_reducible apply Wf.cpYf | with_reducible apply Wf.mkUf | with_reducible apply Wf.bkUf))) (by decide) hc_X11 (by decide) (by decide) (Nat.le_of_ble_eq_true rfl) ?_
  refine a_inv (b2 := (0, 0)) (m_isRefused1 (by repeat (first | with_reducible exact hw | with_reducible exact hwc | with_reducible assumption | with_reducible apply Wf.sI | with_reducible apply Wf.sL | with_reducible apply Wf.cpI | with_reducible apply Wf.cpL | with_reducible apply Wf.cp2 | with_reducible apply Wf.sIs | with_reducible apply Wf.sLs | with_reducible apply Wf.cpU | with_reducible apply Wf.fillI | with_reducible apply Wf.clU | with_reducible apply Wf.dnF | with_reducible apply Wf.gbW | with_reducible apply Wf.cpXf | with_reducible apply Wf.cpYf | with_reducible apply Wf.mkUf | with_reducible apply Wf.bkUf)) (v := 2) (by decide)) rfl dX11_topUp_7 yk_X11_isRefused im_X11_isRefused se_X11_isRefused ml_X11_98 rfl (co_338 (by repeat (first | with_reducible exact hw | with_reducible exact hwc | with_reducible assumption | with_reducible apply Wf.sI | with_reducible apply Wf.sL | with_reducible apply Wf.cpI | with_reducible apply Wf.cpL | with_reducible apply Wf.cp2 | with_reducible apply Wf.sIs | with_reducible apply Wf.sLs | with_reducible apply Wf.cpU | with_reducible apply Wf.fillI | with_reducible apply Wf.clU | with_reducible apply Wf.dnF | with_reducible apply Wf.gbW | with_reducible apply Wf.cpXf | with_reducible apply Wf.cpYf | with_reducible apply Wf.mkUf | with_reducible apply Wf.bkUf))) (by decide) hc_X11 (by decide) (by decide) (Nat.le_of_ble_eq_true rfl) ?_
  refine a_if_eq (tgt := 15) dX11_topUp_10 (by decide) (fun h10 => absurd h10 (by decide)) (fun h10 => ?_)
  refine a_iconst (0 : Int32) dX11_topUp_13 (by decide) ?_
  exact a_out rfl rfl (a_ireturn dX11_topUp_14 rfl rfl)

theorem mp_topUp (hw : Wf μ) (h : MnV μ q d) (hg : ¬ goD q d) {m n : Nat} (hm : m < pM q) (g1 : 1 ≤ n) (g2 : n ≤ 99) : CV Y_X11_topUp R_X11_topUp [.ref 338, .int (nI m), .int (nI n)] μ (fun v V => v = some (.int 0) ∧ MrQ μ 1 3 V) := by
  have hv := h.1
  have hM4 := hv.M4
  have hT4 := hv.T4
  have hP4 := hv.P4
  have hC4 := hv.C4
  have hU4 := hv.U4
  have hw1 : Wf (sI μ 338 0 0) := hw.sI
  have hv1 : MdV (sI μ 338 0 0) q d := hv.th 0
  refine CV.ent yk_X11_topUp (Nat.le_of_ble_eq_true rfl) ?_
  refine lf (a_aload_n dX11_topUp_0 rfl) ?_
  refine lf (a_aload_n dX11_topUp_1 rfl) ?_
  refine lf (a_iload_n dX11_topUp_2 rfl) ?_
  refine lf (a_iload_n dX11_topUp_3 rfl) ?_
  refine lf (a_inv (b2 := (0, 0)) (Ct.int (by rw [ixO_of hm (by omega), unO_of g1 g2]) (m_wrongUnits (by repeat (first | with_reducible exact hw | with_reducible exact hwc | with_reducible assumption | with_reducible apply Wf.sI | with_reducible apply Wf.sL | with_reducible apply Wf.cpI | with_reducible apply Wf.cpL | with_reducible apply Wf.cp2 | with_reducible apply Wf.sIs | with_reducible apply Wf.sLs | with_reducible apply Wf.cpU | with_reducible apply Wf.fillI | with_reducible apply Wf.clU | with_reducible apply Wf.dnF | with_reducible apply Wf.gbW | with_reducible apply Wf.cpXf | with_reducible apply Wf.cpYf | with_reducible apply Wf.mkUf | with_reducible apply Wf.bkUf)) hv (nI m) (nI n))) rfl dX11_topUp_4 yk_X11_wrongUnits im_X11_wrongUnits se_X11_wrongUnits ml_X11_428 rfl (co_338 (by repeat (first | with_reducible exact hw | with_reducible exact hwc | with_reducible assumption | with_reducible apply Wf.sI | with_reducible apply Wf.sL | with_reducible apply Wf.cpI | with_reducible apply Wf.cpL | with_reducible apply Wf.cp2 | with_reducible apply Wf.sIs | with_reducible apply Wf.sLs | with_reducible apply Wf.cpU | with_reducible apply Wf.fillI | with_reducible apply Wf.clU | with_reducible apply Wf.dnF | with_reducible apply Wf.gbW | with_reducible apply Wf.cpXf | with_reducible apply Wf.cpYf | with_reducible apply Wf.mkUf | with_reducible apply Wf.bkUf))) (by decide) hc_X11 (by decide) (by decide) (Nat.le_of_ble_eq_true rfl)) ?_
  refine lf (a_inv (b2 := (0, 0)) (m_isRefused0 (by repeat (first | with_reducible exact hw | with_reducible exact hwc | with_reducible assumption | with_reducible apply Wf.sI | with_reducible apply Wf.sL | with_reducible apply Wf.cpI | with_reducible apply Wf.cpL | with_reducible apply Wf.cp2 | with_reducible apply Wf.sIs | with_reducible apply Wf.sLs | with_reducible apply Wf.cpU | with_reducible apply Wf.fillI | with_reducible apply Wf.clU | with_reducible apply Wf.dnF | with_reducible apply Wf.gbW | with_reducible apply Wf.cpXf | with_reducible apply Wf.cpYf | with_reducible apply Wf.mkUf | with_reducible apply Wf.bkUf))) rfl dX11_topUp_7 yk_X11_isRefused im_X11_isRefused se_X11_isRefused ml_X11_98 rfl (co_338 (by repeat (first | with_reducible exact hw | with_reducible exact hwc | with_reducible assumption | with_reducible apply Wf.sI | with_reducible apply Wf.sL | with_reducible apply Wf.cpI | with_reducible apply Wf.cpL | with_reducible apply Wf.cp2 | with_reducible apply Wf.sIs | with_reducible apply Wf.sLs | with_reducible apply Wf.cpU | with_reducible apply Wf.fillI | with_reducible apply Wf.clU | with_reducible apply Wf.dnF | with_reducible apply Wf.gbW | with_reducible apply Wf.cpXf | with_reducible apply Wf.cpYf | with_reducible apply Wf.mkUf | with_reducible apply Wf.bkUf))) (by decide) hc_X11 (by decide) (by decide) (Nat.le_of_ble_eq_true rfl)) ?_
  refine lf2 (a_if_eq (tgt := 15) dX11_topUp_10 (by decide)) (fun h10 => ?_) (fun h10 => absurd h10 (fun z => z rfl))
  refine lf (a_aload_n dX11_topUp_15 rfl) ?_
  refine lf (a_aload_n dX11_topUp_16 rfl) ?_
  refine lf (a_inv (b2 := (0, 0)) (m_wnt_1 (by repeat (first | with_reducible exact hw | with_reducible exact hwc | with_reducible assumption | with_reducible apply Wf.sI | with_reducible apply Wf.sL | with_reducible apply Wf.cpI | with_reducible apply Wf.cpL | with_reducible apply Wf.cp2 | with_reducible apply Wf.sIs | with_reducible apply Wf.sLs | with_reducible apply Wf.cpU | with_reducible apply Wf.fillI | with_reducible apply Wf.clU | with_reducible apply Wf.dnF | with_reducible apply Wf.gbW | with_reducible apply Wf.cpXf | with_reducible apply Wf.cpYf | with_reducible apply Wf.mkUf | with_reducible apply Wf.bkUf)) (h.1.th 0) hg) rfl dX11_topUp_17 yk_X11_whyNotTopUp im_X11_whyNotTopUp se_X11_whyNotTopUp ml_X11_434 rfl (co_338 (by repeat (first | with_reducible exact hw | with_reducible exact hwc | with_reducible assumption | with_reducible apply Wf.sI | with_reducible apply Wf.sL | with_reducible apply Wf.cpI | with_reducible apply Wf.cpL | with_reducible apply Wf.cp2 | with_reducible apply Wf.sIs | with_reducible apply Wf.sLs | with_reducible apply Wf.cpU | with_reducible apply Wf.fillI | with_reducible apply Wf.clU | with_reducible apply Wf.dnF | with_reducible apply Wf.gbW | with_reducible apply Wf.cpXf | with_reducible apply Wf.cpYf | with_reducible apply Wf.mkUf | with_reducible apply Wf.bkUf))) (by decide) hc_X11 (by decide) (by decide) (Nat.le_of_ble_eq_true rfl)) ?_
  refine lf (a_iconst (3 : Int32) dX11_topUp_20 (by decide)) ?_
  refine lf (a_inv (b2 := (0, 0)) (m_refuses1 (by repeat (first | with_reducible exact hw | with_reducible exact hwc | with_reducible assumption | with_reducible apply Wf.sI | with_reducible apply Wf.sL | with_reducible apply Wf.cpI | with_reducible apply Wf.cpL | with_reducible apply Wf.cp2 | with_reducible apply Wf.sIs | with_reducible apply Wf.sLs | with_reducible apply Wf.cpU | with_reducible apply Wf.fillI | with_reducible apply Wf.clU | with_reducible apply Wf.dnF | with_reducible apply Wf.gbW | with_reducible apply Wf.cpXf | with_reducible apply Wf.cpYf | with_reducible apply Wf.mkUf | with_reducible apply Wf.bkUf)) (y := 1) (w := 3) (by decide) (by decide)) rfl dX11_topUp_21 yk_X11_refuses im_X11_refuses se_X11_refuses ml_X11_407 rfl (co_338 (by repeat (first | with_reducible exact hw | with_reducible exact hwc | with_reducible assumption | with_reducible apply Wf.sI | with_reducible apply Wf.sL | with_reducible apply Wf.cpI | with_reducible apply Wf.cpL | with_reducible apply Wf.cp2 | with_reducible apply Wf.sIs | with_reducible apply Wf.sLs | with_reducible apply Wf.cpU | with_reducible apply Wf.fillI | with_reducible apply Wf.clU | with_reducible apply Wf.dnF | with_reducible apply Wf.gbW | with_reducible apply Wf.cpXf | with_reducible apply Wf.cpYf | with_reducible apply Wf.mkUf | with_reducible apply Wf.bkUf))) (by decide) hc_X11 (by decide) (by decide) (Nat.le_of_ble_eq_true rfl)) ?_
  refine lf2 (a_if_eq (tgt := 29) dX11_topUp_24 (by decide)) (fun h24 => absurd h24 (by decide)) (fun h24 => ?_)
  refine lf (a_iconst (0 : Int32) dX11_topUp_27 (by decide)) ?_
  refine ⟨_, _, (a_ireturn dX11_topUp_28 rfl rfl), ?_⟩
  exact ⟨_, rfl, rfl, MrQ.of (MtQ.of hw 0) 1 3⟩

theorem mr_topUp (hw : Wf μ) (h : MnV μ q d) (hgo : goD q d) {m n : Nat} (hm : m < pM q) (g1 : 1 ≤ n) (g2 : n ≤ 99) (hU : dU d = 6) : CV Y_X11_topUp R_X11_topUp [.ref 338, .int (nI m), .int (nI n)] μ (fun v V => v = some (.int 0) ∧ MrQ μ 5 3 V) := by
  have hv := h.1
  have hM4 := hv.M4
  have hT4 := hv.T4
  have hP4 := hv.P4
  have hC4 := hv.C4
  have hU4 := hv.U4
  have hw1 : Wf (sI μ 338 0 0) := hw.sI
  have hv1 : MdV (sI μ 338 0 0) q d := hv.th 0
  refine CV.ent yk_X11_topUp (Nat.le_of_ble_eq_true rfl) ?_
  refine lf (a_aload_n dX11_topUp_0 rfl) ?_
  refine lf (a_aload_n dX11_topUp_1 rfl) ?_
  refine lf (a_iload_n dX11_topUp_2 rfl) ?_
  refine lf (a_iload_n dX11_topUp_3 rfl) ?_
  refine lf (a_inv (b2 := (0, 0)) (Ct.int (by rw [ixO_of hm (by omega), unO_of g1 g2]) (m_wrongUnits (by repeat (first | with_reducible exact hw | with_reducible exact hwc | with_reducible assumption | with_reducible apply Wf.sI | with_reducible apply Wf.sL | with_reducible apply Wf.cpI | with_reducible apply Wf.cpL | with_reducible apply Wf.cp2 | with_reducible apply Wf.sIs | with_reducible apply Wf.sLs | with_reducible apply Wf.cpU | with_reducible apply Wf.fillI | with_reducible apply Wf.clU | with_reducible apply Wf.dnF | with_reducible apply Wf.gbW | with_reducible apply Wf.cpXf | with_reducible apply Wf.cpYf | with_reducible apply Wf.mkUf | with_reducible apply Wf.bkUf)) hv (nI m) (nI n))) rfl dX11_topUp_4 yk_X11_wrongUnits im_X11_wrongUnits se_X11_wrongUnits ml_X11_428 rfl (co_338 (by repeat (first | with_reducible exact hw | with_reducible exact hwc | with_reducible assumption | with_reducible apply Wf.sI | with_reducible apply Wf.sL | with_reducible apply Wf.cpI | with_reducible apply Wf.cpL | with_reducible apply Wf.cp2 | with_reducible apply Wf.sIs | with_reducible apply Wf.sLs | with_reducible apply Wf.cpU | with_reducible apply Wf.fillI | with_reducible apply Wf.clU | with_reducible apply Wf.dnF | with_reducible apply Wf.gbW | with_reducible apply Wf.cpXf | with_reducible apply Wf.cpYf | with_reducible apply Wf.mkUf | with_reducible apply Wf.bkUf))) (by decide) hc_X11 (by decide) (by decide) (Nat.le_of_ble_eq_true rfl)) ?_
  refine lf (a_inv (b2 := (0, 0)) (m_isRefused0 (by repeat (first | with_reducible exact hw | with_reducible exact hwc | with_reducible assumption | with_reducible apply Wf.sI | with_reducible apply Wf.sL | with_reducible apply Wf.cpI | with_reducible apply Wf.cpL | with_reducible apply Wf.cp2 | with_reducible apply Wf.sIs | with_reducible apply Wf.sLs | with_reducible apply Wf.cpU | with_reducible apply Wf.fillI | with_reducible apply Wf.clU | with_reducible apply Wf.dnF | with_reducible apply Wf.gbW | with_reducible apply Wf.cpXf | with_reducible apply Wf.cpYf | with_reducible apply Wf.mkUf | with_reducible apply Wf.bkUf))) rfl dX11_topUp_7 yk_X11_isRefused im_X11_isRefused se_X11_isRefused ml_X11_98 rfl (co_338 (by repeat (first | with_reducible exact hw | with_reducible exact hwc | with_reducible assumption | with_reducible apply Wf.sI | with_reducible apply Wf.sL | with_reducible apply Wf.cpI | with_reducible apply Wf.cpL | with_reducible apply Wf.cp2 | with_reducible apply Wf.sIs | with_reducible apply Wf.sLs | with_reducible apply Wf.cpU | with_reducible apply Wf.fillI | with_reducible apply Wf.clU | with_reducible apply Wf.dnF | with_reducible apply Wf.gbW | with_reducible apply Wf.cpXf | with_reducible apply Wf.cpYf | with_reducible apply Wf.mkUf | with_reducible apply Wf.bkUf))) (by decide) hc_X11 (by decide) (by decide) (Nat.le_of_ble_eq_true rfl)) ?_
  refine lf2 (a_if_eq (tgt := 15) dX11_topUp_10 (by decide)) (fun h10 => ?_) (fun h10 => absurd h10 (fun z => z rfl))
  refine lf (a_aload_n dX11_topUp_15 rfl) ?_
  refine lf (a_aload_n dX11_topUp_16 rfl) ?_
  refine lf (a_inv (b2 := (0, 0)) (m_wnt_5 (by repeat (first | with_reducible exact hw | with_reducible exact hwc | with_reducible assumption | with_reducible apply Wf.sI | with_reducible apply Wf.sL | with_reducible apply Wf.cpI | with_reducible apply Wf.cpL | with_reducible apply Wf.cp2 | with_reducible apply Wf.sIs | with_reducible apply Wf.sLs | with_reducible apply Wf.cpU | with_reducible apply Wf.fillI | with_reducible apply Wf.clU | with_reducible apply Wf.dnF | with_reducible apply Wf.gbW | with_reducible apply Wf.cpXf | with_reducible apply Wf.cpYf | with_reducible apply Wf.mkUf | with_reducible apply Wf.bkUf)) (h.1.th 0) hgo hU) rfl dX11_topUp_17 yk_X11_whyNotTopUp im_X11_whyNotTopUp se_X11_whyNotTopUp ml_X11_434 rfl (co_338 (by repeat (first | with_reducible exact hw | with_reducible exact hwc | with_reducible assumption | with_reducible apply Wf.sI | with_reducible apply Wf.sL | with_reducible apply Wf.cpI | with_reducible apply Wf.cpL | with_reducible apply Wf.cp2 | with_reducible apply Wf.sIs | with_reducible apply Wf.sLs | with_reducible apply Wf.cpU | with_reducible apply Wf.fillI | with_reducible apply Wf.clU | with_reducible apply Wf.dnF | with_reducible apply Wf.gbW | with_reducible apply Wf.cpXf | with_reducible apply Wf.cpYf | with_reducible apply Wf.mkUf | with_reducible apply Wf.bkUf))) (by decide) hc_X11 (by decide) (by decide) (Nat.le_of_ble_eq_true rfl)) ?_
  refine lf (a_iconst (3 : Int32) dX11_topUp_20 (by decide)) ?_
  refine lf (a_inv (b2 := (0, 0)) (m_refuses1 (by repeat (first | with_reducible exact hw | with_reducible exact hwc | with_reducible assumption | with_reducible apply Wf.sI | with_reducible apply Wf.sL | with_reducible apply Wf.cpI | with_reducible apply Wf.cpL | with_reducible apply Wf.cp2 | with_reducible apply Wf.sIs | with_reducible apply Wf.sLs | with_reducible apply Wf.cpU | with_reducible apply Wf.fillI | with_reducible apply Wf.clU | with_reducible apply Wf.dnF | with_reducible apply Wf.gbW | with_reducible apply Wf.cpXf | with_reducible apply Wf.cpYf | with_reducible apply Wf.mkUf | with_reducible apply Wf.bkUf)) (y := 5) (w := 3) (by decide) (by decide)) rfl dX11_topUp_21 yk_X11_refuses im_X11_refuses se_X11_refuses ml_X11_407 rfl (co_338 (by repeat (first | with_reducible exact hw | with_reducible exact hwc | with_reducible assumption | with_reducible apply Wf.sI | with_reducible apply Wf.sL | with_reducible apply Wf.cpI | with_reducible apply Wf.cpL | with_reducible apply Wf.cp2 | with_reducible apply Wf.sIs | with_reducible apply Wf.sLs | with_reducible apply Wf.cpU | with_reducible apply Wf.fillI | with_reducible apply Wf.clU | with_reducible apply Wf.dnF | with_reducible apply Wf.gbW | with_reducible apply Wf.cpXf | with_reducible apply Wf.cpYf | with_reducible apply Wf.mkUf | with_reducible apply Wf.bkUf))) (by decide) hc_X11 (by decide) (by decide) (Nat.le_of_ble_eq_true rfl)) ?_
  refine lf2 (a_if_eq (tgt := 29) dX11_topUp_24 (by decide)) (fun h24 => absurd h24 (by decide)) (fun h24 => ?_)
  refine lf (a_iconst (0 : Int32) dX11_topUp_27 (by decide)) ?_
  refine ⟨_, _, (a_ireturn dX11_topUp_28 rfl rfl), ?_⟩
  exact ⟨_, rfl, rfl, MrQ.of (MtQ.of hw 0) 5 3⟩

theorem ms_topUp (hw : Wf μ) (h : MnV μ q d) (hgo : goD q d) {m n : Nat} (hm : m < pM q) (g1 : 1 ≤ n) (g2 : n ≤ 99) (hU : dU d < 6) (hle : ¬ pF q 9 3 ≤ dF d 6 1) : CV Y_X11_topUp R_X11_topUp [.ref 338, .int (nI m), .int (nI n)] μ (fun v V => v = some (.int 0) ∧ MrQ μ 6 3 V) := by
  have hv := h.1
  have hM4 := hv.M4
  have hT4 := hv.T4
  have hP4 := hv.P4
  have hC4 := hv.C4
  have hU4 := hv.U4
  have hw1 : Wf (sI μ 338 0 0) := hw.sI
  have hv1 : MdV (sI μ 338 0 0) q d := hv.th 0
  refine CV.ent yk_X11_topUp (Nat.le_of_ble_eq_true rfl) ?_
  refine lf (a_aload_n dX11_topUp_0 rfl) ?_
  refine lf (a_aload_n dX11_topUp_1 rfl) ?_
  refine lf (a_iload_n dX11_topUp_2 rfl) ?_
  refine lf (a_iload_n dX11_topUp_3 rfl) ?_
  refine lf (a_inv (b2 := (0, 0)) (Ct.int (by rw [ixO_of hm (by omega), unO_of g1 g2]) (m_wrongUnits (by repeat (first | with_reducible exact hw | with_reducible exact hwc | with_reducible assumption | with_reducible apply Wf.sI | with_reducible apply Wf.sL | with_reducible apply Wf.cpI | with_reducible apply Wf.cpL | with_reducible apply Wf.cp2 | with_reducible apply Wf.sIs | with_reducible apply Wf.sLs | with_reducible apply Wf.cpU | with_reducible apply Wf.fillI | with_reducible apply Wf.clU | with_reducible apply Wf.dnF | with_reducible apply Wf.gbW | with_reducible apply Wf.cpXf | with_reducible apply Wf.cpYf | with_reducible apply Wf.mkUf | with_reducible apply Wf.bkUf)) hv (nI m) (nI n))) rfl dX11_topUp_4 yk_X11_wrongUnits im_X11_wrongUnits se_X11_wrongUnits ml_X11_428 rfl (co_338 (by repeat (first | with_reducible exact hw | with_reducible exact hwc | with_reducible assumption | with_reducible apply Wf.sI | with_reducible apply Wf.sL | with_reducible apply Wf.cpI | with_reducible apply Wf.cpL | with_reducible apply Wf.cp2 | with_reducible apply Wf.sIs | with_reducible apply Wf.sLs | with_reducible apply Wf.cpU | with_reducible apply Wf.fillI | with_reducible apply Wf.clU | with_reducible apply Wf.dnF | with_reducible apply Wf.gbW | with_reducible apply Wf.cpXf | with_reducible apply Wf.cpYf | with_reducible apply Wf.mkUf | with_reducible apply Wf.bkUf))) (by decide) hc_X11 (by decide) (by decide) (Nat.le_of_ble_eq_true rfl)) ?_
  refine lf (a_inv (b2 := (0, 0)) (m_isRefused0 (by repeat (first | with_reducible exact hw | with_reducible exact hwc | with_reducible assumption | with_reducible apply Wf.sI | with_reducible apply Wf.sL | with_reducible apply Wf.cpI | with_reducible apply Wf.cpL | with_reducible apply Wf.cp2 | with_reducible apply Wf.sIs | with_reducible apply Wf.sLs | with_reducible apply Wf.cpU | with_reducible apply Wf.fillI | with_reducible apply Wf.clU | with_reducible apply Wf.dnF | with_reducible apply Wf.gbW | with_reducible apply Wf.cpXf | with_reducible apply Wf.cpYf | with_reducible apply Wf.mkUf | with_reducible apply Wf.bkUf))) rfl dX11_topUp_7 yk_X11_isRefused im_X11_isRefused se_X11_isRefused ml_X11_98 rfl (co_338 (by repeat (first | with_reducible exact hw | with_reducible exact hwc | with_reducible assumption | with_reducible apply Wf.sI | with_reducible apply Wf.sL | with_reducible apply Wf.cpI | with_reducible apply Wf.cpL | with_reducible apply Wf.cp2 | with_reducible apply Wf.sIs | with_reducible apply Wf.sLs | with_reducible apply Wf.cpU | with_reducible apply Wf.fillI | with_reducible apply Wf.clU | with_reducible apply Wf.dnF | with_reducible apply Wf.gbW | with_reducible apply Wf.cpXf | with_reducible apply Wf.cpYf | with_reducible apply Wf.mkUf | with_reducible apply Wf.bkUf))) (by decide) hc_X11 (by decide) (by decide) (Nat.le_of_ble_eq_true rfl)) ?_
  refine lf2 (a_if_eq (tgt := 15) dX11_topUp_10 (by decide)) (fun h10 => ?_) (fun h10 => absurd h10 (fun z => z rfl))
  refine lf (a_aload_n dX11_topUp_15 rfl) ?_
  refine lf (a_aload_n dX11_topUp_16 rfl) ?_
  refine lf (a_inv (b2 := (0, 0)) (m_wnt_6 (by repeat (first | with_reducible exact hw | with_reducible exact hwc | with_reducible assumption | with_reducible apply Wf.sI | with_reducible apply Wf.sL | with_reducible apply Wf.cpI | with_reducible apply Wf.cpL | with_reducible apply Wf.cp2 | with_reducible apply Wf.sIs | with_reducible apply Wf.sLs | with_reducible apply Wf.cpU | with_reducible apply Wf.fillI | with_reducible apply Wf.clU | with_reducible apply Wf.dnF | with_reducible apply Wf.gbW | with_reducible apply Wf.cpXf | with_reducible apply Wf.cpYf | with_reducible apply Wf.mkUf | with_reducible apply Wf.bkUf)) (h.1.th 0) hgo hU hle) rfl dX11_topUp_17 yk_X11_whyNotTopUp im_X11_whyNotTopUp se_X11_whyNotTopUp ml_X11_434 rfl (co_338 (by repeat (first | with_reducible exact hw | with_reducible exact hwc | with_reducible assumption | with_reducible apply Wf.sI | with_reducible apply Wf.sL | with_reducible apply Wf.cpI | with_reducible apply Wf.cpL | with_reducible apply Wf.cp2 | with_reducible apply Wf.sIs | with_reducible apply Wf.sLs | with_reducible apply Wf.cpU | with_reducible apply Wf.fillI | with_reducible apply Wf.clU | with_reducible apply Wf.dnF | with_reducible apply Wf.gbW | with_reducible apply Wf.cpXf | with_reducible apply Wf.cpYf | with_reducible apply Wf.mkUf | with_reducible apply Wf.bkUf))) (by decide) hc_X11 (by decide) (by decide) (Nat.le_of_ble_eq_true rfl)) ?_
  refine lf (a_iconst (3 : Int32) dX11_topUp_20 (by decide)) ?_
  refine lf (a_inv (b2 := (0, 0)) (m_refuses1 (by repeat (first | with_reducible exact hw | with_reducible exact hwc | with_reducible assumption | with_reducible apply Wf.sI | with_reducible apply Wf.sL | with_reducible apply Wf.cpI | with_reducible apply Wf.cpL | with_reducible apply Wf.cp2 | with_reducible apply Wf.sIs | with_reducible apply Wf.sLs | with_reducible apply Wf.cpU | with_reducible apply Wf.fillI | with_reducible apply Wf.clU | with_reducible apply Wf.dnF | with_reducible apply Wf.gbW | with_reducible apply Wf.cpXf | with_reducible apply Wf.cpYf | with_reducible apply Wf.mkUf | with_reducible apply Wf.bkUf)) (y := 6) (w := 3) (by decide) (by decide)) rfl dX11_topUp_21 yk_X11_refuses im_X11_refuses se_X11_refuses ml_X11_407 rfl (co_338 (by repeat (first | with_reducible exact hw | with_reducible exact hwc | with_reducible assumption | with_reducible apply Wf.sI | with_reducible apply Wf.sL | with_reducible apply Wf.cpI | with_reducible apply Wf.cpL | with_reducible apply Wf.cp2 | with_reducible apply Wf.sIs | with_reducible apply Wf.sLs | with_reducible apply Wf.cpU | with_reducible apply Wf.fillI | with_reducible apply Wf.clU | with_reducible apply Wf.dnF | with_reducible apply Wf.gbW | with_reducible apply Wf.cpXf | with_reducible apply Wf.cpYf | with_reducible apply Wf.mkUf | with_reducible apply Wf.bkUf))) (by decide) hc_X11 (by decide) (by decide) (Nat.le_of_ble_eq_true rfl)) ?_
  refine lf2 (a_if_eq (tgt := 29) dX11_topUp_24 (by decide)) (fun h24 => absurd h24 (by decide)) (fun h24 => ?_)
  refine lf (a_iconst (0 : Int32) dX11_topUp_27 (by decide)) ?_
  refine ⟨_, _, (a_ireturn dX11_topUp_28 rfl rfl), ?_⟩
  exact ⟨_, rfl, rfl, MrQ.of (MtQ.of hw 0) 6 3⟩
theorem ask_F (q : PDt) (d : FDt) (k n : Int32) (a i : Nat) : dF (askD q d k n) a i = if i = dU d ∧ 3 ≤ a ∧ a ≤ 5 then (if a = 3 then k else if a = 4 then n else dF d 6 1 - pF q 9 3) else dF d a i := rfl
theorem tu_fin {H : Hst} (hR : RmQ μ W q d H) (h0 : dF d 6 0 = 0) (hU : dU d < 6) {x n : Int32} (hZ : Z = sI (sI (sI (sI W 344 (261 + 3 * dU d) x) 344 (261 + 3 * dU d + 1) n) 344 (261 + 3 * dU d + 2) (dF d 6 1 - pF q 9 3)) 344 4 (nI (dU d + 1))) : MaQ μ Z q (askD q d x n) H := by
  have hO : Out s344 W Z := by
    rw [hZ]
    exact ((((Out.rfl' hR.1).sI (S := s344) rfl _ _).sI (S := s344) rfl _ _).sI (S := s344) rfl _ _).sI (S := s344) rfl _ _
  have e : ∀ y, gI Z 344 y = if y = 4 then nI (dU d + 1) else if y = 261 + 3 * dU d + 2 then dF d 6 1 - pF q 9 3 else if y = 261 + 3 * dU d + 1 then n else if y = 261 + 3 * dU d then x else gI W 344 y := fun y => by
    have t : ∀ (X : Wd) (k : Nat) (u : Int32), gI (sI X 344 k u) 344 y = if y = k then u else gI X 344 y := fun X k u => by
      rw [gI_sI]
      by_cases z : y = k
      · rw [if_pos z, if_pos ⟨rfl, z⟩]
      · rw [if_neg z, if_neg (fun y => z y.2)]
    rw [hZ, t, t, t, t]
  clear hZ
  have hf := hR.2.1.fit
  have hr := hR.2.1.rx
  obtain ⟨⟨f1, f2, f3, f4, f5⟩, f6, f7⟩ := hf
  obtain ⟨g0, ⟨g1, g2, g3, g4, g5, g6, g7⟩, g8, g9⟩ := hr
  have o : ∀ y, y ≠ 4 → (y < 261 ∨ 279 ≤ y) → gI Z 344 y = gI W 344 y := fun y h4 h => by rw [e, if_neg h4, if_neg (by omega), if_neg (by omega), if_neg (by omega)]
  have n1 : ∀ a i, a < 3 ∨ 5 < a → dF (askD q d x n) a i = dF d a i := fun a i h => if_neg (by omega)
  have h00 : dF (askD q d x n) 6 0 = 0 := (n1 6 0 (by omega)).trans h0
  refine MaQ.fin hR hO ⟨⟨f1, f2, f3, f4, hU⟩, by rw [n1 6 0 (by omega)]; exact f6, f7⟩ ⟨(o 0 (by decide) (by omega)).trans g0, ⟨(o 1 (by decide) (by omega)).trans (g1.trans (n1 6 0 (by omega)).symm), (o 2 (by decide) (by omega)).trans (g2.trans (n1 6 1 (by omega)).symm), (o 3 (by decide) (by omega)).trans g3, ?_, fun i (hi : i < dP d) => ?_, fun i (hi : i < dU d + 1) => ?_, fun t k ht hk => (o _ (by omega) (by omega)).trans ((g7 t k ht hk).trans (n1 _ _ (by omega)).symm)⟩, fun i (hi : i < dP d) => ?_, fun m hm => ?_⟩ rfl
  · rw [e, if_pos rfl]; rfl
  · rw [o _ (by omega) (by omega), o _ (by omega) (by omega), o _ (by omega) (by omega), n1 0 i (by omega), n1 1 i (by omega), n1 2 i (by omega)]; exact g5 i hi
  · by_cases hl : i = dU d
    · subst hl
      have a3 : dF (askD q d x n) 3 (dU d) = x := (if_pos ⟨rfl, by decide⟩).trans (if_pos rfl)
      have a4 : dF (askD q d x n) 4 (dU d) = n := (if_pos ⟨rfl, by decide⟩).trans ((if_neg (by decide)).trans (if_pos rfl))
      have a5 : dF (askD q d x n) 5 (dU d) = dF d 6 1 - pF q 9 3 := (if_pos ⟨rfl, by decide⟩).trans ((if_neg (by decide)).trans (if_neg (by decide)))
      rw [a3, a4, a5, e, e, e]
      refine ⟨?_, ?_, ?_⟩
      · rw [if_neg (by omega), if_neg (by omega), if_neg (by omega), if_pos rfl]
      · rw [if_neg (by omega), if_neg (by omega), if_pos rfl]
      · rw [if_neg (by omega), if_pos rfl]
    · have a : ∀ y, dF (askD q d x n) y i = dF d y i := fun y => if_neg (fun z => hl z.1)
      have b : ∀ j, j < 3 → gI Z 344 (261 + 3 * i + j) = gI W 344 (261 + 3 * i + j) := fun j hj => by rw [e, if_neg (by omega), if_neg (by omega), if_neg (by omega), if_neg (by omega)]
      rw [a, a, a, show 261 + 3 * i = 261 + 3 * i + 0 from rfl, b 0 (by decide), b 1 (by decide), b 2 (by decide)]
      exact g6 i (by omega)
  · rw [if_pos h00, o _ (by omega) (by omega), g8 i hi, if_pos h0]
  · rw [if_pos h00, o _ (by omega) (by omega), g9 m hm, if_pos h0]

theorem v_topUp_w (hw : Wf μ) (h : MnV μ q d) {H : Hst} (hp : MpV μ q H) (hq0 : GdP q) (hT : TuD q d) (hgo : goD q d) {m n : Nat} (hm : m < pM q) (g1 : 1 ≤ n) (g2 : n ≤ 99) (hU : dU d < 6) (hle : pF q 9 3 ≤ dF d 6 1) (hl0 : ¬ pF q 9 3 = 0) : CV Y_X11_topUp R_X11_topUp [.ref 338, .int (nI m), .int (nI n)] μ (fun v V => v = some (.int (nI (dU (laD q (askD q d (nI m) (nI n))).2))) ∧ MaQ μ V q ((laD q (askD q d (nI m) (nI n))).2) (pushH H d)) := by
  have hv := h.1
  have hM4 := hv.M4
  have hT4 := hv.T4
  have hP4 := hv.P4
  have hC4 := hv.C4
  have hU4 := hv.U4
  have hw1 : Wf (sI μ 338 0 0) := hw.sI
  have hv1 : MdV (sI μ 338 0 0) q d := hv.th 0
  have h0 := (go_s0 hgo).1
  obtain ⟨l, mm, e, t1, t2, t3, t4, t5, t6⟩ := hT
  have hlm : l ≤ mm := by
    have z := hle
    rw [t1, t2, nI_leI (by omega) (by omega)] at z
    exact z
  have eL := la_wait t1 t2 t3 t4 t5 hlm (Nat.pos_of_ne_zero (fun z => hl0 (by rw [t1, z]; rfl))) (nI m) (nI n)
  rw [eL]
  refine CV.ent yk_X11_topUp (Nat.le_of_ble_eq_true rfl) ?_
  refine lf (a_aload_n dX11_topUp_0 rfl) ?_
  refine lf (a_aload_n dX11_topUp_1 rfl) ?_
  refine lf (a_iload_n dX11_topUp_2 rfl) ?_
  refine lf (a_iload_n dX11_topUp_3 rfl) ?_
  refine lf (a_inv (b2 := (0, 0)) (Ct.int (by rw [ixO_of hm (by omega), unO_of g1 g2]) (m_wrongUnits (by repeat (first | with_reducible exact hw | with_reducible exact hwc | with_reducible assumption | with_reducible apply Wf.sI | with_reducible apply Wf.sL | with_reducible apply Wf.cpI | with_reducible apply Wf.cpL | with_reducible apply Wf.cp2 | with_reducible apply Wf.sIs | with_reducible apply Wf.sLs | with_reducible apply Wf.cpU | with_reducible apply Wf.fillI | with_reducible apply Wf.clU | with_reducible apply Wf.dnF | with_reducible apply Wf.gbW | with_reducible apply Wf.cpXf | with_reducible apply Wf.cpYf | with_reducible apply Wf.mkUf | with_reducible apply Wf.bkUf)) hv (nI m) (nI n))) rfl dX11_topUp_4 yk_X11_wrongUnits im_X11_wrongUnits se_X11_wrongUnits ml_X11_428 rfl (co_338 (by repeat (first | with_reducible exact hw | with_reducible exact hwc | with_reducible assumption | with_reducible apply Wf.sI | with_reducible apply Wf.sL | with_reducible apply Wf.cpI | with_reducible apply Wf.cpL | with_reducible apply Wf.cp2 | with_reducible apply Wf.sIs | with_reducible apply Wf.sLs | with_reducible apply Wf.cpU | with_reducible apply Wf.fillI | with_reducible apply Wf.clU | with_reducible apply Wf.dnF | with_reducible apply Wf.gbW | with_reducible apply Wf.cpXf | with_reducible apply Wf.cpYf | with_reducible apply Wf.mkUf | with_reducible apply Wf.bkUf))) (by decide) hc_X11 (by decide) (by decide) (Nat.le_of_ble_eq_true rfl)) ?_
  refine lf (a_inv (b2 := (0, 0)) (m_isRefused0 (by repeat (first | with_reducible exact hw | with_reducible exact hwc | with_reducible assumption | with_reducible apply Wf.sI | with_reducible apply Wf.sL | with_reducible apply Wf.cpI | with_reducible apply Wf.cpL | with_reducible apply Wf.cp2 | with_reducible apply Wf.sIs | with_reducible apply Wf.sLs | with_reducible apply Wf.cpU | with_reducible apply Wf.fillI | with_reducible apply Wf.clU | with_reducible apply Wf.dnF | with_reducible apply Wf.gbW | with_reducible apply Wf.cpXf | with_reducible apply Wf.cpYf | with_reducible apply Wf.mkUf | with_reducible apply Wf.bkUf))) rfl dX11_topUp_7 yk_X11_isRefused im_X11_isRefused se_X11_isRefused ml_X11_98 rfl (co_338 (by repeat (first | with_reducible exact hw | with_reducible exact hwc | with_reducible assumption | with_reducible apply Wf.sI | with_reducible apply Wf.sL | with_reducible apply Wf.cpI | with_reducible apply Wf.cpL | with_reducible apply Wf.cp2 | with_reducible apply Wf.sIs | with_reducible apply Wf.sLs | with_reducible apply Wf.cpU | with_reducible apply Wf.fillI | with_reducible apply Wf.clU | with_reducible apply Wf.dnF | with_reducible apply Wf.gbW | with_reducible apply Wf.cpXf | with_reducible apply Wf.cpYf | with_reducible apply Wf.mkUf | with_reducible apply Wf.bkUf))) (by decide) hc_X11 (by decide) (by decide) (Nat.le_of_ble_eq_true rfl)) ?_
  refine lf2 (a_if_eq (tgt := 15) dX11_topUp_10 (by decide)) (fun h10 => ?_) (fun h10 => absurd h10 (fun z => z rfl))
  refine lf (a_aload_n dX11_topUp_15 rfl) ?_
  refine lf (a_aload_n dX11_topUp_16 rfl) ?_
  refine lf (a_inv (b2 := (0, 0)) (m_wnt_0 (by repeat (first | with_reducible exact hw | with_reducible exact hwc | with_reducible assumption | with_reducible apply Wf.sI | with_reducible apply Wf.sL | with_reducible apply Wf.cpI | with_reducible apply Wf.cpL | with_reducible apply Wf.cp2 | with_reducible apply Wf.sIs | with_reducible apply Wf.sLs | with_reducible apply Wf.cpU | with_reducible apply Wf.fillI | with_reducible apply Wf.clU | with_reducible apply Wf.dnF | with_reducible apply Wf.gbW | with_reducible apply Wf.cpXf | with_reducible apply Wf.cpYf | with_reducible apply Wf.mkUf | with_reducible apply Wf.bkUf)) (h.1.th 0) hgo hU hle) rfl dX11_topUp_17 yk_X11_whyNotTopUp im_X11_whyNotTopUp se_X11_whyNotTopUp ml_X11_434 rfl (co_338 (by repeat (first | with_reducible exact hw | with_reducible exact hwc | with_reducible assumption | with_reducible apply Wf.sI | with_reducible apply Wf.sL | with_reducible apply Wf.cpI | with_reducible apply Wf.cpL | with_reducible apply Wf.cp2 | with_reducible apply Wf.sIs | with_reducible apply Wf.sLs | with_reducible apply Wf.cpU | with_reducible apply Wf.fillI | with_reducible apply Wf.clU | with_reducible apply Wf.dnF | with_reducible apply Wf.gbW | with_reducible apply Wf.cpXf | with_reducible apply Wf.cpYf | with_reducible apply Wf.mkUf | with_reducible apply Wf.bkUf))) (by decide) hc_X11 (by decide) (by decide) (Nat.le_of_ble_eq_true rfl)) ?_
  refine lf (a_iconst (3 : Int32) dX11_topUp_20 (by decide)) ?_
  refine lf (a_inv (b2 := (0, 0)) (m_refuses0 (by repeat (first | with_reducible exact hw | with_reducible exact hwc | with_reducible assumption | with_reducible apply Wf.sI | with_reducible apply Wf.sL | with_reducible apply Wf.cpI | with_reducible apply Wf.cpL | with_reducible apply Wf.cp2 | with_reducible apply Wf.sIs | with_reducible apply Wf.sLs | with_reducible apply Wf.cpU | with_reducible apply Wf.fillI | with_reducible apply Wf.clU | with_reducible apply Wf.dnF | with_reducible apply Wf.gbW | with_reducible apply Wf.cpXf | with_reducible apply Wf.cpYf | with_reducible apply Wf.mkUf | with_reducible apply Wf.bkUf)) 3) rfl dX11_topUp_21 yk_X11_refuses im_X11_refuses se_X11_refuses ml_X11_407 rfl (co_338 (by repeat (first | with_reducible exact hw | with_reducible exact hwc | with_reducible assumption | with_reducible apply Wf.sI | with_reducible apply Wf.sL | with_reducible apply Wf.cpI | with_reducible apply Wf.cpL | with_reducible apply Wf.cp2 | with_reducible apply Wf.sIs | with_reducible apply Wf.sLs | with_reducible apply Wf.cpU | with_reducible apply Wf.fillI | with_reducible apply Wf.clU | with_reducible apply Wf.dnF | with_reducible apply Wf.gbW | with_reducible apply Wf.cpXf | with_reducible apply Wf.cpYf | with_reducible apply Wf.mkUf | with_reducible apply Wf.bkUf))) (by decide) hc_X11 (by decide) (by decide) (Nat.le_of_ble_eq_true rfl)) ?_
  refine lf2 (a_if_eq (tgt := 29) dX11_topUp_24 (by decide)) (fun h24 => ?_) (fun h24 => absurd h24 (fun z => z rfl))
  refine lf (a_aload_n dX11_topUp_29 rfl) ?_
  obtain ⟨v_, W30, k30, rfl, hR⟩ := (v_rem (MtQ.of2 hw) h hp)
  have hwR := hR.1
  have hnR := hR.2.1
  have hvR := hnR.1
  refine lf (a_inv (b2 := (0, 0)) k30 rfl dX11_topUp_30 yk_X11_remembers im_X11_remembers se_X11_remembers ml_X11_410 rfl (co_338 (by repeat (first | with_reducible exact hw | with_reducible exact hwc | with_reducible assumption | with_reducible apply Wf.sI | with_reducible apply Wf.sL | with_reducible apply Wf.cpI | with_reducible apply Wf.cpL | with_reducible apply Wf.cp2 | with_reducible apply Wf.sIs | with_reducible apply Wf.sLs | with_reducible apply Wf.cpU | with_reducible apply Wf.fillI | with_reducible apply Wf.clU | with_reducible apply Wf.dnF | with_reducible apply Wf.gbW | with_reducible apply Wf.cpXf | with_reducible apply Wf.cpYf | with_reducible apply Wf.mkUf | with_reducible apply Wf.bkUf))) (by decide) hc_X11 (by decide) (by decide) (Nat.le_of_ble_eq_true rfl)) ?_
  refine lf (a_aload_n dX11_topUp_33 rfl) ?_
  refine lf (a_getR (cr_338_1 (by repeat (first | with_reducible exact hw | with_reducible exact hwc | with_reducible assumption | with_reducible apply Wf.sI | with_reducible apply Wf.sL | with_reducible apply Wf.cpI | with_reducible apply Wf.cpL | with_reducible apply Wf.cp2 | with_reducible apply Wf.sIs | with_reducible apply Wf.sLs | with_reducible apply Wf.cpU | with_reducible apply Wf.fillI | with_reducible apply Wf.clU | with_reducible apply Wf.dnF | with_reducible apply Wf.gbW | with_reducible apply Wf.cpXf | with_reducible apply Wf.cpYf | with_reducible apply Wf.mkUf | with_reducible apply Wf.bkUf))) dX11_topUp_34 fs_X11_7 rfl (co_338 (by repeat (first | with_reducible exact hw | with_reducible exact hwc | with_reducible assumption | with_reducible apply Wf.sI | with_reducible apply Wf.sL | with_reducible apply Wf.cpI | with_reducible apply Wf.cpL | with_reducible apply Wf.cp2 | with_reducible apply Wf.sIs | with_reducible apply Wf.sLs | with_reducible apply Wf.cpU | with_reducible apply Wf.fillI | with_reducible apply Wf.clU | with_reducible apply Wf.dnF | with_reducible apply Wf.gbW | with_reducible apply Wf.cpXf | with_reducible apply Wf.cpYf | with_reducible apply Wf.mkUf | with_reducible apply Wf.bkUf)))) ?_
  refine lf (a_iconst (4 : Int32) dX11_topUp_37 (by decide)) ?_
  refine lf (a_ild dX11_topUp_38 (ca_339 (by repeat (first | with_reducible exact hw | with_reducible exact hwc | with_reducible assumption | with_reducible apply Wf.sI | with_reducible apply Wf.sL | with_reducible apply Wf.cpI | with_reducible apply Wf.cpL | with_reducible apply Wf.cp2 | with_reducible apply Wf.sIs | with_reducible apply Wf.sLs | with_reducible apply Wf.cpU | with_reducible apply Wf.fillI | with_reducible apply Wf.clU | with_reducible apply Wf.dnF | with_reducible apply Wf.gbW | with_reducible apply Wf.cpXf | with_reducible apply Wf.cpYf | with_reducible apply Wf.mkUf | with_reducible apply Wf.bkUf))) (ixn (m := 4) (by omega) (by decide))) ?_
  rw [hvR.p4]
  refine lfn (a_if_ne (tgt := 56) dX11_topUp_39 (by decide)) (fun h39 => ?_) (fun h39 => absurd h39 hl0)
  refine lf (a_sipush (261 : Int32) dX11_topUp_56 (by decide)) ?_
  refine lf (a_iconst (3 : Int32) dX11_topUp_59 (by decide)) ?_
  refine lf (a_aload_n dX11_topUp_60 rfl) ?_
  refine lf (a_getR (cr_338_6 (by repeat (first | with_reducible exact hw | with_reducible exact hwc | with_reducible assumption | with_reducible apply Wf.sI | with_reducible apply Wf.sL | with_reducible apply Wf.cpI | with_reducible apply Wf.cpL | with_reducible apply Wf.cp2 | with_reducible apply Wf.sIs | with_reducible apply Wf.sLs | with_reducible apply Wf.cpU | with_reducible apply Wf.fillI | with_reducible apply Wf.clU | with_reducible apply Wf.dnF | with_reducible apply Wf.gbW | with_reducible apply Wf.cpXf | with_reducible apply Wf.cpYf | with_reducible apply Wf.mkUf | with_reducible apply Wf.bkUf))) dX11_topUp_61 fs_X11_26 rfl (co_338 (by repeat (first | with_reducible exact hw | with_reducible exact hwc | with_reducible assumption | with_reducible apply Wf.sI | with_reducible apply Wf.sL | with_reducible apply Wf.cpI | with_reducible apply Wf.cpL | with_reducible apply Wf.cp2 | with_reducible apply Wf.sIs | with_reducible apply Wf.sLs | with_reducible apply Wf.cpU | with_reducible apply Wf.fillI | with_reducible apply Wf.clU | with_reducible apply Wf.dnF | with_reducible apply Wf.gbW | with_reducible apply Wf.cpXf | with_reducible apply Wf.cpYf | with_reducible apply Wf.mkUf | with_reducible apply Wf.bkUf)))) ?_
  refine lf (a_iconst (4 : Int32) dX11_topUp_64 (by decide)) ?_
  refine lf (a_ild dX11_topUp_65 (ca_344 (by repeat (first | with_reducible exact hw | with_reducible exact hwc | with_reducible assumption | with_reducible apply Wf.sI | with_reducible apply Wf.sL | with_reducible apply Wf.cpI | with_reducible apply Wf.cpL | with_reducible apply Wf.cp2 | with_reducible apply Wf.sIs | with_reducible apply Wf.sLs | with_reducible apply Wf.cpU | with_reducible apply Wf.fillI | with_reducible apply Wf.clU | with_reducible apply Wf.dnF | with_reducible apply Wf.gbW | with_reducible apply Wf.cpXf | with_reducible apply Wf.cpYf | with_reducible apply Wf.mkUf | with_reducible apply Wf.bkUf))) (ixn (m := 4) (by omega) (by decide))) ?_
  rw [hvR.s4]
  refine lf (a_imul dX11_topUp_66) ?_
  refine lf (a_iadd dX11_topUp_67) ?_
  rw [show (261 : Int32) + 3 * nI (dU d) = nI (261 + 3 * dU d) from ixb (dU d)]
  refine lf (a_istore_n dX11_topUp_68 (by decide)) ?_
  refine lf (a_aload_n dX11_topUp_69 rfl) ?_
  refine lf (a_getR (cr_338_6 (by repeat (first | with_reducible exact hw | with_reducible exact hwc | with_reducible assumption | with_reducible apply Wf.sI | with_reducible apply Wf.sL | with_reducible apply Wf.cpI | with_reducible apply Wf.cpL | with_reducible apply Wf.cp2 | with_reducible apply Wf.sIs | with_reducible apply Wf.sLs | with_reducible apply Wf.cpU | with_reducible apply Wf.fillI | with_reducible apply Wf.clU | with_reducible apply Wf.dnF | with_reducible apply Wf.gbW | with_reducible apply Wf.cpXf | with_reducible apply Wf.cpYf | with_reducible apply Wf.mkUf | with_reducible apply Wf.bkUf))) dX11_topUp_70 fs_X11_26 rfl (co_338 (by repeat (first | with_reducible exact hw | with_reducible exact hwc | with_reducible assumption | with_reducible apply Wf.sI | with_reducible apply Wf.sL | with_reducible apply Wf.cpI | with_reducible apply Wf.cpL | with_reducible apply Wf.cp2 | with_reducible apply Wf.sIs | with_reducible apply Wf.sLs | with_reducible apply Wf.cpU | with_reducible apply Wf.fillI | with_reducible apply Wf.clU | with_reducible apply Wf.dnF | with_reducible apply Wf.gbW | with_reducible apply Wf.cpXf | with_reducible apply Wf.cpYf | with_reducible apply Wf.mkUf | with_reducible apply Wf.bkUf)))) ?_
  refine lf (a_iload_n dX11_topUp_73 rfl) ?_
  refine lf (a_iload_n dX11_topUp_74 rfl) ?_
  refine lf (a_ist dX11_topUp_75 (ca_344 (by repeat (first | with_reducible exact hw | with_reducible exact hwc | with_reducible assumption | with_reducible apply Wf.sI | with_reducible apply Wf.sL | with_reducible apply Wf.cpI | with_reducible apply Wf.cpL | with_reducible apply Wf.cp2 | with_reducible apply Wf.sIs | with_reducible apply Wf.sLs | with_reducible apply Wf.cpU | with_reducible apply Wf.fillI | with_reducible apply Wf.clU | with_reducible apply Wf.dnF | with_reducible apply Wf.gbW | with_reducible apply Wf.cpXf | with_reducible apply Wf.cpYf | with_reducible apply Wf.mkUf | with_reducible apply Wf.bkUf))) (ixn (show 261 + 3 * dU d < 291 by omega) (by omega))) ?_
  refine lf (a_aload_n dX11_topUp_76 rfl) ?_
  refine lf (a_getR (cr_338_6 (by repeat (first | with_reducible exact hw | with_reducible exact hwc | with_reducible assumption | with_reducible apply Wf.sI | with_reducible apply Wf.sL | with_reducible apply Wf.cpI | with_reducible apply Wf.cpL | with_reducible apply Wf.cp2 | with_reducible apply Wf.sIs | with_reducible apply Wf.sLs | with_reducible apply Wf.cpU | with_reducible apply Wf.fillI | with_reducible apply Wf.clU | with_reducible apply Wf.dnF | with_reducible apply Wf.gbW | with_reducible apply Wf.cpXf | with_reducible apply Wf.cpYf | with_reducible apply Wf.mkUf | with_reducible apply Wf.bkUf))) dX11_topUp_77 fs_X11_26 rfl (co_338 (by repeat (first | with_reducible exact hw | with_reducible exact hwc | with_reducible assumption | with_reducible apply Wf.sI | with_reducible apply Wf.sL | with_reducible apply Wf.cpI | with_reducible apply Wf.cpL | with_reducible apply Wf.cp2 | with_reducible apply Wf.sIs | with_reducible apply Wf.sLs | with_reducible apply Wf.cpU | with_reducible apply Wf.fillI | with_reducible apply Wf.clU | with_reducible apply Wf.dnF | with_reducible apply Wf.gbW | with_reducible apply Wf.cpXf | with_reducible apply Wf.cpYf | with_reducible apply Wf.mkUf | with_reducible apply Wf.bkUf)))) ?_
  refine lf (a_iload_n dX11_topUp_80 rfl) ?_
  refine lf (a_iconst (1 : Int32) dX11_topUp_81 (by decide)) ?_
  refine lf (a_iadd dX11_topUp_82) ?_
  rw [nI_1]
  refine lf (a_iload_n dX11_topUp_83 rfl) ?_
  refine lf (a_ist dX11_topUp_84 (ca_344 (by repeat (first | with_reducible exact hw | with_reducible exact hwc | with_reducible assumption | with_reducible apply Wf.sI | with_reducible apply Wf.sL | with_reducible apply Wf.cpI | with_reducible apply Wf.cpL | with_reducible apply Wf.cp2 | with_reducible apply Wf.sIs | with_reducible apply Wf.sLs | with_reducible apply Wf.cpU | with_reducible apply Wf.fillI | with_reducible apply Wf.clU | with_reducible apply Wf.dnF | with_reducible apply Wf.gbW | with_reducible apply Wf.cpXf | with_reducible apply Wf.cpYf | with_reducible apply Wf.mkUf | with_reducible apply Wf.bkUf))) (ixn (show 261 + 3 * dU d + 1 < 291 by omega) (by omega))) ?_
  refine lf (a_aload_n dX11_topUp_85 rfl) ?_
  refine lf (a_getR (cr_338_6 (by repeat (first | with_reducible exact hw | with_reducible exact hwc | with_reducible assumption | with_reducible apply Wf.sI | with_reducible apply Wf.sL | with_reducible apply Wf.cpI | with_reducible apply Wf.cpL | with_reducible apply Wf.cp2 | with_reducible apply Wf.sIs | with_reducible apply Wf.sLs | with_reducible apply Wf.cpU | with_reducible apply Wf.fillI | with_reducible apply Wf.clU | with_reducible apply Wf.dnF | with_reducible apply Wf.gbW | with_reducible apply Wf.cpXf | with_reducible apply Wf.cpYf | with_reducible apply Wf.mkUf | with_reducible apply Wf.bkUf))) dX11_topUp_86 fs_X11_26 rfl (co_338 (by repeat (first | with_reducible exact hw | with_reducible exact hwc | with_reducible assumption | with_reducible apply Wf.sI | with_reducible apply Wf.sL | with_reducible apply Wf.cpI | with_reducible apply Wf.cpL | with_reducible apply Wf.cp2 | with_reducible apply Wf.sIs | with_reducible apply Wf.sLs | with_reducible apply Wf.cpU | with_reducible apply Wf.fillI | with_reducible apply Wf.clU | with_reducible apply Wf.dnF | with_reducible apply Wf.gbW | with_reducible apply Wf.cpXf | with_reducible apply Wf.cpYf | with_reducible apply Wf.mkUf | with_reducible apply Wf.bkUf)))) ?_
  refine lf (a_iload_n dX11_topUp_89 rfl) ?_
  refine lf (a_iconst (2 : Int32) dX11_topUp_90 (by decide)) ?_
  refine lf (a_iadd dX11_topUp_91) ?_
  rw [show nI (261 + 3 * dU d) + 2 = nI (261 + 3 * dU d + 2) from nI_add _ 2]
  refine lf (a_aload_n dX11_topUp_92 rfl) ?_
  refine lf (a_getR (cr_338_6 (by repeat (first | with_reducible exact hw | with_reducible exact hwc | with_reducible assumption | with_reducible apply Wf.sI | with_reducible apply Wf.sL | with_reducible apply Wf.cpI | with_reducible apply Wf.cpL | with_reducible apply Wf.cp2 | with_reducible apply Wf.sIs | with_reducible apply Wf.sLs | with_reducible apply Wf.cpU | with_reducible apply Wf.fillI | with_reducible apply Wf.clU | with_reducible apply Wf.dnF | with_reducible apply Wf.gbW | with_reducible apply Wf.cpXf | with_reducible apply Wf.cpYf | with_reducible apply Wf.mkUf | with_reducible apply Wf.bkUf))) dX11_topUp_93 fs_X11_26 rfl (co_338 (by repeat (first | with_reducible exact hw | with_reducible exact hwc | with_reducible assumption | with_reducible apply Wf.sI | with_reducible apply Wf.sL | with_reducible apply Wf.cpI | with_reducible apply Wf.cpL | with_reducible apply Wf.cp2 | with_reducible apply Wf.sIs | with_reducible apply Wf.sLs | with_reducible apply Wf.cpU | with_reducible apply Wf.fillI | with_reducible apply Wf.clU | with_reducible apply Wf.dnF | with_reducible apply Wf.gbW | with_reducible apply Wf.cpXf | with_reducible apply Wf.cpYf | with_reducible apply Wf.mkUf | with_reducible apply Wf.bkUf)))) ?_
  refine lf (a_iconst (2 : Int32) dX11_topUp_96 (by decide)) ?_
  refine lf (a_ild dX11_topUp_97 (ca_344 (by repeat (first | with_reducible exact hw | with_reducible exact hwc | with_reducible assumption | with_reducible apply Wf.sI | with_reducible apply Wf.sL | with_reducible apply Wf.cpI | with_reducible apply Wf.cpL | with_reducible apply Wf.cp2 | with_reducible apply Wf.sIs | with_reducible apply Wf.sLs | with_reducible apply Wf.cpU | with_reducible apply Wf.fillI | with_reducible apply Wf.clU | with_reducible apply Wf.dnF | with_reducible apply Wf.gbW | with_reducible apply Wf.cpXf | with_reducible apply Wf.cpYf | with_reducible apply Wf.mkUf | with_reducible apply Wf.bkUf))) (ixn (m := 2) (by omega) (by decide))) ?_
  rw [gI_sI, if_neg (by omega), gI_sI, if_neg (by omega), hvR.s2]
  refine lf (a_aload_n dX11_topUp_98 rfl) ?_
  refine lf (a_getR (cr_338_1 (by repeat (first | with_reducible exact hw | with_reducible exact hwc | with_reducible assumption | with_reducible apply Wf.sI | with_reducible apply Wf.sL | with_reducible apply Wf.cpI | with_reducible apply Wf.cpL | with_reducible apply Wf.cp2 | with_reducible apply Wf.sIs | with_reducible apply Wf.sLs | with_reducible apply Wf.cpU | with_reducible apply Wf.fillI | with_reducible apply Wf.clU | with_reducible apply Wf.dnF | with_reducible apply Wf.gbW | with_reducible apply Wf.cpXf | with_reducible apply Wf.cpYf | with_reducible apply Wf.mkUf | with_reducible apply Wf.bkUf))) dX11_topUp_99 fs_X11_7 rfl (co_338 (by repeat (first | with_reducible exact hw | with_reducible exact hwc | with_reducible assumption | with_reducible apply Wf.sI | with_reducible apply Wf.sL | with_reducible apply Wf.cpI | with_reducible apply Wf.cpL | with_reducible apply Wf.cp2 | with_reducible apply Wf.sIs | with_reducible apply Wf.sLs | with_reducible apply Wf.cpU | with_reducible apply Wf.fillI | with_reducible apply Wf.clU | with_reducible apply Wf.dnF | with_reducible apply Wf.gbW | with_reducible apply Wf.cpXf | with_reducible apply Wf.cpYf | with_reducible apply Wf.mkUf | with_reducible apply Wf.bkUf)))) ?_
  refine lf (a_iconst (4 : Int32) dX11_topUp_102 (by decide)) ?_
  refine lf (a_ild dX11_topUp_103 (ca_339 (by repeat (first | with_reducible exact hw | with_reducible exact hwc | with_reducible assumption | with_reducible apply Wf.sI | with_reducible apply Wf.sL | with_reducible apply Wf.cpI | with_reducible apply Wf.cpL | with_reducible apply Wf.cp2 | with_reducible apply Wf.sIs | with_reducible apply Wf.sLs | with_reducible apply Wf.cpU | with_reducible apply Wf.fillI | with_reducible apply Wf.clU | with_reducible apply Wf.dnF | with_reducible apply Wf.gbW | with_reducible apply Wf.cpXf | with_reducible apply Wf.cpYf | with_reducible apply Wf.mkUf | with_reducible apply Wf.bkUf))) (ixn (m := 4) (by omega) (by decide))) ?_
  rw [gI_sI, if_neg (by omega), gI_sI, if_neg (by omega), hvR.p4]
  refine lf (a_isub dX11_topUp_104) ?_
  refine lf (a_ist dX11_topUp_105 (ca_344 (by repeat (first | with_reducible exact hw | with_reducible exact hwc | with_reducible assumption | with_reducible apply Wf.sI | with_reducible apply Wf.sL | with_reducible apply Wf.cpI | with_reducible apply Wf.cpL | with_reducible apply Wf.cp2 | with_reducible apply Wf.sIs | with_reducible apply Wf.sLs | with_reducible apply Wf.cpU | with_reducible apply Wf.fillI | with_reducible apply Wf.clU | with_reducible apply Wf.dnF | with_reducible apply Wf.gbW | with_reducible apply Wf.cpXf | with_reducible apply Wf.cpYf | with_reducible apply Wf.mkUf | with_reducible apply Wf.bkUf))) (ixn (show 261 + 3 * dU d + 2 < 291 by omega) (by omega))) ?_
  refine lf (a_aload_n dX11_topUp_106 rfl) ?_
  refine lf (a_getR (cr_338_6 (by repeat (first | with_reducible exact hw | with_reducible exact hwc | with_reducible assumption | with_reducible apply Wf.sI | with_reducible apply Wf.sL | with_reducible apply Wf.cpI | with_reducible apply Wf.cpL | with_reducible apply Wf.cp2 | with_reducible apply Wf.sIs | with_reducible apply Wf.sLs | with_reducible apply Wf.cpU | with_reducible apply Wf.fillI | with_reducible apply Wf.clU | with_reducible apply Wf.dnF | with_reducible apply Wf.gbW | with_reducible apply Wf.cpXf | with_reducible apply Wf.cpYf | with_reducible apply Wf.mkUf | with_reducible apply Wf.bkUf))) dX11_topUp_107 fs_X11_26 rfl (co_338 (by repeat (first | with_reducible exact hw | with_reducible exact hwc | with_reducible assumption | with_reducible apply Wf.sI | with_reducible apply Wf.sL | with_reducible apply Wf.cpI | with_reducible apply Wf.cpL | with_reducible apply Wf.cp2 | with_reducible apply Wf.sIs | with_reducible apply Wf.sLs | with_reducible apply Wf.cpU | with_reducible apply Wf.fillI | with_reducible apply Wf.clU | with_reducible apply Wf.dnF | with_reducible apply Wf.gbW | with_reducible apply Wf.cpXf | with_reducible apply Wf.cpYf | with_reducible apply Wf.mkUf | with_reducible apply Wf.bkUf)))) ?_
  refine lf (a_iconst (4 : Int32) dX11_topUp_110 (by decide)) ?_
  refine lf (a_aload_n dX11_topUp_111 rfl) ?_
  refine lf (a_getR (cr_338_6 (by repeat (first | with_reducible exact hw | with_reducible exact hwc | with_reducible assumption | with_reducible apply Wf.sI | with_reducible apply Wf.sL | with_reducible apply Wf.cpI | with_reducible apply Wf.cpL | with_reducible apply Wf.cp2 | with_reducible apply Wf.sIs | with_reducible apply Wf.sLs | with_reducible apply Wf.cpU | with_reducible apply Wf.fillI | with_reducible apply Wf.clU | with_reducible apply Wf.dnF | with_reducible apply Wf.gbW | with_reducible apply Wf.cpXf | with_reducible apply Wf.cpYf | with_reducible apply Wf.mkUf | with_reducible apply Wf.bkUf))) dX11_topUp_112 fs_X11_26 rfl (co_338 (by repeat (first | with_reducible exact hw | with_reducible exact hwc | with_reducible assumption | with_reducible apply Wf.sI | with_reducible apply Wf.sL | with_reducible apply Wf.cpI | with_reducible apply Wf.cpL | with_reducible apply Wf.cp2 | with_reducible apply Wf.sIs | with_reducible apply Wf.sLs | with_reducible apply Wf.cpU | with_reducible apply Wf.fillI | with_reducible apply Wf.clU | with_reducible apply Wf.dnF | with_reducible apply Wf.gbW | with_reducible apply Wf.cpXf | with_reducible apply Wf.cpYf | with_reducible apply Wf.mkUf | with_reducible apply Wf.bkUf)))) ?_
  refine lf (a_iconst (4 : Int32) dX11_topUp_115 (by decide)) ?_
  refine lf (a_ild dX11_topUp_116 (ca_344 (by repeat (first | with_reducible exact hw | with_reducible exact hwc | with_reducible assumption | with_reducible apply Wf.sI | with_reducible apply Wf.sL | with_reducible apply Wf.cpI | with_reducible apply Wf.cpL | with_reducible apply Wf.cp2 | with_reducible apply Wf.sIs | with_reducible apply Wf.sLs | with_reducible apply Wf.cpU | with_reducible apply Wf.fillI | with_reducible apply Wf.clU | with_reducible apply Wf.dnF | with_reducible apply Wf.gbW | with_reducible apply Wf.cpXf | with_reducible apply Wf.cpYf | with_reducible apply Wf.mkUf | with_reducible apply Wf.bkUf))) (ixn (m := 4) (by omega) (by decide))) ?_
  rw [gI_sI, if_neg (by omega), gI_sI, if_neg (by omega), gI_sI, if_neg (by omega), hvR.s4]
  refine lf (a_iconst (1 : Int32) dX11_topUp_117 (by decide)) ?_
  refine lf (a_iadd dX11_topUp_118) ?_
  rw [nI_1]
  refine lf (a_ist dX11_topUp_119 (ca_344 (by repeat (first | with_reducible exact hw | with_reducible exact hwc | with_reducible assumption | with_reducible apply Wf.sI | with_reducible apply Wf.sL | with_reducible apply Wf.cpI | with_reducible apply Wf.cpL | with_reducible apply Wf.cp2 | with_reducible apply Wf.sIs | with_reducible apply Wf.sLs | with_reducible apply Wf.cpU | with_reducible apply Wf.fillI | with_reducible apply Wf.clU | with_reducible apply Wf.dnF | with_reducible apply Wf.gbW | with_reducible apply Wf.cpXf | with_reducible apply Wf.cpYf | with_reducible apply Wf.mkUf | with_reducible apply Wf.bkUf))) (ixn (m := 4) (by omega) (by decide))) ?_
  refine lf (a_aload_n dX11_topUp_120 rfl) ?_
  refine lf (a_getR (cr_338_6 (by repeat (first | with_reducible exact hw | with_reducible exact hwc | with_reducible assumption | with_reducible apply Wf.sI | with_reducible apply Wf.sL | with_reducible apply Wf.cpI | with_reducible apply Wf.cpL | with_reducible apply Wf.cp2 | with_reducible apply Wf.sIs | with_reducible apply Wf.sLs | with_reducible apply Wf.cpU | with_reducible apply Wf.fillI | with_reducible apply Wf.clU | with_reducible apply Wf.dnF | with_reducible apply Wf.gbW | with_reducible apply Wf.cpXf | with_reducible apply Wf.cpYf | with_reducible apply Wf.mkUf | with_reducible apply Wf.bkUf))) dX11_topUp_121 fs_X11_26 rfl (co_338 (by repeat (first | with_reducible exact hw | with_reducible exact hwc | with_reducible assumption | with_reducible apply Wf.sI | with_reducible apply Wf.sL | with_reducible apply Wf.cpI | with_reducible apply Wf.cpL | with_reducible apply Wf.cp2 | with_reducible apply Wf.sIs | with_reducible apply Wf.sLs | with_reducible apply Wf.cpU | with_reducible apply Wf.fillI | with_reducible apply Wf.clU | with_reducible apply Wf.dnF | with_reducible apply Wf.gbW | with_reducible apply Wf.cpXf | with_reducible apply Wf.cpYf | with_reducible apply Wf.mkUf | with_reducible apply Wf.bkUf)))) ?_
  refine lf (a_iconst (4 : Int32) dX11_topUp_124 (by decide)) ?_
  refine lf (a_ild dX11_topUp_125 (ca_344 (by repeat (first | with_reducible exact hw | with_reducible exact hwc | with_reducible assumption | with_reducible apply Wf.sI | with_reducible apply Wf.sL | with_reducible apply Wf.cpI | with_reducible apply Wf.cpL | with_reducible apply Wf.cp2 | with_reducible apply Wf.sIs | with_reducible apply Wf.sLs | with_reducible apply Wf.cpU | with_reducible apply Wf.fillI | with_reducible apply Wf.clU | with_reducible apply Wf.dnF | with_reducible apply Wf.gbW | with_reducible apply Wf.cpXf | with_reducible apply Wf.cpYf | with_reducible apply Wf.mkUf | with_reducible apply Wf.bkUf))) (ixn (m := 4) (by omega) (by decide))) ?_
  rw [gI_sI, if_pos ⟨rfl, rfl⟩]
  refine ⟨_, _, (a_ireturn dX11_topUp_126 rfl rfl), ?_⟩
  exact ⟨_, rfl, rfl, tu_fin hR h0 hU rfl⟩

theorem v_topUp_0 (hw : Wf μ) (h : MnV μ q d) {H : Hst} (hp : MpV μ q H) (hq0 : GdP q) (hT : TuD q d) (hgo : goD q d) {m n : Nat} (hm : m < pM q) (g1 : 1 ≤ n) (g2 : n ≤ 99) (hU : dU d < 6) (hle : pF q 9 3 ≤ dF d 6 1) (hl0 : pF q 9 3 = 0) : CV Y_X11_topUp R_X11_topUp [.ref 338, .int (nI m), .int (nI n)] μ (fun v V => v = some (.int (nI (dU (laD q (askD q d (nI m) (nI n))).2))) ∧ MaQ μ V q ((laD q (askD q d (nI m) (nI n))).2) (pushH H d)) := by
  have hv := h.1
  have hM4 := hv.M4
  have hT4 := hv.T4
  have hP4 := hv.P4
  have hC4 := hv.C4
  have hU4 := hv.U4
  have hw1 : Wf (sI μ 338 0 0) := hw.sI
  have hv1 : MdV (sI μ 338 0 0) q d := hv.th 0
  have h0 := (go_s0 hgo).1
  obtain ⟨l, mm, e, t1, t2, t3, t4, t5, t6⟩ := hT
  have hlm : l ≤ mm := by
    have z := hle
    rw [t1, t2, nI_leI (by omega) (by omega)] at z
    exact z
  have hl : l = 0 := by
    rw [t1] at hl0
    exact (nI_eqI (b := 0) (by omega) (by decide)).mp hl0
  have hU0 : dU d = 0 := by
    cases hz : dU d with
    | zero => rfl
    | succ j =>
      have := t5 0 (by omega)
      omega
  obtain ⟨eU, eD⟩ := la_once (q := q) (d := d) (x := m) (n := n) (by rw [← hl]; exact t1) t2 hU0 (by omega) (by omega)
  have hlo := stM_lo (q := q) (k := m) n d
  rw [eU]
  refine CV.ent yk_X11_topUp (Nat.le_of_ble_eq_true rfl) ?_
  refine lf (a_aload_n dX11_topUp_0 rfl) ?_
  refine lf (a_aload_n dX11_topUp_1 rfl) ?_
  refine lf (a_iload_n dX11_topUp_2 rfl) ?_
  refine lf (a_iload_n dX11_topUp_3 rfl) ?_
  refine lf (a_inv (b2 := (0, 0)) (Ct.int (by rw [ixO_of hm (by omega), unO_of g1 g2]) (m_wrongUnits (by repeat (first | with_reducible exact hw | with_reducible exact hwc | with_reducible assumption | with_reducible apply Wf.sI | with_reducible apply Wf.sL | with_reducible apply Wf.cpI | with_reducible apply Wf.cpL | with_reducible apply Wf.cp2 | with_reducible apply Wf.sIs | with_reducible apply Wf.sLs | with_reducible apply Wf.cpU | with_reducible apply Wf.fillI | with_reducible apply Wf.clU | with_reducible apply Wf.dnF | with_reducible apply Wf.gbW | with_reducible apply Wf.cpXf | with_reducible apply Wf.cpYf | with_reducible apply Wf.mkUf | with_reducible apply Wf.bkUf)) hv (nI m) (nI n))) rfl dX11_topUp_4 yk_X11_wrongUnits im_X11_wrongUnits se_X11_wrongUnits ml_X11_428 rfl (co_338 (by repeat (first | with_reducible exact hw | with_reducible exact hwc | with_reducible assumption | with_reducible apply Wf.sI | with_reducible apply Wf.sL | with_reducible apply Wf.cpI | with_reducible apply Wf.cpL | with_reducible apply Wf.cp2 | with_reducible apply Wf.sIs | with_reducible apply Wf.sLs | with_reducible apply Wf.cpU | with_reducible apply Wf.fillI | with_reducible apply Wf.clU | with_reducible apply Wf.dnF | with_reducible apply Wf.gbW | with_reducible apply Wf.cpXf | with_reducible apply Wf.cpYf | with_reducible apply Wf.mkUf | with_reducible apply Wf.bkUf))) (by decide) hc_X11 (by decide) (by decide) (Nat.le_of_ble_eq_true rfl)) ?_
  refine lf (a_inv (b2 := (0, 0)) (m_isRefused0 (by repeat (first | with_reducible exact hw | with_reducible exact hwc | with_reducible assumption | with_reducible apply Wf.sI | with_reducible apply Wf.sL | with_reducible apply Wf.cpI | with_reducible apply Wf.cpL | with_reducible apply Wf.cp2 | with_reducible apply Wf.sIs | with_reducible apply Wf.sLs | with_reducible apply Wf.cpU | with_reducible apply Wf.fillI | with_reducible apply Wf.clU | with_reducible apply Wf.dnF | with_reducible apply Wf.gbW | with_reducible apply Wf.cpXf | with_reducible apply Wf.cpYf | with_reducible apply Wf.mkUf | with_reducible apply Wf.bkUf))) rfl dX11_topUp_7 yk_X11_isRefused im_X11_isRefused se_X11_isRefused ml_X11_98 rfl (co_338 (by repeat (first | with_reducible exact hw | with_reducible exact hwc | with_reducible assumption | with_reducible apply Wf.sI | with_reducible apply Wf.sL | with_reducible apply Wf.cpI | with_reducible apply Wf.cpL | with_reducible apply Wf.cp2 | with_reducible apply Wf.sIs | with_reducible apply Wf.sLs | with_reducible apply Wf.cpU | with_reducible apply Wf.fillI | with_reducible apply Wf.clU | with_reducible apply Wf.dnF | with_reducible apply Wf.gbW | with_reducible apply Wf.cpXf | with_reducible apply Wf.cpYf | with_reducible apply Wf.mkUf | with_reducible apply Wf.bkUf))) (by decide) hc_X11 (by decide) (by decide) (Nat.le_of_ble_eq_true rfl)) ?_
  refine lf2 (a_if_eq (tgt := 15) dX11_topUp_10 (by decide)) (fun h10 => ?_) (fun h10 => absurd h10 (fun z => z rfl))
  refine lf (a_aload_n dX11_topUp_15 rfl) ?_
  refine lf (a_aload_n dX11_topUp_16 rfl) ?_
  refine lf (a_inv (b2 := (0, 0)) (m_wnt_0 (by repeat (first | with_reducible exact hw | with_reducible exact hwc | with_reducible assumption | with_reducible apply Wf.sI | with_reducible apply Wf.sL | with_reducible apply Wf.cpI | with_reducible apply Wf.cpL | with_reducible apply Wf.cp2 | with_reducible apply Wf.sIs | with_reducible apply Wf.sLs | with_reducible apply Wf.cpU | with_reducible apply Wf.fillI | with_reducible apply Wf.clU | with_reducible apply Wf.dnF | with_reducible apply Wf.gbW | with_reducible apply Wf.cpXf | with_reducible apply Wf.cpYf | with_reducible apply Wf.mkUf | with_reducible apply Wf.bkUf)) (h.1.th 0) hgo hU hle) rfl dX11_topUp_17 yk_X11_whyNotTopUp im_X11_whyNotTopUp se_X11_whyNotTopUp ml_X11_434 rfl (co_338 (by repeat (first | with_reducible exact hw | with_reducible exact hwc | with_reducible assumption | with_reducible apply Wf.sI | with_reducible apply Wf.sL | with_reducible apply Wf.cpI | with_reducible apply Wf.cpL | with_reducible apply Wf.cp2 | with_reducible apply Wf.sIs | with_reducible apply Wf.sLs | with_reducible apply Wf.cpU | with_reducible apply Wf.fillI | with_reducible apply Wf.clU | with_reducible apply Wf.dnF | with_reducible apply Wf.gbW | with_reducible apply Wf.cpXf | with_reducible apply Wf.cpYf | with_reducible apply Wf.mkUf | with_reducible apply Wf.bkUf))) (by decide) hc_X11 (by decide) (by decide) (Nat.le_of_ble_eq_true rfl)) ?_
  refine lf (a_iconst (3 : Int32) dX11_topUp_20 (by decide)) ?_
  refine lf (a_inv (b2 := (0, 0)) (m_refuses0 (by repeat (first | with_reducible exact hw | with_reducible exact hwc | with_reducible assumption | with_reducible apply Wf.sI | with_reducible apply Wf.sL | with_reducible apply Wf.cpI | with_reducible apply Wf.cpL | with_reducible apply Wf.cp2 | with_reducible apply Wf.sIs | with_reducible apply Wf.sLs | with_reducible apply Wf.cpU | with_reducible apply Wf.fillI | with_reducible apply Wf.clU | with_reducible apply Wf.dnF | with_reducible apply Wf.gbW | with_reducible apply Wf.cpXf | with_reducible apply Wf.cpYf | with_reducible apply Wf.mkUf | with_reducible apply Wf.bkUf)) 3) rfl dX11_topUp_21 yk_X11_refuses im_X11_refuses se_X11_refuses ml_X11_407 rfl (co_338 (by repeat (first | with_reducible exact hw | with_reducible exact hwc | with_reducible assumption | with_reducible apply Wf.sI | with_reducible apply Wf.sL | with_reducible apply Wf.cpI | with_reducible apply Wf.cpL | with_reducible apply Wf.cp2 | with_reducible apply Wf.sIs | with_reducible apply Wf.sLs | with_reducible apply Wf.cpU | with_reducible apply Wf.fillI | with_reducible apply Wf.clU | with_reducible apply Wf.dnF | with_reducible apply Wf.gbW | with_reducible apply Wf.cpXf | with_reducible apply Wf.cpYf | with_reducible apply Wf.mkUf | with_reducible apply Wf.bkUf))) (by decide) hc_X11 (by decide) (by decide) (Nat.le_of_ble_eq_true rfl)) ?_
  refine lf2 (a_if_eq (tgt := 29) dX11_topUp_24 (by decide)) (fun h24 => ?_) (fun h24 => absurd h24 (fun z => z rfl))
  refine lf (a_aload_n dX11_topUp_29 rfl) ?_
  obtain ⟨v_, W30, k30, rfl, hR⟩ := (v_rem (MtQ.of2 hw) h hp)
  have hwR := hR.1
  have hnR := hR.2.1
  have hvR := hnR.1
  refine lf (a_inv (b2 := (0, 0)) k30 rfl dX11_topUp_30 yk_X11_remembers im_X11_remembers se_X11_remembers ml_X11_410 rfl (co_338 (by repeat (first | with_reducible exact hw | with_reducible exact hwc | with_reducible assumption | with_reducible apply Wf.sI | with_reducible apply Wf.sL | with_reducible apply Wf.cpI | with_reducible apply Wf.cpL | with_reducible apply Wf.cp2 | with_reducible apply Wf.sIs | with_reducible apply Wf.sLs | with_reducible apply Wf.cpU | with_reducible apply Wf.fillI | with_reducible apply Wf.clU | with_reducible apply Wf.dnF | with_reducible apply Wf.gbW | with_reducible apply Wf.cpXf | with_reducible apply Wf.cpYf | with_reducible apply Wf.mkUf | with_reducible apply Wf.bkUf))) (by decide) hc_X11 (by decide) (by decide) (Nat.le_of_ble_eq_true rfl)) ?_
  refine lf (a_aload_n dX11_topUp_33 rfl) ?_
  refine lf (a_getR (cr_338_1 (by repeat (first | with_reducible exact hw | with_reducible exact hwc | with_reducible assumption | with_reducible apply Wf.sI | with_reducible apply Wf.sL | with_reducible apply Wf.cpI | with_reducible apply Wf.cpL | with_reducible apply Wf.cp2 | with_reducible apply Wf.sIs | with_reducible apply Wf.sLs | with_reducible apply Wf.cpU | with_reducible apply Wf.fillI | with_reducible apply Wf.clU | with_reducible apply Wf.dnF | with_reducible apply Wf.gbW | with_reducible apply Wf.cpXf | with_reducible apply Wf.cpYf | with_reducible apply Wf.mkUf | with_reducible apply Wf.bkUf))) dX11_topUp_34 fs_X11_7 rfl (co_338 (by repeat (first | with_reducible exact hw | with_reducible exact hwc | with_reducible assumption | with_reducible apply Wf.sI | with_reducible apply Wf.sL | with_reducible apply Wf.cpI | with_reducible apply Wf.cpL | with_reducible apply Wf.cp2 | with_reducible apply Wf.sIs | with_reducible apply Wf.sLs | with_reducible apply Wf.cpU | with_reducible apply Wf.fillI | with_reducible apply Wf.clU | with_reducible apply Wf.dnF | with_reducible apply Wf.gbW | with_reducible apply Wf.cpXf | with_reducible apply Wf.cpYf | with_reducible apply Wf.mkUf | with_reducible apply Wf.bkUf)))) ?_
  refine lf (a_iconst (4 : Int32) dX11_topUp_37 (by decide)) ?_
  refine lf (a_ild dX11_topUp_38 (ca_339 (by repeat (first | with_reducible exact hw | with_reducible exact hwc | with_reducible assumption | with_reducible apply Wf.sI | with_reducible apply Wf.sL | with_reducible apply Wf.cpI | with_reducible apply Wf.cpL | with_reducible apply Wf.cp2 | with_reducible apply Wf.sIs | with_reducible apply Wf.sLs | with_reducible apply Wf.cpU | with_reducible apply Wf.fillI | with_reducible apply Wf.clU | with_reducible apply Wf.dnF | with_reducible apply Wf.gbW | with_reducible apply Wf.cpXf | with_reducible apply Wf.cpYf | with_reducible apply Wf.mkUf | with_reducible apply Wf.bkUf))) (ixn (m := 4) (by omega) (by decide))) ?_
  rw [hvR.p4]
  refine lfn (a_if_ne (tgt := 56) dX11_topUp_39 (by decide)) (fun h39 => absurd h39 (fun z => z hl0)) (fun h39 => ?_)
  refine lf (a_aload_n dX11_topUp_42 rfl) ?_
  refine lf (a_iload_n dX11_topUp_43 rfl) ?_
  refine lf (a_iload_n dX11_topUp_44 rfl) ?_
  obtain ⟨v_, W45, k45, rfl, hv45, hS45⟩ := (m_storesMany hwR hvR hm (n := n) (by omega))
  have hwc := hS45.1.wf
  refine lf (a_inv (b2 := (0, 0)) k45 rfl dX11_topUp_45 yk_X11_storesMany im_X11_storesMany se_X11_storesMany ml_X11_413 rfl (co_338 (by repeat (first | with_reducible exact hw | with_reducible exact hwc | with_reducible assumption | with_reducible apply Wf.sI | with_reducible apply Wf.sL | with_reducible apply Wf.cpI | with_reducible apply Wf.cpL | with_reducible apply Wf.cp2 | with_reducible apply Wf.sIs | with_reducible apply Wf.sLs | with_reducible apply Wf.cpU | with_reducible apply Wf.fillI | with_reducible apply Wf.clU | with_reducible apply Wf.dnF | with_reducible apply Wf.gbW | with_reducible apply Wf.cpXf | with_reducible apply Wf.cpYf | with_reducible apply Wf.mkUf | with_reducible apply Wf.bkUf))) (by decide) hc_X11 (by decide) (by decide) (Nat.le_of_ble_eq_true rfl)) ?_
  refine lf (a_istore_n dX11_topUp_48 (by decide)) ?_
  refine lf (a_aload_n dX11_topUp_49 rfl) ?_
  refine lf (a_getR (cr_338_6 (by repeat (first | with_reducible exact hw | with_reducible exact hwc | with_reducible assumption | with_reducible apply Wf.sI | with_reducible apply Wf.sL | with_reducible apply Wf.cpI | with_reducible apply Wf.cpL | with_reducible apply Wf.cp2 | with_reducible apply Wf.sIs | with_reducible apply Wf.sLs | with_reducible apply Wf.cpU | with_reducible apply Wf.fillI | with_reducible apply Wf.clU | with_reducible apply Wf.dnF | with_reducible apply Wf.gbW | with_reducible apply Wf.cpXf | with_reducible apply Wf.cpYf | with_reducible apply Wf.mkUf | with_reducible apply Wf.bkUf))) dX11_topUp_50 fs_X11_26 rfl (co_338 (by repeat (first | with_reducible exact hw | with_reducible exact hwc | with_reducible assumption | with_reducible apply Wf.sI | with_reducible apply Wf.sL | with_reducible apply Wf.cpI | with_reducible apply Wf.cpL | with_reducible apply Wf.cp2 | with_reducible apply Wf.sIs | with_reducible apply Wf.sLs | with_reducible apply Wf.cpU | with_reducible apply Wf.fillI | with_reducible apply Wf.clU | with_reducible apply Wf.dnF | with_reducible apply Wf.gbW | with_reducible apply Wf.cpXf | with_reducible apply Wf.cpYf | with_reducible apply Wf.mkUf | with_reducible apply Wf.bkUf)))) ?_
  refine lf (a_iconst (4 : Int32) dX11_topUp_53 (by decide)) ?_
  refine lf (a_ild dX11_topUp_54 (ca_344 (by repeat (first | with_reducible exact hw | with_reducible exact hwc | with_reducible assumption | with_reducible apply Wf.sI | with_reducible apply Wf.sL | with_reducible apply Wf.cpI | with_reducible apply Wf.cpL | with_reducible apply Wf.cp2 | with_reducible apply Wf.sIs | with_reducible apply Wf.sLs | with_reducible apply Wf.cpU | with_reducible apply Wf.fillI | with_reducible apply Wf.clU | with_reducible apply Wf.dnF | with_reducible apply Wf.gbW | with_reducible apply Wf.cpXf | with_reducible apply Wf.cpYf | with_reducible apply Wf.mkUf | with_reducible apply Wf.bkUf))) (ixn (m := 4) (by omega) (by decide))) ?_
  rw [hv45.s4, hlo.2.1, hU0]
  refine ⟨_, _, (a_ireturn dX11_topUp_55 rfl rfl), ?_⟩
  exact ⟨_, rfl, rfl, MaQ.ar hR hv45 (ArQ.so hS45) h0 hlo.1 hlo.2.2.1 ((hlo.2.2.2.1 6 0 (by decide)).trans h0) eD⟩
theorem v_topUp (hw : Wf μ) (h : MnV μ q d) {H : Hst} (hp : MpV μ q H) (hq0 : GdP q) (hT : TuD q d) (hgo : goD q d) {m n : Nat} (hm : m < pM q) (g1 : 1 ≤ n) (g2 : n ≤ 99) (hU : dU d < 6) (hle : pF q 9 3 ≤ dF d 6 1) : CV Y_X11_topUp R_X11_topUp [.ref 338, .int (nI m), .int (nI n)] μ (fun v V => v = some (.int (nI (dU (laD q (askD q d (nI m) (nI n))).2))) ∧ MaQ μ V q ((laD q (askD q d (nI m) (nI n))).2) (pushH H d)) := by
  by_cases hl0 : pF q 9 3 = 0
  · exact v_topUp_0 hw h hp hq0 hT hgo hm g1 g2 hU hle hl0
  · exact v_topUp_w hw h hp hq0 hT hgo hm g1 g2 hU hle hl0
end MODELTU
