section SERVE
variable {μ W V Z : Wd} {p f g : Nat} {q : PDt} {d d2 e : FDt} {H : Hst} {S : Nat → Option FDt}
/-- what the accounts come to -/
noncomputable def srA (q : PDt) (d : FDt) : Nat → Int64
  | 0 => dA d 0 + (alD q d).toInt64
  | 1 => dA d 1 + (nI (szG (svR q d).1 (dP d))).toInt64
  | 2 => dA d 2 + (waS (svR q d).2.1 (pM q)).toInt64
  | 3 => dA d 3 + (wcS q (svR q d).2.1 (pM q)).toInt64
  | 4 => dA d 4 + (nI (dP d) - nI (szG (svR q d).1 (dP d))).toInt64
  | _ => dA d 5 + 1
noncomputable def srvD (q : PDt) (d : FDt) : FDt := (dP d, 0, fun a i => if a = 6 ∧ i = 0 then 1 else if a = 6 ∧ i = 1 then 0 else dF d a i, srA q d)
theorem srv_fin (hw : Wf V) (hv : FV V 24 p d) {a0 a1 a2 a3 a4 a5 : Int64} (e0 : a0 = srA q d 0) (e1 : a1 = srA q d 1) (e2 : a2 = srA q d 2) (e3 : a3 = srA q d 3) (e4 : a4 = srA q d 4) (e5 : a5 = srA q d 5) (hZ : Z = sI (sI (sI (sL (sL (sL (sL (sL (sL V (24 + 16) 0 a0) (24 + 16) 1 a1) (24 + 16) 2 a2) (24 + 16) 3 a3) (24 + 16) 4 a4) (24 + 16) 5 a5) 24 1 1) 24 2 0) 24 8 0) : Out (sFl 24) V Z ∧ FV Z 24 p (srvD q d) := by
  have hs : ∀ x : Nat, x = 24 ∨ x = 24 + 16 → sFl 24 x := fun x hx => ⟨by omega, by omega⟩
  have hO : Out (sFl 24) V Z := by
    rw [hZ]
    exact (((((((((Out.rfl' hw).sL (S := sFl 24) (hs _ (Or.inr rfl)) _ _).sL (S := sFl 24) (hs _ (Or.inr rfl)) _ _).sL (S := sFl 24) (hs _ (Or.inr rfl)) _ _).sL (S := sFl 24) (hs _ (Or.inr rfl)) _ _).sL (S := sFl 24) (hs _ (Or.inr rfl)) _ _).sL (S := sFl 24) (hs _ (Or.inr rfl)) _ _).sI (S := sFl 24) (hs _ (Or.inl rfl)) _ _).sI (S := sFl 24) (hs _ (Or.inl rfl)) _ _).sI (S := sFl 24) (hs _ (Or.inl rfl)) _ _
  have eI : ∀ a b, gI Z a b = if a = 24 ∧ b = 8 then 0 else if a = 24 ∧ b = 2 then 0 else if a = 24 ∧ b = 1 then 1 else gI V a b := fun a b => by
    rw [hZ, gI_sI, gI_sI, gI_sI, gI_sL, gI_sL, gI_sL, gI_sL, gI_sL, gI_sL]
  have eL : ∀ b, gL Z (24 + 16) b = if b = 5 then a5 else if b = 4 then a4 else if b = 3 then a3 else if b = 2 then a2 else if b = 1 then a1 else if b = 0 then a0 else gL V (24 + 16) b := fun b => by
    have t : ∀ (X : Wd) (k : Nat) (v : Int64), gL (sL X (24 + 16) k v) (24 + 16) b = if b = k then v else gL X (24 + 16) b := fun X k v => by
      rw [gL_sL]
      by_cases z : b = k
      · rw [if_pos z, if_pos ⟨rfl, z⟩]
      · rw [if_neg z, if_neg (fun y => z y.2)]
    rw [hZ, gL_sI, gL_sI, gL_sI, t, t, t, t, t, t]
  have eR : gR Z 24 0 = gR V 24 0 := by rw [hZ]; rfl
  clear hZ
  have g : ∀ a i, dF (srvD q d) a i = if a = 6 ∧ i = 0 then 1 else if a = 6 ∧ i = 1 then 0 else dF d a i := fun a i => by unfold srvD dF; rfl
  have n : ∀ a i, a ≠ 6 → dF (srvD q d) a i = dF d a i := fun a i ha => by rw [g, if_neg (fun z => ha z.1), if_neg (fun z => ha z.1)]
  have m : ∀ a b, a ≠ 24 → gI Z a b = gI V a b := fun a b ha => by rw [eI, if_neg (fun z => ha z.1), if_neg (fun z => ha z.1), if_neg (fun z => ha z.1)]
  refine ⟨hO, hv.fl, eR.trans hv.rp, ⟨by rw [eI, if_neg (by omega), if_neg (by omega), if_neg (by omega)]; exact hv.hP, hv.P4⟩, ⟨by rw [eI, if_pos ⟨rfl, rfl⟩]; rfl, Nat.zero_le _⟩, fun i (hi : i < dP d) => ?_, fun i (hi : i < 0) => absurd hi (Nat.not_lt_zero i), ?_, ?_, fun t k ht hk => ?_, fun i hi => ?_⟩
  · rw [m (24 + 1) i (by decide), m (24 + 2) i (by decide), m (24 + 3) i (by decide), n 0 i (by decide), n 1 i (by decide), n 2 i (by decide)]
    exact ⟨hv.cab hi, hv.nee hi, hv.wis hi⟩
  · rw [eI, if_neg (by omega), if_neg (by omega), if_pos ⟨rfl, rfl⟩, g, if_pos ⟨rfl, rfl⟩]
  · rw [eI, if_neg (by omega), if_pos ⟨rfl, rfl⟩, g, if_neg (by omega), if_pos ⟨rfl, rfl⟩]
  · rw [m (24 + 5 + t) k (by omega), n (7 + t) k (by omega)]; exact hv.un ht hk
  · have h6 : i = 0 ∨ i = 1 ∨ i = 2 ∨ i = 3 ∨ i = 4 ∨ i = 5 := by omega
    rw [eL]
    show _ = srA q d i
    rcases h6 with rfl | rfl | rfl | rfl | rfl | rfl
    · rw [if_neg (by decide), if_neg (by decide), if_neg (by decide), if_neg (by decide), if_neg (by decide), if_pos rfl]; exact e0
    · rw [if_neg (by decide), if_neg (by decide), if_neg (by decide), if_neg (by decide), if_pos rfl]; exact e1
    · rw [if_neg (by decide), if_neg (by decide), if_neg (by decide), if_pos rfl]; exact e2
    · rw [if_neg (by decide), if_neg (by decide), if_pos rfl]; exact e3
    · rw [if_neg (by decide), if_pos rfl]; exact e4
    · rw [if_pos rfl]; exact e5
/-- after the service has been reckoned -/
theorem CrV.fr (h : CrV μ p q d H S) (hF : FrQ μ W) (h17 : gI W 0 17 = 1) (hok : SvOK W q d) : CrV W p q d H S := by
  have hpp := h.pv.pl
  have ho := hF.1
  exact ⟨ho.1, h.pv.out ho (fun i a b y => by rcases hpp with e | e <;> (subst e; rcases y with y | y <;> omega)), h.fv.out ho (fun i a b y => by rcases y with y | y <;> omega), h.hs.out ho (fun i y => by rcases y with y | y <;> omega), h.sl.out ho (fun i y => by rcases y with y | y <;> omega), Or.inr ⟨h17, hok⟩⟩
theorem fr_act (hF : FrQ μ W) : Out sAct μ W ∧ Own μ W := ⟨hF.1.mono (S' := sAct) (fun i y => by rcases y with y | y; exact Or.inl y; exact Or.inr (Or.inr (Or.inr (Or.inr ⟨by omega, y.2⟩)))), hF.2.1, hF.2.2⟩
abbrev R_X10_serve : Room := { frames := 9, cells := 0, slots := 0, locals := 182 }
abbrev RX_X10_serve : Room := { frames := 9, cells := 1, slots := 6, locals := 182 }

theorem c_serve (h : CrV μ p q d H S) (hd : GdD q d) (hq1 : GdP q) (hgo : goD q d) : CV Y_X10_serve R_X10_serve [.ref 0] μ (fun v V => v = some (.int (nI (szG (svR q d).1 (dP d)))) ∧ ActQ μ V p q (srvD q d) (pushH H d) S) := by
  have hw := h.wf
  have hv := h.fv
  have hq := h.pv
  have h01 := hd.s01
  have hC4 := hq.C4
  have hM4 := hq.M4
  have hT4 := hq.T4
  have hP4 := hv.P4
  have hU4 := hv.U4
  refine CV.ent yk_X10_serve (Nat.le_of_ble_eq_true rfl) ?_
  refine lf (a_aload_n dX10_serve_0 rfl) ?_
  refine lf (a_inv (b2 := (0, 0)) (c_requireFlight (by repeat (first | with_reducible exact hw | with_reducible exact hwc | with_reducible assumption | with_reducible apply Wf.sI | with_reducible apply Wf.sL | with_reducible apply Wf.cpI | with_reducible apply Wf.cpL | with_reducible apply Wf.cp2 | with_reducible apply Wf.sIs | with_reducible apply Wf.sLs | with_reducible apply Wf.cpU | with_reducible apply Wf.fillI | with_reducible apply Wf.clU | with_reducible apply Wf.dnF | with_reducible apply Wf.gbW)) hv hq hgo) rfl dX10_serve_1 yk_X10_requireFlight im_X10_requireFlight se_X10_requireFlight ml_X10_320 rfl (co_0 (by repeat (first | with_reducible exact hw | with_reducible exact hwc | with_reducible assumption | with_reducible apply Wf.sI | with_reducible apply Wf.sL | with_reducible apply Wf.cpI | with_reducible apply Wf.cpL | with_reducible apply Wf.cp2 | with_reducible apply Wf.sIs | with_reducible apply Wf.sLs | with_reducible apply Wf.cpU | with_reducible apply Wf.fillI | with_reducible apply Wf.clU | with_reducible apply Wf.dnF | with_reducible apply Wf.gbW))) (by decide) hc_X10 (by decide) (by decide) (Nat.le_of_ble_eq_true rfl)) ?_
  refine lf (a_aload_n dX10_serve_4 rfl) ?_
  obtain ⟨v_, W5, k5, rfl, hF, hF17, hok⟩ := (c_freshService hw hv hq hq1 hd h.sv)
  have hwf := hF.1.1
  have hC0 := h.fr hF hF17 hok
  have hA := fr_act hF
  obtain ⟨z3, z4, z5, z6, z7⟩ := hok.all hq.M4 (WiD.of hd)
  refine lf (a_inv (b2 := (0, 0)) k5 rfl dX10_serve_5 yk_X10_freshService im_X10_freshService se_X10_freshService ml_X10_243 rfl (co_0 (by repeat (first | with_reducible exact hw | with_reducible exact hwc | with_reducible assumption | with_reducible apply Wf.sI | with_reducible apply Wf.sL | with_reducible apply Wf.cpI | with_reducible apply Wf.cpL | with_reducible apply Wf.cp2 | with_reducible apply Wf.sIs | with_reducible apply Wf.sLs | with_reducible apply Wf.cpU | with_reducible apply Wf.fillI | with_reducible apply Wf.clU | with_reducible apply Wf.dnF | with_reducible apply Wf.gbW))) (by decide) hc_X10 (by decide) (by decide) (Nat.le_of_ble_eq_true rfl)) ?_
  refine lf (a_astore_n dX10_serve_8 (by decide)) ?_
  refine lf (a_aload_n dX10_serve_9 rfl) ?_
  obtain ⟨v_, W10, k10, rfl, hC, h17, hO1, hE1⟩ := (hC0.push h01)
  have hwc := hC.wf
  have hv2 := hC.fv
  have hq2 := hC.pv
  have e334 : ∀ k, gI W10 334 k = gI W5 334 k := fun k => hO1.i (fun y => by rcases y with y | y | y <;> omega) k
  have o4 := (e334 4).trans z4
  have o5 := (e334 5).trans z5
  have o6 := (e334 6).trans z6
  clear z3 z4 z5 z6 z7
  refine lf (a_inv (b2 := (0, 0)) k10 rfl dX10_serve_10 yk_X10_beginAct im_X10_beginAct se_X10_beginAct ml_X10_329 rfl (co_0 (by repeat (first | with_reducible exact hw | with_reducible exact hwc | with_reducible assumption | with_reducible apply Wf.sI | with_reducible apply Wf.sL | with_reducible apply Wf.cpI | with_reducible apply Wf.cpL | with_reducible apply Wf.cp2 | with_reducible apply Wf.sIs | with_reducible apply Wf.sLs | with_reducible apply Wf.cpU | with_reducible apply Wf.fillI | with_reducible apply Wf.clU | with_reducible apply Wf.dnF | with_reducible apply Wf.gbW))) (by decide) hc_X10 (by decide) (by decide) (Nat.le_of_ble_eq_true rfl)) ?_
  refine lf (a_aload_n dX10_serve_13 rfl) ?_
  refine lf (a_getR (cr_0_7 (by repeat (first | with_reducible exact hw | with_reducible exact hwc | with_reducible assumption | with_reducible apply Wf.sI | with_reducible apply Wf.sL | with_reducible apply Wf.cpI | with_reducible apply Wf.cpL | with_reducible apply Wf.cp2 | with_reducible apply Wf.sIs | with_reducible apply Wf.sLs | with_reducible apply Wf.cpU | with_reducible apply Wf.fillI | with_reducible apply Wf.clU | with_reducible apply Wf.dnF | with_reducible apply Wf.gbW))) dX10_serve_14 fs_X10_28 rfl (co_0 (by repeat (first | with_reducible exact hw | with_reducible exact hwc | with_reducible assumption | with_reducible apply Wf.sI | with_reducible apply Wf.sL | with_reducible apply Wf.cpI | with_reducible apply Wf.cpL | with_reducible apply Wf.cp2 | with_reducible apply Wf.sIs | with_reducible apply Wf.sLs | with_reducible apply Wf.cpU | with_reducible apply Wf.fillI | with_reducible apply Wf.clU | with_reducible apply Wf.dnF | with_reducible apply Wf.gbW)))) ?_
  refine lf (a_getR (fl_r12 (by repeat (first | with_reducible exact hw | with_reducible exact hwc | with_reducible assumption | with_reducible apply Wf.sI | with_reducible apply Wf.sL | with_reducible apply Wf.cpI | with_reducible apply Wf.cpL | with_reducible apply Wf.cp2 | with_reducible apply Wf.sIs | with_reducible apply Wf.sLs | with_reducible apply Wf.cpU | with_reducible apply Wf.fillI | with_reducible apply Wf.clU | with_reducible apply Wf.dnF | with_reducible apply Wf.gbW)) fl_now) dX10_serve_17 fs_X10_379 rfl (fl_o (by repeat (first | with_reducible exact hw | with_reducible exact hwc | with_reducible assumption | with_reducible apply Wf.sI | with_reducible apply Wf.sL | with_reducible apply Wf.cpI | with_reducible apply Wf.cpL | with_reducible apply Wf.cp2 | with_reducible apply Wf.sIs | with_reducible apply Wf.sLs | with_reducible apply Wf.cpU | with_reducible apply Wf.fillI | with_reducible apply Wf.clU | with_reducible apply Wf.dnF | with_reducible apply Wf.gbW)) fl_now)) ?_
  refine lf (a_iconst (0 : Int32) dX10_serve_20 (by decide)) ?_
  refine lf (a_dup2 dX10_serve_21 rfl rfl) ?_
  refine lf (a_lld dX10_serve_22 (fl_a16 (by repeat (first | with_reducible exact hw | with_reducible exact hwc | with_reducible assumption | with_reducible apply Wf.sI | with_reducible apply Wf.sL | with_reducible apply Wf.cpI | with_reducible apply Wf.cpL | with_reducible apply Wf.cp2 | with_reducible apply Wf.sIs | with_reducible apply Wf.sLs | with_reducible apply Wf.cpU | with_reducible apply Wf.fillI | with_reducible apply Wf.clU | with_reducible apply Wf.dnF | with_reducible apply Wf.gbW)) fl_now) (ixn (m := 0) (by omega) (by decide))) ?_
  repeat rw [gL_sL, if_neg (by omega)]
  rw [hv2.acc (i := 0) (by decide)]
  refine lf (a_aload_n dX10_serve_23 rfl) ?_
  refine lf (a_getR (cr_0_7 (by repeat (first | with_reducible exact hw | with_reducible exact hwc | with_reducible assumption | with_reducible apply Wf.sI | with_reducible apply Wf.sL | with_reducible apply Wf.cpI | with_reducible apply Wf.cpL | with_reducible apply Wf.cp2 | with_reducible apply Wf.sIs | with_reducible apply Wf.sLs | with_reducible apply Wf.cpU | with_reducible apply Wf.fillI | with_reducible apply Wf.clU | with_reducible apply Wf.dnF | with_reducible apply Wf.gbW))) dX10_serve_24 fs_X10_28 rfl (co_0 (by repeat (first | with_reducible exact hw | with_reducible exact hwc | with_reducible assumption | with_reducible apply Wf.sI | with_reducible apply Wf.sL | with_reducible apply Wf.cpI | with_reducible apply Wf.cpL | with_reducible apply Wf.cp2 | with_reducible apply Wf.sIs | with_reducible apply Wf.sLs | with_reducible apply Wf.cpU | with_reducible apply Wf.fillI | with_reducible apply Wf.clU | with_reducible apply Wf.dnF | with_reducible apply Wf.gbW)))) ?_
  refine lf (a_inv (b2 := (0, 0)) (v_X1_allLoaded hwc hv2 hq2) rfl dX10_serve_27 yk_X1_allLoaded im_X1_allLoaded se_X1_allLoaded ml_X10_154 rfl (fl_o (by repeat (first | with_reducible exact hw | with_reducible exact hwc | with_reducible assumption | with_reducible apply Wf.sI | with_reducible apply Wf.sL | with_reducible apply Wf.cpI | with_reducible apply Wf.cpL | with_reducible apply Wf.cp2 | with_reducible apply Wf.sIs | with_reducible apply Wf.sLs | with_reducible apply Wf.cpU | with_reducible apply Wf.fillI | with_reducible apply Wf.clU | with_reducible apply Wf.dnF | with_reducible apply Wf.gbW)) fl_now) (by decide) hc_X1 (by decide) (by decide) (Nat.le_of_ble_eq_true rfl)) ?_
  refine lf (a_i2l dX10_serve_30) ?_
  refine lf (a_ladd dX10_serve_31) ?_
  refine lf (a_lst dX10_serve_32 (fl_a16 (by repeat (first | with_reducible exact hw | with_reducible exact hwc | with_reducible assumption | with_reducible apply Wf.sI | with_reducible apply Wf.sL | with_reducible apply Wf.cpI | with_reducible apply Wf.cpL | with_reducible apply Wf.cp2 | with_reducible apply Wf.sIs | with_reducible apply Wf.sLs | with_reducible apply Wf.cpU | with_reducible apply Wf.fillI | with_reducible apply Wf.clU | with_reducible apply Wf.dnF | with_reducible apply Wf.gbW)) fl_now) (ixn (m := 0) (by omega) (by decide))) ?_
  refine lf (a_aload_n dX10_serve_33 rfl) ?_
  refine lf (a_getR (cr_0_7 (by repeat (first | with_reducible exact hw | with_reducible exact hwc | with_reducible assumption | with_reducible apply Wf.sI | with_reducible apply Wf.sL | with_reducible apply Wf.cpI | with_reducible apply Wf.cpL | with_reducible apply Wf.cp2 | with_reducible apply Wf.sIs | with_reducible apply Wf.sLs | with_reducible apply Wf.cpU | with_reducible apply Wf.fillI | with_reducible apply Wf.clU | with_reducible apply Wf.dnF | with_reducible apply Wf.gbW))) dX10_serve_34 fs_X10_28 rfl (co_0 (by repeat (first | with_reducible exact hw | with_reducible exact hwc | with_reducible assumption | with_reducible apply Wf.sI | with_reducible apply Wf.sL | with_reducible apply Wf.cpI | with_reducible apply Wf.cpL | with_reducible apply Wf.cp2 | with_reducible apply Wf.sIs | with_reducible apply Wf.sLs | with_reducible apply Wf.cpU | with_reducible apply Wf.fillI | with_reducible apply Wf.clU | with_reducible apply Wf.dnF | with_reducible apply Wf.gbW)))) ?_
  refine lf (a_getR (fl_r12 (by repeat (first | with_reducible exact hw | with_reducible exact hwc | with_reducible assumption | with_reducible apply Wf.sI | with_reducible apply Wf.sL | with_reducible apply Wf.cpI | with_reducible apply Wf.cpL | with_reducible apply Wf.cp2 | with_reducible apply Wf.sIs | with_reducible apply Wf.sLs | with_reducible apply Wf.cpU | with_reducible apply Wf.fillI | with_reducible apply Wf.clU | with_reducible apply Wf.dnF | with_reducible apply Wf.gbW)) fl_now) dX10_serve_37 fs_X10_379 rfl (fl_o (by repeat (first | with_reducible exact hw | with_reducible exact hwc | with_reducible assumption | with_reducible apply Wf.sI | with_reducible apply Wf.sL | with_reducible apply Wf.cpI | with_reducible apply Wf.cpL | with_reducible apply Wf.cp2 | with_reducible apply Wf.sIs | with_reducible apply Wf.sLs | with_reducible apply Wf.cpU | with_reducible apply Wf.fillI | with_reducible apply Wf.clU | with_reducible apply Wf.dnF | with_reducible apply Wf.gbW)) fl_now)) ?_
  refine lf (a_iconst (1 : Int32) dX10_serve_40 (by decide)) ?_
  refine lf (a_dup2 dX10_serve_41 rfl rfl) ?_
  refine lf (a_lld dX10_serve_42 (fl_a16 (by repeat (first | with_reducible exact hw | with_reducible exact hwc | with_reducible assumption | with_reducible apply Wf.sI | with_reducible apply Wf.sL | with_reducible apply Wf.cpI | with_reducible apply Wf.cpL | with_reducible apply Wf.cp2 | with_reducible apply Wf.sIs | with_reducible apply Wf.sLs | with_reducible apply Wf.cpU | with_reducible apply Wf.fillI | with_reducible apply Wf.clU | with_reducible apply Wf.dnF | with_reducible apply Wf.gbW)) fl_now) (ixn (m := 1) (by omega) (by decide))) ?_
  repeat rw [gL_sL, if_neg (by omega)]
  rw [hv2.acc (i := 1) (by decide)]
  refine lf (a_aload_n dX10_serve_43 rfl) ?_
  refine lf (a_getI dX10_serve_44 fs_X10_365 rfl (co_334 (by repeat (first | with_reducible exact hw | with_reducible exact hwc | with_reducible assumption | with_reducible apply Wf.sI | with_reducible apply Wf.sL | with_reducible apply Wf.cpI | with_reducible apply Wf.cpL | with_reducible apply Wf.cp2 | with_reducible apply Wf.sIs | with_reducible apply Wf.sLs | with_reducible apply Wf.cpU | with_reducible apply Wf.fillI | with_reducible apply Wf.clU | with_reducible apply Wf.dnF | with_reducible apply Wf.gbW)))) ?_
  repeat rw [gI_sL]
  rw [o4]
  refine lf (a_i2l dX10_serve_47) ?_
  refine lf (a_ladd dX10_serve_48) ?_
  refine lf (a_lst dX10_serve_49 (fl_a16 (by repeat (first | with_reducible exact hw | with_reducible exact hwc | with_reducible assumption | with_reducible apply Wf.sI | with_reducible apply Wf.sL | with_reducible apply Wf.cpI | with_reducible apply Wf.cpL | with_reducible apply Wf.cp2 | with_reducible apply Wf.sIs | with_reducible apply Wf.sLs | with_reducible apply Wf.cpU | with_reducible apply Wf.fillI | with_reducible apply Wf.clU | with_reducible apply Wf.dnF | with_reducible apply Wf.gbW)) fl_now) (ixn (m := 1) (by omega) (by decide))) ?_
  refine lf (a_aload_n dX10_serve_50 rfl) ?_
  refine lf (a_getR (cr_0_7 (by repeat (first | with_reducible exact hw | with_reducible exact hwc | with_reducible assumption | with_reducible apply Wf.sI | with_reducible apply Wf.sL | with_reducible apply Wf.cpI | with_reducible apply Wf.cpL | with_reducible apply Wf.cp2 | with_reducible apply Wf.sIs | with_reducible apply Wf.sLs | with_reducible apply Wf.cpU | with_reducible apply Wf.fillI | with_reducible apply Wf.clU | with_reducible apply Wf.dnF | with_reducible apply Wf.gbW))) dX10_serve_51 fs_X10_28 rfl (co_0 (by repeat (first | with_reducible exact hw | with_reducible exact hwc | with_reducible assumption | with_reducible apply Wf.sI | with_reducible apply Wf.sL | with_reducible apply Wf.cpI | with_reducible apply Wf.cpL | with_reducible apply Wf.cp2 | with_reducible apply Wf.sIs | with_reducible apply Wf.sLs | with_reducible apply Wf.cpU | with_reducible apply Wf.fillI | with_reducible apply Wf.clU | with_reducible apply Wf.dnF | with_reducible apply Wf.gbW)))) ?_
  refine lf (a_getR (fl_r12 (by repeat (first | with_reducible exact hw | with_reducible exact hwc | with_reducible assumption | with_reducible apply Wf.sI | with_reducible apply Wf.sL | with_reducible apply Wf.cpI | with_reducible apply Wf.cpL | with_reducible apply Wf.cp2 | with_reducible apply Wf.sIs | with_reducible apply Wf.sLs | with_reducible apply Wf.cpU | with_reducible apply Wf.fillI | with_reducible apply Wf.clU | with_reducible apply Wf.dnF | with_reducible apply Wf.gbW)) fl_now) dX10_serve_54 fs_X10_379 rfl (fl_o (by repeat (first | with_reducible exact hw | with_reducible exact hwc | with_reducible assumption | with_reducible apply Wf.sI | with_reducible apply Wf.sL | with_reducible apply Wf.cpI | with_reducible apply Wf.cpL | with_reducible apply Wf.cp2 | with_reducible apply Wf.sIs | with_reducible apply Wf.sLs | with_reducible apply Wf.cpU | with_reducible apply Wf.fillI | with_reducible apply Wf.clU | with_reducible apply Wf.dnF | with_reducible apply Wf.gbW)) fl_now)) ?_
  refine lf (a_iconst (2 : Int32) dX10_serve_57 (by decide)) ?_
  refine lf (a_dup2 dX10_serve_58 rfl rfl) ?_
  refine lf (a_lld dX10_serve_59 (fl_a16 (by repeat (first | with_reducible exact hw | with_reducible exact hwc | with_reducible assumption | with_reducible apply Wf.sI | with_reducible apply Wf.sL | with_reducible apply Wf.cpI | with_reducible apply Wf.cpL | with_reducible apply Wf.cp2 | with_reducible apply Wf.sIs | with_reducible apply Wf.sLs | with_reducible apply Wf.cpU | with_reducible apply Wf.fillI | with_reducible apply Wf.clU | with_reducible apply Wf.dnF | with_reducible apply Wf.gbW)) fl_now) (ixn (m := 2) (by omega) (by decide))) ?_
  repeat rw [gL_sL, if_neg (by omega)]
  rw [hv2.acc (i := 2) (by decide)]
  refine lf (a_aload_n dX10_serve_60 rfl) ?_
  refine lf (a_getI dX10_serve_61 fs_X10_368 rfl (co_334 (by repeat (first | with_reducible exact hw | with_reducible exact hwc | with_reducible assumption | with_reducible apply Wf.sI | with_reducible apply Wf.sL | with_reducible apply Wf.cpI | with_reducible apply Wf.cpL | with_reducible apply Wf.cp2 | with_reducible apply Wf.sIs | with_reducible apply Wf.sLs | with_reducible apply Wf.cpU | with_reducible apply Wf.fillI | with_reducible apply Wf.clU | with_reducible apply Wf.dnF | with_reducible apply Wf.gbW)))) ?_
  repeat rw [gI_sL]
  rw [o5]
  refine lf (a_i2l dX10_serve_64) ?_
  refine lf (a_ladd dX10_serve_65) ?_
  refine lf (a_lst dX10_serve_66 (fl_a16 (by repeat (first | with_reducible exact hw | with_reducible exact hwc | with_reducible assumption | with_reducible apply Wf.sI | with_reducible apply Wf.sL | with_reducible apply Wf.cpI | with_reducible apply Wf.cpL | with_reducible apply Wf.cp2 | with_reducible apply Wf.sIs | with_reducible apply Wf.sLs | with_reducible apply Wf.cpU | with_reducible apply Wf.fillI | with_reducible apply Wf.clU | with_reducible apply Wf.dnF | with_reducible apply Wf.gbW)) fl_now) (ixn (m := 2) (by omega) (by decide))) ?_
  refine lf (a_aload_n dX10_serve_67 rfl) ?_
  refine lf (a_getR (cr_0_7 (by repeat (first | with_reducible exact hw | with_reducible exact hwc | with_reducible assumption | with_reducible apply Wf.sI | with_reducible apply Wf.sL | with_reducible apply Wf.cpI | with_reducible apply Wf.cpL | with_reducible apply Wf.cp2 | with_reducible apply Wf.sIs | with_reducible apply Wf.sLs | with_reducible apply Wf.cpU | with_reducible apply Wf.fillI | with_reducible apply Wf.clU | with_reducible apply Wf.dnF | with_reducible apply Wf.gbW))) dX10_serve_68 fs_X10_28 rfl (co_0 (by repeat (first | with_reducible exact hw | with_reducible exact hwc | with_reducible assumption | with_reducible apply Wf.sI | with_reducible apply Wf.sL | with_reducible apply Wf.cpI | with_reducible apply Wf.cpL | with_reducible apply Wf.cp2 | with_reducible apply Wf.sIs | with_reducible apply Wf.sLs | with_reducible apply Wf.cpU | with_reducible apply Wf.fillI | with_reducible apply Wf.clU | with_reducible apply Wf.dnF | with_reducible apply Wf.gbW)))) ?_
  refine lf (a_getR (fl_r12 (by repeat (first | with_reducible exact hw | with_reducible exact hwc | with_reducible assumption | with_reducible apply Wf.sI | with_reducible apply Wf.sL | with_reducible apply Wf.cpI | with_reducible apply Wf.cpL | with_reducible apply Wf.cp2 | with_reducible apply Wf.sIs | with_reducible apply Wf.sLs | with_reducible apply Wf.cpU | with_reducible apply Wf.fillI | with_reducible apply Wf.clU | with_reducible apply Wf.dnF | with_reducible apply Wf.gbW)) fl_now) dX10_serve_71 fs_X10_379 rfl (fl_o (by repeat (first | with_reducible exact hw | with_reducible exact hwc | with_reducible assumption | with_reducible apply Wf.sI | with_reducible apply Wf.sL | with_reducible apply Wf.cpI | with_reducible apply Wf.cpL | with_reducible apply Wf.cp2 | with_reducible apply Wf.sIs | with_reducible apply Wf.sLs | with_reducible apply Wf.cpU | with_reducible apply Wf.fillI | with_reducible apply Wf.clU | with_reducible apply Wf.dnF | with_reducible apply Wf.gbW)) fl_now)) ?_
  refine lf (a_iconst (3 : Int32) dX10_serve_74 (by decide)) ?_
  refine lf (a_dup2 dX10_serve_75 rfl rfl) ?_
  refine lf (a_lld dX10_serve_76 (fl_a16 (by repeat (first | with_reducible exact hw | with_reducible exact hwc | with_reducible assumption | with_reducible apply Wf.sI | with_reducible apply Wf.sL | with_reducible apply Wf.cpI | with_reducible apply Wf.cpL | with_reducible apply Wf.cp2 | with_reducible apply Wf.sIs | with_reducible apply Wf.sLs | with_reducible apply Wf.cpU | with_reducible apply Wf.fillI | with_reducible apply Wf.clU | with_reducible apply Wf.dnF | with_reducible apply Wf.gbW)) fl_now) (ixn (m := 3) (by omega) (by decide))) ?_
  repeat rw [gL_sL, if_neg (by omega)]
  rw [hv2.acc (i := 3) (by decide)]
  refine lf (a_aload_n dX10_serve_77 rfl) ?_
  refine lf (a_getI dX10_serve_78 fs_X10_371 rfl (co_334 (by repeat (first | with_reducible exact hw | with_reducible exact hwc | with_reducible assumption | with_reducible apply Wf.sI | with_reducible apply Wf.sL | with_reducible apply Wf.cpI | with_reducible apply Wf.cpL | with_reducible apply Wf.cp2 | with_reducible apply Wf.sIs | with_reducible apply Wf.sLs | with_reducible apply Wf.cpU | with_reducible apply Wf.fillI | with_reducible apply Wf.clU | with_reducible apply Wf.dnF | with_reducible apply Wf.gbW)))) ?_
  repeat rw [gI_sL]
  rw [o6]
  refine lf (a_i2l dX10_serve_81) ?_
  refine lf (a_ladd dX10_serve_82) ?_
  refine lf (a_lst dX10_serve_83 (fl_a16 (by repeat (first | with_reducible exact hw | with_reducible exact hwc | with_reducible assumption | with_reducible apply Wf.sI | with_reducible apply Wf.sL | with_reducible apply Wf.cpI | with_reducible apply Wf.cpL | with_reducible apply Wf.cp2 | with_reducible apply Wf.sIs | with_reducible apply Wf.sLs | with_reducible apply Wf.cpU | with_reducible apply Wf.fillI | with_reducible apply Wf.clU | with_reducible apply Wf.dnF | with_reducible apply Wf.gbW)) fl_now) (ixn (m := 3) (by omega) (by decide))) ?_
  refine lf (a_aload_n dX10_serve_84 rfl) ?_
  refine lf (a_getR (cr_0_7 (by repeat (first | with_reducible exact hw | with_reducible exact hwc | with_reducible assumption | with_reducible apply Wf.sI | with_reducible apply Wf.sL | with_reducible apply Wf.cpI | with_reducible apply Wf.cpL | with_reducible apply Wf.cp2 | with_reducible apply Wf.sIs | with_reducible apply Wf.sLs | with_reducible apply Wf.cpU | with_reducible apply Wf.fillI | with_reducible apply Wf.clU | with_reducible apply Wf.dnF | with_reducible apply Wf.gbW))) dX10_serve_85 fs_X10_28 rfl (co_0 (by repeat (first | with_reducible exact hw | with_reducible exact hwc | with_reducible assumption | with_reducible apply Wf.sI | with_reducible apply Wf.sL | with_reducible apply Wf.cpI | with_reducible apply Wf.cpL | with_reducible apply Wf.cp2 | with_reducible apply Wf.sIs | with_reducible apply Wf.sLs | with_reducible apply Wf.cpU | with_reducible apply Wf.fillI | with_reducible apply Wf.clU | with_reducible apply Wf.dnF | with_reducible apply Wf.gbW)))) ?_
  refine lf (a_getR (fl_r12 (by repeat (first | with_reducible exact hw | with_reducible exact hwc | with_reducible assumption | with_reducible apply Wf.sI | with_reducible apply Wf.sL | with_reducible apply Wf.cpI | with_reducible apply Wf.cpL | with_reducible apply Wf.cp2 | with_reducible apply Wf.sIs | with_reducible apply Wf.sLs | with_reducible apply Wf.cpU | with_reducible apply Wf.fillI | with_reducible apply Wf.clU | with_reducible apply Wf.dnF | with_reducible apply Wf.gbW)) fl_now) dX10_serve_88 fs_X10_379 rfl (fl_o (by repeat (first | with_reducible exact hw | with_reducible exact hwc | with_reducible assumption | with_reducible apply Wf.sI | with_reducible apply Wf.sL | with_reducible apply Wf.cpI | with_reducible apply Wf.cpL | with_reducible apply Wf.cp2 | with_reducible apply Wf.sIs | with_reducible apply Wf.sLs | with_reducible apply Wf.cpU | with_reducible apply Wf.fillI | with_reducible apply Wf.clU | with_reducible apply Wf.dnF | with_reducible apply Wf.gbW)) fl_now)) ?_
  refine lf (a_iconst (4 : Int32) dX10_serve_91 (by decide)) ?_
  refine lf (a_dup2 dX10_serve_92 rfl rfl) ?_
  refine lf (a_lld dX10_serve_93 (fl_a16 (by repeat (first | with_reducible exact hw | with_reducible exact hwc | with_reducible assumption | with_reducible apply Wf.sI | with_reducible apply Wf.sL | with_reducible apply Wf.cpI | with_reducible apply Wf.cpL | with_reducible apply Wf.cp2 | with_reducible apply Wf.sIs | with_reducible apply Wf.sLs | with_reducible apply Wf.cpU | with_reducible apply Wf.fillI | with_reducible apply Wf.clU | with_reducible apply Wf.dnF | with_reducible apply Wf.gbW)) fl_now) (ixn (m := 4) (by omega) (by decide))) ?_
  repeat rw [gL_sL, if_neg (by omega)]
  rw [hv2.acc (i := 4) (by decide)]
  refine lf (a_aload_n dX10_serve_94 rfl) ?_
  refine lf (a_getR (cr_0_7 (by repeat (first | with_reducible exact hw | with_reducible exact hwc | with_reducible assumption | with_reducible apply Wf.sI | with_reducible apply Wf.sL | with_reducible apply Wf.cpI | with_reducible apply Wf.cpL | with_reducible apply Wf.cp2 | with_reducible apply Wf.sIs | with_reducible apply Wf.sLs | with_reducible apply Wf.cpU | with_reducible apply Wf.fillI | with_reducible apply Wf.clU | with_reducible apply Wf.dnF | with_reducible apply Wf.gbW))) dX10_serve_95 fs_X10_28 rfl (co_0 (by repeat (first | with_reducible exact hw | with_reducible exact hwc | with_reducible assumption | with_reducible apply Wf.sI | with_reducible apply Wf.sL | with_reducible apply Wf.cpI | with_reducible apply Wf.cpL | with_reducible apply Wf.cp2 | with_reducible apply Wf.sIs | with_reducible apply Wf.sLs | with_reducible apply Wf.cpU | with_reducible apply Wf.fillI | with_reducible apply Wf.clU | with_reducible apply Wf.dnF | with_reducible apply Wf.gbW)))) ?_
  refine lf (a_getI dX10_serve_98 fs_X10_132 rfl (fl_o (by repeat (first | with_reducible exact hw | with_reducible exact hwc | with_reducible assumption | with_reducible apply Wf.sI | with_reducible apply Wf.sL | with_reducible apply Wf.cpI | with_reducible apply Wf.cpL | with_reducible apply Wf.cp2 | with_reducible apply Wf.sIs | with_reducible apply Wf.sLs | with_reducible apply Wf.cpU | with_reducible apply Wf.fillI | with_reducible apply Wf.clU | with_reducible apply Wf.dnF | with_reducible apply Wf.gbW)) fl_now)) ?_
  repeat rw [gI_sL]
  rw [hv2.hP]
  refine lf (a_aload_n dX10_serve_101 rfl) ?_
  refine lf (a_getI dX10_serve_102 fs_X10_365 rfl (co_334 (by repeat (first | with_reducible exact hw | with_reducible exact hwc | with_reducible assumption | with_reducible apply Wf.sI | with_reducible apply Wf.sL | with_reducible apply Wf.cpI | with_reducible apply Wf.cpL | with_reducible apply Wf.cp2 | with_reducible apply Wf.sIs | with_reducible apply Wf.sLs | with_reducible apply Wf.cpU | with_reducible apply Wf.fillI | with_reducible apply Wf.clU | with_reducible apply Wf.dnF | with_reducible apply Wf.gbW)))) ?_
  repeat rw [gI_sL]
  rw [o4]
  refine lf (a_isub dX10_serve_105) ?_
  refine lf (a_i2l dX10_serve_106) ?_
  refine lf (a_ladd dX10_serve_107) ?_
  refine lf (a_lst dX10_serve_108 (fl_a16 (by repeat (first | with_reducible exact hw | with_reducible exact hwc | with_reducible assumption | with_reducible apply Wf.sI | with_reducible apply Wf.sL | with_reducible apply Wf.cpI | with_reducible apply Wf.cpL | with_reducible apply Wf.cp2 | with_reducible apply Wf.sIs | with_reducible apply Wf.sLs | with_reducible apply Wf.cpU | with_reducible apply Wf.fillI | with_reducible apply Wf.clU | with_reducible apply Wf.dnF | with_reducible apply Wf.gbW)) fl_now) (ixn (m := 4) (by omega) (by decide))) ?_
  refine lf (a_aload_n dX10_serve_109 rfl) ?_
  refine lf (a_getR (cr_0_7 (by repeat (first | with_reducible exact hw | with_reducible exact hwc | with_reducible assumption | with_reducible apply Wf.sI | with_reducible apply Wf.sL | with_reducible apply Wf.cpI | with_reducible apply Wf.cpL | with_reducible apply Wf.cp2 | with_reducible apply Wf.sIs | with_reducible apply Wf.sLs | with_reducible apply Wf.cpU | with_reducible apply Wf.fillI | with_reducible apply Wf.clU | with_reducible apply Wf.dnF | with_reducible apply Wf.gbW))) dX10_serve_110 fs_X10_28 rfl (co_0 (by repeat (first | with_reducible exact hw | with_reducible exact hwc | with_reducible assumption | with_reducible apply Wf.sI | with_reducible apply Wf.sL | with_reducible apply Wf.cpI | with_reducible apply Wf.cpL | with_reducible apply Wf.cp2 | with_reducible apply Wf.sIs | with_reducible apply Wf.sLs | with_reducible apply Wf.cpU | with_reducible apply Wf.fillI | with_reducible apply Wf.clU | with_reducible apply Wf.dnF | with_reducible apply Wf.gbW)))) ?_
  refine lf (a_getR (fl_r12 (by repeat (first | with_reducible exact hw | with_reducible exact hwc | with_reducible assumption | with_reducible apply Wf.sI | with_reducible apply Wf.sL | with_reducible apply Wf.cpI | with_reducible apply Wf.cpL | with_reducible apply Wf.cp2 | with_reducible apply Wf.sIs | with_reducible apply Wf.sLs | with_reducible apply Wf.cpU | with_reducible apply Wf.fillI | with_reducible apply Wf.clU | with_reducible apply Wf.dnF | with_reducible apply Wf.gbW)) fl_now) dX10_serve_113 fs_X10_379 rfl (fl_o (by repeat (first | with_reducible exact hw | with_reducible exact hwc | with_reducible assumption | with_reducible apply Wf.sI | with_reducible apply Wf.sL | with_reducible apply Wf.cpI | with_reducible apply Wf.cpL | with_reducible apply Wf.cp2 | with_reducible apply Wf.sIs | with_reducible apply Wf.sLs | with_reducible apply Wf.cpU | with_reducible apply Wf.fillI | with_reducible apply Wf.clU | with_reducible apply Wf.dnF | with_reducible apply Wf.gbW)) fl_now)) ?_
  refine lf (a_iconst (5 : Int32) dX10_serve_116 (by decide)) ?_
  refine lf (a_dup2 dX10_serve_117 rfl rfl) ?_
  refine lf (a_lld dX10_serve_118 (fl_a16 (by repeat (first | with_reducible exact hw | with_reducible exact hwc | with_reducible assumption | with_reducible apply Wf.sI | with_reducible apply Wf.sL | with_reducible apply Wf.cpI | with_reducible apply Wf.cpL | with_reducible apply Wf.cp2 | with_reducible apply Wf.sIs | with_reducible apply Wf.sLs | with_reducible apply Wf.cpU | with_reducible apply Wf.fillI | with_reducible apply Wf.clU | with_reducible apply Wf.dnF | with_reducible apply Wf.gbW)) fl_now) (ixn (m := 5) (by omega) (by decide))) ?_
  repeat rw [gL_sL, if_neg (by omega)]
  rw [hv2.acc (i := 5) (by decide)]
  refine lf (a_lconst (1 : Int64) dX10_serve_119 (by decide)) ?_
  refine lf (a_ladd dX10_serve_120) ?_
  refine lf (a_lst dX10_serve_121 (fl_a16 (by repeat (first | with_reducible exact hw | with_reducible exact hwc | with_reducible assumption | with_reducible apply Wf.sI | with_reducible apply Wf.sL | with_reducible apply Wf.cpI | with_reducible apply Wf.cpL | with_reducible apply Wf.cp2 | with_reducible apply Wf.sIs | with_reducible apply Wf.sLs | with_reducible apply Wf.cpU | with_reducible apply Wf.fillI | with_reducible apply Wf.clU | with_reducible apply Wf.dnF | with_reducible apply Wf.gbW)) fl_now) (ixn (m := 5) (by omega) (by decide))) ?_
  refine lf (a_aload_n dX10_serve_122 rfl) ?_
  refine lf (a_getR (cr_0_7 (by repeat (first | with_reducible exact hw | with_reducible exact hwc | with_reducible assumption | with_reducible apply Wf.sI | with_reducible apply Wf.sL | with_reducible apply Wf.cpI | with_reducible apply Wf.cpL | with_reducible apply Wf.cp2 | with_reducible apply Wf.sIs | with_reducible apply Wf.sLs | with_reducible apply Wf.cpU | with_reducible apply Wf.fillI | with_reducible apply Wf.clU | with_reducible apply Wf.dnF | with_reducible apply Wf.gbW))) dX10_serve_123 fs_X10_28 rfl (co_0 (by repeat (first | with_reducible exact hw | with_reducible exact hwc | with_reducible assumption | with_reducible apply Wf.sI | with_reducible apply Wf.sL | with_reducible apply Wf.cpI | with_reducible apply Wf.cpL | with_reducible apply Wf.cp2 | with_reducible apply Wf.sIs | with_reducible apply Wf.sLs | with_reducible apply Wf.cpU | with_reducible apply Wf.fillI | with_reducible apply Wf.clU | with_reducible apply Wf.dnF | with_reducible apply Wf.gbW)))) ?_
  refine lf (a_iconst (1 : Int32) dX10_serve_126 (by decide)) ?_
  refine lf (a_putI dX10_serve_127 fs_X10_383 rfl rfl rfl (fl_o (by repeat (first | with_reducible exact hw | with_reducible exact hwc | with_reducible assumption | with_reducible apply Wf.sI | with_reducible apply Wf.sL | with_reducible apply Wf.cpI | with_reducible apply Wf.cpL | with_reducible apply Wf.cp2 | with_reducible apply Wf.sIs | with_reducible apply Wf.sLs | with_reducible apply Wf.cpU | with_reducible apply Wf.fillI | with_reducible apply Wf.clU | with_reducible apply Wf.dnF | with_reducible apply Wf.gbW)) fl_now)) ?_
  refine lf (a_aload_n dX10_serve_130 rfl) ?_
  refine lf (a_getR (cr_0_7 (by repeat (first | with_reducible exact hw | with_reducible exact hwc | with_reducible assumption | with_reducible apply Wf.sI | with_reducible apply Wf.sL | with_reducible apply Wf.cpI | with_reducible apply Wf.cpL | with_reducible apply Wf.cp2 | with_reducible apply Wf.sIs | with_reducible apply Wf.sLs | with_reducible apply Wf.cpU | with_reducible apply Wf.fillI | with_reducible apply Wf.clU | with_reducible apply Wf.dnF | with_reducible apply Wf.gbW))) dX10_serve_131 fs_X10_28 rfl (co_0 (by repeat (first | with_reducible exact hw | with_reducible exact hwc | with_reducible assumption | with_reducible apply Wf.sI | with_reducible apply Wf.sL | with_reducible apply Wf.cpI | with_reducible apply Wf.cpL | with_reducible apply Wf.cp2 | with_reducible apply Wf.sIs | with_reducible apply Wf.sLs | with_reducible apply Wf.cpU | with_reducible apply Wf.fillI | with_reducible apply Wf.clU | with_reducible apply Wf.dnF | with_reducible apply Wf.gbW)))) ?_
  refine lf (a_iconst (0 : Int32) dX10_serve_134 (by decide)) ?_
  refine lf (a_putI dX10_serve_135 fs_X10_148 rfl rfl rfl (fl_o (by repeat (first | with_reducible exact hw | with_reducible exact hwc | with_reducible assumption | with_reducible apply Wf.sI | with_reducible apply Wf.sL | with_reducible apply Wf.cpI | with_reducible apply Wf.cpL | with_reducible apply Wf.cp2 | with_reducible apply Wf.sIs | with_reducible apply Wf.sLs | with_reducible apply Wf.cpU | with_reducible apply Wf.fillI | with_reducible apply Wf.clU | with_reducible apply Wf.dnF | with_reducible apply Wf.gbW)) fl_now)) ?_
  refine lf (a_aload_n dX10_serve_138 rfl) ?_
  refine lf (a_getR (cr_0_7 (by repeat (first | with_reducible exact hw | with_reducible exact hwc | with_reducible assumption | with_reducible apply Wf.sI | with_reducible apply Wf.sL | with_reducible apply Wf.cpI | with_reducible apply Wf.cpL | with_reducible apply Wf.cp2 | with_reducible apply Wf.sIs | with_reducible apply Wf.sLs | with_reducible apply Wf.cpU | with_reducible apply Wf.fillI | with_reducible apply Wf.clU | with_reducible apply Wf.dnF | with_reducible apply Wf.gbW))) dX10_serve_139 fs_X10_28 rfl (co_0 (by repeat (first | with_reducible exact hw | with_reducible exact hwc | with_reducible assumption | with_reducible apply Wf.sI | with_reducible apply Wf.sL | with_reducible apply Wf.cpI | with_reducible apply Wf.cpL | with_reducible apply Wf.cp2 | with_reducible apply Wf.sIs | with_reducible apply Wf.sLs | with_reducible apply Wf.cpU | with_reducible apply Wf.fillI | with_reducible apply Wf.clU | with_reducible apply Wf.dnF | with_reducible apply Wf.gbW)))) ?_
  refine lf (a_iconst (0 : Int32) dX10_serve_142 (by decide)) ?_
  refine lf (a_putI dX10_serve_143 fs_X10_151 rfl rfl rfl (fl_o (by repeat (first | with_reducible exact hw | with_reducible exact hwc | with_reducible assumption | with_reducible apply Wf.sI | with_reducible apply Wf.sL | with_reducible apply Wf.cpI | with_reducible apply Wf.cpL | with_reducible apply Wf.cp2 | with_reducible apply Wf.sIs | with_reducible apply Wf.sLs | with_reducible apply Wf.cpU | with_reducible apply Wf.fillI | with_reducible apply Wf.clU | with_reducible apply Wf.dnF | with_reducible apply Wf.gbW)) fl_now)) ?_
  obtain ⟨hO3, hv3⟩ := srv_fin (q := q) hwc hv2 rfl rfl rfl rfl rfl rfl rfl
  refine lf (a_aload_n dX10_serve_146 rfl) ?_
  refine lf (a_getI dX10_serve_147 fs_X10_365 rfl (co_334 (by repeat (first | with_reducible exact hw | with_reducible exact hwc | with_reducible assumption | with_reducible apply Wf.sI | with_reducible apply Wf.sL | with_reducible apply Wf.cpI | with_reducible apply Wf.cpL | with_reducible apply Wf.cp2 | with_reducible apply Wf.sIs | with_reducible apply Wf.sLs | with_reducible apply Wf.cpU | with_reducible apply Wf.fillI | with_reducible apply Wf.clU | with_reducible apply Wf.dnF | with_reducible apply Wf.gbW)))) ?_
  repeat rw [gI_sI, if_neg (by omega)]
  repeat rw [gI_sL]
  rw [o4]
  refine ⟨_, _, (a_ireturn dX10_serve_150 rfl rfl), ?_⟩
  exact ⟨_, rfl, rfl, ActQ.pre hA.1 hA.2 (ActQ.fin hC h17 hO1 hE1 hO3 hv3)⟩

theorem cx_serve (hw : Wf μ) (hv : FV μ 24 p d) (hq : PV μ p q) (h : ¬ goD q d) : Ct Y_X10_serve RX_X10_serve [.ref 0] μ (.inr ISE) (sI μ 0 6 1) := by
  have hC4 := hq.C4
  have hM4 := hq.M4
  have hT4 := hq.T4
  have hP4 := hv.P4
  have hU4 := hv.U4
  refine Ct.ent yk_X10_serve (Nat.le_of_ble_eq_true rfl) ?_
  refine a_aload_n dX10_serve_0 rfl ?_
  exact a_out rfl rfl (a_invX (cx_requireFlight hw hv hq h) rfl dX10_serve_1 yk_X10_requireFlight im_X10_requireFlight se_X10_requireFlight ml_X10_320 rfl (co_0 hw) (by decide) hc_X10 (by decide) (by decide) (Nat.le_of_ble_eq_true rfl) rfl)
end SERVE
