section MODELACT
variable {μ W V Z : Wd} {q : PDt} {d d2 : FDt}
theorem go_in (h : goD q d) : inI (phD q d) 1 2 = 1 := by rcases h with e | e <;> rw [e] <;> decide
theorem ngo_in (h : ¬ goD q d) : inI (phD q d) 1 2 = 0 := by
  unfold goD at h
  have h4 : phD q d = 0 ∨ phD q d = 1 ∨ phD q d = 2 ∨ phD q d = 3 := by
    unfold phD
    split
    · exact Or.inl rfl
    · split
      · split
        · exact Or.inr (Or.inr (Or.inl rfl))
        · exact Or.inr (Or.inl rfl)
      · exact Or.inr (Or.inr (Or.inr rfl))
  rcases h4 with e | e | e | e
  · rw [e]; decide
  · exact absurd (Or.inl e) h
  · exact absurd (Or.inr e) h
  · rw [e]; decide
theorem go_s0 (h : goD q d) : dF d 6 0 = 0 ∧ ¬ pF q 9 0 = 0 := by
  unfold goD phD at h
  by_cases h0 : pF q 9 0 = 0
  · rw [if_pos h0] at h; rcases h with e | e <;> exact absurd e (by decide)
  · rw [if_neg h0] at h
    by_cases h1 : dF d 6 0 = 0
    · exact ⟨h1, h0⟩
    · rw [if_neg h1] at h; rcases h with e | e <;> exact absurd e (by decide)
theorem seat_iff (hq : GdP q) (hd : GdD q d) {c : Nat} (hc : c < pC q) : paD d (nI c) < pF q 0 c ↔ ¬ pF q 0 c - paD d (nI c) < 1 := by
  obtain ⟨s, s1, s2, e⟩ := hq.seats hc
  have hp := paN_le d (nI c)
  have hP := hd.P4
  rw [e, paD_N, nI_ltI (by omega) (by omega)]
  by_cases h : paN d (nI c) < s
  · refine ⟨fun _ => ?_, fun _ => h⟩
    rw [nI_subI (by omega)]
    exact nI_nlt (a := s - paN d (nI c)) (b := 1) (by omega) (by omega)
  · refine ⟨fun z => absurd z h, fun z => absurd ?_ z⟩
    have e2 : nI s - nI (paN d (nI c)) = -nI (paN d (nI c) - s) := by
      rw [← nI_subI (show s ≤ paN d (nI c) by omega)]
      rw [Int32.neg_sub]
    rw [e2]
    have h9 : paN d (nI c) - s < 2 ^ 31 := by omega
    generalize paN d (nI c) - s = k at h9
    rw [Int32.lt_iff_toInt_lt, Int32.toInt_neg, nI_toInt h9]
    show _ < (1 : Int)
    rw [Int.bmod_def]
    split <;> omega
/-- nothing of the model's state has changed, but what it threw and its helping rows -/
abbrev sMt : Nat → Prop := fun i => sMq i ∨ i = 344
def MtQ (μ : Wd) (v : Int32) (V : Wd) : Prop := Out sMt μ V ∧ (∀ k, gI V 344 k = gI μ 344 k) ∧ gI V 338 0 = v ∧ ∀ k, k ≠ 0 → gI V 338 k = gI μ 338 k
theorem MtQ.of (hw : Wf μ) (v : Int32) : MtQ μ v (sI μ 338 0 v) := ⟨(MqQ.of hw v).1.mono (fun i y => Or.inl y), fun k => by rw [gI_sI, if_neg (by omega)], (MqQ.of hw v).2⟩
theorem MtQ.set {v : Int32} (hW : MtQ μ v W) (x : Int32) : MtQ μ x (sI W 338 0 x) := ⟨hW.1.sI (S := sMt) (Or.inl (Or.inl rfl)) _ _, fun k => by rw [gI_sI, if_neg (by omega)]; exact hW.2.1 k, by rw [gI_sI, if_pos ⟨rfl, rfl⟩], fun k hk => by rw [gI_sI, if_neg (fun z => hk z.2)]; exact hW.2.2.2 k hk⟩
theorem MtQ.of2 (hw : Wf μ) : MtQ μ 0 (sI (sI μ 338 0 0) 338 0 0) := (MtQ.of hw 0).set 0
theorem MtQ.rf (hw : Wf μ) : MtQ μ (gI μ 338 0) μ := ⟨Out.rfl' hw, fun _ => rfl, rfl, fun _ _ => rfl⟩
/-- a refused act of the model -/
def MrQ (μ : Wd) (y v : Int32) (V : Wd) : Prop := Out sMt μ V ∧ (∀ k, gI V 344 k = gI μ 344 k) ∧ gI V 338 0 = v ∧ gI V 338 15 = y ∧ ∀ k, k ≠ 0 → k ≠ 15 → gI V 338 k = gI μ 338 k
theorem MrQ.of {x : Int32} (hW : MtQ μ x W) (y v : Int32) : MrQ μ y v (sI (sI W 338 15 y) 338 0 v) := ⟨(hW.1.sI (S := sMt) (Or.inl (Or.inl rfl)) _ _).sI (S := sMt) (Or.inl (Or.inl rfl)) _ _, fun k => by rw [gI_sI, if_neg (by omega), gI_sI, if_neg (by omega)]; exact hW.2.1 k, by rw [gI_sI, if_pos ⟨rfl, rfl⟩], by rw [gI_sI, if_neg (by omega), gI_sI, if_pos ⟨rfl, rfl⟩], fun k h0 h1 => by rw [gI_sI, if_neg (by omega), gI_sI, if_neg (by omega)]; exact hW.2.2.2 k h0⟩
abbrev sAm : Nat → Prop := fun i => i = 338 ∨ i = 344 ∨ i = 346 ∨ i = 348 ∨ i = 349 ∨ (353 ≤ i ∧ i ≤ 361)
/-- the model has remembered -/
def RmQ (μ V : Wd) (q : PDt) (d : FDt) (H : Hst) : Prop := Wf V ∧ MnV V q d ∧ MpV V q H ∧ Out sAm μ V ∧ gI V 338 0 = 0 ∧ ∀ k, k ≠ 0 → k ≠ 14 → gI V 338 k = gI μ 338 k
/-- an act of the model is done -/
def MaQ (μ V : Wd) (q : PDt) (d : FDt) (H : Hst) : Prop := MnV V q d ∧ MpV V q H ∧ Out sAm μ V ∧ gI V 338 0 = 0 ∧ ∀ k, k ≠ 0 → k ≠ 14 → gI V 338 k = gI μ 338 k
theorem nMt : ¬ sMt 339 ∧ ¬ sMt 348 ∧ ¬ sMt 346 ∧ ¬ sMt 349 := ⟨fun z => by rcases z with (z | z) | z <;> omega, fun z => by rcases z with (z | z) | z <;> omega, fun z => by rcases z with (z | z) | z <;> omega, fun z => by rcases z with (z | z) | z <;> omega⟩
theorem MnV.mt {v : Int32} (h : MnV μ q d) (hW : MtQ μ v W) : MnV W q d := by
  have e9 : gI W 339 = gI μ 339 := funext (hW.1.i nMt.1)
  have e4 : gI W 344 = gI μ 344 := funext hW.2.1
  exact MnV.of (by rw [e9]; exact h.1.2.2.1) h.fit (by rw [e4]; exact h.rx) (fun k hk => (hW.1.l nMt.2.1 k).trans (h.2.2 k hk))
theorem v_rem {H : Hst} (hW : MtQ μ 0 W) (h : MnV μ q d) (hp : MpV μ q H) : CV Y_X11_remembers R_X11_remembers [.ref 338] W (fun v V => v = none ∧ RmQ μ V q d (pushH H d)) := by
  have hn : MnV W q d := h.mt hW
  have hpp : MpV W q H := hp.out hW.1 (hW.2.2.2 14 (by decide)) nMt.2.2.1 nMt.2.2.2
  obtain ⟨v, V, hc, hv, h1, h2, h3⟩ := v_remembers hW.1.wf hn hpp
  refine ⟨v, V, hc, hv, h2.wf, hn.out h2 (fun z => by rcases z with z | z | z <;> omega) (fun z => by rcases z with z | z | z <;> omega) (fun z => by rcases z with z | z | z <;> omega), h1, ?_, (h3 0 (by decide)).trans hW.2.2.1, fun k h0 h14 => (h3 k h14).trans (hW.2.2.2 k h0)⟩
  exact (hW.1.mono (S' := sAm) (fun i y => by rcases y with (y | y) | y; exact Or.inl y; exact Or.inr (Or.inr (Or.inr (Or.inr (Or.inr y)))); exact Or.inr (Or.inl y))).trans (h2.mono (S' := sAm) (fun i y => by rcases y with y | y | y; exact Or.inl y; exact Or.inr (Or.inr (Or.inl y)); exact Or.inr (Or.inr (Or.inr (Or.inr (Or.inl y))))))
theorem MaQ.fin' {H : Hst} (hR : RmQ μ W q d H) (hZ : Out s344O W Z) (hf : FitD q d2) (hr : RxV (gI Z 344) q d2) (hA : dA d2 = dA d) : MaQ μ Z q d2 H := by
  obtain ⟨hw, hn, hp, hO, h0, hk⟩ := hR
  have n1 : ∀ i, i ≠ 344 → i ≠ 353 → i ≠ 354 → ¬ s344O i := fun i a b c z => by rcases z with z | z | z <;> omega
  have e9 : gI Z 339 = gI W 339 := funext (hZ.i (n1 _ (by decide) (by decide) (by decide)))
  refine ⟨MnV.of (by rw [e9]; exact hn.1.2.2.1) hf hr (fun k h6 => (hZ.l (n1 _ (by decide) (by decide) (by decide)) k).trans (by rw [hA]; exact hn.2.2 k h6)), hp.out hZ (hZ.i (n1 _ (by decide) (by decide) (by decide)) 14) (n1 _ (by decide) (by decide) (by decide)) (n1 _ (by decide) (by decide) (by decide)), hO.trans (hZ.mono (S' := sAm) (fun i y => by rcases y with y | y | y; exact Or.inr (Or.inl y); exact Or.inr (Or.inr (Or.inr (Or.inr (Or.inr (by omega))))); exact Or.inr (Or.inr (Or.inr (Or.inr (Or.inr (by omega)))))))  , (hZ.i (n1 _ (by decide) (by decide) (by decide)) 0).trans h0, fun k h1 h2 => (hZ.i (n1 _ (by decide) (by decide) (by decide)) k).trans (hk k h1 h2)⟩
theorem MaQ.fin {H : Hst} (hR : RmQ μ W q d H) (hZ : Out s344 W Z) (hf : FitD q d2) (hr : RxV (gI Z 344) q d2) (hA : dA d2 = dA d) : MaQ μ Z q d2 H := MaQ.fin' hR (hZ.mono (fun i y => Or.inl y)) hf hr hA
/-- passengers changed in a row -/
theorem RxV.pas {r r2 : Nat → Int32} (h : RxV r q d) (hf : FitD q d) (h0 : dF d 6 0 = 0) (hU : dU d2 = dU d) (hF : ∀ a i, 3 ≤ a → dF d2 a i = dF d a i) (hr : ∀ x, x < 3 ∨ x = 4 ∨ 165 ≤ x → r2 x = r x) (h3 : r2 3 = nI (dP d2)) (hp : ∀ i, i < dP d2 → r2 (5 + 4 * i + 0) = dF d2 0 i ∧ r2 (5 + 4 * i + 1) = dF d2 1 i ∧ r2 (5 + 4 * i + 2) = dF d2 2 i ∧ r2 (5 + 4 * i + 3) = -1) : RxV r2 q d2 := by
  obtain ⟨g0, ⟨g1, g2, g3, g4, g5, g6, g7⟩, g8, g9⟩ := h
  have e0 : dF d2 6 0 = 0 := (hF 6 0 (by decide)).trans h0
  refine ⟨(hr 0 (by omega)).trans g0, ⟨(hr 1 (by omega)).trans (g1.trans (hF 6 0 (by decide)).symm), (hr 2 (by omega)).trans (g2.trans (hF 6 1 (by decide)).symm), h3, (hr 4 (by omega)).trans (g4.trans (by rw [hU])), fun i hi => ⟨(hp i hi).1, (hp i hi).2.1, (hp i hi).2.2.1⟩, fun i hi => ?_, fun t k ht hk => (hr _ (by omega)).trans ((g7 t k ht hk).trans (hF _ _ (by omega)).symm)⟩, fun i hi => ?_, fun m hm => ?_⟩
  · rw [hU] at hi
    rw [hr _ (by omega), hr _ (by omega), hr _ (by omega), hF 3 i (by decide), hF 4 i (by decide), hF 5 i (by decide)]
    exact g6 i hi
  · rw [if_pos e0]; exact (hp i hi).2.2.2
  · rw [if_pos e0, hr _ (by omega), g9 m hm, if_pos h0]
theorem RxV.got {r : Nat → Int32} {i : Nat} (h : RxV r q d) (h0 : dF d 6 0 = 0) (hi : i < dP d) : r (5 + 4 * i + 3) = -1 := (h.2.2.1 i hi).trans (if_pos h0)
abbrev R_X11_refuses : Room := { frames := 1, cells := 0, slots := 0, locals := 21 }
abbrev RX_X11_refuses : Room := { frames := 1, cells := 1, slots := 6, locals := 21 }

theorem m_refuses0 (hw : Wf μ) (w : Int32) : Ct Y_X11_refuses R_X11_refuses [.ref 338, .int 0, .int w] μ (.inl (some (.int 0))) (sI μ 338 0 0) := by
  refine Ct.ent yk_X11_refuses (Nat.le_of_ble_eq_true rfl) ?_
  refine a_iload_n dX11_refuses_0 rfl ?_
  refine a_if_le (tgt := 9) dX11_refuses_1 (by decide) (fun h1 => ?_) (fun h1 => absurd h1 (by decide))
  refine a_aload_n dX11_refuses_9 rfl ?_
  refine a_iload_n dX11_refuses_10 rfl ?_
  refine a_if_le (tgt := 18) dX11_refuses_11 (by decide) (fun h11 => ?_) (fun h11 => absurd h11 (by decide))
  refine a_iconst (0 : Int32) dX11_refuses_18 (by decide) ?_
  refine a_inv (b2 := (0, 0)) (m_isRefused0 (by repeat (first | with_reducible exact hw | with_reducible exact hwc | with_reducible assumption | with_reducible apply Wf.sI | with_reducible apply Wf.sL | with_reducible apply Wf.cpI | with_reducible apply Wf.cpL | with_reducible apply Wf.cp2 | with_reducible apply Wf.sIs | with_reducible apply Wf.sLs | with_reducible apply Wf.cpU | with_reducible apply Wf.fillI | with_reducible apply Wf.clU | with_reducible apply Wf.dnF | with_reducible apply Wf.gbW | with_reducible apply Wf.cpXf | with_reducible apply Wf.cpYf))) rfl dX11_refuses_19 yk_X11_isRefused im_X11_isRefused se_X11_isRefused ml_X11_98 rfl (co_338 (by repeat (first | with_reducible exact hw | with_reducible exact hwc | with_reducible assumption | with_reducible apply Wf.sI | with_reducible apply Wf.sL | with_reducible apply Wf.cpI | with_reducible apply Wf.cpL | with_reducible apply Wf.cp2 | with_reducible apply Wf.sIs | with_reducible apply Wf.sLs | with_reducible apply Wf.cpU | with_reducible apply Wf.fillI | with_reducible apply Wf.clU | with_reducible apply Wf.dnF | with_reducible apply Wf.gbW | with_reducible apply Wf.cpXf | with_reducible apply Wf.cpYf))) (by decide) hc_X11 (by decide) (by decide) (Nat.le_of_ble_eq_true rfl) ?_
  exact a_out rfl rfl (a_ireturn dX11_refuses_22 rfl rfl)
theorem m_refuses1 (hw : Wf μ) {y w : Int32} (hy : ¬ y ≤ 0) (hww : ¬ w ≤ 0) : Ct Y_X11_refuses R_X11_refuses [.ref 338, .int y, .int w] μ (.inl (some (.int 1))) (sI (sI μ 338 15 y) 338 0 w) := by
  refine Ct.ent yk_X11_refuses (Nat.le_of_ble_eq_true rfl) ?_
  refine a_iload_n dX11_refuses_0 rfl ?_
  refine a_if_le (tgt := 9) dX11_refuses_1 (by decide) (fun h1 => absurd h1 hy) (fun h1 => ?_)
  refine a_aload_n dX11_refuses_4 rfl ?_
  refine a_iload_n dX11_refuses_5 rfl ?_
  refine a_putI dX11_refuses_6 fs_X11_285 rfl rfl rfl (co_338 (by repeat (first | with_reducible exact hw | with_reducible exact hwc | with_reducible assumption | with_reducible apply Wf.sI | with_reducible apply Wf.sL | with_reducible apply Wf.cpI | with_reducible apply Wf.cpL | with_reducible apply Wf.cp2 | with_reducible apply Wf.sIs | with_reducible apply Wf.sLs | with_reducible apply Wf.cpU | with_reducible apply Wf.fillI | with_reducible apply Wf.clU | with_reducible apply Wf.dnF | with_reducible apply Wf.gbW | with_reducible apply Wf.cpXf | with_reducible apply Wf.cpYf))) ?_
  refine a_aload_n dX11_refuses_9 rfl ?_
  refine a_iload_n dX11_refuses_10 rfl ?_
  refine a_if_le (tgt := 18) dX11_refuses_11 (by decide) (fun h11 => absurd h11 hy) (fun h11 => ?_)
  refine a_iload_n dX11_refuses_14 rfl ?_
  refine a_goto (tgt := 19) dX11_refuses_15 (by decide) ?_
  refine a_inv (b2 := (0, 0)) (m_isRefused1 (by repeat (first | with_reducible exact hw | with_reducible exact hwc | with_reducible assumption | with_reducible apply Wf.sI | with_reducible apply Wf.sL | with_reducible apply Wf.cpI | with_reducible apply Wf.cpL | with_reducible apply Wf.cp2 | with_reducible apply Wf.sIs | with_reducible apply Wf.sLs | with_reducible apply Wf.cpU | with_reducible apply Wf.fillI | with_reducible apply Wf.clU | with_reducible apply Wf.dnF | with_reducible apply Wf.gbW | with_reducible apply Wf.cpXf | with_reducible apply Wf.cpYf)) hww) rfl dX11_refuses_19 yk_X11_isRefused im_X11_isRefused se_X11_isRefused ml_X11_98 rfl (co_338 (by repeat (first | with_reducible exact hw | with_reducible exact hwc | with_reducible assumption | with_reducible apply Wf.sI | with_reducible apply Wf.sL | with_reducible apply Wf.cpI | with_reducible apply Wf.cpL | with_reducible apply Wf.cp2 | with_reducible apply Wf.sIs | with_reducible apply Wf.sLs | with_reducible apply Wf.cpU | with_reducible apply Wf.fillI | with_reducible apply Wf.clU | with_reducible apply Wf.dnF | with_reducible apply Wf.gbW | with_reducible apply Wf.cpXf | with_reducible apply Wf.cpYf))) (by decide) hc_X11 (by decide) (by decide) (Nat.le_of_ble_eq_true rfl) ?_
  exact a_out rfl rfl (a_ireturn dX11_refuses_22 rfl rfl)
abbrev R_X11_wrongBoarding : Room := { frames := 2, cells := 0, slots := 0, locals := 43 }
abbrev RX_X11_wrongBoarding : Room := { frames := 2, cells := 1, slots := 6, locals := 43 }

theorem m_wb_c (hw : Wf μ) (hv : MdV μ q d) {x y z : Int32} (h : ixO x (pC q) = none) : Ct Y_X11_wrongBoarding R_X11_wrongBoarding [.ref 338, .int x, .int y, .int z] μ (.inl (some (.int (1)))) μ := by
  refine Ct.ent yk_X11_wrongBoarding (Nat.le_of_ble_eq_true rfl) ?_
  refine a_aload_n dX11_wrongBoarding_0 rfl ?_
  refine a_iload_n dX11_wrongBoarding_1 rfl ?_
  refine a_inv (b2 := (0, 0)) (Ct.int (isO_none h) (m_isCabin hw hv x)) rfl dX11_wrongBoarding_2 yk_X11_isCabin im_X11_isCabin se_X11_isCabin ml_X11_363 rfl (co_338 hw) (by decide) hc_X11 (by decide) (by decide) (Nat.le_of_ble_eq_true rfl) ?_
  refine a_if_eq (tgt := 21) dX11_wrongBoarding_5 (by decide) (fun h5 => ?_) (fun h5 => absurd h5 (fun z => z rfl))
  refine a_iconst (1 : Int32) dX11_wrongBoarding_21 (by decide) ?_
  exact a_out rfl rfl (a_ireturn dX11_wrongBoarding_22 rfl rfl)

theorem m_wb_m (hw : Wf μ) (hv : MdV μ q d) {c : Nat} (hc : c < pC q) {y z : Int32} (hz : ¬ z = -1) (h : ixO z (pM q) = none) : Ct Y_X11_wrongBoarding R_X11_wrongBoarding [.ref 338, .int (nI c), .int y, .int z] μ (.inl (some (.int (1)))) μ := by
  refine Ct.ent yk_X11_wrongBoarding (Nat.le_of_ble_eq_true rfl) ?_
  refine a_aload_n dX11_wrongBoarding_0 rfl ?_
  refine a_iload_n dX11_wrongBoarding_1 rfl ?_
  refine a_inv (b2 := (0, 0)) (Ct.int (isO_lt hc (by have := hv.C4; omega)) (m_isCabin hw hv (nI c))) rfl dX11_wrongBoarding_2 yk_X11_isCabin im_X11_isCabin se_X11_isCabin ml_X11_363 rfl (co_338 hw) (by decide) hc_X11 (by decide) (by decide) (Nat.le_of_ble_eq_true rfl) ?_
  refine a_if_eq (tgt := 21) dX11_wrongBoarding_5 (by decide) (fun h5 => absurd h5 (by decide)) (fun h5 => ?_)
  refine a_iload_n dX11_wrongBoarding_8 rfl ?_
  refine a_iconst (-1 : Int32) dX11_wrongBoarding_9 (by decide) ?_
  refine a_icmp_eq (tgt := 23) dX11_wrongBoarding_10 (by decide) (fun h10 => absurd h10 hz) (fun h10 => ?_)
  refine a_aload_n dX11_wrongBoarding_13 rfl ?_
  refine a_iload_n dX11_wrongBoarding_14 rfl ?_
  refine a_inv (b2 := (0, 0)) (Ct.int (isO_none h) (m_isMeal hw hv z)) rfl dX11_wrongBoarding_15 yk_X11_isMeal im_X11_isMeal se_X11_isMeal ml_X11_379 rfl (co_338 hw) (by decide) hc_X11 (by decide) (by decide) (Nat.le_of_ble_eq_true rfl) ?_
  refine a_if_ne (tgt := 23) dX11_wrongBoarding_18 (by decide) (fun h18 => absurd h18 (fun z => z rfl)) (fun h18 => ?_)
  refine a_iconst (1 : Int32) dX11_wrongBoarding_21 (by decide) ?_
  exact a_out rfl rfl (a_ireturn dX11_wrongBoarding_22 rfl rfl)

theorem m_wb_n (hw : Wf μ) (hv : MdV μ q d) {c : Nat} (hc : c < pC q) {y : Int32} (hy : ixO y 256 = none) : Ct Y_X11_wrongBoarding R_X11_wrongBoarding [.ref 338, .int (nI c), .int y, .int (-1)] μ (.inl (some (.int (2)))) μ := by
  refine Ct.ent yk_X11_wrongBoarding (Nat.le_of_ble_eq_true rfl) ?_
  refine a_aload_n dX11_wrongBoarding_0 rfl ?_
  refine a_iload_n dX11_wrongBoarding_1 rfl ?_
  refine a_inv (b2 := (0, 0)) (Ct.int (isO_lt hc (by have := hv.C4; omega)) (m_isCabin hw hv (nI c))) rfl dX11_wrongBoarding_2 yk_X11_isCabin im_X11_isCabin se_X11_isCabin ml_X11_363 rfl (co_338 hw) (by decide) hc_X11 (by decide) (by decide) (Nat.le_of_ble_eq_true rfl) ?_
  refine a_if_eq (tgt := 21) dX11_wrongBoarding_5 (by decide) (fun h5 => absurd h5 (by decide)) (fun h5 => ?_)
  refine a_iload_n dX11_wrongBoarding_8 rfl ?_
  refine a_iconst (-1 : Int32) dX11_wrongBoarding_9 (by decide) ?_
  refine a_icmp_eq (tgt := 23) dX11_wrongBoarding_10 (by decide) (fun h10 => ?_) (fun h10 => absurd h10 (by decide))
  refine a_iload_n dX11_wrongBoarding_23 rfl ?_
  refine a_iconst (0 : Int32) dX11_wrongBoarding_24 (by decide) ?_
  refine a_sipush (255 : Int32) dX11_wrongBoarding_25 (by decide) ?_
  refine a_invS (b2 := (0, 0)) (Ct.int (show inI y 0 255 = 0 from (inI_ix (x := y) (n := 256) (by decide)).trans (isO_none hy)) (m_in y 0 255)) rfl dX11_wrongBoarding_28 yk_X11_in sm_X11_in ml_X11_102 rfl (by decide) (by decide) (Nat.le_of_ble_eq_true rfl) ?_
  refine a_if_eq (tgt := 53) dX11_wrongBoarding_31 (by decide) (fun h31 => ?_) (fun h31 => absurd h31 (fun z => z rfl))
  refine a_iconst (0 : Int32) dX11_wrongBoarding_53 (by decide) ?_
  refine a_istore dX11_wrongBoarding_54 (by decide) ?_
  refine a_iload dX11_wrongBoarding_56 rfl ?_
  refine a_if_eq (tgt := 65) dX11_wrongBoarding_58 (by decide) (fun h58 => ?_) (fun h58 => absurd h58 (by decide))
  refine a_iconst (2 : Int32) dX11_wrongBoarding_65 (by decide) ?_
  exact a_out rfl rfl (a_ireturn dX11_wrongBoarding_66 rfl rfl)

theorem m_wb_nw (hw : Wf μ) (hv : MdV μ q d) {c m : Nat} (hc : c < pC q) (hm : m < pM q) {y : Int32} (hy : ixO y 256 = none) : Ct Y_X11_wrongBoarding R_X11_wrongBoarding [.ref 338, .int (nI c), .int y, .int (nI m)] μ (.inl (some (.int (2)))) μ := by
  refine Ct.ent yk_X11_wrongBoarding (Nat.le_of_ble_eq_true rfl) ?_
  refine a_aload_n dX11_wrongBoarding_0 rfl ?_
  refine a_iload_n dX11_wrongBoarding_1 rfl ?_
  refine a_inv (b2 := (0, 0)) (Ct.int (isO_lt hc (by have := hv.C4; omega)) (m_isCabin hw hv (nI c))) rfl dX11_wrongBoarding_2 yk_X11_isCabin im_X11_isCabin se_X11_isCabin ml_X11_363 rfl (co_338 hw) (by decide) hc_X11 (by decide) (by decide) (Nat.le_of_ble_eq_true rfl) ?_
  refine a_if_eq (tgt := 21) dX11_wrongBoarding_5 (by decide) (fun h5 => absurd h5 (by decide)) (fun h5 => ?_)
  refine a_iload_n dX11_wrongBoarding_8 rfl ?_
  refine a_iconst (-1 : Int32) dX11_wrongBoarding_9 (by decide) ?_
  refine a_icmp_eq (tgt := 23) dX11_wrongBoarding_10 (by decide) (fun h10 => absurd h10 (nI_ne1 (n := m) (by have := hv.M4; omega))) (fun h10 => ?_)
  refine a_aload_n dX11_wrongBoarding_13 rfl ?_
  refine a_iload_n dX11_wrongBoarding_14 rfl ?_
  refine a_inv (b2 := (0, 0)) (Ct.int (isO_lt hm (by have := hv.M4; omega)) (m_isMeal hw hv (nI m))) rfl dX11_wrongBoarding_15 yk_X11_isMeal im_X11_isMeal se_X11_isMeal ml_X11_379 rfl (co_338 hw) (by decide) hc_X11 (by decide) (by decide) (Nat.le_of_ble_eq_true rfl) ?_
  refine a_if_ne (tgt := 23) dX11_wrongBoarding_18 (by decide) (fun h18 => ?_) (fun h18 => absurd h18 (by decide))
  refine a_iload_n dX11_wrongBoarding_23 rfl ?_
  refine a_iconst (0 : Int32) dX11_wrongBoarding_24 (by decide) ?_
  refine a_sipush (255 : Int32) dX11_wrongBoarding_25 (by decide) ?_
  refine a_invS (b2 := (0, 0)) (Ct.int (show inI y 0 255 = 0 from (inI_ix (x := y) (n := 256) (by decide)).trans (isO_none hy)) (m_in y 0 255)) rfl dX11_wrongBoarding_28 yk_X11_in sm_X11_in ml_X11_102 rfl (by decide) (by decide) (Nat.le_of_ble_eq_true rfl) ?_
  refine a_if_eq (tgt := 53) dX11_wrongBoarding_31 (by decide) (fun h31 => ?_) (fun h31 => absurd h31 (fun z => z rfl))
  refine a_iconst (0 : Int32) dX11_wrongBoarding_53 (by decide) ?_
  refine a_istore dX11_wrongBoarding_54 (by decide) ?_
  refine a_iload dX11_wrongBoarding_56 rfl ?_
  refine a_if_eq (tgt := 65) dX11_wrongBoarding_58 (by decide) (fun h58 => ?_) (fun h58 => absurd h58 (by decide))
  refine a_iconst (2 : Int32) dX11_wrongBoarding_65 (by decide) ?_
  exact a_out rfl rfl (a_ireturn dX11_wrongBoarding_66 rfl rfl)

theorem m_wb_w (hw : Wf μ) (hv : MdV μ q d) {c m n : Nat} (hc : c < pC q) (hm : m < pM q) (hn : n < 256) (hwm : ¬ pF q 2 m = nI c) : Ct Y_X11_wrongBoarding R_X11_wrongBoarding [.ref 338, .int (nI c), .int (nI n), .int (nI m)] μ (.inl (some (.int (2)))) μ := by
  refine Ct.ent yk_X11_wrongBoarding (Nat.le_of_ble_eq_true rfl) ?_
  refine a_aload_n dX11_wrongBoarding_0 rfl ?_
  refine a_iload_n dX11_wrongBoarding_1 rfl ?_
  refine a_inv (b2 := (0, 0)) (Ct.int (isO_lt hc (by have := hv.C4; omega)) (m_isCabin hw hv (nI c))) rfl dX11_wrongBoarding_2 yk_X11_isCabin im_X11_isCabin se_X11_isCabin ml_X11_363 rfl (co_338 hw) (by decide) hc_X11 (by decide) (by decide) (Nat.le_of_ble_eq_true rfl) ?_
  refine a_if_eq (tgt := 21) dX11_wrongBoarding_5 (by decide) (fun h5 => absurd h5 (by decide)) (fun h5 => ?_)
  refine a_iload_n dX11_wrongBoarding_8 rfl ?_
  refine a_iconst (-1 : Int32) dX11_wrongBoarding_9 (by decide) ?_
  refine a_icmp_eq (tgt := 23) dX11_wrongBoarding_10 (by decide) (fun h10 => absurd h10 (nI_ne1 (n := m) (by have := hv.M4; omega))) (fun h10 => ?_)
  refine a_aload_n dX11_wrongBoarding_13 rfl ?_
  refine a_iload_n dX11_wrongBoarding_14 rfl ?_
  refine a_inv (b2 := (0, 0)) (Ct.int (isO_lt hm (by have := hv.M4; omega)) (m_isMeal hw hv (nI m))) rfl dX11_wrongBoarding_15 yk_X11_isMeal im_X11_isMeal se_X11_isMeal ml_X11_379 rfl (co_338 hw) (by decide) hc_X11 (by decide) (by decide) (Nat.le_of_ble_eq_true rfl) ?_
  refine a_if_ne (tgt := 23) dX11_wrongBoarding_18 (by decide) (fun h18 => ?_) (fun h18 => absurd h18 (by decide))
  refine a_iload_n dX11_wrongBoarding_23 rfl ?_
  refine a_iconst (0 : Int32) dX11_wrongBoarding_24 (by decide) ?_
  refine a_sipush (255 : Int32) dX11_wrongBoarding_25 (by decide) ?_
  refine a_invS (b2 := (0, 0)) (Ct.int (show inI (nI n) 0 255 = 1 from (inI_ix (x := nI n) (n := 256) (by decide)).trans (isO_lt hn (by decide))) (m_in (nI n) 0 255)) rfl dX11_wrongBoarding_28 yk_X11_in sm_X11_in ml_X11_102 rfl (by decide) (by decide) (Nat.le_of_ble_eq_true rfl) ?_
  refine a_if_eq (tgt := 53) dX11_wrongBoarding_31 (by decide) (fun h31 => absurd h31 (by decide)) (fun h31 => ?_)
  refine a_iload_n dX11_wrongBoarding_34 rfl ?_
  refine a_iconst (-1 : Int32) dX11_wrongBoarding_35 (by decide) ?_
  refine a_icmp_eq (tgt := 49) dX11_wrongBoarding_36 (by decide) (fun h36 => absurd h36 (nI_ne1 (n := m) (by have := hv.M4; omega))) (fun h36 => ?_)
  refine a_aload_n dX11_wrongBoarding_39 rfl ?_
  refine a_iload_n dX11_wrongBoarding_40 rfl ?_
  refine a_iconst (0 : Int32) dX11_wrongBoarding_41 (by decide) ?_
  refine a_inv (b2 := (0, 0)) (m_ofMeal0 hw hv hm) rfl dX11_wrongBoarding_42 yk_X11_ofMeal im_X11_ofMeal se_X11_ofMeal ml_X11_297 rfl (co_338 hw) (by decide) hc_X11 (by decide) (by decide) (Nat.le_of_ble_eq_true rfl) ?_
  refine a_iload_n dX11_wrongBoarding_45 rfl ?_
  refine a_icmp_ne (tgt := 53) dX11_wrongBoarding_46 (by decide) (fun h46 => ?_) (fun h46 => absurd h46 hwm)
  refine a_iconst (0 : Int32) dX11_wrongBoarding_53 (by decide) ?_
  refine a_istore dX11_wrongBoarding_54 (by decide) ?_
  refine a_iload dX11_wrongBoarding_56 rfl ?_
  refine a_if_eq (tgt := 65) dX11_wrongBoarding_58 (by decide) (fun h58 => ?_) (fun h58 => absurd h58 (by decide))
  refine a_iconst (2 : Int32) dX11_wrongBoarding_65 (by decide) ?_
  exact a_out rfl rfl (a_ireturn dX11_wrongBoarding_66 rfl rfl)

theorem m_wb_0 (hw : Wf μ) (hv : MdV μ q d) {c n : Nat} (hc : c < pC q) (hn : n < 256) : Ct Y_X11_wrongBoarding R_X11_wrongBoarding [.ref 338, .int (nI c), .int (nI n), .int (-1)] μ (.inl (some (.int (0)))) μ := by
  refine Ct.ent yk_X11_wrongBoarding (Nat.le_of_ble_eq_true rfl) ?_
  refine a_aload_n dX11_wrongBoarding_0 rfl ?_
  refine a_iload_n dX11_wrongBoarding_1 rfl ?_
  refine a_inv (b2 := (0, 0)) (Ct.int (isO_lt hc (by have := hv.C4; omega)) (m_isCabin hw hv (nI c))) rfl dX11_wrongBoarding_2 yk_X11_isCabin im_X11_isCabin se_X11_isCabin ml_X11_363 rfl (co_338 hw) (by decide) hc_X11 (by decide) (by decide) (Nat.le_of_ble_eq_true rfl) ?_
  refine a_if_eq (tgt := 21) dX11_wrongBoarding_5 (by decide) (fun h5 => absurd h5 (by decide)) (fun h5 => ?_)
  refine a_iload_n dX11_wrongBoarding_8 rfl ?_
  refine a_iconst (-1 : Int32) dX11_wrongBoarding_9 (by decide) ?_
  refine a_icmp_eq (tgt := 23) dX11_wrongBoarding_10 (by decide) (fun h10 => ?_) (fun h10 => absurd h10 (by decide))
  refine a_iload_n dX11_wrongBoarding_23 rfl ?_
  refine a_iconst (0 : Int32) dX11_wrongBoarding_24 (by decide) ?_
  refine a_sipush (255 : Int32) dX11_wrongBoarding_25 (by decide) ?_
  refine a_invS (b2 := (0, 0)) (Ct.int (show inI (nI n) 0 255 = 1 from (inI_ix (x := nI n) (n := 256) (by decide)).trans (isO_lt hn (by decide))) (m_in (nI n) 0 255)) rfl dX11_wrongBoarding_28 yk_X11_in sm_X11_in ml_X11_102 rfl (by decide) (by decide) (Nat.le_of_ble_eq_true rfl) ?_
  refine a_if_eq (tgt := 53) dX11_wrongBoarding_31 (by decide) (fun h31 => absurd h31 (by decide)) (fun h31 => ?_)
  refine a_iload_n dX11_wrongBoarding_34 rfl ?_
  refine a_iconst (-1 : Int32) dX11_wrongBoarding_35 (by decide) ?_
  refine a_icmp_eq (tgt := 49) dX11_wrongBoarding_36 (by decide) (fun h36 => ?_) (fun h36 => absurd h36 (by decide))
  refine a_iconst (1 : Int32) dX11_wrongBoarding_49 (by decide) ?_
  refine a_goto (tgt := 54) dX11_wrongBoarding_50 (by decide) ?_
  refine a_istore dX11_wrongBoarding_54 (by decide) ?_
  refine a_iload dX11_wrongBoarding_56 rfl ?_
  refine a_if_eq (tgt := 65) dX11_wrongBoarding_58 (by decide) (fun h58 => absurd h58 (by decide)) (fun h58 => ?_)
  refine a_iconst (0 : Int32) dX11_wrongBoarding_61 (by decide) ?_
  refine a_goto (tgt := 66) dX11_wrongBoarding_62 (by decide) ?_
  exact a_out rfl rfl (a_ireturn dX11_wrongBoarding_66 rfl rfl)

theorem m_wb_0w (hw : Wf μ) (hv : MdV μ q d) {c m n : Nat} (hc : c < pC q) (hm : m < pM q) (hn : n < 256) (hwm : pF q 2 m = nI c) : Ct Y_X11_wrongBoarding R_X11_wrongBoarding [.ref 338, .int (nI c), .int (nI n), .int (nI m)] μ (.inl (some (.int (0)))) μ := by
  refine Ct.ent yk_X11_wrongBoarding (Nat.le_of_ble_eq_true rfl) ?_
  refine a_aload_n dX11_wrongBoarding_0 rfl ?_
  refine a_iload_n dX11_wrongBoarding_1 rfl ?_
  refine a_inv (b2 := (0, 0)) (Ct.int (isO_lt hc (by have := hv.C4; omega)) (m_isCabin hw hv (nI c))) rfl dX11_wrongBoarding_2 yk_X11_isCabin im_X11_isCabin se_X11_isCabin ml_X11_363 rfl (co_338 hw) (by decide) hc_X11 (by decide) (by decide) (Nat.le_of_ble_eq_true rfl) ?_
  refine a_if_eq (tgt := 21) dX11_wrongBoarding_5 (by decide) (fun h5 => absurd h5 (by decide)) (fun h5 => ?_)
  refine a_iload_n dX11_wrongBoarding_8 rfl ?_
  refine a_iconst (-1 : Int32) dX11_wrongBoarding_9 (by decide) ?_
  refine a_icmp_eq (tgt := 23) dX11_wrongBoarding_10 (by decide) (fun h10 => absurd h10 (nI_ne1 (n := m) (by have := hv.M4; omega))) (fun h10 => ?_)
  refine a_aload_n dX11_wrongBoarding_13 rfl ?_
  refine a_iload_n dX11_wrongBoarding_14 rfl ?_
  refine a_inv (b2 := (0, 0)) (Ct.int (isO_lt hm (by have := hv.M4; omega)) (m_isMeal hw hv (nI m))) rfl dX11_wrongBoarding_15 yk_X11_isMeal im_X11_isMeal se_X11_isMeal ml_X11_379 rfl (co_338 hw) (by decide) hc_X11 (by decide) (by decide) (Nat.le_of_ble_eq_true rfl) ?_
  refine a_if_ne (tgt := 23) dX11_wrongBoarding_18 (by decide) (fun h18 => ?_) (fun h18 => absurd h18 (by decide))
  refine a_iload_n dX11_wrongBoarding_23 rfl ?_
  refine a_iconst (0 : Int32) dX11_wrongBoarding_24 (by decide) ?_
  refine a_sipush (255 : Int32) dX11_wrongBoarding_25 (by decide) ?_
  refine a_invS (b2 := (0, 0)) (Ct.int (show inI (nI n) 0 255 = 1 from (inI_ix (x := nI n) (n := 256) (by decide)).trans (isO_lt hn (by decide))) (m_in (nI n) 0 255)) rfl dX11_wrongBoarding_28 yk_X11_in sm_X11_in ml_X11_102 rfl (by decide) (by decide) (Nat.le_of_ble_eq_true rfl) ?_
  refine a_if_eq (tgt := 53) dX11_wrongBoarding_31 (by decide) (fun h31 => absurd h31 (by decide)) (fun h31 => ?_)
  refine a_iload_n dX11_wrongBoarding_34 rfl ?_
  refine a_iconst (-1 : Int32) dX11_wrongBoarding_35 (by decide) ?_
  refine a_icmp_eq (tgt := 49) dX11_wrongBoarding_36 (by decide) (fun h36 => absurd h36 (nI_ne1 (n := m) (by have := hv.M4; omega))) (fun h36 => ?_)
  refine a_aload_n dX11_wrongBoarding_39 rfl ?_
  refine a_iload_n dX11_wrongBoarding_40 rfl ?_
  refine a_iconst (0 : Int32) dX11_wrongBoarding_41 (by decide) ?_
  refine a_inv (b2 := (0, 0)) (m_ofMeal0 hw hv hm) rfl dX11_wrongBoarding_42 yk_X11_ofMeal im_X11_ofMeal se_X11_ofMeal ml_X11_297 rfl (co_338 hw) (by decide) hc_X11 (by decide) (by decide) (Nat.le_of_ble_eq_true rfl) ?_
  refine a_iload_n dX11_wrongBoarding_45 rfl ?_
  refine a_icmp_ne (tgt := 53) dX11_wrongBoarding_46 (by decide) (fun h46 => absurd h46 (fun z => z hwm)) (fun h46 => ?_)
  refine a_iconst (1 : Int32) dX11_wrongBoarding_49 (by decide) ?_
  refine a_goto (tgt := 54) dX11_wrongBoarding_50 (by decide) ?_
  refine a_istore dX11_wrongBoarding_54 (by decide) ?_
  refine a_iload dX11_wrongBoarding_56 rfl ?_
  refine a_if_eq (tgt := 65) dX11_wrongBoarding_58 (by decide) (fun h58 => absurd h58 (by decide)) (fun h58 => ?_)
  refine a_iconst (0 : Int32) dX11_wrongBoarding_61 (by decide) ?_
  refine a_goto (tgt := 66) dX11_wrongBoarding_62 (by decide) ?_
  exact a_out rfl rfl (a_ireturn dX11_wrongBoarding_66 rfl rfl)
abbrev R_X11_board : Room := { frames := 5, cells := 0, slots := 0, locals := 109 }
abbrev RX_X11_board : Room := { frames := 5, cells := 1, slots := 6, locals := 109 }

theorem mx_board (hw : Wf μ) (h : MnV μ q d) {x y z v : Int32} (hb : Ct Y_X11_wrongBoarding R_X11_wrongBoarding [.ref 338, .int x, .int y, .int z] μ (.inl (some (.int v))) μ) (hv0 : ¬ v ≤ 0) : Ct Y_X11_board R_X11_board [.ref 338, .int x, .int y, .int z] μ (.inl (some (.int 0))) (sI μ 338 0 v) := by
  have hv := h.1
  have hM4 := hv.M4
  have hT4 := hv.T4
  have hP4 := hv.P4
  have hC4 := hv.C4
  have hU4 := hv.U4
  have hw1 : Wf (sI μ 338 0 0) := hw.sI
  have hv1 : MdV (sI μ 338 0 0) q d := hv.th 0
  refine Ct.ent yk_X11_board (Nat.le_of_ble_eq_true rfl) ?_
  refine a_aload_n dX11_board_0 rfl ?_
  refine a_aload_n dX11_board_1 rfl ?_
  refine a_iload_n dX11_board_2 rfl ?_
  refine a_iload_n dX11_board_3 rfl ?_
  refine a_iload_n dX11_board_4 rfl ?_
  refine a_inv (b2 := (0, 0)) hb rfl dX11_board_5 yk_X11_wrongBoarding im_X11_wrongBoarding se_X11_wrongBoarding ml_X11_397 rfl (co_338 (by repeat (first | with_reducible exact hw | with_reducible exact hwc | with_reducible assumption | with_reducible apply Wf.sI | with_reducible apply Wf.sL | with_reducible apply Wf.cpI | with_reducible apply Wf.cpL | with_reducible apply Wf.cp2 | with_reducible apply Wf.sIs | with_reducible apply Wf.sLs | with_reducible apply Wf.cpU | with_reducible apply Wf.fillI | with_reducible apply Wf.clU | with_reducible apply Wf.dnF | with_reducible apply Wf.gbW | with_reducible apply Wf.cpXf | with_reducible apply Wf.cpYf))) (by decide) hc_X11 (by decide) (by decide) (Nat.le_of_ble_eq_true rfl) ?_
  refine a_inv (b2 := (0, 0)) (m_isRefused1 (by repeat (first | with_reducible exact hw | with_reducible exact hwc | with_reducible assumption | with_reducible apply Wf.sI | with_reducible apply Wf.sL | with_reducible apply Wf.cpI | with_reducible apply Wf.cpL | with_reducible apply Wf.cp2 | with_reducible apply Wf.sIs | with_reducible apply Wf.sLs | with_reducible apply Wf.cpU | with_reducible apply Wf.fillI | with_reducible apply Wf.clU | with_reducible apply Wf.dnF | with_reducible apply Wf.gbW | with_reducible apply Wf.cpXf | with_reducible apply Wf.cpYf)) hv0) rfl dX11_board_8 yk_X11_isRefused im_X11_isRefused se_X11_isRefused ml_X11_98 rfl (co_338 (by repeat (first | with_reducible exact hw | with_reducible exact hwc | with_reducible assumption | with_reducible apply Wf.sI | with_reducible apply Wf.sL | with_reducible apply Wf.cpI | with_reducible apply Wf.cpL | with_reducible apply Wf.cp2 | with_reducible apply Wf.sIs | with_reducible apply Wf.sLs | with_reducible apply Wf.cpU | with_reducible apply Wf.fillI | with_reducible apply Wf.clU | with_reducible apply Wf.dnF | with_reducible apply Wf.gbW | with_reducible apply Wf.cpXf | with_reducible apply Wf.cpYf))) (by decide) hc_X11 (by decide) (by decide) (Nat.le_of_ble_eq_true rfl) ?_
  refine a_if_eq (tgt := 16) dX11_board_11 (by decide) (fun h11 => absurd h11 (by decide)) (fun h11 => ?_)
  refine a_iconst (0 : Int32) dX11_board_14 (by decide) ?_
  exact a_out rfl rfl (a_ireturn dX11_board_15 rfl rfl)

theorem mp_board (hw : Wf μ) (h : MnV μ q d) (hg : ¬ goD q d) {c : Nat} (hc : c < pC q) {y z : Int32} (hb : Ct Y_X11_wrongBoarding R_X11_wrongBoarding [.ref 338, .int (nI c), .int y, .int z] μ (.inl (some (.int 0))) μ) : CV Y_X11_board R_X11_board [.ref 338, .int (nI c), .int y, .int z] μ (fun v V => v = some (.int 0) ∧ MrQ μ 1 3 V) := by
  have hv := h.1
  have hM4 := hv.M4
  have hT4 := hv.T4
  have hP4 := hv.P4
  have hC4 := hv.C4
  have hU4 := hv.U4
  have hw1 : Wf (sI μ 338 0 0) := hw.sI
  have hv1 : MdV (sI μ 338 0 0) q d := hv.th 0
  refine CV.ent yk_X11_board (Nat.le_of_ble_eq_true rfl) ?_
  refine lf (a_aload_n dX11_board_0 rfl) ?_
  refine lf (a_aload_n dX11_board_1 rfl) ?_
  refine lf (a_iload_n dX11_board_2 rfl) ?_
  refine lf (a_iload_n dX11_board_3 rfl) ?_
  refine lf (a_iload_n dX11_board_4 rfl) ?_
  refine lf (a_inv (b2 := (0, 0)) hb rfl dX11_board_5 yk_X11_wrongBoarding im_X11_wrongBoarding se_X11_wrongBoarding ml_X11_397 rfl (co_338 (by repeat (first | with_reducible exact hw | with_reducible exact hwc | with_reducible assumption | with_reducible apply Wf.sI | with_reducible apply Wf.sL | with_reducible apply Wf.cpI | with_reducible apply Wf.cpL | with_reducible apply Wf.cp2 | with_reducible apply Wf.sIs | with_reducible apply Wf.sLs | with_reducible apply Wf.cpU | with_reducible apply Wf.fillI | with_reducible apply Wf.clU | with_reducible apply Wf.dnF | with_reducible apply Wf.gbW | with_reducible apply Wf.cpXf | with_reducible apply Wf.cpYf))) (by decide) hc_X11 (by decide) (by decide) (Nat.le_of_ble_eq_true rfl)) ?_
  refine lf (a_inv (b2 := (0, 0)) (m_isRefused0 (by repeat (first | with_reducible exact hw | with_reducible exact hwc | with_reducible assumption | with_reducible apply Wf.sI | with_reducible apply Wf.sL | with_reducible apply Wf.cpI | with_reducible apply Wf.cpL | with_reducible apply Wf.cp2 | with_reducible apply Wf.sIs | with_reducible apply Wf.sLs | with_reducible apply Wf.cpU | with_reducible apply Wf.fillI | with_reducible apply Wf.clU | with_reducible apply Wf.dnF | with_reducible apply Wf.gbW | with_reducible apply Wf.cpXf | with_reducible apply Wf.cpYf))) rfl dX11_board_8 yk_X11_isRefused im_X11_isRefused se_X11_isRefused ml_X11_98 rfl (co_338 (by repeat (first | with_reducible exact hw | with_reducible exact hwc | with_reducible assumption | with_reducible apply Wf.sI | with_reducible apply Wf.sL | with_reducible apply Wf.cpI | with_reducible apply Wf.cpL | with_reducible apply Wf.cp2 | with_reducible apply Wf.sIs | with_reducible apply Wf.sLs | with_reducible apply Wf.cpU | with_reducible apply Wf.fillI | with_reducible apply Wf.clU | with_reducible apply Wf.dnF | with_reducible apply Wf.gbW | with_reducible apply Wf.cpXf | with_reducible apply Wf.cpYf))) (by decide) hc_X11 (by decide) (by decide) (Nat.le_of_ble_eq_true rfl)) ?_
  refine lf2 (a_if_eq (tgt := 16) dX11_board_11 (by decide)) (fun h11 => ?_) (fun h11 => absurd h11 (fun z => z rfl))
  refine lf (a_aload_n dX11_board_16 rfl) ?_
  refine lf (a_getR (cr_338_6 (by repeat (first | with_reducible exact hw | with_reducible exact hwc | with_reducible assumption | with_reducible apply Wf.sI | with_reducible apply Wf.sL | with_reducible apply Wf.cpI | with_reducible apply Wf.cpL | with_reducible apply Wf.cp2 | with_reducible apply Wf.sIs | with_reducible apply Wf.sLs | with_reducible apply Wf.cpU | with_reducible apply Wf.fillI | with_reducible apply Wf.clU | with_reducible apply Wf.dnF | with_reducible apply Wf.gbW | with_reducible apply Wf.cpXf | with_reducible apply Wf.cpYf))) dX11_board_17 fs_X11_26 rfl (co_338 (by repeat (first | with_reducible exact hw | with_reducible exact hwc | with_reducible assumption | with_reducible apply Wf.sI | with_reducible apply Wf.sL | with_reducible apply Wf.cpI | with_reducible apply Wf.cpL | with_reducible apply Wf.cp2 | with_reducible apply Wf.sIs | with_reducible apply Wf.sLs | with_reducible apply Wf.cpU | with_reducible apply Wf.fillI | with_reducible apply Wf.clU | with_reducible apply Wf.dnF | with_reducible apply Wf.gbW | with_reducible apply Wf.cpXf | with_reducible apply Wf.cpYf)))) ?_
  refine lf (a_iconst (3 : Int32) dX11_board_20 (by decide)) ?_
  refine lf (a_ild dX11_board_21 (ca_344 (by repeat (first | with_reducible exact hw | with_reducible exact hwc | with_reducible assumption | with_reducible apply Wf.sI | with_reducible apply Wf.sL | with_reducible apply Wf.cpI | with_reducible apply Wf.cpL | with_reducible apply Wf.cp2 | with_reducible apply Wf.sIs | with_reducible apply Wf.sLs | with_reducible apply Wf.cpU | with_reducible apply Wf.fillI | with_reducible apply Wf.clU | with_reducible apply Wf.dnF | with_reducible apply Wf.gbW | with_reducible apply Wf.cpXf | with_reducible apply Wf.cpYf))) (ixn (m := 3) (by omega) (by decide))) ?_
  rw [hv1.s3]
  refine lf (a_istore dX11_board_22 (by decide)) ?_
  refine lf (a_aload_n dX11_board_24 rfl) ?_
  refine lf (a_inv (b2 := (0, 0)) (Ct.int (ngo_in hg) (m_isGoing (by repeat (first | with_reducible exact hw | with_reducible exact hwc | with_reducible assumption | with_reducible apply Wf.sI | with_reducible apply Wf.sL | with_reducible apply Wf.cpI | with_reducible apply Wf.cpL | with_reducible apply Wf.cp2 | with_reducible apply Wf.sIs | with_reducible apply Wf.sLs | with_reducible apply Wf.cpU | with_reducible apply Wf.fillI | with_reducible apply Wf.clU | with_reducible apply Wf.dnF | with_reducible apply Wf.gbW | with_reducible apply Wf.cpXf | with_reducible apply Wf.cpYf)) (h.1.th 0))) rfl dX11_board_25 yk_X11_isGoing im_X11_isGoing se_X11_isGoing ml_X11_401 rfl (co_338 (by repeat (first | with_reducible exact hw | with_reducible exact hwc | with_reducible assumption | with_reducible apply Wf.sI | with_reducible apply Wf.sL | with_reducible apply Wf.cpI | with_reducible apply Wf.cpL | with_reducible apply Wf.cp2 | with_reducible apply Wf.sIs | with_reducible apply Wf.sLs | with_reducible apply Wf.cpU | with_reducible apply Wf.fillI | with_reducible apply Wf.clU | with_reducible apply Wf.dnF | with_reducible apply Wf.gbW | with_reducible apply Wf.cpXf | with_reducible apply Wf.cpYf))) (by decide) hc_X11 (by decide) (by decide) (Nat.le_of_ble_eq_true rfl)) ?_
  refine lfn (a_if_ne (tgt := 35) dX11_board_28 (by decide)) (fun h28 => absurd h28 (fun z => z rfl)) (fun h28 => ?_)
  refine lf (a_iconst (1 : Int32) dX11_board_31 (by decide)) ?_
  refine lf (a_goto (tgt := 61) dX11_board_32 (by decide)) ?_
  refine lf (a_istore dX11_board_61 (by decide)) ?_
  refine lf (a_aload_n dX11_board_63 rfl) ?_
  refine lf (a_iload dX11_board_64 rfl) ?_
  refine lf (a_iconst (3 : Int32) dX11_board_66 (by decide)) ?_
  refine lf (a_inv (b2 := (0, 0)) (m_refuses1 (by repeat (first | with_reducible exact hw | with_reducible exact hwc | with_reducible assumption | with_reducible apply Wf.sI | with_reducible apply Wf.sL | with_reducible apply Wf.cpI | with_reducible apply Wf.cpL | with_reducible apply Wf.cp2 | with_reducible apply Wf.sIs | with_reducible apply Wf.sLs | with_reducible apply Wf.cpU | with_reducible apply Wf.fillI | with_reducible apply Wf.clU | with_reducible apply Wf.dnF | with_reducible apply Wf.gbW | with_reducible apply Wf.cpXf | with_reducible apply Wf.cpYf)) (y := 1) (w := 3) (by decide) (by decide)) rfl dX11_board_67 yk_X11_refuses im_X11_refuses se_X11_refuses ml_X11_407 rfl (co_338 (by repeat (first | with_reducible exact hw | with_reducible exact hwc | with_reducible assumption | with_reducible apply Wf.sI | with_reducible apply Wf.sL | with_reducible apply Wf.cpI | with_reducible apply Wf.cpL | with_reducible apply Wf.cp2 | with_reducible apply Wf.sIs | with_reducible apply Wf.sLs | with_reducible apply Wf.cpU | with_reducible apply Wf.fillI | with_reducible apply Wf.clU | with_reducible apply Wf.dnF | with_reducible apply Wf.gbW | with_reducible apply Wf.cpXf | with_reducible apply Wf.cpYf))) (by decide) hc_X11 (by decide) (by decide) (Nat.le_of_ble_eq_true rfl)) ?_
  refine lf2 (a_if_eq (tgt := 75) dX11_board_70 (by decide)) (fun h70 => absurd h70 (by decide)) (fun h70 => ?_)
  refine lf (a_iconst (0 : Int32) dX11_board_73 (by decide)) ?_
  refine ⟨_, _, (a_ireturn dX11_board_74 rfl rfl), ?_⟩
  exact ⟨_, rfl, rfl, MrQ.of (MtQ.of hw 0) 1 3⟩

theorem mr_board (hw : Wf μ) (h : MnV μ q d) (hgo : goD q d) {c : Nat} (hc : c < pC q) {y z : Int32} (hb : Ct Y_X11_wrongBoarding R_X11_wrongBoarding [.ref 338, .int (nI c), .int y, .int z] μ (.inl (some (.int 0))) μ) (hP : 40 ≤ dP d) : CV Y_X11_board R_X11_board [.ref 338, .int (nI c), .int y, .int z] μ (fun v V => v = some (.int 0) ∧ MrQ μ 8 3 V) := by
  have hv := h.1
  have hM4 := hv.M4
  have hT4 := hv.T4
  have hP4 := hv.P4
  have hC4 := hv.C4
  have hU4 := hv.U4
  have hw1 : Wf (sI μ 338 0 0) := hw.sI
  have hv1 : MdV (sI μ 338 0 0) q d := hv.th 0
  have e40 : dP d = 40 := by omega
  refine CV.ent yk_X11_board (Nat.le_of_ble_eq_true rfl) ?_
  refine lf (a_aload_n dX11_board_0 rfl) ?_
  refine lf (a_aload_n dX11_board_1 rfl) ?_
  refine lf (a_iload_n dX11_board_2 rfl) ?_
  refine lf (a_iload_n dX11_board_3 rfl) ?_
  refine lf (a_iload_n dX11_board_4 rfl) ?_
  refine lf (a_inv (b2 := (0, 0)) hb rfl dX11_board_5 yk_X11_wrongBoarding im_X11_wrongBoarding se_X11_wrongBoarding ml_X11_397 rfl (co_338 (by repeat (first | with_reducible exact hw | with_reducible exact hwc | with_reducible assumption | with_reducible apply Wf.sI | with_reducible apply Wf.sL | with_reducible apply Wf.cpI | with_reducible apply Wf.cpL | with_reducible apply Wf.cp2 | with_reducible apply Wf.sIs | with_reducible apply Wf.sLs | with_reducible apply Wf.cpU | with_reducible apply Wf.fillI | with_reducible apply Wf.clU | with_reducible apply Wf.dnF | with_reducible apply Wf.gbW | with_reducible apply Wf.cpXf | with_reducible apply Wf.cpYf))) (by decide) hc_X11 (by decide) (by decide) (Nat.le_of_ble_eq_true rfl)) ?_
  refine lf (a_inv (b2 := (0, 0)) (m_isRefused0 (by repeat (first | with_reducible exact hw | with_reducible exact hwc | with_reducible assumption | with_reducible apply Wf.sI | with_reducible apply Wf.sL | with_reducible apply Wf.cpI | with_reducible apply Wf.cpL | with_reducible apply Wf.cp2 | with_reducible apply Wf.sIs | with_reducible apply Wf.sLs | with_reducible apply Wf.cpU | with_reducible apply Wf.fillI | with_reducible apply Wf.clU | with_reducible apply Wf.dnF | with_reducible apply Wf.gbW | with_reducible apply Wf.cpXf | with_reducible apply Wf.cpYf))) rfl dX11_board_8 yk_X11_isRefused im_X11_isRefused se_X11_isRefused ml_X11_98 rfl (co_338 (by repeat (first | with_reducible exact hw | with_reducible exact hwc | with_reducible assumption | with_reducible apply Wf.sI | with_reducible apply Wf.sL | with_reducible apply Wf.cpI | with_reducible apply Wf.cpL | with_reducible apply Wf.cp2 | with_reducible apply Wf.sIs | with_reducible apply Wf.sLs | with_reducible apply Wf.cpU | with_reducible apply Wf.fillI | with_reducible apply Wf.clU | with_reducible apply Wf.dnF | with_reducible apply Wf.gbW | with_reducible apply Wf.cpXf | with_reducible apply Wf.cpYf))) (by decide) hc_X11 (by decide) (by decide) (Nat.le_of_ble_eq_true rfl)) ?_
  refine lf2 (a_if_eq (tgt := 16) dX11_board_11 (by decide)) (fun h11 => ?_) (fun h11 => absurd h11 (fun z => z rfl))
  refine lf (a_aload_n dX11_board_16 rfl) ?_
  refine lf (a_getR (cr_338_6 (by repeat (first | with_reducible exact hw | with_reducible exact hwc | with_reducible assumption | with_reducible apply Wf.sI | with_reducible apply Wf.sL | with_reducible apply Wf.cpI | with_reducible apply Wf.cpL | with_reducible apply Wf.cp2 | with_reducible apply Wf.sIs | with_reducible apply Wf.sLs | with_reducible apply Wf.cpU | with_reducible apply Wf.fillI | with_reducible apply Wf.clU | with_reducible apply Wf.dnF | with_reducible apply Wf.gbW | with_reducible apply Wf.cpXf | with_reducible apply Wf.cpYf))) dX11_board_17 fs_X11_26 rfl (co_338 (by repeat (first | with_reducible exact hw | with_reducible exact hwc | with_reducible assumption | with_reducible apply Wf.sI | with_reducible apply Wf.sL | with_reducible apply Wf.cpI | with_reducible apply Wf.cpL | with_reducible apply Wf.cp2 | with_reducible apply Wf.sIs | with_reducible apply Wf.sLs | with_reducible apply Wf.cpU | with_reducible apply Wf.fillI | with_reducible apply Wf.clU | with_reducible apply Wf.dnF | with_reducible apply Wf.gbW | with_reducible apply Wf.cpXf | with_reducible apply Wf.cpYf)))) ?_
  refine lf (a_iconst (3 : Int32) dX11_board_20 (by decide)) ?_
  refine lf (a_ild dX11_board_21 (ca_344 (by repeat (first | with_reducible exact hw | with_reducible exact hwc | with_reducible assumption | with_reducible apply Wf.sI | with_reducible apply Wf.sL | with_reducible apply Wf.cpI | with_reducible apply Wf.cpL | with_reducible apply Wf.cp2 | with_reducible apply Wf.sIs | with_reducible apply Wf.sLs | with_reducible apply Wf.cpU | with_reducible apply Wf.fillI | with_reducible apply Wf.clU | with_reducible apply Wf.dnF | with_reducible apply Wf.gbW | with_reducible apply Wf.cpXf | with_reducible apply Wf.cpYf))) (ixn (m := 3) (by omega) (by decide))) ?_
  rw [hv1.s3]
  refine lf (a_istore dX11_board_22 (by decide)) ?_
  refine lf (a_aload_n dX11_board_24 rfl) ?_
  refine lf (a_inv (b2 := (0, 0)) (Ct.int (go_in hgo) (m_isGoing (by repeat (first | with_reducible exact hw | with_reducible exact hwc | with_reducible assumption | with_reducible apply Wf.sI | with_reducible apply Wf.sL | with_reducible apply Wf.cpI | with_reducible apply Wf.cpL | with_reducible apply Wf.cp2 | with_reducible apply Wf.sIs | with_reducible apply Wf.sLs | with_reducible apply Wf.cpU | with_reducible apply Wf.fillI | with_reducible apply Wf.clU | with_reducible apply Wf.dnF | with_reducible apply Wf.gbW | with_reducible apply Wf.cpXf | with_reducible apply Wf.cpYf)) (h.1.th 0))) rfl dX11_board_25 yk_X11_isGoing im_X11_isGoing se_X11_isGoing ml_X11_401 rfl (co_338 (by repeat (first | with_reducible exact hw | with_reducible exact hwc | with_reducible assumption | with_reducible apply Wf.sI | with_reducible apply Wf.sL | with_reducible apply Wf.cpI | with_reducible apply Wf.cpL | with_reducible apply Wf.cp2 | with_reducible apply Wf.sIs | with_reducible apply Wf.sLs | with_reducible apply Wf.cpU | with_reducible apply Wf.fillI | with_reducible apply Wf.clU | with_reducible apply Wf.dnF | with_reducible apply Wf.gbW | with_reducible apply Wf.cpXf | with_reducible apply Wf.cpYf))) (by decide) hc_X11 (by decide) (by decide) (Nat.le_of_ble_eq_true rfl)) ?_
  refine lfn (a_if_ne (tgt := 35) dX11_board_28 (by decide)) (fun h28 => ?_) (fun h28 => absurd h28 (by decide))
  refine lf (a_iload dX11_board_35 rfl) ?_
  refine lf (a_bipush (40 : Int32) dX11_board_37 (by decide)) ?_
  refine lfn (a_icmp_ne (tgt := 47) dX11_board_39 (by decide)) (fun h39 => absurd h39 (fun z => z (by rw [e40]; rfl))) (fun h39 => ?_)
  refine lf (a_bipush (8 : Int32) dX11_board_42 (by decide)) ?_
  refine lf (a_goto (tgt := 61) dX11_board_44 (by decide)) ?_
  refine lf (a_istore dX11_board_61 (by decide)) ?_
  refine lf (a_aload_n dX11_board_63 rfl) ?_
  refine lf (a_iload dX11_board_64 rfl) ?_
  refine lf (a_iconst (3 : Int32) dX11_board_66 (by decide)) ?_
  refine lf (a_inv (b2 := (0, 0)) (m_refuses1 (by repeat (first | with_reducible exact hw | with_reducible exact hwc | with_reducible assumption | with_reducible apply Wf.sI | with_reducible apply Wf.sL | with_reducible apply Wf.cpI | with_reducible apply Wf.cpL | with_reducible apply Wf.cp2 | with_reducible apply Wf.sIs | with_reducible apply Wf.sLs | with_reducible apply Wf.cpU | with_reducible apply Wf.fillI | with_reducible apply Wf.clU | with_reducible apply Wf.dnF | with_reducible apply Wf.gbW | with_reducible apply Wf.cpXf | with_reducible apply Wf.cpYf)) (y := 8) (w := 3) (by decide) (by decide)) rfl dX11_board_67 yk_X11_refuses im_X11_refuses se_X11_refuses ml_X11_407 rfl (co_338 (by repeat (first | with_reducible exact hw | with_reducible exact hwc | with_reducible assumption | with_reducible apply Wf.sI | with_reducible apply Wf.sL | with_reducible apply Wf.cpI | with_reducible apply Wf.cpL | with_reducible apply Wf.cp2 | with_reducible apply Wf.sIs | with_reducible apply Wf.sLs | with_reducible apply Wf.cpU | with_reducible apply Wf.fillI | with_reducible apply Wf.clU | with_reducible apply Wf.dnF | with_reducible apply Wf.gbW | with_reducible apply Wf.cpXf | with_reducible apply Wf.cpYf))) (by decide) hc_X11 (by decide) (by decide) (Nat.le_of_ble_eq_true rfl)) ?_
  refine lf2 (a_if_eq (tgt := 75) dX11_board_70 (by decide)) (fun h70 => absurd h70 (by decide)) (fun h70 => ?_)
  refine lf (a_iconst (0 : Int32) dX11_board_73 (by decide)) ?_
  refine ⟨_, _, (a_ireturn dX11_board_74 rfl rfl), ?_⟩
  exact ⟨_, rfl, rfl, MrQ.of (MtQ.of hw 0) 8 3⟩

theorem ms_board (hw : Wf μ) (h : MnV μ q d) (hq0 : GdP q) (hd0 : GdD q d) (hgo : goD q d) {c : Nat} (hc : c < pC q) {y z : Int32} (hb : Ct Y_X11_wrongBoarding R_X11_wrongBoarding [.ref 338, .int (nI c), .int y, .int z] μ (.inl (some (.int 0))) μ) (hP : dP d < 40) (hfr : pF q 0 c - paD d (nI c) < 1) : CV Y_X11_board R_X11_board [.ref 338, .int (nI c), .int y, .int z] μ (fun v V => v = some (.int 0) ∧ MrQ μ 9 3 V) := by
  have hv := h.1
  have hM4 := hv.M4
  have hT4 := hv.T4
  have hP4 := hv.P4
  have hC4 := hv.C4
  have hU4 := hv.U4
  have hw1 : Wf (sI μ 338 0 0) := hw.sI
  have hv1 : MdV (sI μ 338 0 0) q d := hv.th 0
  refine CV.ent yk_X11_board (Nat.le_of_ble_eq_true rfl) ?_
  refine lf (a_aload_n dX11_board_0 rfl) ?_
  refine lf (a_aload_n dX11_board_1 rfl) ?_
  refine lf (a_iload_n dX11_board_2 rfl) ?_
  refine lf (a_iload_n dX11_board_3 rfl) ?_
  refine lf (a_iload_n dX11_board_4 rfl) ?_
  refine lf (a_inv (b2 := (0, 0)) hb rfl dX11_board_5 yk_X11_wrongBoarding im_X11_wrongBoarding se_X11_wrongBoarding ml_X11_397 rfl (co_338 (by repeat (first | with_reducible exact hw | with_reducible exact hwc | with_reducible assumption | with_reducible apply Wf.sI | with_reducible apply Wf.sL | with_reducible apply Wf.cpI | with_reducible apply Wf.cpL | with_reducible apply Wf.cp2 | with_reducible apply Wf.sIs | with_reducible apply Wf.sLs | with_reducible apply Wf.cpU | with_reducible apply Wf.fillI | with_reducible apply Wf.clU | with_reducible apply Wf.dnF | with_reducible apply Wf.gbW | with_reducible apply Wf.cpXf | with_reducible apply Wf.cpYf))) (by decide) hc_X11 (by decide) (by decide) (Nat.le_of_ble_eq_true rfl)) ?_
  refine lf (a_inv (b2 := (0, 0)) (m_isRefused0 (by repeat (first | with_reducible exact hw | with_reducible exact hwc | with_reducible assumption | with_reducible apply Wf.sI | with_reducible apply Wf.sL | with_reducible apply Wf.cpI | with_reducible apply Wf.cpL | with_reducible apply Wf.cp2 | with_reducible apply Wf.sIs | with_reducible apply Wf.sLs | with_reducible apply Wf.cpU | with_reducible apply Wf.fillI | with_reducible apply Wf.clU | with_reducible apply Wf.dnF | with_reducible apply Wf.gbW | with_reducible apply Wf.cpXf | with_reducible apply Wf.cpYf))) rfl dX11_board_8 yk_X11_isRefused im_X11_isRefused se_X11_isRefused ml_X11_98 rfl (co_338 (by repeat (first | with_reducible exact hw | with_reducible exact hwc | with_reducible assumption | with_reducible apply Wf.sI | with_reducible apply Wf.sL | with_reducible apply Wf.cpI | with_reducible apply Wf.cpL | with_reducible apply Wf.cp2 | with_reducible apply Wf.sIs | with_reducible apply Wf.sLs | with_reducible apply Wf.cpU | with_reducible apply Wf.fillI | with_reducible apply Wf.clU | with_reducible apply Wf.dnF | with_reducible apply Wf.gbW | with_reducible apply Wf.cpXf | with_reducible apply Wf.cpYf))) (by decide) hc_X11 (by decide) (by decide) (Nat.le_of_ble_eq_true rfl)) ?_
  refine lf2 (a_if_eq (tgt := 16) dX11_board_11 (by decide)) (fun h11 => ?_) (fun h11 => absurd h11 (fun z => z rfl))
  refine lf (a_aload_n dX11_board_16 rfl) ?_
  refine lf (a_getR (cr_338_6 (by repeat (first | with_reducible exact hw | with_reducible exact hwc | with_reducible assumption | with_reducible apply Wf.sI | with_reducible apply Wf.sL | with_reducible apply Wf.cpI | with_reducible apply Wf.cpL | with_reducible apply Wf.cp2 | with_reducible apply Wf.sIs | with_reducible apply Wf.sLs | with_reducible apply Wf.cpU | with_reducible apply Wf.fillI | with_reducible apply Wf.clU | with_reducible apply Wf.dnF | with_reducible apply Wf.gbW | with_reducible apply Wf.cpXf | with_reducible apply Wf.cpYf))) dX11_board_17 fs_X11_26 rfl (co_338 (by repeat (first | with_reducible exact hw | with_reducible exact hwc | with_reducible assumption | with_reducible apply Wf.sI | with_reducible apply Wf.sL | with_reducible apply Wf.cpI | with_reducible apply Wf.cpL | with_reducible apply Wf.cp2 | with_reducible apply Wf.sIs | with_reducible apply Wf.sLs | with_reducible apply Wf.cpU | with_reducible apply Wf.fillI | with_reducible apply Wf.clU | with_reducible apply Wf.dnF | with_reducible apply Wf.gbW | with_reducible apply Wf.cpXf | with_reducible apply Wf.cpYf)))) ?_
  refine lf (a_iconst (3 : Int32) dX11_board_20 (by decide)) ?_
  refine lf (a_ild dX11_board_21 (ca_344 (by repeat (first | with_reducible exact hw | with_reducible exact hwc | with_reducible assumption | with_reducible apply Wf.sI | with_reducible apply Wf.sL | with_reducible apply Wf.cpI | with_reducible apply Wf.cpL | with_reducible apply Wf.cp2 | with_reducible apply Wf.sIs | with_reducible apply Wf.sLs | with_reducible apply Wf.cpU | with_reducible apply Wf.fillI | with_reducible apply Wf.clU | with_reducible apply Wf.dnF | with_reducible apply Wf.gbW | with_reducible apply Wf.cpXf | with_reducible apply Wf.cpYf))) (ixn (m := 3) (by omega) (by decide))) ?_
  rw [hv1.s3]
  refine lf (a_istore dX11_board_22 (by decide)) ?_
  refine lf (a_aload_n dX11_board_24 rfl) ?_
  refine lf (a_inv (b2 := (0, 0)) (Ct.int (go_in hgo) (m_isGoing (by repeat (first | with_reducible exact hw | with_reducible exact hwc | with_reducible assumption | with_reducible apply Wf.sI | with_reducible apply Wf.sL | with_reducible apply Wf.cpI | with_reducible apply Wf.cpL | with_reducible apply Wf.cp2 | with_reducible apply Wf.sIs | with_reducible apply Wf.sLs | with_reducible apply Wf.cpU | with_reducible apply Wf.fillI | with_reducible apply Wf.clU | with_reducible apply Wf.dnF | with_reducible apply Wf.gbW | with_reducible apply Wf.cpXf | with_reducible apply Wf.cpYf)) (h.1.th 0))) rfl dX11_board_25 yk_X11_isGoing im_X11_isGoing se_X11_isGoing ml_X11_401 rfl (co_338 (by repeat (first | with_reducible exact hw | with_reducible exact hwc | with_reducible assumption | with_reducible apply Wf.sI | with_reducible apply Wf.sL | with_reducible apply Wf.cpI | with_reducible apply Wf.cpL | with_reducible apply Wf.cp2 | with_reducible apply Wf.sIs | with_reducible apply Wf.sLs | with_reducible apply Wf.cpU | with_reducible apply Wf.fillI | with_reducible apply Wf.clU | with_reducible apply Wf.dnF | with_reducible apply Wf.gbW | with_reducible apply Wf.cpXf | with_reducible apply Wf.cpYf))) (by decide) hc_X11 (by decide) (by decide) (Nat.le_of_ble_eq_true rfl)) ?_
  refine lfn (a_if_ne (tgt := 35) dX11_board_28 (by decide)) (fun h28 => ?_) (fun h28 => absurd h28 (by decide))
  refine lf (a_iload dX11_board_35 rfl) ?_
  refine lf (a_bipush (40 : Int32) dX11_board_37 (by decide)) ?_
  refine lfn (a_icmp_ne (tgt := 47) dX11_board_39 (by decide)) (fun h39 => ?_) (fun h39 => absurd h39 (fun z => absurd ((nI_eqI (a := dP d) (b := 40) (by omega) (by decide)).mp z) (by omega)))
  refine lf (a_aload_n dX11_board_47 rfl) ?_
  refine lf (a_iload_n dX11_board_48 rfl) ?_
  refine lf (a_inv (b2 := (0, 0)) (Ct.int (if_neg (fun z => (seat_iff hq0 hd0 hc).mp z hfr)) (m_hasSeat (by repeat (first | with_reducible exact hw | with_reducible exact hwc | with_reducible assumption | with_reducible apply Wf.sI | with_reducible apply Wf.sL | with_reducible apply Wf.cpI | with_reducible apply Wf.cpL | with_reducible apply Wf.cp2 | with_reducible apply Wf.sIs | with_reducible apply Wf.sLs | with_reducible apply Wf.cpU | with_reducible apply Wf.fillI | with_reducible apply Wf.clU | with_reducible apply Wf.dnF | with_reducible apply Wf.gbW | with_reducible apply Wf.cpXf | with_reducible apply Wf.cpYf)) (h.1.th 0) hc)) rfl dX11_board_49 yk_X11_hasSeat im_X11_hasSeat se_X11_hasSeat ml_X11_404 rfl (co_338 (by repeat (first | with_reducible exact hw | with_reducible exact hwc | with_reducible assumption | with_reducible apply Wf.sI | with_reducible apply Wf.sL | with_reducible apply Wf.cpI | with_reducible apply Wf.cpL | with_reducible apply Wf.cp2 | with_reducible apply Wf.sIs | with_reducible apply Wf.sLs | with_reducible apply Wf.cpU | with_reducible apply Wf.fillI | with_reducible apply Wf.clU | with_reducible apply Wf.dnF | with_reducible apply Wf.gbW | with_reducible apply Wf.cpXf | with_reducible apply Wf.cpYf))) (by decide) hc_X11 (by decide) (by decide) (Nat.le_of_ble_eq_true rfl)) ?_
  refine lf2 (a_if_eq (tgt := 59) dX11_board_52 (by decide)) (fun h52 => ?_) (fun h52 => absurd h52 (fun z => z rfl))
  refine lf (a_bipush (9 : Int32) dX11_board_59 (by decide)) ?_
  refine lf (a_istore dX11_board_61 (by decide)) ?_
  refine lf (a_aload_n dX11_board_63 rfl) ?_
  refine lf (a_iload dX11_board_64 rfl) ?_
  refine lf (a_iconst (3 : Int32) dX11_board_66 (by decide)) ?_
  refine lf (a_inv (b2 := (0, 0)) (m_refuses1 (by repeat (first | with_reducible exact hw | with_reducible exact hwc | with_reducible assumption | with_reducible apply Wf.sI | with_reducible apply Wf.sL | with_reducible apply Wf.cpI | with_reducible apply Wf.cpL | with_reducible apply Wf.cp2 | with_reducible apply Wf.sIs | with_reducible apply Wf.sLs | with_reducible apply Wf.cpU | with_reducible apply Wf.fillI | with_reducible apply Wf.clU | with_reducible apply Wf.dnF | with_reducible apply Wf.gbW | with_reducible apply Wf.cpXf | with_reducible apply Wf.cpYf)) (y := 9) (w := 3) (by decide) (by decide)) rfl dX11_board_67 yk_X11_refuses im_X11_refuses se_X11_refuses ml_X11_407 rfl (co_338 (by repeat (first | with_reducible exact hw | with_reducible exact hwc | with_reducible assumption | with_reducible apply Wf.sI | with_reducible apply Wf.sL | with_reducible apply Wf.cpI | with_reducible apply Wf.cpL | with_reducible apply Wf.cp2 | with_reducible apply Wf.sIs | with_reducible apply Wf.sLs | with_reducible apply Wf.cpU | with_reducible apply Wf.fillI | with_reducible apply Wf.clU | with_reducible apply Wf.dnF | with_reducible apply Wf.gbW | with_reducible apply Wf.cpXf | with_reducible apply Wf.cpYf))) (by decide) hc_X11 (by decide) (by decide) (Nat.le_of_ble_eq_true rfl)) ?_
  refine lf2 (a_if_eq (tgt := 75) dX11_board_70 (by decide)) (fun h70 => absurd h70 (by decide)) (fun h70 => ?_)
  refine lf (a_iconst (0 : Int32) dX11_board_73 (by decide)) ?_
  refine ⟨_, _, (a_ireturn dX11_board_74 rfl rfl), ?_⟩
  exact ⟨_, rfl, rfl, MrQ.of (MtQ.of hw 0) 9 3⟩
theorem brd_fin {H : Hst} (hR : RmQ μ W q d H) (hP : dP d < 40) (h0 : dF d 6 0 = 0) {c n v : Int32} (hZ : Z = sI (sI (sI (sI (sI W 344 (5 + 4 * dP d + 0) c) 344 (5 + 4 * dP d + 1) n) 344 (5 + 4 * dP d + 2) v) 344 (5 + 4 * dP d + 3) (-1)) 344 3 (nI (dP d + 1))) : MaQ μ Z q (brdD d c n v) H := by
  have hO : Out s344 W Z := by
    rw [hZ]
    exact (((((Out.rfl' hR.1).sI (S := s344) rfl _ _).sI (S := s344) rfl _ _).sI (S := s344) rfl _ _).sI (S := s344) rfl _ _).sI (S := s344) rfl _ _
  have e : ∀ x, gI Z 344 x = if x = 3 then nI (dP d + 1) else if x = 5 + 4 * dP d + 3 then -1 else if x = 5 + 4 * dP d + 2 then v else if x = 5 + 4 * dP d + 1 then n else if x = 5 + 4 * dP d + 0 then c else gI W 344 x := fun x => by
    have t : ∀ (X : Wd) (k : Nat) (u : Int32), gI (sI X 344 k u) 344 x = if x = k then u else gI X 344 x := fun X k u => by
      rw [gI_sI]
      by_cases z : x = k
      · rw [if_pos z, if_pos ⟨rfl, z⟩]
      · rw [if_neg z, if_neg (fun y => z y.2)]
    rw [hZ, t, t, t, t, t]
  clear hZ
  have hf := hR.2.1.fit
  have hr := hR.2.1.rx
  have g : ∀ a i, dF (brdD d c n v) a i = if i = dP d ∧ a < 3 then (if a = 0 then c else if a = 1 then n else v) else dF d a i := fun a i => rfl
  refine MaQ.fin hR hO ⟨⟨hf.1.1, hf.1.2.1, hf.1.2.2.1, hP, hf.1.2.2.2.2⟩, by rw [g, if_neg (by omega)]; exact hf.2.1, hf.2.2⟩ (hr.pas hf h0 rfl (fun a i ha => by rw [g, if_neg (by omega)]) (fun x hx => ?_) (by rw [e, if_pos rfl]; rfl) (fun i (hi : i < dP d + 1) => ?_)) rfl
  · rw [e, if_neg (by omega), if_neg (by omega), if_neg (by omega), if_neg (by omega), if_neg (by omega)]
  · by_cases hl : i = dP d
    · subst hl
      have a0 : dF (brdD d c n v) 0 (dP d) = c := (if_pos ⟨rfl, by decide⟩).trans (if_pos rfl)
      have a1 : dF (brdD d c n v) 1 (dP d) = n := (if_pos ⟨rfl, by decide⟩).trans ((if_neg (by decide)).trans (if_pos rfl))
      have a2 : dF (brdD d c n v) 2 (dP d) = v := (if_pos ⟨rfl, by decide⟩).trans ((if_neg (by decide)).trans (if_neg (by decide)))
      rw [a0, a1, a2, e, e, e, e]
      refine ⟨?_, ?_, ?_, ?_⟩
      · rw [if_neg (by omega), if_neg (by omega), if_neg (by omega), if_neg (by omega), if_pos rfl]
      · rw [if_neg (by omega), if_neg (by omega), if_neg (by omega), if_pos rfl]
      · rw [if_neg (by omega), if_neg (by omega), if_pos rfl]
      · rw [if_neg (by omega), if_pos rfl]
    · have hi2 : i < dP d := by omega
      have e2 : ∀ j, j < 4 → gI Z 344 (5 + 4 * i + j) = gI W 344 (5 + 4 * i + j) := fun j hj => by rw [e, if_neg (by omega), if_neg (by omega), if_neg (by omega), if_neg (by omega), if_neg (by omega)]
      rw [g, g, g, if_neg (fun z => hl z.1), if_neg (fun z => hl z.1), if_neg (fun z => hl z.1), e2 0 (by decide), e2 1 (by decide), e2 2 (by decide), e2 3 (by decide)]
      exact ⟨(hr.2.1.2.2.2.2.1 i hi2).1, (hr.2.1.2.2.2.2.1 i hi2).2.1, (hr.2.1.2.2.2.2.1 i hi2).2.2, hr.got h0 hi2⟩

theorem v_board (hw : Wf μ) (h : MnV μ q d) {H : Hst} (hp : MpV μ q H) (hq0 : GdP q) (hd0 : GdD q d) (hgo : goD q d) {c : Nat} (hc : c < pC q) {y z : Int32} (hb : Ct Y_X11_wrongBoarding R_X11_wrongBoarding [.ref 338, .int (nI c), .int y, .int z] μ (.inl (some (.int 0))) μ) (hP : dP d < 40) (hfr : ¬ pF q 0 c - paD d (nI c) < 1) : CV Y_X11_board R_X11_board [.ref 338, .int (nI c), .int y, .int z] μ (fun v V => v = some (.int (nI (dP d))) ∧ MaQ μ V q (brdD d (nI c) y z) (pushH H d)) := by
  have hv := h.1
  have hM4 := hv.M4
  have hT4 := hv.T4
  have hP4 := hv.P4
  have hC4 := hv.C4
  have hU4 := hv.U4
  have hw1 : Wf (sI μ 338 0 0) := hw.sI
  have hv1 : MdV (sI μ 338 0 0) q d := hv.th 0
  have h0 := (go_s0 hgo).1
  refine CV.ent yk_X11_board (Nat.le_of_ble_eq_true rfl) ?_
  refine lf (a_aload_n dX11_board_0 rfl) ?_
  refine lf (a_aload_n dX11_board_1 rfl) ?_
  refine lf (a_iload_n dX11_board_2 rfl) ?_
  refine lf (a_iload_n dX11_board_3 rfl) ?_
  refine lf (a_iload_n dX11_board_4 rfl) ?_
  refine lf (a_inv (b2 := (0, 0)) hb rfl dX11_board_5 yk_X11_wrongBoarding im_X11_wrongBoarding se_X11_wrongBoarding ml_X11_397 rfl (co_338 (by repeat (first | with_reducible exact hw | with_reducible exact hwc | with_reducible assumption | with_reducible apply Wf.sI | with_reducible apply Wf.sL | with_reducible apply Wf.cpI | with_reducible apply Wf.cpL | with_reducible apply Wf.cp2 | with_reducible apply Wf.sIs | with_reducible apply Wf.sLs | with_reducible apply Wf.cpU | with_reducible apply Wf.fillI | with_reducible apply Wf.clU | with_reducible apply Wf.dnF | with_reducible apply Wf.gbW | with_reducible apply Wf.cpXf | with_reducible apply Wf.cpYf))) (by decide) hc_X11 (by decide) (by decide) (Nat.le_of_ble_eq_true rfl)) ?_
  refine lf (a_inv (b2 := (0, 0)) (m_isRefused0 (by repeat (first | with_reducible exact hw | with_reducible exact hwc | with_reducible assumption | with_reducible apply Wf.sI | with_reducible apply Wf.sL | with_reducible apply Wf.cpI | with_reducible apply Wf.cpL | with_reducible apply Wf.cp2 | with_reducible apply Wf.sIs | with_reducible apply Wf.sLs | with_reducible apply Wf.cpU | with_reducible apply Wf.fillI | with_reducible apply Wf.clU | with_reducible apply Wf.dnF | with_reducible apply Wf.gbW | with_reducible apply Wf.cpXf | with_reducible apply Wf.cpYf))) rfl dX11_board_8 yk_X11_isRefused im_X11_isRefused se_X11_isRefused ml_X11_98 rfl (co_338 (by repeat (first | with_reducible exact hw | with_reducible exact hwc | with_reducible assumption | with_reducible apply Wf.sI | with_reducible apply Wf.sL | with_reducible apply Wf.cpI | with_reducible apply Wf.cpL | with_reducible apply Wf.cp2 | with_reducible apply Wf.sIs | with_reducible apply Wf.sLs | with_reducible apply Wf.cpU | with_reducible apply Wf.fillI | with_reducible apply Wf.clU | with_reducible apply Wf.dnF | with_reducible apply Wf.gbW | with_reducible apply Wf.cpXf | with_reducible apply Wf.cpYf))) (by decide) hc_X11 (by decide) (by decide) (Nat.le_of_ble_eq_true rfl)) ?_
  refine lf2 (a_if_eq (tgt := 16) dX11_board_11 (by decide)) (fun h11 => ?_) (fun h11 => absurd h11 (fun z => z rfl))
  refine lf (a_aload_n dX11_board_16 rfl) ?_
  refine lf (a_getR (cr_338_6 (by repeat (first | with_reducible exact hw | with_reducible exact hwc | with_reducible assumption | with_reducible apply Wf.sI | with_reducible apply Wf.sL | with_reducible apply Wf.cpI | with_reducible apply Wf.cpL | with_reducible apply Wf.cp2 | with_reducible apply Wf.sIs | with_reducible apply Wf.sLs | with_reducible apply Wf.cpU | with_reducible apply Wf.fillI | with_reducible apply Wf.clU | with_reducible apply Wf.dnF | with_reducible apply Wf.gbW | with_reducible apply Wf.cpXf | with_reducible apply Wf.cpYf))) dX11_board_17 fs_X11_26 rfl (co_338 (by repeat (first | with_reducible exact hw | with_reducible exact hwc | with_reducible assumption | with_reducible apply Wf.sI | with_reducible apply Wf.sL | with_reducible apply Wf.cpI | with_reducible apply Wf.cpL | with_reducible apply Wf.cp2 | with_reducible apply Wf.sIs | with_reducible apply Wf.sLs | with_reducible apply Wf.cpU | with_reducible apply Wf.fillI | with_reducible apply Wf.clU | with_reducible apply Wf.dnF | with_reducible apply Wf.gbW | with_reducible apply Wf.cpXf | with_reducible apply Wf.cpYf)))) ?_
  refine lf (a_iconst (3 : Int32) dX11_board_20 (by decide)) ?_
  refine lf (a_ild dX11_board_21 (ca_344 (by repeat (first | with_reducible exact hw | with_reducible exact hwc | with_reducible assumption | with_reducible apply Wf.sI | with_reducible apply Wf.sL | with_reducible apply Wf.cpI | with_reducible apply Wf.cpL | with_reducible apply Wf.cp2 | with_reducible apply Wf.sIs | with_reducible apply Wf.sLs | with_reducible apply Wf.cpU | with_reducible apply Wf.fillI | with_reducible apply Wf.clU | with_reducible apply Wf.dnF | with_reducible apply Wf.gbW | with_reducible apply Wf.cpXf | with_reducible apply Wf.cpYf))) (ixn (m := 3) (by omega) (by decide))) ?_
  rw [hv1.s3]
  refine lf (a_istore dX11_board_22 (by decide)) ?_
  refine lf (a_aload_n dX11_board_24 rfl) ?_
  refine lf (a_inv (b2 := (0, 0)) (Ct.int (go_in hgo) (m_isGoing (by repeat (first | with_reducible exact hw | with_reducible exact hwc | with_reducible assumption | with_reducible apply Wf.sI | with_reducible apply Wf.sL | with_reducible apply Wf.cpI | with_reducible apply Wf.cpL | with_reducible apply Wf.cp2 | with_reducible apply Wf.sIs | with_reducible apply Wf.sLs | with_reducible apply Wf.cpU | with_reducible apply Wf.fillI | with_reducible apply Wf.clU | with_reducible apply Wf.dnF | with_reducible apply Wf.gbW | with_reducible apply Wf.cpXf | with_reducible apply Wf.cpYf)) (h.1.th 0))) rfl dX11_board_25 yk_X11_isGoing im_X11_isGoing se_X11_isGoing ml_X11_401 rfl (co_338 (by repeat (first | with_reducible exact hw | with_reducible exact hwc | with_reducible assumption | with_reducible apply Wf.sI | with_reducible apply Wf.sL | with_reducible apply Wf.cpI | with_reducible apply Wf.cpL | with_reducible apply Wf.cp2 | with_reducible apply Wf.sIs | with_reducible apply Wf.sLs | with_reducible apply Wf.cpU | with_reducible apply Wf.fillI | with_reducible apply Wf.clU | with_reducible apply Wf.dnF | with_reducible apply Wf.gbW | with_reducible apply Wf.cpXf | with_reducible apply Wf.cpYf))) (by decide) hc_X11 (by decide) (by decide) (Nat.le_of_ble_eq_true rfl)) ?_
  refine lfn (a_if_ne (tgt := 35) dX11_board_28 (by decide)) (fun h28 => ?_) (fun h28 => absurd h28 (by decide))
  refine lf (a_iload dX11_board_35 rfl) ?_
  refine lf (a_bipush (40 : Int32) dX11_board_37 (by decide)) ?_
  refine lfn (a_icmp_ne (tgt := 47) dX11_board_39 (by decide)) (fun h39 => ?_) (fun h39 => absurd h39 (fun z => absurd ((nI_eqI (a := dP d) (b := 40) (by omega) (by decide)).mp z) (by omega)))
  refine lf (a_aload_n dX11_board_47 rfl) ?_
  refine lf (a_iload_n dX11_board_48 rfl) ?_
  refine lf (a_inv (b2 := (0, 0)) (Ct.int (if_pos ((seat_iff hq0 hd0 hc).mpr hfr)) (m_hasSeat (by repeat (first | with_reducible exact hw | with_reducible exact hwc | with_reducible assumption | with_reducible apply Wf.sI | with_reducible apply Wf.sL | with_reducible apply Wf.cpI | with_reducible apply Wf.cpL | with_reducible apply Wf.cp2 | with_reducible apply Wf.sIs | with_reducible apply Wf.sLs | with_reducible apply Wf.cpU | with_reducible apply Wf.fillI | with_reducible apply Wf.clU | with_reducible apply Wf.dnF | with_reducible apply Wf.gbW | with_reducible apply Wf.cpXf | with_reducible apply Wf.cpYf)) (h.1.th 0) hc)) rfl dX11_board_49 yk_X11_hasSeat im_X11_hasSeat se_X11_hasSeat ml_X11_404 rfl (co_338 (by repeat (first | with_reducible exact hw | with_reducible exact hwc | with_reducible assumption | with_reducible apply Wf.sI | with_reducible apply Wf.sL | with_reducible apply Wf.cpI | with_reducible apply Wf.cpL | with_reducible apply Wf.cp2 | with_reducible apply Wf.sIs | with_reducible apply Wf.sLs | with_reducible apply Wf.cpU | with_reducible apply Wf.fillI | with_reducible apply Wf.clU | with_reducible apply Wf.dnF | with_reducible apply Wf.gbW | with_reducible apply Wf.cpXf | with_reducible apply Wf.cpYf))) (by decide) hc_X11 (by decide) (by decide) (Nat.le_of_ble_eq_true rfl)) ?_
  refine lf2 (a_if_eq (tgt := 59) dX11_board_52 (by decide)) (fun h52 => absurd h52 (by decide)) (fun h52 => ?_)
  refine lf (a_iconst (0 : Int32) dX11_board_55 (by decide)) ?_
  refine lf (a_goto (tgt := 61) dX11_board_56 (by decide)) ?_
  refine lf (a_istore dX11_board_61 (by decide)) ?_
  refine lf (a_aload_n dX11_board_63 rfl) ?_
  refine lf (a_iload dX11_board_64 rfl) ?_
  refine lf (a_iconst (3 : Int32) dX11_board_66 (by decide)) ?_
  refine lf (a_inv (b2 := (0, 0)) (m_refuses0 (by repeat (first | with_reducible exact hw | with_reducible exact hwc | with_reducible assumption | with_reducible apply Wf.sI | with_reducible apply Wf.sL | with_reducible apply Wf.cpI | with_reducible apply Wf.cpL | with_reducible apply Wf.cp2 | with_reducible apply Wf.sIs | with_reducible apply Wf.sLs | with_reducible apply Wf.cpU | with_reducible apply Wf.fillI | with_reducible apply Wf.clU | with_reducible apply Wf.dnF | with_reducible apply Wf.gbW | with_reducible apply Wf.cpXf | with_reducible apply Wf.cpYf)) 3) rfl dX11_board_67 yk_X11_refuses im_X11_refuses se_X11_refuses ml_X11_407 rfl (co_338 (by repeat (first | with_reducible exact hw | with_reducible exact hwc | with_reducible assumption | with_reducible apply Wf.sI | with_reducible apply Wf.sL | with_reducible apply Wf.cpI | with_reducible apply Wf.cpL | with_reducible apply Wf.cp2 | with_reducible apply Wf.sIs | with_reducible apply Wf.sLs | with_reducible apply Wf.cpU | with_reducible apply Wf.fillI | with_reducible apply Wf.clU | with_reducible apply Wf.dnF | with_reducible apply Wf.gbW | with_reducible apply Wf.cpXf | with_reducible apply Wf.cpYf))) (by decide) hc_X11 (by decide) (by decide) (Nat.le_of_ble_eq_true rfl)) ?_
  refine lf2 (a_if_eq (tgt := 75) dX11_board_70 (by decide)) (fun h70 => ?_) (fun h70 => absurd h70 (fun z => z rfl))
  refine lf (a_aload_n dX11_board_75 rfl) ?_
  obtain ⟨v_, W76, k76, rfl, hR⟩ := (v_rem (MtQ.of2 hw) h hp)
  have hwR := hR.1
  have hnR := hR.2.1
  have hvR := hnR.1
  refine lf (a_inv (b2 := (0, 0)) k76 rfl dX11_board_76 yk_X11_remembers im_X11_remembers se_X11_remembers ml_X11_410 rfl (co_338 (by repeat (first | with_reducible exact hw | with_reducible exact hwc | with_reducible assumption | with_reducible apply Wf.sI | with_reducible apply Wf.sL | with_reducible apply Wf.cpI | with_reducible apply Wf.cpL | with_reducible apply Wf.cp2 | with_reducible apply Wf.sIs | with_reducible apply Wf.sLs | with_reducible apply Wf.cpU | with_reducible apply Wf.fillI | with_reducible apply Wf.clU | with_reducible apply Wf.dnF | with_reducible apply Wf.gbW | with_reducible apply Wf.cpXf | with_reducible apply Wf.cpYf))) (by decide) hc_X11 (by decide) (by decide) (Nat.le_of_ble_eq_true rfl)) ?_
  refine lf (a_aload_n dX11_board_79 rfl) ?_
  refine lf (a_getR (cr_338_6 (by repeat (first | with_reducible exact hw | with_reducible exact hwc | with_reducible assumption | with_reducible apply Wf.sI | with_reducible apply Wf.sL | with_reducible apply Wf.cpI | with_reducible apply Wf.cpL | with_reducible apply Wf.cp2 | with_reducible apply Wf.sIs | with_reducible apply Wf.sLs | with_reducible apply Wf.cpU | with_reducible apply Wf.fillI | with_reducible apply Wf.clU | with_reducible apply Wf.dnF | with_reducible apply Wf.gbW | with_reducible apply Wf.cpXf | with_reducible apply Wf.cpYf))) dX11_board_80 fs_X11_26 rfl (co_338 (by repeat (first | with_reducible exact hw | with_reducible exact hwc | with_reducible assumption | with_reducible apply Wf.sI | with_reducible apply Wf.sL | with_reducible apply Wf.cpI | with_reducible apply Wf.cpL | with_reducible apply Wf.cp2 | with_reducible apply Wf.sIs | with_reducible apply Wf.sLs | with_reducible apply Wf.cpU | with_reducible apply Wf.fillI | with_reducible apply Wf.clU | with_reducible apply Wf.dnF | with_reducible apply Wf.gbW | with_reducible apply Wf.cpXf | with_reducible apply Wf.cpYf)))) ?_
  refine lf (a_iload dX11_board_83 rfl) ?_
  refine lf (a_iconst (0 : Int32) dX11_board_85 (by decide)) ?_
  refine lf (a_invS (b2 := (0, 0)) (m_passengerAt (dP d) 0) rfl dX11_board_86 yk_X11_passengerAt sm_X11_passengerAt ml_X11_91 rfl (by decide) (by decide) (Nat.le_of_ble_eq_true rfl)) ?_
  refine lf (a_iload_n dX11_board_89 rfl) ?_
  refine lf (a_ist dX11_board_90 (ca_344 (by repeat (first | with_reducible exact hw | with_reducible exact hwc | with_reducible assumption | with_reducible apply Wf.sI | with_reducible apply Wf.sL | with_reducible apply Wf.cpI | with_reducible apply Wf.cpL | with_reducible apply Wf.cp2 | with_reducible apply Wf.sIs | with_reducible apply Wf.sLs | with_reducible apply Wf.cpU | with_reducible apply Wf.fillI | with_reducible apply Wf.clU | with_reducible apply Wf.dnF | with_reducible apply Wf.gbW | with_reducible apply Wf.cpXf | with_reducible apply Wf.cpYf))) (ixn (show 5 + 4 * dP d + 0 < 291 by omega) (by omega))) ?_
  refine lf (a_aload_n dX11_board_91 rfl) ?_
  refine lf (a_getR (cr_338_6 (by repeat (first | with_reducible exact hw | with_reducible exact hwc | with_reducible assumption | with_reducible apply Wf.sI | with_reducible apply Wf.sL | with_reducible apply Wf.cpI | with_reducible apply Wf.cpL | with_reducible apply Wf.cp2 | with_reducible apply Wf.sIs | with_reducible apply Wf.sLs | with_reducible apply Wf.cpU | with_reducible apply Wf.fillI | with_reducible apply Wf.clU | with_reducible apply Wf.dnF | with_reducible apply Wf.gbW | with_reducible apply Wf.cpXf | with_reducible apply Wf.cpYf))) dX11_board_92 fs_X11_26 rfl (co_338 (by repeat (first | with_reducible exact hw | with_reducible exact hwc | with_reducible assumption | with_reducible apply Wf.sI | with_reducible apply Wf.sL | with_reducible apply Wf.cpI | with_reducible apply Wf.cpL | with_reducible apply Wf.cp2 | with_reducible apply Wf.sIs | with_reducible apply Wf.sLs | with_reducible apply Wf.cpU | with_reducible apply Wf.fillI | with_reducible apply Wf.clU | with_reducible apply Wf.dnF | with_reducible apply Wf.gbW | with_reducible apply Wf.cpXf | with_reducible apply Wf.cpYf)))) ?_
  refine lf (a_iload dX11_board_95 rfl) ?_
  refine lf (a_iconst (1 : Int32) dX11_board_97 (by decide)) ?_
  refine lf (a_invS (b2 := (0, 0)) (m_passengerAt (dP d) 1) rfl dX11_board_98 yk_X11_passengerAt sm_X11_passengerAt ml_X11_91 rfl (by decide) (by decide) (Nat.le_of_ble_eq_true rfl)) ?_
  refine lf (a_iload_n dX11_board_101 rfl) ?_
  refine lf (a_ist dX11_board_102 (ca_344 (by repeat (first | with_reducible exact hw | with_reducible exact hwc | with_reducible assumption | with_reducible apply Wf.sI | with_reducible apply Wf.sL | with_reducible apply Wf.cpI | with_reducible apply Wf.cpL | with_reducible apply Wf.cp2 | with_reducible apply Wf.sIs | with_reducible apply Wf.sLs | with_reducible apply Wf.cpU | with_reducible apply Wf.fillI | with_reducible apply Wf.clU | with_reducible apply Wf.dnF | with_reducible apply Wf.gbW | with_reducible apply Wf.cpXf | with_reducible apply Wf.cpYf))) (ixn (show 5 + 4 * dP d + 1 < 291 by omega) (by omega))) ?_
  refine lf (a_aload_n dX11_board_103 rfl) ?_
  refine lf (a_getR (cr_338_6 (by repeat (first | with_reducible exact hw | with_reducible exact hwc | with_reducible assumption | with_reducible apply Wf.sI | with_reducible apply Wf.sL | with_reducible apply Wf.cpI | with_reducible apply Wf.cpL | with_reducible apply Wf.cp2 | with_reducible apply Wf.sIs | with_reducible apply Wf.sLs | with_reducible apply Wf.cpU | with_reducible apply Wf.fillI | with_reducible apply Wf.clU | with_reducible apply Wf.dnF | with_reducible apply Wf.gbW | with_reducible apply Wf.cpXf | with_reducible apply Wf.cpYf))) dX11_board_104 fs_X11_26 rfl (co_338 (by repeat (first | with_reducible exact hw | with_reducible exact hwc | with_reducible assumption | with_reducible apply Wf.sI | with_reducible apply Wf.sL | with_reducible apply Wf.cpI | with_reducible apply Wf.cpL | with_reducible apply Wf.cp2 | with_reducible apply Wf.sIs | with_reducible apply Wf.sLs | with_reducible apply Wf.cpU | with_reducible apply Wf.fillI | with_reducible apply Wf.clU | with_reducible apply Wf.dnF | with_reducible apply Wf.gbW | with_reducible apply Wf.cpXf | with_reducible apply Wf.cpYf)))) ?_
  refine lf (a_iload dX11_board_107 rfl) ?_
  refine lf (a_iconst (2 : Int32) dX11_board_109 (by decide)) ?_
  refine lf (a_invS (b2 := (0, 0)) (m_passengerAt (dP d) 2) rfl dX11_board_110 yk_X11_passengerAt sm_X11_passengerAt ml_X11_91 rfl (by decide) (by decide) (Nat.le_of_ble_eq_true rfl)) ?_
  refine lf (a_iload_n dX11_board_113 rfl) ?_
  refine lf (a_ist dX11_board_114 (ca_344 (by repeat (first | with_reducible exact hw | with_reducible exact hwc | with_reducible assumption | with_reducible apply Wf.sI | with_reducible apply Wf.sL | with_reducible apply Wf.cpI | with_reducible apply Wf.cpL | with_reducible apply Wf.cp2 | with_reducible apply Wf.sIs | with_reducible apply Wf.sLs | with_reducible apply Wf.cpU | with_reducible apply Wf.fillI | with_reducible apply Wf.clU | with_reducible apply Wf.dnF | with_reducible apply Wf.gbW | with_reducible apply Wf.cpXf | with_reducible apply Wf.cpYf))) (ixn (show 5 + 4 * dP d + 2 < 291 by omega) (by omega))) ?_
  refine lf (a_aload_n dX11_board_115 rfl) ?_
  refine lf (a_getR (cr_338_6 (by repeat (first | with_reducible exact hw | with_reducible exact hwc | with_reducible assumption | with_reducible apply Wf.sI | with_reducible apply Wf.sL | with_reducible apply Wf.cpI | with_reducible apply Wf.cpL | with_reducible apply Wf.cp2 | with_reducible apply Wf.sIs | with_reducible apply Wf.sLs | with_reducible apply Wf.cpU | with_reducible apply Wf.fillI | with_reducible apply Wf.clU | with_reducible apply Wf.dnF | with_reducible apply Wf.gbW | with_reducible apply Wf.cpXf | with_reducible apply Wf.cpYf))) dX11_board_116 fs_X11_26 rfl (co_338 (by repeat (first | with_reducible exact hw | with_reducible exact hwc | with_reducible assumption | with_reducible apply Wf.sI | with_reducible apply Wf.sL | with_reducible apply Wf.cpI | with_reducible apply Wf.cpL | with_reducible apply Wf.cp2 | with_reducible apply Wf.sIs | with_reducible apply Wf.sLs | with_reducible apply Wf.cpU | with_reducible apply Wf.fillI | with_reducible apply Wf.clU | with_reducible apply Wf.dnF | with_reducible apply Wf.gbW | with_reducible apply Wf.cpXf | with_reducible apply Wf.cpYf)))) ?_
  refine lf (a_iload dX11_board_119 rfl) ?_
  refine lf (a_iconst (3 : Int32) dX11_board_121 (by decide)) ?_
  refine lf (a_invS (b2 := (0, 0)) (m_passengerAt (dP d) 3) rfl dX11_board_122 yk_X11_passengerAt sm_X11_passengerAt ml_X11_91 rfl (by decide) (by decide) (Nat.le_of_ble_eq_true rfl)) ?_
  refine lf (a_iconst (-1 : Int32) dX11_board_125 (by decide)) ?_
  refine lf (a_ist dX11_board_126 (ca_344 (by repeat (first | with_reducible exact hw | with_reducible exact hwc | with_reducible assumption | with_reducible apply Wf.sI | with_reducible apply Wf.sL | with_reducible apply Wf.cpI | with_reducible apply Wf.cpL | with_reducible apply Wf.cp2 | with_reducible apply Wf.sIs | with_reducible apply Wf.sLs | with_reducible apply Wf.cpU | with_reducible apply Wf.fillI | with_reducible apply Wf.clU | with_reducible apply Wf.dnF | with_reducible apply Wf.gbW | with_reducible apply Wf.cpXf | with_reducible apply Wf.cpYf))) (ixn (show 5 + 4 * dP d + 3 < 291 by omega) (by omega))) ?_
  refine lf (a_aload_n dX11_board_127 rfl) ?_
  refine lf (a_getR (cr_338_6 (by repeat (first | with_reducible exact hw | with_reducible exact hwc | with_reducible assumption | with_reducible apply Wf.sI | with_reducible apply Wf.sL | with_reducible apply Wf.cpI | with_reducible apply Wf.cpL | with_reducible apply Wf.cp2 | with_reducible apply Wf.sIs | with_reducible apply Wf.sLs | with_reducible apply Wf.cpU | with_reducible apply Wf.fillI | with_reducible apply Wf.clU | with_reducible apply Wf.dnF | with_reducible apply Wf.gbW | with_reducible apply Wf.cpXf | with_reducible apply Wf.cpYf))) dX11_board_128 fs_X11_26 rfl (co_338 (by repeat (first | with_reducible exact hw | with_reducible exact hwc | with_reducible assumption | with_reducible apply Wf.sI | with_reducible apply Wf.sL | with_reducible apply Wf.cpI | with_reducible apply Wf.cpL | with_reducible apply Wf.cp2 | with_reducible apply Wf.sIs | with_reducible apply Wf.sLs | with_reducible apply Wf.cpU | with_reducible apply Wf.fillI | with_reducible apply Wf.clU | with_reducible apply Wf.dnF | with_reducible apply Wf.gbW | with_reducible apply Wf.cpXf | with_reducible apply Wf.cpYf)))) ?_
  refine lf (a_iconst (3 : Int32) dX11_board_131 (by decide)) ?_
  refine lf (a_iload dX11_board_132 rfl) ?_
  refine lf (a_iconst (1 : Int32) dX11_board_134 (by decide)) ?_
  refine lf (a_iadd dX11_board_135) ?_
  rw [nI_1]
  refine lf (a_ist dX11_board_136 (ca_344 (by repeat (first | with_reducible exact hw | with_reducible exact hwc | with_reducible assumption | with_reducible apply Wf.sI | with_reducible apply Wf.sL | with_reducible apply Wf.cpI | with_reducible apply Wf.cpL | with_reducible apply Wf.cp2 | with_reducible apply Wf.sIs | with_reducible apply Wf.sLs | with_reducible apply Wf.cpU | with_reducible apply Wf.fillI | with_reducible apply Wf.clU | with_reducible apply Wf.dnF | with_reducible apply Wf.gbW | with_reducible apply Wf.cpXf | with_reducible apply Wf.cpYf))) (ixn (m := 3) (by omega) (by decide))) ?_
  refine lf (a_iload dX11_board_137 rfl) ?_
  refine ⟨_, _, (a_ireturn dX11_board_139 rfl rfl), ?_⟩
  exact ⟨_, rfl, rfl, brd_fin hR hP h0 rfl⟩
abbrev R_X11_change : Room := { frames := 5, cells := 0, slots := 0, locals := 109 }
abbrev RX_X11_change : Room := { frames := 5, cells := 1, slots := 6, locals := 109 }

theorem mx_change (hw : Wf μ) (h : MnV μ q d) {x y : Int32} (hx : ixO x (dP d) = none) : Ct Y_X11_change R_X11_change [.ref 338, .int x, .int y] μ (.inl (some (.int 0))) (sI μ 338 0 1) := by
  have hv := h.1
  have hM4 := hv.M4
  have hT4 := hv.T4
  have hP4 := hv.P4
  have hC4 := hv.C4
  have hU4 := hv.U4
  have hw1 : Wf (sI μ 338 0 0) := hw.sI
  have hv1 : MdV (sI μ 338 0 0) q d := hv.th 0
  refine Ct.ent yk_X11_change (Nat.le_of_ble_eq_true rfl) ?_
  refine a_aload_n dX11_change_0 rfl ?_
  refine a_aload_n dX11_change_1 rfl ?_
  refine a_iload_n dX11_change_2 rfl ?_
  refine a_inv (b2 := (0, 0)) (Ct.int (isO_none hx) (m_isPassenger (by repeat (first | with_reducible exact hw | with_reducible exact hwc | with_reducible assumption | with_reducible apply Wf.sI | with_reducible apply Wf.sL | with_reducible apply Wf.cpI | with_reducible apply Wf.cpL | with_reducible apply Wf.cp2 | with_reducible apply Wf.sIs | with_reducible apply Wf.sLs | with_reducible apply Wf.cpU | with_reducible apply Wf.fillI | with_reducible apply Wf.clU | with_reducible apply Wf.dnF | with_reducible apply Wf.gbW | with_reducible apply Wf.cpXf | with_reducible apply Wf.cpYf)) hv x)) rfl dX11_change_3 yk_X11_isPassenger im_X11_isPassenger se_X11_isPassenger ml_X11_385 rfl (co_338 (by repeat (first | with_reducible exact hw | with_reducible exact hwc | with_reducible assumption | with_reducible apply Wf.sI | with_reducible apply Wf.sL | with_reducible apply Wf.cpI | with_reducible apply Wf.cpL | with_reducible apply Wf.cp2 | with_reducible apply Wf.sIs | with_reducible apply Wf.sLs | with_reducible apply Wf.cpU | with_reducible apply Wf.fillI | with_reducible apply Wf.clU | with_reducible apply Wf.dnF | with_reducible apply Wf.gbW | with_reducible apply Wf.cpXf | with_reducible apply Wf.cpYf))) (by decide) hc_X11 (by decide) (by decide) (Nat.le_of_ble_eq_true rfl) ?_
  refine a_if_eq (tgt := 17) dX11_change_6 (by decide) (fun h6 => ?_) (fun h6 => absurd h6 (fun z => z rfl))
  refine a_iconst (1 : Int32) dX11_change_17 (by decide) ?_
  refine a_goto (tgt := 36) dX11_change_18 (by decide) ?_
  refine a_inv (b2 := (0, 0)) (m_isRefused1 (by repeat (first | with_reducible exact hw | with_reducible exact hwc | with_reducible assumption | with_reducible apply Wf.sI | with_reducible apply Wf.sL | with_reducible apply Wf.cpI | with_reducible apply Wf.cpL | with_reducible apply Wf.cp2 | with_reducible apply Wf.sIs | with_reducible apply Wf.sLs | with_reducible apply Wf.cpU | with_reducible apply Wf.fillI | with_reducible apply Wf.clU | with_reducible apply Wf.dnF | with_reducible apply Wf.gbW | with_reducible apply Wf.cpXf | with_reducible apply Wf.cpYf)) (v := 1) (by decide)) rfl dX11_change_36 yk_X11_isRefused im_X11_isRefused se_X11_isRefused ml_X11_98 rfl (co_338 (by repeat (first | with_reducible exact hw | with_reducible exact hwc | with_reducible assumption | with_reducible apply Wf.sI | with_reducible apply Wf.sL | with_reducible apply Wf.cpI | with_reducible apply Wf.cpL | with_reducible apply Wf.cp2 | with_reducible apply Wf.sIs | with_reducible apply Wf.sLs | with_reducible apply Wf.cpU | with_reducible apply Wf.fillI | with_reducible apply Wf.clU | with_reducible apply Wf.dnF | with_reducible apply Wf.gbW | with_reducible apply Wf.cpXf | with_reducible apply Wf.cpYf))) (by decide) hc_X11 (by decide) (by decide) (Nat.le_of_ble_eq_true rfl) ?_
  refine a_if_eq (tgt := 44) dX11_change_39 (by decide) (fun h39 => absurd h39 (by decide)) (fun h39 => ?_)
  refine a_iconst (0 : Int32) dX11_change_42 (by decide) ?_
  exact a_out rfl rfl (a_ireturn dX11_change_43 rfl rfl)

theorem my_change (hw : Wf μ) (h : MnV μ q d) {i : Nat} (hi : i < dP d) {y : Int32} (hy : ixO y (pC q) = none) : Ct Y_X11_change R_X11_change [.ref 338, .int (nI i), .int y] μ (.inl (some (.int 0))) (sI μ 338 0 1) := by
  have hv := h.1
  have hM4 := hv.M4
  have hT4 := hv.T4
  have hP4 := hv.P4
  have hC4 := hv.C4
  have hU4 := hv.U4
  have hw1 : Wf (sI μ 338 0 0) := hw.sI
  have hv1 : MdV (sI μ 338 0 0) q d := hv.th 0
  refine Ct.ent yk_X11_change (Nat.le_of_ble_eq_true rfl) ?_
  refine a_aload_n dX11_change_0 rfl ?_
  refine a_aload_n dX11_change_1 rfl ?_
  refine a_iload_n dX11_change_2 rfl ?_
  refine a_inv (b2 := (0, 0)) (Ct.int (isO_lt hi (by omega)) (m_isPassenger (by repeat (first | with_reducible exact hw | with_reducible exact hwc | with_reducible assumption | with_reducible apply Wf.sI | with_reducible apply Wf.sL | with_reducible apply Wf.cpI | with_reducible apply Wf.cpL | with_reducible apply Wf.cp2 | with_reducible apply Wf.sIs | with_reducible apply Wf.sLs | with_reducible apply Wf.cpU | with_reducible apply Wf.fillI | with_reducible apply Wf.clU | with_reducible apply Wf.dnF | with_reducible apply Wf.gbW | with_reducible apply Wf.cpXf | with_reducible apply Wf.cpYf)) hv (nI i))) rfl dX11_change_3 yk_X11_isPassenger im_X11_isPassenger se_X11_isPassenger ml_X11_385 rfl (co_338 (by repeat (first | with_reducible exact hw | with_reducible exact hwc | with_reducible assumption | with_reducible apply Wf.sI | with_reducible apply Wf.sL | with_reducible apply Wf.cpI | with_reducible apply Wf.cpL | with_reducible apply Wf.cp2 | with_reducible apply Wf.sIs | with_reducible apply Wf.sLs | with_reducible apply Wf.cpU | with_reducible apply Wf.fillI | with_reducible apply Wf.clU | with_reducible apply Wf.dnF | with_reducible apply Wf.gbW | with_reducible apply Wf.cpXf | with_reducible apply Wf.cpYf))) (by decide) hc_X11 (by decide) (by decide) (Nat.le_of_ble_eq_true rfl) ?_
  refine a_if_eq (tgt := 17) dX11_change_6 (by decide) (fun h6 => absurd h6 (by decide)) (fun h6 => ?_)
  refine a_aload_n dX11_change_9 rfl ?_
  refine a_iload_n dX11_change_10 rfl ?_
  refine a_inv (b2 := (0, 0)) (Ct.int (isO_none hy) (m_isCabin (by repeat (first | with_reducible exact hw | with_reducible exact hwc | with_reducible assumption | with_reducible apply Wf.sI | with_reducible apply Wf.sL | with_reducible apply Wf.cpI | with_reducible apply Wf.cpL | with_reducible apply Wf.cp2 | with_reducible apply Wf.sIs | with_reducible apply Wf.sLs | with_reducible apply Wf.cpU | with_reducible apply Wf.fillI | with_reducible apply Wf.clU | with_reducible apply Wf.dnF | with_reducible apply Wf.gbW | with_reducible apply Wf.cpXf | with_reducible apply Wf.cpYf)) hv y)) rfl dX11_change_11 yk_X11_isCabin im_X11_isCabin se_X11_isCabin ml_X11_363 rfl (co_338 (by repeat (first | with_reducible exact hw | with_reducible exact hwc | with_reducible assumption | with_reducible apply Wf.sI | with_reducible apply Wf.sL | with_reducible apply Wf.cpI | with_reducible apply Wf.cpL | with_reducible apply Wf.cp2 | with_reducible apply Wf.sIs | with_reducible apply Wf.sLs | with_reducible apply Wf.cpU | with_reducible apply Wf.fillI | with_reducible apply Wf.clU | with_reducible apply Wf.dnF | with_reducible apply Wf.gbW | with_reducible apply Wf.cpXf | with_reducible apply Wf.cpYf))) (by decide) hc_X11 (by decide) (by decide) (Nat.le_of_ble_eq_true rfl) ?_
  refine a_if_ne (tgt := 21) dX11_change_14 (by decide) (fun h14 => absurd h14 (fun z => z rfl)) (fun h14 => ?_)
  refine a_iconst (1 : Int32) dX11_change_17 (by decide) ?_
  refine a_goto (tgt := 36) dX11_change_18 (by decide) ?_
  refine a_inv (b2 := (0, 0)) (m_isRefused1 (by repeat (first | with_reducible exact hw | with_reducible exact hwc | with_reducible assumption | with_reducible apply Wf.sI | with_reducible apply Wf.sL | with_reducible apply Wf.cpI | with_reducible apply Wf.cpL | with_reducible apply Wf.cp2 | with_reducible apply Wf.sIs | with_reducible apply Wf.sLs | with_reducible apply Wf.cpU | with_reducible apply Wf.fillI | with_reducible apply Wf.clU | with_reducible apply Wf.dnF | with_reducible apply Wf.gbW | with_reducible apply Wf.cpXf | with_reducible apply Wf.cpYf)) (v := 1) (by decide)) rfl dX11_change_36 yk_X11_isRefused im_X11_isRefused se_X11_isRefused ml_X11_98 rfl (co_338 (by repeat (first | with_reducible exact hw | with_reducible exact hwc | with_reducible assumption | with_reducible apply Wf.sI | with_reducible apply Wf.sL | with_reducible apply Wf.cpI | with_reducible apply Wf.cpL | with_reducible apply Wf.cp2 | with_reducible apply Wf.sIs | with_reducible apply Wf.sLs | with_reducible apply Wf.cpU | with_reducible apply Wf.fillI | with_reducible apply Wf.clU | with_reducible apply Wf.dnF | with_reducible apply Wf.gbW | with_reducible apply Wf.cpXf | with_reducible apply Wf.cpYf))) (by decide) hc_X11 (by decide) (by decide) (Nat.le_of_ble_eq_true rfl) ?_
  refine a_if_eq (tgt := 44) dX11_change_39 (by decide) (fun h39 => absurd h39 (by decide)) (fun h39 => ?_)
  refine a_iconst (0 : Int32) dX11_change_42 (by decide) ?_
  exact a_out rfl rfl (a_ireturn dX11_change_43 rfl rfl)

theorem mz_change (hw : Wf μ) (h : MnV μ q d) {i c : Nat} (hi : i < dP d) (hc : c < pC q) (he : dF d 0 i = nI c) : Ct Y_X11_change R_X11_change [.ref 338, .int (nI i), .int (nI c)] μ (.inl (some (.int 0))) (sI μ 338 0 2) := by
  have hv := h.1
  have hM4 := hv.M4
  have hT4 := hv.T4
  have hP4 := hv.P4
  have hC4 := hv.C4
  have hU4 := hv.U4
  have hw1 : Wf (sI μ 338 0 0) := hw.sI
  have hv1 : MdV (sI μ 338 0 0) q d := hv.th 0
  refine Ct.ent yk_X11_change (Nat.le_of_ble_eq_true rfl) ?_
  refine a_aload_n dX11_change_0 rfl ?_
  refine a_aload_n dX11_change_1 rfl ?_
  refine a_iload_n dX11_change_2 rfl ?_
  refine a_inv (b2 := (0, 0)) (Ct.int (isO_lt hi (by omega)) (m_isPassenger (by repeat (first | with_reducible exact hw | with_reducible exact hwc | with_reducible assumption | with_reducible apply Wf.sI | with_reducible apply Wf.sL | with_reducible apply Wf.cpI | with_reducible apply Wf.cpL | with_reducible apply Wf.cp2 | with_reducible apply Wf.sIs | with_reducible apply Wf.sLs | with_reducible apply Wf.cpU | with_reducible apply Wf.fillI | with_reducible apply Wf.clU | with_reducible apply Wf.dnF | with_reducible apply Wf.gbW | with_reducible apply Wf.cpXf | with_reducible apply Wf.cpYf)) hv (nI i))) rfl dX11_change_3 yk_X11_isPassenger im_X11_isPassenger se_X11_isPassenger ml_X11_385 rfl (co_338 (by repeat (first | with_reducible exact hw | with_reducible exact hwc | with_reducible assumption | with_reducible apply Wf.sI | with_reducible apply Wf.sL | with_reducible apply Wf.cpI | with_reducible apply Wf.cpL | with_reducible apply Wf.cp2 | with_reducible apply Wf.sIs | with_reducible apply Wf.sLs | with_reducible apply Wf.cpU | with_reducible apply Wf.fillI | with_reducible apply Wf.clU | with_reducible apply Wf.dnF | with_reducible apply Wf.gbW | with_reducible apply Wf.cpXf | with_reducible apply Wf.cpYf))) (by decide) hc_X11 (by decide) (by decide) (Nat.le_of_ble_eq_true rfl) ?_
  refine a_if_eq (tgt := 17) dX11_change_6 (by decide) (fun h6 => absurd h6 (by decide)) (fun h6 => ?_)
  refine a_aload_n dX11_change_9 rfl ?_
  refine a_iload_n dX11_change_10 rfl ?_
  refine a_inv (b2 := (0, 0)) (Ct.int (isO_lt hc (by omega)) (m_isCabin (by repeat (first | with_reducible exact hw | with_reducible exact hwc | with_reducible assumption | with_reducible apply Wf.sI | with_reducible apply Wf.sL | with_reducible apply Wf.cpI | with_reducible apply Wf.cpL | with_reducible apply Wf.cp2 | with_reducible apply Wf.sIs | with_reducible apply Wf.sLs | with_reducible apply Wf.cpU | with_reducible apply Wf.fillI | with_reducible apply Wf.clU | with_reducible apply Wf.dnF | with_reducible apply Wf.gbW | with_reducible apply Wf.cpXf | with_reducible apply Wf.cpYf)) hv (nI c))) rfl dX11_change_11 yk_X11_isCabin im_X11_isCabin se_X11_isCabin ml_X11_363 rfl (co_338 (by repeat (first | with_reducible exact hw | with_reducible exact hwc | with_reducible assumption | with_reducible apply Wf.sI | with_reducible apply Wf.sL | with_reducible apply Wf.cpI | with_reducible apply Wf.cpL | with_reducible apply Wf.cp2 | with_reducible apply Wf.sIs | with_reducible apply Wf.sLs | with_reducible apply Wf.cpU | with_reducible apply Wf.fillI | with_reducible apply Wf.clU | with_reducible apply Wf.dnF | with_reducible apply Wf.gbW | with_reducible apply Wf.cpXf | with_reducible apply Wf.cpYf))) (by decide) hc_X11 (by decide) (by decide) (Nat.le_of_ble_eq_true rfl) ?_
  refine a_if_ne (tgt := 21) dX11_change_14 (by decide) (fun h14 => ?_) (fun h14 => absurd h14 (by decide))
  refine a_aload_n dX11_change_21 rfl ?_
  refine a_iload_n dX11_change_22 rfl ?_
  refine a_iconst (0 : Int32) dX11_change_23 (by decide) ?_
  refine a_inv (b2 := (0, 0)) (m_of0 (by repeat (first | with_reducible exact hw | with_reducible exact hwc | with_reducible assumption | with_reducible apply Wf.sI | with_reducible apply Wf.sL | with_reducible apply Wf.cpI | with_reducible apply Wf.cpL | with_reducible apply Wf.cp2 | with_reducible apply Wf.sIs | with_reducible apply Wf.sLs | with_reducible apply Wf.cpU | with_reducible apply Wf.fillI | with_reducible apply Wf.clU | with_reducible apply Wf.dnF | with_reducible apply Wf.gbW | with_reducible apply Wf.cpXf | with_reducible apply Wf.cpYf)) hv hi) rfl dX11_change_24 yk_X11_of im_X11_of se_X11_of ml_X11_294 rfl (co_338 (by repeat (first | with_reducible exact hw | with_reducible exact hwc | with_reducible assumption | with_reducible apply Wf.sI | with_reducible apply Wf.sL | with_reducible apply Wf.cpI | with_reducible apply Wf.cpL | with_reducible apply Wf.cp2 | with_reducible apply Wf.sIs | with_reducible apply Wf.sLs | with_reducible apply Wf.cpU | with_reducible apply Wf.fillI | with_reducible apply Wf.clU | with_reducible apply Wf.dnF | with_reducible apply Wf.gbW | with_reducible apply Wf.cpXf | with_reducible apply Wf.cpYf))) (by decide) hc_X11 (by decide) (by decide) (Nat.le_of_ble_eq_true rfl) ?_
  refine a_iload_n dX11_change_27 rfl ?_
  refine a_icmp_ne (tgt := 35) dX11_change_28 (by decide) (fun h28 => absurd h28 (fun z => z he)) (fun h28 => ?_)
  refine a_iconst (2 : Int32) dX11_change_31 (by decide) ?_
  refine a_goto (tgt := 36) dX11_change_32 (by decide) ?_
  refine a_inv (b2 := (0, 0)) (m_isRefused1 (by repeat (first | with_reducible exact hw | with_reducible exact hwc | with_reducible assumption | with_reducible apply Wf.sI | with_reducible apply Wf.sL | with_reducible apply Wf.cpI | with_reducible apply Wf.cpL | with_reducible apply Wf.cp2 | with_reducible apply Wf.sIs | with_reducible apply Wf.sLs | with_reducible apply Wf.cpU | with_reducible apply Wf.fillI | with_reducible apply Wf.clU | with_reducible apply Wf.dnF | with_reducible apply Wf.gbW | with_reducible apply Wf.cpXf | with_reducible apply Wf.cpYf)) (v := 2) (by decide)) rfl dX11_change_36 yk_X11_isRefused im_X11_isRefused se_X11_isRefused ml_X11_98 rfl (co_338 (by repeat (first | with_reducible exact hw | with_reducible exact hwc | with_reducible assumption | with_reducible apply Wf.sI | with_reducible apply Wf.sL | with_reducible apply Wf.cpI | with_reducible apply Wf.cpL | with_reducible apply Wf.cp2 | with_reducible apply Wf.sIs | with_reducible apply Wf.sLs | with_reducible apply Wf.cpU | with_reducible apply Wf.fillI | with_reducible apply Wf.clU | with_reducible apply Wf.dnF | with_reducible apply Wf.gbW | with_reducible apply Wf.cpXf | with_reducible apply Wf.cpYf))) (by decide) hc_X11 (by decide) (by decide) (Nat.le_of_ble_eq_true rfl) ?_
  refine a_if_eq (tgt := 44) dX11_change_39 (by decide) (fun h39 => absurd h39 (by decide)) (fun h39 => ?_)
  refine a_iconst (0 : Int32) dX11_change_42 (by decide) ?_
  exact a_out rfl rfl (a_ireturn dX11_change_43 rfl rfl)

theorem mp_change (hw : Wf μ) (h : MnV μ q d) (hg : ¬ goD q d) {i c : Nat} (hi : i < dP d) (hc : c < pC q) (hne : ¬ dF d 0 i = nI c) : CV Y_X11_change R_X11_change [.ref 338, .int (nI i), .int (nI c)] μ (fun v V => v = some (.int 0) ∧ MrQ μ 1 3 V) := by
  have hv := h.1
  have hM4 := hv.M4
  have hT4 := hv.T4
  have hP4 := hv.P4
  have hC4 := hv.C4
  have hU4 := hv.U4
  have hw1 : Wf (sI μ 338 0 0) := hw.sI
  have hv1 : MdV (sI μ 338 0 0) q d := hv.th 0
  refine CV.ent yk_X11_change (Nat.le_of_ble_eq_true rfl) ?_
  refine lf (a_aload_n dX11_change_0 rfl) ?_
  refine lf (a_aload_n dX11_change_1 rfl) ?_
  refine lf (a_iload_n dX11_change_2 rfl) ?_
  refine lf (a_inv (b2 := (0, 0)) (Ct.int (isO_lt hi (by omega)) (m_isPassenger (by repeat (first | with_reducible exact hw | with_reducible exact hwc | with_reducible assumption | with_reducible apply Wf.sI | with_reducible apply Wf.sL | with_reducible apply Wf.cpI | with_reducible apply Wf.cpL | with_reducible apply Wf.cp2 | with_reducible apply Wf.sIs | with_reducible apply Wf.sLs | with_reducible apply Wf.cpU | with_reducible apply Wf.fillI | with_reducible apply Wf.clU | with_reducible apply Wf.dnF | with_reducible apply Wf.gbW | with_reducible apply Wf.cpXf | with_reducible apply Wf.cpYf)) hv (nI i))) rfl dX11_change_3 yk_X11_isPassenger im_X11_isPassenger se_X11_isPassenger ml_X11_385 rfl (co_338 (by repeat (first | with_reducible exact hw | with_reducible exact hwc | with_reducible assumption | with_reducible apply Wf.sI | with_reducible apply Wf.sL | with_reducible apply Wf.cpI | with_reducible apply Wf.cpL | with_reducible apply Wf.cp2 | with_reducible apply Wf.sIs | with_reducible apply Wf.sLs | with_reducible apply Wf.cpU | with_reducible apply Wf.fillI | with_reducible apply Wf.clU | with_reducible apply Wf.dnF | with_reducible apply Wf.gbW | with_reducible apply Wf.cpXf | with_reducible apply Wf.cpYf))) (by decide) hc_X11 (by decide) (by decide) (Nat.le_of_ble_eq_true rfl)) ?_
  refine lf2 (a_if_eq (tgt := 17) dX11_change_6 (by decide)) (fun h6 => absurd h6 (by decide)) (fun h6 => ?_)
  refine lf (a_aload_n dX11_change_9 rfl) ?_
  refine lf (a_iload_n dX11_change_10 rfl) ?_
  refine lf (a_inv (b2 := (0, 0)) (Ct.int (isO_lt hc (by omega)) (m_isCabin (by repeat (first | with_reducible exact hw | with_reducible exact hwc | with_reducible assumption | with_reducible apply Wf.sI | with_reducible apply Wf.sL | with_reducible apply Wf.cpI | with_reducible apply Wf.cpL | with_reducible apply Wf.cp2 | with_reducible apply Wf.sIs | with_reducible apply Wf.sLs | with_reducible apply Wf.cpU | with_reducible apply Wf.fillI | with_reducible apply Wf.clU | with_reducible apply Wf.dnF | with_reducible apply Wf.gbW | with_reducible apply Wf.cpXf | with_reducible apply Wf.cpYf)) hv (nI c))) rfl dX11_change_11 yk_X11_isCabin im_X11_isCabin se_X11_isCabin ml_X11_363 rfl (co_338 (by repeat (first | with_reducible exact hw | with_reducible exact hwc | with_reducible assumption | with_reducible apply Wf.sI | with_reducible apply Wf.sL | with_reducible apply Wf.cpI | with_reducible apply Wf.cpL | with_reducible apply Wf.cp2 | with_reducible apply Wf.sIs | with_reducible apply Wf.sLs | with_reducible apply Wf.cpU | with_reducible apply Wf.fillI | with_reducible apply Wf.clU | with_reducible apply Wf.dnF | with_reducible apply Wf.gbW | with_reducible apply Wf.cpXf | with_reducible apply Wf.cpYf))) (by decide) hc_X11 (by decide) (by decide) (Nat.le_of_ble_eq_true rfl)) ?_
  refine lfn (a_if_ne (tgt := 21) dX11_change_14 (by decide)) (fun h14 => ?_) (fun h14 => absurd h14 (by decide))
  refine lf (a_aload_n dX11_change_21 rfl) ?_
  refine lf (a_iload_n dX11_change_22 rfl) ?_
  refine lf (a_iconst (0 : Int32) dX11_change_23 (by decide)) ?_
  refine lf (a_inv (b2 := (0, 0)) (m_of0 (by repeat (first | with_reducible exact hw | with_reducible exact hwc | with_reducible assumption | with_reducible apply Wf.sI | with_reducible apply Wf.sL | with_reducible apply Wf.cpI | with_reducible apply Wf.cpL | with_reducible apply Wf.cp2 | with_reducible apply Wf.sIs | with_reducible apply Wf.sLs | with_reducible apply Wf.cpU | with_reducible apply Wf.fillI | with_reducible apply Wf.clU | with_reducible apply Wf.dnF | with_reducible apply Wf.gbW | with_reducible apply Wf.cpXf | with_reducible apply Wf.cpYf)) hv hi) rfl dX11_change_24 yk_X11_of im_X11_of se_X11_of ml_X11_294 rfl (co_338 (by repeat (first | with_reducible exact hw | with_reducible exact hwc | with_reducible assumption | with_reducible apply Wf.sI | with_reducible apply Wf.sL | with_reducible apply Wf.cpI | with_reducible apply Wf.cpL | with_reducible apply Wf.cp2 | with_reducible apply Wf.sIs | with_reducible apply Wf.sLs | with_reducible apply Wf.cpU | with_reducible apply Wf.fillI | with_reducible apply Wf.clU | with_reducible apply Wf.dnF | with_reducible apply Wf.gbW | with_reducible apply Wf.cpXf | with_reducible apply Wf.cpYf))) (by decide) hc_X11 (by decide) (by decide) (Nat.le_of_ble_eq_true rfl)) ?_
  refine lf (a_iload_n dX11_change_27 rfl) ?_
  refine lfn (a_icmp_ne (tgt := 35) dX11_change_28 (by decide)) (fun h28 => ?_) (fun h28 => absurd h28 hne)
  refine lf (a_iconst (0 : Int32) dX11_change_35 (by decide)) ?_
  refine lf (a_inv (b2 := (0, 0)) (m_isRefused0 (by repeat (first | with_reducible exact hw | with_reducible exact hwc | with_reducible assumption | with_reducible apply Wf.sI | with_reducible apply Wf.sL | with_reducible apply Wf.cpI | with_reducible apply Wf.cpL | with_reducible apply Wf.cp2 | with_reducible apply Wf.sIs | with_reducible apply Wf.sLs | with_reducible apply Wf.cpU | with_reducible apply Wf.fillI | with_reducible apply Wf.clU | with_reducible apply Wf.dnF | with_reducible apply Wf.gbW | with_reducible apply Wf.cpXf | with_reducible apply Wf.cpYf))) rfl dX11_change_36 yk_X11_isRefused im_X11_isRefused se_X11_isRefused ml_X11_98 rfl (co_338 (by repeat (first | with_reducible exact hw | with_reducible exact hwc | with_reducible assumption | with_reducible apply Wf.sI | with_reducible apply Wf.sL | with_reducible apply Wf.cpI | with_reducible apply Wf.cpL | with_reducible apply Wf.cp2 | with_reducible apply Wf.sIs | with_reducible apply Wf.sLs | with_reducible apply Wf.cpU | with_reducible apply Wf.fillI | with_reducible apply Wf.clU | with_reducible apply Wf.dnF | with_reducible apply Wf.gbW | with_reducible apply Wf.cpXf | with_reducible apply Wf.cpYf))) (by decide) hc_X11 (by decide) (by decide) (Nat.le_of_ble_eq_true rfl)) ?_
  refine lf2 (a_if_eq (tgt := 44) dX11_change_39 (by decide)) (fun h39 => ?_) (fun h39 => absurd h39 (fun z => z rfl))
  refine lf (a_aload_n dX11_change_44 rfl) ?_
  refine lf (a_aload_n dX11_change_45 rfl) ?_
  refine lf (a_inv (b2 := (0, 0)) (Ct.int (ngo_in hg) (m_isGoing (by repeat (first | with_reducible exact hw | with_reducible exact hwc | with_reducible assumption | with_reducible apply Wf.sI | with_reducible apply Wf.sL | with_reducible apply Wf.cpI | with_reducible apply Wf.cpL | with_reducible apply Wf.cp2 | with_reducible apply Wf.sIs | with_reducible apply Wf.sLs | with_reducible apply Wf.cpU | with_reducible apply Wf.fillI | with_reducible apply Wf.clU | with_reducible apply Wf.dnF | with_reducible apply Wf.gbW | with_reducible apply Wf.cpXf | with_reducible apply Wf.cpYf)) (h.1.th 0))) rfl dX11_change_46 yk_X11_isGoing im_X11_isGoing se_X11_isGoing ml_X11_401 rfl (co_338 (by repeat (first | with_reducible exact hw | with_reducible exact hwc | with_reducible assumption | with_reducible apply Wf.sI | with_reducible apply Wf.sL | with_reducible apply Wf.cpI | with_reducible apply Wf.cpL | with_reducible apply Wf.cp2 | with_reducible apply Wf.sIs | with_reducible apply Wf.sLs | with_reducible apply Wf.cpU | with_reducible apply Wf.fillI | with_reducible apply Wf.clU | with_reducible apply Wf.dnF | with_reducible apply Wf.gbW | with_reducible apply Wf.cpXf | with_reducible apply Wf.cpYf))) (by decide) hc_X11 (by decide) (by decide) (Nat.le_of_ble_eq_true rfl)) ?_
  refine lfn (a_if_ne (tgt := 56) dX11_change_49 (by decide)) (fun h49 => absurd h49 (fun z => z rfl)) (fun h49 => ?_)
  refine lf (a_iconst (1 : Int32) dX11_change_52 (by decide)) ?_
  refine lf (a_goto (tgt := 70) dX11_change_53 (by decide)) ?_
  refine lf (a_iconst (3 : Int32) dX11_change_70 (by decide)) ?_
  refine lf (a_inv (b2 := (0, 0)) (m_refuses1 (by repeat (first | with_reducible exact hw | with_reducible exact hwc | with_reducible assumption | with_reducible apply Wf.sI | with_reducible apply Wf.sL | with_reducible apply Wf.cpI | with_reducible apply Wf.cpL | with_reducible apply Wf.cp2 | with_reducible apply Wf.sIs | with_reducible apply Wf.sLs | with_reducible apply Wf.cpU | with_reducible apply Wf.fillI | with_reducible apply Wf.clU | with_reducible apply Wf.dnF | with_reducible apply Wf.gbW | with_reducible apply Wf.cpXf | with_reducible apply Wf.cpYf)) (y := 1) (w := 3) (by decide) (by decide)) rfl dX11_change_71 yk_X11_refuses im_X11_refuses se_X11_refuses ml_X11_407 rfl (co_338 (by repeat (first | with_reducible exact hw | with_reducible exact hwc | with_reducible assumption | with_reducible apply Wf.sI | with_reducible apply Wf.sL | with_reducible apply Wf.cpI | with_reducible apply Wf.cpL | with_reducible apply Wf.cp2 | with_reducible apply Wf.sIs | with_reducible apply Wf.sLs | with_reducible apply Wf.cpU | with_reducible apply Wf.fillI | with_reducible apply Wf.clU | with_reducible apply Wf.dnF | with_reducible apply Wf.gbW | with_reducible apply Wf.cpXf | with_reducible apply Wf.cpYf))) (by decide) hc_X11 (by decide) (by decide) (Nat.le_of_ble_eq_true rfl)) ?_
  refine lf2 (a_if_eq (tgt := 79) dX11_change_74 (by decide)) (fun h74 => absurd h74 (by decide)) (fun h74 => ?_)
  refine lf (a_iconst (0 : Int32) dX11_change_77 (by decide)) ?_
  refine ⟨_, _, (a_ireturn dX11_change_78 rfl rfl), ?_⟩
  exact ⟨_, rfl, rfl, MrQ.of (MtQ.of hw 0) 1 3⟩

theorem ms_change (hw : Wf μ) (h : MnV μ q d) (hq0 : GdP q) (hd0 : GdD q d) (hgo : goD q d) {i c : Nat} (hi : i < dP d) (hc : c < pC q) (hne : ¬ dF d 0 i = nI c) (hfr : pF q 0 c - paD d (nI c) < 1) : CV Y_X11_change R_X11_change [.ref 338, .int (nI i), .int (nI c)] μ (fun v V => v = some (.int 0) ∧ MrQ μ 9 3 V) := by
  have hv := h.1
  have hM4 := hv.M4
  have hT4 := hv.T4
  have hP4 := hv.P4
  have hC4 := hv.C4
  have hU4 := hv.U4
  have hw1 : Wf (sI μ 338 0 0) := hw.sI
  have hv1 : MdV (sI μ 338 0 0) q d := hv.th 0
  refine CV.ent yk_X11_change (Nat.le_of_ble_eq_true rfl) ?_
  refine lf (a_aload_n dX11_change_0 rfl) ?_
  refine lf (a_aload_n dX11_change_1 rfl) ?_
  refine lf (a_iload_n dX11_change_2 rfl) ?_
  refine lf (a_inv (b2 := (0, 0)) (Ct.int (isO_lt hi (by omega)) (m_isPassenger (by repeat (first | with_reducible exact hw | with_reducible exact hwc | with_reducible assumption | with_reducible apply Wf.sI | with_reducible apply Wf.sL | with_reducible apply Wf.cpI | with_reducible apply Wf.cpL | with_reducible apply Wf.cp2 | with_reducible apply Wf.sIs | with_reducible apply Wf.sLs | with_reducible apply Wf.cpU | with_reducible apply Wf.fillI | with_reducible apply Wf.clU | with_reducible apply Wf.dnF | with_reducible apply Wf.gbW | with_reducible apply Wf.cpXf | with_reducible apply Wf.cpYf)) hv (nI i))) rfl dX11_change_3 yk_X11_isPassenger im_X11_isPassenger se_X11_isPassenger ml_X11_385 rfl (co_338 (by repeat (first | with_reducible exact hw | with_reducible exact hwc | with_reducible assumption | with_reducible apply Wf.sI | with_reducible apply Wf.sL | with_reducible apply Wf.cpI | with_reducible apply Wf.cpL | with_reducible apply Wf.cp2 | with_reducible apply Wf.sIs | with_reducible apply Wf.sLs | with_reducible apply Wf.cpU | with_reducible apply Wf.fillI | with_reducible apply Wf.clU | with_reducible apply Wf.dnF | with_reducible apply Wf.gbW | with_reducible apply Wf.cpXf | with_reducible apply Wf.cpYf))) (by decide) hc_X11 (by decide) (by decide) (Nat.le_of_ble_eq_true rfl)) ?_
  refine lf2 (a_if_eq (tgt := 17) dX11_change_6 (by decide)) (fun h6 => absurd h6 (by decide)) (fun h6 => ?_)
  refine lf (a_aload_n dX11_change_9 rfl) ?_
  refine lf (a_iload_n dX11_change_10 rfl) ?_
  refine lf (a_inv (b2 := (0, 0)) (Ct.int (isO_lt hc (by omega)) (m_isCabin (by repeat (first | with_reducible exact hw | with_reducible exact hwc | with_reducible assumption | with_reducible apply Wf.sI | with_reducible apply Wf.sL | with_reducible apply Wf.cpI | with_reducible apply Wf.cpL | with_reducible apply Wf.cp2 | with_reducible apply Wf.sIs | with_reducible apply Wf.sLs | with_reducible apply Wf.cpU | with_reducible apply Wf.fillI | with_reducible apply Wf.clU | with_reducible apply Wf.dnF | with_reducible apply Wf.gbW | with_reducible apply Wf.cpXf | with_reducible apply Wf.cpYf)) hv (nI c))) rfl dX11_change_11 yk_X11_isCabin im_X11_isCabin se_X11_isCabin ml_X11_363 rfl (co_338 (by repeat (first | with_reducible exact hw | with_reducible exact hwc | with_reducible assumption | with_reducible apply Wf.sI | with_reducible apply Wf.sL | with_reducible apply Wf.cpI | with_reducible apply Wf.cpL | with_reducible apply Wf.cp2 | with_reducible apply Wf.sIs | with_reducible apply Wf.sLs | with_reducible apply Wf.cpU | with_reducible apply Wf.fillI | with_reducible apply Wf.clU | with_reducible apply Wf.dnF | with_reducible apply Wf.gbW | with_reducible apply Wf.cpXf | with_reducible apply Wf.cpYf))) (by decide) hc_X11 (by decide) (by decide) (Nat.le_of_ble_eq_true rfl)) ?_
  refine lfn (a_if_ne (tgt := 21) dX11_change_14 (by decide)) (fun h14 => ?_) (fun h14 => absurd h14 (by decide))
  refine lf (a_aload_n dX11_change_21 rfl) ?_
  refine lf (a_iload_n dX11_change_22 rfl) ?_
  refine lf (a_iconst (0 : Int32) dX11_change_23 (by decide)) ?_
  refine lf (a_inv (b2 := (0, 0)) (m_of0 (by repeat (first | with_reducible exact hw | with_reducible exact hwc | with_reducible assumption | with_reducible apply Wf.sI | with_reducible apply Wf.sL | with_reducible apply Wf.cpI | with_reducible apply Wf.cpL | with_reducible apply Wf.cp2 | with_reducible apply Wf.sIs | with_reducible apply Wf.sLs | with_reducible apply Wf.cpU | with_reducible apply Wf.fillI | with_reducible apply Wf.clU | with_reducible apply Wf.dnF | with_reducible apply Wf.gbW | with_reducible apply Wf.cpXf | with_reducible apply Wf.cpYf)) hv hi) rfl dX11_change_24 yk_X11_of im_X11_of se_X11_of ml_X11_294 rfl (co_338 (by repeat (first | with_reducible exact hw | with_reducible exact hwc | with_reducible assumption | with_reducible apply Wf.sI | with_reducible apply Wf.sL | with_reducible apply Wf.cpI | with_reducible apply Wf.cpL | with_reducible apply Wf.cp2 | with_reducible apply Wf.sIs | with_reducible apply Wf.sLs | with_reducible apply Wf.cpU | with_reducible apply Wf.fillI | with_reducible apply Wf.clU | with_reducible apply Wf.dnF | with_reducible apply Wf.gbW | with_reducible apply Wf.cpXf | with_reducible apply Wf.cpYf))) (by decide) hc_X11 (by decide) (by decide) (Nat.le_of_ble_eq_true rfl)) ?_
  refine lf (a_iload_n dX11_change_27 rfl) ?_
  refine lfn (a_icmp_ne (tgt := 35) dX11_change_28 (by decide)) (fun h28 => ?_) (fun h28 => absurd h28 hne)
  refine lf (a_iconst (0 : Int32) dX11_change_35 (by decide)) ?_
  refine lf (a_inv (b2 := (0, 0)) (m_isRefused0 (by repeat (first | with_reducible exact hw | with_reducible exact hwc | with_reducible assumption | with_reducible apply Wf.sI | with_reducible apply Wf.sL | with_reducible apply Wf.cpI | with_reducible apply Wf.cpL | with_reducible apply Wf.cp2 | with_reducible apply Wf.sIs | with_reducible apply Wf.sLs | with_reducible apply Wf.cpU | with_reducible apply Wf.fillI | with_reducible apply Wf.clU | with_reducible apply Wf.dnF | with_reducible apply Wf.gbW | with_reducible apply Wf.cpXf | with_reducible apply Wf.cpYf))) rfl dX11_change_36 yk_X11_isRefused im_X11_isRefused se_X11_isRefused ml_X11_98 rfl (co_338 (by repeat (first | with_reducible exact hw | with_reducible exact hwc | with_reducible assumption | with_reducible apply Wf.sI | with_reducible apply Wf.sL | with_reducible apply Wf.cpI | with_reducible apply Wf.cpL | with_reducible apply Wf.cp2 | with_reducible apply Wf.sIs | with_reducible apply Wf.sLs | with_reducible apply Wf.cpU | with_reducible apply Wf.fillI | with_reducible apply Wf.clU | with_reducible apply Wf.dnF | with_reducible apply Wf.gbW | with_reducible apply Wf.cpXf | with_reducible apply Wf.cpYf))) (by decide) hc_X11 (by decide) (by decide) (Nat.le_of_ble_eq_true rfl)) ?_
  refine lf2 (a_if_eq (tgt := 44) dX11_change_39 (by decide)) (fun h39 => ?_) (fun h39 => absurd h39 (fun z => z rfl))
  refine lf (a_aload_n dX11_change_44 rfl) ?_
  refine lf (a_aload_n dX11_change_45 rfl) ?_
  refine lf (a_inv (b2 := (0, 0)) (Ct.int (go_in hgo) (m_isGoing (by repeat (first | with_reducible exact hw | with_reducible exact hwc | with_reducible assumption | with_reducible apply Wf.sI | with_reducible apply Wf.sL | with_reducible apply Wf.cpI | with_reducible apply Wf.cpL | with_reducible apply Wf.cp2 | with_reducible apply Wf.sIs | with_reducible apply Wf.sLs | with_reducible apply Wf.cpU | with_reducible apply Wf.fillI | with_reducible apply Wf.clU | with_reducible apply Wf.dnF | with_reducible apply Wf.gbW | with_reducible apply Wf.cpXf | with_reducible apply Wf.cpYf)) (h.1.th 0))) rfl dX11_change_46 yk_X11_isGoing im_X11_isGoing se_X11_isGoing ml_X11_401 rfl (co_338 (by repeat (first | with_reducible exact hw | with_reducible exact hwc | with_reducible assumption | with_reducible apply Wf.sI | with_reducible apply Wf.sL | with_reducible apply Wf.cpI | with_reducible apply Wf.cpL | with_reducible apply Wf.cp2 | with_reducible apply Wf.sIs | with_reducible apply Wf.sLs | with_reducible apply Wf.cpU | with_reducible apply Wf.fillI | with_reducible apply Wf.clU | with_reducible apply Wf.dnF | with_reducible apply Wf.gbW | with_reducible apply Wf.cpXf | with_reducible apply Wf.cpYf))) (by decide) hc_X11 (by decide) (by decide) (Nat.le_of_ble_eq_true rfl)) ?_
  refine lfn (a_if_ne (tgt := 56) dX11_change_49 (by decide)) (fun h49 => ?_) (fun h49 => absurd h49 (by decide))
  refine lf (a_aload_n dX11_change_56 rfl) ?_
  refine lf (a_iload_n dX11_change_57 rfl) ?_
  refine lf (a_inv (b2 := (0, 0)) (Ct.int (if_neg (fun z => (seat_iff hq0 hd0 hc).mp z hfr)) (m_hasSeat (by repeat (first | with_reducible exact hw | with_reducible exact hwc | with_reducible assumption | with_reducible apply Wf.sI | with_reducible apply Wf.sL | with_reducible apply Wf.cpI | with_reducible apply Wf.cpL | with_reducible apply Wf.cp2 | with_reducible apply Wf.sIs | with_reducible apply Wf.sLs | with_reducible apply Wf.cpU | with_reducible apply Wf.fillI | with_reducible apply Wf.clU | with_reducible apply Wf.dnF | with_reducible apply Wf.gbW | with_reducible apply Wf.cpXf | with_reducible apply Wf.cpYf)) (h.1.th 0) hc)) rfl dX11_change_58 yk_X11_hasSeat im_X11_hasSeat se_X11_hasSeat ml_X11_404 rfl (co_338 (by repeat (first | with_reducible exact hw | with_reducible exact hwc | with_reducible assumption | with_reducible apply Wf.sI | with_reducible apply Wf.sL | with_reducible apply Wf.cpI | with_reducible apply Wf.cpL | with_reducible apply Wf.cp2 | with_reducible apply Wf.sIs | with_reducible apply Wf.sLs | with_reducible apply Wf.cpU | with_reducible apply Wf.fillI | with_reducible apply Wf.clU | with_reducible apply Wf.dnF | with_reducible apply Wf.gbW | with_reducible apply Wf.cpXf | with_reducible apply Wf.cpYf))) (by decide) hc_X11 (by decide) (by decide) (Nat.le_of_ble_eq_true rfl)) ?_
  refine lf2 (a_if_eq (tgt := 68) dX11_change_61 (by decide)) (fun h61 => ?_) (fun h61 => absurd h61 (fun z => z rfl))
  refine lf (a_bipush (9 : Int32) dX11_change_68 (by decide)) ?_
  refine lf (a_iconst (3 : Int32) dX11_change_70 (by decide)) ?_
  refine lf (a_inv (b2 := (0, 0)) (m_refuses1 (by repeat (first | with_reducible exact hw | with_reducible exact hwc | with_reducible assumption | with_reducible apply Wf.sI | with_reducible apply Wf.sL | with_reducible apply Wf.cpI | with_reducible apply Wf.cpL | with_reducible apply Wf.cp2 | with_reducible apply Wf.sIs | with_reducible apply Wf.sLs | with_reducible apply Wf.cpU | with_reducible apply Wf.fillI | with_reducible apply Wf.clU | with_reducible apply Wf.dnF | with_reducible apply Wf.gbW | with_reducible apply Wf.cpXf | with_reducible apply Wf.cpYf)) (y := 9) (w := 3) (by decide) (by decide)) rfl dX11_change_71 yk_X11_refuses im_X11_refuses se_X11_refuses ml_X11_407 rfl (co_338 (by repeat (first | with_reducible exact hw | with_reducible exact hwc | with_reducible assumption | with_reducible apply Wf.sI | with_reducible apply Wf.sL | with_reducible apply Wf.cpI | with_reducible apply Wf.cpL | with_reducible apply Wf.cp2 | with_reducible apply Wf.sIs | with_reducible apply Wf.sLs | with_reducible apply Wf.cpU | with_reducible apply Wf.fillI | with_reducible apply Wf.clU | with_reducible apply Wf.dnF | with_reducible apply Wf.gbW | with_reducible apply Wf.cpXf | with_reducible apply Wf.cpYf))) (by decide) hc_X11 (by decide) (by decide) (Nat.le_of_ble_eq_true rfl)) ?_
  refine lf2 (a_if_eq (tgt := 79) dX11_change_74 (by decide)) (fun h74 => absurd h74 (by decide)) (fun h74 => ?_)
  refine lf (a_iconst (0 : Int32) dX11_change_77 (by decide)) ?_
  refine ⟨_, _, (a_ireturn dX11_change_78 rfl rfl), ?_⟩
  exact ⟨_, rfl, rfl, MrQ.of (MtQ.of hw 0) 9 3⟩
theorem cell_F (d : FDt) (a i : Nat) (v : Int32) (b j : Nat) : dF (cellD d a i v) b j = if b = a ∧ j = i then v else dF d b j := rfl
theorem chg_fin {H : Hst} (hR : RmQ μ W q d H) (h0 : dF d 6 0 = 0) {i : Nat} (hi : i < dP d) {c : Int32} (hZ : Z = sI (sI W 344 (5 + 4 * i + 0) c) 344 (5 + 4 * i + 2) (-1)) : MaQ μ Z q (cellD (cellD d 0 i c) 2 i (-1)) H := by
  have hO : Out s344 W Z := by
    rw [hZ]
    exact ((Out.rfl' hR.1).sI (S := s344) rfl _ _).sI (S := s344) rfl _ _
  have hf := hR.2.1.fit
  have hr := hR.2.1.rx
  have hP := hf.1.2.2.2.1
  have e : ∀ x, gI Z 344 x = if x = 5 + 4 * i + 2 then -1 else if x = 5 + 4 * i + 0 then c else gI W 344 x := fun x => by
    have t : ∀ (X : Wd) (k : Nat) (u : Int32), gI (sI X 344 k u) 344 x = if x = k then u else gI X 344 x := fun X k u => by
      rw [gI_sI]
      by_cases z : x = k
      · rw [if_pos z, if_pos ⟨rfl, z⟩]
      · rw [if_neg z, if_neg (fun y => z y.2)]
    rw [hZ, t, t]
  clear hZ
  refine MaQ.fin hR hO ⟨hf.1, by rw [cell_F, if_neg (by omega), cell_F, if_neg (by omega)]; exact hf.2.1, hf.2.2⟩ (hr.pas hf h0 rfl (fun a j ha => by rw [cell_F, if_neg (by omega), cell_F, if_neg (by omega)]) (fun x hx => ?_) (by rw [e, if_neg (by omega), if_neg (by omega)]; exact hr.2.1.2.2.1) (fun j (hj : j < dP d) => ?_)) rfl
  · rw [e, if_neg (by omega), if_neg (by omega)]
  · have g := hr.2.1.2.2.2.2.1 j hj
    have g3 := hr.got h0 hj
    by_cases hj2 : j = i
    · subst hj2
      have a0 : dF (cellD (cellD d 0 j c) 2 j (-1)) 0 j = c := (cell_ne _ (-1) (by omega)).trans (cell_eq d 0 j c)
      have a1 : dF (cellD (cellD d 0 j c) 2 j (-1)) 1 j = dF d 1 j := (cell_ne _ (-1) (by omega)).trans (cell_ne d c (by omega))
      have a2 : dF (cellD (cellD d 0 j c) 2 j (-1)) 2 j = -1 := cell_eq _ 2 j (-1)
      rw [a0, a1, a2, e, e, e, e]
      refine ⟨?_, ?_, ?_, ?_⟩
      · rw [if_neg (by omega), if_pos rfl]
      · rw [if_neg (by omega), if_neg (by omega)]; exact g.2.1
      · rw [if_pos rfl]
      · rw [if_neg (by omega), if_neg (by omega)]; exact g3
    · have a : ∀ x, dF (cellD (cellD d 0 i c) 2 i (-1)) x j = dF d x j := fun x => (cell_ne _ (-1) (by omega)).trans (cell_ne d c (by omega))
      rw [a, a, a, e, e, e, e]
      refine ⟨?_, ?_, ?_, ?_⟩
      · rw [if_neg (by omega), if_neg (by omega)]; exact g.1
      · rw [if_neg (by omega), if_neg (by omega)]; exact g.2.1
      · rw [if_neg (by omega), if_neg (by omega)]; exact g.2.2
      · rw [if_neg (by omega), if_neg (by omega)]; exact g3

theorem v_change (hw : Wf μ) (h : MnV μ q d) {H : Hst} (hp : MpV μ q H) (hq0 : GdP q) (hd0 : GdD q d) (hgo : goD q d) {i c : Nat} (hi : i < dP d) (hc : c < pC q) (hne : ¬ dF d 0 i = nI c) (hfr : ¬ pF q 0 c - paD d (nI c) < 1) : CV Y_X11_change R_X11_change [.ref 338, .int (nI i), .int (nI c)] μ (fun v V => v = some (.int (dF d 0 i)) ∧ MaQ μ V q (cellD (cellD d 0 i (nI c)) 2 i (-1)) (pushH H d)) := by
  have hv := h.1
  have hM4 := hv.M4
  have hT4 := hv.T4
  have hP4 := hv.P4
  have hC4 := hv.C4
  have hU4 := hv.U4
  have hw1 : Wf (sI μ 338 0 0) := hw.sI
  have hv1 : MdV (sI μ 338 0 0) q d := hv.th 0
  have h0 := (go_s0 hgo).1
  refine CV.ent yk_X11_change (Nat.le_of_ble_eq_true rfl) ?_
  refine lf (a_aload_n dX11_change_0 rfl) ?_
  refine lf (a_aload_n dX11_change_1 rfl) ?_
  refine lf (a_iload_n dX11_change_2 rfl) ?_
  refine lf (a_inv (b2 := (0, 0)) (Ct.int (isO_lt hi (by omega)) (m_isPassenger (by repeat (first | with_reducible exact hw | with_reducible exact hwc | with_reducible assumption | with_reducible apply Wf.sI | with_reducible apply Wf.sL | with_reducible apply Wf.cpI | with_reducible apply Wf.cpL | with_reducible apply Wf.cp2 | with_reducible apply Wf.sIs | with_reducible apply Wf.sLs | with_reducible apply Wf.cpU | with_reducible apply Wf.fillI | with_reducible apply Wf.clU | with_reducible apply Wf.dnF | with_reducible apply Wf.gbW | with_reducible apply Wf.cpXf | with_reducible apply Wf.cpYf)) hv (nI i))) rfl dX11_change_3 yk_X11_isPassenger im_X11_isPassenger se_X11_isPassenger ml_X11_385 rfl (co_338 (by repeat (first | with_reducible exact hw | with_reducible exact hwc | with_reducible assumption | with_reducible apply Wf.sI | with_reducible apply Wf.sL | with_reducible apply Wf.cpI | with_reducible apply Wf.cpL | with_reducible apply Wf.cp2 | with_reducible apply Wf.sIs | with_reducible apply Wf.sLs | with_reducible apply Wf.cpU | with_reducible apply Wf.fillI | with_reducible apply Wf.clU | with_reducible apply Wf.dnF | with_reducible apply Wf.gbW | with_reducible apply Wf.cpXf | with_reducible apply Wf.cpYf))) (by decide) hc_X11 (by decide) (by decide) (Nat.le_of_ble_eq_true rfl)) ?_
  refine lf2 (a_if_eq (tgt := 17) dX11_change_6 (by decide)) (fun h6 => absurd h6 (by decide)) (fun h6 => ?_)
  refine lf (a_aload_n dX11_change_9 rfl) ?_
  refine lf (a_iload_n dX11_change_10 rfl) ?_
  refine lf (a_inv (b2 := (0, 0)) (Ct.int (isO_lt hc (by omega)) (m_isCabin (by repeat (first | with_reducible exact hw | with_reducible exact hwc | with_reducible assumption | with_reducible apply Wf.sI | with_reducible apply Wf.sL | with_reducible apply Wf.cpI | with_reducible apply Wf.cpL | with_reducible apply Wf.cp2 | with_reducible apply Wf.sIs | with_reducible apply Wf.sLs | with_reducible apply Wf.cpU | with_reducible apply Wf.fillI | with_reducible apply Wf.clU | with_reducible apply Wf.dnF | with_reducible apply Wf.gbW | with_reducible apply Wf.cpXf | with_reducible apply Wf.cpYf)) hv (nI c))) rfl dX11_change_11 yk_X11_isCabin im_X11_isCabin se_X11_isCabin ml_X11_363 rfl (co_338 (by repeat (first | with_reducible exact hw | with_reducible exact hwc | with_reducible assumption | with_reducible apply Wf.sI | with_reducible apply Wf.sL | with_reducible apply Wf.cpI | with_reducible apply Wf.cpL | with_reducible apply Wf.cp2 | with_reducible apply Wf.sIs | with_reducible apply Wf.sLs | with_reducible apply Wf.cpU | with_reducible apply Wf.fillI | with_reducible apply Wf.clU | with_reducible apply Wf.dnF | with_reducible apply Wf.gbW | with_reducible apply Wf.cpXf | with_reducible apply Wf.cpYf))) (by decide) hc_X11 (by decide) (by decide) (Nat.le_of_ble_eq_true rfl)) ?_
  refine lfn (a_if_ne (tgt := 21) dX11_change_14 (by decide)) (fun h14 => ?_) (fun h14 => absurd h14 (by decide))
  refine lf (a_aload_n dX11_change_21 rfl) ?_
  refine lf (a_iload_n dX11_change_22 rfl) ?_
  refine lf (a_iconst (0 : Int32) dX11_change_23 (by decide)) ?_
  refine lf (a_inv (b2 := (0, 0)) (m_of0 (by repeat (first | with_reducible exact hw | with_reducible exact hwc | with_reducible assumption | with_reducible apply Wf.sI | with_reducible apply Wf.sL | with_reducible apply Wf.cpI | with_reducible apply Wf.cpL | with_reducible apply Wf.cp2 | with_reducible apply Wf.sIs | with_reducible apply Wf.sLs | with_reducible apply Wf.cpU | with_reducible apply Wf.fillI | with_reducible apply Wf.clU | with_reducible apply Wf.dnF | with_reducible apply Wf.gbW | with_reducible apply Wf.cpXf | with_reducible apply Wf.cpYf)) hv hi) rfl dX11_change_24 yk_X11_of im_X11_of se_X11_of ml_X11_294 rfl (co_338 (by repeat (first | with_reducible exact hw | with_reducible exact hwc | with_reducible assumption | with_reducible apply Wf.sI | with_reducible apply Wf.sL | with_reducible apply Wf.cpI | with_reducible apply Wf.cpL | with_reducible apply Wf.cp2 | with_reducible apply Wf.sIs | with_reducible apply Wf.sLs | with_reducible apply Wf.cpU | with_reducible apply Wf.fillI | with_reducible apply Wf.clU | with_reducible apply Wf.dnF | with_reducible apply Wf.gbW | with_reducible apply Wf.cpXf | with_reducible apply Wf.cpYf))) (by decide) hc_X11 (by decide) (by decide) (Nat.le_of_ble_eq_true rfl)) ?_
  refine lf (a_iload_n dX11_change_27 rfl) ?_
  refine lfn (a_icmp_ne (tgt := 35) dX11_change_28 (by decide)) (fun h28 => ?_) (fun h28 => absurd h28 hne)
  refine lf (a_iconst (0 : Int32) dX11_change_35 (by decide)) ?_
  refine lf (a_inv (b2 := (0, 0)) (m_isRefused0 (by repeat (first | with_reducible exact hw | with_reducible exact hwc | with_reducible assumption | with_reducible apply Wf.sI | with_reducible apply Wf.sL | with_reducible apply Wf.cpI | with_reducible apply Wf.cpL | with_reducible apply Wf.cp2 | with_reducible apply Wf.sIs | with_reducible apply Wf.sLs | with_reducible apply Wf.cpU | with_reducible apply Wf.fillI | with_reducible apply Wf.clU | with_reducible apply Wf.dnF | with_reducible apply Wf.gbW | with_reducible apply Wf.cpXf | with_reducible apply Wf.cpYf))) rfl dX11_change_36 yk_X11_isRefused im_X11_isRefused se_X11_isRefused ml_X11_98 rfl (co_338 (by repeat (first | with_reducible exact hw | with_reducible exact hwc | with_reducible assumption | with_reducible apply Wf.sI | with_reducible apply Wf.sL | with_reducible apply Wf.cpI | with_reducible apply Wf.cpL | with_reducible apply Wf.cp2 | with_reducible apply Wf.sIs | with_reducible apply Wf.sLs | with_reducible apply Wf.cpU | with_reducible apply Wf.fillI | with_reducible apply Wf.clU | with_reducible apply Wf.dnF | with_reducible apply Wf.gbW | with_reducible apply Wf.cpXf | with_reducible apply Wf.cpYf))) (by decide) hc_X11 (by decide) (by decide) (Nat.le_of_ble_eq_true rfl)) ?_
  refine lf2 (a_if_eq (tgt := 44) dX11_change_39 (by decide)) (fun h39 => ?_) (fun h39 => absurd h39 (fun z => z rfl))
  refine lf (a_aload_n dX11_change_44 rfl) ?_
  refine lf (a_aload_n dX11_change_45 rfl) ?_
  refine lf (a_inv (b2 := (0, 0)) (Ct.int (go_in hgo) (m_isGoing (by repeat (first | with_reducible exact hw | with_reducible exact hwc | with_reducible assumption | with_reducible apply Wf.sI | with_reducible apply Wf.sL | with_reducible apply Wf.cpI | with_reducible apply Wf.cpL | with_reducible apply Wf.cp2 | with_reducible apply Wf.sIs | with_reducible apply Wf.sLs | with_reducible apply Wf.cpU | with_reducible apply Wf.fillI | with_reducible apply Wf.clU | with_reducible apply Wf.dnF | with_reducible apply Wf.gbW | with_reducible apply Wf.cpXf | with_reducible apply Wf.cpYf)) (h.1.th 0))) rfl dX11_change_46 yk_X11_isGoing im_X11_isGoing se_X11_isGoing ml_X11_401 rfl (co_338 (by repeat (first | with_reducible exact hw | with_reducible exact hwc | with_reducible assumption | with_reducible apply Wf.sI | with_reducible apply Wf.sL | with_reducible apply Wf.cpI | with_reducible apply Wf.cpL | with_reducible apply Wf.cp2 | with_reducible apply Wf.sIs | with_reducible apply Wf.sLs | with_reducible apply Wf.cpU | with_reducible apply Wf.fillI | with_reducible apply Wf.clU | with_reducible apply Wf.dnF | with_reducible apply Wf.gbW | with_reducible apply Wf.cpXf | with_reducible apply Wf.cpYf))) (by decide) hc_X11 (by decide) (by decide) (Nat.le_of_ble_eq_true rfl)) ?_
  refine lfn (a_if_ne (tgt := 56) dX11_change_49 (by decide)) (fun h49 => ?_) (fun h49 => absurd h49 (by decide))
  refine lf (a_aload_n dX11_change_56 rfl) ?_
  refine lf (a_iload_n dX11_change_57 rfl) ?_
  refine lf (a_inv (b2 := (0, 0)) (Ct.int (if_pos ((seat_iff hq0 hd0 hc).mpr hfr)) (m_hasSeat (by repeat (first | with_reducible exact hw | with_reducible exact hwc | with_reducible assumption | with_reducible apply Wf.sI | with_reducible apply Wf.sL | with_reducible apply Wf.cpI | with_reducible apply Wf.cpL | with_reducible apply Wf.cp2 | with_reducible apply Wf.sIs | with_reducible apply Wf.sLs | with_reducible apply Wf.cpU | with_reducible apply Wf.fillI | with_reducible apply Wf.clU | with_reducible apply Wf.dnF | with_reducible apply Wf.gbW | with_reducible apply Wf.cpXf | with_reducible apply Wf.cpYf)) (h.1.th 0) hc)) rfl dX11_change_58 yk_X11_hasSeat im_X11_hasSeat se_X11_hasSeat ml_X11_404 rfl (co_338 (by repeat (first | with_reducible exact hw | with_reducible exact hwc | with_reducible assumption | with_reducible apply Wf.sI | with_reducible apply Wf.sL | with_reducible apply Wf.cpI | with_reducible apply Wf.cpL | with_reducible apply Wf.cp2 | with_reducible apply Wf.sIs | with_reducible apply Wf.sLs | with_reducible apply Wf.cpU | with_reducible apply Wf.fillI | with_reducible apply Wf.clU | with_reducible apply Wf.dnF | with_reducible apply Wf.gbW | with_reducible apply Wf.cpXf | with_reducible apply Wf.cpYf))) (by decide) hc_X11 (by decide) (by decide) (Nat.le_of_ble_eq_true rfl)) ?_
  refine lf2 (a_if_eq (tgt := 68) dX11_change_61 (by decide)) (fun h61 => absurd h61 (by decide)) (fun h61 => ?_)
  refine lf (a_iconst (0 : Int32) dX11_change_64 (by decide)) ?_
  refine lf (a_goto (tgt := 70) dX11_change_65 (by decide)) ?_
  refine lf (a_iconst (3 : Int32) dX11_change_70 (by decide)) ?_
  refine lf (a_inv (b2 := (0, 0)) (m_refuses0 (by repeat (first | with_reducible exact hw | with_reducible exact hwc | with_reducible assumption | with_reducible apply Wf.sI | with_reducible apply Wf.sL | with_reducible apply Wf.cpI | with_reducible apply Wf.cpL | with_reducible apply Wf.cp2 | with_reducible apply Wf.sIs | with_reducible apply Wf.sLs | with_reducible apply Wf.cpU | with_reducible apply Wf.fillI | with_reducible apply Wf.clU | with_reducible apply Wf.dnF | with_reducible apply Wf.gbW | with_reducible apply Wf.cpXf | with_reducible apply Wf.cpYf)) 3) rfl dX11_change_71 yk_X11_refuses im_X11_refuses se_X11_refuses ml_X11_407 rfl (co_338 (by repeat (first | with_reducible exact hw | with_reducible exact hwc | with_reducible assumption | with_reducible apply Wf.sI | with_reducible apply Wf.sL | with_reducible apply Wf.cpI | with_reducible apply Wf.cpL | with_reducible apply Wf.cp2 | with_reducible apply Wf.sIs | with_reducible apply Wf.sLs | with_reducible apply Wf.cpU | with_reducible apply Wf.fillI | with_reducible apply Wf.clU | with_reducible apply Wf.dnF | with_reducible apply Wf.gbW | with_reducible apply Wf.cpXf | with_reducible apply Wf.cpYf))) (by decide) hc_X11 (by decide) (by decide) (Nat.le_of_ble_eq_true rfl)) ?_
  refine lf2 (a_if_eq (tgt := 79) dX11_change_74 (by decide)) (fun h74 => ?_) (fun h74 => absurd h74 (fun z => z rfl))
  refine lf (a_aload_n dX11_change_79 rfl) ?_
  obtain ⟨v_, W80, k80, rfl, hR⟩ := (v_rem (MtQ.of2 hw) h hp)
  have hwR := hR.1
  have hnR := hR.2.1
  have hvR := hnR.1
  refine lf (a_inv (b2 := (0, 0)) k80 rfl dX11_change_80 yk_X11_remembers im_X11_remembers se_X11_remembers ml_X11_410 rfl (co_338 (by repeat (first | with_reducible exact hw | with_reducible exact hwc | with_reducible assumption | with_reducible apply Wf.sI | with_reducible apply Wf.sL | with_reducible apply Wf.cpI | with_reducible apply Wf.cpL | with_reducible apply Wf.cp2 | with_reducible apply Wf.sIs | with_reducible apply Wf.sLs | with_reducible apply Wf.cpU | with_reducible apply Wf.fillI | with_reducible apply Wf.clU | with_reducible apply Wf.dnF | with_reducible apply Wf.gbW | with_reducible apply Wf.cpXf | with_reducible apply Wf.cpYf))) (by decide) hc_X11 (by decide) (by decide) (Nat.le_of_ble_eq_true rfl)) ?_
  refine lf (a_aload_n dX11_change_83 rfl) ?_
  refine lf (a_iload_n dX11_change_84 rfl) ?_
  refine lf (a_iconst (0 : Int32) dX11_change_85 (by decide)) ?_
  refine lf (a_inv (b2 := (0, 0)) (m_of0 (by repeat (first | with_reducible exact hw | with_reducible exact hwc | with_reducible assumption | with_reducible apply Wf.sI | with_reducible apply Wf.sL | with_reducible apply Wf.cpI | with_reducible apply Wf.cpL | with_reducible apply Wf.cp2 | with_reducible apply Wf.sIs | with_reducible apply Wf.sLs | with_reducible apply Wf.cpU | with_reducible apply Wf.fillI | with_reducible apply Wf.clU | with_reducible apply Wf.dnF | with_reducible apply Wf.gbW | with_reducible apply Wf.cpXf | with_reducible apply Wf.cpYf)) hvR hi) rfl dX11_change_86 yk_X11_of im_X11_of se_X11_of ml_X11_294 rfl (co_338 (by repeat (first | with_reducible exact hw | with_reducible exact hwc | with_reducible assumption | with_reducible apply Wf.sI | with_reducible apply Wf.sL | with_reducible apply Wf.cpI | with_reducible apply Wf.cpL | with_reducible apply Wf.cp2 | with_reducible apply Wf.sIs | with_reducible apply Wf.sLs | with_reducible apply Wf.cpU | with_reducible apply Wf.fillI | with_reducible apply Wf.clU | with_reducible apply Wf.dnF | with_reducible apply Wf.gbW | with_reducible apply Wf.cpXf | with_reducible apply Wf.cpYf))) (by decide) hc_X11 (by decide) (by decide) (Nat.le_of_ble_eq_true rfl)) ?_
  refine lf (a_istore_n dX11_change_89 (by decide)) ?_
  refine lf (a_aload_n dX11_change_90 rfl) ?_
  refine lf (a_getR (cr_338_6 (by repeat (first | with_reducible exact hw | with_reducible exact hwc | with_reducible assumption | with_reducible apply Wf.sI | with_reducible apply Wf.sL | with_reducible apply Wf.cpI | with_reducible apply Wf.cpL | with_reducible apply Wf.cp2 | with_reducible apply Wf.sIs | with_reducible apply Wf.sLs | with_reducible apply Wf.cpU | with_reducible apply Wf.fillI | with_reducible apply Wf.clU | with_reducible apply Wf.dnF | with_reducible apply Wf.gbW | with_reducible apply Wf.cpXf | with_reducible apply Wf.cpYf))) dX11_change_91 fs_X11_26 rfl (co_338 (by repeat (first | with_reducible exact hw | with_reducible exact hwc | with_reducible assumption | with_reducible apply Wf.sI | with_reducible apply Wf.sL | with_reducible apply Wf.cpI | with_reducible apply Wf.cpL | with_reducible apply Wf.cp2 | with_reducible apply Wf.sIs | with_reducible apply Wf.sLs | with_reducible apply Wf.cpU | with_reducible apply Wf.fillI | with_reducible apply Wf.clU | with_reducible apply Wf.dnF | with_reducible apply Wf.gbW | with_reducible apply Wf.cpXf | with_reducible apply Wf.cpYf)))) ?_
  refine lf (a_iload_n dX11_change_94 rfl) ?_
  refine lf (a_iconst (0 : Int32) dX11_change_95 (by decide)) ?_
  refine lf (a_invS (b2 := (0, 0)) (m_passengerAt i 0) rfl dX11_change_96 yk_X11_passengerAt sm_X11_passengerAt ml_X11_91 rfl (by decide) (by decide) (Nat.le_of_ble_eq_true rfl)) ?_
  refine lf (a_iload_n dX11_change_99 rfl) ?_
  refine lf (a_ist dX11_change_100 (ca_344 (by repeat (first | with_reducible exact hw | with_reducible exact hwc | with_reducible assumption | with_reducible apply Wf.sI | with_reducible apply Wf.sL | with_reducible apply Wf.cpI | with_reducible apply Wf.cpL | with_reducible apply Wf.cp2 | with_reducible apply Wf.sIs | with_reducible apply Wf.sLs | with_reducible apply Wf.cpU | with_reducible apply Wf.fillI | with_reducible apply Wf.clU | with_reducible apply Wf.dnF | with_reducible apply Wf.gbW | with_reducible apply Wf.cpXf | with_reducible apply Wf.cpYf))) (ixn (show 5 + 4 * i + 0 < 291 by omega) (by omega))) ?_
  refine lf (a_aload_n dX11_change_101 rfl) ?_
  refine lf (a_getR (cr_338_6 (by repeat (first | with_reducible exact hw | with_reducible exact hwc | with_reducible assumption | with_reducible apply Wf.sI | with_reducible apply Wf.sL | with_reducible apply Wf.cpI | with_reducible apply Wf.cpL | with_reducible apply Wf.cp2 | with_reducible apply Wf.sIs | with_reducible apply Wf.sLs | with_reducible apply Wf.cpU | with_reducible apply Wf.fillI | with_reducible apply Wf.clU | with_reducible apply Wf.dnF | with_reducible apply Wf.gbW | with_reducible apply Wf.cpXf | with_reducible apply Wf.cpYf))) dX11_change_102 fs_X11_26 rfl (co_338 (by repeat (first | with_reducible exact hw | with_reducible exact hwc | with_reducible assumption | with_reducible apply Wf.sI | with_reducible apply Wf.sL | with_reducible apply Wf.cpI | with_reducible apply Wf.cpL | with_reducible apply Wf.cp2 | with_reducible apply Wf.sIs | with_reducible apply Wf.sLs | with_reducible apply Wf.cpU | with_reducible apply Wf.fillI | with_reducible apply Wf.clU | with_reducible apply Wf.dnF | with_reducible apply Wf.gbW | with_reducible apply Wf.cpXf | with_reducible apply Wf.cpYf)))) ?_
  refine lf (a_iload_n dX11_change_105 rfl) ?_
  refine lf (a_iconst (2 : Int32) dX11_change_106 (by decide)) ?_
  refine lf (a_invS (b2 := (0, 0)) (m_passengerAt i 2) rfl dX11_change_107 yk_X11_passengerAt sm_X11_passengerAt ml_X11_91 rfl (by decide) (by decide) (Nat.le_of_ble_eq_true rfl)) ?_
  refine lf (a_iconst (-1 : Int32) dX11_change_110 (by decide)) ?_
  refine lf (a_ist dX11_change_111 (ca_344 (by repeat (first | with_reducible exact hw | with_reducible exact hwc | with_reducible assumption | with_reducible apply Wf.sI | with_reducible apply Wf.sL | with_reducible apply Wf.cpI | with_reducible apply Wf.cpL | with_reducible apply Wf.cp2 | with_reducible apply Wf.sIs | with_reducible apply Wf.sLs | with_reducible apply Wf.cpU | with_reducible apply Wf.fillI | with_reducible apply Wf.clU | with_reducible apply Wf.dnF | with_reducible apply Wf.gbW | with_reducible apply Wf.cpXf | with_reducible apply Wf.cpYf))) (ixn (show 5 + 4 * i + 2 < 291 by omega) (by omega))) ?_
  refine lf (a_iload_n dX11_change_112 rfl) ?_
  refine ⟨_, _, (a_ireturn dX11_change_113 rfl rfl), ?_⟩
  exact ⟨_, rfl, rfl, chg_fin hR h0 hi rfl⟩
abbrev R_X11_setNeeds : Room := { frames := 2, cells := 0, slots := 0, locals := 43 }
abbrev RX_X11_setNeeds : Room := { frames := 2, cells := 1, slots := 6, locals := 43 }

theorem mx_setNeeds (hw : Wf μ) (h : MnV μ q d) {x y : Int32} (hx : ixO x (dP d) = none) : Ct Y_X11_setNeeds R_X11_setNeeds [.ref 338, .int x, .int y] μ (.inl (some (.int 0))) (sI μ 338 0 1) := by
  have hv := h.1
  have hM4 := hv.M4
  have hT4 := hv.T4
  have hP4 := hv.P4
  have hC4 := hv.C4
  have hU4 := hv.U4
  have hw1 : Wf (sI μ 338 0 0) := hw.sI
  have hv1 : MdV (sI μ 338 0 0) q d := hv.th 0
  refine Ct.ent yk_X11_setNeeds (Nat.le_of_ble_eq_true rfl) ?_
  refine a_aload_n dX11_setNeeds_0 rfl ?_
  refine a_aload_n dX11_setNeeds_1 rfl ?_
  refine a_iload_n dX11_setNeeds_2 rfl ?_
  refine a_inv (b2 := (0, 0)) (Ct.int (isO_none hx) (m_isPassenger (by repeat (first | with_reducible exact hw | with_reducible exact hwc | with_reducible assumption | with_reducible apply Wf.sI | with_reducible apply Wf.sL | with_reducible apply Wf.cpI | with_reducible apply Wf.cpL | with_reducible apply Wf.cp2 | with_reducible apply Wf.sIs | with_reducible apply Wf.sLs | with_reducible apply Wf.cpU | with_reducible apply Wf.fillI | with_reducible apply Wf.clU | with_reducible apply Wf.dnF | with_reducible apply Wf.gbW | with_reducible apply Wf.cpXf | with_reducible apply Wf.cpYf)) hv x)) rfl dX11_setNeeds_3 yk_X11_isPassenger im_X11_isPassenger se_X11_isPassenger ml_X11_385 rfl (co_338 (by repeat (first | with_reducible exact hw | with_reducible exact hwc | with_reducible assumption | with_reducible apply Wf.sI | with_reducible apply Wf.sL | with_reducible apply Wf.cpI | with_reducible apply Wf.cpL | with_reducible apply Wf.cp2 | with_reducible apply Wf.sIs | with_reducible apply Wf.sLs | with_reducible apply Wf.cpU | with_reducible apply Wf.fillI | with_reducible apply Wf.clU | with_reducible apply Wf.dnF | with_reducible apply Wf.gbW | with_reducible apply Wf.cpXf | with_reducible apply Wf.cpYf))) (by decide) hc_X11 (by decide) (by decide) (Nat.le_of_ble_eq_true rfl) ?_
  refine a_if_ne (tgt := 13) dX11_setNeeds_6 (by decide) (fun h6 => absurd h6 (fun z => z rfl)) (fun h6 => ?_)
  refine a_iconst (1 : Int32) dX11_setNeeds_9 (by decide) ?_
  refine a_goto (tgt := 29) dX11_setNeeds_10 (by decide) ?_
  refine a_inv (b2 := (0, 0)) (m_isRefused1 (by repeat (first | with_reducible exact hw | with_reducible exact hwc | with_reducible assumption | with_reducible apply Wf.sI | with_reducible apply Wf.sL | with_reducible apply Wf.cpI | with_reducible apply Wf.cpL | with_reducible apply Wf.cp2 | with_reducible apply Wf.sIs | with_reducible apply Wf.sLs | with_reducible apply Wf.cpU | with_reducible apply Wf.fillI | with_reducible apply Wf.clU | with_reducible apply Wf.dnF | with_reducible apply Wf.gbW | with_reducible apply Wf.cpXf | with_reducible apply Wf.cpYf)) (v := 1) (by decide)) rfl dX11_setNeeds_29 yk_X11_isRefused im_X11_isRefused se_X11_isRefused ml_X11_98 rfl (co_338 (by repeat (first | with_reducible exact hw | with_reducible exact hwc | with_reducible assumption | with_reducible apply Wf.sI | with_reducible apply Wf.sL | with_reducible apply Wf.cpI | with_reducible apply Wf.cpL | with_reducible apply Wf.cp2 | with_reducible apply Wf.sIs | with_reducible apply Wf.sLs | with_reducible apply Wf.cpU | with_reducible apply Wf.fillI | with_reducible apply Wf.clU | with_reducible apply Wf.dnF | with_reducible apply Wf.gbW | with_reducible apply Wf.cpXf | with_reducible apply Wf.cpYf))) (by decide) hc_X11 (by decide) (by decide) (Nat.le_of_ble_eq_true rfl) ?_
  refine a_if_eq (tgt := 37) dX11_setNeeds_32 (by decide) (fun h32 => absurd h32 (by decide)) (fun h32 => ?_)
  refine a_iconst (0 : Int32) dX11_setNeeds_35 (by decide) ?_
  exact a_out rfl rfl (a_ireturn dX11_setNeeds_36 rfl rfl)

theorem my_setNeeds (hw : Wf μ) (h : MnV μ q d) {i : Nat} (hi : i < dP d) {y : Int32} (hy : ixO y 256 = none) : Ct Y_X11_setNeeds R_X11_setNeeds [.ref 338, .int (nI i), .int y] μ (.inl (some (.int 0))) (sI μ 338 0 2) := by
  have hv := h.1
  have hM4 := hv.M4
  have hT4 := hv.T4
  have hP4 := hv.P4
  have hC4 := hv.C4
  have hU4 := hv.U4
  have hw1 : Wf (sI μ 338 0 0) := hw.sI
  have hv1 : MdV (sI μ 338 0 0) q d := hv.th 0
  refine Ct.ent yk_X11_setNeeds (Nat.le_of_ble_eq_true rfl) ?_
  refine a_aload_n dX11_setNeeds_0 rfl ?_
  refine a_aload_n dX11_setNeeds_1 rfl ?_
  refine a_iload_n dX11_setNeeds_2 rfl ?_
  refine a_inv (b2 := (0, 0)) (Ct.int (isO_lt hi (by omega)) (m_isPassenger (by repeat (first | with_reducible exact hw | with_reducible exact hwc | with_reducible assumption | with_reducible apply Wf.sI | with_reducible apply Wf.sL | with_reducible apply Wf.cpI | with_reducible apply Wf.cpL | with_reducible apply Wf.cp2 | with_reducible apply Wf.sIs | with_reducible apply Wf.sLs | with_reducible apply Wf.cpU | with_reducible apply Wf.fillI | with_reducible apply Wf.clU | with_reducible apply Wf.dnF | with_reducible apply Wf.gbW | with_reducible apply Wf.cpXf | with_reducible apply Wf.cpYf)) hv (nI i))) rfl dX11_setNeeds_3 yk_X11_isPassenger im_X11_isPassenger se_X11_isPassenger ml_X11_385 rfl (co_338 (by repeat (first | with_reducible exact hw | with_reducible exact hwc | with_reducible assumption | with_reducible apply Wf.sI | with_reducible apply Wf.sL | with_reducible apply Wf.cpI | with_reducible apply Wf.cpL | with_reducible apply Wf.cp2 | with_reducible apply Wf.sIs | with_reducible apply Wf.sLs | with_reducible apply Wf.cpU | with_reducible apply Wf.fillI | with_reducible apply Wf.clU | with_reducible apply Wf.dnF | with_reducible apply Wf.gbW | with_reducible apply Wf.cpXf | with_reducible apply Wf.cpYf))) (by decide) hc_X11 (by decide) (by decide) (Nat.le_of_ble_eq_true rfl) ?_
  refine a_if_ne (tgt := 13) dX11_setNeeds_6 (by decide) (fun h6 => ?_) (fun h6 => absurd h6 (by decide))
  refine a_iload_n dX11_setNeeds_13 rfl ?_
  refine a_iconst (0 : Int32) dX11_setNeeds_14 (by decide) ?_
  refine a_sipush (255 : Int32) dX11_setNeeds_15 (by decide) ?_
  refine a_invS (b2 := (0, 0)) (Ct.int (show inI y 0 255 = 0 from (inI_ix (x := y) (n := 256) (by decide)).trans (isO_none hy)) (m_in y 0 255)) rfl dX11_setNeeds_18 yk_X11_in sm_X11_in ml_X11_102 rfl (by decide) (by decide) (Nat.le_of_ble_eq_true rfl) ?_
  refine a_if_eq (tgt := 28) dX11_setNeeds_21 (by decide) (fun h21 => ?_) (fun h21 => absurd h21 (fun z => z rfl))
  refine a_iconst (2 : Int32) dX11_setNeeds_28 (by decide) ?_
  refine a_inv (b2 := (0, 0)) (m_isRefused1 (by repeat (first | with_reducible exact hw | with_reducible exact hwc | with_reducible assumption | with_reducible apply Wf.sI | with_reducible apply Wf.sL | with_reducible apply Wf.cpI | with_reducible apply Wf.cpL | with_reducible apply Wf.cp2 | with_reducible apply Wf.sIs | with_reducible apply Wf.sLs | with_reducible apply Wf.cpU | with_reducible apply Wf.fillI | with_reducible apply Wf.clU | with_reducible apply Wf.dnF | with_reducible apply Wf.gbW | with_reducible apply Wf.cpXf | with_reducible apply Wf.cpYf)) (v := 2) (by decide)) rfl dX11_setNeeds_29 yk_X11_isRefused im_X11_isRefused se_X11_isRefused ml_X11_98 rfl (co_338 (by repeat (first | with_reducible exact hw | with_reducible exact hwc | with_reducible assumption | with_reducible apply Wf.sI | with_reducible apply Wf.sL | with_reducible apply Wf.cpI | with_reducible apply Wf.cpL | with_reducible apply Wf.cp2 | with_reducible apply Wf.sIs | with_reducible apply Wf.sLs | with_reducible apply Wf.cpU | with_reducible apply Wf.fillI | with_reducible apply Wf.clU | with_reducible apply Wf.dnF | with_reducible apply Wf.gbW | with_reducible apply Wf.cpXf | with_reducible apply Wf.cpYf))) (by decide) hc_X11 (by decide) (by decide) (Nat.le_of_ble_eq_true rfl) ?_
  refine a_if_eq (tgt := 37) dX11_setNeeds_32 (by decide) (fun h32 => absurd h32 (by decide)) (fun h32 => ?_)
  refine a_iconst (0 : Int32) dX11_setNeeds_35 (by decide) ?_
  exact a_out rfl rfl (a_ireturn dX11_setNeeds_36 rfl rfl)

theorem mp_setNeeds (hw : Wf μ) (h : MnV μ q d) (hg : ¬ goD q d) {i n : Nat} (hi : i < dP d) (hn : n < 256) : CV Y_X11_setNeeds R_X11_setNeeds [.ref 338, .int (nI i), .int (nI n)] μ (fun v V => v = some (.int 0) ∧ MrQ μ 1 3 V) := by
  have hv := h.1
  have hM4 := hv.M4
  have hT4 := hv.T4
  have hP4 := hv.P4
  have hC4 := hv.C4
  have hU4 := hv.U4
  have hw1 : Wf (sI μ 338 0 0) := hw.sI
  have hv1 : MdV (sI μ 338 0 0) q d := hv.th 0
  refine CV.ent yk_X11_setNeeds (Nat.le_of_ble_eq_true rfl) ?_
  refine lf (a_aload_n dX11_setNeeds_0 rfl) ?_
  refine lf (a_aload_n dX11_setNeeds_1 rfl) ?_
  refine lf (a_iload_n dX11_setNeeds_2 rfl) ?_
  refine lf (a_inv (b2 := (0, 0)) (Ct.int (isO_lt hi (by omega)) (m_isPassenger (by repeat (first | with_reducible exact hw | with_reducible exact hwc | with_reducible assumption | with_reducible apply Wf.sI | with_reducible apply Wf.sL | with_reducible apply Wf.cpI | with_reducible apply Wf.cpL | with_reducible apply Wf.cp2 | with_reducible apply Wf.sIs | with_reducible apply Wf.sLs | with_reducible apply Wf.cpU | with_reducible apply Wf.fillI | with_reducible apply Wf.clU | with_reducible apply Wf.dnF | with_reducible apply Wf.gbW | with_reducible apply Wf.cpXf | with_reducible apply Wf.cpYf)) hv (nI i))) rfl dX11_setNeeds_3 yk_X11_isPassenger im_X11_isPassenger se_X11_isPassenger ml_X11_385 rfl (co_338 (by repeat (first | with_reducible exact hw | with_reducible exact hwc | with_reducible assumption | with_reducible apply Wf.sI | with_reducible apply Wf.sL | with_reducible apply Wf.cpI | with_reducible apply Wf.cpL | with_reducible apply Wf.cp2 | with_reducible apply Wf.sIs | with_reducible apply Wf.sLs | with_reducible apply Wf.cpU | with_reducible apply Wf.fillI | with_reducible apply Wf.clU | with_reducible apply Wf.dnF | with_reducible apply Wf.gbW | with_reducible apply Wf.cpXf | with_reducible apply Wf.cpYf))) (by decide) hc_X11 (by decide) (by decide) (Nat.le_of_ble_eq_true rfl)) ?_
  refine lfn (a_if_ne (tgt := 13) dX11_setNeeds_6 (by decide)) (fun h6 => ?_) (fun h6 => absurd h6 (by decide))
  refine lf (a_iload_n dX11_setNeeds_13 rfl) ?_
  refine lf (a_iconst (0 : Int32) dX11_setNeeds_14 (by decide)) ?_
  refine lf (a_sipush (255 : Int32) dX11_setNeeds_15 (by decide)) ?_
  refine lf (a_invS (b2 := (0, 0)) (Ct.int (show inI (nI n) 0 255 = 1 from (inI_ix (x := nI n) (n := 256) (by decide)).trans (isO_lt hn (by decide))) (m_in (nI n) 0 255)) rfl dX11_setNeeds_18 yk_X11_in sm_X11_in ml_X11_102 rfl (by decide) (by decide) (Nat.le_of_ble_eq_true rfl)) ?_
  refine lf2 (a_if_eq (tgt := 28) dX11_setNeeds_21 (by decide)) (fun h21 => absurd h21 (by decide)) (fun h21 => ?_)
  refine lf (a_iconst (0 : Int32) dX11_setNeeds_24 (by decide)) ?_
  refine lf (a_goto (tgt := 29) dX11_setNeeds_25 (by decide)) ?_
  refine lf (a_inv (b2 := (0, 0)) (m_isRefused0 (by repeat (first | with_reducible exact hw | with_reducible exact hwc | with_reducible assumption | with_reducible apply Wf.sI | with_reducible apply Wf.sL | with_reducible apply Wf.cpI | with_reducible apply Wf.cpL | with_reducible apply Wf.cp2 | with_reducible apply Wf.sIs | with_reducible apply Wf.sLs | with_reducible apply Wf.cpU | with_reducible apply Wf.fillI | with_reducible apply Wf.clU | with_reducible apply Wf.dnF | with_reducible apply Wf.gbW | with_reducible apply Wf.cpXf | with_reducible apply Wf.cpYf))) rfl dX11_setNeeds_29 yk_X11_isRefused im_X11_isRefused se_X11_isRefused ml_X11_98 rfl (co_338 (by repeat (first | with_reducible exact hw | with_reducible exact hwc | with_reducible assumption | with_reducible apply Wf.sI | with_reducible apply Wf.sL | with_reducible apply Wf.cpI | with_reducible apply Wf.cpL | with_reducible apply Wf.cp2 | with_reducible apply Wf.sIs | with_reducible apply Wf.sLs | with_reducible apply Wf.cpU | with_reducible apply Wf.fillI | with_reducible apply Wf.clU | with_reducible apply Wf.dnF | with_reducible apply Wf.gbW | with_reducible apply Wf.cpXf | with_reducible apply Wf.cpYf))) (by decide) hc_X11 (by decide) (by decide) (Nat.le_of_ble_eq_true rfl)) ?_
  refine lf2 (a_if_eq (tgt := 37) dX11_setNeeds_32 (by decide)) (fun h32 => ?_) (fun h32 => absurd h32 (fun z => z rfl))
  refine lf (a_aload_n dX11_setNeeds_37 rfl) ?_
  refine lf (a_aload_n dX11_setNeeds_38 rfl) ?_
  refine lf (a_inv (b2 := (0, 0)) (Ct.int (ngo_in hg) (m_isGoing (by repeat (first | with_reducible exact hw | with_reducible exact hwc | with_reducible assumption | with_reducible apply Wf.sI | with_reducible apply Wf.sL | with_reducible apply Wf.cpI | with_reducible apply Wf.cpL | with_reducible apply Wf.cp2 | with_reducible apply Wf.sIs | with_reducible apply Wf.sLs | with_reducible apply Wf.cpU | with_reducible apply Wf.fillI | with_reducible apply Wf.clU | with_reducible apply Wf.dnF | with_reducible apply Wf.gbW | with_reducible apply Wf.cpXf | with_reducible apply Wf.cpYf)) (h.1.th 0))) rfl dX11_setNeeds_39 yk_X11_isGoing im_X11_isGoing se_X11_isGoing ml_X11_401 rfl (co_338 (by repeat (first | with_reducible exact hw | with_reducible exact hwc | with_reducible assumption | with_reducible apply Wf.sI | with_reducible apply Wf.sL | with_reducible apply Wf.cpI | with_reducible apply Wf.cpL | with_reducible apply Wf.cp2 | with_reducible apply Wf.sIs | with_reducible apply Wf.sLs | with_reducible apply Wf.cpU | with_reducible apply Wf.fillI | with_reducible apply Wf.clU | with_reducible apply Wf.dnF | with_reducible apply Wf.gbW | with_reducible apply Wf.cpXf | with_reducible apply Wf.cpYf))) (by decide) hc_X11 (by decide) (by decide) (Nat.le_of_ble_eq_true rfl)) ?_
  refine lf2 (a_if_eq (tgt := 49) dX11_setNeeds_42 (by decide)) (fun h42 => ?_) (fun h42 => absurd h42 (fun z => z rfl))
  refine lf (a_iconst (1 : Int32) dX11_setNeeds_49 (by decide)) ?_
  refine lf (a_iconst (3 : Int32) dX11_setNeeds_50 (by decide)) ?_
  refine lf (a_inv (b2 := (0, 0)) (m_refuses1 (by repeat (first | with_reducible exact hw | with_reducible exact hwc | with_reducible assumption | with_reducible apply Wf.sI | with_reducible apply Wf.sL | with_reducible apply Wf.cpI | with_reducible apply Wf.cpL | with_reducible apply Wf.cp2 | with_reducible apply Wf.sIs | with_reducible apply Wf.sLs | with_reducible apply Wf.cpU | with_reducible apply Wf.fillI | with_reducible apply Wf.clU | with_reducible apply Wf.dnF | with_reducible apply Wf.gbW | with_reducible apply Wf.cpXf | with_reducible apply Wf.cpYf)) (y := 1) (w := 3) (by decide) (by decide)) rfl dX11_setNeeds_51 yk_X11_refuses im_X11_refuses se_X11_refuses ml_X11_407 rfl (co_338 (by repeat (first | with_reducible exact hw | with_reducible exact hwc | with_reducible assumption | with_reducible apply Wf.sI | with_reducible apply Wf.sL | with_reducible apply Wf.cpI | with_reducible apply Wf.cpL | with_reducible apply Wf.cp2 | with_reducible apply Wf.sIs | with_reducible apply Wf.sLs | with_reducible apply Wf.cpU | with_reducible apply Wf.fillI | with_reducible apply Wf.clU | with_reducible apply Wf.dnF | with_reducible apply Wf.gbW | with_reducible apply Wf.cpXf | with_reducible apply Wf.cpYf))) (by decide) hc_X11 (by decide) (by decide) (Nat.le_of_ble_eq_true rfl)) ?_
  refine lf2 (a_if_eq (tgt := 59) dX11_setNeeds_54 (by decide)) (fun h54 => absurd h54 (by decide)) (fun h54 => ?_)
  refine lf (a_iconst (0 : Int32) dX11_setNeeds_57 (by decide)) ?_
  refine ⟨_, _, (a_ireturn dX11_setNeeds_58 rfl rfl), ?_⟩
  exact ⟨_, rfl, rfl, MrQ.of (MtQ.of hw 0) 1 3⟩
theorem nee_fin {H : Hst} (hR : RmQ μ W q d H) (h0 : dF d 6 0 = 0) {i : Nat} (hi : i < dP d) {c : Int32} (hZ : Z = sI W 344 (5 + 4 * i + 1) c) : MaQ μ Z q (cellD d 1 i c) H := by
  have hO : Out s344 W Z := by
    rw [hZ]
    exact (Out.rfl' hR.1).sI (S := s344) rfl _ _
  have hf := hR.2.1.fit
  have hr := hR.2.1.rx
  have hP := hf.1.2.2.2.1
  have e : ∀ x, gI Z 344 x = if x = 5 + 4 * i + 1 then c else gI W 344 x := fun x => by
    rw [hZ, gI_sI]
    by_cases z : x = 5 + 4 * i + 1
    · rw [if_pos z, if_pos ⟨rfl, z⟩]
    · rw [if_neg z, if_neg (fun y => z y.2)]
  clear hZ
  refine MaQ.fin hR hO ⟨hf.1, by rw [cell_F, if_neg (by omega)]; exact hf.2.1, hf.2.2⟩ (hr.pas hf h0 rfl (fun a j ha => by rw [cell_F, if_neg (by omega)]) (fun x hx => ?_) (by rw [e, if_neg (by omega)]; exact hr.2.1.2.2.1) (fun j (hj : j < dP d) => ?_)) rfl
  · rw [e, if_neg (by omega)]
  · have g := hr.2.1.2.2.2.2.1 j hj
    have g3 := hr.got h0 hj
    by_cases hj2 : j = i
    · subst hj2
      have a0 : dF (cellD d 1 j c) 0 j = dF d 0 j := cell_ne d c (by omega)
      have a1 : dF (cellD d 1 j c) 1 j = c := cell_eq d 1 j c
      have a2 : dF (cellD d 1 j c) 2 j = dF d 2 j := cell_ne d c (by omega)
      rw [a0, a1, a2, e, e, e, e]
      refine ⟨?_, ?_, ?_, ?_⟩
      · rw [if_neg (by omega)]; exact g.1
      · rw [if_pos rfl]
      · rw [if_neg (by omega)]; exact g.2.2
      · rw [if_neg (by omega)]; exact g3
    · have a : ∀ x, dF (cellD d 1 i c) x j = dF d x j := fun x => cell_ne d c (by omega)
      rw [a, a, a, e, e, e, e]
      refine ⟨?_, ?_, ?_, ?_⟩
      · rw [if_neg (by omega)]; exact g.1
      · rw [if_neg (by omega)]; exact g.2.1
      · rw [if_neg (by omega)]; exact g.2.2
      · rw [if_neg (by omega)]; exact g3

theorem v_setNeeds (hw : Wf μ) (h : MnV μ q d) {H : Hst} (hp : MpV μ q H) (hgo : goD q d) {i n : Nat} (hi : i < dP d) (hn : n < 256) : CV Y_X11_setNeeds R_X11_setNeeds [.ref 338, .int (nI i), .int (nI n)] μ (fun v V => v = some (.int (dF d 1 i)) ∧ MaQ μ V q (cellD d 1 i (nI n)) (pushH H d)) := by
  have hv := h.1
  have hM4 := hv.M4
  have hT4 := hv.T4
  have hP4 := hv.P4
  have hC4 := hv.C4
  have hU4 := hv.U4
  have hw1 : Wf (sI μ 338 0 0) := hw.sI
  have hv1 : MdV (sI μ 338 0 0) q d := hv.th 0
  have h0 := (go_s0 hgo).1
  refine CV.ent yk_X11_setNeeds (Nat.le_of_ble_eq_true rfl) ?_
  refine lf (a_aload_n dX11_setNeeds_0 rfl) ?_
  refine lf (a_aload_n dX11_setNeeds_1 rfl) ?_
  refine lf (a_iload_n dX11_setNeeds_2 rfl) ?_
  refine lf (a_inv (b2 := (0, 0)) (Ct.int (isO_lt hi (by omega)) (m_isPassenger (by repeat (first | with_reducible exact hw | with_reducible exact hwc | with_reducible assumption | with_reducible apply Wf.sI | with_reducible apply Wf.sL | with_reducible apply Wf.cpI | with_reducible apply Wf.cpL | with_reducible apply Wf.cp2 | with_reducible apply Wf.sIs | with_reducible apply Wf.sLs | with_reducible apply Wf.cpU | with_reducible apply Wf.fillI | with_reducible apply Wf.clU | with_reducible apply Wf.dnF | with_reducible apply Wf.gbW | with_reducible apply Wf.cpXf | with_reducible apply Wf.cpYf)) hv (nI i))) rfl dX11_setNeeds_3 yk_X11_isPassenger im_X11_isPassenger se_X11_isPassenger ml_X11_385 rfl (co_338 (by repeat (first | with_reducible exact hw | with_reducible exact hwc | with_reducible assumption | with_reducible apply Wf.sI | with_reducible apply Wf.sL | with_reducible apply Wf.cpI | with_reducible apply Wf.cpL | with_reducible apply Wf.cp2 | with_reducible apply Wf.sIs | with_reducible apply Wf.sLs | with_reducible apply Wf.cpU | with_reducible apply Wf.fillI | with_reducible apply Wf.clU | with_reducible apply Wf.dnF | with_reducible apply Wf.gbW | with_reducible apply Wf.cpXf | with_reducible apply Wf.cpYf))) (by decide) hc_X11 (by decide) (by decide) (Nat.le_of_ble_eq_true rfl)) ?_
  refine lfn (a_if_ne (tgt := 13) dX11_setNeeds_6 (by decide)) (fun h6 => ?_) (fun h6 => absurd h6 (by decide))
  refine lf (a_iload_n dX11_setNeeds_13 rfl) ?_
  refine lf (a_iconst (0 : Int32) dX11_setNeeds_14 (by decide)) ?_
  refine lf (a_sipush (255 : Int32) dX11_setNeeds_15 (by decide)) ?_
  refine lf (a_invS (b2 := (0, 0)) (Ct.int (show inI (nI n) 0 255 = 1 from (inI_ix (x := nI n) (n := 256) (by decide)).trans (isO_lt hn (by decide))) (m_in (nI n) 0 255)) rfl dX11_setNeeds_18 yk_X11_in sm_X11_in ml_X11_102 rfl (by decide) (by decide) (Nat.le_of_ble_eq_true rfl)) ?_
  refine lf2 (a_if_eq (tgt := 28) dX11_setNeeds_21 (by decide)) (fun h21 => absurd h21 (by decide)) (fun h21 => ?_)
  refine lf (a_iconst (0 : Int32) dX11_setNeeds_24 (by decide)) ?_
  refine lf (a_goto (tgt := 29) dX11_setNeeds_25 (by decide)) ?_
  refine lf (a_inv (b2 := (0, 0)) (m_isRefused0 (by repeat (first | with_reducible exact hw | with_reducible exact hwc | with_reducible assumption | with_reducible apply Wf.sI | with_reducible apply Wf.sL | with_reducible apply Wf.cpI | with_reducible apply Wf.cpL | with_reducible apply Wf.cp2 | with_reducible apply Wf.sIs | with_reducible apply Wf.sLs | with_reducible apply Wf.cpU | with_reducible apply Wf.fillI | with_reducible apply Wf.clU | with_reducible apply Wf.dnF | with_reducible apply Wf.gbW | with_reducible apply Wf.cpXf | with_reducible apply Wf.cpYf))) rfl dX11_setNeeds_29 yk_X11_isRefused im_X11_isRefused se_X11_isRefused ml_X11_98 rfl (co_338 (by repeat (first | with_reducible exact hw | with_reducible exact hwc | with_reducible assumption | with_reducible apply Wf.sI | with_reducible apply Wf.sL | with_reducible apply Wf.cpI | with_reducible apply Wf.cpL | with_reducible apply Wf.cp2 | with_reducible apply Wf.sIs | with_reducible apply Wf.sLs | with_reducible apply Wf.cpU | with_reducible apply Wf.fillI | with_reducible apply Wf.clU | with_reducible apply Wf.dnF | with_reducible apply Wf.gbW | with_reducible apply Wf.cpXf | with_reducible apply Wf.cpYf))) (by decide) hc_X11 (by decide) (by decide) (Nat.le_of_ble_eq_true rfl)) ?_
  refine lf2 (a_if_eq (tgt := 37) dX11_setNeeds_32 (by decide)) (fun h32 => ?_) (fun h32 => absurd h32 (fun z => z rfl))
  refine lf (a_aload_n dX11_setNeeds_37 rfl) ?_
  refine lf (a_aload_n dX11_setNeeds_38 rfl) ?_
  refine lf (a_inv (b2 := (0, 0)) (Ct.int (go_in hgo) (m_isGoing (by repeat (first | with_reducible exact hw | with_reducible exact hwc | with_reducible assumption | with_reducible apply Wf.sI | with_reducible apply Wf.sL | with_reducible apply Wf.cpI | with_reducible apply Wf.cpL | with_reducible apply Wf.cp2 | with_reducible apply Wf.sIs | with_reducible apply Wf.sLs | with_reducible apply Wf.cpU | with_reducible apply Wf.fillI | with_reducible apply Wf.clU | with_reducible apply Wf.dnF | with_reducible apply Wf.gbW | with_reducible apply Wf.cpXf | with_reducible apply Wf.cpYf)) (h.1.th 0))) rfl dX11_setNeeds_39 yk_X11_isGoing im_X11_isGoing se_X11_isGoing ml_X11_401 rfl (co_338 (by repeat (first | with_reducible exact hw | with_reducible exact hwc | with_reducible assumption | with_reducible apply Wf.sI | with_reducible apply Wf.sL | with_reducible apply Wf.cpI | with_reducible apply Wf.cpL | with_reducible apply Wf.cp2 | with_reducible apply Wf.sIs | with_reducible apply Wf.sLs | with_reducible apply Wf.cpU | with_reducible apply Wf.fillI | with_reducible apply Wf.clU | with_reducible apply Wf.dnF | with_reducible apply Wf.gbW | with_reducible apply Wf.cpXf | with_reducible apply Wf.cpYf))) (by decide) hc_X11 (by decide) (by decide) (Nat.le_of_ble_eq_true rfl)) ?_
  refine lf2 (a_if_eq (tgt := 49) dX11_setNeeds_42 (by decide)) (fun h42 => absurd h42 (by decide)) (fun h42 => ?_)
  refine lf (a_iconst (0 : Int32) dX11_setNeeds_45 (by decide)) ?_
  refine lf (a_goto (tgt := 50) dX11_setNeeds_46 (by decide)) ?_
  refine lf (a_iconst (3 : Int32) dX11_setNeeds_50 (by decide)) ?_
  refine lf (a_inv (b2 := (0, 0)) (m_refuses0 (by repeat (first | with_reducible exact hw | with_reducible exact hwc | with_reducible assumption | with_reducible apply Wf.sI | with_reducible apply Wf.sL | with_reducible apply Wf.cpI | with_reducible apply Wf.cpL | with_reducible apply Wf.cp2 | with_reducible apply Wf.sIs | with_reducible apply Wf.sLs | with_reducible apply Wf.cpU | with_reducible apply Wf.fillI | with_reducible apply Wf.clU | with_reducible apply Wf.dnF | with_reducible apply Wf.gbW | with_reducible apply Wf.cpXf | with_reducible apply Wf.cpYf)) 3) rfl dX11_setNeeds_51 yk_X11_refuses im_X11_refuses se_X11_refuses ml_X11_407 rfl (co_338 (by repeat (first | with_reducible exact hw | with_reducible exact hwc | with_reducible assumption | with_reducible apply Wf.sI | with_reducible apply Wf.sL | with_reducible apply Wf.cpI | with_reducible apply Wf.cpL | with_reducible apply Wf.cp2 | with_reducible apply Wf.sIs | with_reducible apply Wf.sLs | with_reducible apply Wf.cpU | with_reducible apply Wf.fillI | with_reducible apply Wf.clU | with_reducible apply Wf.dnF | with_reducible apply Wf.gbW | with_reducible apply Wf.cpXf | with_reducible apply Wf.cpYf))) (by decide) hc_X11 (by decide) (by decide) (Nat.le_of_ble_eq_true rfl)) ?_
  refine lf2 (a_if_eq (tgt := 59) dX11_setNeeds_54 (by decide)) (fun h54 => ?_) (fun h54 => absurd h54 (fun z => z rfl))
  refine lf (a_aload_n dX11_setNeeds_59 rfl) ?_
  obtain ⟨v_, W60, k60, rfl, hR⟩ := (v_rem (MtQ.of2 hw) h hp)
  have hwR := hR.1
  have hnR := hR.2.1
  have hvR := hnR.1
  refine lf (a_inv (b2 := (0, 0)) k60 rfl dX11_setNeeds_60 yk_X11_remembers im_X11_remembers se_X11_remembers ml_X11_410 rfl (co_338 (by repeat (first | with_reducible exact hw | with_reducible exact hwc | with_reducible assumption | with_reducible apply Wf.sI | with_reducible apply Wf.sL | with_reducible apply Wf.cpI | with_reducible apply Wf.cpL | with_reducible apply Wf.cp2 | with_reducible apply Wf.sIs | with_reducible apply Wf.sLs | with_reducible apply Wf.cpU | with_reducible apply Wf.fillI | with_reducible apply Wf.clU | with_reducible apply Wf.dnF | with_reducible apply Wf.gbW | with_reducible apply Wf.cpXf | with_reducible apply Wf.cpYf))) (by decide) hc_X11 (by decide) (by decide) (Nat.le_of_ble_eq_true rfl)) ?_
  refine lf (a_aload_n dX11_setNeeds_63 rfl) ?_
  refine lf (a_iload_n dX11_setNeeds_64 rfl) ?_
  refine lf (a_iconst (1 : Int32) dX11_setNeeds_65 (by decide)) ?_
  refine lf (a_inv (b2 := (0, 0)) (m_of1 (by repeat (first | with_reducible exact hw | with_reducible exact hwc | with_reducible assumption | with_reducible apply Wf.sI | with_reducible apply Wf.sL | with_reducible apply Wf.cpI | with_reducible apply Wf.cpL | with_reducible apply Wf.cp2 | with_reducible apply Wf.sIs | with_reducible apply Wf.sLs | with_reducible apply Wf.cpU | with_reducible apply Wf.fillI | with_reducible apply Wf.clU | with_reducible apply Wf.dnF | with_reducible apply Wf.gbW | with_reducible apply Wf.cpXf | with_reducible apply Wf.cpYf)) hvR hi) rfl dX11_setNeeds_66 yk_X11_of im_X11_of se_X11_of ml_X11_294 rfl (co_338 (by repeat (first | with_reducible exact hw | with_reducible exact hwc | with_reducible assumption | with_reducible apply Wf.sI | with_reducible apply Wf.sL | with_reducible apply Wf.cpI | with_reducible apply Wf.cpL | with_reducible apply Wf.cp2 | with_reducible apply Wf.sIs | with_reducible apply Wf.sLs | with_reducible apply Wf.cpU | with_reducible apply Wf.fillI | with_reducible apply Wf.clU | with_reducible apply Wf.dnF | with_reducible apply Wf.gbW | with_reducible apply Wf.cpXf | with_reducible apply Wf.cpYf))) (by decide) hc_X11 (by decide) (by decide) (Nat.le_of_ble_eq_true rfl)) ?_
  refine lf (a_istore_n dX11_setNeeds_69 (by decide)) ?_
  refine lf (a_aload_n dX11_setNeeds_70 rfl) ?_
  refine lf (a_getR (cr_338_6 (by repeat (first | with_reducible exact hw | with_reducible exact hwc | with_reducible assumption | with_reducible apply Wf.sI | with_reducible apply Wf.sL | with_reducible apply Wf.cpI | with_reducible apply Wf.cpL | with_reducible apply Wf.cp2 | with_reducible apply Wf.sIs | with_reducible apply Wf.sLs | with_reducible apply Wf.cpU | with_reducible apply Wf.fillI | with_reducible apply Wf.clU | with_reducible apply Wf.dnF | with_reducible apply Wf.gbW | with_reducible apply Wf.cpXf | with_reducible apply Wf.cpYf))) dX11_setNeeds_71 fs_X11_26 rfl (co_338 (by repeat (first | with_reducible exact hw | with_reducible exact hwc | with_reducible assumption | with_reducible apply Wf.sI | with_reducible apply Wf.sL | with_reducible apply Wf.cpI | with_reducible apply Wf.cpL | with_reducible apply Wf.cp2 | with_reducible apply Wf.sIs | with_reducible apply Wf.sLs | with_reducible apply Wf.cpU | with_reducible apply Wf.fillI | with_reducible apply Wf.clU | with_reducible apply Wf.dnF | with_reducible apply Wf.gbW | with_reducible apply Wf.cpXf | with_reducible apply Wf.cpYf)))) ?_
  refine lf (a_iload_n dX11_setNeeds_74 rfl) ?_
  refine lf (a_iconst (1 : Int32) dX11_setNeeds_75 (by decide)) ?_
  refine lf (a_invS (b2 := (0, 0)) (m_passengerAt i 1) rfl dX11_setNeeds_76 yk_X11_passengerAt sm_X11_passengerAt ml_X11_91 rfl (by decide) (by decide) (Nat.le_of_ble_eq_true rfl)) ?_
  refine lf (a_iload_n dX11_setNeeds_79 rfl) ?_
  refine lf (a_ist dX11_setNeeds_80 (ca_344 (by repeat (first | with_reducible exact hw | with_reducible exact hwc | with_reducible assumption | with_reducible apply Wf.sI | with_reducible apply Wf.sL | with_reducible apply Wf.cpI | with_reducible apply Wf.cpL | with_reducible apply Wf.cp2 | with_reducible apply Wf.sIs | with_reducible apply Wf.sLs | with_reducible apply Wf.cpU | with_reducible apply Wf.fillI | with_reducible apply Wf.clU | with_reducible apply Wf.dnF | with_reducible apply Wf.gbW | with_reducible apply Wf.cpXf | with_reducible apply Wf.cpYf))) (ixn (show 5 + 4 * i + 1 < 291 by omega) (by omega))) ?_
  refine lf (a_iload_n dX11_setNeeds_81 rfl) ?_
  refine ⟨_, _, (a_ireturn dX11_setNeeds_82 rfl rfl), ?_⟩
  exact ⟨_, rfl, rfl, nee_fin hR h0 hi rfl⟩
abbrev R_X11_leave : Room := { frames := 2, cells := 0, slots := 0, locals := 43 }
abbrev RX_X11_leave : Room := { frames := 2, cells := 1, slots := 6, locals := 43 }

theorem mx_leave (hw : Wf μ) (h : MnV μ q d) {x : Int32} (hx : ixO x (dP d) = none) : Ct Y_X11_leave R_X11_leave [.ref 338, .int x] μ (.inl (some (.int 0))) (sI μ 338 0 1) := by
  have hv := h.1
  have hM4 := hv.M4
  have hT4 := hv.T4
  have hP4 := hv.P4
  have hC4 := hv.C4
  have hU4 := hv.U4
  have hw1 : Wf (sI μ 338 0 0) := hw.sI
  have hv1 : MdV (sI μ 338 0 0) q d := hv.th 0
  refine Ct.ent yk_X11_leave (Nat.le_of_ble_eq_true rfl) ?_
  refine a_aload_n dX11_leave_0 rfl ?_
  refine a_aload_n dX11_leave_1 rfl ?_
  refine a_iload_n dX11_leave_2 rfl ?_
  refine a_inv (b2 := (0, 0)) (Ct.int (isO_none hx) (m_isPassenger (by repeat (first | with_reducible exact hw | with_reducible exact hwc | with_reducible assumption | with_reducible apply Wf.sI | with_reducible apply Wf.sL | with_reducible apply Wf.cpI | with_reducible apply Wf.cpL | with_reducible apply Wf.cp2 | with_reducible apply Wf.sIs | with_reducible apply Wf.sLs | with_reducible apply Wf.cpU | with_reducible apply Wf.fillI | with_reducible apply Wf.clU | with_reducible apply Wf.dnF | with_reducible apply Wf.gbW | with_reducible apply Wf.cpXf | with_reducible apply Wf.cpYf)) hv x)) rfl dX11_leave_3 yk_X11_isPassenger im_X11_isPassenger se_X11_isPassenger ml_X11_385 rfl (co_338 (by repeat (first | with_reducible exact hw | with_reducible exact hwc | with_reducible assumption | with_reducible apply Wf.sI | with_reducible apply Wf.sL | with_reducible apply Wf.cpI | with_reducible apply Wf.cpL | with_reducible apply Wf.cp2 | with_reducible apply Wf.sIs | with_reducible apply Wf.sLs | with_reducible apply Wf.cpU | with_reducible apply Wf.fillI | with_reducible apply Wf.clU | with_reducible apply Wf.dnF | with_reducible apply Wf.gbW | with_reducible apply Wf.cpXf | with_reducible apply Wf.cpYf))) (by decide) hc_X11 (by decide) (by decide) (Nat.le_of_ble_eq_true rfl) ?_
  refine a_if_eq (tgt := 13) dX11_leave_6 (by decide) (fun h6 => ?_) (fun h6 => absurd h6 (fun z => z rfl))
  refine a_iconst (1 : Int32) dX11_leave_13 (by decide) ?_
  refine a_inv (b2 := (0, 0)) (m_isRefused1 (by repeat (first | with_reducible exact hw | with_reducible exact hwc | with_reducible assumption | with_reducible apply Wf.sI | with_reducible apply Wf.sL | with_reducible apply Wf.cpI | with_reducible apply Wf.cpL | with_reducible apply Wf.cp2 | with_reducible apply Wf.sIs | with_reducible apply Wf.sLs | with_reducible apply Wf.cpU | with_reducible apply Wf.fillI | with_reducible apply Wf.clU | with_reducible apply Wf.dnF | with_reducible apply Wf.gbW | with_reducible apply Wf.cpXf | with_reducible apply Wf.cpYf)) (v := 1) (by decide)) rfl dX11_leave_14 yk_X11_isRefused im_X11_isRefused se_X11_isRefused ml_X11_98 rfl (co_338 (by repeat (first | with_reducible exact hw | with_reducible exact hwc | with_reducible assumption | with_reducible apply Wf.sI | with_reducible apply Wf.sL | with_reducible apply Wf.cpI | with_reducible apply Wf.cpL | with_reducible apply Wf.cp2 | with_reducible apply Wf.sIs | with_reducible apply Wf.sLs | with_reducible apply Wf.cpU | with_reducible apply Wf.fillI | with_reducible apply Wf.clU | with_reducible apply Wf.dnF | with_reducible apply Wf.gbW | with_reducible apply Wf.cpXf | with_reducible apply Wf.cpYf))) (by decide) hc_X11 (by decide) (by decide) (Nat.le_of_ble_eq_true rfl) ?_
  refine a_if_eq (tgt := 22) dX11_leave_17 (by decide) (fun h17 => absurd h17 (by decide)) (fun h17 => ?_)
  refine a_iconst (0 : Int32) dX11_leave_20 (by decide) ?_
  exact a_out rfl rfl (a_ireturn dX11_leave_21 rfl rfl)

theorem mp_leave (hw : Wf μ) (h : MnV μ q d) (hg : ¬ goD q d) {i : Nat} (hi : i < dP d) : CV Y_X11_leave R_X11_leave [.ref 338, .int (nI i)] μ (fun v V => v = some (.int 0) ∧ MrQ μ 1 2 V) := by
  have hv := h.1
  have hM4 := hv.M4
  have hT4 := hv.T4
  have hP4 := hv.P4
  have hC4 := hv.C4
  have hU4 := hv.U4
  have hw1 : Wf (sI μ 338 0 0) := hw.sI
  have hv1 : MdV (sI μ 338 0 0) q d := hv.th 0
  refine CV.ent yk_X11_leave (Nat.le_of_ble_eq_true rfl) ?_
  refine lf (a_aload_n dX11_leave_0 rfl) ?_
  refine lf (a_aload_n dX11_leave_1 rfl) ?_
  refine lf (a_iload_n dX11_leave_2 rfl) ?_
  refine lf (a_inv (b2 := (0, 0)) (Ct.int (isO_lt hi (by omega)) (m_isPassenger (by repeat (first | with_reducible exact hw | with_reducible exact hwc | with_reducible assumption | with_reducible apply Wf.sI | with_reducible apply Wf.sL | with_reducible apply Wf.cpI | with_reducible apply Wf.cpL | with_reducible apply Wf.cp2 | with_reducible apply Wf.sIs | with_reducible apply Wf.sLs | with_reducible apply Wf.cpU | with_reducible apply Wf.fillI | with_reducible apply Wf.clU | with_reducible apply Wf.dnF | with_reducible apply Wf.gbW | with_reducible apply Wf.cpXf | with_reducible apply Wf.cpYf)) hv (nI i))) rfl dX11_leave_3 yk_X11_isPassenger im_X11_isPassenger se_X11_isPassenger ml_X11_385 rfl (co_338 (by repeat (first | with_reducible exact hw | with_reducible exact hwc | with_reducible assumption | with_reducible apply Wf.sI | with_reducible apply Wf.sL | with_reducible apply Wf.cpI | with_reducible apply Wf.cpL | with_reducible apply Wf.cp2 | with_reducible apply Wf.sIs | with_reducible apply Wf.sLs | with_reducible apply Wf.cpU | with_reducible apply Wf.fillI | with_reducible apply Wf.clU | with_reducible apply Wf.dnF | with_reducible apply Wf.gbW | with_reducible apply Wf.cpXf | with_reducible apply Wf.cpYf))) (by decide) hc_X11 (by decide) (by decide) (Nat.le_of_ble_eq_true rfl)) ?_
  refine lf2 (a_if_eq (tgt := 13) dX11_leave_6 (by decide)) (fun h6 => absurd h6 (by decide)) (fun h6 => ?_)
  refine lf (a_iconst (0 : Int32) dX11_leave_9 (by decide)) ?_
  refine lf (a_goto (tgt := 14) dX11_leave_10 (by decide)) ?_
  refine lf (a_inv (b2 := (0, 0)) (m_isRefused0 (by repeat (first | with_reducible exact hw | with_reducible exact hwc | with_reducible assumption | with_reducible apply Wf.sI | with_reducible apply Wf.sL | with_reducible apply Wf.cpI | with_reducible apply Wf.cpL | with_reducible apply Wf.cp2 | with_reducible apply Wf.sIs | with_reducible apply Wf.sLs | with_reducible apply Wf.cpU | with_reducible apply Wf.fillI | with_reducible apply Wf.clU | with_reducible apply Wf.dnF | with_reducible apply Wf.gbW | with_reducible apply Wf.cpXf | with_reducible apply Wf.cpYf))) rfl dX11_leave_14 yk_X11_isRefused im_X11_isRefused se_X11_isRefused ml_X11_98 rfl (co_338 (by repeat (first | with_reducible exact hw | with_reducible exact hwc | with_reducible assumption | with_reducible apply Wf.sI | with_reducible apply Wf.sL | with_reducible apply Wf.cpI | with_reducible apply Wf.cpL | with_reducible apply Wf.cp2 | with_reducible apply Wf.sIs | with_reducible apply Wf.sLs | with_reducible apply Wf.cpU | with_reducible apply Wf.fillI | with_reducible apply Wf.clU | with_reducible apply Wf.dnF | with_reducible apply Wf.gbW | with_reducible apply Wf.cpXf | with_reducible apply Wf.cpYf))) (by decide) hc_X11 (by decide) (by decide) (Nat.le_of_ble_eq_true rfl)) ?_
  refine lf2 (a_if_eq (tgt := 22) dX11_leave_17 (by decide)) (fun h17 => ?_) (fun h17 => absurd h17 (fun z => z rfl))
  refine lf (a_aload_n dX11_leave_22 rfl) ?_
  refine lf (a_aload_n dX11_leave_23 rfl) ?_
  refine lf (a_inv (b2 := (0, 0)) (Ct.int (ngo_in hg) (m_isGoing (by repeat (first | with_reducible exact hw | with_reducible exact hwc | with_reducible assumption | with_reducible apply Wf.sI | with_reducible apply Wf.sL | with_reducible apply Wf.cpI | with_reducible apply Wf.cpL | with_reducible apply Wf.cp2 | with_reducible apply Wf.sIs | with_reducible apply Wf.sLs | with_reducible apply Wf.cpU | with_reducible apply Wf.fillI | with_reducible apply Wf.clU | with_reducible apply Wf.dnF | with_reducible apply Wf.gbW | with_reducible apply Wf.cpXf | with_reducible apply Wf.cpYf)) (h.1.th 0))) rfl dX11_leave_24 yk_X11_isGoing im_X11_isGoing se_X11_isGoing ml_X11_401 rfl (co_338 (by repeat (first | with_reducible exact hw | with_reducible exact hwc | with_reducible assumption | with_reducible apply Wf.sI | with_reducible apply Wf.sL | with_reducible apply Wf.cpI | with_reducible apply Wf.cpL | with_reducible apply Wf.cp2 | with_reducible apply Wf.sIs | with_reducible apply Wf.sLs | with_reducible apply Wf.cpU | with_reducible apply Wf.fillI | with_reducible apply Wf.clU | with_reducible apply Wf.dnF | with_reducible apply Wf.gbW | with_reducible apply Wf.cpXf | with_reducible apply Wf.cpYf))) (by decide) hc_X11 (by decide) (by decide) (Nat.le_of_ble_eq_true rfl)) ?_
  refine lf2 (a_if_eq (tgt := 34) dX11_leave_27 (by decide)) (fun h27 => ?_) (fun h27 => absurd h27 (fun z => z rfl))
  refine lf (a_iconst (1 : Int32) dX11_leave_34 (by decide)) ?_
  refine lf (a_iconst (2 : Int32) dX11_leave_35 (by decide)) ?_
  refine lf (a_inv (b2 := (0, 0)) (m_refuses1 (by repeat (first | with_reducible exact hw | with_reducible exact hwc | with_reducible assumption | with_reducible apply Wf.sI | with_reducible apply Wf.sL | with_reducible apply Wf.cpI | with_reducible apply Wf.cpL | with_reducible apply Wf.cp2 | with_reducible apply Wf.sIs | with_reducible apply Wf.sLs | with_reducible apply Wf.cpU | with_reducible apply Wf.fillI | with_reducible apply Wf.clU | with_reducible apply Wf.dnF | with_reducible apply Wf.gbW | with_reducible apply Wf.cpXf | with_reducible apply Wf.cpYf)) (y := 1) (w := 2) (by decide) (by decide)) rfl dX11_leave_36 yk_X11_refuses im_X11_refuses se_X11_refuses ml_X11_407 rfl (co_338 (by repeat (first | with_reducible exact hw | with_reducible exact hwc | with_reducible assumption | with_reducible apply Wf.sI | with_reducible apply Wf.sL | with_reducible apply Wf.cpI | with_reducible apply Wf.cpL | with_reducible apply Wf.cp2 | with_reducible apply Wf.sIs | with_reducible apply Wf.sLs | with_reducible apply Wf.cpU | with_reducible apply Wf.fillI | with_reducible apply Wf.clU | with_reducible apply Wf.dnF | with_reducible apply Wf.gbW | with_reducible apply Wf.cpXf | with_reducible apply Wf.cpYf))) (by decide) hc_X11 (by decide) (by decide) (Nat.le_of_ble_eq_true rfl)) ?_
  refine lf2 (a_if_eq (tgt := 44) dX11_leave_39 (by decide)) (fun h39 => absurd h39 (by decide)) (fun h39 => ?_)
  refine lf (a_iconst (0 : Int32) dX11_leave_42 (by decide)) ?_
  refine ⟨_, _, (a_ireturn dX11_leave_43 rfl rfl), ?_⟩
  exact ⟨_, rfl, rfl, MrQ.of (MtQ.of hw 0) 1 2⟩
theorem l_X11_leave_68 (hw : Wf W) {P i : Nat} {x1 : Int32} (h3 : gI W 344 3 = nI P) (hi : i ≤ P) (hP : P < 40) {oc : Oc} {μ1 : Wd} (kx : AW Y_X11_leave R_X11_leave (0, 0) (cpX W 344 (5 + 4 * i + 4) 344 (5 + 4 * i) (4 * (P - i))) 102 [(0, .ref 338), (1, .int x1), (2, .int (nI (5 + 4 * i + 4 * (P - i))))] [] oc μ1) : ∀ dd m, m + dd = 4 * (P - i) → AW Y_X11_leave R_X11_leave (0, 0) (cpX W 344 (5 + 4 * i + 4) 344 (5 + 4 * i) m) 68 [(0, .ref 338), (1, .int x1), (2, .int (nI (5 + 4 * i + m)))] [] oc μ1 := by
  have e3 : ∀ m, gI (cpX W 344 (5 + 4 * i + 4) 344 (5 + 4 * i) m) 344 3 = nI P := fun m => by rw [gI_cpX, if_neg (by omega)]; exact h3
  intro dd
  induction dd with
  | zero =>
    intro m hm
    obtain rfl : 4 * (P - i) = m := by omega
    refine a_iload_n dX11_leave_68 rfl ?_
    refine a_aload_n dX11_leave_69 rfl ?_
    refine a_getR (cr_338_6 (by repeat (first | with_reducible exact hw | with_reducible exact hwc | with_reducible assumption | with_reducible apply Wf.sI | with_reducible apply Wf.sL | with_reducible apply Wf.cpI | with_reducible apply Wf.cpL | with_reducible apply Wf.cp2 | with_reducible apply Wf.sIs | with_reducible apply Wf.sLs | with_reducible apply Wf.cpU | with_reducible apply Wf.fillI | with_reducible apply Wf.clU | with_reducible apply Wf.dnF | with_reducible apply Wf.gbW | with_reducible apply Wf.cpXf | with_reducible apply Wf.cpYf))) dX11_leave_70 fs_X11_26 rfl (co_338 (by repeat (first | with_reducible exact hw | with_reducible exact hwc | with_reducible assumption | with_reducible apply Wf.sI | with_reducible apply Wf.sL | with_reducible apply Wf.cpI | with_reducible apply Wf.cpL | with_reducible apply Wf.cp2 | with_reducible apply Wf.sIs | with_reducible apply Wf.sLs | with_reducible apply Wf.cpU | with_reducible apply Wf.fillI | with_reducible apply Wf.clU | with_reducible apply Wf.dnF | with_reducible apply Wf.gbW | with_reducible apply Wf.cpXf | with_reducible apply Wf.cpYf))) ?_
    refine a_iconst (3 : Int32) dX11_leave_73 (by decide) ?_
    refine a_ild dX11_leave_74 (ca_344 (by repeat (first | with_reducible exact hw | with_reducible exact hwc | with_reducible assumption | with_reducible apply Wf.sI | with_reducible apply Wf.sL | with_reducible apply Wf.cpI | with_reducible apply Wf.cpL | with_reducible apply Wf.cp2 | with_reducible apply Wf.sIs | with_reducible apply Wf.sLs | with_reducible apply Wf.cpU | with_reducible apply Wf.fillI | with_reducible apply Wf.clU | with_reducible apply Wf.dnF | with_reducible apply Wf.gbW | with_reducible apply Wf.cpXf | with_reducible apply Wf.cpYf))) (ixn (m := 3) (by omega) (by decide)) ?_
    rw [e3]
    refine a_iconst (0 : Int32) dX11_leave_75 (by decide) ?_
    refine a_invS (b2 := (0, 0)) (m_passengerAt P 0) rfl dX11_leave_76 yk_X11_passengerAt sm_X11_passengerAt ml_X11_91 rfl (by decide) (by decide) (Nat.le_of_ble_eq_true rfl) ?_
    refine a_icmp_ge (tgt := 102) dX11_leave_79 (by decide) (fun h79 => ?_) (fun h79 => absurd h79 (fun z => z (nI_le (show 5 + 4 * P + 0 ≤ 5 + 4 * i + 4 * (P - i) by omega) (by omega))))
    exact a_loc _ rfl kx
  | succ dd ih =>
    intro m hm
    have qih := ih (m + 1) (by omega)
    rw [← cpX_succ] at qih
    refine a_iload_n dX11_leave_68 rfl ?_
    refine a_aload_n dX11_leave_69 rfl ?_
    refine a_getR (cr_338_6 (by repeat (first | with_reducible exact hw | with_reducible exact hwc | with_reducible assumption | with_reducible apply Wf.sI | with_reducible apply Wf.sL | with_reducible apply Wf.cpI | with_reducible apply Wf.cpL | with_reducible apply Wf.cp2 | with_reducible apply Wf.sIs | with_reducible apply Wf.sLs | with_reducible apply Wf.cpU | with_reducible apply Wf.fillI | with_reducible apply Wf.clU | with_reducible apply Wf.dnF | with_reducible apply Wf.gbW | with_reducible apply Wf.cpXf | with_reducible apply Wf.cpYf))) dX11_leave_70 fs_X11_26 rfl (co_338 (by repeat (first | with_reducible exact hw | with_reducible exact hwc | with_reducible assumption | with_reducible apply Wf.sI | with_reducible apply Wf.sL | with_reducible apply Wf.cpI | with_reducible apply Wf.cpL | with_reducible apply Wf.cp2 | with_reducible apply Wf.sIs | with_reducible apply Wf.sLs | with_reducible apply Wf.cpU | with_reducible apply Wf.fillI | with_reducible apply Wf.clU | with_reducible apply Wf.dnF | with_reducible apply Wf.gbW | with_reducible apply Wf.cpXf | with_reducible apply Wf.cpYf))) ?_
    refine a_iconst (3 : Int32) dX11_leave_73 (by decide) ?_
    refine a_ild dX11_leave_74 (ca_344 (by repeat (first | with_reducible exact hw | with_reducible exact hwc | with_reducible assumption | with_reducible apply Wf.sI | with_reducible apply Wf.sL | with_reducible apply Wf.cpI | with_reducible apply Wf.cpL | with_reducible apply Wf.cp2 | with_reducible apply Wf.sIs | with_reducible apply Wf.sLs | with_reducible apply Wf.cpU | with_reducible apply Wf.fillI | with_reducible apply Wf.clU | with_reducible apply Wf.dnF | with_reducible apply Wf.gbW | with_reducible apply Wf.cpXf | with_reducible apply Wf.cpYf))) (ixn (m := 3) (by omega) (by decide)) ?_
    rw [e3]
    refine a_iconst (0 : Int32) dX11_leave_75 (by decide) ?_
    refine a_invS (b2 := (0, 0)) (m_passengerAt P 0) rfl dX11_leave_76 yk_X11_passengerAt sm_X11_passengerAt ml_X11_91 rfl (by decide) (by decide) (Nat.le_of_ble_eq_true rfl) ?_
    refine a_icmp_ge (tgt := 102) dX11_leave_79 (by decide) (fun h79 => absurd h79 (nI_ge (show 5 + 4 * i + m < 5 + 4 * P + 0 by omega) (by omega))) (fun h79 => ?_)
    refine a_aload_n dX11_leave_82 rfl ?_
    refine a_getR (cr_338_6 (by repeat (first | with_reducible exact hw | with_reducible exact hwc | with_reducible assumption | with_reducible apply Wf.sI | with_reducible apply Wf.sL | with_reducible apply Wf.cpI | with_reducible apply Wf.cpL | with_reducible apply Wf.cp2 | with_reducible apply Wf.sIs | with_reducible apply Wf.sLs | with_reducible apply Wf.cpU | with_reducible apply Wf.fillI | with_reducible apply Wf.clU | with_reducible apply Wf.dnF | with_reducible apply Wf.gbW | with_reducible apply Wf.cpXf | with_reducible apply Wf.cpYf))) dX11_leave_83 fs_X11_26 rfl (co_338 (by repeat (first | with_reducible exact hw | with_reducible exact hwc | with_reducible assumption | with_reducible apply Wf.sI | with_reducible apply Wf.sL | with_reducible apply Wf.cpI | with_reducible apply Wf.cpL | with_reducible apply Wf.cp2 | with_reducible apply Wf.sIs | with_reducible apply Wf.sLs | with_reducible apply Wf.cpU | with_reducible apply Wf.fillI | with_reducible apply Wf.clU | with_reducible apply Wf.dnF | with_reducible apply Wf.gbW | with_reducible apply Wf.cpXf | with_reducible apply Wf.cpYf))) ?_
    refine a_iload_n dX11_leave_86 rfl ?_
    refine a_aload_n dX11_leave_87 rfl ?_
    refine a_getR (cr_338_6 (by repeat (first | with_reducible exact hw | with_reducible exact hwc | with_reducible assumption | with_reducible apply Wf.sI | with_reducible apply Wf.sL | with_reducible apply Wf.cpI | with_reducible apply Wf.cpL | with_reducible apply Wf.cp2 | with_reducible apply Wf.sIs | with_reducible apply Wf.sLs | with_reducible apply Wf.cpU | with_reducible apply Wf.fillI | with_reducible apply Wf.clU | with_reducible apply Wf.dnF | with_reducible apply Wf.gbW | with_reducible apply Wf.cpXf | with_reducible apply Wf.cpYf))) dX11_leave_88 fs_X11_26 rfl (co_338 (by repeat (first | with_reducible exact hw | with_reducible exact hwc | with_reducible assumption | with_reducible apply Wf.sI | with_reducible apply Wf.sL | with_reducible apply Wf.cpI | with_reducible apply Wf.cpL | with_reducible apply Wf.cp2 | with_reducible apply Wf.sIs | with_reducible apply Wf.sLs | with_reducible apply Wf.cpU | with_reducible apply Wf.fillI | with_reducible apply Wf.clU | with_reducible apply Wf.dnF | with_reducible apply Wf.gbW | with_reducible apply Wf.cpXf | with_reducible apply Wf.cpYf))) ?_
    refine a_iload_n dX11_leave_91 rfl ?_
    refine a_iconst (4 : Int32) dX11_leave_92 (by decide) ?_
    refine a_iadd dX11_leave_93 ?_
    rw [show nI (5 + 4 * i + m) + 4 = nI (5 + 4 * i + 4 + m) from by rw [show (4 : Int32) = nI 4 from rfl, nI_add]; congr 1; omega]
    refine a_ild dX11_leave_94 (ca_344 (by repeat (first | with_reducible exact hw | with_reducible exact hwc | with_reducible assumption | with_reducible apply Wf.sI | with_reducible apply Wf.sL | with_reducible apply Wf.cpI | with_reducible apply Wf.cpL | with_reducible apply Wf.cp2 | with_reducible apply Wf.sIs | with_reducible apply Wf.sLs | with_reducible apply Wf.cpU | with_reducible apply Wf.fillI | with_reducible apply Wf.clU | with_reducible apply Wf.dnF | with_reducible apply Wf.gbW | with_reducible apply Wf.cpXf | with_reducible apply Wf.cpYf))) (ixn (show 5 + 4 * i + 4 + m < 291 by omega) (by omega)) ?_
    rw [cpX_rd (Or.inr (Nat.le_add_right _ _))]
    refine a_ist dX11_leave_95 (ca_344 (by repeat (first | with_reducible exact hw | with_reducible exact hwc | with_reducible assumption | with_reducible apply Wf.sI | with_reducible apply Wf.sL | with_reducible apply Wf.cpI | with_reducible apply Wf.cpL | with_reducible apply Wf.cp2 | with_reducible apply Wf.sIs | with_reducible apply Wf.sLs | with_reducible apply Wf.cpU | with_reducible apply Wf.fillI | with_reducible apply Wf.clU | with_reducible apply Wf.dnF | with_reducible apply Wf.gbW | with_reducible apply Wf.cpXf | with_reducible apply Wf.cpYf))) (ixn (show 5 + 4 * i + m < 291 by omega) (by omega)) ?_
    refine a_iincN dX11_leave_96 rfl (by decide) ?_
    refine a_goto (tgt := 68) dX11_leave_99 (by decide) ?_
    exact a_loc _ rfl qih
theorem lea_fin {H : Hst} (hR : RmQ μ W q d H) (h0 : dF d 6 0 = 0) {i : Nat} (hi : i < dP d) (hZ : Z = cpX (sI W 344 3 (nI (dP d - 1))) 344 (5 + 4 * i + 4) 344 (5 + 4 * i) (4 * (dP d - 1 - i))) : MaQ μ Z q (leaveD d i) H := by
  have hO : Out s344 W Z := by
    rw [hZ]
    exact ((Out.rfl' hR.1).sI (S := s344) rfl _ _).cpXo (S := s344) rfl
  have hf := hR.2.1.fit
  have hr := hR.2.1.rx
  have hP := hf.1.2.2.2.1
  have e : ∀ x, gI Z 344 x = if 5 + 4 * i ≤ x ∧ x < 5 + 4 * i + 4 * (dP d - 1 - i) then gI W 344 (x + 4) else if x = 3 then nI (dP d - 1) else gI W 344 x := fun x => by
    rw [hZ, gI_cpX]
    by_cases z : 5 + 4 * i ≤ x ∧ x < 5 + 4 * i + 4 * (dP d - 1 - i)
    · rw [if_pos ⟨rfl, z⟩, if_pos z, gI_sI, if_neg (by omega)]
      congr 1
      omega
    · rw [if_neg (fun y => z y.2), if_neg z, gI_sI]
      by_cases z2 : x = 3
      · rw [if_pos ⟨rfl, z2⟩, if_pos z2]
      · rw [if_neg (fun y => z2 y.2), if_neg z2]
  clear hZ
  have g : ∀ a x, dF (leaveD d i) a x = if a < 3 ∧ i ≤ x ∧ x < dP d - 1 then dF d a (x + 1) else dF d a x := fun a x => rfl
  refine MaQ.fin hR hO ⟨⟨hf.1.1, hf.1.2.1, hf.1.2.2.1, show dP d - 1 ≤ 40 by omega, hf.1.2.2.2.2⟩, by rw [g, if_neg (by omega)]; exact hf.2.1, hf.2.2⟩ (hr.pas hf h0 rfl (fun a j ha => by rw [g, if_neg (by omega)]) (fun x hx => ?_) (by rw [e, if_neg (by omega), if_pos rfl]; rfl) (fun j (hj : j < dP d - 1) => ?_)) rfl
  · rw [e, if_neg (by omega), if_neg (by omega)]
  · rw [g, g, g]
    by_cases hl : i ≤ j
    · have e2 : ∀ k, k < 4 → gI Z 344 (5 + 4 * j + k) = gI W 344 (5 + 4 * (j + 1) + k) := fun k hk => by
        rw [e, if_pos ⟨by omega, by omega⟩]
        congr 1
        omega
      have g4 := hr.2.1.2.2.2.2.1 (j + 1) (by omega)
      rw [if_pos ⟨by decide, hl, hj⟩, if_pos ⟨by decide, hl, hj⟩, if_pos ⟨by decide, hl, hj⟩, e2 0 (by decide), e2 1 (by decide), e2 2 (by decide), e2 3 (by decide)]
      exact ⟨g4.1, g4.2.1, g4.2.2, hr.got h0 (by omega)⟩
    · have e2 : ∀ k, k < 4 → gI Z 344 (5 + 4 * j + k) = gI W 344 (5 + 4 * j + k) := fun k hk => by rw [e, if_neg (by omega), if_neg (by omega)]
      have g4 := hr.2.1.2.2.2.2.1 j (by omega)
      rw [if_neg (fun z => hl z.2.1), if_neg (fun z => hl z.2.1), if_neg (fun z => hl z.2.1), e2 0 (by decide), e2 1 (by decide), e2 2 (by decide), e2 3 (by decide)]
      exact ⟨g4.1, g4.2.1, g4.2.2, hr.got h0 (by omega)⟩

theorem v_leave (hw : Wf μ) (h : MnV μ q d) {H : Hst} (hp : MpV μ q H) (hgo : goD q d) {i : Nat} (hi : i < dP d) : CV Y_X11_leave R_X11_leave [.ref 338, .int (nI i)] μ (fun v V => v = some (.int (nI (dP d - 1))) ∧ MaQ μ V q (leaveD d i) (pushH H d)) := by
  have hv := h.1
  have hM4 := hv.M4
  have hT4 := hv.T4
  have hP4 := hv.P4
  have hC4 := hv.C4
  have hU4 := hv.U4
  have hw1 : Wf (sI μ 338 0 0) := hw.sI
  have hv1 : MdV (sI μ 338 0 0) q d := hv.th 0
  have h0 := (go_s0 hgo).1
  refine CV.ent yk_X11_leave (Nat.le_of_ble_eq_true rfl) ?_
  refine lf (a_aload_n dX11_leave_0 rfl) ?_
  refine lf (a_aload_n dX11_leave_1 rfl) ?_
  refine lf (a_iload_n dX11_leave_2 rfl) ?_
  refine lf (a_inv (b2 := (0, 0)) (Ct.int (isO_lt hi (by omega)) (m_isPassenger (by repeat (first | with_reducible exact hw | with_reducible exact hwc | with_reducible assumption | with_reducible apply Wf.sI | with_reducible apply Wf.sL | with_reducible apply Wf.cpI | with_reducible apply Wf.cpL | with_reducible apply Wf.cp2 | with_reducible apply Wf.sIs | with_reducible apply Wf.sLs | with_reducible apply Wf.cpU | with_reducible apply Wf.fillI | with_reducible apply Wf.clU | with_reducible apply Wf.dnF | with_reducible apply Wf.gbW | with_reducible apply Wf.cpXf | with_reducible apply Wf.cpYf)) hv (nI i))) rfl dX11_leave_3 yk_X11_isPassenger im_X11_isPassenger se_X11_isPassenger ml_X11_385 rfl (co_338 (by repeat (first | with_reducible exact hw | with_reducible exact hwc | with_reducible assumption | with_reducible apply Wf.sI | with_reducible apply Wf.sL | with_reducible apply Wf.cpI | with_reducible apply Wf.cpL | with_reducible apply Wf.cp2 | with_reducible apply Wf.sIs | with_reducible apply Wf.sLs | with_reducible apply Wf.cpU | with_reducible apply Wf.fillI | with_reducible apply Wf.clU | with_reducible apply Wf.dnF | with_reducible apply Wf.gbW | with_reducible apply Wf.cpXf | with_reducible apply Wf.cpYf))) (by decide) hc_X11 (by decide) (by decide) (Nat.le_of_ble_eq_true rfl)) ?_
  refine lf2 (a_if_eq (tgt := 13) dX11_leave_6 (by decide)) (fun h6 => absurd h6 (by decide)) (fun h6 => ?_)
  refine lf (a_iconst (0 : Int32) dX11_leave_9 (by decide)) ?_
  refine lf (a_goto (tgt := 14) dX11_leave_10 (by decide)) ?_
  refine lf (a_inv (b2 := (0, 0)) (m_isRefused0 (by repeat (first | with_reducible exact hw | with_reducible exact hwc | with_reducible assumption | with_reducible apply Wf.sI | with_reducible apply Wf.sL | with_reducible apply Wf.cpI | with_reducible apply Wf.cpL | with_reducible apply Wf.cp2 | with_reducible apply Wf.sIs | with_reducible apply Wf.sLs | with_reducible apply Wf.cpU | with_reducible apply Wf.fillI | with_reducible apply Wf.clU | with_reducible apply Wf.dnF | with_reducible apply Wf.gbW | with_reducible apply Wf.cpXf | with_reducible apply Wf.cpYf))) rfl dX11_leave_14 yk_X11_isRefused im_X11_isRefused se_X11_isRefused ml_X11_98 rfl (co_338 (by repeat (first | with_reducible exact hw | with_reducible exact hwc | with_reducible assumption | with_reducible apply Wf.sI | with_reducible apply Wf.sL | with_reducible apply Wf.cpI | with_reducible apply Wf.cpL | with_reducible apply Wf.cp2 | with_reducible apply Wf.sIs | with_reducible apply Wf.sLs | with_reducible apply Wf.cpU | with_reducible apply Wf.fillI | with_reducible apply Wf.clU | with_reducible apply Wf.dnF | with_reducible apply Wf.gbW | with_reducible apply Wf.cpXf | with_reducible apply Wf.cpYf))) (by decide) hc_X11 (by decide) (by decide) (Nat.le_of_ble_eq_true rfl)) ?_
  refine lf2 (a_if_eq (tgt := 22) dX11_leave_17 (by decide)) (fun h17 => ?_) (fun h17 => absurd h17 (fun z => z rfl))
  refine lf (a_aload_n dX11_leave_22 rfl) ?_
  refine lf (a_aload_n dX11_leave_23 rfl) ?_
  refine lf (a_inv (b2 := (0, 0)) (Ct.int (go_in hgo) (m_isGoing (by repeat (first | with_reducible exact hw | with_reducible exact hwc | with_reducible assumption | with_reducible apply Wf.sI | with_reducible apply Wf.sL | with_reducible apply Wf.cpI | with_reducible apply Wf.cpL | with_reducible apply Wf.cp2 | with_reducible apply Wf.sIs | with_reducible apply Wf.sLs | with_reducible apply Wf.cpU | with_reducible apply Wf.fillI | with_reducible apply Wf.clU | with_reducible apply Wf.dnF | with_reducible apply Wf.gbW | with_reducible apply Wf.cpXf | with_reducible apply Wf.cpYf)) (h.1.th 0))) rfl dX11_leave_24 yk_X11_isGoing im_X11_isGoing se_X11_isGoing ml_X11_401 rfl (co_338 (by repeat (first | with_reducible exact hw | with_reducible exact hwc | with_reducible assumption | with_reducible apply Wf.sI | with_reducible apply Wf.sL | with_reducible apply Wf.cpI | with_reducible apply Wf.cpL | with_reducible apply Wf.cp2 | with_reducible apply Wf.sIs | with_reducible apply Wf.sLs | with_reducible apply Wf.cpU | with_reducible apply Wf.fillI | with_reducible apply Wf.clU | with_reducible apply Wf.dnF | with_reducible apply Wf.gbW | with_reducible apply Wf.cpXf | with_reducible apply Wf.cpYf))) (by decide) hc_X11 (by decide) (by decide) (Nat.le_of_ble_eq_true rfl)) ?_
  refine lf2 (a_if_eq (tgt := 34) dX11_leave_27 (by decide)) (fun h27 => absurd h27 (by decide)) (fun h27 => ?_)
  refine lf (a_iconst (0 : Int32) dX11_leave_30 (by decide)) ?_
  refine lf (a_goto (tgt := 35) dX11_leave_31 (by decide)) ?_
  refine lf (a_iconst (2 : Int32) dX11_leave_35 (by decide)) ?_
  refine lf (a_inv (b2 := (0, 0)) (m_refuses0 (by repeat (first | with_reducible exact hw | with_reducible exact hwc | with_reducible assumption | with_reducible apply Wf.sI | with_reducible apply Wf.sL | with_reducible apply Wf.cpI | with_reducible apply Wf.cpL | with_reducible apply Wf.cp2 | with_reducible apply Wf.sIs | with_reducible apply Wf.sLs | with_reducible apply Wf.cpU | with_reducible apply Wf.fillI | with_reducible apply Wf.clU | with_reducible apply Wf.dnF | with_reducible apply Wf.gbW | with_reducible apply Wf.cpXf | with_reducible apply Wf.cpYf)) 2) rfl dX11_leave_36 yk_X11_refuses im_X11_refuses se_X11_refuses ml_X11_407 rfl (co_338 (by repeat (first | with_reducible exact hw | with_reducible exact hwc | with_reducible assumption | with_reducible apply Wf.sI | with_reducible apply Wf.sL | with_reducible apply Wf.cpI | with_reducible apply Wf.cpL | with_reducible apply Wf.cp2 | with_reducible apply Wf.sIs | with_reducible apply Wf.sLs | with_reducible apply Wf.cpU | with_reducible apply Wf.fillI | with_reducible apply Wf.clU | with_reducible apply Wf.dnF | with_reducible apply Wf.gbW | with_reducible apply Wf.cpXf | with_reducible apply Wf.cpYf))) (by decide) hc_X11 (by decide) (by decide) (Nat.le_of_ble_eq_true rfl)) ?_
  refine lf2 (a_if_eq (tgt := 44) dX11_leave_39 (by decide)) (fun h39 => ?_) (fun h39 => absurd h39 (fun z => z rfl))
  refine lf (a_aload_n dX11_leave_44 rfl) ?_
  obtain ⟨v_, W45, k45, rfl, hR⟩ := (v_rem (MtQ.of2 hw) h hp)
  have hwR := hR.1
  have hnR := hR.2.1
  have hvR := hnR.1
  refine lf (a_inv (b2 := (0, 0)) k45 rfl dX11_leave_45 yk_X11_remembers im_X11_remembers se_X11_remembers ml_X11_410 rfl (co_338 (by repeat (first | with_reducible exact hw | with_reducible exact hwc | with_reducible assumption | with_reducible apply Wf.sI | with_reducible apply Wf.sL | with_reducible apply Wf.cpI | with_reducible apply Wf.cpL | with_reducible apply Wf.cp2 | with_reducible apply Wf.sIs | with_reducible apply Wf.sLs | with_reducible apply Wf.cpU | with_reducible apply Wf.fillI | with_reducible apply Wf.clU | with_reducible apply Wf.dnF | with_reducible apply Wf.gbW | with_reducible apply Wf.cpXf | with_reducible apply Wf.cpYf))) (by decide) hc_X11 (by decide) (by decide) (Nat.le_of_ble_eq_true rfl)) ?_
  refine lf (a_aload_n dX11_leave_48 rfl) ?_
  refine lf (a_getR (cr_338_6 (by repeat (first | with_reducible exact hw | with_reducible exact hwc | with_reducible assumption | with_reducible apply Wf.sI | with_reducible apply Wf.sL | with_reducible apply Wf.cpI | with_reducible apply Wf.cpL | with_reducible apply Wf.cp2 | with_reducible apply Wf.sIs | with_reducible apply Wf.sLs | with_reducible apply Wf.cpU | with_reducible apply Wf.fillI | with_reducible apply Wf.clU | with_reducible apply Wf.dnF | with_reducible apply Wf.gbW | with_reducible apply Wf.cpXf | with_reducible apply Wf.cpYf))) dX11_leave_49 fs_X11_26 rfl (co_338 (by repeat (first | with_reducible exact hw | with_reducible exact hwc | with_reducible assumption | with_reducible apply Wf.sI | with_reducible apply Wf.sL | with_reducible apply Wf.cpI | with_reducible apply Wf.cpL | with_reducible apply Wf.cp2 | with_reducible apply Wf.sIs | with_reducible apply Wf.sLs | with_reducible apply Wf.cpU | with_reducible apply Wf.fillI | with_reducible apply Wf.clU | with_reducible apply Wf.dnF | with_reducible apply Wf.gbW | with_reducible apply Wf.cpXf | with_reducible apply Wf.cpYf)))) ?_
  refine lf (a_iconst (3 : Int32) dX11_leave_52 (by decide)) ?_
  refine lf (a_aload_n dX11_leave_53 rfl) ?_
  refine lf (a_getR (cr_338_6 (by repeat (first | with_reducible exact hw | with_reducible exact hwc | with_reducible assumption | with_reducible apply Wf.sI | with_reducible apply Wf.sL | with_reducible apply Wf.cpI | with_reducible apply Wf.cpL | with_reducible apply Wf.cp2 | with_reducible apply Wf.sIs | with_reducible apply Wf.sLs | with_reducible apply Wf.cpU | with_reducible apply Wf.fillI | with_reducible apply Wf.clU | with_reducible apply Wf.dnF | with_reducible apply Wf.gbW | with_reducible apply Wf.cpXf | with_reducible apply Wf.cpYf))) dX11_leave_54 fs_X11_26 rfl (co_338 (by repeat (first | with_reducible exact hw | with_reducible exact hwc | with_reducible assumption | with_reducible apply Wf.sI | with_reducible apply Wf.sL | with_reducible apply Wf.cpI | with_reducible apply Wf.cpL | with_reducible apply Wf.cp2 | with_reducible apply Wf.sIs | with_reducible apply Wf.sLs | with_reducible apply Wf.cpU | with_reducible apply Wf.fillI | with_reducible apply Wf.clU | with_reducible apply Wf.dnF | with_reducible apply Wf.gbW | with_reducible apply Wf.cpXf | with_reducible apply Wf.cpYf)))) ?_
  refine lf (a_iconst (3 : Int32) dX11_leave_57 (by decide)) ?_
  refine lf (a_ild dX11_leave_58 (ca_344 (by repeat (first | with_reducible exact hw | with_reducible exact hwc | with_reducible assumption | with_reducible apply Wf.sI | with_reducible apply Wf.sL | with_reducible apply Wf.cpI | with_reducible apply Wf.cpL | with_reducible apply Wf.cp2 | with_reducible apply Wf.sIs | with_reducible apply Wf.sLs | with_reducible apply Wf.cpU | with_reducible apply Wf.fillI | with_reducible apply Wf.clU | with_reducible apply Wf.dnF | with_reducible apply Wf.gbW | with_reducible apply Wf.cpXf | with_reducible apply Wf.cpYf))) (ixn (m := 3) (by omega) (by decide))) ?_
  rw [hvR.s3]
  refine lf (a_iconst (1 : Int32) dX11_leave_59 (by decide)) ?_
  refine lf (a_isub dX11_leave_60) ?_
  rw [show nI (dP d) - 1 = nI (dP d - 1) from nI_subI (b := 1) (by omega)]
  refine lf (a_ist dX11_leave_61 (ca_344 (by repeat (first | with_reducible exact hw | with_reducible exact hwc | with_reducible assumption | with_reducible apply Wf.sI | with_reducible apply Wf.sL | with_reducible apply Wf.cpI | with_reducible apply Wf.cpL | with_reducible apply Wf.cp2 | with_reducible apply Wf.sIs | with_reducible apply Wf.sLs | with_reducible apply Wf.cpU | with_reducible apply Wf.fillI | with_reducible apply Wf.clU | with_reducible apply Wf.dnF | with_reducible apply Wf.gbW | with_reducible apply Wf.cpXf | with_reducible apply Wf.cpYf))) (ixn (m := 3) (by omega) (by decide))) ?_
  refine lf (a_iload_n dX11_leave_62 rfl) ?_
  refine lf (a_iconst (0 : Int32) dX11_leave_63 (by decide)) ?_
  refine lf (a_invS (b2 := (0, 0)) (m_passengerAt i 0) rfl dX11_leave_64 yk_X11_passengerAt sm_X11_passengerAt ml_X11_91 rfl (by decide) (by decide) (Nat.le_of_ble_eq_true rfl)) ?_
  refine lf (a_istore_n dX11_leave_67 (by decide)) ?_
  have hwS : Wf (sI W45 344 3 (nI (dP d - 1))) := hwR.sI
  have h3 : gI (sI W45 344 3 (nI (dP d - 1))) 344 3 = nI (dP d - 1) := by rw [gI_sI, if_pos ⟨rfl, rfl⟩]
  have hfin := lea_fin hR h0 hi rfl
  have e3 : gI (cpX (sI W45 344 3 (nI (dP d - 1))) 344 (5 + 4 * i + 4) 344 (5 + 4 * i) (4 * (dP d - 1 - i))) 344 3 = nI (dP d - 1) := by rw [gI_cpX, if_neg (by omega)]; exact h3
  refine ⟨_, _, a_wd (cpX_zero (sI W45 344 3 (nI (dP d - 1))) 344 (5 + 4 * i + 4) 344 (5 + 4 * i)).symm (a_loc [(0, .ref 338), (1, .int (nI i)), (2, .int (nI (5 + 4 * i + 0)))] rfl (l_X11_leave_68 hwS h3 (by omega) (by omega) ?_ (4 * (dP d - 1 - i)) 0 (Nat.zero_add _))), _, rfl, rfl, hfin⟩
  refine a_aload_n dX11_leave_102 rfl ?_
  refine a_getR (cr_338_6 (by repeat (first | with_reducible exact hwS | with_reducible exact hwc | with_reducible assumption | with_reducible apply Wf.sI | with_reducible apply Wf.sL | with_reducible apply Wf.cpI | with_reducible apply Wf.cpL | with_reducible apply Wf.cp2 | with_reducible apply Wf.sIs | with_reducible apply Wf.sLs | with_reducible apply Wf.cpU | with_reducible apply Wf.fillI | with_reducible apply Wf.clU | with_reducible apply Wf.dnF | with_reducible apply Wf.gbW | with_reducible apply Wf.cpXf | with_reducible apply Wf.cpYf))) dX11_leave_103 fs_X11_26 rfl (co_338 (by repeat (first | with_reducible exact hwS | with_reducible exact hwc | with_reducible assumption | with_reducible apply Wf.sI | with_reducible apply Wf.sL | with_reducible apply Wf.cpI | with_reducible apply Wf.cpL | with_reducible apply Wf.cp2 | with_reducible apply Wf.sIs | with_reducible apply Wf.sLs | with_reducible apply Wf.cpU | with_reducible apply Wf.fillI | with_reducible apply Wf.clU | with_reducible apply Wf.dnF | with_reducible apply Wf.gbW | with_reducible apply Wf.cpXf | with_reducible apply Wf.cpYf))) ?_
  refine a_iconst (3 : Int32) dX11_leave_106 (by decide) ?_
  refine a_ild dX11_leave_107 (ca_344 (by repeat (first | with_reducible exact hwS | with_reducible exact hwc | with_reducible assumption | with_reducible apply Wf.sI | with_reducible apply Wf.sL | with_reducible apply Wf.cpI | with_reducible apply Wf.cpL | with_reducible apply Wf.cp2 | with_reducible apply Wf.sIs | with_reducible apply Wf.sLs | with_reducible apply Wf.cpU | with_reducible apply Wf.fillI | with_reducible apply Wf.clU | with_reducible apply Wf.dnF | with_reducible apply Wf.gbW | with_reducible apply Wf.cpXf | with_reducible apply Wf.cpYf))) (ixn (m := 3) (by omega) (by decide)) ?_
  rw [e3]
  exact a_out rfl rfl (a_ireturn dX11_leave_108 rfl rfl)
end MODELACT
