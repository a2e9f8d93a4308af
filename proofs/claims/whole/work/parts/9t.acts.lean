section ACTS
variable {μ W W' V : Wd} {p p0 : Nat} {q : PDt} {d d2 e : FDt} {H H2 : Hst} {S : Nat → Option FDt} {N L : Nat} {B : Nat → Nat} {os : List Int32} {nm : Nat → List Nat}
variable {Yc Ym : Yd} {rc rx rm : Room} {as : List Value} {ks : List (String × Nat)}
theorem nMx {i : Nat} (h : i = 339 ∨ i = 341 ∨ i = 363 ∨ i = 340) : ¬ sMx i := fun y => by rcases y with y | y | y <;> omega
theorem op_ref (h : RelP N p p0 q d H S L B os nm μ) {x : String} {k : Nat} {y : Int32} (hk : (x, k) ∈ ks) (hc : CO Yc rx (.ref 0 :: as) μ (fun o V => o = .inr x ∧ RfQ μ V y)) (hm : ∀ W', Wf W' → MnV W' q d → CV Ym rm (.ref 338 :: as) W' (fun r V => r = some (.int 0) ∧ MrQ W' y (nI k) V)) (hz : vTy Ym.2.2.2.1 (.int 0) := by exact Exists.intro _ rfl) : OpR Yc rc rx Ym rm as ks N μ := by
  obtain ⟨o, W, kc, rfl, W0, rfl, hO⟩ := hc
  have hC : ClP μ (sI W0 0 6 y) := (ClP.tr hO).trans (ClP.s6 hO.1 y)
  have hcr : CrV (sI W0 0 6 y) p q d H S := (h.cr.tr hO).o0 ((Out.rfl' hO.1).sI (S := fun i => i = 0) rfl _ _) (by rw [gI_sI, if_neg (by omega)])
  refine Or.inr ⟨x, k, _, hk, hC.1.1, kc, hC.1.2.2.2.1, fun W' ho => ?_⟩
  have h1 := (mid_cl h hC hcr).o h.gp.M4 ho
  rw [show gI (sI W0 0 6 y) 0 6 = y by rw [gI_sI, if_pos ⟨rfl, rfl⟩]] at h1
  obtain ⟨_, V, km, rfl, hO2, h4, v0, v15, vk⟩ := hm W' h1.1.wf h1.2.1.1
  have n : ∀ i, 345 ≤ i → ¬ (353 ≤ i ∧ i ≤ 361) → ¬ sMt i := fun i a b z => by rcases z with (z | z) | z <;> omega
  have e9 : gI V 339 = gI W' 339 := funext (hO2.i nMt.1)
  have e4 : gI V 344 = gI W' 344 := funext h4
  have hmn : MnV V q d := MnV.of (by rw [e9]; exact h1.2.1.1.1.2.2.1) h1.2.1.1.fit (by rw [e4]; exact h1.2.1.1.rx) (fun k hk => (hO2.l nMt.2.1 k).trans (h1.2.1.1.2.2 k hk))
  have hMo : MoP W' V := ⟨hO2.mono (fun i z => by rcases z with (z | z) | z <;> omega), fun k a _ c => vk k a c⟩
  exact ⟨.int 0, V, hz, km, v0, (h1.fin h.gp.M4 hMo ⟨hmn, h1.2.1.2.1.out hO2 (vk 14 (by decide) (by decide)) nMt.2.2.1 nMt.2.2.2, h1.2.1.2.2.out hO2 (n _ (by decide) (by decide)) (n _ (by decide) (by decide)) (n _ (by decide) (by decide))⟩ h.2.1.mono v15).v, hMo.1.l (nMx (by decide)) 0, hMo.1.2.2.2.1⟩
theorem rf_ct {x : String} {y : Int32} (hw : Wf μ) (h : Ct Yc rx as μ (.inr x) (sI μ 0 6 y)) : CO Yc rx as μ (fun o V => o = .inr x ∧ RfQ μ V y) := ⟨_, _, h, rfl, μ, rfl, Out.rfl' hw⟩
theorem op_act (h : RelP N p p0 q d H S L B os nm μ) {v : Value} (hc : CV Yc rc (.ref 0 :: as) μ (fun r V => r = some v ∧ ActQ μ V p q d2 H2 S)) (hs : StV (N + 1) p p0 q d2 H2 S) (hm : ∀ W', Wf W' → MnV W' q d → MpV W' q H → MsV W' q S → CV Ym rm (.ref 338 :: as) W' (fun r V => r = some v ∧ MnV V q d2 ∧ MpV V q H2 ∧ Out sAm W' V ∧ gI V 338 0 = 0 ∧ ∀ k, k ≠ 0 → k ≠ 14 → gI V 338 k = gI W' 338 k)) (ht : vTy Yc.2.2.2.1 v := by exact Exists.intro _ rfl) : OpR Yc rc rx Ym rm as ks N μ := by
  obtain ⟨_, W, kc, rfl, ha⟩ := hc
  refine Or.inl ⟨v, W, ht, ha.2.2.1.1, kc, ha.2.2.1.2.2.2.1, fun W' ho => ?_⟩
  have h1 := (mid_cl h (ClP.act ha) ha.1).o h.gp.M4 ho
  rw [ha.2.2.2.1 6 (by decide), h.2.2.2.2] at h1
  obtain ⟨_, V, km, rfl, m1, m2, m3, m4, m5⟩ := hm W' h1.1.wf h1.2.1.1 h1.2.1.2.1 h1.2.1.2.2
  have n : ∀ i, (i = 347 ∨ i = 350 ∨ i = 351) → ¬ sAm i := fun i a z => by rcases z with z | z | z | z | z | z <;> omega
  have hMo : MoP W' V := ⟨m3.mono (fun i z => by rcases z with z | z | z | z | z | z <;> omega), fun k a b _ => m5 k a b⟩
  exact ⟨V, km, m4, (h1.fin h.gp.M4 hMo ⟨m1, m2, h1.2.1.2.2.out m3 (n _ (by decide)) (n _ (by decide)) (n _ (by decide))⟩ hs ((m5 15 (by decide) (by decide)).trans h1.2.2.2.2)).v, hMo.1.l (nMx (by decide)) 0, hMo.1.2.2.2.1⟩
theorem st_push (h : StV N p p0 q d H S) (hH : H.1 ≤ 12) (hi : InD (N + 1) q d2) : StV (N + 1) p p0 q d2 (pushH H d) S := by
  have hm := h.mono
  refine ⟨h.1, hi, fun i hi => ?_, hm.2.2.2⟩
  unfold pushH at hi ⊢
  by_cases h12 : H.1 = 12
  · rw [if_pos h12] at hi ⊢
    show InD (N + 1) q (if i = 11 then d else H.2 (i + 1))
    have hi : i < 12 := hi
    split
    · exact hm.2.1
    · exact hm.2.2.1 _ (by omega)
  · rw [if_neg h12] at hi ⊢
    show InD (N + 1) q (if i = H.1 then d else H.2 i)
    have hi : i < H.1 + 1 := hi
    split
    · exact hm.2.1
    · exact hm.2.2.1 _ (by omega)
theorem RelP.h12 (h : RelP N p p0 q d H S L B os nm μ) : H.1 ≤ 12 := h.mp.2.1
theorem RelP.up (h : RelP N p p0 q d H S L B os nm μ) : InD (N + 1) q d := h.ind.mono (by omega)
theorem ph_three (q : PDt) (d : FDt) : phD q d = 1 ∨ phD q d = 2 ∨ ¬ goD q d := by
  by_cases h1 : phD q d = 1
  · exact Or.inl h1
  · by_cases h2 : phD q d = 2
    · exact Or.inr (Or.inl h2)
    · exact Or.inr (Or.inr (fun y => y.elim h1 h2))
theorem o_leave (h : RelV N μ) (x : Int32) : OpR Y_X10_leave R_X10_leave RX_X10_leave Y_X11_leave R_X11_leave [.int x] [(NSE, 1), (ISE, 2)] N μ := by
  obtain ⟨p, p0, q, d, H, S, L, B, os, nm, h⟩ := h
  have hw := h.cr.wf
  have hv := h.cr.fv
  have hq := h.cr.pv
  have hg := h.gp
  have hd := h.ind.1
  have hn := h.ind.2.2.1
  have he := h.ind.2.2.2.1
  have hI := h.up
  cases e1 : ixO x (dP d) with
  | none => exact op_no h (k := 1) (by simp) (cx_leave hw hv hq e1) (fun W' h' => no_1 h'.cr.wf rfl (mx_leave h'.cr.wf h'.mn e1))
  | some i =>
    obtain ⟨hi, rfl⟩ := ixO_some e1
    by_cases hgo : goD q d
    · exact op_act h (c_leave h.cr hd hgo hi) (st_push h.2.1 h.h12 (hI.leave hgo hi)) (fun W' w' m' p' _ => v_leave w' m' p' hgo hi)
    · exact op_ref h (k := 2) (by simp) (rf_ct hw (cy_leave hw hv hq hgo hi)) (fun W' w' m' => mp_leave w' m' hgo hi)
theorem o_setNeeds (h : RelV N μ) (x y : Int32) : OpR Y_X10_setNeeds R_X10_setNeeds RX_X10_setNeeds Y_X11_setNeeds R_X11_setNeeds [.int x, .int y] [(NSE, 1), (IAE, 2), (ISE, 3)] N μ := by
  obtain ⟨p, p0, q, d, H, S, L, B, os, nm, h⟩ := h
  have hw := h.cr.wf
  have hv := h.cr.fv
  have hq := h.cr.pv
  have hg := h.gp
  have hd := h.ind.1
  have hn := h.ind.2.2.1
  have he := h.ind.2.2.2.1
  have hI := h.up
  cases e1 : ixO x (dP d) with
  | none => exact op_no h (k := 1) (by simp) (cx_setNeeds hw hv hq e1) (fun W' h' => no_1 h'.cr.wf rfl (mx_setNeeds h'.cr.wf h'.mn e1))
  | some i =>
    obtain ⟨hi, rfl⟩ := ixO_some e1
    cases e2 : ixO y 256 with
    | none => exact op_no h (k := 2) (by simp) (cy_setNeeds hw hv hq hi e2) (fun W' h' => no_1 h'.cr.wf rfl (my_setNeeds h'.cr.wf h'.mn hi e2))
    | some n =>
      obtain ⟨hn2, rfl⟩ := ixO_some e2
      by_cases hgo : goD q d
      · exact op_act h (c_setNeeds h.cr hd hgo hi hn2) (st_push h.2.1 h.h12 (hI.nees hgo hn2)) (fun W' w' m' p' _ => v_setNeeds w' m' p' hgo hi hn2)
      · exact op_ref h (k := 3) (by simp) (rf_ct hw (cz_setNeeds hw hv hq hgo hi hn2)) (fun W' w' m' => mp_setNeeds w' m' hgo hi hn2)
theorem o_change (h : RelV N μ) (x y : Int32) : OpR Y_X10_change R_X10_change RX_X10_change Y_X11_change R_X11_change [.int x, .int y] [(NSE, 1), (IAE, 2), (ISE, 3)] N μ := by
  obtain ⟨p, p0, q, d, H, S, L, B, os, nm, h⟩ := h
  have hw := h.cr.wf
  have hv := h.cr.fv
  have hq := h.cr.pv
  have hg := h.gp
  have hd := h.ind.1
  have hn := h.ind.2.2.1
  have he := h.ind.2.2.2.1
  have hI := h.up
  cases e1 : ixO x (dP d) with
  | none => exact op_no h (k := 1) (by simp) (cx_change hw hv hq e1) (fun W' h' => no_1 h'.cr.wf rfl (mx_change h'.cr.wf h'.mn e1))
  | some i =>
    obtain ⟨hi, rfl⟩ := ixO_some e1
    cases e2 : ixO y (pC q) with
    | none => exact op_no h (k := 1) (by simp) (cy_change hw hv hq hi e2) (fun W' h' => no_1 h'.cr.wf rfl (my_change h'.cr.wf h'.mn hi e2))
    | some c =>
      obtain ⟨hc, rfl⟩ := ixO_some e2
      by_cases hne : dF d 0 i = nI c
      · exact op_no h (k := 2) (by simp) (cz_change hw hv hq hi hc hne) (fun W' h' => no_1 h'.cr.wf rfl (mz_change h'.cr.wf h'.mn hi hc hne))
      · by_cases hgo : goD q d
        · by_cases hfr : pF q 0 c - paD d (nI c) < 1
          · exact op_ref h (k := 3) (by simp) (rf_ct hw (cs_change hw hv hq hgo hi hc hne hfr)) (fun W' w' m' => ms_change w' m' hg hd hgo hi hc hne hfr)
          · exact op_act h (c_change h.cr hd hgo hi hc hne hfr) (st_push h.2.1 h.h12 (hI.chg hgo hc)) (fun W' w' m' p' _ => v_change w' m' p' hg hd hgo hi hc hne hfr)
        · exact op_ref h (k := 3) (by simp) (rf_ct hw (cp_change hw hv hq hgo hi hc hne)) (fun W' w' m' => mp_change w' m' hgo hi hc hne)
theorem o_unload (h : RelV N μ) (x y : Int32) : OpR Y_X10_unload R_X10_unload RX_X10_unload Y_X11_unload R_X11_unload [.int x, .int y] [(NSE, 1), (IAE, 2), (ISE, 3)] N μ := by
  obtain ⟨p, p0, q, d, H, S, L, B, os, nm, h⟩ := h
  have hw := h.cr.wf
  have hv := h.cr.fv
  have hq := h.cr.pv
  have hg := h.gp
  have hd := h.ind.1
  have hn := h.ind.2.2.1
  have he := h.ind.2.2.2.1
  have hI := h.up
  cases e1 : ixO x (pM q) with
  | none => exact op_no h (k := 1) (by simp) (cx_unload hw hv hq e1) (fun W' h' => no_1 h'.cr.wf rfl (mx_unload h'.cr.wf h'.mn e1))
  | some m =>
    obtain ⟨hm, rfl⟩ := ixO_some e1
    cases e2 : unO y with
    | none => exact op_no h (k := 2) (by simp) (cy_unload hw hv hq hm e2) (fun W' h' => no_1 h'.cr.wf rfl (my_unload h'.cr.wf h'.mn hm e2))
    | some n =>
      obtain ⟨g1, g2, rfl⟩ := unO_some e2
      by_cases hgo : goD q d
      · by_cases hld : nI n ≤ ldD q d m
        · exact op_act h (c_unload h.cr hd hgo hm g1 g2 hld) (st_push h.2.1 h.h12 (hI.to hg hgo hm (by omega))) (fun W' w' m' p' _ => v_unload w' m' p' hg hd hgo hm g1 g2 hld)
        · exact op_ref h (k := 3) (by simp) (rf_ct hw (cr_unload hw hv hq hgo hm g1 g2 hld)) (fun W' w' m' => mr_unload w' m' hgo hm g1 g2 hld)
      · exact op_ref h (k := 3) (by simp) (rf_ct hw (cp_unload hw hv hq hgo hm g1 g2)) (fun W' w' m' => mp_unload w' m' hgo hm g1 g2)
theorem o_topUp (h : RelV N μ) (x y : Int32) : OpR Y_X10_topUp R_X10_topUp RX_X10_topUp Y_X11_topUp R_X11_topUp [.int x, .int y] [(NSE, 1), (IAE, 2), (ISE, 3)] N μ := by
  obtain ⟨p, p0, q, d, H, S, L, B, os, nm, h⟩ := h
  have hw := h.cr.wf
  have hv := h.cr.fv
  have hq := h.cr.pv
  have hg := h.gp
  have hd := h.ind.1
  have hn := h.ind.2.2.1
  have he := h.ind.2.2.2.1
  have hI := h.up
  cases e1 : ixO x (pM q) with
  | none => exact op_no h (k := 1) (by simp) (cx_topUp hw hv hq e1) (fun W' h' => no_1 h'.cr.wf rfl (mx_topUp h'.cr.wf h'.mn e1))
  | some m =>
    obtain ⟨hm, rfl⟩ := ixO_some e1
    cases e2 : unO y with
    | none => exact op_no h (k := 2) (by simp) (cy_topUp hw hv hq hm e2) (fun W' h' => no_1 h'.cr.wf rfl (my_topUp h'.cr.wf h'.mn hm e2))
    | some n =>
      obtain ⟨g1, g2, rfl⟩ := unO_some e2
      by_cases hgo : goD q d
      · by_cases hU : dU d < 6
        · by_cases hle : pF q 9 3 ≤ dF d 6 1
          · exact op_act h (c_topUp h.cr hd hg hgo hm g1 g2 hU hle) (st_push h.2.1 h.h12 (hI.top hg hgo hm g1 g2 hU hle)) (fun W' w' m' p' _ => v_topUp w' m' p' hg h.ind.2.1 hgo hm g1 g2 hU hle)
          · exact op_ref h (k := 3) (by simp) (rf_ct hw (cs_topUp hw hv hq hgo hm g1 g2 hU hle)) (fun W' w' m' => ms_topUp w' m' hgo hm g1 g2 hU hle)
        · exact op_ref h (k := 3) (by simp) (rf_ct hw (cr_topUp hw hv hq hgo hm g1 g2 (by omega))) (fun W' w' m' => mr_topUp w' m' hgo hm g1 g2 (by have := hd.U4; omega))
      · exact op_ref h (k := 3) (by simp) (rf_ct hw (cp_topUp hw hv hq hgo hm g1 g2)) (fun W' w' m' => mp_topUp w' m' hgo hm g1 g2)
theorem o_store (h : RelV N μ) (x y : Int32) : OpR Y_X10_store R_X10_store RX_X10_store Y_X11_store R_X11_store [.int x, .int y] [(NSE, 1), (IAE, 2), (ISE, 3)] N μ := by
  obtain ⟨p, p0, q, d, H, S, L, B, os, nm, h⟩ := h
  have hw := h.cr.wf
  have hv := h.cr.fv
  have hq := h.cr.pv
  have hg := h.gp
  have hd := h.ind.1
  have hn := h.ind.2.2.1
  have he := h.ind.2.2.2.1
  have hI := h.up
  cases e1 : ixO x (pM q) with
  | none => exact op_no h (k := 1) (by simp) (cx_store hw hv hq e1) (fun W' h' => no_1 h'.cr.wf rfl (mx_store h'.cr.wf h'.mn e1))
  | some m =>
    obtain ⟨hm, rfl⟩ := ixO_some e1
    cases e2 : unO y with
    | none => exact op_no h (k := 2) (by simp) (cy_store hw hv hq hm e2) (fun W' h' => no_1 h'.cr.wf rfl (my_store h'.cr.wf h'.mn hm e2))
    | some n =>
      obtain ⟨g1, g2, rfl⟩ := unO_some e2
      rcases ph_three q d with h1 | h2 | hgo
      · by_cases hst : nI n ≤ nI (stM q m n d).1
        · have hi2 := hI.st hg (Or.inl h1) hm n
          exact op_act h (c_store h.cr hd h1 hm g1 g2 hst hi2.1.s01) (st_push h.2.1 h.h12 (hi2)) (fun W' w' m' p' _ => v_store w' m' p' hg hd h1 hm g1 g2 hst)
        · exact op_ref h (k := 3) (by simp) (cr_store h.cr hd h1 hm g1 g2 hst) (fun W' w' m' => mr_store w' m' h1 hm g1 g2 hst)
      · exact op_ref h (k := 3) (by simp) (rf_ct hw (cs_store hw hv hq h2 hm g1 g2)) (fun W' w' m' => ms_store w' m' h2 hm g1 g2)
      · exact op_ref h (k := 3) (by simp) (rf_ct hw (cp_store hw hv hq hgo hm g1 g2)) (fun W' w' m' => mp_store w' m' hgo hm g1 g2)
theorem o_loadOrder (h : RelV N μ) : OpR Y_X10_loadOrder R_X10_loadOrder RX_X10_loadOrder Y_X11_loadOrder R_X11_loadOrder [] [(ISE, 1)] N μ := by
  obtain ⟨p, p0, q, d, H, S, L, B, os, nm, h⟩ := h
  have hw := h.cr.wf
  have hv := h.cr.fv
  have hq := h.cr.pv
  have hg := h.gp
  have hd := h.ind.1
  have hn := h.ind.2.2.1
  have he := h.ind.2.2.2.1
  have hI := h.up
  rcases ph_three q d with h1 | h2 | hgo
  · have hi2 := hI.so hg (Or.inl h1) (orD q d)
    cases e1 : soF q (orD q d) (pM q) 0 0 d with
    | mk a t2 =>
      rw [e1] at hi2
      cases a with
      | none => exact op_ref h (k := 1) (by simp) (cr_loadOrder h.cr hd h1 (by rw [e1])) (fun W' w' m' => mr_loadOrder w' m' hg hd h1 (by rw [e1]))
      | some s =>
        obtain ⟨z, hz, hz2⟩ := so_pos hg (pM q) 0 0 d (Nat.zero_add _) hd (by have := hg.M4; omega) e1
        exact op_act h (c_loadOrder h.cr hd h1 e1 hi2.1.s01) (st_push h.2.1 h.h12 (hi2)) (fun W' w' m' p' _ => v_loadOrder w' m' p' hg hd h1 e1 (by rw [hz]; exact nI_ne1 (by have := hg.M4; omega)))
  · exact op_ref h (k := 1) (by simp) (rf_ct hw (cs_loadOrder hw hv hq h2)) (fun W' w' m' => ms_loadOrder w' m' h2)
  · exact op_ref h (k := 1) (by simp) (rf_ct hw (cp_loadOrder hw hv hq hgo)) (fun W' w' m' => mp_loadOrder w' m' hgo)
theorem rng_of {x : Int32} {b : Nat} (hb : b < 2 ^ 31) (h : ¬ (x < 1 ∨ nI b < x)) : ∃ n, 1 ≤ n ∧ n ≤ b ∧ x = nI n := by
  have h0 : ¬ x < 0 := fun y => h (Or.inl (Int32.lt_trans y (by decide)))
  obtain ⟨j, hj, rfl⟩ := nI_of h0
  refine ⟨j, ?_, ?_, rfl⟩
  · have : ¬ nI j < nI 1 := fun y => h (Or.inl y)
    rw [nI_ltI hj (by decide)] at this; omega
  · have : ¬ nI b < nI j := fun y => h (Or.inr y)
    rw [nI_ltI hb hj] at this; omega
theorem o_advance (h : RelV N μ) (x : Int32) : OpR Y_X10_advance R_X10_advance RX_X10_advance Y_X11_advance R_X11_advance [.int x] [(IAE, 1), (ISE, 2)] N μ := by
  obtain ⟨p, p0, q, d, H, S, L, B, os, nm, h⟩ := h
  have hw := h.cr.wf
  have hv := h.cr.fv
  have hq := h.cr.pv
  have hg := h.gp
  have hd := h.ind.1
  have hn := h.ind.2.2.1
  have he := h.ind.2.2.2.1
  have hI := h.up
  by_cases hx : x < 1 ∨ 999 < x
  · exact op_no h (k := 1) (by simp) (cx_advance hw hv hq hx) (fun W' h' => no_1 h'.cr.wf rfl (mx_advance h'.cr.wf h'.mn hx))
  · obtain ⟨n, g1, g2, rfl⟩ := rng_of (b := 999) (by decide) hx
    by_cases hgo : goD q d
    · by_cases hmi : nI n ≤ dF d 6 1
      · have ha := hI.adv hg hgo g1 hmi g2
        exact op_act h (c_advance h.cr hd hg hgo g1 g2 hmi ha.1) (st_push h.2.1 h.h12 (ha.2)) (fun W' w' m' p' _ => v_advance w' m' p' hg hgo g1 g2 hmi ha.1)
      · exact op_ref h (k := 2) (by simp) (rf_ct hw (cr_advance hw hv hq hgo g1 g2 hmi)) (fun W' w' m' => mr_advance w' m' hgo g1 g2 hmi)
    · exact op_ref h (k := 2) (by simp) (rf_ct hw (cp_advance hw hv hq hgo g1 g2)) (fun W' w' m' => mp_advance w' m' hgo g1 g2)
theorem o_serve (h : RelV N μ) : OpR Y_X10_serve R_X10_serve RX_X10_serve Y_X11_serve R_X11_serve [] [(ISE, 1)] N μ := by
  obtain ⟨p, p0, q, d, H, S, L, B, os, nm, h⟩ := h
  have hw := h.cr.wf
  have hv := h.cr.fv
  have hq := h.cr.pv
  have hg := h.gp
  have hd := h.ind.1
  have hn := h.ind.2.2.1
  have he := h.ind.2.2.2.1
  have hI := h.up
  by_cases hgo : goD q d
  · obtain ⟨_, _, _, _, _, _, G, rs, n, hS, _⟩ := c_freshService hw hv hq hg hd h.cr.sv
    exact op_act h (c_serve h.cr hd hg hgo) (st_push h.2.1 h.h12 (h.ind.srv hg hgo hS)) (fun W' w' m' p' _ => v_serve w' m' p' hg hd he hgo)
  · exact op_ref h (k := 1) (by simp) (rf_ct hw (cx_serve hw hv hq hgo)) (fun W' w' m' => mp_serve w' m' hgo)
theorem o_board (h : RelV N μ) (x y z : Int32) : OpR Y_X10_board R_X10_board RX_X10_board Y_X11_board R_X11_board [.int x, .int y, .int z] [(NSE, 1), (IAE, 2), (ISE, 3)] N μ := by
  obtain ⟨p, p0, q, d, H, S, L, B, os, nm, h⟩ := h
  have hw := h.cr.wf
  have hv := h.cr.fv
  have hq := h.cr.pv
  have hg := h.gp
  have hd := h.ind.1
  have hn := h.ind.2.2.1
  have he := h.ind.2.2.2.1
  have hI := h.up
  cases e1 : ixO x (pC q) with
  | none => exact op_no h (k := 1) (by simp) (cx_board hw hv hq e1) (fun W' h' => no_1 h'.cr.wf rfl (mx_board h'.cr.wf h'.mn (m_wb_c h'.cr.wf h'.mn.1 e1) (by decide)))
  | some c =>
    obtain ⟨hc, rfl⟩ := ixO_some e1
    by_cases hz : z = -1
    · subst hz
      cases e2 : ixO y 256 with
      | none => exact op_no h (k := 2) (by simp) (cz_board_n hw hv hq hc e2) (fun W' h' => no_1 h'.cr.wf rfl (mx_board h'.cr.wf h'.mn (m_wb_n h'.cr.wf h'.mn.1 hc e2) (by decide)))
      | some n =>
        obtain ⟨hn2, rfl⟩ := ixO_some e2
        by_cases hgo : goD q d
        · by_cases hP : dP d < 40
          · by_cases hfr : pF q 0 c - paD d (nI c) < 1
            · exact op_ref h (k := 3) (by simp) (rf_ct hw (cs_board_n hw hv hq hgo hc hn2 hP hfr)) (fun W' w' m' => ms_board w' m' hg hd hgo hc (m_wb_0 w' m'.1 hc hn2) hP hfr)
            · exact op_act h (c_board_n h.cr hd hgo hc hn2 hP hfr) (st_push h.2.1 h.h12 (hI.brd hgo hP hc hn2 (Or.inl rfl))) (fun W' w' m' p' _ => v_board w' m' p' hg hd hgo hc (m_wb_0 w' m'.1 hc hn2) hP hfr)
          · exact op_ref h (k := 3) (by simp) (rf_ct hw (cr_board_n hw hv hq hgo hc hn2 (by omega))) (fun W' w' m' => mr_board w' m' hgo hc (m_wb_0 w' m'.1 hc hn2) (by omega))
        · exact op_ref h (k := 3) (by simp) (rf_ct hw (cp_board_n hw hv hq hgo hc hn2)) (fun W' w' m' => mp_board w' m' hgo hc (m_wb_0 w' m'.1 hc hn2))
    · cases e3 : ixO z (pM q) with
      | none => exact op_no h (k := 1) (by simp) (cy_board hw hv hq hc hz e3) (fun W' h' => no_1 h'.cr.wf rfl (mx_board h'.cr.wf h'.mn (m_wb_m h'.cr.wf h'.mn.1 hc hz e3) (by decide)))
      | some m =>
        obtain ⟨hm, rfl⟩ := ixO_some e3
        cases e2 : ixO y 256 with
        | none => exact op_no h (k := 2) (by simp) (cz_board_w hw hv hq hc hm e2) (fun W' h' => no_1 h'.cr.wf rfl (mx_board h'.cr.wf h'.mn (m_wb_nw h'.cr.wf h'.mn.1 hc hm e2) (by decide)))
        | some n =>
          obtain ⟨hn2, rfl⟩ := ixO_some e2
          by_cases hwm : pF q 2 m = nI c
          · by_cases hgo : goD q d
            · by_cases hP : dP d < 40
              · by_cases hfr : pF q 0 c - paD d (nI c) < 1
                · exact op_ref h (k := 3) (by simp) (rf_ct hw (cs_board_w hw hv hq hgo hc hn2 hm hwm hP hfr)) (fun W' w' m' => ms_board w' m' hg hd hgo hc (m_wb_0w w' m'.1 hc hm hn2 hwm) hP hfr)
                · exact op_act h (c_board_w h.cr hd hgo hc hn2 hm hwm hP hfr) (st_push h.2.1 h.h12 (hI.brd hgo hP hc hn2 (Or.inr ⟨m, hm, rfl⟩))) (fun W' w' m' p' _ => v_board w' m' p' hg hd hgo hc (m_wb_0w w' m'.1 hc hm hn2 hwm) hP hfr)
              · exact op_ref h (k := 3) (by simp) (rf_ct hw (cr_board_w hw hv hq hgo hc hn2 hm hwm (by omega))) (fun W' w' m' => mr_board w' m' hgo hc (m_wb_0w w' m'.1 hc hm hn2 hwm) (by omega))
            · exact op_ref h (k := 3) (by simp) (rf_ct hw (cp_board_w hw hv hq hgo hc hn2 hm hwm )) (fun W' w' m' => mp_board w' m' hgo hc (m_wb_0w w' m'.1 hc hm hn2 hwm))
          · exact op_no h (k := 2) (by simp) (cm_board hw hv hq hc hn2 hm hwm) (fun W' h' => no_1 h'.cr.wf rfl (mx_board h'.cr.wf h'.mn (m_wb_w h'.cr.wf h'.mn.1 hc hm hn2 hwm) (by decide)))
end ACTS
