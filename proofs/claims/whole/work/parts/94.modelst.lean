section MODELST
variable {μ W V Z : Wd} {q : PDt} {d d2 : FDt} {k : Nat}
/-- units taken back after a trial -/
theorem bk_f {v : Int32} (hB : MtQ μ v W) {S : Nat → Prop} (hO : Out S (mkU W 96) V) (hS : ∀ i, S i → i = 344 ∨ i = 353 ∨ i = 354) (hx : ∀ x, x < 165 ∨ 261 ≤ x → gI V 344 x = gI (mkU W 96) 344 x) : MtQ μ v (bkU V 96) := by
  have hm : Out sMt W (mkU W 96) := (Out.rfl' hB.1.wf).sIs (S := sMt) fun i hi x => if_neg fun z => hi (Or.inl (Or.inr (by omega)))
  have hv : Out sMt (mkU W 96) V := hO.mono (fun i y => by rcases hS i y with e | e | e; exact Or.inr e; exact Or.inl (Or.inr (by omega)); exact Or.inl (Or.inr (by omega)))
  have hz : Out sMt V (bkU V 96) := (Out.rfl' hO.wf).sIs (S := sMt) fun i hi x => if_neg fun z => hi (Or.inr z.1)
  have e8 : ∀ k, gI (bkU V 96) 338 k = gI W 338 k := fun k => by
    rw [gI_bkU, if_neg (by omega), hO.i (fun z => by rcases hS _ z with e | e | e <;> omega), gI_mkU, if_neg (by omega)]
  refine ⟨hB.1.trans ((hm.trans hv).trans hz), fun x => ?_, (e8 0).trans hB.2.2.1, fun k hk => (e8 k).trans (hB.2.2.2 k hk)⟩
  rw [← hB.2.1 x, gI_bkU]
  by_cases h : 165 ≤ x ∧ x < 165 + 96
  · rw [if_pos ⟨rfl, h⟩, hO.i (fun z => by rcases hS _ z with e | e | e <;> omega), gI_mkU, if_pos ⟨rfl, by omega⟩, show 165 + (x - 165) = x by omega]
  · rw [if_neg (fun z => h z.2), hx x (by omega), gI_mkU, if_neg (by omega)]
/-- units stored for good -/
theorem MaQ.so {H : Hst} (hR : RmQ μ W q d H) (hm : MdV V q d2) (hO : Out s344O W V) (hx : ∀ x, x < 165 ∨ 261 ≤ x → gI V 344 x = gI W 344 x) (h0 : dF d 6 0 = 0) (hP : dP d2 = dP d) (hA : dA d2 = dA d) (h1 : dF d2 6 0 = 0) : MaQ μ V q d2 H := by
  have hr := hR.2.1.rx
  have hf := hR.2.1.fit
  have hM := hf.1.2.1
  have hPP := hf.1.2.2.2.1
  refine MaQ.fin' hR hO hm.2.1 ⟨hm.1, hm.2.2.2, fun i hi => ?_, fun m hmm => ?_⟩ hA
  · rw [if_pos h1, hx _ (by omega)]
    exact hr.got h0 (by omega)
  · rw [if_pos h1, hx _ (by omega), hr.2.2.2 m hmm, if_pos h0]
theorem MdV.mt {v : Int32} (h : MdV μ q d) (hW : MtQ μ v W) : MdV W q d := h.fr (hW.1.i nMt.1) hW.2.1
abbrev R_X11_whyNotLoad : Room := { frames := 2, cells := 0, slots := 0, locals := 42 }
abbrev RX_X11_whyNotLoad : Room := { frames := 2, cells := 1, slots := 6, locals := 42 }

theorem m_wnl_1 (hw : Wf μ) (hv : MdV μ q d) (hg : ¬ goD q d) : Ct Y_X11_whyNotLoad R_X11_whyNotLoad [.ref 338] μ (.inl (some (.int (1)))) μ := by
  refine Ct.ent yk_X11_whyNotLoad (Nat.le_of_ble_eq_true rfl) ?_
  refine a_aload_n dX11_whyNotLoad_0 rfl ?_
  refine a_inv (b2 := (0, 0)) (Ct.int (ngo_in hg) (m_isGoing hw hv)) rfl dX11_whyNotLoad_1 yk_X11_isGoing im_X11_isGoing se_X11_isGoing ml_X11_401 rfl (co_338 hw) (by decide) hc_X11 (by decide) (by decide) (Nat.le_of_ble_eq_true rfl) ?_
  refine a_if_ne (tgt := 11) dX11_whyNotLoad_4 (by decide) (fun h4 => absurd h4 (fun z => z rfl)) (fun h4 => ?_)
  refine a_iconst (1 : Int32) dX11_whyNotLoad_7 (by decide) ?_
  refine a_goto (tgt := 24) dX11_whyNotLoad_8 (by decide) ?_
  exact a_out rfl rfl (a_ireturn dX11_whyNotLoad_24 rfl rfl)

theorem m_wnl_0 (hw : Wf μ) (hv : MdV μ q d) (ho : phD q d = 1) : Ct Y_X11_whyNotLoad R_X11_whyNotLoad [.ref 338] μ (.inl (some (.int (0)))) μ := by
  refine Ct.ent yk_X11_whyNotLoad (Nat.le_of_ble_eq_true rfl) ?_
  refine a_aload_n dX11_whyNotLoad_0 rfl ?_
  refine a_inv (b2 := (0, 0)) (Ct.int (go_in (Or.inl ho)) (m_isGoing hw hv)) rfl dX11_whyNotLoad_1 yk_X11_isGoing im_X11_isGoing se_X11_isGoing ml_X11_401 rfl (co_338 hw) (by decide) hc_X11 (by decide) (by decide) (Nat.le_of_ble_eq_true rfl) ?_
  refine a_if_ne (tgt := 11) dX11_whyNotLoad_4 (by decide) (fun h4 => ?_) (fun h4 => absurd h4 (by decide))
  refine a_aload_n dX11_whyNotLoad_11 rfl ?_
  refine a_inv (b2 := (0, 0)) (Ct.int ho (m_phase hw hv)) rfl dX11_whyNotLoad_12 yk_X11_phase im_X11_phase se_X11_phase ml_X11_106 rfl (co_338 hw) (by decide) hc_X11 (by decide) (by decide) (Nat.le_of_ble_eq_true rfl) ?_
  refine a_iconst (1 : Int32) dX11_whyNotLoad_15 (by decide) ?_
  refine a_icmp_ne (tgt := 23) dX11_whyNotLoad_16 (by decide) (fun h16 => absurd h16 (fun z => z rfl)) (fun h16 => ?_)
  refine a_iconst (0 : Int32) dX11_whyNotLoad_19 (by decide) ?_
  refine a_goto (tgt := 24) dX11_whyNotLoad_20 (by decide) ?_
  exact a_out rfl rfl (a_ireturn dX11_whyNotLoad_24 rfl rfl)

theorem m_wnl_2 (hw : Wf μ) (hv : MdV μ q d) (ho : phD q d = 2) : Ct Y_X11_whyNotLoad R_X11_whyNotLoad [.ref 338] μ (.inl (some (.int (2)))) μ := by
  refine Ct.ent yk_X11_whyNotLoad (Nat.le_of_ble_eq_true rfl) ?_
  refine a_aload_n dX11_whyNotLoad_0 rfl ?_
  refine a_inv (b2 := (0, 0)) (Ct.int (go_in (Or.inr ho)) (m_isGoing hw hv)) rfl dX11_whyNotLoad_1 yk_X11_isGoing im_X11_isGoing se_X11_isGoing ml_X11_401 rfl (co_338 hw) (by decide) hc_X11 (by decide) (by decide) (Nat.le_of_ble_eq_true rfl) ?_
  refine a_if_ne (tgt := 11) dX11_whyNotLoad_4 (by decide) (fun h4 => ?_) (fun h4 => absurd h4 (by decide))
  refine a_aload_n dX11_whyNotLoad_11 rfl ?_
  refine a_inv (b2 := (0, 0)) (Ct.int ho (m_phase hw hv)) rfl dX11_whyNotLoad_12 yk_X11_phase im_X11_phase se_X11_phase ml_X11_106 rfl (co_338 hw) (by decide) hc_X11 (by decide) (by decide) (Nat.le_of_ble_eq_true rfl) ?_
  refine a_iconst (1 : Int32) dX11_whyNotLoad_15 (by decide) ?_
  refine a_icmp_ne (tgt := 23) dX11_whyNotLoad_16 (by decide) (fun h16 => ?_) (fun h16 => absurd h16 (by decide))
  refine a_iconst (2 : Int32) dX11_whyNotLoad_23 (by decide) ?_
  exact a_out rfl rfl (a_ireturn dX11_whyNotLoad_24 rfl rfl)
abbrev R_X11_store : Room := { frames := 4, cells := 0, slots := 0, locals := 90 }
abbrev RX_X11_store : Room := { frames := 4, cells := 1, slots := 6, locals := 90 }

theorem mx_store (hw : Wf μ) (h : MnV μ q d) {x y : Int32} (hx : ixO x (pM q) = none) : Ct Y_X11_store R_X11_store [.ref 338, .int x, .int y] μ (.inl (some (.int 0))) (sI μ 338 0 1) := by
  have hv := h.1
  have hM4 := hv.M4
  have hT4 := hv.T4
  have hP4 := hv.P4
  have hC4 := hv.C4
  have hU4 := hv.U4
  have hw1 : Wf (sI μ 338 0 0) := hw.sI
  have hv1 : MdV (sI μ 338 0 0) q d := hv.th 0
  refine Ct.ent yk_X11_store (Nat.le_of_ble_eq_true rfl) ?_
  refine a_aload_n dX11_store_0 rfl ?_
  refine a_aload_n dX11_store_1 rfl ?_
  refine a_iload_n dX11_store_2 rfl ?_
  refine a_iload_n dX11_store_3 rfl ?_
  refine a_inv (b2 := (0, 0)) (Ct.int (by rw [hx]) (m_wrongUnits (by repeat (first | with_reducible exact hw | with_reducible exact hwc | with_reducible assumption | with_reducible apply Wf.sI | with_reducible apply Wf.sL | with_reducible apply Wf.cpI | with_reducible apply Wf.cpL | with_reducible apply Wf.cp2 | with_reducible apply Wf.sIs | with_reducible apply Wf.sLs | with_reducible apply Wf.cpU | with_reducible apply Wf.fillI | with_reducible apply Wf.clU | with_reducible apply Wf.dnF | with_reducible apply Wf.gbW | with_reducible apply Wf.cpXf | with_reducible apply Wf.cpYf | with_reducible apply Wf.mkUf | with_reducible apply Wf.bkUf)) hv x y)) rfl dX11_store_4 yk_X11_wrongUnits im_X11_wrongUnits se_X11_wrongUnits ml_X11_428 rfl (co_338 (by repeat (first | with_reducible exact hw | with_reducible exact hwc | with_reducible assumption | with_reducible apply Wf.sI | with_reducible apply Wf.sL | with_reducible apply Wf.cpI | with_reducible apply Wf.cpL | with_reducible apply Wf.cp2 | with_reducible apply Wf.sIs | with_reducible apply Wf.sLs | with_reducible apply Wf.cpU | with_reducible apply Wf.fillI | with_reducible apply Wf.clU | with_reducible apply Wf.dnF | with_reducible apply Wf.gbW | with_reducible apply Wf.cpXf | with_reducible apply Wf.cpYf | with_reducible apply Wf.mkUf | with_reducible apply Wf.bkUf))) (by decide) hc_X11 (by decide) (by decide) (Nat.le_of_ble_eq_true rfl) ?_
  refine a_inv (b2 := (0, 0)) (m_isRefused1 (by repeat (first | with_reducible exact hw | with_reducible exact hwc | with_reducible assumption | with_reducible apply Wf.sI | with_reducible apply Wf.sL | with_reducible apply Wf.cpI | with_reducible apply Wf.cpL | with_reducible apply Wf.cp2 | with_reducible apply Wf.sIs | with_reducible apply Wf.sLs | with_reducible apply Wf.cpU | with_reducible apply Wf.fillI | with_reducible apply Wf.clU | with_reducible apply Wf.dnF | with_reducible apply Wf.gbW | with_reducible apply Wf.cpXf | with_reducible apply Wf.cpYf | with_reducible apply Wf.mkUf | with_reducible apply Wf.bkUf)) (v := 1) (by decide)) rfl dX11_store_7 yk_X11_isRefused im_X11_isRefused se_X11_isRefused ml_X11_98 rfl (co_338 (by repeat (first | with_reducible exact hw | with_reducible exact hwc | with_reducible assumption | with_reducible apply Wf.sI | with_reducible apply Wf.sL | with_reducible apply Wf.cpI | with_reducible apply Wf.cpL | with_reducible apply Wf.cp2 | with_reducible apply Wf.sIs | with_reducible apply Wf.sLs | with_reducible apply Wf.cpU | with_reducible apply Wf.fillI | with_reducible apply Wf.clU | with_reducible apply Wf.dnF | with_reducible apply Wf.gbW | with_reducible apply Wf.cpXf | with_reducible apply Wf.cpYf | with_reducible apply Wf.mkUf | with_reducible apply Wf.bkUf))) (by decide) hc_X11 (by decide) (by decide) (Nat.le_of_ble_eq_true rfl) ?_
  refine a_if_eq (tgt := 15) dX11_store_10 (by decide) (fun h10 => absurd h10 (by decide)) (fun h10 => ?_)
  refine a_iconst (0 : Int32) dX11_store_13 (by decide) ?_
  exact a_out rfl rfl (a_ireturn dX11_store_14 rfl rfl)

theorem my_store (hw : Wf μ) (h : MnV μ q d) {m : Nat} (hm : m < pM q) {y : Int32} (hy : unO y = none) : Ct Y_X11_store R_X11_store [.ref 338, .int (nI m), .int y] μ (.inl (some (.int 0))) (sI μ 338 0 2) := by
  have hv := h.1
  have hM4 := hv.M4
  have hT4 := hv.T4
  have hP4 := hv.P4
  have hC4 := hv.C4
  have hU4 := hv.U4
  have hw1 : Wf (sI μ 338 0 0) := hw.sI
  have hv1 : MdV (sI μ 338 0 0) q d := hv.th 0
  refine Ct.ent yk_X11_store (Nat.le_of_ble_eq_true rfl) ?_
  refine a_aload_n dX11_store_0 rfl ?_
  refine a_aload_n dX11_store_1 rfl ?_
  refine a_iload_n dX11_store_2 rfl ?_
  refine a_iload_n dX11_store_3 rfl ?_
  refine a_inv (b2 := (0, 0)) (Ct.int (by rw [ixO_of hm (by omega), hy]) (m_wrongUnits (by repeat (first | with_reducible exact hw | with_reducible exact hwc | with_reducible assumption | with_reducible apply Wf.sI | with_reducible apply Wf.sL | with_reducible apply Wf.cpI | with_reducible apply Wf.cpL | with_reducible apply Wf.cp2 | with_reducible apply Wf.sIs | with_reducible apply Wf.sLs | with_reducible apply Wf.cpU | with_reducible apply Wf.fillI | with_reducible apply Wf.clU | with_reducible apply Wf.dnF | with_reducible apply Wf.gbW | with_reducible apply Wf.cpXf | with_reducible apply Wf.cpYf | with_reducible apply Wf.mkUf | with_reducible apply Wf.bkUf)) hv (nI m) y)) rfl dX11_store_4 yk_X11_wrongUnits im_X11_wrongUnits se_X11_wrongUnits ml_X11_428 rfl (co_338 (by repeat (first | with_reducible exact hw | with_reducible exact hwc | with_reducible assumption | with_reducible apply Wf.sI | with_reducible apply Wf.sL | with_reducible apply Wf.cpI | with_reducible apply Wf.cpL | with_reducible apply Wf.cp2 | with_reducible apply Wf.sIs | with_reducible apply Wf.sLs | with_reducible apply Wf.cpU | with_reducible apply Wf.fillI | with_reducible apply Wf.clU | with_reducible apply Wf.dnF | with_reducible apply Wf.gbW | with_reducible apply Wf.cpXf | with_reducible apply Wf.cpYf | with_reducible apply Wf.mkUf | with_reducible apply Wf.bkUf))) (by decide) hc_X11 (by decide) (by decide) (Nat.le_of_ble_eq_true rfl) ?_
  refine a_inv (b2 := (0, 0)) (m_isRefused1 (by repeat (first | with_reducible exact hw | with_reducible exact hwc | with_reducible assumption | with_reducible apply Wf.sI | with_reducible apply Wf.sL | with_reducible apply Wf.cpI | with_reducible apply Wf.cpL | with_reducible apply Wf.cp2 | with_reducible apply Wf.sIs | with_reducible apply Wf.sLs | with_reducible apply Wf.cpU | with_reducible apply Wf.fillI | with_reducible apply Wf.clU | with_reducible apply Wf.dnF | with_reducible apply Wf.gbW | with_reducible apply Wf.cpXf | with_reducible apply Wf.cpYf | with_reducible apply Wf.mkUf | with_reducible apply Wf.bkUf)) (v := 2) (by decide)) rfl dX11_store_7 yk_X11_isRefused im_X11_isRefused se_X11_isRefused ml_X11_98 rfl (co_338 (by repeat (first | with_reducible exact hw | with_reducible exact hwc | with_reducible assumption | with_reducible apply Wf.sI | with_reducible apply Wf.sL | with_reducible apply Wf.cpI | with_reducible apply Wf.cpL | with_reducible apply Wf.cp2 | with_reducible apply Wf.sIs | with_reducible apply Wf.sLs | with_reducible apply Wf.cpU | with_reducible apply Wf.fillI | with_reducible apply Wf.clU | with_reducible apply Wf.dnF | with_reducible apply Wf.gbW | with_reducible apply Wf.cpXf | with_reducible apply Wf.cpYf | with_reducible apply Wf.mkUf | with_reducible apply Wf.bkUf))) (by decide) hc_X11 (by decide) (by decide) (Nat.le_of_ble_eq_true rfl) ?_
  refine a_if_eq (tgt := 15) dX11_store_10 (by decide) (fun h10 => absurd h10 (by decide)) (fun h10 => ?_)
  refine a_iconst (0 : Int32) dX11_store_13 (by decide) ?_
  exact a_out rfl rfl (a_ireturn dX11_store_14 rfl rfl)

theorem mp_store (hw : Wf μ) (h : MnV μ q d) (hg : ¬ goD q d) {m n : Nat} (hm : m < pM q) (g1 : 1 ≤ n) (g2 : n ≤ 99) : CV Y_X11_store R_X11_store [.ref 338, .int (nI m), .int (nI n)] μ (fun v V => v = some (.int 0) ∧ MrQ μ 1 3 V) := by
  have hv := h.1
  have hM4 := hv.M4
  have hT4 := hv.T4
  have hP4 := hv.P4
  have hC4 := hv.C4
  have hU4 := hv.U4
  have hw1 : Wf (sI μ 338 0 0) := hw.sI
  have hv1 : MdV (sI μ 338 0 0) q d := hv.th 0
  refine CV.ent yk_X11_store (Nat.le_of_ble_eq_true rfl) ?_
  refine lf (a_aload_n dX11_store_0 rfl) ?_
  refine lf (a_aload_n dX11_store_1 rfl) ?_
  refine lf (a_iload_n dX11_store_2 rfl) ?_
  refine lf (a_iload_n dX11_store_3 rfl) ?_
  refine lf (a_inv (b2 := (0, 0)) (Ct.int (by rw [ixO_of hm (by omega), unO_of g1 g2]) (m_wrongUnits (by repeat (first | with_reducible exact hw | with_reducible exact hwc | with_reducible assumption | with_reducible apply Wf.sI | with_reducible apply Wf.sL | with_reducible apply Wf.cpI | with_reducible apply Wf.cpL | with_reducible apply Wf.cp2 | with_reducible apply Wf.sIs | with_reducible apply Wf.sLs | with_reducible apply Wf.cpU | with_reducible apply Wf.fillI | with_reducible apply Wf.clU | with_reducible apply Wf.dnF | with_reducible apply Wf.gbW | with_reducible apply Wf.cpXf | with_reducible apply Wf.cpYf | with_reducible apply Wf.mkUf | with_reducible apply Wf.bkUf)) hv (nI m) (nI n))) rfl dX11_store_4 yk_X11_wrongUnits im_X11_wrongUnits se_X11_wrongUnits ml_X11_428 rfl (co_338 (by repeat (first | with_reducible exact hw | with_reducible exact hwc | with_reducible assumption | with_reducible apply Wf.sI | with_reducible apply Wf.sL | with_reducible apply Wf.cpI | with_reducible apply Wf.cpL | with_reducible apply Wf.cp2 | with_reducible apply Wf.sIs | with_reducible apply Wf.sLs | with_reducible apply Wf.cpU | with_reducible apply Wf.fillI | with_reducible apply Wf.clU | with_reducible apply Wf.dnF | with_reducible apply Wf.gbW | with_reducible apply Wf.cpXf | with_reducible apply Wf.cpYf | with_reducible apply Wf.mkUf | with_reducible apply Wf.bkUf))) (by decide) hc_X11 (by decide) (by decide) (Nat.le_of_ble_eq_true rfl)) ?_
  refine lf (a_inv (b2 := (0, 0)) (m_isRefused0 (by repeat (first | with_reducible exact hw | with_reducible exact hwc | with_reducible assumption | with_reducible apply Wf.sI | with_reducible apply Wf.sL | with_reducible apply Wf.cpI | with_reducible apply Wf.cpL | with_reducible apply Wf.cp2 | with_reducible apply Wf.sIs | with_reducible apply Wf.sLs | with_reducible apply Wf.cpU | with_reducible apply Wf.fillI | with_reducible apply Wf.clU | with_reducible apply Wf.dnF | with_reducible apply Wf.gbW | with_reducible apply Wf.cpXf | with_reducible apply Wf.cpYf | with_reducible apply Wf.mkUf | with_reducible apply Wf.bkUf))) rfl dX11_store_7 yk_X11_isRefused im_X11_isRefused se_X11_isRefused ml_X11_98 rfl (co_338 (by repeat (first | with_reducible exact hw | with_reducible exact hwc | with_reducible assumption | with_reducible apply Wf.sI | with_reducible apply Wf.sL | with_reducible apply Wf.cpI | with_reducible apply Wf.cpL | with_reducible apply Wf.cp2 | with_reducible apply Wf.sIs | with_reducible apply Wf.sLs | with_reducible apply Wf.cpU | with_reducible apply Wf.fillI | with_reducible apply Wf.clU | with_reducible apply Wf.dnF | with_reducible apply Wf.gbW | with_reducible apply Wf.cpXf | with_reducible apply Wf.cpYf | with_reducible apply Wf.mkUf | with_reducible apply Wf.bkUf))) (by decide) hc_X11 (by decide) (by decide) (Nat.le_of_ble_eq_true rfl)) ?_
  refine lf2 (a_if_eq (tgt := 15) dX11_store_10 (by decide)) (fun h10 => ?_) (fun h10 => absurd h10 (fun z => z rfl))
  refine lf (a_aload_n dX11_store_15 rfl) ?_
  refine lf (a_aload_n dX11_store_16 rfl) ?_
  refine lf (a_inv (b2 := (0, 0)) (m_wnl_1 (by repeat (first | with_reducible exact hw | with_reducible exact hwc | with_reducible assumption | with_reducible apply Wf.sI | with_reducible apply Wf.sL | with_reducible apply Wf.cpI | with_reducible apply Wf.cpL | with_reducible apply Wf.cp2 | with_reducible apply Wf.sIs | with_reducible apply Wf.sLs | with_reducible apply Wf.cpU | with_reducible apply Wf.fillI | with_reducible apply Wf.clU | with_reducible apply Wf.dnF | with_reducible apply Wf.gbW | with_reducible apply Wf.cpXf | with_reducible apply Wf.cpYf | with_reducible apply Wf.mkUf | with_reducible apply Wf.bkUf)) (h.1.th 0) hg) rfl dX11_store_17 yk_X11_whyNotLoad im_X11_whyNotLoad se_X11_whyNotLoad ml_X11_416 rfl (co_338 (by repeat (first | with_reducible exact hw | with_reducible exact hwc | with_reducible assumption | with_reducible apply Wf.sI | with_reducible apply Wf.sL | with_reducible apply Wf.cpI | with_reducible apply Wf.cpL | with_reducible apply Wf.cp2 | with_reducible apply Wf.sIs | with_reducible apply Wf.sLs | with_reducible apply Wf.cpU | with_reducible apply Wf.fillI | with_reducible apply Wf.clU | with_reducible apply Wf.dnF | with_reducible apply Wf.gbW | with_reducible apply Wf.cpXf | with_reducible apply Wf.cpYf | with_reducible apply Wf.mkUf | with_reducible apply Wf.bkUf))) (by decide) hc_X11 (by decide) (by decide) (Nat.le_of_ble_eq_true rfl)) ?_
  refine lf (a_iconst (3 : Int32) dX11_store_20 (by decide)) ?_
  refine lf (a_inv (b2 := (0, 0)) (m_refuses1 (by repeat (first | with_reducible exact hw | with_reducible exact hwc | with_reducible assumption | with_reducible apply Wf.sI | with_reducible apply Wf.sL | with_reducible apply Wf.cpI | with_reducible apply Wf.cpL | with_reducible apply Wf.cp2 | with_reducible apply Wf.sIs | with_reducible apply Wf.sLs | with_reducible apply Wf.cpU | with_reducible apply Wf.fillI | with_reducible apply Wf.clU | with_reducible apply Wf.dnF | with_reducible apply Wf.gbW | with_reducible apply Wf.cpXf | with_reducible apply Wf.cpYf | with_reducible apply Wf.mkUf | with_reducible apply Wf.bkUf)) (y := 1) (w := 3) (by decide) (by decide)) rfl dX11_store_21 yk_X11_refuses im_X11_refuses se_X11_refuses ml_X11_407 rfl (co_338 (by repeat (first | with_reducible exact hw | with_reducible exact hwc | with_reducible assumption | with_reducible apply Wf.sI | with_reducible apply Wf.sL | with_reducible apply Wf.cpI | with_reducible apply Wf.cpL | with_reducible apply Wf.cp2 | with_reducible apply Wf.sIs | with_reducible apply Wf.sLs | with_reducible apply Wf.cpU | with_reducible apply Wf.fillI | with_reducible apply Wf.clU | with_reducible apply Wf.dnF | with_reducible apply Wf.gbW | with_reducible apply Wf.cpXf | with_reducible apply Wf.cpYf | with_reducible apply Wf.mkUf | with_reducible apply Wf.bkUf))) (by decide) hc_X11 (by decide) (by decide) (Nat.le_of_ble_eq_true rfl)) ?_
  refine lf2 (a_if_eq (tgt := 29) dX11_store_24 (by decide)) (fun h24 => absurd h24 (by decide)) (fun h24 => ?_)
  refine lf (a_iconst (0 : Int32) dX11_store_27 (by decide)) ?_
  refine ⟨_, _, (a_ireturn dX11_store_28 rfl rfl), ?_⟩
  exact ⟨_, rfl, rfl, MrQ.of (MtQ.of hw 0) 1 3⟩

theorem ms_store (hw : Wf μ) (h : MnV μ q d) (ho : phD q d = 2) {m n : Nat} (hm : m < pM q) (g1 : 1 ≤ n) (g2 : n ≤ 99) : CV Y_X11_store R_X11_store [.ref 338, .int (nI m), .int (nI n)] μ (fun v V => v = some (.int 0) ∧ MrQ μ 2 3 V) := by
  have hv := h.1
  have hM4 := hv.M4
  have hT4 := hv.T4
  have hP4 := hv.P4
  have hC4 := hv.C4
  have hU4 := hv.U4
  have hw1 : Wf (sI μ 338 0 0) := hw.sI
  have hv1 : MdV (sI μ 338 0 0) q d := hv.th 0
  refine CV.ent yk_X11_store (Nat.le_of_ble_eq_true rfl) ?_
  refine lf (a_aload_n dX11_store_0 rfl) ?_
  refine lf (a_aload_n dX11_store_1 rfl) ?_
  refine lf (a_iload_n dX11_store_2 rfl) ?_
  refine lf (a_iload_n dX11_store_3 rfl) ?_
  refine lf (a_inv (b2 := (0, 0)) (Ct.int (by rw [ixO_of hm (by omega), unO_of g1 g2]) (m_wrongUnits (by repeat (first | with_reducible exact hw | with_reducible exact hwc | with_reducible assumption | with_reducible apply Wf.sI | with_reducible apply Wf.sL | with_reducible apply Wf.cpI | with_reducible apply Wf.cpL | with_reducible apply Wf.cp2 | with_reducible apply Wf.sIs | with_reducible apply Wf.sLs | with_reducible apply Wf.cpU | with_reducible apply Wf.fillI | with_reducible apply Wf.clU | with_reducible apply Wf.dnF | with_reducible apply Wf.gbW | with_reducible apply Wf.cpXf | with_reducible apply Wf.cpYf | with_reducible apply Wf.mkUf | with_reducible apply Wf.bkUf)) hv (nI m) (nI n))) rfl dX11_store_4 yk_X11_wrongUnits im_X11_wrongUnits se_X11_wrongUnits ml_X11_428 rfl (co_338 (by repeat (first | with_reducible exact hw | with_reducible exact hwc | with_reducible assumption | with_reducible apply Wf.sI | with_reducible apply Wf.sL | with_reducible apply Wf.cpI | with_reducible apply Wf.cpL | with_reducible apply Wf.cp2 | with_reducible apply Wf.sIs | with_reducible apply Wf.sLs | with_reducible apply Wf.cpU | with_reducible apply Wf.fillI | with_reducible apply Wf.clU | with_reducible apply Wf.dnF | with_reducible apply Wf.gbW | with_reducible apply Wf.cpXf | with_reducible apply Wf.cpYf | with_reducible apply Wf.mkUf | with_reducible apply Wf.bkUf))) (by decide) hc_X11 (by decide) (by decide) (Nat.le_of_ble_eq_true rfl)) ?_
  refine lf (a_inv (b2 := (0, 0)) (m_isRefused0 (by repeat (first | with_reducible exact hw | with_reducible exact hwc | with_reducible assumption | with_reducible apply Wf.sI | with_reducible apply Wf.sL | with_reducible apply Wf.cpI | with_reducible apply Wf.cpL | with_reducible apply Wf.cp2 | with_reducible apply Wf.sIs | with_reducible apply Wf.sLs | with_reducible apply Wf.cpU | with_reducible apply Wf.fillI | with_reducible apply Wf.clU | with_reducible apply Wf.dnF | with_reducible apply Wf.gbW | with_reducible apply Wf.cpXf | with_reducible apply Wf.cpYf | with_reducible apply Wf.mkUf | with_reducible apply Wf.bkUf))) rfl dX11_store_7 yk_X11_isRefused im_X11_isRefused se_X11_isRefused ml_X11_98 rfl (co_338 (by repeat (first | with_reducible exact hw | with_reducible exact hwc | with_reducible assumption | with_reducible apply Wf.sI | with_reducible apply Wf.sL | with_reducible apply Wf.cpI | with_reducible apply Wf.cpL | with_reducible apply Wf.cp2 | with_reducible apply Wf.sIs | with_reducible apply Wf.sLs | with_reducible apply Wf.cpU | with_reducible apply Wf.fillI | with_reducible apply Wf.clU | with_reducible apply Wf.dnF | with_reducible apply Wf.gbW | with_reducible apply Wf.cpXf | with_reducible apply Wf.cpYf | with_reducible apply Wf.mkUf | with_reducible apply Wf.bkUf))) (by decide) hc_X11 (by decide) (by decide) (Nat.le_of_ble_eq_true rfl)) ?_
  refine lf2 (a_if_eq (tgt := 15) dX11_store_10 (by decide)) (fun h10 => ?_) (fun h10 => absurd h10 (fun z => z rfl))
  refine lf (a_aload_n dX11_store_15 rfl) ?_
  refine lf (a_aload_n dX11_store_16 rfl) ?_
  refine lf (a_inv (b2 := (0, 0)) (m_wnl_2 (by repeat (first | with_reducible exact hw | with_reducible exact hwc | with_reducible assumption | with_reducible apply Wf.sI | with_reducible apply Wf.sL | with_reducible apply Wf.cpI | with_reducible apply Wf.cpL | with_reducible apply Wf.cp2 | with_reducible apply Wf.sIs | with_reducible apply Wf.sLs | with_reducible apply Wf.cpU | with_reducible apply Wf.fillI | with_reducible apply Wf.clU | with_reducible apply Wf.dnF | with_reducible apply Wf.gbW | with_reducible apply Wf.cpXf | with_reducible apply Wf.cpYf | with_reducible apply Wf.mkUf | with_reducible apply Wf.bkUf)) (h.1.th 0) ho) rfl dX11_store_17 yk_X11_whyNotLoad im_X11_whyNotLoad se_X11_whyNotLoad ml_X11_416 rfl (co_338 (by repeat (first | with_reducible exact hw | with_reducible exact hwc | with_reducible assumption | with_reducible apply Wf.sI | with_reducible apply Wf.sL | with_reducible apply Wf.cpI | with_reducible apply Wf.cpL | with_reducible apply Wf.cp2 | with_reducible apply Wf.sIs | with_reducible apply Wf.sLs | with_reducible apply Wf.cpU | with_reducible apply Wf.fillI | with_reducible apply Wf.clU | with_reducible apply Wf.dnF | with_reducible apply Wf.gbW | with_reducible apply Wf.cpXf | with_reducible apply Wf.cpYf | with_reducible apply Wf.mkUf | with_reducible apply Wf.bkUf))) (by decide) hc_X11 (by decide) (by decide) (Nat.le_of_ble_eq_true rfl)) ?_
  refine lf (a_iconst (3 : Int32) dX11_store_20 (by decide)) ?_
  refine lf (a_inv (b2 := (0, 0)) (m_refuses1 (by repeat (first | with_reducible exact hw | with_reducible exact hwc | with_reducible assumption | with_reducible apply Wf.sI | with_reducible apply Wf.sL | with_reducible apply Wf.cpI | with_reducible apply Wf.cpL | with_reducible apply Wf.cp2 | with_reducible apply Wf.sIs | with_reducible apply Wf.sLs | with_reducible apply Wf.cpU | with_reducible apply Wf.fillI | with_reducible apply Wf.clU | with_reducible apply Wf.dnF | with_reducible apply Wf.gbW | with_reducible apply Wf.cpXf | with_reducible apply Wf.cpYf | with_reducible apply Wf.mkUf | with_reducible apply Wf.bkUf)) (y := 2) (w := 3) (by decide) (by decide)) rfl dX11_store_21 yk_X11_refuses im_X11_refuses se_X11_refuses ml_X11_407 rfl (co_338 (by repeat (first | with_reducible exact hw | with_reducible exact hwc | with_reducible assumption | with_reducible apply Wf.sI | with_reducible apply Wf.sL | with_reducible apply Wf.cpI | with_reducible apply Wf.cpL | with_reducible apply Wf.cp2 | with_reducible apply Wf.sIs | with_reducible apply Wf.sLs | with_reducible apply Wf.cpU | with_reducible apply Wf.fillI | with_reducible apply Wf.clU | with_reducible apply Wf.dnF | with_reducible apply Wf.gbW | with_reducible apply Wf.cpXf | with_reducible apply Wf.cpYf | with_reducible apply Wf.mkUf | with_reducible apply Wf.bkUf))) (by decide) hc_X11 (by decide) (by decide) (Nat.le_of_ble_eq_true rfl)) ?_
  refine lf2 (a_if_eq (tgt := 29) dX11_store_24 (by decide)) (fun h24 => absurd h24 (by decide)) (fun h24 => ?_)
  refine lf (a_iconst (0 : Int32) dX11_store_27 (by decide)) ?_
  refine ⟨_, _, (a_ireturn dX11_store_28 rfl rfl), ?_⟩
  exact ⟨_, rfl, rfl, MrQ.of (MtQ.of hw 0) 2 3⟩

theorem mr_store (hw : Wf μ) (h : MnV μ q d) (ho : phD q d = 1) {m n : Nat} (hm : m < pM q) (g1 : 1 ≤ n) (g2 : n ≤ 99) (hst : ¬ nI n ≤ nI (stM q m n d).1) : CV Y_X11_store R_X11_store [.ref 338, .int (nI m), .int (nI n)] μ (fun v V => v = some (.int 0) ∧ MrQ μ 3 3 V) := by
  have hv := h.1
  have hM4 := hv.M4
  have hT4 := hv.T4
  have hP4 := hv.P4
  have hC4 := hv.C4
  have hU4 := hv.U4
  have hw1 : Wf (sI μ 338 0 0) := hw.sI
  have hv1 : MdV (sI μ 338 0 0) q d := hv.th 0
  have hB : MtQ μ 0 (sI (sI μ 338 0 0) 338 0 0) := MtQ.of2 hw
  have hwM : Wf (mkU (sI (sI μ 338 0 0) 338 0 0) 96) := hB.1.wf.mkUf
  have hvM : MdV (mkU (sI (sI μ 338 0 0) 338 0 0) 96) q d := (hv.mt hB).fr (fun x => by rw [gI_mkU, if_neg (by omega)]) (fun x => by rw [gI_mkU, if_neg (by omega)])
  refine CV.ent yk_X11_store (Nat.le_of_ble_eq_true rfl) ?_
  refine lf (a_aload_n dX11_store_0 rfl) ?_
  refine lf (a_aload_n dX11_store_1 rfl) ?_
  refine lf (a_iload_n dX11_store_2 rfl) ?_
  refine lf (a_iload_n dX11_store_3 rfl) ?_
  refine lf (a_inv (b2 := (0, 0)) (Ct.int (by rw [ixO_of hm (by omega), unO_of g1 g2]) (m_wrongUnits (by repeat (first | with_reducible exact hw | with_reducible exact hwc | with_reducible assumption | with_reducible apply Wf.sI | with_reducible apply Wf.sL | with_reducible apply Wf.cpI | with_reducible apply Wf.cpL | with_reducible apply Wf.cp2 | with_reducible apply Wf.sIs | with_reducible apply Wf.sLs | with_reducible apply Wf.cpU | with_reducible apply Wf.fillI | with_reducible apply Wf.clU | with_reducible apply Wf.dnF | with_reducible apply Wf.gbW | with_reducible apply Wf.cpXf | with_reducible apply Wf.cpYf | with_reducible apply Wf.mkUf | with_reducible apply Wf.bkUf)) hv (nI m) (nI n))) rfl dX11_store_4 yk_X11_wrongUnits im_X11_wrongUnits se_X11_wrongUnits ml_X11_428 rfl (co_338 (by repeat (first | with_reducible exact hw | with_reducible exact hwc | with_reducible assumption | with_reducible apply Wf.sI | with_reducible apply Wf.sL | with_reducible apply Wf.cpI | with_reducible apply Wf.cpL | with_reducible apply Wf.cp2 | with_reducible apply Wf.sIs | with_reducible apply Wf.sLs | with_reducible apply Wf.cpU | with_reducible apply Wf.fillI | with_reducible apply Wf.clU | with_reducible apply Wf.dnF | with_reducible apply Wf.gbW | with_reducible apply Wf.cpXf | with_reducible apply Wf.cpYf | with_reducible apply Wf.mkUf | with_reducible apply Wf.bkUf))) (by decide) hc_X11 (by decide) (by decide) (Nat.le_of_ble_eq_true rfl)) ?_
  refine lf (a_inv (b2 := (0, 0)) (m_isRefused0 (by repeat (first | with_reducible exact hw | with_reducible exact hwc | with_reducible assumption | with_reducible apply Wf.sI | with_reducible apply Wf.sL | with_reducible apply Wf.cpI | with_reducible apply Wf.cpL | with_reducible apply Wf.cp2 | with_reducible apply Wf.sIs | with_reducible apply Wf.sLs | with_reducible apply Wf.cpU | with_reducible apply Wf.fillI | with_reducible apply Wf.clU | with_reducible apply Wf.dnF | with_reducible apply Wf.gbW | with_reducible apply Wf.cpXf | with_reducible apply Wf.cpYf | with_reducible apply Wf.mkUf | with_reducible apply Wf.bkUf))) rfl dX11_store_7 yk_X11_isRefused im_X11_isRefused se_X11_isRefused ml_X11_98 rfl (co_338 (by repeat (first | with_reducible exact hw | with_reducible exact hwc | with_reducible assumption | with_reducible apply Wf.sI | with_reducible apply Wf.sL | with_reducible apply Wf.cpI | with_reducible apply Wf.cpL | with_reducible apply Wf.cp2 | with_reducible apply Wf.sIs | with_reducible apply Wf.sLs | with_reducible apply Wf.cpU | with_reducible apply Wf.fillI | with_reducible apply Wf.clU | with_reducible apply Wf.dnF | with_reducible apply Wf.gbW | with_reducible apply Wf.cpXf | with_reducible apply Wf.cpYf | with_reducible apply Wf.mkUf | with_reducible apply Wf.bkUf))) (by decide) hc_X11 (by decide) (by decide) (Nat.le_of_ble_eq_true rfl)) ?_
  refine lf2 (a_if_eq (tgt := 15) dX11_store_10 (by decide)) (fun h10 => ?_) (fun h10 => absurd h10 (fun z => z rfl))
  refine lf (a_aload_n dX11_store_15 rfl) ?_
  refine lf (a_aload_n dX11_store_16 rfl) ?_
  refine lf (a_inv (b2 := (0, 0)) (m_wnl_0 (by repeat (first | with_reducible exact hw | with_reducible exact hwc | with_reducible assumption | with_reducible apply Wf.sI | with_reducible apply Wf.sL | with_reducible apply Wf.cpI | with_reducible apply Wf.cpL | with_reducible apply Wf.cp2 | with_reducible apply Wf.sIs | with_reducible apply Wf.sLs | with_reducible apply Wf.cpU | with_reducible apply Wf.fillI | with_reducible apply Wf.clU | with_reducible apply Wf.dnF | with_reducible apply Wf.gbW | with_reducible apply Wf.cpXf | with_reducible apply Wf.cpYf | with_reducible apply Wf.mkUf | with_reducible apply Wf.bkUf)) (h.1.th 0) ho) rfl dX11_store_17 yk_X11_whyNotLoad im_X11_whyNotLoad se_X11_whyNotLoad ml_X11_416 rfl (co_338 (by repeat (first | with_reducible exact hw | with_reducible exact hwc | with_reducible assumption | with_reducible apply Wf.sI | with_reducible apply Wf.sL | with_reducible apply Wf.cpI | with_reducible apply Wf.cpL | with_reducible apply Wf.cp2 | with_reducible apply Wf.sIs | with_reducible apply Wf.sLs | with_reducible apply Wf.cpU | with_reducible apply Wf.fillI | with_reducible apply Wf.clU | with_reducible apply Wf.dnF | with_reducible apply Wf.gbW | with_reducible apply Wf.cpXf | with_reducible apply Wf.cpYf | with_reducible apply Wf.mkUf | with_reducible apply Wf.bkUf))) (by decide) hc_X11 (by decide) (by decide) (Nat.le_of_ble_eq_true rfl)) ?_
  refine lf (a_iconst (3 : Int32) dX11_store_20 (by decide)) ?_
  refine lf (a_inv (b2 := (0, 0)) (m_refuses0 (by repeat (first | with_reducible exact hw | with_reducible exact hwc | with_reducible assumption | with_reducible apply Wf.sI | with_reducible apply Wf.sL | with_reducible apply Wf.cpI | with_reducible apply Wf.cpL | with_reducible apply Wf.cp2 | with_reducible apply Wf.sIs | with_reducible apply Wf.sLs | with_reducible apply Wf.cpU | with_reducible apply Wf.fillI | with_reducible apply Wf.clU | with_reducible apply Wf.dnF | with_reducible apply Wf.gbW | with_reducible apply Wf.cpXf | with_reducible apply Wf.cpYf | with_reducible apply Wf.mkUf | with_reducible apply Wf.bkUf)) 3) rfl dX11_store_21 yk_X11_refuses im_X11_refuses se_X11_refuses ml_X11_407 rfl (co_338 (by repeat (first | with_reducible exact hw | with_reducible exact hwc | with_reducible assumption | with_reducible apply Wf.sI | with_reducible apply Wf.sL | with_reducible apply Wf.cpI | with_reducible apply Wf.cpL | with_reducible apply Wf.cp2 | with_reducible apply Wf.sIs | with_reducible apply Wf.sLs | with_reducible apply Wf.cpU | with_reducible apply Wf.fillI | with_reducible apply Wf.clU | with_reducible apply Wf.dnF | with_reducible apply Wf.gbW | with_reducible apply Wf.cpXf | with_reducible apply Wf.cpYf | with_reducible apply Wf.mkUf | with_reducible apply Wf.bkUf))) (by decide) hc_X11 (by decide) (by decide) (Nat.le_of_ble_eq_true rfl)) ?_
  refine lf2 (a_if_eq (tgt := 29) dX11_store_24 (by decide)) (fun h24 => ?_) (fun h24 => absurd h24 (fun z => z rfl))
  refine lf (a_aload_n dX11_store_29 rfl) ?_
  refine lf (a_inv (b2 := (0, 0)) (m_marksUnits (by repeat (first | with_reducible exact hw | with_reducible exact hwc | with_reducible assumption | with_reducible apply Wf.sI | with_reducible apply Wf.sL | with_reducible apply Wf.cpI | with_reducible apply Wf.cpL | with_reducible apply Wf.cp2 | with_reducible apply Wf.sIs | with_reducible apply Wf.sLs | with_reducible apply Wf.cpU | with_reducible apply Wf.fillI | with_reducible apply Wf.clU | with_reducible apply Wf.dnF | with_reducible apply Wf.gbW | with_reducible apply Wf.cpXf | with_reducible apply Wf.cpYf | with_reducible apply Wf.mkUf | with_reducible apply Wf.bkUf))) rfl dX11_store_30 yk_X11_marksUnits im_X11_marksUnits se_X11_marksUnits ml_X11_419 rfl (co_338 (by repeat (first | with_reducible exact hw | with_reducible exact hwc | with_reducible assumption | with_reducible apply Wf.sI | with_reducible apply Wf.sL | with_reducible apply Wf.cpI | with_reducible apply Wf.cpL | with_reducible apply Wf.cp2 | with_reducible apply Wf.sIs | with_reducible apply Wf.sLs | with_reducible apply Wf.cpU | with_reducible apply Wf.fillI | with_reducible apply Wf.clU | with_reducible apply Wf.dnF | with_reducible apply Wf.gbW | with_reducible apply Wf.cpXf | with_reducible apply Wf.cpYf | with_reducible apply Wf.mkUf | with_reducible apply Wf.bkUf))) (by decide) hc_X11 (by decide) (by decide) (Nat.le_of_ble_eq_true rfl)) ?_
  refine lf (a_aload_n dX11_store_33 rfl) ?_
  refine lf (a_iload_n dX11_store_34 rfl) ?_
  refine lf (a_iload_n dX11_store_35 rfl) ?_
  obtain ⟨v_, W36, k36, rfl, hv36, hS36⟩ := (m_storesMany hwM hvM hm (n := n) (by omega))
  have hwc := hS36.1.wf
  have hZ := bk_f hB hS36.1 (fun i y => Or.inl y) hS36.2
  refine lf (a_inv (b2 := (0, 0)) k36 rfl dX11_store_36 yk_X11_storesMany im_X11_storesMany se_X11_storesMany ml_X11_413 rfl (co_338 (by repeat (first | with_reducible exact hw | with_reducible exact hwc | with_reducible assumption | with_reducible apply Wf.sI | with_reducible apply Wf.sL | with_reducible apply Wf.cpI | with_reducible apply Wf.cpL | with_reducible apply Wf.cp2 | with_reducible apply Wf.sIs | with_reducible apply Wf.sLs | with_reducible apply Wf.cpU | with_reducible apply Wf.fillI | with_reducible apply Wf.clU | with_reducible apply Wf.dnF | with_reducible apply Wf.gbW | with_reducible apply Wf.cpXf | with_reducible apply Wf.cpYf | with_reducible apply Wf.mkUf | with_reducible apply Wf.bkUf))) (by decide) hc_X11 (by decide) (by decide) (Nat.le_of_ble_eq_true rfl)) ?_
  refine lf (a_istore_n dX11_store_39 (by decide)) ?_
  refine lf (a_aload_n dX11_store_40 rfl) ?_
  refine lf (a_inv (b2 := (0, 0)) (m_unitsBack (by repeat (first | with_reducible exact hw | with_reducible exact hwc | with_reducible assumption | with_reducible apply Wf.sI | with_reducible apply Wf.sL | with_reducible apply Wf.cpI | with_reducible apply Wf.cpL | with_reducible apply Wf.cp2 | with_reducible apply Wf.sIs | with_reducible apply Wf.sLs | with_reducible apply Wf.cpU | with_reducible apply Wf.fillI | with_reducible apply Wf.clU | with_reducible apply Wf.dnF | with_reducible apply Wf.gbW | with_reducible apply Wf.cpXf | with_reducible apply Wf.cpYf | with_reducible apply Wf.mkUf | with_reducible apply Wf.bkUf))) rfl dX11_store_41 yk_X11_unitsBack im_X11_unitsBack se_X11_unitsBack ml_X11_425 rfl (co_338 (by repeat (first | with_reducible exact hw | with_reducible exact hwc | with_reducible assumption | with_reducible apply Wf.sI | with_reducible apply Wf.sL | with_reducible apply Wf.cpI | with_reducible apply Wf.cpL | with_reducible apply Wf.cp2 | with_reducible apply Wf.sIs | with_reducible apply Wf.sLs | with_reducible apply Wf.cpU | with_reducible apply Wf.fillI | with_reducible apply Wf.clU | with_reducible apply Wf.dnF | with_reducible apply Wf.gbW | with_reducible apply Wf.cpXf | with_reducible apply Wf.cpYf | with_reducible apply Wf.mkUf | with_reducible apply Wf.bkUf))) (by decide) hc_X11 (by decide) (by decide) (Nat.le_of_ble_eq_true rfl)) ?_
  refine lf (a_aload_n dX11_store_44 rfl) ?_
  refine lf (a_iload_n dX11_store_45 rfl) ?_
  refine lf (a_iload_n dX11_store_46 rfl) ?_
  refine lf2 (a_icmp_ge (tgt := 54) dX11_store_47 (by decide)) (fun h47 => absurd h47 hst) (fun h47 => ?_)
  refine lf (a_iconst (3 : Int32) dX11_store_50 (by decide)) ?_
  refine lf (a_goto (tgt := 55) dX11_store_51 (by decide)) ?_
  refine lf (a_iconst (3 : Int32) dX11_store_55 (by decide)) ?_
  refine lf (a_inv (b2 := (0, 0)) (m_refuses1 (by repeat (first | with_reducible exact hw | with_reducible exact hwc | with_reducible assumption | with_reducible apply Wf.sI | with_reducible apply Wf.sL | with_reducible apply Wf.cpI | with_reducible apply Wf.cpL | with_reducible apply Wf.cp2 | with_reducible apply Wf.sIs | with_reducible apply Wf.sLs | with_reducible apply Wf.cpU | with_reducible apply Wf.fillI | with_reducible apply Wf.clU | with_reducible apply Wf.dnF | with_reducible apply Wf.gbW | with_reducible apply Wf.cpXf | with_reducible apply Wf.cpYf | with_reducible apply Wf.mkUf | with_reducible apply Wf.bkUf)) (y := 3) (w := 3) (by decide) (by decide)) rfl dX11_store_56 yk_X11_refuses im_X11_refuses se_X11_refuses ml_X11_407 rfl (co_338 (by repeat (first | with_reducible exact hw | with_reducible exact hwc | with_reducible assumption | with_reducible apply Wf.sI | with_reducible apply Wf.sL | with_reducible apply Wf.cpI | with_reducible apply Wf.cpL | with_reducible apply Wf.cp2 | with_reducible apply Wf.sIs | with_reducible apply Wf.sLs | with_reducible apply Wf.cpU | with_reducible apply Wf.fillI | with_reducible apply Wf.clU | with_reducible apply Wf.dnF | with_reducible apply Wf.gbW | with_reducible apply Wf.cpXf | with_reducible apply Wf.cpYf | with_reducible apply Wf.mkUf | with_reducible apply Wf.bkUf))) (by decide) hc_X11 (by decide) (by decide) (Nat.le_of_ble_eq_true rfl)) ?_
  refine lf2 (a_if_eq (tgt := 64) dX11_store_59 (by decide)) (fun h59 => absurd h59 (by decide)) (fun h59 => ?_)
  refine lf (a_iconst (0 : Int32) dX11_store_62 (by decide)) ?_
  refine ⟨_, _, (a_ireturn dX11_store_63 rfl rfl), ?_⟩
  exact ⟨_, rfl, rfl, MrQ.of hZ 3 3⟩

theorem v_store (hw : Wf μ) (h : MnV μ q d) {H : Hst} (hp : MpV μ q H) (hq0 : GdP q) (hd0 : GdD q d) (ho : phD q d = 1) {m n : Nat} (hm : m < pM q) (g1 : 1 ≤ n) (g2 : n ≤ 99) (hst : nI n ≤ nI (stM q m n d).1) : CV Y_X11_store R_X11_store [.ref 338, .int (nI m), .int (nI n)] μ (fun v V => v = some (.int (ldD q (stM q m n d).2 m)) ∧ MaQ μ V q ((stM q m n d).2) (pushH H d)) := by
  have hv := h.1
  have hM4 := hv.M4
  have hT4 := hv.T4
  have hP4 := hv.P4
  have hC4 := hv.C4
  have hU4 := hv.U4
  have hw1 : Wf (sI μ 338 0 0) := hw.sI
  have hv1 : MdV (sI μ 338 0 0) q d := hv.th 0
  have hB : MtQ μ 0 (sI (sI μ 338 0 0) 338 0 0) := MtQ.of2 hw
  have hwM : Wf (mkU (sI (sI μ 338 0 0) 338 0 0) 96) := hB.1.wf.mkUf
  have hvM : MdV (mkU (sI (sI μ 338 0 0) 338 0 0) 96) q d := (hv.mt hB).fr (fun x => by rw [gI_mkU, if_neg (by omega)]) (fun x => by rw [gI_mkU, if_neg (by omega)])
  have h0 := (go_s0 (Or.inl ho)).1
  refine CV.ent yk_X11_store (Nat.le_of_ble_eq_true rfl) ?_
  refine lf (a_aload_n dX11_store_0 rfl) ?_
  refine lf (a_aload_n dX11_store_1 rfl) ?_
  refine lf (a_iload_n dX11_store_2 rfl) ?_
  refine lf (a_iload_n dX11_store_3 rfl) ?_
  refine lf (a_inv (b2 := (0, 0)) (Ct.int (by rw [ixO_of hm (by omega), unO_of g1 g2]) (m_wrongUnits (by repeat (first | with_reducible exact hw | with_reducible exact hwc | with_reducible assumption | with_reducible apply Wf.sI | with_reducible apply Wf.sL | with_reducible apply Wf.cpI | with_reducible apply Wf.cpL | with_reducible apply Wf.cp2 | with_reducible apply Wf.sIs | with_reducible apply Wf.sLs | with_reducible apply Wf.cpU | with_reducible apply Wf.fillI | with_reducible apply Wf.clU | with_reducible apply Wf.dnF | with_reducible apply Wf.gbW | with_reducible apply Wf.cpXf | with_reducible apply Wf.cpYf | with_reducible apply Wf.mkUf | with_reducible apply Wf.bkUf)) hv (nI m) (nI n))) rfl dX11_store_4 yk_X11_wrongUnits im_X11_wrongUnits se_X11_wrongUnits ml_X11_428 rfl (co_338 (by repeat (first | with_reducible exact hw | with_reducible exact hwc | with_reducible assumption | with_reducible apply Wf.sI | with_reducible apply Wf.sL | with_reducible apply Wf.cpI | with_reducible apply Wf.cpL | with_reducible apply Wf.cp2 | with_reducible apply Wf.sIs | with_reducible apply Wf.sLs | with_reducible apply Wf.cpU | with_reducible apply Wf.fillI | with_reducible apply Wf.clU | with_reducible apply Wf.dnF | with_reducible apply Wf.gbW | with_reducible apply Wf.cpXf | with_reducible apply Wf.cpYf | with_reducible apply Wf.mkUf | with_reducible apply Wf.bkUf))) (by decide) hc_X11 (by decide) (by decide) (Nat.le_of_ble_eq_true rfl)) ?_
  refine lf (a_inv (b2 := (0, 0)) (m_isRefused0 (by repeat (first | with_reducible exact hw | with_reducible exact hwc | with_reducible assumption | with_reducible apply Wf.sI | with_reducible apply Wf.sL | with_reducible apply Wf.cpI | with_reducible apply Wf.cpL | with_reducible apply Wf.cp2 | with_reducible apply Wf.sIs | with_reducible apply Wf.sLs | with_reducible apply Wf.cpU | with_reducible apply Wf.fillI | with_reducible apply Wf.clU | with_reducible apply Wf.dnF | with_reducible apply Wf.gbW | with_reducible apply Wf.cpXf | with_reducible apply Wf.cpYf | with_reducible apply Wf.mkUf | with_reducible apply Wf.bkUf))) rfl dX11_store_7 yk_X11_isRefused im_X11_isRefused se_X11_isRefused ml_X11_98 rfl (co_338 (by repeat (first | with_reducible exact hw | with_reducible exact hwc | with_reducible assumption | with_reducible apply Wf.sI | with_reducible apply Wf.sL | with_reducible apply Wf.cpI | with_reducible apply Wf.cpL | with_reducible apply Wf.cp2 | with_reducible apply Wf.sIs | with_reducible apply Wf.sLs | with_reducible apply Wf.cpU | with_reducible apply Wf.fillI | with_reducible apply Wf.clU | with_reducible apply Wf.dnF | with_reducible apply Wf.gbW | with_reducible apply Wf.cpXf | with_reducible apply Wf.cpYf | with_reducible apply Wf.mkUf | with_reducible apply Wf.bkUf))) (by decide) hc_X11 (by decide) (by decide) (Nat.le_of_ble_eq_true rfl)) ?_
  refine lf2 (a_if_eq (tgt := 15) dX11_store_10 (by decide)) (fun h10 => ?_) (fun h10 => absurd h10 (fun z => z rfl))
  refine lf (a_aload_n dX11_store_15 rfl) ?_
  refine lf (a_aload_n dX11_store_16 rfl) ?_
  refine lf (a_inv (b2 := (0, 0)) (m_wnl_0 (by repeat (first | with_reducible exact hw | with_reducible exact hwc | with_reducible assumption | with_reducible apply Wf.sI | with_reducible apply Wf.sL | with_reducible apply Wf.cpI | with_reducible apply Wf.cpL | with_reducible apply Wf.cp2 | with_reducible apply Wf.sIs | with_reducible apply Wf.sLs | with_reducible apply Wf.cpU | with_reducible apply Wf.fillI | with_reducible apply Wf.clU | with_reducible apply Wf.dnF | with_reducible apply Wf.gbW | with_reducible apply Wf.cpXf | with_reducible apply Wf.cpYf | with_reducible apply Wf.mkUf | with_reducible apply Wf.bkUf)) (h.1.th 0) ho) rfl dX11_store_17 yk_X11_whyNotLoad im_X11_whyNotLoad se_X11_whyNotLoad ml_X11_416 rfl (co_338 (by repeat (first | with_reducible exact hw | with_reducible exact hwc | with_reducible assumption | with_reducible apply Wf.sI | with_reducible apply Wf.sL | with_reducible apply Wf.cpI | with_reducible apply Wf.cpL | with_reducible apply Wf.cp2 | with_reducible apply Wf.sIs | with_reducible apply Wf.sLs | with_reducible apply Wf.cpU | with_reducible apply Wf.fillI | with_reducible apply Wf.clU | with_reducible apply Wf.dnF | with_reducible apply Wf.gbW | with_reducible apply Wf.cpXf | with_reducible apply Wf.cpYf | with_reducible apply Wf.mkUf | with_reducible apply Wf.bkUf))) (by decide) hc_X11 (by decide) (by decide) (Nat.le_of_ble_eq_true rfl)) ?_
  refine lf (a_iconst (3 : Int32) dX11_store_20 (by decide)) ?_
  refine lf (a_inv (b2 := (0, 0)) (m_refuses0 (by repeat (first | with_reducible exact hw | with_reducible exact hwc | with_reducible assumption | with_reducible apply Wf.sI | with_reducible apply Wf.sL | with_reducible apply Wf.cpI | with_reducible apply Wf.cpL | with_reducible apply Wf.cp2 | with_reducible apply Wf.sIs | with_reducible apply Wf.sLs | with_reducible apply Wf.cpU | with_reducible apply Wf.fillI | with_reducible apply Wf.clU | with_reducible apply Wf.dnF | with_reducible apply Wf.gbW | with_reducible apply Wf.cpXf | with_reducible apply Wf.cpYf | with_reducible apply Wf.mkUf | with_reducible apply Wf.bkUf)) 3) rfl dX11_store_21 yk_X11_refuses im_X11_refuses se_X11_refuses ml_X11_407 rfl (co_338 (by repeat (first | with_reducible exact hw | with_reducible exact hwc | with_reducible assumption | with_reducible apply Wf.sI | with_reducible apply Wf.sL | with_reducible apply Wf.cpI | with_reducible apply Wf.cpL | with_reducible apply Wf.cp2 | with_reducible apply Wf.sIs | with_reducible apply Wf.sLs | with_reducible apply Wf.cpU | with_reducible apply Wf.fillI | with_reducible apply Wf.clU | with_reducible apply Wf.dnF | with_reducible apply Wf.gbW | with_reducible apply Wf.cpXf | with_reducible apply Wf.cpYf | with_reducible apply Wf.mkUf | with_reducible apply Wf.bkUf))) (by decide) hc_X11 (by decide) (by decide) (Nat.le_of_ble_eq_true rfl)) ?_
  refine lf2 (a_if_eq (tgt := 29) dX11_store_24 (by decide)) (fun h24 => ?_) (fun h24 => absurd h24 (fun z => z rfl))
  refine lf (a_aload_n dX11_store_29 rfl) ?_
  refine lf (a_inv (b2 := (0, 0)) (m_marksUnits (by repeat (first | with_reducible exact hw | with_reducible exact hwc | with_reducible assumption | with_reducible apply Wf.sI | with_reducible apply Wf.sL | with_reducible apply Wf.cpI | with_reducible apply Wf.cpL | with_reducible apply Wf.cp2 | with_reducible apply Wf.sIs | with_reducible apply Wf.sLs | with_reducible apply Wf.cpU | with_reducible apply Wf.fillI | with_reducible apply Wf.clU | with_reducible apply Wf.dnF | with_reducible apply Wf.gbW | with_reducible apply Wf.cpXf | with_reducible apply Wf.cpYf | with_reducible apply Wf.mkUf | with_reducible apply Wf.bkUf))) rfl dX11_store_30 yk_X11_marksUnits im_X11_marksUnits se_X11_marksUnits ml_X11_419 rfl (co_338 (by repeat (first | with_reducible exact hw | with_reducible exact hwc | with_reducible assumption | with_reducible apply Wf.sI | with_reducible apply Wf.sL | with_reducible apply Wf.cpI | with_reducible apply Wf.cpL | with_reducible apply Wf.cp2 | with_reducible apply Wf.sIs | with_reducible apply Wf.sLs | with_reducible apply Wf.cpU | with_reducible apply Wf.fillI | with_reducible apply Wf.clU | with_reducible apply Wf.dnF | with_reducible apply Wf.gbW | with_reducible apply Wf.cpXf | with_reducible apply Wf.cpYf | with_reducible apply Wf.mkUf | with_reducible apply Wf.bkUf))) (by decide) hc_X11 (by decide) (by decide) (Nat.le_of_ble_eq_true rfl)) ?_
  refine lf (a_aload_n dX11_store_33 rfl) ?_
  refine lf (a_iload_n dX11_store_34 rfl) ?_
  refine lf (a_iload_n dX11_store_35 rfl) ?_
  obtain ⟨v_, W36, k36, rfl, hv36, hS36⟩ := (m_storesMany hwM hvM hm (n := n) (by omega))
  have hwc := hS36.1.wf
  have hZ := bk_f hB hS36.1 (fun i y => Or.inl y) hS36.2
  refine lf (a_inv (b2 := (0, 0)) k36 rfl dX11_store_36 yk_X11_storesMany im_X11_storesMany se_X11_storesMany ml_X11_413 rfl (co_338 (by repeat (first | with_reducible exact hw | with_reducible exact hwc | with_reducible assumption | with_reducible apply Wf.sI | with_reducible apply Wf.sL | with_reducible apply Wf.cpI | with_reducible apply Wf.cpL | with_reducible apply Wf.cp2 | with_reducible apply Wf.sIs | with_reducible apply Wf.sLs | with_reducible apply Wf.cpU | with_reducible apply Wf.fillI | with_reducible apply Wf.clU | with_reducible apply Wf.dnF | with_reducible apply Wf.gbW | with_reducible apply Wf.cpXf | with_reducible apply Wf.cpYf | with_reducible apply Wf.mkUf | with_reducible apply Wf.bkUf))) (by decide) hc_X11 (by decide) (by decide) (Nat.le_of_ble_eq_true rfl)) ?_
  refine lf (a_istore_n dX11_store_39 (by decide)) ?_
  refine lf (a_aload_n dX11_store_40 rfl) ?_
  refine lf (a_inv (b2 := (0, 0)) (m_unitsBack (by repeat (first | with_reducible exact hw | with_reducible exact hwc | with_reducible assumption | with_reducible apply Wf.sI | with_reducible apply Wf.sL | with_reducible apply Wf.cpI | with_reducible apply Wf.cpL | with_reducible apply Wf.cp2 | with_reducible apply Wf.sIs | with_reducible apply Wf.sLs | with_reducible apply Wf.cpU | with_reducible apply Wf.fillI | with_reducible apply Wf.clU | with_reducible apply Wf.dnF | with_reducible apply Wf.gbW | with_reducible apply Wf.cpXf | with_reducible apply Wf.cpYf | with_reducible apply Wf.mkUf | with_reducible apply Wf.bkUf))) rfl dX11_store_41 yk_X11_unitsBack im_X11_unitsBack se_X11_unitsBack ml_X11_425 rfl (co_338 (by repeat (first | with_reducible exact hw | with_reducible exact hwc | with_reducible assumption | with_reducible apply Wf.sI | with_reducible apply Wf.sL | with_reducible apply Wf.cpI | with_reducible apply Wf.cpL | with_reducible apply Wf.cp2 | with_reducible apply Wf.sIs | with_reducible apply Wf.sLs | with_reducible apply Wf.cpU | with_reducible apply Wf.fillI | with_reducible apply Wf.clU | with_reducible apply Wf.dnF | with_reducible apply Wf.gbW | with_reducible apply Wf.cpXf | with_reducible apply Wf.cpYf | with_reducible apply Wf.mkUf | with_reducible apply Wf.bkUf))) (by decide) hc_X11 (by decide) (by decide) (Nat.le_of_ble_eq_true rfl)) ?_
  refine lf (a_aload_n dX11_store_44 rfl) ?_
  refine lf (a_iload_n dX11_store_45 rfl) ?_
  refine lf (a_iload_n dX11_store_46 rfl) ?_
  refine lf2 (a_icmp_ge (tgt := 54) dX11_store_47 (by decide)) (fun h47 => ?_) (fun h47 => absurd h47 (fun z => z hst))
  refine lf (a_iconst (0 : Int32) dX11_store_54 (by decide)) ?_
  refine lf (a_iconst (3 : Int32) dX11_store_55 (by decide)) ?_
  refine lf (a_inv (b2 := (0, 0)) (m_refuses0 (by repeat (first | with_reducible exact hw | with_reducible exact hwc | with_reducible assumption | with_reducible apply Wf.sI | with_reducible apply Wf.sL | with_reducible apply Wf.cpI | with_reducible apply Wf.cpL | with_reducible apply Wf.cp2 | with_reducible apply Wf.sIs | with_reducible apply Wf.sLs | with_reducible apply Wf.cpU | with_reducible apply Wf.fillI | with_reducible apply Wf.clU | with_reducible apply Wf.dnF | with_reducible apply Wf.gbW | with_reducible apply Wf.cpXf | with_reducible apply Wf.cpYf | with_reducible apply Wf.mkUf | with_reducible apply Wf.bkUf)) 3) rfl dX11_store_56 yk_X11_refuses im_X11_refuses se_X11_refuses ml_X11_407 rfl (co_338 (by repeat (first | with_reducible exact hw | with_reducible exact hwc | with_reducible assumption | with_reducible apply Wf.sI | with_reducible apply Wf.sL | with_reducible apply Wf.cpI | with_reducible apply Wf.cpL | with_reducible apply Wf.cp2 | with_reducible apply Wf.sIs | with_reducible apply Wf.sLs | with_reducible apply Wf.cpU | with_reducible apply Wf.fillI | with_reducible apply Wf.clU | with_reducible apply Wf.dnF | with_reducible apply Wf.gbW | with_reducible apply Wf.cpXf | with_reducible apply Wf.cpYf | with_reducible apply Wf.mkUf | with_reducible apply Wf.bkUf))) (by decide) hc_X11 (by decide) (by decide) (Nat.le_of_ble_eq_true rfl)) ?_
  refine lf2 (a_if_eq (tgt := 64) dX11_store_59 (by decide)) (fun h59 => ?_) (fun h59 => absurd h59 (fun z => z rfl))
  refine lf (a_aload_n dX11_store_64 rfl) ?_
  obtain ⟨v_, W65, k65, rfl, hR⟩ := (v_rem (hZ.set 0) h hp)
  have hwR := hR.1
  have hnR := hR.2.1
  have hvR := hnR.1
  refine lf (a_inv (b2 := (0, 0)) k65 rfl dX11_store_65 yk_X11_remembers im_X11_remembers se_X11_remembers ml_X11_410 rfl (co_338 (by repeat (first | with_reducible exact hw | with_reducible exact hwc | with_reducible assumption | with_reducible apply Wf.sI | with_reducible apply Wf.sL | with_reducible apply Wf.cpI | with_reducible apply Wf.cpL | with_reducible apply Wf.cp2 | with_reducible apply Wf.sIs | with_reducible apply Wf.sLs | with_reducible apply Wf.cpU | with_reducible apply Wf.fillI | with_reducible apply Wf.clU | with_reducible apply Wf.dnF | with_reducible apply Wf.gbW | with_reducible apply Wf.cpXf | with_reducible apply Wf.cpYf | with_reducible apply Wf.mkUf | with_reducible apply Wf.bkUf))) (by decide) hc_X11 (by decide) (by decide) (Nat.le_of_ble_eq_true rfl)) ?_
  refine lf (a_aload_n dX11_store_68 rfl) ?_
  refine lf (a_iload_n dX11_store_69 rfl) ?_
  refine lf (a_iload_n dX11_store_70 rfl) ?_
  obtain ⟨v_, W71, k71, rfl, hv71, hS71⟩ := (m_storesMany hwR hvR hm (n := n) (by omega))
  have hwd := hS71.1.wf
  have hlo := stM_lo (q := q) (k := m) n d
  refine lf (a_inv (b2 := (0, 0)) k71 rfl dX11_store_71 yk_X11_storesMany im_X11_storesMany se_X11_storesMany ml_X11_413 rfl (co_338 (by repeat (first | with_reducible exact hw | with_reducible exact hwc | with_reducible assumption | with_reducible apply Wf.sI | with_reducible apply Wf.sL | with_reducible apply Wf.cpI | with_reducible apply Wf.cpL | with_reducible apply Wf.cp2 | with_reducible apply Wf.sIs | with_reducible apply Wf.sLs | with_reducible apply Wf.cpU | with_reducible apply Wf.fillI | with_reducible apply Wf.clU | with_reducible apply Wf.dnF | with_reducible apply Wf.gbW | with_reducible apply Wf.cpXf | with_reducible apply Wf.cpYf | with_reducible apply Wf.mkUf | with_reducible apply Wf.bkUf))) (by decide) hc_X11 (by decide) (by decide) (Nat.le_of_ble_eq_true rfl)) ?_
  refine lf (a_istore_n dX11_store_74 (by decide)) ?_
  refine lf (a_aload_n dX11_store_75 rfl) ?_
  refine lf (a_iload_n dX11_store_76 rfl) ?_
  refine lf (a_inv (b2 := (0, 0)) (m_loadedOf (by repeat (first | with_reducible exact hw | with_reducible exact hwc | with_reducible assumption | with_reducible apply Wf.sI | with_reducible apply Wf.sL | with_reducible apply Wf.cpI | with_reducible apply Wf.cpL | with_reducible apply Wf.cp2 | with_reducible apply Wf.sIs | with_reducible apply Wf.sLs | with_reducible apply Wf.cpU | with_reducible apply Wf.fillI | with_reducible apply Wf.clU | with_reducible apply Wf.dnF | with_reducible apply Wf.gbW | with_reducible apply Wf.cpXf | with_reducible apply Wf.cpYf | with_reducible apply Wf.mkUf | with_reducible apply Wf.bkUf)) hv71 (show m < 12 by omega)) rfl dX11_store_77 yk_X11_loadedOf im_X11_loadedOf se_X11_loadedOf ml_X11_336 rfl (co_338 (by repeat (first | with_reducible exact hw | with_reducible exact hwc | with_reducible assumption | with_reducible apply Wf.sI | with_reducible apply Wf.sL | with_reducible apply Wf.cpI | with_reducible apply Wf.cpL | with_reducible apply Wf.cp2 | with_reducible apply Wf.sIs | with_reducible apply Wf.sLs | with_reducible apply Wf.cpU | with_reducible apply Wf.fillI | with_reducible apply Wf.clU | with_reducible apply Wf.dnF | with_reducible apply Wf.gbW | with_reducible apply Wf.cpXf | with_reducible apply Wf.cpYf | with_reducible apply Wf.mkUf | with_reducible apply Wf.bkUf))) (by decide) hc_X11 (by decide) (by decide) (Nat.le_of_ble_eq_true rfl)) ?_
  refine ⟨_, _, (a_ireturn dX11_store_80 rfl rfl), ?_⟩
  exact ⟨_, rfl, rfl, MaQ.so hR hv71 (hS71.1.mono (fun i y => Or.inl y)) hS71.2 h0 hlo.1 hlo.2.2.1 ((hlo.2.2.2.1 6 0 (by decide)).trans h0)⟩
abbrev R_X11_loadOrder : Room := { frames := 7, cells := 0, slots := 0, locals := 159 }
abbrev RX_X11_loadOrder : Room := { frames := 7, cells := 1, slots := 6, locals := 159 }

theorem so_lo (u : Nat → Int32) : ∀ c m (a : Int32) (d : FDt), dP (soF q u c m a d).2 = dP d ∧ dA (soF q u c m a d).2 = dA d ∧ dF (soF q u c m a d).2 6 0 = dF d 6 0 := by
  intro c
  induction c with
  | zero => intro m a d; exact ⟨rfl, rfl, rfl⟩
  | succ c ih =>
    intro m a d
    have s := stM_lo (q := q) (k := m) (nN (msD q d m (u m))) d
    rw [soF_s]
    split
    · exact ⟨s.1, s.2.2.1, s.2.2.2.1 6 0 (by decide)⟩
    · obtain ⟨i1, i2, i3⟩ := ih (m + 1) (a + msD q d m (u m)) (stM q m (nN (msD q d m (u m))) d).2
      exact ⟨i1.trans s.1, i2.trans s.2.2.1, i3.trans (s.2.2.2.1 6 0 (by decide))⟩
theorem mp_loadOrder (hw : Wf μ) (h : MnV μ q d) (hg : ¬ goD q d) : CV Y_X11_loadOrder R_X11_loadOrder [.ref 338] μ (fun v V => v = some (.int 0) ∧ MrQ μ 1 1 V) := by
  have hv := h.1
  have hM4 := hv.M4
  have hT4 := hv.T4
  have hP4 := hv.P4
  have hC4 := hv.C4
  have hU4 := hv.U4
  have hw1 : Wf (sI μ 338 0 0) := hw.sI
  have hv1 : MdV (sI μ 338 0 0) q d := hv.th 0
  refine CV.ent yk_X11_loadOrder (Nat.le_of_ble_eq_true rfl) ?_
  refine lf (a_aload_n dX11_loadOrder_0 rfl) ?_
  refine lf (a_aload_n dX11_loadOrder_1 rfl) ?_
  refine lf (a_inv (b2 := (0, 0)) (m_wnl_1 (by repeat (first | with_reducible exact hw | with_reducible exact hwc | with_reducible assumption | with_reducible apply Wf.sI | with_reducible apply Wf.sL | with_reducible apply Wf.cpI | with_reducible apply Wf.cpL | with_reducible apply Wf.cp2 | with_reducible apply Wf.sIs | with_reducible apply Wf.sLs | with_reducible apply Wf.cpU | with_reducible apply Wf.fillI | with_reducible apply Wf.clU | with_reducible apply Wf.dnF | with_reducible apply Wf.gbW | with_reducible apply Wf.cpXf | with_reducible apply Wf.cpYf | with_reducible apply Wf.mkUf | with_reducible apply Wf.bkUf)) hv hg) rfl dX11_loadOrder_2 yk_X11_whyNotLoad im_X11_whyNotLoad se_X11_whyNotLoad ml_X11_416 rfl (co_338 (by repeat (first | with_reducible exact hw | with_reducible exact hwc | with_reducible assumption | with_reducible apply Wf.sI | with_reducible apply Wf.sL | with_reducible apply Wf.cpI | with_reducible apply Wf.cpL | with_reducible apply Wf.cp2 | with_reducible apply Wf.sIs | with_reducible apply Wf.sLs | with_reducible apply Wf.cpU | with_reducible apply Wf.fillI | with_reducible apply Wf.clU | with_reducible apply Wf.dnF | with_reducible apply Wf.gbW | with_reducible apply Wf.cpXf | with_reducible apply Wf.cpYf | with_reducible apply Wf.mkUf | with_reducible apply Wf.bkUf))) (by decide) hc_X11 (by decide) (by decide) (Nat.le_of_ble_eq_true rfl)) ?_
  refine lf (a_iconst (1 : Int32) dX11_loadOrder_5 (by decide)) ?_
  refine lf (a_inv (b2 := (0, 0)) (m_refuses1 (by repeat (first | with_reducible exact hw | with_reducible exact hwc | with_reducible assumption | with_reducible apply Wf.sI | with_reducible apply Wf.sL | with_reducible apply Wf.cpI | with_reducible apply Wf.cpL | with_reducible apply Wf.cp2 | with_reducible apply Wf.sIs | with_reducible apply Wf.sLs | with_reducible apply Wf.cpU | with_reducible apply Wf.fillI | with_reducible apply Wf.clU | with_reducible apply Wf.dnF | with_reducible apply Wf.gbW | with_reducible apply Wf.cpXf | with_reducible apply Wf.cpYf | with_reducible apply Wf.mkUf | with_reducible apply Wf.bkUf)) (y := 1) (w := 1) (by decide) (by decide)) rfl dX11_loadOrder_6 yk_X11_refuses im_X11_refuses se_X11_refuses ml_X11_407 rfl (co_338 (by repeat (first | with_reducible exact hw | with_reducible exact hwc | with_reducible assumption | with_reducible apply Wf.sI | with_reducible apply Wf.sL | with_reducible apply Wf.cpI | with_reducible apply Wf.cpL | with_reducible apply Wf.cp2 | with_reducible apply Wf.sIs | with_reducible apply Wf.sLs | with_reducible apply Wf.cpU | with_reducible apply Wf.fillI | with_reducible apply Wf.clU | with_reducible apply Wf.dnF | with_reducible apply Wf.gbW | with_reducible apply Wf.cpXf | with_reducible apply Wf.cpYf | with_reducible apply Wf.mkUf | with_reducible apply Wf.bkUf))) (by decide) hc_X11 (by decide) (by decide) (Nat.le_of_ble_eq_true rfl)) ?_
  refine lf2 (a_if_eq (tgt := 14) dX11_loadOrder_9 (by decide)) (fun h9 => absurd h9 (by decide)) (fun h9 => ?_)
  refine lf (a_iconst (0 : Int32) dX11_loadOrder_12 (by decide)) ?_
  refine ⟨_, _, (a_ireturn dX11_loadOrder_13 rfl rfl), ?_⟩
  exact ⟨_, rfl, rfl, MrQ.of (MtQ.rf hw) 1 1⟩

theorem ms_loadOrder (hw : Wf μ) (h : MnV μ q d) (ho : phD q d = 2) : CV Y_X11_loadOrder R_X11_loadOrder [.ref 338] μ (fun v V => v = some (.int 0) ∧ MrQ μ 2 1 V) := by
  have hv := h.1
  have hM4 := hv.M4
  have hT4 := hv.T4
  have hP4 := hv.P4
  have hC4 := hv.C4
  have hU4 := hv.U4
  have hw1 : Wf (sI μ 338 0 0) := hw.sI
  have hv1 : MdV (sI μ 338 0 0) q d := hv.th 0
  refine CV.ent yk_X11_loadOrder (Nat.le_of_ble_eq_true rfl) ?_
  refine lf (a_aload_n dX11_loadOrder_0 rfl) ?_
  refine lf (a_aload_n dX11_loadOrder_1 rfl) ?_
  refine lf (a_inv (b2 := (0, 0)) (m_wnl_2 (by repeat (first | with_reducible exact hw | with_reducible exact hwc | with_reducible assumption | with_reducible apply Wf.sI | with_reducible apply Wf.sL | with_reducible apply Wf.cpI | with_reducible apply Wf.cpL | with_reducible apply Wf.cp2 | with_reducible apply Wf.sIs | with_reducible apply Wf.sLs | with_reducible apply Wf.cpU | with_reducible apply Wf.fillI | with_reducible apply Wf.clU | with_reducible apply Wf.dnF | with_reducible apply Wf.gbW | with_reducible apply Wf.cpXf | with_reducible apply Wf.cpYf | with_reducible apply Wf.mkUf | with_reducible apply Wf.bkUf)) hv ho) rfl dX11_loadOrder_2 yk_X11_whyNotLoad im_X11_whyNotLoad se_X11_whyNotLoad ml_X11_416 rfl (co_338 (by repeat (first | with_reducible exact hw | with_reducible exact hwc | with_reducible assumption | with_reducible apply Wf.sI | with_reducible apply Wf.sL | with_reducible apply Wf.cpI | with_reducible apply Wf.cpL | with_reducible apply Wf.cp2 | with_reducible apply Wf.sIs | with_reducible apply Wf.sLs | with_reducible apply Wf.cpU | with_reducible apply Wf.fillI | with_reducible apply Wf.clU | with_reducible apply Wf.dnF | with_reducible apply Wf.gbW | with_reducible apply Wf.cpXf | with_reducible apply Wf.cpYf | with_reducible apply Wf.mkUf | with_reducible apply Wf.bkUf))) (by decide) hc_X11 (by decide) (by decide) (Nat.le_of_ble_eq_true rfl)) ?_
  refine lf (a_iconst (1 : Int32) dX11_loadOrder_5 (by decide)) ?_
  refine lf (a_inv (b2 := (0, 0)) (m_refuses1 (by repeat (first | with_reducible exact hw | with_reducible exact hwc | with_reducible assumption | with_reducible apply Wf.sI | with_reducible apply Wf.sL | with_reducible apply Wf.cpI | with_reducible apply Wf.cpL | with_reducible apply Wf.cp2 | with_reducible apply Wf.sIs | with_reducible apply Wf.sLs | with_reducible apply Wf.cpU | with_reducible apply Wf.fillI | with_reducible apply Wf.clU | with_reducible apply Wf.dnF | with_reducible apply Wf.gbW | with_reducible apply Wf.cpXf | with_reducible apply Wf.cpYf | with_reducible apply Wf.mkUf | with_reducible apply Wf.bkUf)) (y := 2) (w := 1) (by decide) (by decide)) rfl dX11_loadOrder_6 yk_X11_refuses im_X11_refuses se_X11_refuses ml_X11_407 rfl (co_338 (by repeat (first | with_reducible exact hw | with_reducible exact hwc | with_reducible assumption | with_reducible apply Wf.sI | with_reducible apply Wf.sL | with_reducible apply Wf.cpI | with_reducible apply Wf.cpL | with_reducible apply Wf.cp2 | with_reducible apply Wf.sIs | with_reducible apply Wf.sLs | with_reducible apply Wf.cpU | with_reducible apply Wf.fillI | with_reducible apply Wf.clU | with_reducible apply Wf.dnF | with_reducible apply Wf.gbW | with_reducible apply Wf.cpXf | with_reducible apply Wf.cpYf | with_reducible apply Wf.mkUf | with_reducible apply Wf.bkUf))) (by decide) hc_X11 (by decide) (by decide) (Nat.le_of_ble_eq_true rfl)) ?_
  refine lf2 (a_if_eq (tgt := 14) dX11_loadOrder_9 (by decide)) (fun h9 => absurd h9 (by decide)) (fun h9 => ?_)
  refine lf (a_iconst (0 : Int32) dX11_loadOrder_12 (by decide)) ?_
  refine ⟨_, _, (a_ireturn dX11_loadOrder_13 rfl rfl), ?_⟩
  exact ⟨_, rfl, rfl, MrQ.of (MtQ.rf hw) 2 1⟩

theorem mr_loadOrder (hw : Wf μ) (h : MnV μ q d) (hq0 : GdP q) (hd0 : GdD q d) (ho : phD q d = 1) (hst : (soF q (orD q d) (pM q) 0 0 d).1 = none) : CV Y_X11_loadOrder R_X11_loadOrder [.ref 338] μ (fun v V => v = some (.int 0) ∧ MrQ μ 3 1 V) := by
  have hv := h.1
  have hM4 := hv.M4
  have hT4 := hv.T4
  have hP4 := hv.P4
  have hC4 := hv.C4
  have hU4 := hv.U4
  have hw1 : Wf (sI μ 338 0 0) := hw.sI
  have hv1 : MdV (sI μ 338 0 0) q d := hv.th 0
  have hB : MtQ μ 0 (sI μ 338 0 0) := MtQ.of hw 0
  have hwM : Wf (mkU (sI μ 338 0 0) 96) := hB.1.wf.mkUf
  have hvM : MdV (mkU (sI μ 338 0 0) 96) q d := (hv.mt hB).fr (fun x => by rw [gI_mkU, if_neg (by omega)]) (fun x => by rw [gI_mkU, if_neg (by omega)])
  refine CV.ent yk_X11_loadOrder (Nat.le_of_ble_eq_true rfl) ?_
  refine lf (a_aload_n dX11_loadOrder_0 rfl) ?_
  refine lf (a_aload_n dX11_loadOrder_1 rfl) ?_
  refine lf (a_inv (b2 := (0, 0)) (m_wnl_0 (by repeat (first | with_reducible exact hw | with_reducible exact hwc | with_reducible assumption | with_reducible apply Wf.sI | with_reducible apply Wf.sL | with_reducible apply Wf.cpI | with_reducible apply Wf.cpL | with_reducible apply Wf.cp2 | with_reducible apply Wf.sIs | with_reducible apply Wf.sLs | with_reducible apply Wf.cpU | with_reducible apply Wf.fillI | with_reducible apply Wf.clU | with_reducible apply Wf.dnF | with_reducible apply Wf.gbW | with_reducible apply Wf.cpXf | with_reducible apply Wf.cpYf | with_reducible apply Wf.mkUf | with_reducible apply Wf.bkUf)) hv ho) rfl dX11_loadOrder_2 yk_X11_whyNotLoad im_X11_whyNotLoad se_X11_whyNotLoad ml_X11_416 rfl (co_338 (by repeat (first | with_reducible exact hw | with_reducible exact hwc | with_reducible assumption | with_reducible apply Wf.sI | with_reducible apply Wf.sL | with_reducible apply Wf.cpI | with_reducible apply Wf.cpL | with_reducible apply Wf.cp2 | with_reducible apply Wf.sIs | with_reducible apply Wf.sLs | with_reducible apply Wf.cpU | with_reducible apply Wf.fillI | with_reducible apply Wf.clU | with_reducible apply Wf.dnF | with_reducible apply Wf.gbW | with_reducible apply Wf.cpXf | with_reducible apply Wf.cpYf | with_reducible apply Wf.mkUf | with_reducible apply Wf.bkUf))) (by decide) hc_X11 (by decide) (by decide) (Nat.le_of_ble_eq_true rfl)) ?_
  refine lf (a_iconst (1 : Int32) dX11_loadOrder_5 (by decide)) ?_
  refine lf (a_inv (b2 := (0, 0)) (m_refuses0 (by repeat (first | with_reducible exact hw | with_reducible exact hwc | with_reducible assumption | with_reducible apply Wf.sI | with_reducible apply Wf.sL | with_reducible apply Wf.cpI | with_reducible apply Wf.cpL | with_reducible apply Wf.cp2 | with_reducible apply Wf.sIs | with_reducible apply Wf.sLs | with_reducible apply Wf.cpU | with_reducible apply Wf.fillI | with_reducible apply Wf.clU | with_reducible apply Wf.dnF | with_reducible apply Wf.gbW | with_reducible apply Wf.cpXf | with_reducible apply Wf.cpYf | with_reducible apply Wf.mkUf | with_reducible apply Wf.bkUf)) 1) rfl dX11_loadOrder_6 yk_X11_refuses im_X11_refuses se_X11_refuses ml_X11_407 rfl (co_338 (by repeat (first | with_reducible exact hw | with_reducible exact hwc | with_reducible assumption | with_reducible apply Wf.sI | with_reducible apply Wf.sL | with_reducible apply Wf.cpI | with_reducible apply Wf.cpL | with_reducible apply Wf.cp2 | with_reducible apply Wf.sIs | with_reducible apply Wf.sLs | with_reducible apply Wf.cpU | with_reducible apply Wf.fillI | with_reducible apply Wf.clU | with_reducible apply Wf.dnF | with_reducible apply Wf.gbW | with_reducible apply Wf.cpXf | with_reducible apply Wf.cpYf | with_reducible apply Wf.mkUf | with_reducible apply Wf.bkUf))) (by decide) hc_X11 (by decide) (by decide) (Nat.le_of_ble_eq_true rfl)) ?_
  refine lf2 (a_if_eq (tgt := 14) dX11_loadOrder_9 (by decide)) (fun h9 => ?_) (fun h9 => absurd h9 (fun z => z rfl))
  refine lf (a_aload_n dX11_loadOrder_14 rfl) ?_
  refine lf (a_inv (b2 := (0, 0)) (m_marksUnits (by repeat (first | with_reducible exact hw | with_reducible exact hwc | with_reducible assumption | with_reducible apply Wf.sI | with_reducible apply Wf.sL | with_reducible apply Wf.cpI | with_reducible apply Wf.cpL | with_reducible apply Wf.cp2 | with_reducible apply Wf.sIs | with_reducible apply Wf.sLs | with_reducible apply Wf.cpU | with_reducible apply Wf.fillI | with_reducible apply Wf.clU | with_reducible apply Wf.dnF | with_reducible apply Wf.gbW | with_reducible apply Wf.cpXf | with_reducible apply Wf.cpYf | with_reducible apply Wf.mkUf | with_reducible apply Wf.bkUf))) rfl dX11_loadOrder_15 yk_X11_marksUnits im_X11_marksUnits se_X11_marksUnits ml_X11_419 rfl (co_338 (by repeat (first | with_reducible exact hw | with_reducible exact hwc | with_reducible assumption | with_reducible apply Wf.sI | with_reducible apply Wf.sL | with_reducible apply Wf.cpI | with_reducible apply Wf.cpL | with_reducible apply Wf.cp2 | with_reducible apply Wf.sIs | with_reducible apply Wf.sLs | with_reducible apply Wf.cpU | with_reducible apply Wf.fillI | with_reducible apply Wf.clU | with_reducible apply Wf.dnF | with_reducible apply Wf.gbW | with_reducible apply Wf.cpXf | with_reducible apply Wf.cpYf | with_reducible apply Wf.mkUf | with_reducible apply Wf.bkUf))) (by decide) hc_X11 (by decide) (by decide) (Nat.le_of_ble_eq_true rfl)) ?_
  refine lf (a_aload_n dX11_loadOrder_18 rfl) ?_
  obtain ⟨v_, W19, k19, hval, hv19, hO19, hx19⟩ := (m_storesOrder hwM hvM hq0 hd0)
  have hwc := hO19.wf
  have hZ := bk_f hB hO19 (fun i y => y) hx19
  rw [hst] at hval
  obtain rfl := hval
  refine lf (a_inv (b2 := (0, 0)) k19 rfl dX11_loadOrder_19 yk_X11_storesOrder im_X11_storesOrder se_X11_storesOrder ml_X11_422 rfl (co_338 (by repeat (first | with_reducible exact hw | with_reducible exact hwc | with_reducible assumption | with_reducible apply Wf.sI | with_reducible apply Wf.sL | with_reducible apply Wf.cpI | with_reducible apply Wf.cpL | with_reducible apply Wf.cp2 | with_reducible apply Wf.sIs | with_reducible apply Wf.sLs | with_reducible apply Wf.cpU | with_reducible apply Wf.fillI | with_reducible apply Wf.clU | with_reducible apply Wf.dnF | with_reducible apply Wf.gbW | with_reducible apply Wf.cpXf | with_reducible apply Wf.cpYf | with_reducible apply Wf.mkUf | with_reducible apply Wf.bkUf))) (by decide) hc_X11 (by decide) (by decide) (Nat.le_of_ble_eq_true rfl)) ?_
  refine lf (a_istore_n dX11_loadOrder_22 (by decide)) ?_
  refine lf (a_aload_n dX11_loadOrder_23 rfl) ?_
  refine lf (a_inv (b2 := (0, 0)) (m_unitsBack (by repeat (first | with_reducible exact hw | with_reducible exact hwc | with_reducible assumption | with_reducible apply Wf.sI | with_reducible apply Wf.sL | with_reducible apply Wf.cpI | with_reducible apply Wf.cpL | with_reducible apply Wf.cp2 | with_reducible apply Wf.sIs | with_reducible apply Wf.sLs | with_reducible apply Wf.cpU | with_reducible apply Wf.fillI | with_reducible apply Wf.clU | with_reducible apply Wf.dnF | with_reducible apply Wf.gbW | with_reducible apply Wf.cpXf | with_reducible apply Wf.cpYf | with_reducible apply Wf.mkUf | with_reducible apply Wf.bkUf))) rfl dX11_loadOrder_24 yk_X11_unitsBack im_X11_unitsBack se_X11_unitsBack ml_X11_425 rfl (co_338 (by repeat (first | with_reducible exact hw | with_reducible exact hwc | with_reducible assumption | with_reducible apply Wf.sI | with_reducible apply Wf.sL | with_reducible apply Wf.cpI | with_reducible apply Wf.cpL | with_reducible apply Wf.cp2 | with_reducible apply Wf.sIs | with_reducible apply Wf.sLs | with_reducible apply Wf.cpU | with_reducible apply Wf.fillI | with_reducible apply Wf.clU | with_reducible apply Wf.dnF | with_reducible apply Wf.gbW | with_reducible apply Wf.cpXf | with_reducible apply Wf.cpYf | with_reducible apply Wf.mkUf | with_reducible apply Wf.bkUf))) (by decide) hc_X11 (by decide) (by decide) (Nat.le_of_ble_eq_true rfl)) ?_
  refine lf (a_aload_n dX11_loadOrder_27 rfl) ?_
  refine lf (a_iload_n dX11_loadOrder_28 rfl) ?_
  refine lf (a_iconst (-1 : Int32) dX11_loadOrder_29 (by decide)) ?_
  refine lfn (a_icmp_ne (tgt := 37) dX11_loadOrder_30 (by decide)) (fun h30 => absurd h30 (fun z => z rfl)) (fun h30 => ?_)
  refine lf (a_iconst (3 : Int32) dX11_loadOrder_33 (by decide)) ?_
  refine lf (a_goto (tgt := 38) dX11_loadOrder_34 (by decide)) ?_
  refine lf (a_iconst (1 : Int32) dX11_loadOrder_38 (by decide)) ?_
  refine lf (a_inv (b2 := (0, 0)) (m_refuses1 (by repeat (first | with_reducible exact hw | with_reducible exact hwc | with_reducible assumption | with_reducible apply Wf.sI | with_reducible apply Wf.sL | with_reducible apply Wf.cpI | with_reducible apply Wf.cpL | with_reducible apply Wf.cp2 | with_reducible apply Wf.sIs | with_reducible apply Wf.sLs | with_reducible apply Wf.cpU | with_reducible apply Wf.fillI | with_reducible apply Wf.clU | with_reducible apply Wf.dnF | with_reducible apply Wf.gbW | with_reducible apply Wf.cpXf | with_reducible apply Wf.cpYf | with_reducible apply Wf.mkUf | with_reducible apply Wf.bkUf)) (y := 3) (w := 1) (by decide) (by decide)) rfl dX11_loadOrder_39 yk_X11_refuses im_X11_refuses se_X11_refuses ml_X11_407 rfl (co_338 (by repeat (first | with_reducible exact hw | with_reducible exact hwc | with_reducible assumption | with_reducible apply Wf.sI | with_reducible apply Wf.sL | with_reducible apply Wf.cpI | with_reducible apply Wf.cpL | with_reducible apply Wf.cp2 | with_reducible apply Wf.sIs | with_reducible apply Wf.sLs | with_reducible apply Wf.cpU | with_reducible apply Wf.fillI | with_reducible apply Wf.clU | with_reducible apply Wf.dnF | with_reducible apply Wf.gbW | with_reducible apply Wf.cpXf | with_reducible apply Wf.cpYf | with_reducible apply Wf.mkUf | with_reducible apply Wf.bkUf))) (by decide) hc_X11 (by decide) (by decide) (Nat.le_of_ble_eq_true rfl)) ?_
  refine lf2 (a_if_eq (tgt := 47) dX11_loadOrder_42 (by decide)) (fun h42 => absurd h42 (by decide)) (fun h42 => ?_)
  refine lf (a_iconst (0 : Int32) dX11_loadOrder_45 (by decide)) ?_
  refine ⟨_, _, (a_ireturn dX11_loadOrder_46 rfl rfl), ?_⟩
  exact ⟨_, rfl, rfl, MrQ.of hZ 3 1⟩

theorem v_loadOrder (hw : Wf μ) (h : MnV μ q d) {H : Hst} (hp : MpV μ q H) (hq0 : GdP q) (hd0 : GdD q d) (ho : phD q d = 1) {s : Int32} {t2 : FDt} (hst : soF q (orD q d) (pM q) 0 0 d = (some s, t2)) (hs1 : ¬ s = -1) : CV Y_X11_loadOrder R_X11_loadOrder [.ref 338] μ (fun v V => v = some (.int (s)) ∧ MaQ μ V q (t2) (pushH H d)) := by
  have hv := h.1
  have hM4 := hv.M4
  have hT4 := hv.T4
  have hP4 := hv.P4
  have hC4 := hv.C4
  have hU4 := hv.U4
  have hw1 : Wf (sI μ 338 0 0) := hw.sI
  have hv1 : MdV (sI μ 338 0 0) q d := hv.th 0
  have hB : MtQ μ 0 (sI μ 338 0 0) := MtQ.of hw 0
  have hwM : Wf (mkU (sI μ 338 0 0) 96) := hB.1.wf.mkUf
  have hvM : MdV (mkU (sI μ 338 0 0) 96) q d := (hv.mt hB).fr (fun x => by rw [gI_mkU, if_neg (by omega)]) (fun x => by rw [gI_mkU, if_neg (by omega)])
  have h0 := (go_s0 (Or.inl ho)).1
  refine CV.ent yk_X11_loadOrder (Nat.le_of_ble_eq_true rfl) ?_
  refine lf (a_aload_n dX11_loadOrder_0 rfl) ?_
  refine lf (a_aload_n dX11_loadOrder_1 rfl) ?_
  refine lf (a_inv (b2 := (0, 0)) (m_wnl_0 (by repeat (first | with_reducible exact hw | with_reducible exact hwc | with_reducible assumption | with_reducible apply Wf.sI | with_reducible apply Wf.sL | with_reducible apply Wf.cpI | with_reducible apply Wf.cpL | with_reducible apply Wf.cp2 | with_reducible apply Wf.sIs | with_reducible apply Wf.sLs | with_reducible apply Wf.cpU | with_reducible apply Wf.fillI | with_reducible apply Wf.clU | with_reducible apply Wf.dnF | with_reducible apply Wf.gbW | with_reducible apply Wf.cpXf | with_reducible apply Wf.cpYf | with_reducible apply Wf.mkUf | with_reducible apply Wf.bkUf)) hv ho) rfl dX11_loadOrder_2 yk_X11_whyNotLoad im_X11_whyNotLoad se_X11_whyNotLoad ml_X11_416 rfl (co_338 (by repeat (first | with_reducible exact hw | with_reducible exact hwc | with_reducible assumption | with_reducible apply Wf.sI | with_reducible apply Wf.sL | with_reducible apply Wf.cpI | with_reducible apply Wf.cpL | with_reducible apply Wf.cp2 | with_reducible apply Wf.sIs | with_reducible apply Wf.sLs | with_reducible apply Wf.cpU | with_reducible apply Wf.fillI | with_reducible apply Wf.clU | with_reducible apply Wf.dnF | with_reducible apply Wf.gbW | with_reducible apply Wf.cpXf | with_reducible apply Wf.cpYf | with_reducible apply Wf.mkUf | with_reducible apply Wf.bkUf))) (by decide) hc_X11 (by decide) (by decide) (Nat.le_of_ble_eq_true rfl)) ?_
  refine lf (a_iconst (1 : Int32) dX11_loadOrder_5 (by decide)) ?_
  refine lf (a_inv (b2 := (0, 0)) (m_refuses0 (by repeat (first | with_reducible exact hw | with_reducible exact hwc | with_reducible assumption | with_reducible apply Wf.sI | with_reducible apply Wf.sL | with_reducible apply Wf.cpI | with_reducible apply Wf.cpL | with_reducible apply Wf.cp2 | with_reducible apply Wf.sIs | with_reducible apply Wf.sLs | with_reducible apply Wf.cpU | with_reducible apply Wf.fillI | with_reducible apply Wf.clU | with_reducible apply Wf.dnF | with_reducible apply Wf.gbW | with_reducible apply Wf.cpXf | with_reducible apply Wf.cpYf | with_reducible apply Wf.mkUf | with_reducible apply Wf.bkUf)) 1) rfl dX11_loadOrder_6 yk_X11_refuses im_X11_refuses se_X11_refuses ml_X11_407 rfl (co_338 (by repeat (first | with_reducible exact hw | with_reducible exact hwc | with_reducible assumption | with_reducible apply Wf.sI | with_reducible apply Wf.sL | with_reducible apply Wf.cpI | with_reducible apply Wf.cpL | with_reducible apply Wf.cp2 | with_reducible apply Wf.sIs | with_reducible apply Wf.sLs | with_reducible apply Wf.cpU | with_reducible apply Wf.fillI | with_reducible apply Wf.clU | with_reducible apply Wf.dnF | with_reducible apply Wf.gbW | with_reducible apply Wf.cpXf | with_reducible apply Wf.cpYf | with_reducible apply Wf.mkUf | with_reducible apply Wf.bkUf))) (by decide) hc_X11 (by decide) (by decide) (Nat.le_of_ble_eq_true rfl)) ?_
  refine lf2 (a_if_eq (tgt := 14) dX11_loadOrder_9 (by decide)) (fun h9 => ?_) (fun h9 => absurd h9 (fun z => z rfl))
  refine lf (a_aload_n dX11_loadOrder_14 rfl) ?_
  refine lf (a_inv (b2 := (0, 0)) (m_marksUnits (by repeat (first | with_reducible exact hw | with_reducible exact hwc | with_reducible assumption | with_reducible apply Wf.sI | with_reducible apply Wf.sL | with_reducible apply Wf.cpI | with_reducible apply Wf.cpL | with_reducible apply Wf.cp2 | with_reducible apply Wf.sIs | with_reducible apply Wf.sLs | with_reducible apply Wf.cpU | with_reducible apply Wf.fillI | with_reducible apply Wf.clU | with_reducible apply Wf.dnF | with_reducible apply Wf.gbW | with_reducible apply Wf.cpXf | with_reducible apply Wf.cpYf | with_reducible apply Wf.mkUf | with_reducible apply Wf.bkUf))) rfl dX11_loadOrder_15 yk_X11_marksUnits im_X11_marksUnits se_X11_marksUnits ml_X11_419 rfl (co_338 (by repeat (first | with_reducible exact hw | with_reducible exact hwc | with_reducible assumption | with_reducible apply Wf.sI | with_reducible apply Wf.sL | with_reducible apply Wf.cpI | with_reducible apply Wf.cpL | with_reducible apply Wf.cp2 | with_reducible apply Wf.sIs | with_reducible apply Wf.sLs | with_reducible apply Wf.cpU | with_reducible apply Wf.fillI | with_reducible apply Wf.clU | with_reducible apply Wf.dnF | with_reducible apply Wf.gbW | with_reducible apply Wf.cpXf | with_reducible apply Wf.cpYf | with_reducible apply Wf.mkUf | with_reducible apply Wf.bkUf))) (by decide) hc_X11 (by decide) (by decide) (Nat.le_of_ble_eq_true rfl)) ?_
  refine lf (a_aload_n dX11_loadOrder_18 rfl) ?_
  obtain ⟨v_, W19, k19, hval, hv19, hO19, hx19⟩ := (m_storesOrder hwM hvM hq0 hd0)
  have hwc := hO19.wf
  have hZ := bk_f hB hO19 (fun i y => y) hx19
  rw [hst] at hval
  obtain rfl := hval
  refine lf (a_inv (b2 := (0, 0)) k19 rfl dX11_loadOrder_19 yk_X11_storesOrder im_X11_storesOrder se_X11_storesOrder ml_X11_422 rfl (co_338 (by repeat (first | with_reducible exact hw | with_reducible exact hwc | with_reducible assumption | with_reducible apply Wf.sI | with_reducible apply Wf.sL | with_reducible apply Wf.cpI | with_reducible apply Wf.cpL | with_reducible apply Wf.cp2 | with_reducible apply Wf.sIs | with_reducible apply Wf.sLs | with_reducible apply Wf.cpU | with_reducible apply Wf.fillI | with_reducible apply Wf.clU | with_reducible apply Wf.dnF | with_reducible apply Wf.gbW | with_reducible apply Wf.cpXf | with_reducible apply Wf.cpYf | with_reducible apply Wf.mkUf | with_reducible apply Wf.bkUf))) (by decide) hc_X11 (by decide) (by decide) (Nat.le_of_ble_eq_true rfl)) ?_
  refine lf (a_istore_n dX11_loadOrder_22 (by decide)) ?_
  refine lf (a_aload_n dX11_loadOrder_23 rfl) ?_
  refine lf (a_inv (b2 := (0, 0)) (m_unitsBack (by repeat (first | with_reducible exact hw | with_reducible exact hwc | with_reducible assumption | with_reducible apply Wf.sI | with_reducible apply Wf.sL | with_reducible apply Wf.cpI | with_reducible apply Wf.cpL | with_reducible apply Wf.cp2 | with_reducible apply Wf.sIs | with_reducible apply Wf.sLs | with_reducible apply Wf.cpU | with_reducible apply Wf.fillI | with_reducible apply Wf.clU | with_reducible apply Wf.dnF | with_reducible apply Wf.gbW | with_reducible apply Wf.cpXf | with_reducible apply Wf.cpYf | with_reducible apply Wf.mkUf | with_reducible apply Wf.bkUf))) rfl dX11_loadOrder_24 yk_X11_unitsBack im_X11_unitsBack se_X11_unitsBack ml_X11_425 rfl (co_338 (by repeat (first | with_reducible exact hw | with_reducible exact hwc | with_reducible assumption | with_reducible apply Wf.sI | with_reducible apply Wf.sL | with_reducible apply Wf.cpI | with_reducible apply Wf.cpL | with_reducible apply Wf.cp2 | with_reducible apply Wf.sIs | with_reducible apply Wf.sLs | with_reducible apply Wf.cpU | with_reducible apply Wf.fillI | with_reducible apply Wf.clU | with_reducible apply Wf.dnF | with_reducible apply Wf.gbW | with_reducible apply Wf.cpXf | with_reducible apply Wf.cpYf | with_reducible apply Wf.mkUf | with_reducible apply Wf.bkUf))) (by decide) hc_X11 (by decide) (by decide) (Nat.le_of_ble_eq_true rfl)) ?_
  refine lf (a_aload_n dX11_loadOrder_27 rfl) ?_
  refine lf (a_iload_n dX11_loadOrder_28 rfl) ?_
  refine lf (a_iconst (-1 : Int32) dX11_loadOrder_29 (by decide)) ?_
  refine lfn (a_icmp_ne (tgt := 37) dX11_loadOrder_30 (by decide)) (fun h30 => ?_) (fun h30 => absurd h30 hs1)
  refine lf (a_iconst (0 : Int32) dX11_loadOrder_37 (by decide)) ?_
  refine lf (a_iconst (1 : Int32) dX11_loadOrder_38 (by decide)) ?_
  refine lf (a_inv (b2 := (0, 0)) (m_refuses0 (by repeat (first | with_reducible exact hw | with_reducible exact hwc | with_reducible assumption | with_reducible apply Wf.sI | with_reducible apply Wf.sL | with_reducible apply Wf.cpI | with_reducible apply Wf.cpL | with_reducible apply Wf.cp2 | with_reducible apply Wf.sIs | with_reducible apply Wf.sLs | with_reducible apply Wf.cpU | with_reducible apply Wf.fillI | with_reducible apply Wf.clU | with_reducible apply Wf.dnF | with_reducible apply Wf.gbW | with_reducible apply Wf.cpXf | with_reducible apply Wf.cpYf | with_reducible apply Wf.mkUf | with_reducible apply Wf.bkUf)) 1) rfl dX11_loadOrder_39 yk_X11_refuses im_X11_refuses se_X11_refuses ml_X11_407 rfl (co_338 (by repeat (first | with_reducible exact hw | with_reducible exact hwc | with_reducible assumption | with_reducible apply Wf.sI | with_reducible apply Wf.sL | with_reducible apply Wf.cpI | with_reducible apply Wf.cpL | with_reducible apply Wf.cp2 | with_reducible apply Wf.sIs | with_reducible apply Wf.sLs | with_reducible apply Wf.cpU | with_reducible apply Wf.fillI | with_reducible apply Wf.clU | with_reducible apply Wf.dnF | with_reducible apply Wf.gbW | with_reducible apply Wf.cpXf | with_reducible apply Wf.cpYf | with_reducible apply Wf.mkUf | with_reducible apply Wf.bkUf))) (by decide) hc_X11 (by decide) (by decide) (Nat.le_of_ble_eq_true rfl)) ?_
  refine lf2 (a_if_eq (tgt := 47) dX11_loadOrder_42 (by decide)) (fun h42 => ?_) (fun h42 => absurd h42 (fun z => z rfl))
  refine lf (a_aload_n dX11_loadOrder_47 rfl) ?_
  obtain ⟨v_, W48, k48, rfl, hR⟩ := (v_rem (hZ.set 0) h hp)
  have hwR := hR.1
  have hnR := hR.2.1
  have hvR := hnR.1
  refine lf (a_inv (b2 := (0, 0)) k48 rfl dX11_loadOrder_48 yk_X11_remembers im_X11_remembers se_X11_remembers ml_X11_410 rfl (co_338 (by repeat (first | with_reducible exact hw | with_reducible exact hwc | with_reducible assumption | with_reducible apply Wf.sI | with_reducible apply Wf.sL | with_reducible apply Wf.cpI | with_reducible apply Wf.cpL | with_reducible apply Wf.cp2 | with_reducible apply Wf.sIs | with_reducible apply Wf.sLs | with_reducible apply Wf.cpU | with_reducible apply Wf.fillI | with_reducible apply Wf.clU | with_reducible apply Wf.dnF | with_reducible apply Wf.gbW | with_reducible apply Wf.cpXf | with_reducible apply Wf.cpYf | with_reducible apply Wf.mkUf | with_reducible apply Wf.bkUf))) (by decide) hc_X11 (by decide) (by decide) (Nat.le_of_ble_eq_true rfl)) ?_
  refine lf (a_aload_n dX11_loadOrder_51 rfl) ?_
  obtain ⟨v2_, W52, k52, hval2, hv52, hO52, hx52⟩ := (m_storesOrder hwR hvR hq0 hd0)
  have hwd := hO52.wf
  rw [hst] at hval2 hv52
  obtain rfl := hval2
  have hlo := so_lo (q := q) (orD q d) (pM q) 0 0 d
  rw [hst] at hlo
  refine lf (a_inv (b2 := (0, 0)) k52 rfl dX11_loadOrder_52 yk_X11_storesOrder im_X11_storesOrder se_X11_storesOrder ml_X11_422 rfl (co_338 (by repeat (first | with_reducible exact hw | with_reducible exact hwc | with_reducible assumption | with_reducible apply Wf.sI | with_reducible apply Wf.sL | with_reducible apply Wf.cpI | with_reducible apply Wf.cpL | with_reducible apply Wf.cp2 | with_reducible apply Wf.sIs | with_reducible apply Wf.sLs | with_reducible apply Wf.cpU | with_reducible apply Wf.fillI | with_reducible apply Wf.clU | with_reducible apply Wf.dnF | with_reducible apply Wf.gbW | with_reducible apply Wf.cpXf | with_reducible apply Wf.cpYf | with_reducible apply Wf.mkUf | with_reducible apply Wf.bkUf))) (by decide) hc_X11 (by decide) (by decide) (Nat.le_of_ble_eq_true rfl)) ?_
  refine ⟨_, _, (a_ireturn dX11_loadOrder_55 rfl rfl), ?_⟩
  exact ⟨_, rfl, rfl, MaQ.so hR hv52 hO52 hx52 h0 hlo.1 hlo.2.1 (hlo.2.2.trans h0)⟩
abbrev R_X11_takesOut : Room := { frames := 1, cells := 0, slots := 0, locals := 21 }
abbrev RX_X11_takesOut : Room := { frames := 1, cells := 1, slots := 6, locals := 21 }

theorem l_X11_takesOut_7 (hw : Wf μ) (hv : MdV μ q d) (hk : k < 12) : ∀ r {t : Nat}, r < 8 → toL k (r + 1) d = some t → AW Y_X11_takesOut R_X11_takesOut (0, 0) μ 7 [(0, .ref 338), (1, .int (nI k)), (2, .int (nI r))] [] (.inl none) (sI μ 344 (165 + 12 * t + k) (dF d (7 + t) k - 1)) := by
  intro r
  induction r with
  | zero =>
    intro t hr ht
    have h0 : ¬ dF d (7 + 0) k = 0 := fun z => by
      have e : toL k (0 + 1) d = if dF d (7 + 0) k = 0 then none else some 0 := rfl
      rw [e, if_pos z] at ht; cases ht
    obtain rfl : 0 = t := by
      have e : toL k (0 + 1) d = if dF d (7 + 0) k = 0 then none else some 0 := rfl
      rw [e, if_neg h0] at ht; exact Option.some.inj ht
    refine a_aload_n dX11_takesOut_7 rfl ?_
    refine a_getR (cr_338_6 (by repeat (first | with_reducible exact hw | with_reducible exact hwc | with_reducible assumption | with_reducible apply Wf.sI | with_reducible apply Wf.sL | with_reducible apply Wf.cpI | with_reducible apply Wf.cpL | with_reducible apply Wf.cp2 | with_reducible apply Wf.sIs | with_reducible apply Wf.sLs | with_reducible apply Wf.cpU | with_reducible apply Wf.fillI | with_reducible apply Wf.clU | with_reducible apply Wf.dnF | with_reducible apply Wf.gbW | with_reducible apply Wf.cpXf | with_reducible apply Wf.cpYf | with_reducible apply Wf.mkUf | with_reducible apply Wf.bkUf))) dX11_takesOut_8 fs_X11_26 rfl (co_338 (by repeat (first | with_reducible exact hw | with_reducible exact hwc | with_reducible assumption | with_reducible apply Wf.sI | with_reducible apply Wf.sL | with_reducible apply Wf.cpI | with_reducible apply Wf.cpL | with_reducible apply Wf.cp2 | with_reducible apply Wf.sIs | with_reducible apply Wf.sLs | with_reducible apply Wf.cpU | with_reducible apply Wf.fillI | with_reducible apply Wf.clU | with_reducible apply Wf.dnF | with_reducible apply Wf.gbW | with_reducible apply Wf.cpXf | with_reducible apply Wf.cpYf | with_reducible apply Wf.mkUf | with_reducible apply Wf.bkUf))) ?_
    refine a_iload_n dX11_takesOut_11 rfl ?_
    refine a_iload_n dX11_takesOut_12 rfl ?_
    refine a_invS (b2 := (0, 0)) (m_unitAt 0 k) rfl dX11_takesOut_13 yk_X11_unitAt sm_X11_unitAt ml_X11_333 rfl (by decide) (by decide) (Nat.le_of_ble_eq_true rfl) ?_
    refine a_ild dX11_takesOut_16 (ca_344 (by repeat (first | with_reducible exact hw | with_reducible exact hwc | with_reducible assumption | with_reducible apply Wf.sI | with_reducible apply Wf.sL | with_reducible apply Wf.cpI | with_reducible apply Wf.cpL | with_reducible apply Wf.cp2 | with_reducible apply Wf.sIs | with_reducible apply Wf.sLs | with_reducible apply Wf.cpU | with_reducible apply Wf.fillI | with_reducible apply Wf.clU | with_reducible apply Wf.dnF | with_reducible apply Wf.gbW | with_reducible apply Wf.cpXf | with_reducible apply Wf.cpYf | with_reducible apply Wf.mkUf | with_reducible apply Wf.bkUf))) (ixn (show 165 + 12 * 0 + k < 291 by omega) (by omega)) ?_
    rw [hv.un (show 0 < 8 by omega) hk]
    refine a_if_ne (tgt := 27) dX11_takesOut_17 (by decide) (fun h17 => ?_) (fun h17 => absurd h17 h0)
    refine a_aload_n dX11_takesOut_27 rfl ?_
    refine a_getR (cr_338_6 (by repeat (first | with_reducible exact hw | with_reducible exact hwc | with_reducible assumption | with_reducible apply Wf.sI | with_reducible apply Wf.sL | with_reducible apply Wf.cpI | with_reducible apply Wf.cpL | with_reducible apply Wf.cp2 | with_reducible apply Wf.sIs | with_reducible apply Wf.sLs | with_reducible apply Wf.cpU | with_reducible apply Wf.fillI | with_reducible apply Wf.clU | with_reducible apply Wf.dnF | with_reducible apply Wf.gbW | with_reducible apply Wf.cpXf | with_reducible apply Wf.cpYf | with_reducible apply Wf.mkUf | with_reducible apply Wf.bkUf))) dX11_takesOut_28 fs_X11_26 rfl (co_338 (by repeat (first | with_reducible exact hw | with_reducible exact hwc | with_reducible assumption | with_reducible apply Wf.sI | with_reducible apply Wf.sL | with_reducible apply Wf.cpI | with_reducible apply Wf.cpL | with_reducible apply Wf.cp2 | with_reducible apply Wf.sIs | with_reducible apply Wf.sLs | with_reducible apply Wf.cpU | with_reducible apply Wf.fillI | with_reducible apply Wf.clU | with_reducible apply Wf.dnF | with_reducible apply Wf.gbW | with_reducible apply Wf.cpXf | with_reducible apply Wf.cpYf | with_reducible apply Wf.mkUf | with_reducible apply Wf.bkUf))) ?_
    refine a_iload_n dX11_takesOut_31 rfl ?_
    refine a_iload_n dX11_takesOut_32 rfl ?_
    refine a_invS (b2 := (0, 0)) (m_unitAt 0 k) rfl dX11_takesOut_33 yk_X11_unitAt sm_X11_unitAt ml_X11_333 rfl (by decide) (by decide) (Nat.le_of_ble_eq_true rfl) ?_
    refine a_aload_n dX11_takesOut_36 rfl ?_
    refine a_getR (cr_338_6 (by repeat (first | with_reducible exact hw | with_reducible exact hwc | with_reducible assumption | with_reducible apply Wf.sI | with_reducible apply Wf.sL | with_reducible apply Wf.cpI | with_reducible apply Wf.cpL | with_reducible apply Wf.cp2 | with_reducible apply Wf.sIs | with_reducible apply Wf.sLs | with_reducible apply Wf.cpU | with_reducible apply Wf.fillI | with_reducible apply Wf.clU | with_reducible apply Wf.dnF | with_reducible apply Wf.gbW | with_reducible apply Wf.cpXf | with_reducible apply Wf.cpYf | with_reducible apply Wf.mkUf | with_reducible apply Wf.bkUf))) dX11_takesOut_37 fs_X11_26 rfl (co_338 (by repeat (first | with_reducible exact hw | with_reducible exact hwc | with_reducible assumption | with_reducible apply Wf.sI | with_reducible apply Wf.sL | with_reducible apply Wf.cpI | with_reducible apply Wf.cpL | with_reducible apply Wf.cp2 | with_reducible apply Wf.sIs | with_reducible apply Wf.sLs | with_reducible apply Wf.cpU | with_reducible apply Wf.fillI | with_reducible apply Wf.clU | with_reducible apply Wf.dnF | with_reducible apply Wf.gbW | with_reducible apply Wf.cpXf | with_reducible apply Wf.cpYf | with_reducible apply Wf.mkUf | with_reducible apply Wf.bkUf))) ?_
    refine a_iload_n dX11_takesOut_40 rfl ?_
    refine a_iload_n dX11_takesOut_41 rfl ?_
    refine a_invS (b2 := (0, 0)) (m_unitAt 0 k) rfl dX11_takesOut_42 yk_X11_unitAt sm_X11_unitAt ml_X11_333 rfl (by decide) (by decide) (Nat.le_of_ble_eq_true rfl) ?_
    refine a_ild dX11_takesOut_45 (ca_344 (by repeat (first | with_reducible exact hw | with_reducible exact hwc | with_reducible assumption | with_reducible apply Wf.sI | with_reducible apply Wf.sL | with_reducible apply Wf.cpI | with_reducible apply Wf.cpL | with_reducible apply Wf.cp2 | with_reducible apply Wf.sIs | with_reducible apply Wf.sLs | with_reducible apply Wf.cpU | with_reducible apply Wf.fillI | with_reducible apply Wf.clU | with_reducible apply Wf.dnF | with_reducible apply Wf.gbW | with_reducible apply Wf.cpXf | with_reducible apply Wf.cpYf | with_reducible apply Wf.mkUf | with_reducible apply Wf.bkUf))) (ixn (show 165 + 12 * 0 + k < 291 by omega) (by omega)) ?_
    rw [hv.un (show 0 < 8 by omega) hk]
    refine a_iconst (1 : Int32) dX11_takesOut_46 (by decide) ?_
    refine a_isub dX11_takesOut_47 ?_
    refine a_ist dX11_takesOut_48 (ca_344 (by repeat (first | with_reducible exact hw | with_reducible exact hwc | with_reducible assumption | with_reducible apply Wf.sI | with_reducible apply Wf.sL | with_reducible apply Wf.cpI | with_reducible apply Wf.cpL | with_reducible apply Wf.cp2 | with_reducible apply Wf.sIs | with_reducible apply Wf.sLs | with_reducible apply Wf.cpU | with_reducible apply Wf.fillI | with_reducible apply Wf.clU | with_reducible apply Wf.dnF | with_reducible apply Wf.gbW | with_reducible apply Wf.cpXf | with_reducible apply Wf.cpYf | with_reducible apply Wf.mkUf | with_reducible apply Wf.bkUf))) (ixn (show 165 + 12 * 0 + k < 291 by omega) (by omega)) ?_
    exact a_out rfl rfl (a_return dX11_takesOut_49 rfl)
  | succ r ih =>
    intro t hr ht
    have e : toL k (r + 1 + 1) d = if dF d (7 + (r + 1)) k = 0 then toL k (r + 1) d else some (r + 1) := rfl
    rw [e] at ht
    by_cases h0 : dF d (7 + (r + 1)) k = 0
    · rw [if_pos h0] at ht
      have ihh := ih (by omega) ht
      refine a_aload_n dX11_takesOut_7 rfl ?_
      refine a_getR (cr_338_6 (by repeat (first | with_reducible exact hw | with_reducible exact hwc | with_reducible assumption | with_reducible apply Wf.sI | with_reducible apply Wf.sL | with_reducible apply Wf.cpI | with_reducible apply Wf.cpL | with_reducible apply Wf.cp2 | with_reducible apply Wf.sIs | with_reducible apply Wf.sLs | with_reducible apply Wf.cpU | with_reducible apply Wf.fillI | with_reducible apply Wf.clU | with_reducible apply Wf.dnF | with_reducible apply Wf.gbW | with_reducible apply Wf.cpXf | with_reducible apply Wf.cpYf | with_reducible apply Wf.mkUf | with_reducible apply Wf.bkUf))) dX11_takesOut_8 fs_X11_26 rfl (co_338 (by repeat (first | with_reducible exact hw | with_reducible exact hwc | with_reducible assumption | with_reducible apply Wf.sI | with_reducible apply Wf.sL | with_reducible apply Wf.cpI | with_reducible apply Wf.cpL | with_reducible apply Wf.cp2 | with_reducible apply Wf.sIs | with_reducible apply Wf.sLs | with_reducible apply Wf.cpU | with_reducible apply Wf.fillI | with_reducible apply Wf.clU | with_reducible apply Wf.dnF | with_reducible apply Wf.gbW | with_reducible apply Wf.cpXf | with_reducible apply Wf.cpYf | with_reducible apply Wf.mkUf | with_reducible apply Wf.bkUf))) ?_
      refine a_iload_n dX11_takesOut_11 rfl ?_
      refine a_iload_n dX11_takesOut_12 rfl ?_
      refine a_invS (b2 := (0, 0)) (m_unitAt (r + 1) k) rfl dX11_takesOut_13 yk_X11_unitAt sm_X11_unitAt ml_X11_333 rfl (by decide) (by decide) (Nat.le_of_ble_eq_true rfl) ?_
      refine a_ild dX11_takesOut_16 (ca_344 (by repeat (first | with_reducible exact hw | with_reducible exact hwc | with_reducible assumption | with_reducible apply Wf.sI | with_reducible apply Wf.sL | with_reducible apply Wf.cpI | with_reducible apply Wf.cpL | with_reducible apply Wf.cp2 | with_reducible apply Wf.sIs | with_reducible apply Wf.sLs | with_reducible apply Wf.cpU | with_reducible apply Wf.fillI | with_reducible apply Wf.clU | with_reducible apply Wf.dnF | with_reducible apply Wf.gbW | with_reducible apply Wf.cpXf | with_reducible apply Wf.cpYf | with_reducible apply Wf.mkUf | with_reducible apply Wf.bkUf))) (ixn (show 165 + 12 * (r + 1) + k < 291 by omega) (by omega)) ?_
      rw [hv.un (show (r + 1) < 8 by omega) hk]
      refine a_if_ne (tgt := 27) dX11_takesOut_17 (by decide) (fun h17 => absurd h17 (fun z => z h0)) (fun h17 => ?_)
      refine a_iload_n dX11_takesOut_20 rfl ?_
      refine a_iconst (1 : Int32) dX11_takesOut_21 (by decide) ?_
      refine a_isub dX11_takesOut_22 ?_
      rw [nI_sub1]
      refine a_istore_n dX11_takesOut_23 (by decide) ?_
      refine a_goto (tgt := 7) dX11_takesOut_24 (by decide) ?_
      exact a_loc _ rfl ihh
    · rw [if_neg h0] at ht
      obtain rfl : r + 1 = t := Option.some.inj ht
      refine a_aload_n dX11_takesOut_7 rfl ?_
      refine a_getR (cr_338_6 (by repeat (first | with_reducible exact hw | with_reducible exact hwc | with_reducible assumption | with_reducible apply Wf.sI | with_reducible apply Wf.sL | with_reducible apply Wf.cpI | with_reducible apply Wf.cpL | with_reducible apply Wf.cp2 | with_reducible apply Wf.sIs | with_reducible apply Wf.sLs | with_reducible apply Wf.cpU | with_reducible apply Wf.fillI | with_reducible apply Wf.clU | with_reducible apply Wf.dnF | with_reducible apply Wf.gbW | with_reducible apply Wf.cpXf | with_reducible apply Wf.cpYf | with_reducible apply Wf.mkUf | with_reducible apply Wf.bkUf))) dX11_takesOut_8 fs_X11_26 rfl (co_338 (by repeat (first | with_reducible exact hw | with_reducible exact hwc | with_reducible assumption | with_reducible apply Wf.sI | with_reducible apply Wf.sL | with_reducible apply Wf.cpI | with_reducible apply Wf.cpL | with_reducible apply Wf.cp2 | with_reducible apply Wf.sIs | with_reducible apply Wf.sLs | with_reducible apply Wf.cpU | with_reducible apply Wf.fillI | with_reducible apply Wf.clU | with_reducible apply Wf.dnF | with_reducible apply Wf.gbW | with_reducible apply Wf.cpXf | with_reducible apply Wf.cpYf | with_reducible apply Wf.mkUf | with_reducible apply Wf.bkUf))) ?_
      refine a_iload_n dX11_takesOut_11 rfl ?_
      refine a_iload_n dX11_takesOut_12 rfl ?_
      refine a_invS (b2 := (0, 0)) (m_unitAt (r + 1) k) rfl dX11_takesOut_13 yk_X11_unitAt sm_X11_unitAt ml_X11_333 rfl (by decide) (by decide) (Nat.le_of_ble_eq_true rfl) ?_
      refine a_ild dX11_takesOut_16 (ca_344 (by repeat (first | with_reducible exact hw | with_reducible exact hwc | with_reducible assumption | with_reducible apply Wf.sI | with_reducible apply Wf.sL | with_reducible apply Wf.cpI | with_reducible apply Wf.cpL | with_reducible apply Wf.cp2 | with_reducible apply Wf.sIs | with_reducible apply Wf.sLs | with_reducible apply Wf.cpU | with_reducible apply Wf.fillI | with_reducible apply Wf.clU | with_reducible apply Wf.dnF | with_reducible apply Wf.gbW | with_reducible apply Wf.cpXf | with_reducible apply Wf.cpYf | with_reducible apply Wf.mkUf | with_reducible apply Wf.bkUf))) (ixn (show 165 + 12 * (r + 1) + k < 291 by omega) (by omega)) ?_
      rw [hv.un (show (r + 1) < 8 by omega) hk]
      refine a_if_ne (tgt := 27) dX11_takesOut_17 (by decide) (fun h17 => ?_) (fun h17 => absurd h17 h0)
      refine a_aload_n dX11_takesOut_27 rfl ?_
      refine a_getR (cr_338_6 (by repeat (first | with_reducible exact hw | with_reducible exact hwc | with_reducible assumption | with_reducible apply Wf.sI | with_reducible apply Wf.sL | with_reducible apply Wf.cpI | with_reducible apply Wf.cpL | with_reducible apply Wf.cp2 | with_reducible apply Wf.sIs | with_reducible apply Wf.sLs | with_reducible apply Wf.cpU | with_reducible apply Wf.fillI | with_reducible apply Wf.clU | with_reducible apply Wf.dnF | with_reducible apply Wf.gbW | with_reducible apply Wf.cpXf | with_reducible apply Wf.cpYf | with_reducible apply Wf.mkUf | with_reducible apply Wf.bkUf))) dX11_takesOut_28 fs_X11_26 rfl (co_338 (by repeat (first | with_reducible exact hw | with_reducible exact hwc | with_reducible assumption | with_reducible apply Wf.sI | with_reducible apply Wf.sL | with_reducible apply Wf.cpI | with_reducible apply Wf.cpL | with_reducible apply Wf.cp2 | with_reducible apply Wf.sIs | with_reducible apply Wf.sLs | with_reducible apply Wf.cpU | with_reducible apply Wf.fillI | with_reducible apply Wf.clU | with_reducible apply Wf.dnF | with_reducible apply Wf.gbW | with_reducible apply Wf.cpXf | with_reducible apply Wf.cpYf | with_reducible apply Wf.mkUf | with_reducible apply Wf.bkUf))) ?_
      refine a_iload_n dX11_takesOut_31 rfl ?_
      refine a_iload_n dX11_takesOut_32 rfl ?_
      refine a_invS (b2 := (0, 0)) (m_unitAt (r + 1) k) rfl dX11_takesOut_33 yk_X11_unitAt sm_X11_unitAt ml_X11_333 rfl (by decide) (by decide) (Nat.le_of_ble_eq_true rfl) ?_
      refine a_aload_n dX11_takesOut_36 rfl ?_
      refine a_getR (cr_338_6 (by repeat (first | with_reducible exact hw | with_reducible exact hwc | with_reducible assumption | with_reducible apply Wf.sI | with_reducible apply Wf.sL | with_reducible apply Wf.cpI | with_reducible apply Wf.cpL | with_reducible apply Wf.cp2 | with_reducible apply Wf.sIs | with_reducible apply Wf.sLs | with_reducible apply Wf.cpU | with_reducible apply Wf.fillI | with_reducible apply Wf.clU | with_reducible apply Wf.dnF | with_reducible apply Wf.gbW | with_reducible apply Wf.cpXf | with_reducible apply Wf.cpYf | with_reducible apply Wf.mkUf | with_reducible apply Wf.bkUf))) dX11_takesOut_37 fs_X11_26 rfl (co_338 (by repeat (first | with_reducible exact hw | with_reducible exact hwc | with_reducible assumption | with_reducible apply Wf.sI | with_reducible apply Wf.sL | with_reducible apply Wf.cpI | with_reducible apply Wf.cpL | with_reducible apply Wf.cp2 | with_reducible apply Wf.sIs | with_reducible apply Wf.sLs | with_reducible apply Wf.cpU | with_reducible apply Wf.fillI | with_reducible apply Wf.clU | with_reducible apply Wf.dnF | with_reducible apply Wf.gbW | with_reducible apply Wf.cpXf | with_reducible apply Wf.cpYf | with_reducible apply Wf.mkUf | with_reducible apply Wf.bkUf))) ?_
      refine a_iload_n dX11_takesOut_40 rfl ?_
      refine a_iload_n dX11_takesOut_41 rfl ?_
      refine a_invS (b2 := (0, 0)) (m_unitAt (r + 1) k) rfl dX11_takesOut_42 yk_X11_unitAt sm_X11_unitAt ml_X11_333 rfl (by decide) (by decide) (Nat.le_of_ble_eq_true rfl) ?_
      refine a_ild dX11_takesOut_45 (ca_344 (by repeat (first | with_reducible exact hw | with_reducible exact hwc | with_reducible assumption | with_reducible apply Wf.sI | with_reducible apply Wf.sL | with_reducible apply Wf.cpI | with_reducible apply Wf.cpL | with_reducible apply Wf.cp2 | with_reducible apply Wf.sIs | with_reducible apply Wf.sLs | with_reducible apply Wf.cpU | with_reducible apply Wf.fillI | with_reducible apply Wf.clU | with_reducible apply Wf.dnF | with_reducible apply Wf.gbW | with_reducible apply Wf.cpXf | with_reducible apply Wf.cpYf | with_reducible apply Wf.mkUf | with_reducible apply Wf.bkUf))) (ixn (show 165 + 12 * (r + 1) + k < 291 by omega) (by omega)) ?_
      rw [hv.un (show (r + 1) < 8 by omega) hk]
      refine a_iconst (1 : Int32) dX11_takesOut_46 (by decide) ?_
      refine a_isub dX11_takesOut_47 ?_
      refine a_ist dX11_takesOut_48 (ca_344 (by repeat (first | with_reducible exact hw | with_reducible exact hwc | with_reducible assumption | with_reducible apply Wf.sI | with_reducible apply Wf.sL | with_reducible apply Wf.cpI | with_reducible apply Wf.cpL | with_reducible apply Wf.cp2 | with_reducible apply Wf.sIs | with_reducible apply Wf.sLs | with_reducible apply Wf.cpU | with_reducible apply Wf.fillI | with_reducible apply Wf.clU | with_reducible apply Wf.dnF | with_reducible apply Wf.gbW | with_reducible apply Wf.cpXf | with_reducible apply Wf.cpYf | with_reducible apply Wf.mkUf | with_reducible apply Wf.bkUf))) (ixn (show 165 + 12 * (r + 1) + k < 291 by omega) (by omega)) ?_
      exact a_out rfl rfl (a_return dX11_takesOut_49 rfl)
theorem m_takesOut (hw : Wf μ) (hv : MdV μ q d) (hk : k < 12) {t : Nat} (ht : toL k (pT q) d = some t) : Ct Y_X11_takesOut R_X11_takesOut [.ref 338, .int (nI k)] μ (.inl none) (sI μ 344 (165 + 12 * t + k) (dF d (7 + t) k - 1)) := by
  have hT4 := hv.T4
  obtain ⟨r, hr⟩ : ∃ r, pT q = r + 1 := ⟨pT q - 1, by have := (toL_lt ht).1; omega⟩
  refine Ct.ent yk_X11_takesOut (Nat.le_of_ble_eq_true rfl) ?_
  refine a_aload_n dX11_takesOut_0 rfl ?_
  refine a_inv (b2 := (0, 0)) (m_trolleys hw hv) rfl dX11_takesOut_1 yk_X11_trolleys im_X11_trolleys se_X11_trolleys ml_X11_330 rfl (co_338 hw) (by decide) hc_X11 (by decide) (by decide) (Nat.le_of_ble_eq_true rfl) ?_
  refine a_iconst (1 : Int32) dX11_takesOut_4 (by decide) ?_
  rw [hr]
  refine a_isub dX11_takesOut_5 ?_
  rw [nI_sub1]
  refine a_istore_n dX11_takesOut_6 (by decide) ?_
  exact a_loc _ rfl (l_X11_takesOut_7 hw hv hk r (by omega) (by rw [← hr]; exact ht))
abbrev R_X11_unload : Room := { frames := 3, cells := 0, slots := 0, locals := 65 }
abbrev RX_X11_unload : Room := { frames := 3, cells := 1, slots := 6, locals := 65 }

theorem mx_unload (hw : Wf μ) (h : MnV μ q d) {x y : Int32} (hx : ixO x (pM q) = none) : Ct Y_X11_unload R_X11_unload [.ref 338, .int x, .int y] μ (.inl (some (.int 0))) (sI μ 338 0 1) := by
  have hv := h.1
  have hM4 := hv.M4
  have hT4 := hv.T4
  have hP4 := hv.P4
  have hC4 := hv.C4
  have hU4 := hv.U4
  have hw1 : Wf (sI μ 338 0 0) := hw.sI
  have hv1 : MdV (sI μ 338 0 0) q d := hv.th 0
  refine Ct.ent yk_X11_unload (Nat.le_of_ble_eq_true rfl) ?_
  refine a_aload_n dX11_unload_0 rfl ?_
  refine a_aload_n dX11_unload_1 rfl ?_
  refine a_iload_n dX11_unload_2 rfl ?_
  refine a_iload_n dX11_unload_3 rfl ?_
  refine a_inv (b2 := (0, 0)) (Ct.int (by rw [hx]) (m_wrongUnits (by repeat (first | with_reducible exact hw | with_reducible exact hwc | with_reducible assumption | with_reducible apply Wf.sI | with_reducible apply Wf.sL | with_reducible apply Wf.cpI | with_reducible apply Wf.cpL | with_reducible apply Wf.cp2 | with_reducible apply Wf.sIs | with_reducible apply Wf.sLs | with_reducible apply Wf.cpU | with_reducible apply Wf.fillI | with_reducible apply Wf.clU | with_reducible apply Wf.dnF | with_reducible apply Wf.gbW | with_reducible apply Wf.cpXf | with_reducible apply Wf.cpYf | with_reducible apply Wf.mkUf | with_reducible apply Wf.bkUf)) hv x y)) rfl dX11_unload_4 yk_X11_wrongUnits im_X11_wrongUnits se_X11_wrongUnits ml_X11_428 rfl (co_338 (by repeat (first | with_reducible exact hw | with_reducible exact hwc | with_reducible assumption | with_reducible apply Wf.sI | with_reducible apply Wf.sL | with_reducible apply Wf.cpI | with_reducible apply Wf.cpL | with_reducible apply Wf.cp2 | with_reducible apply Wf.sIs | with_reducible apply Wf.sLs | with_reducible apply Wf.cpU | with_reducible apply Wf.fillI | with_reducible apply Wf.clU | with_reducible apply Wf.dnF | with_reducible apply Wf.gbW | with_reducible apply Wf.cpXf | with_reducible apply Wf.cpYf | with_reducible apply Wf.mkUf | with_reducible apply Wf.bkUf))) (by decide) hc_X11 (by decide) (by decide) (Nat.le_of_ble_eq_true rfl) ?_
  refine a_inv (b2 := (0, 0)) (m_isRefused1 (by repeat (first | with_reducible exact hw | with_reducible exact hwc | with_reducible assumption | with_reducible apply Wf.sI | with_reducible apply Wf.sL | with_reducible apply Wf.cpI | with_reducible apply Wf.cpL | with_reducible apply Wf.cp2 | with_reducible apply Wf.sIs | with_reducible apply Wf.sLs | with_reducible apply Wf.cpU | with_reducible apply Wf.fillI | with_reducible apply Wf.clU | with_reducible apply Wf.dnF | with_reducible apply Wf.gbW | with_reducible apply Wf.cpXf | with_reducible apply Wf.cpYf | with_reducible apply Wf.mkUf | with_reducible apply Wf.bkUf)) (v := 1) (by decide)) rfl dX11_unload_7 yk_X11_isRefused im_X11_isRefused se_X11_isRefused ml_X11_98 rfl (co_338 (by repeat (first | with_reducible exact hw | with_reducible exact hwc | with_reducible assumption | with_reducible apply Wf.sI | with_reducible apply Wf.sL | with_reducible apply Wf.cpI | with_reducible apply Wf.cpL | with_reducible apply Wf.cp2 | with_reducible apply Wf.sIs | with_reducible apply Wf.sLs | with_reducible apply Wf.cpU | with_reducible apply Wf.fillI | with_reducible apply Wf.clU | with_reducible apply Wf.dnF | with_reducible apply Wf.gbW | with_reducible apply Wf.cpXf | with_reducible apply Wf.cpYf | with_reducible apply Wf.mkUf | with_reducible apply Wf.bkUf))) (by decide) hc_X11 (by decide) (by decide) (Nat.le_of_ble_eq_true rfl) ?_
  refine a_if_eq (tgt := 15) dX11_unload_10 (by decide) (fun h10 => absurd h10 (by decide)) (fun h10 => ?_)
  refine a_iconst (0 : Int32) dX11_unload_13 (by decide) ?_
  exact a_out rfl rfl (a_ireturn dX11_unload_14 rfl rfl)

theorem my_unload (hw : Wf μ) (h : MnV μ q d) {m : Nat} (hm : m < pM q) {y : Int32} (hy : unO y = none) : Ct Y_X11_unload R_X11_unload [.ref 338, .int (nI m), .int y] μ (.inl (some (.int 0))) (sI μ 338 0 2) := by
  have hv := h.1
  have hM4 := hv.M4
  have hT4 := hv.T4
  have hP4 := hv.P4
  have hC4 := hv.C4
  have hU4 := hv.U4
  have hw1 : Wf (sI μ 338 0 0) := hw.sI
  have hv1 : MdV (sI μ 338 0 0) q d := hv.th 0
  refine Ct.ent yk_X11_unload (Nat.le_of_ble_eq_true rfl) ?_
  refine a_aload_n dX11_unload_0 rfl ?_
  refine a_aload_n dX11_unload_1 rfl ?_
  refine a_iload_n dX11_unload_2 rfl ?_
  refine a_iload_n dX11_unload_3 rfl ?_
  refine a_inv (b2 := (0, 0)) (Ct.int (by rw [ixO_of hm (by omega), hy]) (m_wrongUnits (by repeat (first | with_reducible exact hw | with_reducible exact hwc | with_reducible assumption | with_reducible apply Wf.sI | with_reducible apply Wf.sL | with_reducible apply Wf.cpI | with_reducible apply Wf.cpL | with_reducible apply Wf.cp2 | with_reducible apply Wf.sIs | with_reducible apply Wf.sLs | with_reducible apply Wf.cpU | with_reducible apply Wf.fillI | with_reducible apply Wf.clU | with_reducible apply Wf.dnF | with_reducible apply Wf.gbW | with_reducible apply Wf.cpXf | with_reducible apply Wf.cpYf | with_reducible apply Wf.mkUf | with_reducible apply Wf.bkUf)) hv (nI m) y)) rfl dX11_unload_4 yk_X11_wrongUnits im_X11_wrongUnits se_X11_wrongUnits ml_X11_428 rfl (co_338 (by repeat (first | with_reducible exact hw | with_reducible exact hwc | with_reducible assumption | with_reducible apply Wf.sI | with_reducible apply Wf.sL | with_reducible apply Wf.cpI | with_reducible apply Wf.cpL | with_reducible apply Wf.cp2 | with_reducible apply Wf.sIs | with_reducible apply Wf.sLs | with_reducible apply Wf.cpU | with_reducible apply Wf.fillI | with_reducible apply Wf.clU | with_reducible apply Wf.dnF | with_reducible apply Wf.gbW | with_reducible apply Wf.cpXf | with_reducible apply Wf.cpYf | with_reducible apply Wf.mkUf | with_reducible apply Wf.bkUf))) (by decide) hc_X11 (by decide) (by decide) (Nat.le_of_ble_eq_true rfl) ?_
  refine a_inv (b2 := (0, 0)) (m_isRefused1 (by repeat (first | with_reducible exact hw | with_reducible exact hwc | with_reducible assumption | with_reducible apply Wf.sI | with_reducible apply Wf.sL | with_reducible apply Wf.cpI | with_reducible apply Wf.cpL | with_reducible apply Wf.cp2 | with_reducible apply Wf.sIs | with_reducible apply Wf.sLs | with_reducible apply Wf.cpU | with_reducible apply Wf.fillI | with_reducible apply Wf.clU | with_reducible apply Wf.dnF | with_reducible apply Wf.gbW | with_reducible apply Wf.cpXf | with_reducible apply Wf.cpYf | with_reducible apply Wf.mkUf | with_reducible apply Wf.bkUf)) (v := 2) (by decide)) rfl dX11_unload_7 yk_X11_isRefused im_X11_isRefused se_X11_isRefused ml_X11_98 rfl (co_338 (by repeat (first | with_reducible exact hw | with_reducible exact hwc | with_reducible assumption | with_reducible apply Wf.sI | with_reducible apply Wf.sL | with_reducible apply Wf.cpI | with_reducible apply Wf.cpL | with_reducible apply Wf.cp2 | with_reducible apply Wf.sIs | with_reducible apply Wf.sLs | with_reducible apply Wf.cpU | with_reducible apply Wf.fillI | with_reducible apply Wf.clU | with_reducible apply Wf.dnF | with_reducible apply Wf.gbW | with_reducible apply Wf.cpXf | with_reducible apply Wf.cpYf | with_reducible apply Wf.mkUf | with_reducible apply Wf.bkUf))) (by decide) hc_X11 (by decide) (by decide) (Nat.le_of_ble_eq_true rfl) ?_
  refine a_if_eq (tgt := 15) dX11_unload_10 (by decide) (fun h10 => absurd h10 (by decide)) (fun h10 => ?_)
  refine a_iconst (0 : Int32) dX11_unload_13 (by decide) ?_
  exact a_out rfl rfl (a_ireturn dX11_unload_14 rfl rfl)

theorem mp_unload (hw : Wf μ) (h : MnV μ q d) (hg : ¬ goD q d) {m n : Nat} (hm : m < pM q) (g1 : 1 ≤ n) (g2 : n ≤ 99) : CV Y_X11_unload R_X11_unload [.ref 338, .int (nI m), .int (nI n)] μ (fun v V => v = some (.int 0) ∧ MrQ μ 1 3 V) := by
  have hv := h.1
  have hM4 := hv.M4
  have hT4 := hv.T4
  have hP4 := hv.P4
  have hC4 := hv.C4
  have hU4 := hv.U4
  have hw1 : Wf (sI μ 338 0 0) := hw.sI
  have hv1 : MdV (sI μ 338 0 0) q d := hv.th 0
  refine CV.ent yk_X11_unload (Nat.le_of_ble_eq_true rfl) ?_
  refine lf (a_aload_n dX11_unload_0 rfl) ?_
  refine lf (a_aload_n dX11_unload_1 rfl) ?_
  refine lf (a_iload_n dX11_unload_2 rfl) ?_
  refine lf (a_iload_n dX11_unload_3 rfl) ?_
  refine lf (a_inv (b2 := (0, 0)) (Ct.int (by rw [ixO_of hm (by omega), unO_of g1 g2]) (m_wrongUnits (by repeat (first | with_reducible exact hw | with_reducible exact hwc | with_reducible assumption | with_reducible apply Wf.sI | with_reducible apply Wf.sL | with_reducible apply Wf.cpI | with_reducible apply Wf.cpL | with_reducible apply Wf.cp2 | with_reducible apply Wf.sIs | with_reducible apply Wf.sLs | with_reducible apply Wf.cpU | with_reducible apply Wf.fillI | with_reducible apply Wf.clU | with_reducible apply Wf.dnF | with_reducible apply Wf.gbW | with_reducible apply Wf.cpXf | with_reducible apply Wf.cpYf | with_reducible apply Wf.mkUf | with_reducible apply Wf.bkUf)) hv (nI m) (nI n))) rfl dX11_unload_4 yk_X11_wrongUnits im_X11_wrongUnits se_X11_wrongUnits ml_X11_428 rfl (co_338 (by repeat (first | with_reducible exact hw | with_reducible exact hwc | with_reducible assumption | with_reducible apply Wf.sI | with_reducible apply Wf.sL | with_reducible apply Wf.cpI | with_reducible apply Wf.cpL | with_reducible apply Wf.cp2 | with_reducible apply Wf.sIs | with_reducible apply Wf.sLs | with_reducible apply Wf.cpU | with_reducible apply Wf.fillI | with_reducible apply Wf.clU | with_reducible apply Wf.dnF | with_reducible apply Wf.gbW | with_reducible apply Wf.cpXf | with_reducible apply Wf.cpYf | with_reducible apply Wf.mkUf | with_reducible apply Wf.bkUf))) (by decide) hc_X11 (by decide) (by decide) (Nat.le_of_ble_eq_true rfl)) ?_
  refine lf (a_inv (b2 := (0, 0)) (m_isRefused0 (by repeat (first | with_reducible exact hw | with_reducible exact hwc | with_reducible assumption | with_reducible apply Wf.sI | with_reducible apply Wf.sL | with_reducible apply Wf.cpI | with_reducible apply Wf.cpL | with_reducible apply Wf.cp2 | with_reducible apply Wf.sIs | with_reducible apply Wf.sLs | with_reducible apply Wf.cpU | with_reducible apply Wf.fillI | with_reducible apply Wf.clU | with_reducible apply Wf.dnF | with_reducible apply Wf.gbW | with_reducible apply Wf.cpXf | with_reducible apply Wf.cpYf | with_reducible apply Wf.mkUf | with_reducible apply Wf.bkUf))) rfl dX11_unload_7 yk_X11_isRefused im_X11_isRefused se_X11_isRefused ml_X11_98 rfl (co_338 (by repeat (first | with_reducible exact hw | with_reducible exact hwc | with_reducible assumption | with_reducible apply Wf.sI | with_reducible apply Wf.sL | with_reducible apply Wf.cpI | with_reducible apply Wf.cpL | with_reducible apply Wf.cp2 | with_reducible apply Wf.sIs | with_reducible apply Wf.sLs | with_reducible apply Wf.cpU | with_reducible apply Wf.fillI | with_reducible apply Wf.clU | with_reducible apply Wf.dnF | with_reducible apply Wf.gbW | with_reducible apply Wf.cpXf | with_reducible apply Wf.cpYf | with_reducible apply Wf.mkUf | with_reducible apply Wf.bkUf))) (by decide) hc_X11 (by decide) (by decide) (Nat.le_of_ble_eq_true rfl)) ?_
  refine lf2 (a_if_eq (tgt := 15) dX11_unload_10 (by decide)) (fun h10 => ?_) (fun h10 => absurd h10 (fun z => z rfl))
  refine lf (a_aload_n dX11_unload_15 rfl) ?_
  refine lf (a_aload_n dX11_unload_16 rfl) ?_
  refine lf (a_inv (b2 := (0, 0)) (Ct.int (ngo_in hg) (m_isGoing (by repeat (first | with_reducible exact hw | with_reducible exact hwc | with_reducible assumption | with_reducible apply Wf.sI | with_reducible apply Wf.sL | with_reducible apply Wf.cpI | with_reducible apply Wf.cpL | with_reducible apply Wf.cp2 | with_reducible apply Wf.sIs | with_reducible apply Wf.sLs | with_reducible apply Wf.cpU | with_reducible apply Wf.fillI | with_reducible apply Wf.clU | with_reducible apply Wf.dnF | with_reducible apply Wf.gbW | with_reducible apply Wf.cpXf | with_reducible apply Wf.cpYf | with_reducible apply Wf.mkUf | with_reducible apply Wf.bkUf)) (h.1.th 0))) rfl dX11_unload_17 yk_X11_isGoing im_X11_isGoing se_X11_isGoing ml_X11_401 rfl (co_338 (by repeat (first | with_reducible exact hw | with_reducible exact hwc | with_reducible assumption | with_reducible apply Wf.sI | with_reducible apply Wf.sL | with_reducible apply Wf.cpI | with_reducible apply Wf.cpL | with_reducible apply Wf.cp2 | with_reducible apply Wf.sIs | with_reducible apply Wf.sLs | with_reducible apply Wf.cpU | with_reducible apply Wf.fillI | with_reducible apply Wf.clU | with_reducible apply Wf.dnF | with_reducible apply Wf.gbW | with_reducible apply Wf.cpXf | with_reducible apply Wf.cpYf | with_reducible apply Wf.mkUf | with_reducible apply Wf.bkUf))) (by decide) hc_X11 (by decide) (by decide) (Nat.le_of_ble_eq_true rfl)) ?_
  refine lfn (a_if_ne (tgt := 27) dX11_unload_20 (by decide)) (fun h20 => absurd h20 (fun z => z rfl)) (fun h20 => ?_)
  refine lf (a_iconst (1 : Int32) dX11_unload_23 (by decide)) ?_
  refine lf (a_goto (tgt := 41) dX11_unload_24 (by decide)) ?_
  refine lf (a_iconst (3 : Int32) dX11_unload_41 (by decide)) ?_
  refine lf (a_inv (b2 := (0, 0)) (m_refuses1 (by repeat (first | with_reducible exact hw | with_reducible exact hwc | with_reducible assumption | with_reducible apply Wf.sI | with_reducible apply Wf.sL | with_reducible apply Wf.cpI | with_reducible apply Wf.cpL | with_reducible apply Wf.cp2 | with_reducible apply Wf.sIs | with_reducible apply Wf.sLs | with_reducible apply Wf.cpU | with_reducible apply Wf.fillI | with_reducible apply Wf.clU | with_reducible apply Wf.dnF | with_reducible apply Wf.gbW | with_reducible apply Wf.cpXf | with_reducible apply Wf.cpYf | with_reducible apply Wf.mkUf | with_reducible apply Wf.bkUf)) (y := 1) (w := 3) (by decide) (by decide)) rfl dX11_unload_42 yk_X11_refuses im_X11_refuses se_X11_refuses ml_X11_407 rfl (co_338 (by repeat (first | with_reducible exact hw | with_reducible exact hwc | with_reducible assumption | with_reducible apply Wf.sI | with_reducible apply Wf.sL | with_reducible apply Wf.cpI | with_reducible apply Wf.cpL | with_reducible apply Wf.cp2 | with_reducible apply Wf.sIs | with_reducible apply Wf.sLs | with_reducible apply Wf.cpU | with_reducible apply Wf.fillI | with_reducible apply Wf.clU | with_reducible apply Wf.dnF | with_reducible apply Wf.gbW | with_reducible apply Wf.cpXf | with_reducible apply Wf.cpYf | with_reducible apply Wf.mkUf | with_reducible apply Wf.bkUf))) (by decide) hc_X11 (by decide) (by decide) (Nat.le_of_ble_eq_true rfl)) ?_
  refine lf2 (a_if_eq (tgt := 50) dX11_unload_45 (by decide)) (fun h45 => absurd h45 (by decide)) (fun h45 => ?_)
  refine lf (a_iconst (0 : Int32) dX11_unload_48 (by decide)) ?_
  refine ⟨_, _, (a_ireturn dX11_unload_49 rfl rfl), ?_⟩
  exact ⟨_, rfl, rfl, MrQ.of (MtQ.of hw 0) 1 3⟩

theorem mr_unload (hw : Wf μ) (h : MnV μ q d) (hgo : goD q d) {m n : Nat} (hm : m < pM q) (g1 : 1 ≤ n) (g2 : n ≤ 99) (hld : ¬ nI n ≤ ldD q d m) : CV Y_X11_unload R_X11_unload [.ref 338, .int (nI m), .int (nI n)] μ (fun v V => v = some (.int 0) ∧ MrQ μ 4 3 V) := by
  have hv := h.1
  have hM4 := hv.M4
  have hT4 := hv.T4
  have hP4 := hv.P4
  have hC4 := hv.C4
  have hU4 := hv.U4
  have hw1 : Wf (sI μ 338 0 0) := hw.sI
  have hv1 : MdV (sI μ 338 0 0) q d := hv.th 0
  refine CV.ent yk_X11_unload (Nat.le_of_ble_eq_true rfl) ?_
  refine lf (a_aload_n dX11_unload_0 rfl) ?_
  refine lf (a_aload_n dX11_unload_1 rfl) ?_
  refine lf (a_iload_n dX11_unload_2 rfl) ?_
  refine lf (a_iload_n dX11_unload_3 rfl) ?_
  refine lf (a_inv (b2 := (0, 0)) (Ct.int (by rw [ixO_of hm (by omega), unO_of g1 g2]) (m_wrongUnits (by repeat (first | with_reducible exact hw | with_reducible exact hwc | with_reducible assumption | with_reducible apply Wf.sI | with_reducible apply Wf.sL | with_reducible apply Wf.cpI | with_reducible apply Wf.cpL | with_reducible apply Wf.cp2 | with_reducible apply Wf.sIs | with_reducible apply Wf.sLs | with_reducible apply Wf.cpU | with_reducible apply Wf.fillI | with_reducible apply Wf.clU | with_reducible apply Wf.dnF | with_reducible apply Wf.gbW | with_reducible apply Wf.cpXf | with_reducible apply Wf.cpYf | with_reducible apply Wf.mkUf | with_reducible apply Wf.bkUf)) hv (nI m) (nI n))) rfl dX11_unload_4 yk_X11_wrongUnits im_X11_wrongUnits se_X11_wrongUnits ml_X11_428 rfl (co_338 (by repeat (first | with_reducible exact hw | with_reducible exact hwc | with_reducible assumption | with_reducible apply Wf.sI | with_reducible apply Wf.sL | with_reducible apply Wf.cpI | with_reducible apply Wf.cpL | with_reducible apply Wf.cp2 | with_reducible apply Wf.sIs | with_reducible apply Wf.sLs | with_reducible apply Wf.cpU | with_reducible apply Wf.fillI | with_reducible apply Wf.clU | with_reducible apply Wf.dnF | with_reducible apply Wf.gbW | with_reducible apply Wf.cpXf | with_reducible apply Wf.cpYf | with_reducible apply Wf.mkUf | with_reducible apply Wf.bkUf))) (by decide) hc_X11 (by decide) (by decide) (Nat.le_of_ble_eq_true rfl)) ?_
  refine lf (a_inv (b2 := (0, 0)) (m_isRefused0 (by repeat (first | with_reducible exact hw | with_reducible exact hwc | with_reducible assumption | with_reducible apply Wf.sI | with_reducible apply Wf.sL | with_reducible apply Wf.cpI | with_reducible apply Wf.cpL | with_reducible apply Wf.cp2 | with_reducible apply Wf.sIs | with_reducible apply Wf.sLs | with_reducible apply Wf.cpU | with_reducible apply Wf.fillI | with_reducible apply Wf.clU | with_reducible apply Wf.dnF | with_reducible apply Wf.gbW | with_reducible apply Wf.cpXf | with_reducible apply Wf.cpYf | with_reducible apply Wf.mkUf | with_reducible apply Wf.bkUf))) rfl dX11_unload_7 yk_X11_isRefused im_X11_isRefused se_X11_isRefused ml_X11_98 rfl (co_338 (by repeat (first | with_reducible exact hw | with_reducible exact hwc | with_reducible assumption | with_reducible apply Wf.sI | with_reducible apply Wf.sL | with_reducible apply Wf.cpI | with_reducible apply Wf.cpL | with_reducible apply Wf.cp2 | with_reducible apply Wf.sIs | with_reducible apply Wf.sLs | with_reducible apply Wf.cpU | with_reducible apply Wf.fillI | with_reducible apply Wf.clU | with_reducible apply Wf.dnF | with_reducible apply Wf.gbW | with_reducible apply Wf.cpXf | with_reducible apply Wf.cpYf | with_reducible apply Wf.mkUf | with_reducible apply Wf.bkUf))) (by decide) hc_X11 (by decide) (by decide) (Nat.le_of_ble_eq_true rfl)) ?_
  refine lf2 (a_if_eq (tgt := 15) dX11_unload_10 (by decide)) (fun h10 => ?_) (fun h10 => absurd h10 (fun z => z rfl))
  refine lf (a_aload_n dX11_unload_15 rfl) ?_
  refine lf (a_aload_n dX11_unload_16 rfl) ?_
  refine lf (a_inv (b2 := (0, 0)) (Ct.int (go_in hgo) (m_isGoing (by repeat (first | with_reducible exact hw | with_reducible exact hwc | with_reducible assumption | with_reducible apply Wf.sI | with_reducible apply Wf.sL | with_reducible apply Wf.cpI | with_reducible apply Wf.cpL | with_reducible apply Wf.cp2 | with_reducible apply Wf.sIs | with_reducible apply Wf.sLs | with_reducible apply Wf.cpU | with_reducible apply Wf.fillI | with_reducible apply Wf.clU | with_reducible apply Wf.dnF | with_reducible apply Wf.gbW | with_reducible apply Wf.cpXf | with_reducible apply Wf.cpYf | with_reducible apply Wf.mkUf | with_reducible apply Wf.bkUf)) (h.1.th 0))) rfl dX11_unload_17 yk_X11_isGoing im_X11_isGoing se_X11_isGoing ml_X11_401 rfl (co_338 (by repeat (first | with_reducible exact hw | with_reducible exact hwc | with_reducible assumption | with_reducible apply Wf.sI | with_reducible apply Wf.sL | with_reducible apply Wf.cpI | with_reducible apply Wf.cpL | with_reducible apply Wf.cp2 | with_reducible apply Wf.sIs | with_reducible apply Wf.sLs | with_reducible apply Wf.cpU | with_reducible apply Wf.fillI | with_reducible apply Wf.clU | with_reducible apply Wf.dnF | with_reducible apply Wf.gbW | with_reducible apply Wf.cpXf | with_reducible apply Wf.cpYf | with_reducible apply Wf.mkUf | with_reducible apply Wf.bkUf))) (by decide) hc_X11 (by decide) (by decide) (Nat.le_of_ble_eq_true rfl)) ?_
  refine lfn (a_if_ne (tgt := 27) dX11_unload_20 (by decide)) (fun h20 => ?_) (fun h20 => absurd h20 (by decide))
  refine lf (a_aload_n dX11_unload_27 rfl) ?_
  refine lf (a_iload_n dX11_unload_28 rfl) ?_
  refine lf (a_inv (b2 := (0, 0)) (m_loadedOf (by repeat (first | with_reducible exact hw | with_reducible exact hwc | with_reducible assumption | with_reducible apply Wf.sI | with_reducible apply Wf.sL | with_reducible apply Wf.cpI | with_reducible apply Wf.cpL | with_reducible apply Wf.cp2 | with_reducible apply Wf.sIs | with_reducible apply Wf.sLs | with_reducible apply Wf.cpU | with_reducible apply Wf.fillI | with_reducible apply Wf.clU | with_reducible apply Wf.dnF | with_reducible apply Wf.gbW | with_reducible apply Wf.cpXf | with_reducible apply Wf.cpYf | with_reducible apply Wf.mkUf | with_reducible apply Wf.bkUf)) (h.1.th 0) (show m < 12 by omega)) rfl dX11_unload_29 yk_X11_loadedOf im_X11_loadedOf se_X11_loadedOf ml_X11_336 rfl (co_338 (by repeat (first | with_reducible exact hw | with_reducible exact hwc | with_reducible assumption | with_reducible apply Wf.sI | with_reducible apply Wf.sL | with_reducible apply Wf.cpI | with_reducible apply Wf.cpL | with_reducible apply Wf.cp2 | with_reducible apply Wf.sIs | with_reducible apply Wf.sLs | with_reducible apply Wf.cpU | with_reducible apply Wf.fillI | with_reducible apply Wf.clU | with_reducible apply Wf.dnF | with_reducible apply Wf.gbW | with_reducible apply Wf.cpXf | with_reducible apply Wf.cpYf | with_reducible apply Wf.mkUf | with_reducible apply Wf.bkUf))) (by decide) hc_X11 (by decide) (by decide) (Nat.le_of_ble_eq_true rfl)) ?_
  refine lf (a_iload_n dX11_unload_32 rfl) ?_
  refine lf2 (a_icmp_ge (tgt := 40) dX11_unload_33 (by decide)) (fun h33 => absurd h33 hld) (fun h33 => ?_)
  refine lf (a_iconst (4 : Int32) dX11_unload_36 (by decide)) ?_
  refine lf (a_goto (tgt := 41) dX11_unload_37 (by decide)) ?_
  refine lf (a_iconst (3 : Int32) dX11_unload_41 (by decide)) ?_
  refine lf (a_inv (b2 := (0, 0)) (m_refuses1 (by repeat (first | with_reducible exact hw | with_reducible exact hwc | with_reducible assumption | with_reducible apply Wf.sI | with_reducible apply Wf.sL | with_reducible apply Wf.cpI | with_reducible apply Wf.cpL | with_reducible apply Wf.cp2 | with_reducible apply Wf.sIs | with_reducible apply Wf.sLs | with_reducible apply Wf.cpU | with_reducible apply Wf.fillI | with_reducible apply Wf.clU | with_reducible apply Wf.dnF | with_reducible apply Wf.gbW | with_reducible apply Wf.cpXf | with_reducible apply Wf.cpYf | with_reducible apply Wf.mkUf | with_reducible apply Wf.bkUf)) (y := 4) (w := 3) (by decide) (by decide)) rfl dX11_unload_42 yk_X11_refuses im_X11_refuses se_X11_refuses ml_X11_407 rfl (co_338 (by repeat (first | with_reducible exact hw | with_reducible exact hwc | with_reducible assumption | with_reducible apply Wf.sI | with_reducible apply Wf.sL | with_reducible apply Wf.cpI | with_reducible apply Wf.cpL | with_reducible apply Wf.cp2 | with_reducible apply Wf.sIs | with_reducible apply Wf.sLs | with_reducible apply Wf.cpU | with_reducible apply Wf.fillI | with_reducible apply Wf.clU | with_reducible apply Wf.dnF | with_reducible apply Wf.gbW | with_reducible apply Wf.cpXf | with_reducible apply Wf.cpYf | with_reducible apply Wf.mkUf | with_reducible apply Wf.bkUf))) (by decide) hc_X11 (by decide) (by decide) (Nat.le_of_ble_eq_true rfl)) ?_
  refine lf2 (a_if_eq (tgt := 50) dX11_unload_45 (by decide)) (fun h45 => absurd h45 (by decide)) (fun h45 => ?_)
  refine lf (a_iconst (0 : Int32) dX11_unload_48 (by decide)) ?_
  refine ⟨_, _, (a_ireturn dX11_unload_49 rfl rfl), ?_⟩
  exact ⟨_, rfl, rfl, MrQ.of (MtQ.of hw 0) 4 3⟩
theorem l_X11_unload_56 {m n : Nat} (hq0 : GdP q) (hm : m < pM q) (hn : n ≤ 99) (d0 : FDt) {Q : Oc → Wd → Prop} : ∀ (dd j : Nat) (W : Wd) (d : FDt), j + dd = n → Wf W → MdV W q d → GdD q d → dd ≤ ldN q d m → toD m (pT q) (nI dd) d = d0 →
    (∀ V : Wd, SoQ W V → MdV V q d0 → WP Y_X11_unload R_X11_unload (0, 0) V 72 [(0, .ref 338), (1, .int (nI m)), (2, .int (nI n)), (3, .int (nI n))] [] Q) → WP Y_X11_unload R_X11_unload (0, 0) W 56 [(0, .ref 338), (1, .int (nI m)), (2, .int (nI n)), (3, .int (nI j))] [] Q := by
  intro dd
  induction dd with
  | zero =>
    intro j W d hj hw hv hd hl ht kx
    obtain rfl : n = j := by omega
    have hT := hq0.T4
    rw [toD_zero (pT q) d hT (fun t ht => by
      obtain ⟨x, hx, e⟩ := hd.un ht (show m < 12 by have := hq0.M4; omega)
      exact ⟨x, hx, e⟩)] at ht
    subst ht
    refine lf (a_iload_n dX11_unload_56 rfl) ?_
    refine lf (a_iload_n dX11_unload_57 rfl) ?_
    refine lf2 (a_icmp_ge (tgt := 72) dX11_unload_58 (by decide)) (fun h58 => ?_) (fun h58 => absurd h58 (fun z => z (nI_le (Nat.le_refl _) (by omega))))
    exact lf (a_loc _ rfl) (kx W (SoQ.rfl' hw) hv)
  | succ dd ih =>
    intro j W d hj hw hv hd hl ht kx
    have hT := hq0.T4
    have hM := hq0.M4
    obtain ⟨t, htl⟩ := toL_pos (q := q) (d := d) (k := m) (n := ldN q d m - 1) (by omega)
    obtain ⟨htT, hne⟩ := toL_lt htl
    obtain ⟨l1, l2, l3⟩ := ld_de hd hT (show m < 12 by omega) htT hne
    have hc := m_takesOut hw hv (show m < 12 by omega) htl
    have hS : SoQ W (sI W 344 (165 + 12 * t + m) (dF d (7 + t) m - 1)) := (SoQ.rfl' hw).set (by omega) (by omega) _
    have hv2 : MdV (sI W 344 (165 + 12 * t + m) (dF d (7 + t) m - 1)) q (de1 m d t) := hv.upU (by omega) (by omega) _
    have hd2 : GdD q (de1 m d t) := by
      unfold de1
      rw [l2]
      exact hd.dec hq0 hm htT (by omega)
    have ht2 : toD m (pT q) (nI dd) (de1 m d t) = d0 := by
      rw [← toD_one (pT q) dd d hT (by omega) (fun t ht => hd.un ht (by omega)) htl]
      exact ht
    revert hc hS hv2
    generalize sI W 344 (165 + 12 * t + m) (dF d (7 + t) m - 1) = U
    intro hc hS hv2
    refine lf (a_iload_n dX11_unload_56 rfl) ?_
    refine lf (a_iload_n dX11_unload_57 rfl) ?_
    refine lf2 (a_icmp_ge (tgt := 72) dX11_unload_58 (by decide)) (fun h58 => absurd h58 (nI_ge (show j < n by omega) (by omega))) (fun h58 => ?_)
    refine lf (a_aload_n dX11_unload_61 rfl) ?_
    refine lf (a_iload_n dX11_unload_62 rfl) ?_
    refine lf (a_inv (b2 := (0, 0)) hc rfl dX11_unload_63 yk_X11_takesOut im_X11_takesOut se_X11_takesOut ml_X11_431 rfl (co_338 hw) (by decide) hc_X11 (by decide) (by decide) (Nat.le_of_ble_eq_true rfl)) ?_
    refine lf (a_iincN dX11_unload_66 rfl (by decide)) ?_
    refine lf (a_goto (tgt := 56) dX11_unload_69 (by decide)) ?_
    exact lf (a_loc _ rfl) (ih (j + 1) U (de1 m d t) (by omega) hS.1.wf hv2 hd2 (by omega) ht2 (fun V a b => kx V (hS.trans a) b))
theorem to_lo (k : Nat) : ∀ r (n : Int32) (d : FDt), dP (toD k r n d) = dP d ∧ dA (toD k r n d) = dA d ∧ dF (toD k r n d) 6 0 = dF d 6 0 := by
  intro r
  induction r with
  | zero => intro n d; exact ⟨rfl, rfl, rfl⟩
  | succ r ih =>
    intro n d
    unfold toD
    obtain ⟨a, b, c⟩ := ih (n - (if dF d (7 + r) k < n then dF d (7 + r) k else n)) (setU d r k (dF d (7 + r) k - (if dF d (7 + r) k < n then dF d (7 + r) k else n)))
    exact ⟨a, b, c.trans (setU_lo d r k _ (by decide))⟩

theorem v_unload (hw : Wf μ) (h : MnV μ q d) {H : Hst} (hp : MpV μ q H) (hq0 : GdP q) (hd0 : GdD q d) (hgo : goD q d) {m n : Nat} (hm : m < pM q) (g1 : 1 ≤ n) (g2 : n ≤ 99) (hld : nI n ≤ ldD q d m) : CV Y_X11_unload R_X11_unload [.ref 338, .int (nI m), .int (nI n)] μ (fun v V => v = some (.int (ldD q (toD m (pT q) (nI n) d) m)) ∧ MaQ μ V q (toD m (pT q) (nI n) d) (pushH H d)) := by
  have hv := h.1
  have hM4 := hv.M4
  have hT4 := hv.T4
  have hP4 := hv.P4
  have hC4 := hv.C4
  have hU4 := hv.U4
  have hw1 : Wf (sI μ 338 0 0) := hw.sI
  have hv1 : MdV (sI μ 338 0 0) q d := hv.th 0
  have h0 := (go_s0 hgo).1
  refine CV.ent yk_X11_unload (Nat.le_of_ble_eq_true rfl) ?_
  refine lf (a_aload_n dX11_unload_0 rfl) ?_
  refine lf (a_aload_n dX11_unload_1 rfl) ?_
  refine lf (a_iload_n dX11_unload_2 rfl) ?_
  refine lf (a_iload_n dX11_unload_3 rfl) ?_
  refine lf (a_inv (b2 := (0, 0)) (Ct.int (by rw [ixO_of hm (by omega), unO_of g1 g2]) (m_wrongUnits (by repeat (first | with_reducible exact hw | with_reducible exact hwc | with_reducible assumption | with_reducible apply Wf.sI | with_reducible apply Wf.sL | with_reducible apply Wf.cpI | with_reducible apply Wf.cpL | with_reducible apply Wf.cp2 | with_reducible apply Wf.sIs | with_reducible apply Wf.sLs | with_reducible apply Wf.cpU | with_reducible apply Wf.fillI | with_reducible apply Wf.clU | with_reducible apply Wf.dnF | with_reducible apply Wf.gbW | with_reducible apply Wf.cpXf | with_reducible apply Wf.cpYf | with_reducible apply Wf.mkUf | with_reducible apply Wf.bkUf)) hv (nI m) (nI n))) rfl dX11_unload_4 yk_X11_wrongUnits im_X11_wrongUnits se_X11_wrongUnits ml_X11_428 rfl (co_338 (by repeat (first | with_reducible exact hw | with_reducible exact hwc | with_reducible assumption | with_reducible apply Wf.sI | with_reducible apply Wf.sL | with_reducible apply Wf.cpI | with_reducible apply Wf.cpL | with_reducible apply Wf.cp2 | with_reducible apply Wf.sIs | with_reducible apply Wf.sLs | with_reducible apply Wf.cpU | with_reducible apply Wf.fillI | with_reducible apply Wf.clU | with_reducible apply Wf.dnF | with_reducible apply Wf.gbW | with_reducible apply Wf.cpXf | with_reducible apply Wf.cpYf | with_reducible apply Wf.mkUf | with_reducible apply Wf.bkUf))) (by decide) hc_X11 (by decide) (by decide) (Nat.le_of_ble_eq_true rfl)) ?_
  refine lf (a_inv (b2 := (0, 0)) (m_isRefused0 (by repeat (first | with_reducible exact hw | with_reducible exact hwc | with_reducible assumption | with_reducible apply Wf.sI | with_reducible apply Wf.sL | with_reducible apply Wf.cpI | with_reducible apply Wf.cpL | with_reducible apply Wf.cp2 | with_reducible apply Wf.sIs | with_reducible apply Wf.sLs | with_reducible apply Wf.cpU | with_reducible apply Wf.fillI | with_reducible apply Wf.clU | with_reducible apply Wf.dnF | with_reducible apply Wf.gbW | with_reducible apply Wf.cpXf | with_reducible apply Wf.cpYf | with_reducible apply Wf.mkUf | with_reducible apply Wf.bkUf))) rfl dX11_unload_7 yk_X11_isRefused im_X11_isRefused se_X11_isRefused ml_X11_98 rfl (co_338 (by repeat (first | with_reducible exact hw | with_reducible exact hwc | with_reducible assumption | with_reducible apply Wf.sI | with_reducible apply Wf.sL | with_reducible apply Wf.cpI | with_reducible apply Wf.cpL | with_reducible apply Wf.cp2 | with_reducible apply Wf.sIs | with_reducible apply Wf.sLs | with_reducible apply Wf.cpU | with_reducible apply Wf.fillI | with_reducible apply Wf.clU | with_reducible apply Wf.dnF | with_reducible apply Wf.gbW | with_reducible apply Wf.cpXf | with_reducible apply Wf.cpYf | with_reducible apply Wf.mkUf | with_reducible apply Wf.bkUf))) (by decide) hc_X11 (by decide) (by decide) (Nat.le_of_ble_eq_true rfl)) ?_
  refine lf2 (a_if_eq (tgt := 15) dX11_unload_10 (by decide)) (fun h10 => ?_) (fun h10 => absurd h10 (fun z => z rfl))
  refine lf (a_aload_n dX11_unload_15 rfl) ?_
  refine lf (a_aload_n dX11_unload_16 rfl) ?_
  refine lf (a_inv (b2 := (0, 0)) (Ct.int (go_in hgo) (m_isGoing (by repeat (first | with_reducible exact hw | with_reducible exact hwc | with_reducible assumption | with_reducible apply Wf.sI | with_reducible apply Wf.sL | with_reducible apply Wf.cpI | with_reducible apply Wf.cpL | with_reducible apply Wf.cp2 | with_reducible apply Wf.sIs | with_reducible apply Wf.sLs | with_reducible apply Wf.cpU | with_reducible apply Wf.fillI | with_reducible apply Wf.clU | with_reducible apply Wf.dnF | with_reducible apply Wf.gbW | with_reducible apply Wf.cpXf | with_reducible apply Wf.cpYf | with_reducible apply Wf.mkUf | with_reducible apply Wf.bkUf)) (h.1.th 0))) rfl dX11_unload_17 yk_X11_isGoing im_X11_isGoing se_X11_isGoing ml_X11_401 rfl (co_338 (by repeat (first | with_reducible exact hw | with_reducible exact hwc | with_reducible assumption | with_reducible apply Wf.sI | with_reducible apply Wf.sL | with_reducible apply Wf.cpI | with_reducible apply Wf.cpL | with_reducible apply Wf.cp2 | with_reducible apply Wf.sIs | with_reducible apply Wf.sLs | with_reducible apply Wf.cpU | with_reducible apply Wf.fillI | with_reducible apply Wf.clU | with_reducible apply Wf.dnF | with_reducible apply Wf.gbW | with_reducible apply Wf.cpXf | with_reducible apply Wf.cpYf | with_reducible apply Wf.mkUf | with_reducible apply Wf.bkUf))) (by decide) hc_X11 (by decide) (by decide) (Nat.le_of_ble_eq_true rfl)) ?_
  refine lfn (a_if_ne (tgt := 27) dX11_unload_20 (by decide)) (fun h20 => ?_) (fun h20 => absurd h20 (by decide))
  refine lf (a_aload_n dX11_unload_27 rfl) ?_
  refine lf (a_iload_n dX11_unload_28 rfl) ?_
  refine lf (a_inv (b2 := (0, 0)) (m_loadedOf (by repeat (first | with_reducible exact hw | with_reducible exact hwc | with_reducible assumption | with_reducible apply Wf.sI | with_reducible apply Wf.sL | with_reducible apply Wf.cpI | with_reducible apply Wf.cpL | with_reducible apply Wf.cp2 | with_reducible apply Wf.sIs | with_reducible apply Wf.sLs | with_reducible apply Wf.cpU | with_reducible apply Wf.fillI | with_reducible apply Wf.clU | with_reducible apply Wf.dnF | with_reducible apply Wf.gbW | with_reducible apply Wf.cpXf | with_reducible apply Wf.cpYf | with_reducible apply Wf.mkUf | with_reducible apply Wf.bkUf)) (h.1.th 0) (show m < 12 by omega)) rfl dX11_unload_29 yk_X11_loadedOf im_X11_loadedOf se_X11_loadedOf ml_X11_336 rfl (co_338 (by repeat (first | with_reducible exact hw | with_reducible exact hwc | with_reducible assumption | with_reducible apply Wf.sI | with_reducible apply Wf.sL | with_reducible apply Wf.cpI | with_reducible apply Wf.cpL | with_reducible apply Wf.cp2 | with_reducible apply Wf.sIs | with_reducible apply Wf.sLs | with_reducible apply Wf.cpU | with_reducible apply Wf.fillI | with_reducible apply Wf.clU | with_reducible apply Wf.dnF | with_reducible apply Wf.gbW | with_reducible apply Wf.cpXf | with_reducible apply Wf.cpYf | with_reducible apply Wf.mkUf | with_reducible apply Wf.bkUf))) (by decide) hc_X11 (by decide) (by decide) (Nat.le_of_ble_eq_true rfl)) ?_
  refine lf (a_iload_n dX11_unload_32 rfl) ?_
  refine lf2 (a_icmp_ge (tgt := 40) dX11_unload_33 (by decide)) (fun h33 => ?_) (fun h33 => absurd h33 (fun z => z hld))
  refine lf (a_iconst (0 : Int32) dX11_unload_40 (by decide)) ?_
  refine lf (a_iconst (3 : Int32) dX11_unload_41 (by decide)) ?_
  refine lf (a_inv (b2 := (0, 0)) (m_refuses0 (by repeat (first | with_reducible exact hw | with_reducible exact hwc | with_reducible assumption | with_reducible apply Wf.sI | with_reducible apply Wf.sL | with_reducible apply Wf.cpI | with_reducible apply Wf.cpL | with_reducible apply Wf.cp2 | with_reducible apply Wf.sIs | with_reducible apply Wf.sLs | with_reducible apply Wf.cpU | with_reducible apply Wf.fillI | with_reducible apply Wf.clU | with_reducible apply Wf.dnF | with_reducible apply Wf.gbW | with_reducible apply Wf.cpXf | with_reducible apply Wf.cpYf | with_reducible apply Wf.mkUf | with_reducible apply Wf.bkUf)) 3) rfl dX11_unload_42 yk_X11_refuses im_X11_refuses se_X11_refuses ml_X11_407 rfl (co_338 (by repeat (first | with_reducible exact hw | with_reducible exact hwc | with_reducible assumption | with_reducible apply Wf.sI | with_reducible apply Wf.sL | with_reducible apply Wf.cpI | with_reducible apply Wf.cpL | with_reducible apply Wf.cp2 | with_reducible apply Wf.sIs | with_reducible apply Wf.sLs | with_reducible apply Wf.cpU | with_reducible apply Wf.fillI | with_reducible apply Wf.clU | with_reducible apply Wf.dnF | with_reducible apply Wf.gbW | with_reducible apply Wf.cpXf | with_reducible apply Wf.cpYf | with_reducible apply Wf.mkUf | with_reducible apply Wf.bkUf))) (by decide) hc_X11 (by decide) (by decide) (Nat.le_of_ble_eq_true rfl)) ?_
  refine lf2 (a_if_eq (tgt := 50) dX11_unload_45 (by decide)) (fun h45 => ?_) (fun h45 => absurd h45 (fun z => z rfl))
  refine lf (a_aload_n dX11_unload_50 rfl) ?_
  obtain ⟨v_, W51, k51, rfl, hR⟩ := (v_rem (MtQ.of2 hw) h hp)
  have hwR := hR.1
  have hnR := hR.2.1
  have hvR := hnR.1
  refine lf (a_inv (b2 := (0, 0)) k51 rfl dX11_unload_51 yk_X11_remembers im_X11_remembers se_X11_remembers ml_X11_410 rfl (co_338 (by repeat (first | with_reducible exact hw | with_reducible exact hwc | with_reducible assumption | with_reducible apply Wf.sI | with_reducible apply Wf.sL | with_reducible apply Wf.cpI | with_reducible apply Wf.cpL | with_reducible apply Wf.cp2 | with_reducible apply Wf.sIs | with_reducible apply Wf.sLs | with_reducible apply Wf.cpU | with_reducible apply Wf.fillI | with_reducible apply Wf.clU | with_reducible apply Wf.dnF | with_reducible apply Wf.gbW | with_reducible apply Wf.cpXf | with_reducible apply Wf.cpYf | with_reducible apply Wf.mkUf | with_reducible apply Wf.bkUf))) (by decide) hc_X11 (by decide) (by decide) (Nat.le_of_ble_eq_true rfl)) ?_
  refine lf (a_iconst (0 : Int32) dX11_unload_54 (by decide)) ?_
  refine lf (a_istore_n dX11_unload_55 (by decide)) ?_
  obtain ⟨e1, e2⟩ := ldD_N hq0 hd0 (show m < 12 by omega)
  rw [e1, nI_leI (by omega) (by omega)] at hld
  have hlo := to_lo m (pT q) (nI n) d
  refine lf (a_loc [(0, .ref 338), (1, .int (nI m)), (2, .int (nI n)), (3, .int (nI 0))] rfl) (l_X11_unload_56 hq0 hm g2 (toD m (pT q) (nI n) d) n 0 W51 d (Nat.zero_add _) hwR hvR hd0 hld rfl (fun V hS hvV => ?_))
  have hwV := hS.1.wf
  refine lf (a_aload_n dX11_unload_72 rfl) ?_
  refine lf (a_iload_n dX11_unload_73 rfl) ?_
  refine lf (a_inv (b2 := (0, 0)) (m_loadedOf hwV hvV (show m < 12 by omega)) rfl dX11_unload_74 yk_X11_loadedOf im_X11_loadedOf se_X11_loadedOf ml_X11_336 rfl (co_338 hwV) (by decide) hc_X11 (by decide) (by decide) (Nat.le_of_ble_eq_true rfl)) ?_
  refine ⟨_, _, (a_ireturn dX11_unload_77 rfl rfl), ?_⟩
  exact ⟨_, rfl, rfl, MaQ.so hR hvV (hS.1.mono (fun i y => Or.inl y)) hS.2 h0 hlo.1 hlo.2.1 (hlo.2.2.trans h0)⟩
end MODELST
