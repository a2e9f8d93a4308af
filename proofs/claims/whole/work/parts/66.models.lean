section MODELS
variable {μ W : Wd} {q : PDt} {d : FDt} {k : Nat}
abbrev s344 : Nat → Prop := fun i => i = 344
/-- only units have changed -/
def SoQ (μ V : Wd) : Prop := Out s344 μ V ∧ ∀ x, x < 165 ∨ 261 ≤ x → gI V 344 x = gI μ 344 x
theorem SoQ.rfl' (hw : Wf μ) : SoQ μ μ := ⟨Out.rfl' hw, fun _ _ => rfl⟩
theorem SoQ.trans {V : Wd} (h1 : SoQ μ W) (h2 : SoQ W V) : SoQ μ V := ⟨h1.1.trans h2.1, fun x hx => (h2.2 x hx).trans (h1.2 x hx)⟩
theorem SoQ.set (h : SoQ μ W) {t k : Nat} (ht : t < 8) (hk : k < 12) (v : Int32) : SoQ μ (sI W 344 (165 + 12 * t + k) v) := ⟨h.1.sI rfl _ _, fun x hx => by rw [gI_sI, if_neg (by omega)]; exact h.2 x hx⟩
theorem RwV.upU {r r2 : Nat → Int32} {t : Nat} {v : Int32} (h : RwV r d) (hPk : dP d ≤ 40) (ht : t < 8) (hk : k < 12) (he : ∀ x, r2 x = if x = 165 + 12 * t + k then v else r x) : RwV r2 (setU d t k v) := by
  obtain ⟨h1, h2, h3, h4, h5, h6, h7⟩ := h
  have hl : ∀ a i, a < 7 → dF (setU d t k v) a i = dF d a i := fun a i ha => setU_lo d t k v ha
  have hs : ∀ x, x < 165 ∨ 261 ≤ x → r2 x = r x := fun x hx => by rw [he, if_neg (by omega)]
  refine ⟨by rw [hs _ (by omega), hl 6 0 (by decide)]; exact h1, by rw [hs _ (by omega), hl 6 1 (by decide)]; exact h2, by rw [hs _ (by omega)]; exact h3, by rw [hs _ (by omega)]; exact h4, fun i hi => ?_, fun i hi => ?_, fun t2 k2 h8 h9 => ?_⟩
  · have hi : i < dP d := hi
    by_cases hP : 5 + 4 * i + 2 < 165
    · rw [hs _ (by omega), hs _ (by omega), hs _ (by omega), hl 0 i (by decide), hl 1 i (by decide), hl 2 i (by decide)]; exact h5 i hi
    · exact absurd hP (by have := hPk; omega)
  · rw [hs _ (by omega), hs _ (by omega), hs _ (by omega), hl 3 i (by decide), hl 4 i (by decide), hl 5 i (by decide)]; exact h6 i hi
  · by_cases e : t2 = t ∧ k2 = k
    · rw [e.1, e.2, setU_at, he, if_pos rfl]
    · rw [setU_ne d v (by omega), he, if_neg (by omega)]; exact h7 t2 k2 h8 h9
theorem MdV.upU (h : MdV μ q d) {t : Nat} (ht : t < 8) (hk : k < 12) (v : Int32) : MdV (sI μ 344 (165 + 12 * t + k) v) q (setU d t k v) := by
  refine ⟨by rw [gI_sI, if_neg (by omega)]; exact h.1, ⟨h.2.1.1, by rw [setU_lo d t k v (show 6 < 7 by decide)]; exact h.2.1.2.1, h.2.1.2.2⟩, ?_, h.2.2.2.upU h.P4 ht hk fun x => ?_⟩
  · have e : gI (sI μ 344 (165 + 12 * t + k) v) 339 = gI μ 339 := funext fun x => by rw [gI_sI, if_neg (by omega)]
    rw [e]; exact h.2.2.1
  · rw [gI_sI]
    by_cases e : x = 165 + 12 * t + k
    · rw [if_pos ⟨rfl, e⟩, if_pos e]
    · rw [if_neg (fun z => e z.2), if_neg e]
def OnQ (q : PDt) (k : Nat) (d : FDt) (μ : Wd) (v : Option Value) (V : Wd) : Prop := match on1 q k d with
  | none => v = some (.int 0) ∧ V = μ
  | some t => v = some (.int 1) ∧ V = sI μ 344 (165 + 12 * t + k) (dF d (7 + t) k + 1)
abbrev R_X11_storesOne : Room := { frames := 2, cells := 0, slots := 0, locals := 45 }
abbrev RX_X11_storesOne : Room := { frames := 2, cells := 1, slots := 6, locals := 45 }

theorem l_X11_storesOne_2 (hw : Wf μ) (hv : MdV μ q d) (hk : k < pM q) : ∀ dd m, m + dd = pT q → (∀ y, y < m → feB q d k y = false) → WP Y_X11_storesOne R_X11_storesOne (0, 0) μ 2 [(0, .ref 338), (1, .int (nI k)), (2, .int (nI m))] [] (fun o V => ∃ v, o = .inl v ∧ OnQ q k d μ v V) := by
  have hM4 := hv.M4
  have hT4 := hv.T4
  intro dd
  induction dd with
  | zero =>
    intro m hm hn
    have e : on1 q k d = none := fst_none (by rw [show pT q = m by omega]; exact hn)
    refine lf (a_iload_n dX11_storesOne_2 rfl) ?_
    refine lf (a_aload_n dX11_storesOne_3 rfl) ?_
    refine lf (a_inv (b2 := (0, 0)) (m_trolleys hw hv) rfl dX11_storesOne_4 yk_X11_trolleys im_X11_trolleys se_X11_trolleys ml_X11_330 rfl (co_338 hw) (by decide) hc_X11 (by decide) (by decide) (Nat.le_of_ble_eq_true rfl)) ?_
    refine lf2 (a_icmp_ge (tgt := 63) dX11_storesOne_7 (by decide)) (fun h7 => ?_) (fun h7 => absurd h7 (fun z => z (nI_le (show pT q ≤ m by omega) (by omega))))
    refine lf (a_iconst (0 : Int32) dX11_storesOne_63 (by decide)) ?_
    refine ⟨_, _, (a_ireturn dX11_storesOne_64 rfl rfl), ?_⟩
    exact ⟨_, rfl, by unfold OnQ; rw [e]; exact ⟨rfl, rfl⟩⟩
  | succ dd ih =>
    intro m hm hn
    have hnx : feB q d k m = false → ∀ y, y < m + 1 → feB q d k y = false := fun h y hy => by
      by_cases e : y = m
      · rw [e]; exact h
      · exact hn y (by omega)
    refine lf (a_iload_n dX11_storesOne_2 rfl) ?_
    refine lf (a_aload_n dX11_storesOne_3 rfl) ?_
    refine lf (a_inv (b2 := (0, 0)) (m_trolleys hw hv) rfl dX11_storesOne_4 yk_X11_trolleys im_X11_trolleys se_X11_trolleys ml_X11_330 rfl (co_338 hw) (by decide) hc_X11 (by decide) (by decide) (Nat.le_of_ble_eq_true rfl)) ?_
    refine lf2 (a_icmp_ge (tgt := 63) dX11_storesOne_7 (by decide)) (fun h7 => absurd h7 (nI_ge (show m < pT q by omega) (by omega))) (fun h7 => ?_)
    refine lf (a_aload_n dX11_storesOne_10 rfl) ?_
    refine lf (a_iload_n dX11_storesOne_11 rfl) ?_
    refine lf (a_iload_n dX11_storesOne_12 rfl) ?_
    refine lf (a_inv (b2 := (0, 0)) (m_takesMeal hw hv (show m < pT q by omega) hk) rfl dX11_storesOne_13 yk_X11_takesMeal im_X11_takesMeal se_X11_takesMeal ml_X11_345 rfl (co_338 hw) (by decide) hc_X11 (by decide) (by decide) (Nat.le_of_ble_eq_true rfl)) ?_
    refine lf2 (a_if_eq (tgt := 57) dX11_storesOne_16 (by decide)) (fun h16 => ?_) (fun h16 => ?_)
    · refine lf (a_iincN dX11_storesOne_57 rfl (by decide)) ?_
      refine lf (a_goto (tgt := 2) dX11_storesOne_60 (by decide)) ?_
      first
      | exact lf (a_loc _ rfl) (ih (m + 1) (by omega) (hnx (by unfold feB; rw [decide_eq_false_iff_not]; exact fun z => z.1 h16)))
      | exact lf (a_loc _ rfl) (ih (m + 1) (by omega) (hnx (by unfold feB; rw [decide_eq_false_iff_not]; exact fun z => z.2 h30)))
    · refine lf (a_aload_n dX11_storesOne_19 rfl) ?_
      refine lf (a_iload_n dX11_storesOne_20 rfl) ?_
      refine lf (a_inv (b2 := (0, 0)) (m_freeOf hw hv (show m < pT q by omega)) rfl dX11_storesOne_21 yk_X11_freeOf im_X11_freeOf se_X11_freeOf ml_X11_348 rfl (co_338 hw) (by decide) hc_X11 (by decide) (by decide) (Nat.le_of_ble_eq_true rfl)) ?_
      refine lf (a_aload_n dX11_storesOne_24 rfl) ?_
      refine lf (a_iload_n dX11_storesOne_25 rfl) ?_
      refine lf (a_iconst (2 : Int32) dX11_storesOne_26 (by decide)) ?_
      refine lf (a_inv (b2 := (0, 0)) (m_ofMeal2 hw hv hk) rfl dX11_storesOne_27 yk_X11_ofMeal im_X11_ofMeal se_X11_ofMeal ml_X11_297 rfl (co_338 hw) (by decide) hc_X11 (by decide) (by decide) (Nat.le_of_ble_eq_true rfl)) ?_
      refine lf2 (a_icmp_lt (tgt := 57) dX11_storesOne_30 (by decide)) (fun h30 => ?_) (fun h30 => ?_)
      · refine lf (a_iincN dX11_storesOne_57 rfl (by decide)) ?_
        refine lf (a_goto (tgt := 2) dX11_storesOne_60 (by decide)) ?_
        first
        | exact lf (a_loc _ rfl) (ih (m + 1) (by omega) (hnx (by unfold feB; rw [decide_eq_false_iff_not]; exact fun z => z.1 h16)))
        | exact lf (a_loc _ rfl) (ih (m + 1) (by omega) (hnx (by unfold feB; rw [decide_eq_false_iff_not]; exact fun z => z.2 h30)))
      · refine lf (a_aload_n dX11_storesOne_33 rfl) ?_
        refine lf (a_getR (cr_338_6 hw) dX11_storesOne_34 fs_X11_26 rfl (co_338 hw)) ?_
        refine lf (a_iload_n dX11_storesOne_37 rfl) ?_
        refine lf (a_iload_n dX11_storesOne_38 rfl) ?_
        refine lf (a_invS (b2 := (0, 0)) (m_unitAt m k) rfl dX11_storesOne_39 yk_X11_unitAt sm_X11_unitAt ml_X11_333 rfl (by decide) (by decide) (Nat.le_of_ble_eq_true rfl)) ?_
        refine lf (a_aload_n dX11_storesOne_42 rfl) ?_
        refine lf (a_getR (cr_338_6 hw) dX11_storesOne_43 fs_X11_26 rfl (co_338 hw)) ?_
        refine lf (a_iload_n dX11_storesOne_46 rfl) ?_
        refine lf (a_iload_n dX11_storesOne_47 rfl) ?_
        refine lf (a_invS (b2 := (0, 0)) (m_unitAt m k) rfl dX11_storesOne_48 yk_X11_unitAt sm_X11_unitAt ml_X11_333 rfl (by decide) (by decide) (Nat.le_of_ble_eq_true rfl)) ?_
        refine lf (a_ild dX11_storesOne_51 (ca_344 hw) (ixn (by omega) (by decide))) ?_
        rw [hv.un (show m < 8 by omega) (show k < 12 by omega)]
        refine lf (a_iconst (1 : Int32) dX11_storesOne_52 (by decide)) ?_
        refine lf (a_iadd dX11_storesOne_53) ?_
        refine lf (a_ist dX11_storesOne_54 (ca_344 hw) (ixn (by omega) (by decide))) ?_
        refine lf (a_iconst (1 : Int32) dX11_storesOne_55 (by decide)) ?_
        refine ⟨_, _, (a_ireturn dX11_storesOne_56 rfl rfl), ?_⟩
        have e : on1 q k d = some m := fst_first (by omega) (by unfold feB; rw [decide_eq_true_eq]; exact ⟨h16, h30⟩) hn
        exact ⟨_, rfl, by unfold OnQ; rw [e]; exact ⟨rfl, rfl⟩⟩
theorem m_storesOne (hw : Wf μ) (hv : MdV μ q d) (hk : k < pM q) : CV Y_X11_storesOne R_X11_storesOne [.ref 338, .int (nI k)] μ (OnQ q k d μ) := by
  refine CV.ent yk_X11_storesOne (Nat.le_of_ble_eq_true rfl) ?_
  refine lf (a_iconst (0 : Int32) dX11_storesOne_0 (by decide)) ?_
  refine lf (a_istore_n dX11_storesOne_1 (by decide)) ?_
  exact lf (a_loc [(0, .ref 338), (1, .int (nI k)), (2, .int (nI 0))] rfl) (l_X11_storesOne_2 hw hv hk (pT q) 0 (Nat.zero_add _) (fun y hy => absurd hy (Nat.not_lt_zero y)))
abbrev R_X11_storesMany : Room := { frames := 3, cells := 0, slots := 0, locals := 67 }
abbrev RX_X11_storesMany : Room := { frames := 3, cells := 1, slots := 6, locals := 67 }

theorem l_X11_storesMany_2 (hk : k < pM q) {n : Nat} (hn : n < 2 ^ 31) : ∀ r i (W : Wd) (d : FDt), i + r = n → Wf W → MdV W q d → WP Y_X11_storesMany R_X11_storesMany (0, 0) W 2 [(0, .ref 338), (1, .int (nI k)), (2, .int (nI n)), (3, .int (nI i))] [] (fun o V => ∃ v, o = .inl v ∧ v = some (.int (nI (i + (stM q k r d).1))) ∧ MdV V q (stM q k r d).2 ∧ SoQ W V) := by
  intro r
  induction r with
  | zero =>
    intro i W d hi hw hv
    refine lf (a_iload_n dX11_storesMany_2 rfl) ?_
    refine lf (a_iload_n dX11_storesMany_3 rfl) ?_
    refine lf2 (a_icmp_ge (tgt := 22) dX11_storesMany_4 (by decide)) (fun h4 => ?_) (fun h4 => absurd h4 (fun z => z (nI_le (show n ≤ i by omega) (by omega))))
    refine lf (a_iload_n dX11_storesMany_22 rfl) ?_
    refine ⟨_, _, (a_ireturn dX11_storesMany_23 rfl rfl), ?_⟩
    exact ⟨_, rfl, rfl, hv, SoQ.rfl' hw⟩
  | succ r ih =>
    intro i W d hi hw hv
    have hM4 := hv.M4
    have hT4 := hv.T4
    obtain ⟨v9, W9, k9, hQ⟩ := m_storesOne hw hv hk
    have es : stM q k (r + 1) d = match on1 q k d with
      | none => (0, d)
      | some t => ((stM q k r (incD d t k)).1 + 1, (stM q k r (incD d t k)).2) := rfl
    unfold OnQ at hQ
    cases e : on1 q k d with
    | none =>
      rw [e] at hQ es
      obtain ⟨rfl, rfl⟩ := hQ
      have es : stM q k (r + 1) d = (0, d) := es
      refine lf (a_iload_n dX11_storesMany_2 rfl) ?_
      refine lf (a_iload_n dX11_storesMany_3 rfl) ?_
      refine lf2 (a_icmp_ge (tgt := 22) dX11_storesMany_4 (by decide)) (fun h4 => absurd h4 (nI_ge (show i < n by omega) (by omega))) (fun h4 => ?_)
      refine lf (a_aload_n dX11_storesMany_7 rfl) ?_
      refine lf (a_iload_n dX11_storesMany_8 rfl) ?_
      refine lf (a_inv (b2 := (0, 0)) k9 rfl dX11_storesMany_9 yk_X11_storesOne im_X11_storesOne se_X11_storesOne ml_X11_351 rfl (co_338 hw) (by decide) hc_X11 (by decide) (by decide) (Nat.le_of_ble_eq_true rfl)) ?_
      refine lf2 (a_if_eq (tgt := 22) dX11_storesMany_12 (by decide)) (fun h12 => ?_) (fun h12 => absurd h12 (by decide))
      refine lf (a_iload_n dX11_storesMany_22 rfl) ?_
      refine ⟨_, _, (a_ireturn dX11_storesMany_23 rfl rfl), ?_⟩
      exact ⟨_, rfl, by rw [es]; rfl, by rw [es]; exact hv, SoQ.rfl' hw⟩
    | some t =>
      rw [e] at hQ es
      obtain ⟨rfl, rfl⟩ := hQ
      have es : stM q k (r + 1) d = ((stM q k r (incD d t k)).1 + 1, (stM q k r (incD d t k)).2) := es
      have ht := (on1_some e).1
      have hv2 : MdV (sI W 344 (165 + 12 * t + k) (dF d (7 + t) k + 1)) q (incD d t k) := hv.upU (show t < 8 by omega) (show k < 12 by omega) _
      have hS2 := (SoQ.rfl' hw).set (show t < 8 by omega) (show k < 12 by omega) (dF d (7 + t) k + 1)
      refine lf (a_iload_n dX11_storesMany_2 rfl) ?_
      refine lf (a_iload_n dX11_storesMany_3 rfl) ?_
      refine lf2 (a_icmp_ge (tgt := 22) dX11_storesMany_4 (by decide)) (fun h4 => absurd h4 (nI_ge (show i < n by omega) (by omega))) (fun h4 => ?_)
      refine lf (a_aload_n dX11_storesMany_7 rfl) ?_
      refine lf (a_iload_n dX11_storesMany_8 rfl) ?_
      refine lf (a_inv (b2 := (0, 0)) k9 rfl dX11_storesMany_9 yk_X11_storesOne im_X11_storesOne se_X11_storesOne ml_X11_351 rfl (co_338 hw) (by decide) hc_X11 (by decide) (by decide) (Nat.le_of_ble_eq_true rfl)) ?_
      refine lf2 (a_if_eq (tgt := 22) dX11_storesMany_12 (by decide)) (fun h12 => absurd h12 (by decide)) (fun h12 => ?_)
      refine lf (a_iload_n dX11_storesMany_15 rfl) ?_
      refine lf (a_iconst (1 : Int32) dX11_storesMany_16 (by decide)) ?_
      refine lf (a_iadd dX11_storesMany_17) ?_
      rw [nI_1]
      refine lf (a_istore_n dX11_storesMany_18 (by decide)) ?_
      refine lf (a_goto (tgt := 2) dX11_storesMany_19 (by decide)) ?_
      rw [es]
      refine (lf (a_loc _ rfl) (ih (i + 1) _ (incD d t k) (by omega) hS2.1.1 hv2)).mono ?_
      rintro o V ⟨v, g1, g2, g3, g4⟩
      exact ⟨v, g1, by rw [g2]; congr 3; omega, g3, hS2.trans g4⟩
theorem m_storesMany (hw : Wf μ) (hv : MdV μ q d) (hk : k < pM q) {n : Nat} (hn : n < 2 ^ 31) : CV Y_X11_storesMany R_X11_storesMany [.ref 338, .int (nI k), .int (nI n)] μ (fun v V => v = some (.int (nI (stM q k n d).1)) ∧ MdV V q (stM q k n d).2 ∧ SoQ μ V) := by
  refine CV.ent yk_X11_storesMany (Nat.le_of_ble_eq_true rfl) ?_
  refine lf (a_iconst (0 : Int32) dX11_storesMany_0 (by decide)) ?_
  refine lf (a_istore_n dX11_storesMany_1 (by decide)) ?_
  refine (lf (a_loc [(0, .ref 338), (1, .int (nI k)), (2, .int (nI n)), (3, .int (nI 0))] rfl) (l_X11_storesMany_2 hk hn n 0 μ d (Nat.zero_add _) hw hv)).mono ?_
  rintro o V ⟨v, g1, g2, g3, g4⟩
  exact ⟨v, g1, by rw [g2, Nat.zero_add], g3, g4⟩
theorem ixq (x : Nat) : (165 : Int32) + nI x = nI (165 + x) := by rw [show (165 : Int32) = nI 165 from rfl, nI_add]
def mkU (μ : Wd) (m : Nat) : Wd := sIs μ (fun i x => if i = 355 ∧ x < m then gI μ 344 (165 + x) else gI μ i x)
theorem gI_mkU (μ : Wd) (m i x : Nat) : gI (mkU μ m) i x = if i = 355 ∧ x < m then gI μ 344 (165 + x) else gI μ i x := rfl
theorem Wf.mkUf {μ : Wd} (hw : Wf μ) {m : Nat} : Wf (mkU μ m) := hw
theorem mkU_succ (μ : Wd) (m : Nat) : sI (mkU μ m) 355 m (gI μ 344 (165 + m)) = mkU μ (m + 1) := by
  show sI (sIs μ _) _ _ _ = sIs μ _
  rw [sI_sIs]
  refine sIs_ext fun i x => ?_
  unfold up2
  by_cases h1 : i = 355
  · subst h1
    by_cases h2 : x = m
    · subst h2; simp
    · have h5 : (x < m + 1) = (x < m) := propext ⟨fun z => by omega, fun z => by omega⟩
      simp [h2, h5]
  · simp [h1]
theorem mkU_zero (μ : Wd) : mkU μ 0 = μ := by
  show sIs μ _ = μ
  have : (fun i x => if i = 355 ∧ x < 0 then gI μ 344 (165 + x) else gI μ i x) = μ.2.1 := funext fun i => funext fun x => by rw [if_neg (by omega)]; rfl
  rw [this]; rfl
def bkU (μ : Wd) (m : Nat) : Wd := sIs μ (fun i x => if i = 344 ∧ 165 ≤ x ∧ x < 165 + m then gI μ 355 (x - 165) else gI μ i x)
theorem gI_bkU (μ : Wd) (m i x : Nat) : gI (bkU μ m) i x = if i = 344 ∧ 165 ≤ x ∧ x < 165 + m then gI μ 355 (x - 165) else gI μ i x := rfl
theorem Wf.bkUf {μ : Wd} (hw : Wf μ) {m : Nat} : Wf (bkU μ m) := hw
theorem bkU_succ (μ : Wd) (m : Nat) : sI (bkU μ m) 344 (165 + m) (gI μ 355 m) = bkU μ (m + 1) := by
  show sI (sIs μ _) _ _ _ = sIs μ _
  rw [sI_sIs]
  refine sIs_ext fun i x => ?_
  unfold up2
  by_cases h1 : i = 344
  · subst h1
    by_cases h2 : x = 165 + m
    · subst h2; simp
    · have h5 : (165 ≤ x ∧ x < 165 + (m + 1)) = (165 ≤ x ∧ x < 165 + m) := propext ⟨fun z => by omega, fun z => by omega⟩
      simp only [h2, and_false, if_false, h5]
  · simp [h1]
theorem bkU_zero (μ : Wd) : bkU μ 0 = μ := by
  show sIs μ _ = μ
  have : (fun i x => if i = 344 ∧ 165 ≤ x ∧ x < 165 + 0 then gI μ 355 (x - 165) else gI μ i x) = μ.2.1 := funext fun i => funext fun x => by rw [if_neg (by omega)]; rfl
  rw [this]; rfl
abbrev R_X11_marksUnits : Room := { frames := 0, cells := 0, slots := 0, locals := 0 }
abbrev RX_X11_marksUnits : Room := { frames := 0, cells := 1, slots := 6, locals := 0 }

theorem l_X11_marksUnits_2 (hw : Wf μ) {o : Oc} {μ1 : Wd} (kx : AW Y_X11_marksUnits R_X11_marksUnits (0, 0) (mkU μ 96) 30 [(0, .ref 338), (1, .int (nI 96))] [] o μ1) : ∀ dd m, m + dd = 96 → AW Y_X11_marksUnits R_X11_marksUnits (0, 0) (mkU μ m) 2 [(0, .ref 338), (1, .int (nI m))] [] o μ1 := by
  intro dd
  induction dd with
  | zero =>
    intro m hm
    obtain rfl : 96 = m := by omega
    refine a_iload_n dX11_marksUnits_2 rfl ?_
    refine a_bipush (96 : Int32) dX11_marksUnits_3 (by decide) ?_
    refine a_icmp_ge (tgt := 30) dX11_marksUnits_5 (by decide) (fun h5 => ?_) (fun h5 => absurd h5 (fun z => z (nI_le (b := 96) (Nat.le_refl _) (by decide))))
    exact a_loc _ rfl kx
  | succ dd ih =>
    intro m hm
    have qih := ih (m + 1) (by omega)
    rw [← mkU_succ] at qih
    refine a_iload_n dX11_marksUnits_2 rfl ?_
    refine a_bipush (96 : Int32) dX11_marksUnits_3 (by decide) ?_
    refine a_icmp_ge (tgt := 30) dX11_marksUnits_5 (by decide) (fun h5 => absurd h5 (nI_ge (b := 96) (by omega) (by decide))) (fun h5 => ?_)
    refine a_aload_n dX11_marksUnits_8 rfl ?_
    refine a_getR (cr_338_30 (by repeat (first | with_reducible exact hw | with_reducible exact hwc | with_reducible assumption | with_reducible apply Wf.sI | with_reducible apply Wf.sL | with_reducible apply Wf.cpI | with_reducible apply Wf.cpL | with_reducible apply Wf.cp2 | with_reducible apply Wf.sIs | with_reducible apply Wf.sLs | with_reducible apply Wf.cpU | with_reducible apply Wf.fillI | with_reducible apply Wf.clU | with_reducible apply Wf.dnF | with_reducible apply Wf.gbW | with_reducible apply Wf.mkUf | with_reducible apply Wf.bkUf))) dX11_marksUnits_9 fs_X11_64 rfl (co_338 (by repeat (first | with_reducible exact hw | with_reducible exact hwc | with_reducible assumption | with_reducible apply Wf.sI | with_reducible apply Wf.sL | with_reducible apply Wf.cpI | with_reducible apply Wf.cpL | with_reducible apply Wf.cp2 | with_reducible apply Wf.sIs | with_reducible apply Wf.sLs | with_reducible apply Wf.cpU | with_reducible apply Wf.fillI | with_reducible apply Wf.clU | with_reducible apply Wf.dnF | with_reducible apply Wf.gbW | with_reducible apply Wf.mkUf | with_reducible apply Wf.bkUf))) ?_
    refine a_iload_n dX11_marksUnits_12 rfl ?_
    refine a_aload_n dX11_marksUnits_13 rfl ?_
    refine a_getR (cr_338_6 (by repeat (first | with_reducible exact hw | with_reducible exact hwc | with_reducible assumption | with_reducible apply Wf.sI | with_reducible apply Wf.sL | with_reducible apply Wf.cpI | with_reducible apply Wf.cpL | with_reducible apply Wf.cp2 | with_reducible apply Wf.sIs | with_reducible apply Wf.sLs | with_reducible apply Wf.cpU | with_reducible apply Wf.fillI | with_reducible apply Wf.clU | with_reducible apply Wf.dnF | with_reducible apply Wf.gbW | with_reducible apply Wf.mkUf | with_reducible apply Wf.bkUf))) dX11_marksUnits_14 fs_X11_26 rfl (co_338 (by repeat (first | with_reducible exact hw | with_reducible exact hwc | with_reducible assumption | with_reducible apply Wf.sI | with_reducible apply Wf.sL | with_reducible apply Wf.cpI | with_reducible apply Wf.cpL | with_reducible apply Wf.cp2 | with_reducible apply Wf.sIs | with_reducible apply Wf.sLs | with_reducible apply Wf.cpU | with_reducible apply Wf.fillI | with_reducible apply Wf.clU | with_reducible apply Wf.dnF | with_reducible apply Wf.gbW | with_reducible apply Wf.mkUf | with_reducible apply Wf.bkUf))) ?_
    refine a_sipush (165 : Int32) dX11_marksUnits_17 (by decide) ?_
    refine a_iload_n dX11_marksUnits_20 rfl ?_
    refine a_iadd dX11_marksUnits_21 ?_
    rw [ixq]
    refine a_ild dX11_marksUnits_22 (ca_344 (by repeat (first | with_reducible exact hw | with_reducible exact hwc | with_reducible assumption | with_reducible apply Wf.sI | with_reducible apply Wf.sL | with_reducible apply Wf.cpI | with_reducible apply Wf.cpL | with_reducible apply Wf.cp2 | with_reducible apply Wf.sIs | with_reducible apply Wf.sLs | with_reducible apply Wf.cpU | with_reducible apply Wf.fillI | with_reducible apply Wf.clU | with_reducible apply Wf.dnF | with_reducible apply Wf.gbW | with_reducible apply Wf.mkUf | with_reducible apply Wf.bkUf))) (ixn (by omega) (by decide)) ?_
    rw [gI_mkU, if_neg (by omega)]
    refine a_ist dX11_marksUnits_23 (ca_355 (by repeat (first | with_reducible exact hw | with_reducible exact hwc | with_reducible assumption | with_reducible apply Wf.sI | with_reducible apply Wf.sL | with_reducible apply Wf.cpI | with_reducible apply Wf.cpL | with_reducible apply Wf.cp2 | with_reducible apply Wf.sIs | with_reducible apply Wf.sLs | with_reducible apply Wf.cpU | with_reducible apply Wf.fillI | with_reducible apply Wf.clU | with_reducible apply Wf.dnF | with_reducible apply Wf.gbW | with_reducible apply Wf.mkUf | with_reducible apply Wf.bkUf))) (ixn (by omega) (by decide)) ?_
    refine a_iincN dX11_marksUnits_24 rfl (by decide) ?_
    refine a_goto (tgt := 2) dX11_marksUnits_27 (by decide) ?_
    exact a_loc _ rfl qih
theorem m_marksUnits (hw : Wf μ) : Ct Y_X11_marksUnits R_X11_marksUnits [.ref 338] μ (.inl none) (mkU μ 96) := by
  refine Ct.ent yk_X11_marksUnits (Nat.le_of_ble_eq_true rfl) ?_
  refine a_iconst (0 : Int32) dX11_marksUnits_0 (by decide) ?_
  refine a_istore_n dX11_marksUnits_1 (by decide) ?_
  have hz : μ = mkU μ 0 := (mkU_zero μ).symm
  refine a_wd hz (a_loc [(0, .ref 338), (1, .int (nI 0))] rfl (l_X11_marksUnits_2 hw ?_ 96 0 rfl))
  exact a_return dX11_marksUnits_30 rfl
abbrev R_X11_unitsBack : Room := { frames := 0, cells := 0, slots := 0, locals := 0 }
abbrev RX_X11_unitsBack : Room := { frames := 0, cells := 1, slots := 6, locals := 0 }

theorem l_X11_unitsBack_2 (hw : Wf μ) {o : Oc} {μ1 : Wd} (kx : AW Y_X11_unitsBack R_X11_unitsBack (0, 0) (bkU μ 96) 30 [(0, .ref 338), (1, .int (nI 96))] [] o μ1) : ∀ dd m, m + dd = 96 → AW Y_X11_unitsBack R_X11_unitsBack (0, 0) (bkU μ m) 2 [(0, .ref 338), (1, .int (nI m))] [] o μ1 := by
  intro dd
  induction dd with
  | zero =>
    intro m hm
    obtain rfl : 96 = m := by omega
    refine a_iload_n dX11_unitsBack_2 rfl ?_
    refine a_bipush (96 : Int32) dX11_unitsBack_3 (by decide) ?_
    refine a_icmp_ge (tgt := 30) dX11_unitsBack_5 (by decide) (fun h5 => ?_) (fun h5 => absurd h5 (fun z => z (nI_le (b := 96) (Nat.le_refl _) (by decide))))
    exact a_loc _ rfl kx
  | succ dd ih =>
    intro m hm
    have qih := ih (m + 1) (by omega)
    rw [← bkU_succ] at qih
    refine a_iload_n dX11_unitsBack_2 rfl ?_
    refine a_bipush (96 : Int32) dX11_unitsBack_3 (by decide) ?_
    refine a_icmp_ge (tgt := 30) dX11_unitsBack_5 (by decide) (fun h5 => absurd h5 (nI_ge (b := 96) (by omega) (by decide))) (fun h5 => ?_)
    refine a_aload_n dX11_unitsBack_8 rfl ?_
    refine a_getR (cr_338_6 (by repeat (first | with_reducible exact hw | with_reducible exact hwc | with_reducible assumption | with_reducible apply Wf.sI | with_reducible apply Wf.sL | with_reducible apply Wf.cpI | with_reducible apply Wf.cpL | with_reducible apply Wf.cp2 | with_reducible apply Wf.sIs | with_reducible apply Wf.sLs | with_reducible apply Wf.cpU | with_reducible apply Wf.fillI | with_reducible apply Wf.clU | with_reducible apply Wf.dnF | with_reducible apply Wf.gbW | with_reducible apply Wf.mkUf | with_reducible apply Wf.bkUf))) dX11_unitsBack_9 fs_X11_26 rfl (co_338 (by repeat (first | with_reducible exact hw | with_reducible exact hwc | with_reducible assumption | with_reducible apply Wf.sI | with_reducible apply Wf.sL | with_reducible apply Wf.cpI | with_reducible apply Wf.cpL | with_reducible apply Wf.cp2 | with_reducible apply Wf.sIs | with_reducible apply Wf.sLs | with_reducible apply Wf.cpU | with_reducible apply Wf.fillI | with_reducible apply Wf.clU | with_reducible apply Wf.dnF | with_reducible apply Wf.gbW | with_reducible apply Wf.mkUf | with_reducible apply Wf.bkUf))) ?_
    refine a_sipush (165 : Int32) dX11_unitsBack_12 (by decide) ?_
    refine a_iload_n dX11_unitsBack_15 rfl ?_
    refine a_iadd dX11_unitsBack_16 ?_
    rw [ixq]
    refine a_aload_n dX11_unitsBack_17 rfl ?_
    refine a_getR (cr_338_30 (by repeat (first | with_reducible exact hw | with_reducible exact hwc | with_reducible assumption | with_reducible apply Wf.sI | with_reducible apply Wf.sL | with_reducible apply Wf.cpI | with_reducible apply Wf.cpL | with_reducible apply Wf.cp2 | with_reducible apply Wf.sIs | with_reducible apply Wf.sLs | with_reducible apply Wf.cpU | with_reducible apply Wf.fillI | with_reducible apply Wf.clU | with_reducible apply Wf.dnF | with_reducible apply Wf.gbW | with_reducible apply Wf.mkUf | with_reducible apply Wf.bkUf))) dX11_unitsBack_18 fs_X11_64 rfl (co_338 (by repeat (first | with_reducible exact hw | with_reducible exact hwc | with_reducible assumption | with_reducible apply Wf.sI | with_reducible apply Wf.sL | with_reducible apply Wf.cpI | with_reducible apply Wf.cpL | with_reducible apply Wf.cp2 | with_reducible apply Wf.sIs | with_reducible apply Wf.sLs | with_reducible apply Wf.cpU | with_reducible apply Wf.fillI | with_reducible apply Wf.clU | with_reducible apply Wf.dnF | with_reducible apply Wf.gbW | with_reducible apply Wf.mkUf | with_reducible apply Wf.bkUf))) ?_
    refine a_iload_n dX11_unitsBack_21 rfl ?_
    refine a_ild dX11_unitsBack_22 (ca_355 (by repeat (first | with_reducible exact hw | with_reducible exact hwc | with_reducible assumption | with_reducible apply Wf.sI | with_reducible apply Wf.sL | with_reducible apply Wf.cpI | with_reducible apply Wf.cpL | with_reducible apply Wf.cp2 | with_reducible apply Wf.sIs | with_reducible apply Wf.sLs | with_reducible apply Wf.cpU | with_reducible apply Wf.fillI | with_reducible apply Wf.clU | with_reducible apply Wf.dnF | with_reducible apply Wf.gbW | with_reducible apply Wf.mkUf | with_reducible apply Wf.bkUf))) (ixn (by omega) (by decide)) ?_
    rw [gI_bkU, if_neg (by omega)]
    refine a_ist dX11_unitsBack_23 (ca_344 (by repeat (first | with_reducible exact hw | with_reducible exact hwc | with_reducible assumption | with_reducible apply Wf.sI | with_reducible apply Wf.sL | with_reducible apply Wf.cpI | with_reducible apply Wf.cpL | with_reducible apply Wf.cp2 | with_reducible apply Wf.sIs | with_reducible apply Wf.sLs | with_reducible apply Wf.cpU | with_reducible apply Wf.fillI | with_reducible apply Wf.clU | with_reducible apply Wf.dnF | with_reducible apply Wf.gbW | with_reducible apply Wf.mkUf | with_reducible apply Wf.bkUf))) (ixn (by omega) (by decide)) ?_
    refine a_iincN dX11_unitsBack_24 rfl (by decide) ?_
    refine a_goto (tgt := 2) dX11_unitsBack_27 (by decide) ?_
    exact a_loc _ rfl qih
theorem m_unitsBack (hw : Wf μ) : Ct Y_X11_unitsBack R_X11_unitsBack [.ref 338] μ (.inl none) (bkU μ 96) := by
  refine Ct.ent yk_X11_unitsBack (Nat.le_of_ble_eq_true rfl) ?_
  refine a_iconst (0 : Int32) dX11_unitsBack_0 (by decide) ?_
  refine a_istore_n dX11_unitsBack_1 (by decide) ?_
  have hz : μ = bkU μ 0 := (bkU_zero μ).symm
  refine a_wd hz (a_loc [(0, .ref 338), (1, .int (nI 0))] rfl (l_X11_unitsBack_2 hw ?_ 96 0 rfl))
  exact a_return dX11_unitsBack_30 rfl
/-- the order's units stored, meal by meal -/
def soF (q : PDt) (u : Nat → Int32) : Nat → Nat → Int32 → FDt → Option Int32 × FDt
  | 0, _, a, d => (some a, d)
  | c + 1, m, a, d => if nI (stM q m (nN (msD q d m (u m))) d).1 < msD q d m (u m) then (none, (stM q m (nN (msD q d m (u m))) d).2) else soF q u c (m + 1) (a + msD q d m (u m)) (stM q m (nN (msD q d m (u m))) d).2
theorem msD_N (q : PDt) (d : FDt) (m : Nat) (n : Int32) : msD q d m n = nI (nN (msD q d m n)) ∧ nN (msD q d m n) < 2 ^ 31 := by
  have h : ¬ msD q d m n < 0 := by
    unfold msD
    split
    · rename_i h; exact fun z => Int32.lt_irrefl (Int32.lt_trans h z)
    · decide
  obtain ⟨j, hj, e⟩ := nI_of h
  rw [e, nN_nI hj]
  exact ⟨rfl, hj⟩
abbrev s344O : Nat → Prop := fun i => i = 344 ∨ sOM i
abbrev R_X11_storesOrder : Room := { frames := 6, cells := 0, slots := 0, locals := 136 }
abbrev RX_X11_storesOrder : Room := { frames := 6, cells := 1, slots := 6, locals := 136 }

theorem l_X11_storesOrder_8 {u : Nat → Int32} : ∀ c m (a : Int32) (W : Wd) (d : FDt), m + c = pM q → Wf W → MdV W q d → (∀ i, i < 12 → gI W 353 i = u i) → WP Y_X11_storesOrder R_X11_storesOrder (0, 0) W 8 [(0, .ref 338), (1, .int a), (2, .int (nI m))] [] (fun o V => ∃ v, o = .inl v ∧ (match (soF q u c m a d).1 with
      | none => v = some (.int (-1))
      | some b => v = some (.int b)) ∧ MdV V q (soF q u c m a d).2 ∧ SoQ W V) := by
  intro c
  induction c with
  | zero =>
    intro m a W d hm hw hv hu
    have hM4 := hv.M4
    refine lf (a_iload_n dX11_storesOrder_8 rfl) ?_
    refine lf (a_aload_n dX11_storesOrder_9 rfl) ?_
    refine lf (a_inv (b2 := (0, 0)) (m_meals hw hv) rfl dX11_storesOrder_10 yk_X11_meals im_X11_meals se_X11_meals ml_X11_300 rfl (co_338 hw) (by decide) hc_X11 (by decide) (by decide) (Nat.le_of_ble_eq_true rfl)) ?_
    refine lf2 (a_icmp_ge (tgt := 44) dX11_storesOrder_13 (by decide)) (fun h13 => ?_) (fun h13 => absurd h13 (fun z => z (nI_le (show pM q ≤ m by omega) (by omega))))
    refine lf (a_iload_n dX11_storesOrder_44 rfl) ?_
    refine ⟨_, _, (a_ireturn dX11_storesOrder_45 rfl rfl), ?_⟩
    exact ⟨_, rfl, rfl, hv, SoQ.rfl' hw⟩
  | succ c ih =>
    intro m a W d hm hw hv hu
    have hM4 := hv.M4
    obtain ⟨hms, hms2⟩ := msD_N q d m (u m)
    have hSt := m_storesMany hw hv (show m < pM q by omega) (n := nN (msD q d m (u m))) hms2
    rw [← hms] at hSt
    have es : soF q u (c + 1) m a d = if nI (stM q m (nN (msD q d m (u m))) d).1 < msD q d m (u m) then (none, (stM q m (nN (msD q d m (u m))) d).2) else soF q u c (m + 1) (a + msD q d m (u m)) (stM q m (nN (msD q d m (u m))) d).2 := rfl
    rw [es]
    refine lf (a_iload_n dX11_storesOrder_8 rfl) ?_
    refine lf (a_aload_n dX11_storesOrder_9 rfl) ?_
    refine lf (a_inv (b2 := (0, 0)) (m_meals (by repeat (first | with_reducible exact hw | with_reducible exact hwc | with_reducible assumption | with_reducible apply Wf.sI | with_reducible apply Wf.sL | with_reducible apply Wf.cpI | with_reducible apply Wf.cpL | with_reducible apply Wf.cp2 | with_reducible apply Wf.sIs | with_reducible apply Wf.sLs | with_reducible apply Wf.cpU | with_reducible apply Wf.fillI | with_reducible apply Wf.clU | with_reducible apply Wf.dnF | with_reducible apply Wf.gbW | with_reducible apply Wf.mkUf | with_reducible apply Wf.bkUf)) hv) rfl dX11_storesOrder_10 yk_X11_meals im_X11_meals se_X11_meals ml_X11_300 rfl (co_338 (by repeat (first | with_reducible exact hw | with_reducible exact hwc | with_reducible assumption | with_reducible apply Wf.sI | with_reducible apply Wf.sL | with_reducible apply Wf.cpI | with_reducible apply Wf.cpL | with_reducible apply Wf.cp2 | with_reducible apply Wf.sIs | with_reducible apply Wf.sLs | with_reducible apply Wf.cpU | with_reducible apply Wf.fillI | with_reducible apply Wf.clU | with_reducible apply Wf.dnF | with_reducible apply Wf.gbW | with_reducible apply Wf.mkUf | with_reducible apply Wf.bkUf))) (by decide) hc_X11 (by decide) (by decide) (Nat.le_of_ble_eq_true rfl)) ?_
    refine lf2 (a_icmp_ge (tgt := 44) dX11_storesOrder_13 (by decide)) (fun h13 => absurd h13 (nI_ge (show m < pM q by omega) (by omega))) (fun h13 => ?_)
    refine lf (a_aload_n dX11_storesOrder_16 rfl) ?_
    refine lf (a_iload_n dX11_storesOrder_17 rfl) ?_
    refine lf (a_inv (b2 := (0, 0)) (m_missingOf (by repeat (first | with_reducible exact hw | with_reducible exact hwc | with_reducible assumption | with_reducible apply Wf.sI | with_reducible apply Wf.sL | with_reducible apply Wf.cpI | with_reducible apply Wf.cpL | with_reducible apply Wf.cp2 | with_reducible apply Wf.sIs | with_reducible apply Wf.sLs | with_reducible apply Wf.cpU | with_reducible apply Wf.fillI | with_reducible apply Wf.clU | with_reducible apply Wf.dnF | with_reducible apply Wf.gbW | with_reducible apply Wf.mkUf | with_reducible apply Wf.bkUf)) hv (show m < 12 by omega) (hu m (by omega))) rfl dX11_storesOrder_18 yk_X11_missingOf im_X11_missingOf se_X11_missingOf ml_X11_382 rfl (co_338 (by repeat (first | with_reducible exact hw | with_reducible exact hwc | with_reducible assumption | with_reducible apply Wf.sI | with_reducible apply Wf.sL | with_reducible apply Wf.cpI | with_reducible apply Wf.cpL | with_reducible apply Wf.cp2 | with_reducible apply Wf.sIs | with_reducible apply Wf.sLs | with_reducible apply Wf.cpU | with_reducible apply Wf.fillI | with_reducible apply Wf.clU | with_reducible apply Wf.dnF | with_reducible apply Wf.gbW | with_reducible apply Wf.mkUf | with_reducible apply Wf.bkUf))) (by decide) hc_X11 (by decide) (by decide) (Nat.le_of_ble_eq_true rfl)) ?_
    refine lf (a_istore_n dX11_storesOrder_21 (by decide)) ?_
    refine lf (a_aload_n dX11_storesOrder_22 rfl) ?_
    refine lf (a_iload_n dX11_storesOrder_23 rfl) ?_
    refine lf (a_iload_n dX11_storesOrder_24 rfl) ?_
    obtain ⟨v_, W25, k25, rfl, hv25, hS25⟩ := hSt
    have hwc := hS25.1.1
    refine lf (a_inv (b2 := (0, 0)) k25 rfl dX11_storesOrder_25 yk_X11_storesMany im_X11_storesMany se_X11_storesMany ml_X11_413 rfl (co_338 (by repeat (first | with_reducible exact hw | with_reducible exact hwc | with_reducible assumption | with_reducible apply Wf.sI | with_reducible apply Wf.sL | with_reducible apply Wf.cpI | with_reducible apply Wf.cpL | with_reducible apply Wf.cp2 | with_reducible apply Wf.sIs | with_reducible apply Wf.sLs | with_reducible apply Wf.cpU | with_reducible apply Wf.fillI | with_reducible apply Wf.clU | with_reducible apply Wf.dnF | with_reducible apply Wf.gbW | with_reducible apply Wf.mkUf | with_reducible apply Wf.bkUf))) (by decide) hc_X11 (by decide) (by decide) (Nat.le_of_ble_eq_true rfl)) ?_
    refine lf (a_iload_n dX11_storesOrder_28 rfl) ?_
    refine lf2 (a_icmp_ge (tgt := 34) dX11_storesOrder_29 (by decide)) (fun h29 => ?_) (fun h29 => ?_)
    · rw [if_neg (Int32.not_lt.mpr h29)]
      refine lf (a_iload_n dX11_storesOrder_34 rfl) ?_
      refine lf (a_iload_n dX11_storesOrder_35 rfl) ?_
      refine lf (a_iadd dX11_storesOrder_36) ?_
      refine lf (a_istore_n dX11_storesOrder_37 (by decide)) ?_
      refine lf (a_iincN dX11_storesOrder_38 rfl (by decide)) ?_
      refine lf (a_goto (tgt := 8) dX11_storesOrder_41 (by decide)) ?_
      refine (lf (a_loc _ rfl) (ih (m + 1) _ W25 _ (by omega) hwc hv25 (fun i hi => (hS25.1.i (by decide) i).trans (hu i hi)))).mono ?_
      rintro o V ⟨v, g1, g2, g3, g4⟩
      exact ⟨v, g1, g2, g3, hS25.trans g4⟩
    · rw [if_pos (Int32.not_le.mp h29)]
      refine lf (a_iconst (-1 : Int32) dX11_storesOrder_32 (by decide)) ?_
      refine ⟨_, _, (a_ireturn dX11_storesOrder_33 rfl rfl), ?_⟩
      exact ⟨_, rfl, rfl, hv25, hS25⟩
theorem m_storesOrder (hw : Wf μ) (hv : MdV μ q d) (hq0 : GdP q) (hd0 : GdD q d) : CV Y_X11_storesOrder R_X11_storesOrder [.ref 338] μ (fun v V => (match (soF q (orD q d) (pM q) 0 0 d).1 with
    | none => v = some (.int (-1))
    | some b => v = some (.int b)) ∧ MdV V q (soF q (orD q d) (pM q) 0 0 d).2 ∧ Out s344O μ V ∧ ∀ x, x < 165 ∨ 261 ≤ x → gI V 344 x = gI μ 344 x) := by
  refine CV.ent yk_X11_storesOrder (Nat.le_of_ble_eq_true rfl) ?_
  refine lf (a_aload_n dX11_storesOrder_0 rfl) ?_
  obtain ⟨v_, W1, k1, rfl, hO, hu⟩ := (m_laysOrder hw hv hq0 hd0)
  refine lf (a_inv (b2 := (0, 0)) k1 rfl dX11_storesOrder_1 yk_X11_laysOrder im_X11_laysOrder se_X11_laysOrder ml_X11_354 rfl (co_338 hw) (by decide) hc_X11 (by decide) (by decide) (Nat.le_of_ble_eq_true rfl)) ?_
  refine lf (a_iconst (0 : Int32) dX11_storesOrder_4 (by decide)) ?_
  refine lf (a_istore_n dX11_storesOrder_5 (by decide)) ?_
  refine lf (a_iconst (0 : Int32) dX11_storesOrder_6 (by decide)) ?_
  refine lf (a_istore_n dX11_storesOrder_7 (by decide)) ?_
  refine (lf (a_loc [(0, .ref 338), (1, .int 0), (2, .int (nI 0))] rfl) (l_X11_storesOrder_8 (pM q) 0 0 W1 d (Nat.zero_add _) hO.1 (hv.om hO) hu)).mono ?_
  rintro o V ⟨v, g1, g2, g3, g4⟩
  exact ⟨v, g1, g2, g3, (hO.mono (fun i y => Or.inr y)).trans (g4.1.mono (fun i y => Or.inl y)), fun x hx => (g4.2 x hx).trans (hO.i (by decide) x)⟩
end MODELS
