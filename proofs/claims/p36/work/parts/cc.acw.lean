section ACW
variable {μ W V : Wd} {p p0 N : Nat} {q : PDt} {d d2 : FDt} {H : Hst} {S : Nat → Option FDt}
theorem la_lo2 {a : Nat} (ha : a < 3) (i : Nat) : dF (laD q d).2 a i = dF d a i := by
  obtain ⟨h1, h2, h3, h4, _⟩ := lap_lo (q := q) (dU d) 0 0 d (Nat.zero_add _)
  exact (shf_ne _ _ (by omega)).trans (h4 a i (by omega))
theorem lap_ge : ∀ (c a : Nat) (b : Int32) (d : FDt) (t : Nat), a + c = dU d → (∀ i, i < dU d → ∃ n, n ≤ 99 ∧ dF d 4 i = nI n) → b = nI t → ∃ s, (laP q c a b d).2.1 = nI s ∧ s ≤ t + 99 * c := by
  intro c
  induction c with
  | zero => intro a b d t _ _ hb; exact ⟨t, hb, Nat.le_add_right _ _⟩
  | succ c ih =>
    intro a b d t ha hf hb
    rw [laP_s]
    split
    · exact ⟨t, hb, Nat.le_add_right _ _⟩
    · obtain ⟨n, hn, e⟩ := hf a (by omega)
      have s := stM_lo (q := q) (k := nN (dF d 3 a)) (nN (dF d 4 a)) d
      have hl : (stM q (nN (dF d 3 a)) (nN (dF d 4 a)) d).1 ≤ n := by
        have := stM_le (q := q) (k := nN (dF d 3 a)) (nN (dF d 4 a)) d
        rw [e, nN_nI (by omega)] at this
        rw [e, nN_nI (by omega)]
        exact this
      obtain ⟨r, h1, h2⟩ := ih (a + 1) (b + (dF d 4 a - nI (stM q (nN (dF d 3 a)) (nN (dF d 4 a)) d).1)) (stM q (nN (dF d 3 a)) (nN (dF d 4 a)) d).2 (t + (n - (stM q (nN (dF d 3 a)) (nN (dF d 4 a)) d).1)) (by rw [s.2.1]; omega) (fun i hi => by rw [s.2.2.2.1 4 i (by decide)]; exact hf i (by rw [← s.2.1]; exact hi)) (by
        generalize (stM q (nN (dF d 3 a)) (nN (dF d 4 a)) d).1 = z at hl ⊢
        rw [hb, e, nI_subI hl, nI_add])
      exact ⟨r, h1, by omega⟩
theorem la_ge (hd : GdD q d) : 0 ≤ (laD q d).1 := by
  obtain ⟨s, h1, h2⟩ := lap_ge (q := q) (dU d) 0 0 d 0 (Nat.zero_add _) (fun i hi => by
    obtain ⟨_, n, _, g2, e⟩ := hd.2.2.2.2.1 i hi
    exact ⟨n, g2, e⟩) rfl
  have hU := hd.U4
  show 0 ≤ (laP q (dU d) 0 0 d).2.1
  rw [h1]
  exact nI_ge0 (by omega)
theorem GX.top (h : GX N q d) (hq : GdP q) (hgo : goD q d) {m n : Nat} (hm : m < pM q) (g1 : 1 ≤ n) (g2 : n ≤ 99) (hU : dU d < 6) (hle : pF q 9 3 ≤ dF d 6 1) : GX N q (laD q (askD q d (nI m) (nI n))).2 := by
  have e := la_lo (q := q) (d := askD q d (nI m) (nI n))
  have hf : ∀ a i, (a < 3 ∨ 6 ≤ a) → dF (askD q d (nI m) (nI n)) a i = dF d a i := fun a i ha => if_neg (by omega)
  have h1 : AdM q (askD q d (nI m) (nI n)) := h.2.1.cg (fun a i ha => hf a i (by omega))
  exact h.cg (h.1.top hq hgo hm g1 g2 hU hle) h1.la e.1 (fun a i ha => (la_lo2 (by omega) i).trans (hf a i (by omega))) e.2.1
theorem GX.adv (h : GX N q d) (hq : GdP q) (hgo : goD q d) {n : Nat} (hn : 1 ≤ n) (hmi : nI n ≤ dF d 6 1) (g2 : n ≤ 999) : GX N q (laD q (cellD d 6 1 (dF d 6 1 - nI n))).2 := by
  have e := la_lo (q := q) (d := cellD d 6 1 (dF d 6 1 - nI n))
  have hf : ∀ a i, a ≠ 6 → dF (cellD d 6 1 (dF d 6 1 - nI n)) a i = dF d a i := fun a i ha => cell_ne d _ (by omega)
  have h1 : AdM q (cellD d 6 1 (dF d 6 1 - nI n)) := h.2.1.cg (fun a i ha => hf a i (by omega))
  exact h.cg (h.1.adv hq hgo hn hmi g2).2 h1.la e.1 (fun a i ha => (la_lo2 (by omega) i).trans (hf a i (by omega))) e.2.1
theorem w_leave (h : LwV p p0 q d H S N μ) (hgo : goD q d) {i : Nat} (hi : i < dP d) : CV Y_X10_leave R_X10_leave [.ref 0, .int (nI i)] μ (fun v V => v = some (.int (nI (dP d - 1))) ∧ ActL p p0 q d H S N μ v V) := by
  obtain ⟨v, V, hct, rfl, ha⟩ := c_leave h.1 h.gd hgo hi
  exact ⟨_, _, hct, rfl, ActL.yes h hgo (nI_ge0 (by have := h.gd.P4; omega)) (h.2.2.1.leave hgo hi) ha (show (if 6 < 3 ∧ i ≤ 0 ∧ 0 < dP d - 1 then dF d 6 (0 + 1) else dF d 6 0) = dF d 6 0 from if_neg (by omega)) rfl⟩
theorem w_setNeeds (h : LwV p p0 q d H S N μ) (hgo : goD q d) {i n : Nat} (hi : i < dP d) (hn : n < 256) : CV Y_X10_setNeeds R_X10_setNeeds [.ref 0, .int (nI i), .int (nI n)] μ (ActL p p0 q d H S N μ) := by
  obtain ⟨v, V, hct, rfl, ha⟩ := c_setNeeds h.1 h.gd hgo hi hn
  obtain ⟨_, ⟨x, hx, e⟩, _⟩ := h.gd.2.1 i hi
  exact ⟨_, _, hct, ActL.yes h hgo (by rw [e]; exact nI_ge0 (by omega)) (h.2.2.1.nees hgo hn) ha (cell_ne d _ (by omega)) rfl⟩
theorem w_boarded (h : LwV p p0 q d H S N μ) (hgo : goD q d) {c n : Nat} {x : Int32} (hc : c < pC q) (hn : n < 256) (hx : x = -1 ∨ ∃ m, m < pM q ∧ x = nI m) : CV Y_L_boarded RW_L_boarded [.ref 0, .int (nI c), .int (nI n), .int x] μ (ActL p p0 q d H S N μ) := by
  have hw := h.wf
  have hv := h.1.2.2.1
  have hq := h.1.2.1
  have hC := h.gp.C4
  rcases hx with rfl | ⟨m, hm, rfl⟩
  · by_cases hP : dP d < 40
    · by_cases hfr : pF q 0 c - paD d (nI c) < 1
      · exact ⟨_, _, ws_boarded hw _ _ _ (cs_board_n hw hv hq hgo hc hn hP hfr), ActL.no h (by decide)⟩
      · obtain ⟨v, V, hct, rfl, ha⟩ := c_board_n h.1 h.gd hgo hc hn hP hfr
        exact ⟨_, _, wv_boarded hw _ _ _ hct, ActL.yes h hgo (nI_ge0 (by omega)) (h.2.2.1.brd hgo hC hP hc hn (Or.inl rfl) hfr) ha (if_neg (by omega)) rfl⟩
    · exact ⟨_, _, ws_boarded hw _ _ _ (cr_board_n hw hv hq hgo hc hn (by omega)), ActL.no h (by decide)⟩
  · by_cases hwm : pF q 2 m = nI c
    · by_cases hP : dP d < 40
      · by_cases hfr : pF q 0 c - paD d (nI c) < 1
        · exact ⟨_, _, ws_boarded hw _ _ _ (cs_board_w hw hv hq hgo hc hn hm hwm hP hfr), ActL.no h (by decide)⟩
        · obtain ⟨v, V, hct, rfl, ha⟩ := c_board_w h.1 h.gd hgo hc hn hm hwm hP hfr
          exact ⟨_, _, wv_boarded hw _ _ _ hct, ActL.yes h hgo (nI_ge0 (by omega)) (h.2.2.1.brd hgo hC hP hc hn (Or.inr ⟨m, hm, rfl, hwm⟩) hfr) ha (if_neg (by omega)) rfl⟩
      · exact ⟨_, _, ws_boarded hw _ _ _ (cr_board_w hw hv hq hgo hc hn hm hwm (by omega)), ActL.no h (by decide)⟩
    · exact ⟨_, _, wi_boarded hw _ _ _ (cm_board hw hv hq hc hn hm hwm), ActL.same h (by decide)⟩
theorem w_changed (h : LwV p p0 q d H S N μ) (hgo : goD q d) {i c : Nat} (hi : i < dP d) (hc : c < pC q) : CV Y_L_changed RW_L_changed [.ref 0, .int (nI i), .int (nI c)] μ (ActL p p0 q d H S N μ) := by
  have hw := h.wf
  have hv := h.1.2.2.1
  have hq := h.1.2.1
  have hC := h.gp.C4
  by_cases he : dF d 0 i = nI c
  · exact ⟨_, _, wi_changed hw _ _ (cz_change hw hv hq hi hc he), ActL.same h (by decide)⟩
  · by_cases hfr : pF q 0 c - paD d (nI c) < 1
    · exact ⟨_, _, ws_changed hw _ _ (cs_change hw hv hq hgo hi hc he hfr), ActL.no h (by decide)⟩
    · obtain ⟨v, V, hct, rfl, ha⟩ := c_change h.1 h.gd hgo hi hc he hfr
      obtain ⟨⟨x, hx, e⟩, _⟩ := h.gd.2.1 i hi
      exact ⟨_, _, wv_changed hw _ _ hct, ActL.yes h hgo (by rw [e]; exact nI_ge0 (by omega)) (h.2.2.1.chg hgo hC hi hc hfr) ha ((cell_ne _ _ (by omega)).trans (cell_ne _ _ (by omega))) rfl⟩
theorem w_unloaded (h : LwV p p0 q d H S N μ) (hgo : goD q d) {m n : Nat} (hm : m < pM q) (g1 : 1 ≤ n) (g2 : n ≤ 99) : CV Y_L_unloaded RW_L_unloaded [.ref 0, .int (nI m), .int (nI n)] μ (ActL p p0 q d H S N μ) := by
  have hw := h.wf
  by_cases hld : nI n ≤ ldD q d m
  · obtain ⟨v, V, hct, rfl, ha⟩ := c_unload h.1 h.gd hgo hm g1 g2 hld
    have hg := h.2.2.1.to h.gp hgo hm (n := n) (by omega)
    obtain ⟨e, hl⟩ := ldD_N h.gp hg.1.1 (k := m) (by have := h.gp.M4; omega)
    have s := to_lo m (pT q) (nI n) d
    exact ⟨_, _, wv_unloaded hw _ _ hct, ActL.yes h hgo (by rw [e]; exact nI_ge0 (by omega)) hg ha s.2.2 s.2.1⟩
  · exact ⟨_, _, ws_unloaded hw _ _ (cr_unload hw h.1.2.2.1 h.1.2.1 hgo hm g1 g2 hld), ActL.no h (by decide)⟩
theorem w_topped (h : LwV p p0 q d H S N μ) (hgo : goD q d) {m n : Nat} (hm : m < pM q) (g1 : 1 ≤ n) (g2 : n ≤ 99) : CV Y_L_topped RW_L_topped [.ref 0, .int (nI m), .int (nI n)] μ (ActL p p0 q d H S N μ) := by
  have hw := h.wf
  by_cases hU : dU d < 6
  · by_cases hle : pF q 9 3 ≤ dF d 6 1
    · obtain ⟨v, V, hct, rfl, ha⟩ := c_topUp h.1 h.gd h.gp hgo hm g1 g2 hU hle
      have hg := h.2.2.1.top h.gp hgo hm g1 g2 hU hle
      have e := la_lo (q := q) (d := askD q d (nI m) (nI n))
      exact ⟨_, _, wv_topped hw _ _ hct, ActL.yes h hgo (nI_ge0 (by have := hg.1.1.U4; omega)) hg ha ((e.2.2 0).trans (if_neg (by omega))) e.2.1⟩
    · exact ⟨_, _, ws_topped hw _ _ (cs_topUp hw h.1.2.2.1 h.1.2.1 hgo hm g1 g2 hU hle), ActL.no h (by decide)⟩
  · exact ⟨_, _, ws_topped hw _ _ (cr_topUp hw h.1.2.2.1 h.1.2.1 hgo hm g1 g2 (by omega)), ActL.no h (by decide)⟩
theorem w_passed (h : LwV p p0 q d H S N μ) (hgo : goD q d) {n : Nat} (g1 : 1 ≤ n) (g2 : n ≤ 999) : CV Y_L_passed RW_L_passed [.ref 0, .int (nI n)] μ (ActL p p0 q d H S N μ) := by
  have hw := h.wf
  by_cases hmi : nI n ≤ dF d 6 1
  · have hi := h.2.2.1.1.adv h.gp hgo g1 hmi g2
    obtain ⟨v, V, hct, rfl, ha⟩ := c_advance h.1 h.gd h.gp hgo g1 g2 hmi hi.1
    have hg := h.2.2.1.adv h.gp hgo g1 hmi g2
    have e := la_lo (q := q) (d := cellD d 6 1 (dF d 6 1 - nI n))
    exact ⟨_, _, wv_passed hw _ hct, ActL.yes h hgo (la_ge hi.1) hg ha ((e.2.2 0).trans (cell_ne d _ (by omega))) e.2.1⟩
  · exact ⟨_, _, ws_passed hw _ (cr_advance hw h.1.2.2.1 h.1.2.1 hgo g1 g2 hmi), ActL.no h (by decide)⟩
theorem w_stored (h : LwV p p0 q d H S N μ) (hgo : goD q d) {m n : Nat} (hm : m < pM q) (g1 : 1 ≤ n) (g2 : n ≤ 99) : CV Y_L_stored RW_L_stored [.ref 0, .int (nI m), .int (nI n)] μ (ActL p p0 q d H S N μ) := by
  have hw := h.wf
  rcases hgo with ho | ho
  · have hgo : goD q d := Or.inl ho
    by_cases hst : nI n ≤ nI (stM q m n d).1
    · have hg := h.2.2.1.st h.gp hgo hm n
      obtain ⟨v, V, hct, rfl, ha⟩ := c_store h.1 h.gd ho hm g1 g2 hst hg.1.1.s01
      obtain ⟨e, hl⟩ := ldD_N h.gp hg.1.1 (k := m) (by have := h.gp.M4; omega)
      have s := stM_lo (q := q) (k := m) n d
      exact ⟨_, _, wv_stored hw _ _ hct, ActL.yes h hgo (by rw [e]; exact nI_ge0 (by omega)) hg ha (s.2.2.2.1 6 0 (by decide)) s.2.2.1⟩
    · obtain ⟨o, V, hct, rfl, W, rfl, hO⟩ := cr_store h.1 h.gd ho hm g1 g2 hst
      have hW : LwV p p0 q d H S N W := h.out hO (fun i y => Or.inr y) (fun k _ => hO.i (fun y => by rcases y with y | y <;> omega) k) (hO.r (fun y => by rcases y with y | y <;> omega) 9)
      refine ⟨_, _, ws_stored hw _ _ hct, _, rfl, ?_, Or.inr ⟨by decide, hW.s6 3⟩⟩
      exact (hO.mono (S' := sAct) (fun i y => by rcases y with y | y <;> omega)).trans (((Out.rfl' hW.wf).sI (S := fun i => i = 0) rfl _ _).mono (fun i y => Or.inl y))
  · exact ⟨_, _, ws_stored hw _ _ (cs_store hw h.1.2.2.1 h.1.2.1 ho hm g1 g2), ActL.no h (by decide)⟩
end ACW
