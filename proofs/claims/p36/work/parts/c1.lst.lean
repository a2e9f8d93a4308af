section LST
variable {μ W V : Wd} {p p0 N : Nat} {q : PDt} {d : FDt} {H : Hst} {S : Nat → Option FDt}
/-- what the law's plans keep to -/
def QX (q : PDt) : Prop := GdP q ∧ pC q = 2 ∧ (pF q 0 0 = nI 6 ∧ pF q 0 1 = nI 5) ∧ (4 ≤ pM q ∧ pM q ≤ 7) ∧ pF q 9 0 = 1 ∧ (∃ m c, c < m ∧ m < 100 ∧ pF q 9 1 = nI m ∧ pF q 9 2 = nI c) ∧ ∀ m, m < pM q → pF q 2 m = -1 ∨ ∃ s, 1 ≤ s ∧ s < 100 ∧ pF q 3 m = nI s
/-- what its flights keep to -/
def GX (N : Nat) (q : PDt) (d : FDt) : Prop := InD N q d ∧ AdM q d ∧ SeC q d ∧ WiC q d ∧ AcE d
/-- the class's state as the law leads it -/
def LwV (p p0 : Nat) (q : PDt) (d : FDt) (H : Hst) (S : Nat → Option FDt) (N : Nat) (W : Wd) : Prop := CrV W p q d H S ∧ QX q ∧ GX N q d ∧ ((∀ i, i < H.1 → GX N q (H.2 i)) ∧ ∀ j e, S j = some e → GX N q e) ∧ (gR W 0 9 = some p0 ∧ Pl p0 ∧ p0 ≠ p) ∧ gI W 0 1 = 0
theorem LwV.wf (h : LwV p p0 q d H S N W) : Wf W := h.1.wf
theorem LwV.gp (h : LwV p p0 q d H S N W) : GdP q := h.2.1.1
theorem LwV.gd (h : LwV p p0 q d H S N W) : GdD q d := h.2.2.1.1.1
theorem LwV.sv (h : LwV p p0 q d H S N W) : SvA W q d := h.1.2.2.2.2.2
/-- behind a question -/
def LwA (p p0 : Nat) (q : PDt) (d : FDt) (H : Hst) (S : Nat → Option FDt) (N : Nat) (μ V : Wd) : Prop := LwV p p0 q d H S N V ∧ Out sAsk μ V
theorem LwA.rfl' (h : LwV p p0 q d H S N μ) : LwA p p0 q d H S N μ μ := ⟨h, Out.rfl' h.wf⟩
theorem LwA.tr (h1 : LwA p p0 q d H S N μ W) (h2 : LwA p p0 q d H S N W V) : LwA p p0 q d H S N μ V := ⟨h2.1, h1.2.trans h2.2⟩
theorem CrV.hn (h : CrV μ p q d H S) : gI μ 82 2 = nI H.1 := by
  obtain ⟨k, r, _, _, h3, _⟩ := h.2.2.2.1
  exact h3
theorem LwV.ask (h : LwV p p0 q d H S N μ) (ha : AskQ μ q d V) : LwA p p0 q d H S N μ V := by
  have hc := CrV.ask h.1 ha
  obtain ⟨a1, a2, a3, a4⟩ := ha
  refine ⟨⟨hc, h.2.1, h.2.2.1, h.2.2.2.1, ⟨(a3 9).trans h.2.2.2.2.1.1, h.2.2.2.2.1.2⟩, (a2 1 (by decide)).trans h.2.2.2.2.2⟩, a1⟩
theorem w_count (h : LwV p p0 q d H S N μ) {k : Nat} (hk : k < 12) : CV Y_X10_count R_X10_count [.ref 0, .int (nI k)] μ (fun v V => v = some (.int (cnV q d H.1 k)) ∧ LwA p p0 q d H S N μ V) := by
  obtain ⟨v, V, hc, e, ha⟩ := c_count h.wf h.1.2.2.1 h.1.2.1 h.gp h.gd h.sv h.1.hn hk
  exact ⟨v, V, hc, e, h.ask ha⟩
theorem w_cabin (h : LwV p p0 q d H S N μ) {c k : Nat} (hc : c < pC q) (hk : k < 8) : CV Y_X10_cabin R_X10_cabin [.ref 0, .int (nI c), .int (nI k)] μ (fun v V => v = some (.int (caV q d c k)) ∧ LwA p p0 q d H S N μ V) := by
  obtain ⟨v, V, hc, e, ha⟩ := c_cabin h.wf h.1.2.2.1 h.1.2.1 h.gp h.gd h.sv hc hk
  exact ⟨v, V, hc, e, h.ask ha⟩
theorem w_meal (h : LwV p p0 q d H S N μ) {m k : Nat} (hm : m < pM q) (hk : k < 10) : CV Y_X10_meal R_X10_meal [.ref 0, .int (nI m), .int (nI k)] μ (fun v V => v = some (.int (mlV q d m k)) ∧ LwA p p0 q d H S N μ V) := by
  obtain ⟨v, V, hc, e, ha⟩ := c_meal h.wf h.1.2.2.1 h.1.2.1 h.gp h.gd h.sv hm hk
  exact ⟨v, V, hc, e, h.ask ha⟩
theorem w_passenger (h : LwV p p0 q d H S N μ) {i k : Nat} (hi : i < dP d) (hk : k < 6) : CV Y_X10_passenger R_X10_passenger [.ref 0, .int (nI i), .int (nI k)] μ (fun v V => v = some (.int (pgV q d i k)) ∧ LwA p p0 q d H S N μ V) := by
  obtain ⟨v, V, hc, e, ha⟩ := c_passenger h.wf h.1.2.2.1 h.1.2.1 h.gp h.gd h.sv hi hk
  exact ⟨v, V, hc, e, h.ask ha⟩
theorem w_trolley (h : LwV p p0 q d H S N μ) {t k : Nat} (ht : t < pT q) (hk : k < 4) : CV Y_X10_trolley R_X10_trolley [.ref 0, .int (nI t), .int (nI k)] μ (fun v V => v = some (.int (tyV q d t k)) ∧ LwA p p0 q d H S N μ V) := by
  obtain ⟨v, V, hc, e, ha⟩ := c_trolley h.wf h.1.2.2.1 h.1.2.1 h.gp h.gd h.sv ht hk
  exact ⟨v, V, hc, e, h.ask ha⟩
theorem w_outlook (h : LwV p p0 q d H S N μ) {k : Nat} (hk : k < 6) : CV Y_X10_outlook R_X10_outlook [.ref 0, .int (nI k)] μ (fun v V => v = some (.int (olV q d k)) ∧ LwA p p0 q d H S N μ V) := by
  obtain ⟨v, V, hc, e, ha⟩ := c_outlook h.wf h.1.2.2.1 h.1.2.1 h.gp h.gd h.sv hk
  exact ⟨v, V, hc, e, h.ask ha⟩
theorem w_mealFor (h : LwV p p0 q d H S N μ) {i : Nat} (hi : i < dP d) : CV Y_X10_mealFor R_X10_mealFor [.ref 0, .int (nI i)] μ (fun v V => v = some (.int (oI ((svR q d).1 i))) ∧ LwA p p0 q d H S N μ V) := by
  obtain ⟨v, V, hc, e, ha⟩ := c_mealFor h.wf h.1.2.2.1 h.1.2.1 h.gp h.gd h.sv hi
  exact ⟨v, V, hc, e, h.ask ha⟩
theorem w_held (h : LwV p p0 q d H S N μ) {t m : Nat} (ht : t < pT q) (hm : m < pM q) : Ct Y_X10_held R_X10_held [.ref 0, .int (nI t), .int (nI m)] μ (.inl (some (.int (dF d (7 + t) m)))) μ := c_held h.wf h.1.2.2.1 h.1.2.1 ht hm
theorem w_topUpAt (h : LwV p p0 q d H S N μ) {i k : Nat} (hi : i < dU d) (hk : k < 3) : Ct Y_X10_topUpAt R_X10_topUpAt [.ref 0, .int (nI i), .int (nI k)] μ (.inl (some (.int (tpV d i k)))) μ := c_topUpAt h.wf h.1.2.2.1 h.1.2.1 hi hk
theorem w_account (h : LwV p p0 q d H S N μ) {k : Nat} (hk : k < 6) : Ct Y_X10_account R_X10_account [.ref 0, .int (nI k)] μ (.inl (some (.long (dA d k)))) μ := c_account h.wf h.1.2.2.1 h.1.2.1 hk
end LST
