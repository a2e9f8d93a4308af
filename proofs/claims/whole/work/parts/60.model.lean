section MODELA
variable {μ W : Wd} {q : PDt} {d : FDt}
/-- a row of the model as a flight's data -/
def RwV (r : Nat → Int32) (d : FDt) : Prop :=
  r 1 = dF d 6 0 ∧ r 2 = dF d 6 1 ∧ r 3 = nI (dP d) ∧ r 4 = nI (dU d) ∧
  (∀ i, i < dP d → r (5 + 4 * i + 0) = dF d 0 i ∧ r (5 + 4 * i + 1) = dF d 1 i ∧ r (5 + 4 * i + 2) = dF d 2 i) ∧
  (∀ i, i < dU d → r (261 + 3 * i) = dF d 3 i ∧ r (261 + 3 * i + 1) = dF d 4 i ∧ r (261 + 3 * i + 2) = dF d 5 i) ∧
  (∀ t k, t < 8 → k < 12 → r (165 + 12 * t + k) = dF d (7 + t) k)
/-- the model's plan -/
def PwV (r : Nat → Int32) (q : PDt) : Prop :=
  (r 0 = nI (pC q) ∧ r 1 = nI (pM q) ∧ r 2 = nI (pT q) ∧ r 3 = pF q 9 2 ∧ r 4 = pF q 9 3) ∧
  (∀ i, i < pC q → r (5 + 2 * i + 0) = pF q 0 i ∧ r (5 + 2 * i + 1) = pF q 1 i) ∧
  (∀ i, i < pM q → r (13 + 5 * i + 0) = pF q 2 i ∧ r (13 + 5 * i + 1) = pF q 3 i ∧ r (13 + 5 * i + 2) = pF q 4 i ∧ r (13 + 5 * i + 3) = pF q 5 i ∧ r (13 + 5 * i + 4) = pF q 6 i) ∧
  (∀ i, i < pT q → r (73 + 2 * i + 0) = pF q 7 i ∧ r (73 + 2 * i + 1) = pF q 8 i)
/-- numbers that fit -/
def FitD (q : PDt) (d : FDt) : Prop := (pC q ≤ 4 ∧ pM q ≤ 12 ∧ pT q ≤ 8 ∧ dP d ≤ 40 ∧ dU d ≤ 6) ∧ (dF d 6 0 = 0 ∨ dF d 6 0 = 1) ∧ (pF q 9 0 = 0 → pC q = 0 ∧ pM q = 0 ∧ pT q = 0)
def MdV (μ : Wd) (q : PDt) (d : FDt) : Prop := gI μ 344 0 = pF q 9 0 ∧ FitD q d ∧ PwV (gI μ 339) q ∧ RwV (gI μ 344) d
theorem MdV.C4 (h : MdV μ q d) : pC q ≤ 4 := h.2.1.1.1
theorem MdV.M4 (h : MdV μ q d) : pM q ≤ 12 := h.2.1.1.2.1
theorem MdV.T4 (h : MdV μ q d) : pT q ≤ 8 := h.2.1.1.2.2.1
theorem MdV.P4 (h : MdV μ q d) : dP d ≤ 40 := h.2.1.1.2.2.2.1
theorem MdV.U4 (h : MdV μ q d) : dU d ≤ 6 := h.2.1.1.2.2.2.2
theorem MdV.s01 (h : MdV μ q d) : dF d 6 0 = 0 ∨ dF d 6 0 = 1 := h.2.1.2.1
theorem MdV.z (h : MdV μ q d) : pF q 9 0 = 0 → pC q = 0 ∧ pM q = 0 ∧ pT q = 0 := h.2.1.2.2
theorem MdV.s0 (h : MdV μ q d) : gI μ 344 0 = pF q 9 0 := h.1
theorem MdV.s1 (h : MdV μ q d) : gI μ 344 1 = dF d 6 0 := h.2.2.2.1
theorem MdV.s2 (h : MdV μ q d) : gI μ 344 2 = dF d 6 1 := h.2.2.2.2.1
theorem MdV.s3 (h : MdV μ q d) : gI μ 344 3 = nI (dP d) := h.2.2.2.2.2.1
theorem MdV.s4 (h : MdV μ q d) : gI μ 344 4 = nI (dU d) := h.2.2.2.2.2.2.1
theorem MdV.p0 (h : MdV μ q d) : gI μ 339 0 = nI (pC q) := h.2.2.1.1.1
theorem MdV.p1 (h : MdV μ q d) : gI μ 339 1 = nI (pM q) := h.2.2.1.1.2.1
theorem MdV.p2 (h : MdV μ q d) : gI μ 339 2 = nI (pT q) := h.2.2.1.1.2.2.1
theorem MdV.p3 (h : MdV μ q d) : gI μ 339 3 = pF q 9 2 := h.2.2.1.1.2.2.2.1
theorem MdV.p4 (h : MdV μ q d) : gI μ 339 4 = pF q 9 3 := h.2.2.1.1.2.2.2.2
theorem MdV.un (h : MdV μ q d) {t k : Nat} (ht : t < 8) (hk : k < 12) : gI μ 344 (165 + 12 * t + k) = dF d (7 + t) k := h.2.2.2.2.2.2.2.2.2 t k ht hk
theorem MdV.tm (h : MdV μ q d) {i : Nat} (hi : i < dU d) : gI μ 344 (261 + 3 * i) = dF d 3 i := (h.2.2.2.2.2.2.2.2.1 i hi).1
theorem MdV.tu (h : MdV μ q d) {i : Nat} (hi : i < dU d) : gI μ 344 (261 + 3 * i + 1) = dF d 4 i := (h.2.2.2.2.2.2.2.2.1 i hi).2.1
theorem MdV.td (h : MdV μ q d) {i : Nat} (hi : i < dU d) : gI μ 344 (261 + 3 * i + 2) = dF d 5 i := (h.2.2.2.2.2.2.2.2.1 i hi).2.2
theorem MdV.fr (h : MdV μ q d) (h9 : ∀ k, gI W 339 k = gI μ 339 k) (h4 : ∀ k, gI W 344 k = gI μ 344 k) : MdV W q d := by
  have e9 : gI W 339 = gI μ 339 := funext h9
  have e4 : gI W 344 = gI μ 344 := funext h4
  unfold MdV
  rw [e9, e4]
  exact h
theorem MdV.out {S : Nat → Prop} (h : MdV μ q d) (ho : Out S μ W) (h9 : ¬ S 339) (h4 : ¬ S 344) : MdV W q d := h.fr (ho.i h9) (ho.i h4)
theorem b01t {p : Prop} [Decidable p] : (if p then (1 : Int32) else 0) = 0 ↔ ¬ p := by
  by_cases h : p
  · rw [if_pos h]; exact ⟨fun e => absurd e (by decide), fun e => absurd h e⟩
  · rw [if_neg h]; exact ⟨fun _ => h, fun _ => rfl⟩
theorem b01f {p : Prop} [Decidable p] : ¬ (if p then (1 : Int32) else 0) = 0 ↔ p := by
  rw [b01t]; exact Classical.not_not
theorem ixu (t k : Nat) : (165 : Int32) + 12 * nI t + nI k = nI (165 + 12 * t + k) := by
  rw [show (165 : Int32) = nI 165 from rfl, show (12 : Int32) = nI 12 from rfl, nI, nI, nI, nI, ← Int32.ofNat_mul, ← Int32.ofNat_add, ← Int32.ofNat_add]; rfl
theorem ixp (t k : Nat) : (5 : Int32) + 4 * nI t + nI k = nI (5 + 4 * t + k) := by
  rw [show (5 : Int32) = nI 5 from rfl, show (4 : Int32) = nI 4 from rfl, nI, nI, nI, nI, ← Int32.ofNat_mul, ← Int32.ofNat_add, ← Int32.ofNat_add]; rfl
theorem ixc (t k : Nat) : (5 : Int32) + 2 * nI t + nI k = nI (5 + 2 * t + k) := by
  rw [show (5 : Int32) = nI 5 from rfl, show (2 : Int32) = nI 2 from rfl, nI, nI, nI, nI, ← Int32.ofNat_mul, ← Int32.ofNat_add, ← Int32.ofNat_add]; rfl
theorem ixm (t k : Nat) : (13 : Int32) + 5 * nI t + nI k = nI (13 + 5 * t + k) := by
  rw [show (13 : Int32) = nI 13 from rfl, show (5 : Int32) = nI 5 from rfl, nI, nI, nI, nI, ← Int32.ofNat_mul, ← Int32.ofNat_add, ← Int32.ofNat_add]; rfl
theorem ixt (t k : Nat) : (73 : Int32) + 2 * nI t + nI k = nI (73 + 2 * t + k) := by
  rw [show (73 : Int32) = nI 73 from rfl, show (2 : Int32) = nI 2 from rfl, nI, nI, nI, nI, ← Int32.ofNat_mul, ← Int32.ofNat_add, ← Int32.ofNat_add]; rfl
theorem ixb (t : Nat) : (261 : Int32) + 3 * nI t = nI (261 + 3 * t) := by
  rw [show (261 : Int32) = nI 261 from rfl, show (3 : Int32) = nI 3 from rfl, nI, nI, nI, ← Int32.ofNat_mul, ← Int32.ofNat_add]; rfl
/-- what 'in' answers -/
def inI (v a b : Int32) : Int32 := if v < a then 0 else if b < v then 0 else 1
theorem nI_m1 {j : Nat} (h : j < 2 ^ 31) : (-1 : Int32) < nI j := by
  rw [Int32.lt_iff_toInt_lt, nI_toInt h]
  show (-1 : Int) < _
  omega
theorem inI_t {k n : Nat} (hk : k < n) (hn : n < 2 ^ 31) : inI (nI k) 0 (nI n - 1) = 1 := by
  obtain ⟨m, rfl⟩ : ∃ m, n = m + 1 := ⟨n - 1, by omega⟩
  unfold inI
  rw [if_neg (nI_pos (by omega)), nI_pred, if_neg (nI_nlt (by omega) (by omega))]
theorem inI_f {x : Int32} {n : Nat} (h : ixO x n = none) (hn : n < 2 ^ 31) : inI x 0 (nI n - 1) = 0 := by
  unfold inI
  rcases ixO_none h with h | ⟨j, h1, h2, rfl⟩
  · rw [if_pos h]
  · rw [if_neg (nI_pos h2)]
    cases n with
    | zero => rw [if_pos (show nI 0 - 1 < nI j from nI_m1 h2)]
    | succ m => rw [nI_pred, if_pos (nI_lt (by omega) h2)]
abbrev R_X11_unitAt : Room := { frames := 0, cells := 0, slots := 0, locals := 0 }
abbrev RX_X11_unitAt : Room := { frames := 0, cells := 1, slots := 6, locals := 0 }

theorem m_unitAt (t k : Nat) : Ct Y_X11_unitAt R_X11_unitAt [.int (nI t), .int (nI k)] μ (.inl (some (.int (nI (165 + 12 * t + k))))) μ := by
  refine Ct.ent yk_X11_unitAt (Nat.le_of_ble_eq_true rfl) ?_
  refine a_sipush (165 : Int32) dX11_unitAt_0 (by decide) ?_
  refine a_bipush (12 : Int32) dX11_unitAt_3 (by decide) ?_
  refine a_iload_n dX11_unitAt_5 rfl ?_
  refine a_imul dX11_unitAt_6 ?_
  refine a_iadd dX11_unitAt_7 ?_
  refine a_iload_n dX11_unitAt_8 rfl ?_
  refine a_iadd dX11_unitAt_9 ?_
  rw [ixu]
  exact a_out rfl rfl (a_ireturn dX11_unitAt_10 rfl rfl)
abbrev R_X11_passengerAt : Room := { frames := 0, cells := 0, slots := 0, locals := 0 }
abbrev RX_X11_passengerAt : Room := { frames := 0, cells := 1, slots := 6, locals := 0 }

theorem m_passengerAt (t k : Nat) : Ct Y_X11_passengerAt R_X11_passengerAt [.int (nI t), .int (nI k)] μ (.inl (some (.int (nI (5 + 4 * t + k))))) μ := by
  refine Ct.ent yk_X11_passengerAt (Nat.le_of_ble_eq_true rfl) ?_
  refine a_iconst (5 : Int32) dX11_passengerAt_0 (by decide) ?_
  refine a_iconst (4 : Int32) dX11_passengerAt_1 (by decide) ?_
  refine a_iload_n dX11_passengerAt_2 rfl ?_
  refine a_imul dX11_passengerAt_3 ?_
  refine a_iadd dX11_passengerAt_4 ?_
  refine a_iload_n dX11_passengerAt_5 rfl ?_
  refine a_iadd dX11_passengerAt_6 ?_
  rw [ixp]
  exact a_out rfl rfl (a_ireturn dX11_passengerAt_7 rfl rfl)
abbrev R_X11_in : Room := { frames := 0, cells := 0, slots := 0, locals := 0 }
abbrev RX_X11_in : Room := { frames := 0, cells := 1, slots := 6, locals := 0 }

theorem m_in (v a b : Int32) : Ct Y_X11_in R_X11_in [.int v, .int a, .int b] μ (.inl (some (.int (inI v a b)))) μ := by
  refine Ct.ent yk_X11_in (Nat.le_of_ble_eq_true rfl) ?_
  refine a_iload_n dX11_in_0 rfl ?_
  refine a_iload_n dX11_in_1 rfl ?_
  refine a_icmp_lt (tgt := 14) dX11_in_2 (by decide) (fun h2 => ?_) (fun h2 => ?_)
  · refine a_iconst (0 : Int32) dX11_in_14 (by decide) ?_
    exact a_out (by unfold inI; first | (rw [if_pos h2]; done) | (rw [if_neg h2, if_pos h7]; done) | (rw [if_neg h2, if_neg h7]; done)) rfl (a_ireturn dX11_in_15 rfl rfl)
  · refine a_iload_n dX11_in_5 rfl ?_
    refine a_iload_n dX11_in_6 rfl ?_
    refine a_icmp_gt (tgt := 14) dX11_in_7 (by decide) (fun h7 => ?_) (fun h7 => ?_)
    · refine a_iconst (0 : Int32) dX11_in_14 (by decide) ?_
      exact a_out (by unfold inI; first | (rw [if_pos h2]; done) | (rw [if_neg h2, if_pos h7]; done) | (rw [if_neg h2, if_neg h7]; done)) rfl (a_ireturn dX11_in_15 rfl rfl)
    · refine a_iconst (1 : Int32) dX11_in_10 (by decide) ?_
      refine a_goto (tgt := 15) dX11_in_11 (by decide) ?_
      exact a_out (by unfold inI; first | (rw [if_pos h2]; done) | (rw [if_neg h2, if_pos h7]; done) | (rw [if_neg h2, if_neg h7]; done)) rfl (a_ireturn dX11_in_15 rfl rfl)
abbrev R_X11_told : Room := { frames := 0, cells := 0, slots := 0, locals := 0 }
abbrev RX_X11_told : Room := { frames := 0, cells := 1, slots := 6, locals := 0 }

theorem m_told (hw : Wf μ) (v : Int32) : Ct Y_X11_told R_X11_told [.ref 338, .int v] μ (.inl (some (.int v))) (sI μ 338 0 0) := by
  refine Ct.ent yk_X11_told (Nat.le_of_ble_eq_true rfl) ?_
  refine a_aload_n dX11_told_0 rfl ?_
  refine a_iconst (0 : Int32) dX11_told_1 (by decide) ?_
  refine a_putI dX11_told_2 fs_X11_88 rfl rfl rfl (co_338 hw) ?_
  refine a_iload_n dX11_told_5 rfl ?_
  exact a_out rfl rfl (a_ireturn dX11_told_6 rfl rfl)
abbrev R_X11_refuse : Room := { frames := 0, cells := 0, slots := 0, locals := 0 }
abbrev RX_X11_refuse : Room := { frames := 0, cells := 1, slots := 6, locals := 0 }

theorem m_refuse (hw : Wf μ) (v : Int32) : Ct Y_X11_refuse R_X11_refuse [.ref 338, .int v] μ (.inl (some (.int 0))) (sI μ 338 0 v) := by
  refine Ct.ent yk_X11_refuse (Nat.le_of_ble_eq_true rfl) ?_
  refine a_aload_n dX11_refuse_0 rfl ?_
  refine a_iload_n dX11_refuse_1 rfl ?_
  refine a_putI dX11_refuse_2 fs_X11_88 rfl rfl rfl (co_338 hw) ?_
  refine a_iconst (0 : Int32) dX11_refuse_5 (by decide) ?_
  exact a_out rfl rfl (a_ireturn dX11_refuse_6 rfl rfl)
abbrev R_X11_thrown : Room := { frames := 0, cells := 0, slots := 0, locals := 0 }
abbrev RX_X11_thrown : Room := { frames := 0, cells := 1, slots := 6, locals := 0 }

theorem m_thrown (hw : Wf μ) : Ct Y_X11_thrown R_X11_thrown [.ref 338] μ (.inl (some (.int (gI μ 338 0)))) μ := by
  refine Ct.ent yk_X11_thrown (Nat.le_of_ble_eq_true rfl) ?_
  refine a_aload_n dX11_thrown_0 rfl ?_
  refine a_getI dX11_thrown_1 fs_X11_88 rfl (co_338 hw) ?_
  exact a_out rfl rfl (a_ireturn dX11_thrown_4 rfl rfl)
abbrev R_X11_isRefused : Room := { frames := 0, cells := 0, slots := 0, locals := 0 }
abbrev RX_X11_isRefused : Room := { frames := 0, cells := 1, slots := 6, locals := 0 }

theorem m_isRefused (hw : Wf μ) (v : Int32) : Ct Y_X11_isRefused R_X11_isRefused [.ref 338, .int v] μ (.inl (some (.int (if v ≤ 0 then 0 else 1)))) (sI μ 338 0 v) := by
  refine Ct.ent yk_X11_isRefused (Nat.le_of_ble_eq_true rfl) ?_
  refine a_aload_n dX11_isRefused_0 rfl ?_
  refine a_iload_n dX11_isRefused_1 rfl ?_
  refine a_putI dX11_isRefused_2 fs_X11_88 rfl rfl rfl (co_338 hw) ?_
  refine a_iload_n dX11_isRefused_5 rfl ?_
  refine a_if_le (tgt := 13) dX11_isRefused_6 (by decide) (fun h6 => ?_) (fun h6 => ?_)
  · refine a_iconst (0 : Int32) dX11_isRefused_13 (by decide) ?_
    exact a_out (by simp_all) rfl (a_ireturn dX11_isRefused_14 rfl rfl)
  · refine a_iconst (1 : Int32) dX11_isRefused_9 (by decide) ?_
    refine a_goto (tgt := 14) dX11_isRefused_10 (by decide) ?_
    exact a_out (by simp_all) rfl (a_ireturn dX11_isRefused_14 rfl rfl)
theorem m_isRefused0 (hw : Wf μ) : Ct Y_X11_isRefused R_X11_isRefused [.ref 338, .int 0] μ (.inl (some (.int 0))) (sI μ 338 0 0) := m_isRefused hw 0
theorem m_isRefused1 (hw : Wf μ) {v : Int32} (h : ¬ v ≤ 0) : Ct Y_X11_isRefused R_X11_isRefused [.ref 338, .int v] μ (.inl (some (.int 1))) (sI μ 338 0 v) := Ct.int (if_neg h) (m_isRefused hw v)
abbrev R_X11_meals : Room := { frames := 0, cells := 0, slots := 0, locals := 0 }
abbrev RX_X11_meals : Room := { frames := 0, cells := 1, slots := 6, locals := 0 }

theorem m_meals (hw : Wf μ) (hv : MdV μ q d)  : Ct Y_X11_meals R_X11_meals [.ref 338] μ (.inl (some (.int (nI (pM q))))) μ := by
  refine Ct.ent yk_X11_meals (Nat.le_of_ble_eq_true rfl) ?_
  refine a_aload_n dX11_meals_0 rfl ?_
  refine a_getR (cr_338_6 hw) dX11_meals_1 fs_X11_26 rfl (co_338 hw) ?_
  refine a_iconst (0 : Int32) dX11_meals_4 (by decide) ?_
  refine a_ild dX11_meals_5 (ca_344 hw) (ixn (m := 0) (by omega) (by decide)) ?_
  rw [hv.s0]
  refine a_if_ne (tgt := 13) dX11_meals_6 (by decide) (fun h6 => ?_) (fun h6 => ?_)
  · refine a_aload_n dX11_meals_13 rfl ?_
    refine a_getR (cr_338_1 hw) dX11_meals_14 fs_X11_7 rfl (co_338 hw) ?_
    refine a_iconst (1 : Int32) dX11_meals_17 (by decide) ?_
    refine a_ild dX11_meals_18 (ca_339 hw) (ixn (m := 1) (by omega) (by decide)) ?_
    rw [hv.p1]
    exact a_out (by first | rfl | (rw [(hv.z h6).2.1]; rfl)) rfl (a_ireturn dX11_meals_19 rfl rfl)
  · refine a_iconst (0 : Int32) dX11_meals_9 (by decide) ?_
    refine a_goto (tgt := 19) dX11_meals_10 (by decide) ?_
    exact a_out (by first | rfl | (rw [(hv.z h6).2.1]; rfl)) rfl (a_ireturn dX11_meals_19 rfl rfl)
abbrev R_X11_cabins : Room := { frames := 0, cells := 0, slots := 0, locals := 0 }
abbrev RX_X11_cabins : Room := { frames := 0, cells := 1, slots := 6, locals := 0 }

theorem m_cabins (hw : Wf μ) (hv : MdV μ q d)  : Ct Y_X11_cabins R_X11_cabins [.ref 338] μ (.inl (some (.int (nI (pC q))))) μ := by
  refine Ct.ent yk_X11_cabins (Nat.le_of_ble_eq_true rfl) ?_
  refine a_aload_n dX11_cabins_0 rfl ?_
  refine a_getR (cr_338_6 hw) dX11_cabins_1 fs_X11_26 rfl (co_338 hw) ?_
  refine a_iconst (0 : Int32) dX11_cabins_4 (by decide) ?_
  refine a_ild dX11_cabins_5 (ca_344 hw) (ixn (m := 0) (by omega) (by decide)) ?_
  rw [hv.s0]
  refine a_if_ne (tgt := 13) dX11_cabins_6 (by decide) (fun h6 => ?_) (fun h6 => ?_)
  · refine a_aload_n dX11_cabins_13 rfl ?_
    refine a_getR (cr_338_1 hw) dX11_cabins_14 fs_X11_7 rfl (co_338 hw) ?_
    refine a_iconst (0 : Int32) dX11_cabins_17 (by decide) ?_
    refine a_ild dX11_cabins_18 (ca_339 hw) (ixn (m := 0) (by omega) (by decide)) ?_
    rw [hv.p0]
    exact a_out (by first | rfl | (rw [(hv.z h6).1]; rfl)) rfl (a_ireturn dX11_cabins_19 rfl rfl)
  · refine a_iconst (0 : Int32) dX11_cabins_9 (by decide) ?_
    refine a_goto (tgt := 19) dX11_cabins_10 (by decide) ?_
    exact a_out (by first | rfl | (rw [(hv.z h6).1]; rfl)) rfl (a_ireturn dX11_cabins_19 rfl rfl)
abbrev R_X11_trolleys : Room := { frames := 0, cells := 0, slots := 0, locals := 0 }
abbrev RX_X11_trolleys : Room := { frames := 0, cells := 1, slots := 6, locals := 0 }

theorem m_trolleys (hw : Wf μ) (hv : MdV μ q d)  : Ct Y_X11_trolleys R_X11_trolleys [.ref 338] μ (.inl (some (.int (nI (pT q))))) μ := by
  refine Ct.ent yk_X11_trolleys (Nat.le_of_ble_eq_true rfl) ?_
  refine a_aload_n dX11_trolleys_0 rfl ?_
  refine a_getR (cr_338_6 hw) dX11_trolleys_1 fs_X11_26 rfl (co_338 hw) ?_
  refine a_iconst (0 : Int32) dX11_trolleys_4 (by decide) ?_
  refine a_ild dX11_trolleys_5 (ca_344 hw) (ixn (m := 0) (by omega) (by decide)) ?_
  rw [hv.s0]
  refine a_if_ne (tgt := 13) dX11_trolleys_6 (by decide) (fun h6 => ?_) (fun h6 => ?_)
  · refine a_aload_n dX11_trolleys_13 rfl ?_
    refine a_getR (cr_338_1 hw) dX11_trolleys_14 fs_X11_7 rfl (co_338 hw) ?_
    refine a_iconst (2 : Int32) dX11_trolleys_17 (by decide) ?_
    refine a_ild dX11_trolleys_18 (ca_339 hw) (ixn (m := 2) (by omega) (by decide)) ?_
    rw [hv.p2]
    exact a_out (by first | rfl | (rw [(hv.z h6).2.2]; rfl)) rfl (a_ireturn dX11_trolleys_19 rfl rfl)
  · refine a_iconst (0 : Int32) dX11_trolleys_9 (by decide) ?_
    refine a_goto (tgt := 19) dX11_trolleys_10 (by decide) ?_
    exact a_out (by first | rfl | (rw [(hv.z h6).2.2]; rfl)) rfl (a_ireturn dX11_trolleys_19 rfl rfl)
abbrev R_X11_phase : Room := { frames := 0, cells := 0, slots := 0, locals := 0 }
abbrev RX_X11_phase : Room := { frames := 0, cells := 1, slots := 6, locals := 0 }

theorem m_phase (hw : Wf μ) (hv : MdV μ q d)  : Ct Y_X11_phase R_X11_phase [.ref 338] μ (.inl (some (.int (phD q d)))) μ := by
  refine Ct.ent yk_X11_phase (Nat.le_of_ble_eq_true rfl) ?_
  refine a_aload_n dX11_phase_0 rfl ?_
  refine a_getR (cr_338_6 hw) dX11_phase_1 fs_X11_26 rfl (co_338 hw) ?_
  refine a_iconst (0 : Int32) dX11_phase_4 (by decide) ?_
  refine a_ild dX11_phase_5 (ca_344 hw) (ixn (m := 0) (by omega) (by decide)) ?_
  rw [hv.s0]
  refine a_if_ne (tgt := 11) dX11_phase_6 (by decide) (fun h6 => ?_) (fun h6 => ?_)
  · refine a_aload_n dX11_phase_11 rfl ?_
    refine a_getR (cr_338_6 hw) dX11_phase_12 fs_X11_26 rfl (co_338 hw) ?_
    refine a_iconst (1 : Int32) dX11_phase_15 (by decide) ?_
    refine a_ild dX11_phase_16 (ca_344 hw) (ixn (m := 1) (by omega) (by decide)) ?_
    rw [hv.s1]
    refine a_iconst (1 : Int32) dX11_phase_17 (by decide) ?_
    refine a_icmp_ne (tgt := 25) dX11_phase_18 (by decide) (fun h18 => ?_) (fun h18 => ?_)
    · refine a_aload_n dX11_phase_25 rfl ?_
      refine a_getR (cr_338_6 hw) dX11_phase_26 fs_X11_26 rfl (co_338 hw) ?_
      refine a_iconst (2 : Int32) dX11_phase_29 (by decide) ?_
      refine a_ild dX11_phase_30 (ca_344 hw) (ixn (m := 2) (by omega) (by decide)) ?_
      rw [hv.s2]
      refine a_aload_n dX11_phase_31 rfl ?_
      refine a_getR (cr_338_1 hw) dX11_phase_32 fs_X11_7 rfl (co_338 hw) ?_
      refine a_iconst (3 : Int32) dX11_phase_35 (by decide) ?_
      refine a_ild dX11_phase_36 (ca_339 hw) (ixn (m := 3) (by omega) (by decide)) ?_
      rw [hv.p3]
      refine a_icmp_le (tgt := 44) dX11_phase_37 (by decide) (fun h37 => ?_) (fun h37 => ?_)
      · refine a_iconst (2 : Int32) dX11_phase_44 (by decide) ?_
        exact a_out (by
    have h01 := hv.s01
    rcases h01 with e | e <;> simp_all [phD]) rfl (a_ireturn dX11_phase_45 rfl rfl)
      · refine a_iconst (1 : Int32) dX11_phase_40 (by decide) ?_
        refine a_goto (tgt := 45) dX11_phase_41 (by decide) ?_
        exact a_out (by
    have h01 := hv.s01
    rcases h01 with e | e <;> simp_all [phD]) rfl (a_ireturn dX11_phase_45 rfl rfl)
    · refine a_iconst (3 : Int32) dX11_phase_21 (by decide) ?_
      refine a_goto (tgt := 45) dX11_phase_22 (by decide) ?_
      exact a_out (by
    have h01 := hv.s01
    rcases h01 with e | e <;> simp_all [phD]) rfl (a_ireturn dX11_phase_45 rfl rfl)
  · refine a_iconst (0 : Int32) dX11_phase_9 (by decide) ?_
    exact a_out (by simp_all [phD]) rfl (a_ireturn dX11_phase_10 rfl rfl)
abbrev R_X11_of : Room := { frames := 1, cells := 0, slots := 0, locals := 21 }
abbrev RX_X11_of : Room := { frames := 1, cells := 1, slots := 6, locals := 21 }

theorem m_of0 (hw : Wf μ) (hv : MdV μ q d) {i : Nat} (hi : i < dP d) : Ct Y_X11_of R_X11_of [.ref 338, .int (nI i), .int 0] μ (.inl (some (.int (dF d 0 i)))) μ := by
  have hP4 := hv.P4
  refine Ct.ent yk_X11_of (Nat.le_of_ble_eq_true rfl) ?_
  refine a_aload_n dX11_of_0 rfl ?_
  refine a_getR (cr_338_6 hw) dX11_of_1 fs_X11_26 rfl (co_338 hw) ?_
  refine a_iload_n dX11_of_4 rfl ?_
  refine a_iload_n dX11_of_5 rfl ?_
  refine a_invS (b2 := (0, 0)) (m_passengerAt i 0) rfl dX11_of_6 yk_X11_passengerAt sm_X11_passengerAt ml_X11_91 rfl (by decide) (by decide) (Nat.le_of_ble_eq_true rfl) ?_
  refine a_ild dX11_of_9 (ca_344 hw) (ixn (by omega) (by decide)) ?_
  rw [(hv.2.2.2.2.2.2.2.1 i hi).1]
  exact a_out rfl rfl (a_ireturn dX11_of_10 rfl rfl)

theorem m_of1 (hw : Wf μ) (hv : MdV μ q d) {i : Nat} (hi : i < dP d) : Ct Y_X11_of R_X11_of [.ref 338, .int (nI i), .int 1] μ (.inl (some (.int (dF d 1 i)))) μ := by
  have hP4 := hv.P4
  refine Ct.ent yk_X11_of (Nat.le_of_ble_eq_true rfl) ?_
  refine a_aload_n dX11_of_0 rfl ?_
  refine a_getR (cr_338_6 hw) dX11_of_1 fs_X11_26 rfl (co_338 hw) ?_
  refine a_iload_n dX11_of_4 rfl ?_
  refine a_iload_n dX11_of_5 rfl ?_
  refine a_invS (b2 := (0, 0)) (m_passengerAt i 1) rfl dX11_of_6 yk_X11_passengerAt sm_X11_passengerAt ml_X11_91 rfl (by decide) (by decide) (Nat.le_of_ble_eq_true rfl) ?_
  refine a_ild dX11_of_9 (ca_344 hw) (ixn (by omega) (by decide)) ?_
  rw [(hv.2.2.2.2.2.2.2.1 i hi).2.1]
  exact a_out rfl rfl (a_ireturn dX11_of_10 rfl rfl)

theorem m_of2 (hw : Wf μ) (hv : MdV μ q d) {i : Nat} (hi : i < dP d) : Ct Y_X11_of R_X11_of [.ref 338, .int (nI i), .int 2] μ (.inl (some (.int (dF d 2 i)))) μ := by
  have hP4 := hv.P4
  refine Ct.ent yk_X11_of (Nat.le_of_ble_eq_true rfl) ?_
  refine a_aload_n dX11_of_0 rfl ?_
  refine a_getR (cr_338_6 hw) dX11_of_1 fs_X11_26 rfl (co_338 hw) ?_
  refine a_iload_n dX11_of_4 rfl ?_
  refine a_iload_n dX11_of_5 rfl ?_
  refine a_invS (b2 := (0, 0)) (m_passengerAt i 2) rfl dX11_of_6 yk_X11_passengerAt sm_X11_passengerAt ml_X11_91 rfl (by decide) (by decide) (Nat.le_of_ble_eq_true rfl) ?_
  refine a_ild dX11_of_9 (ca_344 hw) (ixn (by omega) (by decide)) ?_
  rw [(hv.2.2.2.2.2.2.2.1 i hi).2.2]
  exact a_out rfl rfl (a_ireturn dX11_of_10 rfl rfl)

theorem m_of3 (hw : Wf μ) (hv : MdV μ q d) {i : Nat} (hi : i < 40) : Ct Y_X11_of R_X11_of [.ref 338, .int (nI i), .int 3] μ (.inl (some (.int (gI μ 344 (5 + 4 * i + 3))))) μ := by
  have hP4 := hv.P4
  refine Ct.ent yk_X11_of (Nat.le_of_ble_eq_true rfl) ?_
  refine a_aload_n dX11_of_0 rfl ?_
  refine a_getR (cr_338_6 hw) dX11_of_1 fs_X11_26 rfl (co_338 hw) ?_
  refine a_iload_n dX11_of_4 rfl ?_
  refine a_iload_n dX11_of_5 rfl ?_
  refine a_invS (b2 := (0, 0)) (m_passengerAt i 3) rfl dX11_of_6 yk_X11_passengerAt sm_X11_passengerAt ml_X11_91 rfl (by decide) (by decide) (Nat.le_of_ble_eq_true rfl) ?_
  refine a_ild dX11_of_9 (ca_344 hw) (ixn (by omega) (by decide)) ?_
  exact a_out rfl rfl (a_ireturn dX11_of_10 rfl rfl)
abbrev R_X11_ofCabin : Room := { frames := 0, cells := 0, slots := 0, locals := 0 }
abbrev RX_X11_ofCabin : Room := { frames := 0, cells := 1, slots := 6, locals := 0 }

theorem m_ofCabin0 (hw : Wf μ) (hv : MdV μ q d) {i : Nat} (hi : i < pC q) : Ct Y_X11_ofCabin R_X11_ofCabin [.ref 338, .int (nI i), .int 0] μ (.inl (some (.int (pF q 0 i)))) μ := by
  have hC4 := hv.C4
  refine Ct.ent yk_X11_ofCabin (Nat.le_of_ble_eq_true rfl) ?_
  refine a_aload_n dX11_ofCabin_0 rfl ?_
  refine a_getR (cr_338_1 hw) dX11_ofCabin_1 fs_X11_7 rfl (co_338 hw) ?_
  refine a_iconst (5 : Int32) dX11_ofCabin_4 (by decide) ?_
  refine a_iconst (2 : Int32) dX11_ofCabin_5 (by decide) ?_
  refine a_iload_n dX11_ofCabin_6 rfl ?_
  refine a_imul dX11_ofCabin_7 ?_
  refine a_iadd dX11_ofCabin_8 ?_
  refine a_iload_n dX11_ofCabin_9 rfl ?_
  refine a_iadd dX11_ofCabin_10 ?_
  rw [show (5 : Int32) + 2 * nI i + 0 = nI (5 + 2 * i + 0) from ixc i 0]
  refine a_ild dX11_ofCabin_11 (ca_339 hw) (ixn (by omega) (by decide)) ?_
  rw [(hv.2.2.1.2.1 i hi).1]
  exact a_out rfl rfl (a_ireturn dX11_ofCabin_12 rfl rfl)

theorem m_ofCabin1 (hw : Wf μ) (hv : MdV μ q d) {i : Nat} (hi : i < pC q) : Ct Y_X11_ofCabin R_X11_ofCabin [.ref 338, .int (nI i), .int 1] μ (.inl (some (.int (pF q 1 i)))) μ := by
  have hC4 := hv.C4
  refine Ct.ent yk_X11_ofCabin (Nat.le_of_ble_eq_true rfl) ?_
  refine a_aload_n dX11_ofCabin_0 rfl ?_
  refine a_getR (cr_338_1 hw) dX11_ofCabin_1 fs_X11_7 rfl (co_338 hw) ?_
  refine a_iconst (5 : Int32) dX11_ofCabin_4 (by decide) ?_
  refine a_iconst (2 : Int32) dX11_ofCabin_5 (by decide) ?_
  refine a_iload_n dX11_ofCabin_6 rfl ?_
  refine a_imul dX11_ofCabin_7 ?_
  refine a_iadd dX11_ofCabin_8 ?_
  refine a_iload_n dX11_ofCabin_9 rfl ?_
  refine a_iadd dX11_ofCabin_10 ?_
  rw [show (5 : Int32) + 2 * nI i + 1 = nI (5 + 2 * i + 1) from ixc i 1]
  refine a_ild dX11_ofCabin_11 (ca_339 hw) (ixn (by omega) (by decide)) ?_
  rw [(hv.2.2.1.2.1 i hi).2]
  exact a_out rfl rfl (a_ireturn dX11_ofCabin_12 rfl rfl)
abbrev R_X11_ofMeal : Room := { frames := 0, cells := 0, slots := 0, locals := 0 }
abbrev RX_X11_ofMeal : Room := { frames := 0, cells := 1, slots := 6, locals := 0 }

theorem m_ofMeal0 (hw : Wf μ) (hv : MdV μ q d) {i : Nat} (hi : i < pM q) : Ct Y_X11_ofMeal R_X11_ofMeal [.ref 338, .int (nI i), .int 0] μ (.inl (some (.int (pF q 2 i)))) μ := by
  have hM4 := hv.M4
  refine Ct.ent yk_X11_ofMeal (Nat.le_of_ble_eq_true rfl) ?_
  refine a_aload_n dX11_ofMeal_0 rfl ?_
  refine a_getR (cr_338_1 hw) dX11_ofMeal_1 fs_X11_7 rfl (co_338 hw) ?_
  refine a_bipush (13 : Int32) dX11_ofMeal_4 (by decide) ?_
  refine a_iconst (5 : Int32) dX11_ofMeal_6 (by decide) ?_
  refine a_iload_n dX11_ofMeal_7 rfl ?_
  refine a_imul dX11_ofMeal_8 ?_
  refine a_iadd dX11_ofMeal_9 ?_
  refine a_iload_n dX11_ofMeal_10 rfl ?_
  refine a_iadd dX11_ofMeal_11 ?_
  rw [show (13 : Int32) + 5 * nI i + 0 = nI (13 + 5 * i + 0) from ixm i 0]
  refine a_ild dX11_ofMeal_12 (ca_339 hw) (ixn (by omega) (by decide)) ?_
  rw [(hv.2.2.1.2.2.1 i hi).1]
  exact a_out rfl rfl (a_ireturn dX11_ofMeal_13 rfl rfl)

theorem m_ofMeal1 (hw : Wf μ) (hv : MdV μ q d) {i : Nat} (hi : i < pM q) : Ct Y_X11_ofMeal R_X11_ofMeal [.ref 338, .int (nI i), .int 1] μ (.inl (some (.int (pF q 3 i)))) μ := by
  have hM4 := hv.M4
  refine Ct.ent yk_X11_ofMeal (Nat.le_of_ble_eq_true rfl) ?_
  refine a_aload_n dX11_ofMeal_0 rfl ?_
  refine a_getR (cr_338_1 hw) dX11_ofMeal_1 fs_X11_7 rfl (co_338 hw) ?_
  refine a_bipush (13 : Int32) dX11_ofMeal_4 (by decide) ?_
  refine a_iconst (5 : Int32) dX11_ofMeal_6 (by decide) ?_
  refine a_iload_n dX11_ofMeal_7 rfl ?_
  refine a_imul dX11_ofMeal_8 ?_
  refine a_iadd dX11_ofMeal_9 ?_
  refine a_iload_n dX11_ofMeal_10 rfl ?_
  refine a_iadd dX11_ofMeal_11 ?_
  rw [show (13 : Int32) + 5 * nI i + 1 = nI (13 + 5 * i + 1) from ixm i 1]
  refine a_ild dX11_ofMeal_12 (ca_339 hw) (ixn (by omega) (by decide)) ?_
  rw [(hv.2.2.1.2.2.1 i hi).2.1]
  exact a_out rfl rfl (a_ireturn dX11_ofMeal_13 rfl rfl)

theorem m_ofMeal2 (hw : Wf μ) (hv : MdV μ q d) {i : Nat} (hi : i < pM q) : Ct Y_X11_ofMeal R_X11_ofMeal [.ref 338, .int (nI i), .int 2] μ (.inl (some (.int (pF q 4 i)))) μ := by
  have hM4 := hv.M4
  refine Ct.ent yk_X11_ofMeal (Nat.le_of_ble_eq_true rfl) ?_
  refine a_aload_n dX11_ofMeal_0 rfl ?_
  refine a_getR (cr_338_1 hw) dX11_ofMeal_1 fs_X11_7 rfl (co_338 hw) ?_
  refine a_bipush (13 : Int32) dX11_ofMeal_4 (by decide) ?_
  refine a_iconst (5 : Int32) dX11_ofMeal_6 (by decide) ?_
  refine a_iload_n dX11_ofMeal_7 rfl ?_
  refine a_imul dX11_ofMeal_8 ?_
  refine a_iadd dX11_ofMeal_9 ?_
  refine a_iload_n dX11_ofMeal_10 rfl ?_
  refine a_iadd dX11_ofMeal_11 ?_
  rw [show (13 : Int32) + 5 * nI i + 2 = nI (13 + 5 * i + 2) from ixm i 2]
  refine a_ild dX11_ofMeal_12 (ca_339 hw) (ixn (by omega) (by decide)) ?_
  rw [(hv.2.2.1.2.2.1 i hi).2.2.1]
  exact a_out rfl rfl (a_ireturn dX11_ofMeal_13 rfl rfl)

theorem m_ofMeal3 (hw : Wf μ) (hv : MdV μ q d) {i : Nat} (hi : i < pM q) : Ct Y_X11_ofMeal R_X11_ofMeal [.ref 338, .int (nI i), .int 3] μ (.inl (some (.int (pF q 5 i)))) μ := by
  have hM4 := hv.M4
  refine Ct.ent yk_X11_ofMeal (Nat.le_of_ble_eq_true rfl) ?_
  refine a_aload_n dX11_ofMeal_0 rfl ?_
  refine a_getR (cr_338_1 hw) dX11_ofMeal_1 fs_X11_7 rfl (co_338 hw) ?_
  refine a_bipush (13 : Int32) dX11_ofMeal_4 (by decide) ?_
  refine a_iconst (5 : Int32) dX11_ofMeal_6 (by decide) ?_
  refine a_iload_n dX11_ofMeal_7 rfl ?_
  refine a_imul dX11_ofMeal_8 ?_
  refine a_iadd dX11_ofMeal_9 ?_
  refine a_iload_n dX11_ofMeal_10 rfl ?_
  refine a_iadd dX11_ofMeal_11 ?_
  rw [show (13 : Int32) + 5 * nI i + 3 = nI (13 + 5 * i + 3) from ixm i 3]
  refine a_ild dX11_ofMeal_12 (ca_339 hw) (ixn (by omega) (by decide)) ?_
  rw [(hv.2.2.1.2.2.1 i hi).2.2.2.1]
  exact a_out rfl rfl (a_ireturn dX11_ofMeal_13 rfl rfl)

theorem m_ofMeal4 (hw : Wf μ) (hv : MdV μ q d) {i : Nat} (hi : i < pM q) : Ct Y_X11_ofMeal R_X11_ofMeal [.ref 338, .int (nI i), .int 4] μ (.inl (some (.int (pF q 6 i)))) μ := by
  have hM4 := hv.M4
  refine Ct.ent yk_X11_ofMeal (Nat.le_of_ble_eq_true rfl) ?_
  refine a_aload_n dX11_ofMeal_0 rfl ?_
  refine a_getR (cr_338_1 hw) dX11_ofMeal_1 fs_X11_7 rfl (co_338 hw) ?_
  refine a_bipush (13 : Int32) dX11_ofMeal_4 (by decide) ?_
  refine a_iconst (5 : Int32) dX11_ofMeal_6 (by decide) ?_
  refine a_iload_n dX11_ofMeal_7 rfl ?_
  refine a_imul dX11_ofMeal_8 ?_
  refine a_iadd dX11_ofMeal_9 ?_
  refine a_iload_n dX11_ofMeal_10 rfl ?_
  refine a_iadd dX11_ofMeal_11 ?_
  rw [show (13 : Int32) + 5 * nI i + 4 = nI (13 + 5 * i + 4) from ixm i 4]
  refine a_ild dX11_ofMeal_12 (ca_339 hw) (ixn (by omega) (by decide)) ?_
  rw [(hv.2.2.1.2.2.1 i hi).2.2.2.2]
  exact a_out rfl rfl (a_ireturn dX11_ofMeal_13 rfl rfl)
abbrev R_X11_ofTrolley : Room := { frames := 0, cells := 0, slots := 0, locals := 0 }
abbrev RX_X11_ofTrolley : Room := { frames := 0, cells := 1, slots := 6, locals := 0 }

theorem m_ofTrolley0 (hw : Wf μ) (hv : MdV μ q d) {i : Nat} (hi : i < pT q) : Ct Y_X11_ofTrolley R_X11_ofTrolley [.ref 338, .int (nI i), .int 0] μ (.inl (some (.int (pF q 7 i)))) μ := by
  have hT4 := hv.T4
  refine Ct.ent yk_X11_ofTrolley (Nat.le_of_ble_eq_true rfl) ?_
  refine a_aload_n dX11_ofTrolley_0 rfl ?_
  refine a_getR (cr_338_1 hw) dX11_ofTrolley_1 fs_X11_7 rfl (co_338 hw) ?_
  refine a_bipush (73 : Int32) dX11_ofTrolley_4 (by decide) ?_
  refine a_iconst (2 : Int32) dX11_ofTrolley_6 (by decide) ?_
  refine a_iload_n dX11_ofTrolley_7 rfl ?_
  refine a_imul dX11_ofTrolley_8 ?_
  refine a_iadd dX11_ofTrolley_9 ?_
  refine a_iload_n dX11_ofTrolley_10 rfl ?_
  refine a_iadd dX11_ofTrolley_11 ?_
  rw [show (73 : Int32) + 2 * nI i + 0 = nI (73 + 2 * i + 0) from ixt i 0]
  refine a_ild dX11_ofTrolley_12 (ca_339 hw) (ixn (by omega) (by decide)) ?_
  rw [(hv.2.2.1.2.2.2 i hi).1]
  exact a_out rfl rfl (a_ireturn dX11_ofTrolley_13 rfl rfl)

theorem m_ofTrolley1 (hw : Wf μ) (hv : MdV μ q d) {i : Nat} (hi : i < pT q) : Ct Y_X11_ofTrolley R_X11_ofTrolley [.ref 338, .int (nI i), .int 1] μ (.inl (some (.int (pF q 8 i)))) μ := by
  have hT4 := hv.T4
  refine Ct.ent yk_X11_ofTrolley (Nat.le_of_ble_eq_true rfl) ?_
  refine a_aload_n dX11_ofTrolley_0 rfl ?_
  refine a_getR (cr_338_1 hw) dX11_ofTrolley_1 fs_X11_7 rfl (co_338 hw) ?_
  refine a_bipush (73 : Int32) dX11_ofTrolley_4 (by decide) ?_
  refine a_iconst (2 : Int32) dX11_ofTrolley_6 (by decide) ?_
  refine a_iload_n dX11_ofTrolley_7 rfl ?_
  refine a_imul dX11_ofTrolley_8 ?_
  refine a_iadd dX11_ofTrolley_9 ?_
  refine a_iload_n dX11_ofTrolley_10 rfl ?_
  refine a_iadd dX11_ofTrolley_11 ?_
  rw [show (73 : Int32) + 2 * nI i + 1 = nI (73 + 2 * i + 1) from ixt i 1]
  refine a_ild dX11_ofTrolley_12 (ca_339 hw) (ixn (by omega) (by decide)) ?_
  rw [(hv.2.2.1.2.2.2 i hi).2]
  exact a_out rfl rfl (a_ireturn dX11_ofTrolley_13 rfl rfl)
abbrev R_X11_isSpecial : Room := { frames := 2, cells := 0, slots := 0, locals := 43 }
abbrev RX_X11_isSpecial : Room := { frames := 2, cells := 1, slots := 6, locals := 43 }

theorem m_isSpecial (hw : Wf μ) (hv : MdV μ q d) {i : Nat} (hi : i < dP d) : Ct Y_X11_isSpecial R_X11_isSpecial [.ref 338, .int (nI i)] μ (.inl (some (.int (if dF d 1 i = 0 then 0 else 1)))) μ := by
  refine Ct.ent yk_X11_isSpecial (Nat.le_of_ble_eq_true rfl) ?_
  refine a_aload_n dX11_isSpecial_0 rfl ?_
  refine a_iload_n dX11_isSpecial_1 rfl ?_
  refine a_iconst (1 : Int32) dX11_isSpecial_2 (by decide) ?_
  refine a_inv (b2 := (0, 0)) (m_of1 hw hv hi) rfl dX11_isSpecial_3 yk_X11_of im_X11_of se_X11_of ml_X11_294 rfl (co_338 hw) (by decide) hc_X11 (by decide) (by decide) (Nat.le_of_ble_eq_true rfl) ?_
  refine a_if_eq (tgt := 13) dX11_isSpecial_6 (by decide) (fun h6 => ?_) (fun h6 => ?_)
  · refine a_iconst (0 : Int32) dX11_isSpecial_13 (by decide) ?_
    exact a_out (by simp_all) rfl (a_ireturn dX11_isSpecial_14 rfl rfl)
  · refine a_iconst (1 : Int32) dX11_isSpecial_9 (by decide) ?_
    refine a_goto (tgt := 14) dX11_isSpecial_10 (by decide) ?_
    exact a_out (by simp_all) rfl (a_ireturn dX11_isSpecial_14 rfl rfl)
theorem fit_m {q : PDt} {c n : Int32} {i : Nat} (hc : pF q 2 i = -1 ∨ pF q 2 i = c) (h : pF q 6 i &&& n = n) : fitD q c n i = true := by
  unfold fitD
  rw [decide_eq_true_eq]
  refine ⟨?_, ?_⟩
  · unfold adI
    rcases hc with e | e
    · rw [if_pos e]; decide
    · by_cases h1 : pF q 2 i = -1
      · rw [if_pos h1]; decide
      · rw [if_neg h1, if_pos e]; decide
  · refine b_ext fun j hj => ?_
    have hb : bt (pF q 6 i &&& n) j = bt n j := by rw [h]
    rw [b_and] at hb
    rw [b_and, b_not _ hj, b_0]
    revert hb
    generalize bt n j = x
    generalize bt (pF q 6 i) j = y
    revert x y
    decide
theorem nfit_c {q : PDt} {c n : Int32} {i : Nat} (h1 : ¬ pF q 2 i = -1) (h2 : ¬ pF q 2 i = c) : fitD q c n i = false := by
  unfold fitD
  rw [decide_eq_false_iff_not]
  exact fun h => h.1 (by unfold adI; rw [if_neg h1, if_neg h2])
theorem nfit_o {q : PDt} {c n : Int32} {i : Nat} (h : ¬ pF q 6 i &&& n = n) : fitD q c n i = false := by
  unfold fitD
  rw [decide_eq_false_iff_not]
  refine fun h2 => h (b_ext fun j hj => ?_)
  have hb : bt (n &&& (pF q 6 i ^^^ -1)) j = bt 0 j := by rw [h2.2]
  rw [b_and, b_not _ hj, b_0] at hb
  rw [b_and]
  revert hb
  generalize bt n j = x
  generalize bt (pF q 6 i) j = y
  revert x y
  decide
abbrev R_X11_suits : Room := { frames := 2, cells := 0, slots := 0, locals := 43 }
abbrev RX_X11_suits : Room := { frames := 2, cells := 1, slots := 6, locals := 43 }

theorem m_suits (hw : Wf μ) (hv : MdV μ q d) {m i : Nat} (hm : m < pM q) (hi : i < dP d) : Ct Y_X11_suits R_X11_suits [.ref 338, .int (nI m), .int (nI i)] μ (.inl (some (.int (if fitD q (dF d 0 i) (dF d 1 i) m = true then 1 else 0)))) μ := by
  refine Ct.ent yk_X11_suits (Nat.le_of_ble_eq_true rfl) ?_
  refine a_aload_n dX11_suits_0 rfl ?_
  refine a_iload_n dX11_suits_1 rfl ?_
  refine a_iconst (0 : Int32) dX11_suits_2 (by decide) ?_
  refine a_inv (b2 := (0, 0)) (m_ofMeal0 hw hv hm) rfl dX11_suits_3 yk_X11_ofMeal im_X11_ofMeal se_X11_ofMeal ml_X11_297 rfl (co_338 hw) (by decide) hc_X11 (by decide) (by decide) (Nat.le_of_ble_eq_true rfl) ?_
  refine a_istore_n dX11_suits_6 (by decide) ?_
  refine a_aload_n dX11_suits_7 rfl ?_
  refine a_iload_n dX11_suits_8 rfl ?_
  refine a_iconst (1 : Int32) dX11_suits_9 (by decide) ?_
  refine a_inv (b2 := (0, 0)) (m_of1 hw hv hi) rfl dX11_suits_10 yk_X11_of im_X11_of se_X11_of ml_X11_294 rfl (co_338 hw) (by decide) hc_X11 (by decide) (by decide) (Nat.le_of_ble_eq_true rfl) ?_
  refine a_istore dX11_suits_13 (by decide) ?_
  refine a_iload_n dX11_suits_15 rfl ?_
  refine a_iconst (-1 : Int32) dX11_suits_16 (by decide) ?_
  refine a_icmp_eq (tgt := 30) dX11_suits_17 (by decide) (fun h17 => ?_) (fun h17 => ?_)
  · refine a_aload_n dX11_suits_30 rfl ?_
    refine a_iload_n dX11_suits_31 rfl ?_
    refine a_iconst (4 : Int32) dX11_suits_32 (by decide) ?_
    refine a_inv (b2 := (0, 0)) (m_ofMeal4 hw hv hm) rfl dX11_suits_33 yk_X11_ofMeal im_X11_ofMeal se_X11_ofMeal ml_X11_297 rfl (co_338 hw) (by decide) hc_X11 (by decide) (by decide) (Nat.le_of_ble_eq_true rfl) ?_
    refine a_iload dX11_suits_36 rfl ?_
    refine a_iand dX11_suits_38 ?_
    refine a_iload dX11_suits_39 rfl ?_
    refine a_icmp_ne (tgt := 48) dX11_suits_41 (by decide) (fun h41 => ?_) (fun h41 => ?_)
    · refine a_iconst (0 : Int32) dX11_suits_48 (by decide) ?_
      exact a_out (by first | (rw [if_pos (fit_m (by first | exact Or.inl (by assumption) | exact Or.inr (by assumption)) (by assumption))]) | (rw [if_neg (by rw [nfit_c (by assumption) (by assumption)]; decide)]) | (rw [if_neg (by rw [nfit_o (by assumption)]; decide)])) rfl (a_ireturn dX11_suits_49 rfl rfl)
    · refine a_iconst (1 : Int32) dX11_suits_44 (by decide) ?_
      refine a_goto (tgt := 49) dX11_suits_45 (by decide) ?_
      exact a_out (by first | (rw [if_pos (fit_m (by first | exact Or.inl (by assumption) | exact Or.inr (by assumption)) (by assumption))]) | (rw [if_neg (by rw [nfit_c (by assumption) (by assumption)]; decide)]) | (rw [if_neg (by rw [nfit_o (by assumption)]; decide)])) rfl (a_ireturn dX11_suits_49 rfl rfl)
  · refine a_iload_n dX11_suits_20 rfl ?_
    refine a_aload_n dX11_suits_21 rfl ?_
    refine a_iload_n dX11_suits_22 rfl ?_
    refine a_iconst (0 : Int32) dX11_suits_23 (by decide) ?_
    refine a_inv (b2 := (0, 0)) (m_of0 hw hv hi) rfl dX11_suits_24 yk_X11_of im_X11_of se_X11_of ml_X11_294 rfl (co_338 hw) (by decide) hc_X11 (by decide) (by decide) (Nat.le_of_ble_eq_true rfl) ?_
    refine a_icmp_ne (tgt := 48) dX11_suits_27 (by decide) (fun h27 => ?_) (fun h27 => ?_)
    · refine a_iconst (0 : Int32) dX11_suits_48 (by decide) ?_
      exact a_out (by first | (rw [if_pos (fit_m (by first | exact Or.inl (by assumption) | exact Or.inr (by assumption)) (by assumption))]) | (rw [if_neg (by rw [nfit_c (by assumption) (by assumption)]; decide)]) | (rw [if_neg (by rw [nfit_o (by assumption)]; decide)])) rfl (a_ireturn dX11_suits_49 rfl rfl)
    · refine a_aload_n dX11_suits_30 rfl ?_
      refine a_iload_n dX11_suits_31 rfl ?_
      refine a_iconst (4 : Int32) dX11_suits_32 (by decide) ?_
      refine a_inv (b2 := (0, 0)) (m_ofMeal4 hw hv hm) rfl dX11_suits_33 yk_X11_ofMeal im_X11_ofMeal se_X11_ofMeal ml_X11_297 rfl (co_338 hw) (by decide) hc_X11 (by decide) (by decide) (Nat.le_of_ble_eq_true rfl) ?_
      refine a_iload dX11_suits_36 rfl ?_
      refine a_iand dX11_suits_38 ?_
      refine a_iload dX11_suits_39 rfl ?_
      refine a_icmp_ne (tgt := 48) dX11_suits_41 (by decide) (fun h41 => ?_) (fun h41 => ?_)
      · refine a_iconst (0 : Int32) dX11_suits_48 (by decide) ?_
        exact a_out (by first | (rw [if_pos (fit_m (by first | exact Or.inl (by assumption) | exact Or.inr (by assumption)) (by assumption))]) | (rw [if_neg (by rw [nfit_c (by assumption) (by assumption)]; decide)]) | (rw [if_neg (by rw [nfit_o (by assumption)]; decide)])) rfl (a_ireturn dX11_suits_49 rfl rfl)
      · refine a_iconst (1 : Int32) dX11_suits_44 (by decide) ?_
        refine a_goto (tgt := 49) dX11_suits_45 (by decide) ?_
        exact a_out (by first | (rw [if_pos (fit_m (by first | exact Or.inl (by assumption) | exact Or.inr (by assumption)) (by assumption))]) | (rw [if_neg (by rw [nfit_c (by assumption) (by assumption)]; decide)]) | (rw [if_neg (by rw [nfit_o (by assumption)]; decide)])) rfl (a_ireturn dX11_suits_49 rfl rfl)
end MODELA
