section UND
variable {μ W V : Wd} {p p0 N : Nat} {q : PDt} {d d2 : FDt} {H : Hst} {S : Nat → Option FDt}
theorem w_undone (h : LwV p p0 q d H S N μ) {n : Nat} (hn : H.1 = n + 1) : CV Y_L_undone RW_L_undone [.ref 0] μ (fun v V => v = some (.int (nI n)) ∧ LwV p p0 q (H.2 n) (popH H) S N V ∧ Out sAct μ V) := by
  have h12 := h.h12
  have hg := h.2.2.2.1.1 n (by omega)
  obtain ⟨v, V, hct, rfl, ha⟩ := c_undo h.1 hn (by omega) hg.1.1.s01 (by rw [h.1.hn, hn])
  exact ⟨_, _, wv_undone h.wf hct, rfl, ⟨ha.1, h.2.1, hg, ⟨fun i hi => h.2.2.2.1.1 i (Nat.lt_of_lt_of_le hi (Nat.sub_le _ _)), h.2.2.2.1.2⟩, ⟨(ha.2.2.2.2 9).trans h.2.2.2.2.1.1, h.2.2.2.2.1.2⟩, (ha.2.2.2.1 1 (by decide)).trans h.2.2.2.2.2⟩, ha.2.2.1⟩
theorem w_undone0 (h : LwV p p0 q d H S N μ) (hn : H.1 = 0) : Ct Y_L_undone RW_L_undone [.ref 0] μ (.inl (some (.int (-2)))) μ := ws_undone h.wf (cx_undo h.wf (by rw [h.1.hn, hn]))
/-- what was pushed comes back -/
theorem push_top (h12 : H.1 ≤ 12) : ∃ n, (pushH H d).1 = n + 1 ∧ (pushH H d).2 n = d := by
  unfold pushH
  by_cases e : H.1 = 12
  · rw [if_pos e]
    exact ⟨11, rfl, show (if 11 = 11 then d else H.2 (11 + 1)) = d from if_pos rfl⟩
  · rw [if_neg e]
    exact ⟨H.1, rfl, show (if H.1 = H.1 then d else H.2 H.1) = d from if_pos rfl⟩
theorem w_keep (h : LwV p p0 q d H S N μ) {j : Nat} (hj : j < 2) : CV Y_X10_keep R_X10_keep [.ref 0, .int (nI j)] μ (fun v V => v = some (.int (phD q d)) ∧ LwV p p0 q d H (upS S j d) N V ∧ Out sSl μ V) := by
  obtain ⟨v, V, hct, rfl, hC, hO⟩ := c_keep h.1 h.gd.s01 hj
  have n0 : ¬ sSl 0 := fun y => by have := y.1; omega
  refine ⟨_, _, hct, rfl, ⟨hC, h.2.1, h.2.2.1, ⟨h.2.2.2.1.1, fun i e he => ?_⟩, ⟨(hO.r n0 9).trans h.2.2.2.2.1.1, h.2.2.2.2.1.2⟩, (hO.i n0 1).trans h.2.2.2.2.2⟩, hO⟩
  unfold upS at he
  by_cases z : i = j
  · rw [if_pos z] at he
    injection he with he
    rw [← he]
    exact h.2.2.1
  · rw [if_neg z] at he
    exact h.2.2.2.1.2 i e he
theorem w_restore (h : LwV p p0 q d H S N μ) {j : Nat} {e : FDt} (hj : j < 2) (hS : S j = some e) : CV Y_X10_restore R_X10_restore [.ref 0, .int (nI j)] μ (fun v V => v = some (.int (phD q e)) ∧ LwV p p0 q e (0, H.2) S N V ∧ Out sAct μ V) := by
  have hg := h.2.2.2.1.2 j e hS
  obtain ⟨v, V, hct, rfl, ha⟩ := c_restore h.1 hj hS hg.1.1.s01
  exact ⟨_, _, hct, rfl, ⟨ha.1, h.2.1, hg, ⟨fun i hi => absurd hi (Nat.not_lt_zero _), h.2.2.2.1.2⟩, ⟨(ha.2.2.2.2 9).trans h.2.2.2.2.1.1, h.2.2.2.2.1.2⟩, (ha.2.2.2.1 1 (by decide)).trans h.2.2.2.2.2⟩, ha.2.2.1⟩
end UND
