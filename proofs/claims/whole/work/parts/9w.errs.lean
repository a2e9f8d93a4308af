section ERRS
variable {μ : Wd} {N : Nat}
/-- a question put to both sides, the answers compared -/
def EqR (Yc : Yd) (rc : Room) (Ym : Yd) (rm : Room) (N : Nat) (μ : Wd) : Prop := ∃ (v : Value) (V : Wd), vTy Yc.2.2.2.1 v ∧ Ct Yc rc [.ref 0] μ (.inl (some v)) μ ∧ Ct Ym rm [.ref 338] μ (.inl (some v)) V ∧ RelV (N + 1) V ∧ gL V 363 0 = gL μ 363 0 ∧ gX V = gX μ
theorem o_errorCode (h : RelV N μ) : EqR Y_X10_errorCode R_X10_errorCode Y_X11_errorCode R_X11_errorCode N μ := by
  obtain ⟨p, p0, q, d, H, S, L, B, os, nm, h⟩ := h
  have hw := h.cr.wf
  obtain ⟨a1, a2, a3⟩ := rel_mq h (MqQ.of hw 0)
  exact ⟨_, _, Exists.intro _ rfl, c_errorCode hw, by rw [h.re.2.2.2.2.1.1]; exact m_errorCode hw, a1.v, a2, a3⟩
theorem o_errorPosition (h : RelV N μ) : EqR Y_X10_errorPosition R_X10_errorPosition Y_X11_errorPosition R_X11_errorPosition N μ := by
  obtain ⟨p, p0, q, d, H, S, L, B, os, nm, h⟩ := h
  have hw := h.cr.wf
  obtain ⟨a1, a2, a3⟩ := rel_mq h (MqQ.of hw 0)
  exact ⟨_, _, Exists.intro _ rfl, c_errorPosition hw, by rw [h.re.2.2.2.2.1.2]; exact m_errorPosition hw, a1.v, a2, a3⟩
theorem o_reason (h : RelV N μ) : EqR Y_X10_reason R_X10_reason Y_X11_reason R_X11_reason N μ := by
  obtain ⟨p, p0, q, d, H, S, L, B, os, nm, h⟩ := h
  have hw := h.cr.wf
  obtain ⟨a1, a2, a3⟩ := rel_mq h (MqQ.of hw 0)
  exact ⟨_, _, Exists.intro _ rfl, c_reason hw, by rw [h.2.2.2.2]; exact m_reason hw, a1.v, a2, a3⟩
end ERRS
