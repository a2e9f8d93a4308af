section SRV
variable {μ W V : Wd} {p p0 N : Nat} {q : PDt} {d d2 : FDt} {H : Hst} {S : Nat → Option FDt}
theorem GX.mono {M : Nat} (h : GX N q d) (hM : N ≤ M) : GX M q d := ⟨h.1.mono hM, h.2⟩
theorem LwV.mono {M : Nat} (h : LwV p p0 q d H S N μ) (hM : N ≤ M) : LwV p p0 q d H S M μ := ⟨h.1, h.2.1, h.2.2.1.mono hM, ⟨fun i hi => (h.2.2.2.1.1 i hi).mono hM, fun j e he => (h.2.2.2.1.2 j e he).mono hM⟩, h.2.2.2.2⟩
theorem GX.srv (h : GX N q d) (hq : GdP q) (hgo : goD q d) (hS : SvS q d (svR q d).1 (svR q d).2.1 (svR q d).2.2) : GX (N + 1) q (srvD q d) := by
  obtain ⟨f1, f2, _⟩ := SvS.facts hq.M4 (WiD.of h.1.1) hS
  obtain ⟨t, w1, w2, w3⟩ := wa_N hq h.1.1 f1 f2
  refine ⟨h.1.srv hq hgo hS, h.2.1.cg (fun a i ha => srv_cg q d a i (by omega)), h.2.2.1.cg rfl (fun i => srv_cg q d 0 i (by decide)), h.2.2.2.1.cg rfl (fun a i ha => srv_cg q d a i (by omega)), ?_⟩
  have e : dA d 0 = dA d 1 + dA d 2 := h.2.2.2.2
  show dA d 0 + (alD q d).toInt64 = (dA d 1 + (nI (szG (svR q d).1 (dP d))).toInt64) + (dA d 2 + (waS (svR q d).2.1 (pM q)).toInt64)
  rw [e, w1, w2, nI_l (by omega), nI_l (by omega), nI_l (by omega), ← lN_add, Int64.add_assoc, Int64.add_assoc]
  congr 1
  rw [← Int64.add_assoc, ← Int64.add_assoc, Int64.add_comm (dA d 2), Int64.add_assoc, Int64.add_assoc, Int64.add_comm (dA d 2), Int64.add_comm (lN t), Int64.add_assoc]
theorem w_serve (h : LwV p p0 q d H S N μ) (hgo : goD q d) : CV Y_X10_serve R_X10_serve [.ref 0] μ (fun v V => v = some (.int (nI (szG (svR q d).1 (dP d)))) ∧ LwV p p0 q (srvD q d) (pushH H d) S (N + 1) V ∧ Out sAct μ V) := by
  obtain ⟨v, V, hct, rfl, ha⟩ := c_serve h.1 h.gd h.gp hgo
  exact ⟨_, _, hct, rfl, (h.mono (Nat.le_succ N)).act (h.2.2.1.srv h.gp hgo h.svs) ha, ha.2.2.1⟩
end SRV
