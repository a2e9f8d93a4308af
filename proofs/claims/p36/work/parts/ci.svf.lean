section SVF
variable {μ W V : Wd} {p p0 N : Nat} {q : PDt} {d d2 : FDt} {H : Hst} {S : Nat → Option FDt} {X : Nat × (Nat → Int32)} {k : Nat}
theorem svR_srv (q : PDt) (d : FDt) : svR q (srvD q d) = svR q d := by
  have t : ∀ P Q : (Nat → Option Nat) × (Nat → Nat) × Nat → Prop, P = Q → (haveI := Classical.propDecidable (∃ x, P x); if h : ∃ x, P x then h.choose else (fun _ => none, fun _ => 0, 0)) = (haveI := Classical.propDecidable (∃ x, Q x); if h : ∃ x, Q x then h.choose else (fun _ => none, fun _ => 0, 0)) := fun P Q e => by
    subst e
    rfl
  exact t (fun x => SvS q (srvD q d) x.1 x.2.1 x.2.2) (fun x => SvS q d x.1 x.2.1 x.2.2) (funext fun x => propext (SvS_cg (d := d) (d2 := srvD q d) rfl (srv_cg q d) _))
theorem ph_srv (h : ¬ pF q 9 0 = 0) : phD q (srvD q d) = 3 := by
  have e : dF (srvD q d) 6 0 = 1 := show (if (6 : Nat) = 6 ∧ (0 : Nat) = 0 then (1 : Int32) else if (6 : Nat) = 6 ∧ (0 : Nat) = 1 then 0 else dF d 6 0) = 1 from if_pos ⟨rfl, rfl⟩
  unfold phD
  rw [if_neg h, e, if_neg (by decide)]
theorem ol_srv2 : olV q (srvD q d) 2 = olV q d 2 := by
  show nI (dP d) - nI (szG (svR q (srvD q d)).1 (dP d)) = nI (dP d) - nI (szG (svR q d).1 (dP d))
  rw [svR_srv]
theorem ol_srv3 : olV q (srvD q d) 3 = olV q d 3 := by
  show waS (svR q (srvD q d)).2.1 (pM q) = waS (svR q d).2.1 (pM q)
  rw [svR_srv]
theorem pg_srv (h : ¬ pF q 9 0 = 0) (i : Nat) : pgV q (srvD q d) i 3 = oI ((svR q d).1 i) := by
  show (if phD q (srvD q d) = 3 then oI ((svR q (srvD q d)).1 i) else -1) = _
  rw [if_pos (ph_srv h), svR_srv]
theorem al_srv : alD q (srvD q d) = alD q d := by
  unfold alD uiD
  have e : ∀ t i, dF (srvD q d) (7 + t) i = dF d (7 + t) i := fun t i => srv_cg q d _ _ (by omega)
  simp only [e]
theorem al_sum (h : LwV p p0 q d H S N μ) : alD q d = olV q d 1 + olV q d 3 := by
  obtain ⟨f1, f2, _⟩ := SvS.facts h.gp.M4 (WiD.of h.gd) h.svs
  obtain ⟨t, w1, w2, w3⟩ := wa_N h.gp h.gd f1 f2
  show _ = nI (szG (svR q d).1 (dP d)) + waS (svR q d).2.1 (pM q)
  rw [w1, w2, nI_add, Nat.add_comm]
theorem lc_eq {x y : Int64} (h : x = y) : lg_cmp x y = 0 := by
  subst h
  unfold lg_cmp
  rw [if_neg (by simp), if_pos rfl]
theorem go_lt (h : goD q d) : ¬ (3 : Int32) ≤ phD q d := by
  rcases h with e | e <;> rw [e] <;> decide
theorem go_gt (h : goD q d) : ¬ phD q d ≤ 0 := by
  rcases h with e | e <;> rw [e] <;> decide
/-- the law's state within bounds -/
def LwK (p p0 : Nat) (q : PDt) (d : FDt) (H : Hst) (S : Nat → Option FDt) (N : Nat) (X : Nat × (Nat → Int32)) (k : Nat) (V : Wd) : Prop := LwV p p0 q d H S N V ∧ wn V ≤ k ∧ gX V = X
theorem LwK.tr (h : LwK p p0 q d H S N X k W) (a : LwA p p0 q d H S N W V) : LwK p p0 q d H S N X k V := ⟨a.1, by rw [a.2.2.1]; exact h.2.1, a.2.2.2.2.1.trans h.2.2⟩
theorem LwK.b (h : LwK p p0 q d H S N X k W) (a : LwB p p0 q d H S N W V) : LwK p p0 q d H S N X (k + 1) V := ⟨a.1, Nat.le_trans a.2.2 (Nat.succ_le_succ h.2.1), a.2.1.2.2.1.trans h.2.2⟩
theorem LwK.mono {k2 : Nat} (h : LwK p p0 q d H S N X k W) (hk : k ≤ k2) : LwK p p0 q d H S N X k2 W := ⟨h.1, Nat.le_trans h.2.1 hk, h.2.2⟩
theorem LwK.act {M : Nat} {q2 : PDt} {H2 : Hst} {S2 : Nat → Option FDt} (h : LwK p p0 q d H S N X k W) (hV : LwV p p0 q2 d2 H2 S2 M V) {T : Nat → Prop} (hO : Out T W V) : LwK p p0 q2 d2 H2 S2 M X k V := ⟨hV, by rw [hO.2.1]; exact h.2.1, hO.2.2.2.1.trans h.2.2⟩
theorem w_nextK (h : LwK p p0 q d H S N X k W) : CV Y_L_next R_L_next [.ref 338] W (fun v V => ∃ n, n < 8388608 ∧ v = some (.int (nI n)) ∧ LwK p p0 q d H S N X k V) := by
  obtain ⟨v, V, hc, n, hn, e, ho⟩ := t_L_next h.1.wf
  exact ⟨v, V, hc, n, hn, e, h.act (h.1.nx ho) ho⟩
theorem LwS.ex {T : Nat → Prop} (h : LwS p p0 N q d H S W) (he : Ex T W V) (hT : ∀ i, i < 338 → ¬ T i) : LwS p p0 N q d H S V := h.fx he.1 fun i hi hne => he.2.2.2.2 i (Nat.lt_of_lt_of_le hi h.1.wf.1) (hT i (by omega))
theorem LwS.st (h : LwS p p0 N q d H S W) (v : Int32) : LwS p p0 N q d H S (sI W 338 0 v) := h.fx h.1.wf.sI fun i _ hne k => ⟨by rw [gI_sI, if_neg (fun z => hne z.1)], rfl, rfl⟩
end SVF
