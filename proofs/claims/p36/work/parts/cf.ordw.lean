section ORDW
variable {μ W V : Wd} {p p0 N : Nat} {q : PDt} {d d2 : FDt} {H : Hst} {S : Nat → Option FDt} {u : Nat → Int32}
theorem ld_inc (hq : GdP q) (hd : GdD q d) {k t : Nat} (hk : k < pM q) (ht : t < pT q) : ldN q (incD d t k) k = ldN q d k + 1 := by
  have hT := hq.T4
  have hM := hq.M4
  obtain ⟨e, hu⟩ := GdD_unN hd (show t < 8 by omega) (show k < 12 by omega)
  have h := fb_sm_upd (fun t => unN d t k) (unN d t k + 1) ht
  have h2 : ldN q (incD d t k) k = fb_sm (fun t2 => if t2 = t then unN d t k + 1 else unN d t2 k) (pT q) := fb_sm_cong fun t2 _ => by
    unfold unN incD
    by_cases z : t2 = t
    · rw [if_pos z, z, setU_at, e, nI_1, nN_nI (by omega), nN_nI (by omega)]
    · rw [if_neg z, setU_ne d _ (Or.inl z)]
  rw [h2]
  unfold ldN
  omega
theorem stM_ld (hq : GdP q) {k : Nat} (hk : k < pM q) : ∀ n (d : FDt), GdD q d → ldN q (stM q k n d).2 k = ldN q d k + (stM q k n d).1 := by
  intro n
  induction n with
  | zero => intro d _; rfl
  | succ n ih =>
    intro d hd
    show ldN q (match on1 q k d with | none => (0, d) | some t => _ : Nat × FDt).2 k = _ + (match on1 q k d with | none => (0, d) | some t => _ : Nat × FDt).1
    cases e : on1 q k d with
    | none => rfl
    | some t =>
      have h1 := ih (incD d t k) (hd.inc hq hk e)
      rw [ld_inc hq hd hk (on1_some e).1] at h1
      show ldN q (stM q k n (incD d t k)).2 k = ldN q d k + ((stM q k n (incD d t k)).1 + 1)
      omega
theorem so_ge (hq : GdP q) : ∀ c m (a : Int32) (d : FDt) (t : Nat) (s : Int32), m + c = pM q → GdD q d → a = nI t → t ≤ 320 * m → (soF q u c m a d).1 = some s → ∃ r, s = nI r ∧ r ≤ 320 * pM q := by
  intro c
  induction c with
  | zero =>
    intro m a d t s hm _ ha ht h
    have h : some a = some s := h
    injection h with h
    exact ⟨t, h.symm.trans ha, by omega⟩
  | succ c ih =>
    intro m a d t s hm hd ha ht h
    rw [soF_s] at h
    obtain ⟨e1, e2⟩ := msD_N q d m (u m)
    have hg := hd.st hq (k := m) (by omega) (nN (msD q d m (u m)))
    have hl := stM_ld hq (k := m) (by omega) (nN (msD q d m (u m))) d hd
    have h3 := (ldD_N hq hg (k := m) (by have := hq.M4; omega)).2
    generalize msD q d m (u m) = x at h e1 e2 hg hl h3
    split at h
    · exact nomatch h
    · next h4 =>
      have h5 : ¬ (stM q m (nN x) d).1 < nN x := fun z => h4 (e1.symm.subst (motive := fun y => nI (stM q m (nN x) d).1 < y) ((nI_ltI (by omega) e2).mpr z))
      exact ih (m + 1) (a + x) _ (t + nN x) s (by omega) hg (by rw [ha, ← nI_add, ← e1]) (by omega) h
theorem GX.so (h : GX N q d) (hq : GdP q) (hgo : goD q d) (u : Nat → Int32) : GX N q (soF q u (pM q) 0 0 d).2 := by
  have h7 := so_lo7 (q := q) u (pM q) 0 0 d
  have hl := so_lo (q := q) u (pM q) 0 0 d
  exact h.cg (h.1.so hq hgo u) (AdM.so _ _ _ _ h.2.1) hl.1 (fun a i ha => h7.2 a i (by omega)) hl.2.1
theorem w_ordered (h : LwV p p0 q d H S N μ) (hgo : goD q d) : CV Y_L_ordered RW_L_ordered [.ref 0] μ (ActL p p0 q d H S N μ) := by
  have hw := h.wf
  rcases hgo with ho | ho
  · have hgo : goD q d := Or.inl ho
    cases e : (soF q (orD q d) (pM q) 0 0 d).1 with
    | none =>
      obtain ⟨o, V, hct, rfl, W, rfl, hO⟩ := cr_loadOrder h.1 h.gd ho e
      have hW : LwV p p0 q d H S N W := h.out hO (fun i y => Or.inr y) (fun k _ => hO.i (fun y => by rcases y with y | y <;> omega) k) (hO.r (fun y => by rcases y with y | y <;> omega) 9)
      refine ⟨_, _, ws_ordered hw hct, _, rfl, ?_, Or.inr ⟨by decide, hW.s6 3⟩⟩
      exact (hO.mono (S' := sAct) (fun i y => by rcases y with y | y <;> omega)).trans (((Out.rfl' hW.wf).sI (S := fun i => i = 0) rfl _ _).mono (fun i y => Or.inl y))
    | some s =>
      have hg := h.2.2.1.so h.gp hgo (orD q d)
      have hl := so_lo (q := q) (orD q d) (pM q) 0 0 d
      obtain ⟨r, hr, hb⟩ := so_ge h.gp (pM q) 0 0 d 0 s (Nat.zero_add _) h.gd rfl (Nat.le_refl _) e
      have hM := h.gp.M4
      obtain ⟨v, V, hct, rfl, ha⟩ := c_loadOrder h.1 h.gd ho (s := s) (t2 := (soF q (orD q d) (pM q) 0 0 d).2) (Prod.ext e rfl) hg.1.1.s01
      exact ⟨_, _, wv_ordered hw hct, ActL.yes h hgo (by rw [hr]; exact nI_ge0 (by omega)) hg ha hl.2.2 hl.2.1⟩
  · exact ⟨_, _, ws_ordered hw (cs_loadOrder hw h.1.2.2.1 h.1.2.1 ho), ActL.no h (by decide)⟩
end ORDW
