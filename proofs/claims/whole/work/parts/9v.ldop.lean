section STEPLD
variable {μ W W' V : Wd} {p p0 : Nat} {q : PDt} {d d2 e : FDt} {H H2 : Hst} {S : Nat → Option FDt} {N L n : Nat} {B : Nat → Nat} {os : List Int32} {nm : Nat → List Nat} {z : PZ}
theorem in_no {x : Int32} (hL : L ≤ 900) (h : ixO x (L + 1) = none) : inI x 0 (nI L) = 0 := by
  unfold inI
  rcases ixO_none h with h0 | ⟨j, h1, h2, rfl⟩
  · rw [if_pos h0]
  · rw [if_neg (nI_pos h2), if_pos (by rw [nI_ltI (by omega) h2]; omega)]
/-- the text was right -/
theorem ld_ok (h : RelP N p p0 q d H S L B os nm μ) (hQ : LdQ μ W p p0 z d H) (ho : Out s363 W W') (hm : LmQ W' V z d) : RelP (N + 1) p0 p z.1 (ldA z d) (0, H.2) (fun _ => none) 0 B os z.2.2.2 V := by
  obtain ⟨c0, c1, c2, c3, c4, c5, c6, c7, c8, c9, c10, c11⟩ := hQ
  obtain ⟨⟨l1, l2, l3⟩, g, m1, m2, m3, m4, m5, m6, m7, m8⟩ := hm
  obtain ⟨hcr, hs, hmo, ⟨a1, _, ⟨u1, u2⟩, _, _, k1, k2⟩, h6⟩ := h
  have hpl := hcr.pv.pl
  have hp0 := hs.2.2.2.2.1
  have hL : ∀ i, sLm i → 338 ≤ i ∧ i < 363 ∧ i ≠ 352 ∧ i ≠ 362 := fun i y => by rcases y with (y | y | y | y | y) | (y | y | y | y | y) <;> omega
  have hO2 : Out (fun i => s363 i ∨ sLm i) W V := (ho.mono (fun i y => Or.inl y)).trans (l1.mono (fun i y => Or.inr y))
  have n2 : ∀ i, i < 338 → ¬ (s363 i ∨ sLm i) := fun i a y => by
    rcases y with y | y
    · omega
    · have := (hL i y).1; omega
  have hw := hcr.wf
  have nq : ∀ i, i = 2 ∨ i = 338 ∨ i = 362 → ¬ sLq p0 i := fun i a y => by
    rcases hp0 with e | e <;> (subst e; rcases y with (y | y | y | y | y) | (y | y | y | y) <;> omega)
  have lt : ∀ i, i < 364 → i < wn μ := fun i hi => hw.lt hi
  have e338 : ∀ k, gI W 338 k = gI μ 338 k := fun k => c9.i (lt 338 (by decide)) (nq 338 (by decide)) k
  have hpp := pl_le hp0
  have hM := g.q.M4
  refine ⟨c0.md hO2 (fun i y => by rcases y with y | y; omega; exact (hL i y).1), ⟨g.q, InD.ld g (hs.mono.2.1.2.2.2.2), fun i (hi : i < 0) => absurd hi (Nat.not_lt_zero i), fun j e _ he => (nomatch he), hpl, Ne.symm hs.2.2.2.2.2⟩, ⟨m1, ⟨m2.1, Nat.zero_le _, fun i (hi : i < 0) => absurd hi (Nat.not_lt_zero i)⟩, m3⟩, ⟨(hO2.r (n2 0 (by decide)) 9).trans c1, ⟨Nat.zero_le _, (hO2.i (n2 0 (by decide)) 1).trans c2, l2, fun k hk => absurd hk (Nat.not_lt_zero k)⟩, ⟨⟨?_, u1.2.1, fun k hk => ?_⟩, ⟨?_, u2.2.1, fun k hk => ?_⟩⟩, fun i hi => ?_, ⟨?_, ?_⟩, ?_, ?_⟩, ?_⟩
  · rw [hO2.i (n2 0 (by decide)) 3, c6 3 (by decide) (by decide) (by decide) (by decide) (by decide)]; exact u1.1
  · rw [hO2.i (n2 2 (by decide)) k, c9.i (lt 2 (by decide)) (nq 2 (by decide)) k]; exact u1.2.2 k hk
  · rw [l3 38 (by decide) (by decide) (by decide) (by decide) (by decide), ho.i (by decide) 38, e338]; exact u2.1
  · rw [l1.i (fun y => absurd rfl (hL 362 y).2.2.2) k, ho.i (by decide) k, c9.i (lt 362 (by decide)) (nq 362 (by decide)) k]; exact u2.2.2 k hk
  · refine ⟨(c8 i hi).ex (Ex.of hO2) (fun i y => ?_) (c9.1.lt (by omega)) (n2 _ (by omega)), g.nM i hi, m8 i hi⟩
    rcases y with y | y
    · omega
    · have := (hL i y).2.1; omega
  · rw [hO2.i (n2 0 (by decide)) 4, c3, m6]
  · rw [hO2.i (n2 0 (by decide)) 5, c4, m7]
  · rw [hO2.2.1]; exact c11
  · rw [hO2.2.1]; omega
  · rw [hO2.i (n2 0 (by decide)) 6, c5, m5]
/-- the text was wrong -/
theorem ld_bad (h : RelP N p p0 q d H S L B os nm μ) {x : Nat × Nat} (hQ : LdE μ W p q d H S p0 x) (ho : Out s363 W W') (hm : LmE W' V x) : RelP (N + 1) p p0 q d H S 0 B os nm V := by
  obtain ⟨c0, c2, c3, c4, c6, c7, c9, c10, c11⟩ := hQ
  obtain ⟨l1, l0, l2, m6, m7, l3⟩ := hm
  obtain ⟨hcr, hs, ⟨m1, m2, m3⟩, ⟨a1, _, ⟨u1, u2⟩, f, _, k1, k2⟩, h6⟩ := h
  have hpl := hcr.pv.pl
  have hp0 := hs.2.2.2.2.1
  have hO2 : Out (fun i => s363 i ∨ sPa i) W V := (ho.mono (fun i y => Or.inl y)).trans (l1.mono (fun i y => Or.inr y))
  have n2 : ∀ i, i ≠ 363 → i ≠ 338 → i ≠ 340 → i ≠ 342 → i ≠ 343 → i ≠ 345 → ¬ (s363 i ∨ sPa i) := fun i a1 a2 a3 a4 a5 a6 y => by
    rcases y with y | y | y | y | y | y <;> omega
  have n3 : ∀ i, i < 338 → ¬ (s363 i ∨ sPa i) := fun i a => n2 i (by omega) (by omega) (by omega) (by omega) (by omega) (by omega)
  have hw := hcr.wf
  have nq : ∀ i, i = 2 ∨ 338 ≤ i → ¬ (i = 0 ∨ sP p0 i) := fun i a y => by
    rcases hp0 with e | e <;> (subst e; rcases y with y | y | y | y | y <;> omega)
  have lt : ∀ i, i < 364 → i < wn μ := fun i hi => hw.lt hi
  have eM : ∀ i, 338 ≤ i → i < 364 → i ≠ 363 → i ≠ 338 → i ≠ 340 → i ≠ 342 → i ≠ 343 → i ≠ 345 → ∀ k, gI V i k = gI μ i k ∧ gL V i k = gL μ i k := fun i b1 b2 a1 a2 a3 a4 a5 a6 k => ⟨(hO2.i (n2 i a1 a2 a3 a4 a5 a6) k).trans (c9.i (lt i b2) (nq i (Or.inr b1)) k), (hO2.l (n2 i a1 a2 a3 a4 a5 a6) k).trans (c9.2.2.2.2 i (lt i b2) (nq i (Or.inr b1)) k).2.1⟩
  have e338 : ∀ k, gI W 338 k = gI μ 338 k := fun k => c9.i (lt 338 (by decide)) (nq 338 (by decide)) k
  have f338 : ∀ k, k ≠ 0 → k ≠ 17 → k < 18 ∨ 28 ≤ k → gI V 338 k = gI μ 338 k := fun k a b c => (l3 k a b c).trans ((ho.i (by decide) k).trans (e338 k))
  have hpp := pl_le hpl
  have hM := hs.1.M4
  have E9 : gI V 339 = gI μ 339 := funext fun k => (eM 339 (by decide) (by decide) (by decide) (by decide) (by decide) (by decide) (by decide) (by decide) k).1
  have E4 : gI V 344 = gI μ 344 := funext fun k => (eM 344 (by decide) (by decide) (by decide) (by decide) (by decide) (by decide) (by decide) (by decide) k).1
  have E6 : gI V 346 = gI μ 346 := funext fun k => (eM 346 (by decide) (by decide) (by decide) (by decide) (by decide) (by decide) (by decide) (by decide) k).1
  have E7 : gI V 347 = gI μ 347 := funext fun k => (eM 347 (by decide) (by decide) (by decide) (by decide) (by decide) (by decide) (by decide) (by decide) k).1
  have E1 : gI V 351 = gI μ 351 := funext fun k => (eM 351 (by decide) (by decide) (by decide) (by decide) (by decide) (by decide) (by decide) (by decide) k).1
  have E8 : gL V 348 = gL μ 348 := funext fun k => (eM 348 (by decide) (by decide) (by decide) (by decide) (by decide) (by decide) (by decide) (by decide) k).2
  have EL9 : gL V 349 = gL μ 349 := funext fun k => (eM 349 (by decide) (by decide) (by decide) (by decide) (by decide) (by decide) (by decide) (by decide) k).2
  have E0 : gL V 350 = gL μ 350 := funext fun k => (eM 350 (by decide) (by decide) (by decide) (by decide) (by decide) (by decide) (by decide) (by decide) k).2
  have hmn : MnV V q d := by unfold MnV MdV; rw [E9, E4, E8]; exact m1
  have hmp : MpV V q H := by unfold MpV; rw [E6, EL9, f338 14 (by decide) (by decide) (by decide)]; exact m2
  have hms : MsV V q S := by unfold MsV; rw [E7, E1, E0]; exact m3
  refine ⟨c0.md hO2 (fun i y => by rcases y with y | y | y | y | y | y <;> omega), hs.mono, ⟨hmn, hmp, hms⟩, ⟨(hO2.r (n3 0 (by decide)) 9).trans ((c7 9).trans a1), ⟨Nat.zero_le _, (hO2.i (n3 0 (by decide)) 1).trans c2, l2, fun k hk => absurd hk (Nat.not_lt_zero k)⟩, ⟨⟨?_, u1.2.1, fun k hk => ?_⟩, ⟨?_, u2.2.1, fun k hk => ?_⟩⟩, fun i hi => ?_, ⟨?_, ?_⟩, ?_, ?_⟩, ?_⟩
  · rw [hO2.i (n3 0 (by decide)) 3, c6 3 (by decide) (by decide) (by decide)]; exact u1.1
  · rw [hO2.i (n3 2 (by decide)) k, c9.i (lt 2 (by decide)) (nq 2 (by decide)) k]; exact u1.2.2 k hk
  · rw [f338 38 (by decide) (by decide) (by decide)]; exact u2.1
  · rw [(eM 362 (by decide) (by decide) (by decide) (by decide) (by decide) (by decide) (by decide) (by decide) k).1]; exact u2.2.2 k hk
  · obtain ⟨x1, x2, x3⟩ := f i hi
    have hne := hs.2.2.2.2.2
    have hnp : ¬ (p + 7 + i = 0 ∨ sP p0 (p + 7 + i)) := fun y => by
      rcases hpl with e | e <;> rcases hp0 with e' | e' <;> (subst e; subst e'; first | exact hne rfl | (rcases y with y | y | y | y | y <;> omega))
    refine ⟨(x1.ex c9 (fun i y => by rcases hp0 with e | e <;> (subst e; rcases y with y | y | y | y | y <;> omega)) (lt _ (by omega)) hnp).ex (Ex.of hO2) (fun i y => by rcases y with y | y | y | y | y | y <;> omega) (c9.1.lt (by omega)) (n3 _ (by omega)), x2, ?_⟩
    rw [(eM 341 (by decide) (by decide) (by decide) (by decide) (by decide) (by decide) (by decide) (by decide) i).2]; exact x3
  · rw [hO2.i (n3 0 (by decide)) 4, c3, m6]
  · rw [hO2.i (n3 0 (by decide)) 5, c4, m7]
  · rw [hO2.2.1]; exact c11
  · rw [hO2.2.1]; omega
  · rw [hO2.i (n3 0 (by decide)) 6, c6 6 (by decide) (by decide) (by decide), f338 15 (by decide) (by decide) (by decide)]; exact h6
theorem rd_gz : ∀ (c p : Nat) (z z2 : PZ), p ≤ n → GzD z → rdS B n c p z = .inr z2 → GzD z2 := by
  intro c
  induction c with
  | zero => intro p z z2 _ hg h; injection h with h; rw [← h]; exact hg
  | succ c ih =>
    intro p z z2 hp hg h
    by_cases hk : tkK B n p = 0
    · rw [rd_end hk] at h; injection h with h; rw [← h]; exact hg
    · cases hs : stS B n p z with
      | inl e => rw [rd_bad hk hs] at h; exact nomatch h
      | inr a =>
        rw [rd_ok hk hs] at h
        have ha := adv_st hp hs
        exact ih _ _ _ (E1 ha.2).2 (gz_st hp hg hs) h
theorem rd_60 {m0 : Int32} {A0 : Nat → Int64} (h : rdS B n (n + 1) 0 (rz0 m0 A0) = .inr z) : dF (ldA z d) 6 0 = 0 := by
  have hg := rd_gz (n + 1) 0 _ _ (Nat.zero_le n) (gz0 m0 A0) h
  show up2 (dF z.2.1) 6 1 (pF z.1 9 1) 6 0 = 0
  rw [up2_ne (by omega)]; exact hg.srv
theorem o_load (h : RelV N μ) (hN : N ≤ 10000) (x : Int32) : OpR Y_X10_load R48_X10_load RX48_X10_load Y_X11_load R_X11_load [.int x] [(IAE, 1), (ISE, 2)] N μ ∨ OpR Y_X10_load R48_X10_load RX_X10_load Y_X11_load R_X11_load [.int x] [(IAE, 1), (ISE, 2)] N μ := by
  obtain ⟨p, p0, q, d, H, S, L, B, os, nm, h⟩ := h
  have hw := h.cr.wf
  obtain ⟨r9, ⟨b1, b2, b3, b4⟩, ⟨u1, u2⟩, hNm, er, hk3, hwn⟩ := h.re
  cases e1 : ixO x (L + 1) with
  | none =>
    refine Or.inr (op_no h (k := 1) (by simp) (cx_load hw b2 b1 e1) (fun W' h' => ?_))
    obtain ⟨_, V, k, rfl, hq⟩ := mx_load h'.cr.wf h'.re.2.1.2.2.1 (in_no b1 e1)
    exact ⟨_, V, Exists.intro _ rfl, k, hq⟩
  | some n =>
    obtain ⟨hn, rfl⟩ := ixO_some e1
    have hp0 := h.2.1.2.2.2.2.1
    have hne := h.2.1.2.2.2.2.2
    have nq : ∀ i, 338 ≤ i → ¬ sLq p0 i := fun i a y => by
      rcases hp0 with e | e <;> (subst e; rcases y with (y | y | y | y | y) | (y | y | y | y) <;> omega)
    have nq0 : ∀ i, 338 ≤ i → ¬ (i = 0 ∨ sP p0 i) := fun i a y => by
      rcases hp0 with e | e <;> (subst e; rcases y with y | y | y | y | y <;> omega)
    cases e2 : rdS B n (n + 1) 0 (rz0 (gI μ 41 2) (gL μ 57)) with
    | inl e =>
      obtain ⟨_, W, kc, rfl, hE⟩ := cr_load h.cr r9 hp0 hne b2 b1 (show n ≤ L by omega) (fun k hk => ⟨(b4 k (by omega)).1, (b4 k (by omega)).2.1⟩) hk3 (by omega) e2
      refine Or.inl (Or.inr ⟨_, 2, W, by simp, hE.2.2.2.2.2.2.1.1, kc, hE.2.2.2.2.2.2.1.2.2.1, fun W' ho => ?_⟩)
      have hX := hE.2.2.2.2.2.2.1
      have em : ∀ i, 338 ≤ i → i < 363 → ∀ k, gI W' i k = gI μ i k := fun i a b k => (ho.i (by omega) k).trans (hX.i (hw.lt (by omega)) (nq0 i a) k)
      obtain ⟨_, V, km, rfl, hm⟩ := mr_load ho.1 ((em 338 (by decide) (by decide) 17).trans b3) (show n ≤ L by omega) b1 (B := B) (fun k hk => ⟨(b4 k (by omega)).1, (em 352 (by decide) (by decide) k).trans (b4 k (by omega)).2.2⟩) e2
      exact ⟨_, V, Exists.intro _ rfl, km, hm.2.1, (ld_bad h hE ho hm).v, hm.1.l (by decide) 0, hm.1.2.2.2.1⟩
    | inr z =>
      have hz : GzD z ∨ True := Or.inr trivial
      have h60 : dF (ldA z d) 6 0 = 0 := rd_60 e2
      obtain ⟨_, W, kc, rfl, hQ⟩ := c_load h.cr r9 hp0 hne b2 b1 (show n ≤ L by omega) (fun k hk => ⟨(b4 k (by omega)).1, (b4 k (by omega)).2.1⟩) hk3 (by omega) e2 (Or.inl h60)
      have hX := hQ.2.2.2.2.2.2.2.2.2.1
      refine Or.inl (Or.inl ⟨_, W, Exists.intro _ rfl, hX.1, kc, hX.2.2.1, fun W' ho => ?_⟩)
      have em : ∀ i, 338 ≤ i → i < 363 → ∀ k, gI W' i k = gI μ i k ∧ gL W' i k = gL μ i k := fun i a b k => ⟨(ho.i (by omega) k).trans (hX.i (hw.lt (by omega)) (nq i a) k), (ho.l (by omega) k).trans (hX.2.2.2.2 i (hw.lt (by omega)) (nq i a) k).2.1⟩
      obtain ⟨_, V, km, rfl, hm⟩ := m_load ho.1 ((em 338 (by decide) (by decide) 17).1.trans b3) (show n ≤ L by omega) b1 (B := B) (fun k hk => ⟨(b4 k (by omega)).1, (em 352 (by decide) (by decide) k).1.trans (b4 k (by omega)).2.2⟩) (d := d) (fun k hk => (em 348 (by decide) (by decide) k).2.trans (h.mn.2.2 k hk)) e2
      exact ⟨V, km, hm.2.2.2.2.2.1, (ld_ok h hQ ho hm).v, hm.1.1.l (fun y => by rcases y with (y | y | y | y | y) | (y | y | y | y | y) <;> omega) 0, hm.1.1.2.2.2.1⟩
end STEPLD
