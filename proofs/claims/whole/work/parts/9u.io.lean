section STEPIO
variable {μ W W' V : Wd} {p p0 : Nat} {q : PDt} {d d2 e : FDt} {H H2 : Hst} {S : Nat → Option FDt} {N L : Nat} {B : Nat → Nat} {os : List Int32} {nm : Nat → List Nat}
theorem RelP.sz (h : RelP N p p0 q d H S L B os nm μ) : gI μ 82 2 = nI H.1 := by
  obtain ⟨_, _, _, _, hH, _⟩ := h.cr.hs
  exact hH
theorem sUn_Am (h : Out sUn μ V) : Out sAm μ V := h.mono (fun i y => by rcases y with y | y | y <;> omega)
theorem o_undo (h : RelV N μ) : OpR Y_X10_undo R_X10_undo RX_X10_undo Y_X11_undo R_X11_undo [] [(ISE, 1)] N μ := by
  obtain ⟨p, p0, q, d, H, S, L, B, os, nm, h⟩ := h
  have hw := h.cr.wf
  have hv := h.cr.fv
  have hq := h.cr.pv
  have hg := h.gp
  have hd := h.ind.1
  have hn := h.ind.2.2.1
  have he := h.ind.2.2.2.1
  have hI := h.up
  have hsz := h.sz
  have h12 := h.h12
  by_cases h0 : H.1 = 0
  · rw [h0] at hsz
    exact op_no h (k := 1) (by simp) (cx_undo hw hsz) (fun W' h' => no_1 h'.cr.wf rfl (mx_undo h'.cr.wf (by rw [h'.mp.1, h0])))
  · obtain ⟨n, hn1⟩ : ∃ n, H.1 = n + 1 := ⟨H.1 - 1, by omega⟩
    rw [hn1] at hsz
    have hs := h.2.1.mono
    have hi := hs.2.2.1 n (by omega)
    refine op_act h (c_undo h.cr hn1 (by omega) hi.1.s01 hsz) ⟨hg, hi, fun i (hi2 : i < H.1 - 1) => hs.2.2.1 i (by omega), hs.2.2.2⟩ (fun W' w' m' p' _ => ?_)
    obtain ⟨r, V, k, e1, e2, e3, e4, e5, e6⟩ := v_undo w' m'.1 p' hn1
    exact ⟨r, V, k, e1, e2, e3, sUn_Am e4, e5, fun k a b => e6 k b a⟩
theorem o_restore (h : RelV N μ) (x : Int32) : OpR Y_X10_restore R_X10_restore RX_X10_restore Y_X11_restore R_X11_restore [.int x] [(IAE, 1), (NSE, 2)] N μ := by
  obtain ⟨p, p0, q, d, H, S, L, B, os, nm, h⟩ := h
  have hw := h.cr.wf
  have hv := h.cr.fv
  have hq := h.cr.pv
  have hg := h.gp
  have hd := h.ind.1
  have hn := h.ind.2.2.1
  have he := h.ind.2.2.2.1
  have hI := h.up
  cases e1 : ixO x 2 with
  | none => exact op_no h (k := 1) (by simp) (cx_restore hw hv hq e1) (fun W' h' => no_1 h'.cr.wf rfl (mx_restore h'.cr.wf e1))
  | some j =>
    obtain ⟨hj, rfl⟩ := ixO_some e1
    cases eS : S j with
    | none =>
      have h1 := h.cr.sl j hj
      rw [eS] at h1
      exact op_no h (k := 2) (by simp) (cy_restore hw hv hq hj h1) (fun W' h' => no_1 h'.cr.wf rfl (my_restore h'.cr.wf hj (by have h2 := h'.ms j hj; rw [eS] at h2; exact h2)))
    | some e =>
      have hs := h.2.1.mono
      have hi := hs.2.2.2.1 j e hj eS
      refine op_act h (c_restore h.cr hj eS hi.1.s01) ⟨hg, hi, fun i (hi2 : i < 0) => absurd hi2 (Nat.not_lt_zero i), hs.2.2.2⟩ (fun W' w' m' p' s' => ?_)
      obtain ⟨r, V, k, e1, e2, e3, e4, e5, e6⟩ := v_restore w' m'.1 s' hj eS
      exact ⟨r, V, k, e1, e2, e3 _, sUn_Am e4, e5, fun k a b => e6 k b a⟩
theorem o_keep (h : RelV N μ) (x : Int32) : OpR Y_X10_keep R_X10_keep RX_X10_keep Y_X11_keep R_X11_keep [.int x] [(IAE, 1)] N μ := by
  obtain ⟨p, p0, q, d, H, S, L, B, os, nm, h⟩ := h
  have hw := h.cr.wf
  have hv := h.cr.fv
  have hq := h.cr.pv
  have hg := h.gp
  have hd := h.ind.1
  have hn := h.ind.2.2.1
  have he := h.ind.2.2.2.1
  have hI := h.up
  cases e1 : ixO x 2 with
  | none => exact op_no h (k := 1) (by simp) (cx_keep hw hv hq e1) (fun W' h' => no_1 h'.cr.wf rfl (mx_keep h'.cr.wf e1))
  | some j =>
    obtain ⟨hj, rfl⟩ := ixO_some e1
    obtain ⟨_, W, kc, rfl, hcr, hO⟩ := c_keep h.cr hd.s01 hj
    refine Or.inl ⟨_, W, Exists.intro _ rfl, hO.1, kc, hO.2.2.2.1, fun W' ho => ?_⟩
    have h1 := (mid_cl h (ClP.sl hO) hcr).o h.gp.M4 ho
    rw [show gI W 0 6 = gI μ 0 6 from hO.i (fun y => by have := y.1; omega) 6, h.2.2.2.2] at h1
    obtain ⟨_, V, km, rfl, m1, m2, m3, m4⟩ := v_keep h1.1.wf h1.2.1.1 h1.2.1.2.2 hj
    have n : ∀ i, (i = 339 ∨ i = 344 ∨ i = 348 ∨ i = 346 ∨ i = 349) → ¬ sKp i := fun i a z => by rcases z with z | z | z | z <;> omega
    have hMo : MoP W' V := ⟨m2.mono (fun i z => by rcases z with z | z | z | z <;> omega), fun k a _ _ => m4 k a⟩
    have hs := h.2.1.mono
    refine ⟨V, km, m3, (h1.fin h.gp.M4 hMo ⟨h1.2.1.1.out m2 (n _ (by decide)) (n _ (by decide)) (n _ (by decide)), h1.2.1.2.1.out m2 (m4 14 (by decide)) (n _ (by decide)) (n _ (by decide)), m1⟩ ⟨hg, hs.2.1, hs.2.2.1, fun i e hi2 he2 => ?_, hs.2.2.2.2⟩ ((m4 15 (by decide)).trans h1.2.2.2.2)).v, hMo.1.l (nMx (by decide)) 0, hMo.1.2.2.2.1⟩
    unfold upS at he2
    split at he2
    · injection he2 with he2; subst he2; exact hs.2.1
    · exact hs.2.2.2.1 i e hi2 he2
theorem o_outputByte (h : RelV N μ) (x : Int32) : OpR Y_X10_outputByte R_X10_outputByte RX_X10_outputByte Y_X11_outputByte R_X11_outputByte [.int x] [(IOE, 1)] N μ := by
  obtain ⟨p, p0, q, d, H, S, L, B, os, nm, h⟩ := h
  have hw := h.cr.wf
  have hv := h.cr.fv
  have hq := h.cr.pv
  have hg := h.gp
  have hd := h.ind.1
  have hn := h.ind.2.2.1
  have he := h.ind.2.2.2.1
  have hI := h.up
  obtain ⟨_, _, ⟨⟨o1, o2, o3⟩, ⟨n1, n2, n3⟩⟩, _⟩ := h.re
  cases e1 : ixO x os.length with
  | none => exact op_no h (k := 1) (by simp) (cx_outputByte hw o1 o2 e1) (fun W' h' => no_1 h'.cr.wf rfl (mx_outputByte h'.cr.wf h'.re.2.2.1.2.1 (by omega) e1))
  | some k =>
    obtain ⟨hk, rfl⟩ := ixO_some e1
    refine op_same h (v := .int (os.getD k 0)) (by rw [← o3 k hk]; exact c_outputByte hw o1 o2 hk) (fun W' h' => yes_1 h'.cr.wf ?_)
    rw [← h'.re.2.2.1.2.2.2 k hk]
    exact m_outputByte h'.cr.wf h'.re.2.2.1.2.1 (by omega) hk
theorem rel_io {T : Nat → Prop} (h : RelP N p p0 q d H S L B os nm μ) (ho : Out T μ V) (hT : ∀ i, T i → i = 0 ∨ i = 1 ∨ i = 2 ∨ i = 338 ∨ i = 352 ∨ i = 362 ∨ i = 363) (h0 : ∀ k, k ≠ 1 → k ≠ 3 → gI V 0 k = gI μ 0 k) (hr : ∀ k, gR V 0 k = gR μ 0 k) (hm : ∀ k, k ≠ 0 → k ≠ 17 → k ≠ 38 → gI V 338 k = gI μ 338 k) {L' : Nat} {B' : Nat → Nat} {os' : List Int32} (hi : L' ≤ 900 ∧ gI V 0 1 = nI L' ∧ gI V 338 17 = nI L' ∧ ∀ k, k < L' → B' k < 256 ∧ gI V 1 k = sby (B' k) ∧ gI V 352 k = nI (B' k)) (hu : OuV V os' ∧ MoV V os') : RelP (N + 1) p p0 q d H S L' B' os' nm V := by
  obtain ⟨⟨c1, c2, c3, c4, c5, c6⟩, hs, ⟨m1, m2, m3⟩, ⟨a1, _, _, f, ⟨g1, g2⟩, k1, k2⟩, h6⟩ := h
  have hpp := pl_le c2.pl
  have n : ∀ i, ¬ (i = 0 ∨ i = 1 ∨ i = 2 ∨ i = 338 ∨ i = 352 ∨ i = 362 ∨ i = 363) → ¬ T i := fun i a y => a (hT i y)
  refine ⟨⟨ho.1, c2.out ho (fun i a b => n i (by omega)), c3.out ho (fun i a b => n i (by omega)), c4.out ho (fun i y => by have := hT i y; omega), c5.out ho (fun i y => by have := hT i y; omega), c6.out ho (fun i a b => n i (by omega)) (h0 17 (by decide) (by decide))⟩, hs.mono, ⟨m1.out ho (n _ (by decide)) (n _ (by decide)) (n _ (by decide)), m2.out ho (hm 14 (by decide) (by decide) (by decide)) (n _ (by decide)) (n _ (by decide)), m3.out ho (n _ (by decide)) (n _ (by decide)) (n _ (by decide))⟩, ⟨(hr 9).trans a1, hi, hu, fun i hi => ?_, ⟨(h0 4 (by decide) (by decide)).trans (g1.trans (hm 23 (by decide) (by decide) (by decide)).symm), (h0 5 (by decide) (by decide)).trans (g2.trans (hm 24 (by decide) (by decide) (by decide)).symm)⟩, by rw [ho.2.1]; exact k1, by rw [ho.2.1]; omega⟩, (h0 6 (by decide) (by decide)).trans (h6.trans (hm 15 (by decide) (by decide) (by decide)).symm)⟩
  obtain ⟨x1, x2, x3⟩ := f i hi
  have hM := hs.1.M4
  exact ⟨x1.ex (Ex.of ho) (fun i y => by have := hT i y; omega) (c1.lt (by omega)) (n _ (by omega)), x2, (ho.l (n 341 (by decide)) i).trans x3⟩
abbrev sIo : Nat → Prop := fun i => i = 0 ∨ i = 1 ∨ i = 2 ∨ i = 338 ∨ i = 352 ∨ i = 362 ∨ i = 363
theorem o_feed (h : RelV N μ) (x1 x2 x3 x4 x5 : Int32) : OpR Y_X10_feed R_X10_feed RX_X10_feed Y_X11_feed R_X11_feed [.int x1, .int x2, .int x3, .int x4, .int x5] [(ISE, 1)] N μ := by
  obtain ⟨p, p0, q, d, H, S, L, B, os, nm, h⟩ := h
  have hw := h.cr.wf
  have hv := h.cr.fv
  have hq := h.cr.pv
  have hg := h.gp
  have hd := h.ind.1
  have hn := h.ind.2.2.1
  have he := h.ind.2.2.2.1
  have hI := h.up
  obtain ⟨r9, ⟨b1, b2, b3, b4⟩, ⟨u1, u2⟩, _⟩ := h.re
  by_cases hL : L + 20 ≤ 900
  · obtain ⟨_, W, kc, rfl, f1, f2, f3, f4, f5, f6⟩ := c_feed hw hL b2 x1 x2 x3 x4 x5
    refine Or.inl ⟨_, W, Exists.intro _ rfl, f1.1, kc, f1.2.2.2.1, fun W' ho => ?_⟩
    have f1' : Out sIo μ W := f1.mono (fun i y => by rcases y with y | y <;> omega)
    have ho' : Out sIo W W' := ho.mono (fun i y => by omega)
    have nf : ∀ i, 338 ≤ i → ¬ sFd i := fun i a y => by rcases y with y | y <;> omega
    have e338 : ∀ k, gI W' 338 k = gI μ 338 k := fun k => (ho.i (by decide) k).trans (f1.i (nf 338 (by decide)) k)
    obtain ⟨_, V, km, rfl, g1, g2, g3, g4, g5, g6⟩ := m_feed ho.1 hL ((e338 17).trans b3) x1 x2 x3 x4 x5
    have g1' : Out sIo W' V := g1.mono (fun i y => by rcases y with y | y <;> omega)
    have nl : ∀ i, i ≠ 338 → i ≠ 352 → ¬ sLy i := fun i a b y => by rcases y with y | y <;> omega
    have v0 : ∀ k, gI V 0 k = gI W 0 k := fun k => (g1.i (nl 0 (by decide) (by decide)) k).trans (ho.i (by decide) k)
    have v1 : ∀ k, gI V 1 k = gI W 1 k := fun k => (g1.i (nl 1 (by decide) (by decide)) k).trans (ho.i (by decide) k)
    have v352 : ∀ k, gI W' 352 k = gI μ 352 k := fun k => (ho.i (by decide) k).trans (f1.i (nf 352 (by decide)) k)
    refine ⟨V, km, g3, (rel_io h ((f1'.trans ho').trans g1') (fun i y => y) (fun k a b => (v0 k).trans (f3 k a)) (fun k => (g1.r (nl 0 (by decide) (by decide)) k).trans ((ho.r (by decide) k).trans (f6 k))) (fun k a b c => (g4 k b a).trans (e338 k)) (L' := L + 20) (B' := fun k => if k < L then B k else Classical.choose (fm_by x1 x2 x3 x4 x5 (k - L))) ⟨hL, (v0 1).trans f2, g2, fun k hk => ?_⟩ (os' := os) ⟨⟨(v0 3).trans ((f3 3 (by decide)).trans u1.1), u1.2.1, fun k hk => (g1.i (nl 2 (by decide) (by decide)) k).trans ((ho.i (by decide) k).trans ((f1.i (by decide) k).trans (u1.2.2 k hk)))⟩, ⟨(g4 38 (by decide) (by decide)).trans ((e338 38).trans u2.1), u2.2.1, fun k hk => (g1.i (nl 362 (by decide) (by decide)) k).trans ((ho.i (by decide) k).trans ((f1.i (nf 362 (by decide)) k).trans (u2.2.2 k hk)))⟩⟩).v, g1.l (nl 363 (by decide) (by decide)) 0, g1.2.2.2.1⟩
    by_cases hkL : k < L
    · rw [if_pos hkL]
      exact ⟨(b4 k hkL).1, (v1 k).trans ((f5 k (Or.inl hkL)).trans (b4 k hkL).2.1), (g6 k (Or.inl hkL)).trans ((v352 k).trans (b4 k hkL).2.2)⟩
    · rw [if_neg hkL]
      have hsp := Classical.choose_spec (fm_by x1 x2 x3 x4 x5 (k - L))
      have e : L + (k - L) = k := by omega
      have a1 := f4 (k - L) (by omega)
      have a2 := g5 (k - L) (by omega)
      rw [e] at a1 a2
      exact ⟨hsp.1, (v1 k).trans (a1.trans hsp.2.2), a2.trans hsp.2.1⟩
  · refine op_no h (k := 1) (by simp) (cx_feed hw (by omega) b1 b2 x1 x2 x3 x4 x5) (fun W' h' => ?_)
    obtain ⟨_, V, k, rfl, hq⟩ := mx_feed h'.cr.wf (by omega) b1 h'.re.2.1.2.2.1 x1 x2 x3 x4 x5
    exact ⟨_, V, Exists.intro _ rfl, k, hq⟩
theorem o_writeTrolley (h : RelV N μ) (x : Int32) : OpR Y_X10_writeTrolley R_X10_writeTrolley RX_X10_writeTrolley Y_X11_writeTrolley R_X11_writeTrolley [.int x] [(NSE, 1)] N μ := by
  obtain ⟨p, p0, q, d, H, S, L, B, os, nm, h⟩ := h
  have hw := h.cr.wf
  have hv := h.cr.fv
  have hq := h.cr.pv
  have hg := h.gp
  have hd := h.ind.1
  have hn := h.ind.2.2.1
  have he := h.ind.2.2.2.1
  have hI := h.up
  obtain ⟨r9, ⟨b1, b2, b3, b4⟩, ⟨u1, u2⟩, hN, _⟩ := h.re
  cases e1 : ixO x (pT q) with
  | none =>
    refine op_no h (k := 1) (by simp) (cx_writeTrolley hw hv hq e1) (fun W' h' => ?_)
    obtain ⟨_, V, k, rfl, hq⟩ := mx_writeTrolley h'.cr.wf h'.mn.1 e1
    exact ⟨_, V, Exists.intro _ rfl, k, hq⟩
  | some t =>
    obtain ⟨ht, rfl⟩ := ixO_some e1
    obtain ⟨_, W, kc, rfl, o1, f1, f3, f6⟩ := c_writeTrolley hw hv hq (fun i hi => (hN i hi).1) ht
    refine Or.inl ⟨_, W, Exists.intro _ rfl, f1.1, kc, f1.2.2.2.1, fun W' ho => ?_⟩
    have f1' : Out sIo μ W := f1.mono (fun i y => by rcases y with y | y <;> omega)
    have ho' : Out sIo W W' := ho.mono (fun i y => by omega)
    have nf : ∀ i, i ≠ 0 → i ≠ 2 → ¬ sOw i := fun i a b y => by rcases y with y | y <;> omega
    have nf' : ∀ i, 338 ≤ i → ¬ sOw i := fun i a => nf i (by omega) (by omega)
    have e338 : ∀ k, gI W' 338 k = gI μ 338 k := fun k => (ho.i (by decide) k).trans (f1.i (nf' 338 (by decide)) k)
    have hmd : MdV W' q d := (h.mn.1.out f1 (nf' _ (by decide)) (nf' _ (by decide))).out ho (by decide) (by decide)
    obtain ⟨_, V, km, rfl, o2, g1, g3, g4⟩ := m_writeTrolley ho.1 hmd hg hd (fun i hi => (hN i hi).2.1) (fun i hi => (ho.l (by decide) i).trans ((f1.l (nf' 341 (by decide)) i).trans (hN i hi).2.2)) ht
    have g1' : Out sIo W' V := g1.mono (fun i y => by rcases y with y | y <;> omega)
    have nl : ∀ i, i ≠ 338 → i ≠ 362 → ¬ sMw i := fun i a b y => by rcases y with y | y <;> omega
    have v0 : ∀ k, gI V 0 k = gI W 0 k := fun k => (g1.i (nl 0 (by decide) (by decide)) k).trans (ho.i (by decide) k)
    refine ⟨V, km, g3, (rel_io h ((f1'.trans ho').trans g1') (fun i y => y) (fun k a b => (v0 k).trans (f3 k b)) (fun k => (g1.r (nl 0 (by decide) (by decide)) k).trans ((ho.r (by decide) k).trans (f6 k))) (fun k a b c => (g4 k a c).trans (e338 k)) (L' := L) (B' := B) ⟨b1, (v0 1).trans ((f3 1 (by decide)).trans b2), (g4 17 (by decide) (by decide)).trans ((e338 17).trans b3), fun k hk => ⟨(b4 k hk).1, (g1.i (nl 1 (by decide) (by decide)) k).trans ((ho.i (by decide) k).trans ((f1.i (nf 1 (by decide) (by decide)) k).trans (b4 k hk).2.1)), (g1.i (nl 352 (by decide) (by decide)) k).trans ((ho.i (by decide) k).trans ((f1.i (nf' 352 (by decide)) k).trans (b4 k hk).2.2))⟩⟩ (os' := twD q d nm t) ⟨⟨(v0 3).trans o1.1, o1.2.1, fun k hk => (g1.i (nl 2 (by decide) (by decide)) k).trans ((ho.i (by decide) k).trans (o1.2.2 k hk))⟩, o2⟩).v, g1.l (nl 363 (by decide) (by decide)) 0, g1.2.2.2.1⟩
end STEPIO
