section LDL
variable {μ W V : Wd} {p p0 N r : Nat} {q : PDt} {d d2 : FDt} {H : Hst} {S : Nat → Option FDt} {z : PZ} {l : List Nat}
/-- the input alone has changed -/
theorem CrV.fd (h : CrV μ p q d H S) (hw : Wf W) (he : ∀ i, 2 ≤ i → i < 339 → Sm μ W i) (h17 : gI W 0 17 = gI μ 0 17) : CrV W p q d H S := by
  obtain ⟨h1, h2, h3, ⟨k, r, a1, a2, a3, a4, a5, a6⟩, h5, h6⟩ := h
  refine ⟨hw, h2.fr (fun i a b => he i (by rcases h2.pl with e | e <;> omega) (by rcases h2.pl with e | e <;> omega)), h3.fr (fun i a b => he i (by omega) (by omega)), ⟨k, r, a1, ((he 82 (by decide) (by decide) 1).1).trans a2, ((he 82 (by decide) (by decide) 2).1).trans a3, a4, a5, fun i hi => (a6 i hi).fr (fun j a b => he j (by omega) (by have := (a5 i hi).1; omega))⟩, fun j hj => ?_, ?_⟩
  · have h7 := h5 j hj
    cases hS : S j with
    | none => rw [hS] at h7; exact ((he 323 (by decide) (by decide) j).1).trans h7
    | some x =>
      rw [hS] at h7
      exact ⟨((he 323 (by decide) (by decide) j).1).trans h7.1, h7.2.fr (fun i a b => he i (by omega) (by omega))⟩
  · unfold SvA
    rw [h17]
    refine h6.imp (fun z => z) (fun z => ⟨z.1, ?_⟩)
    obtain ⟨G, rs, n, h1, ⟨b2, b3, b4, b5⟩, b6, b7, b8⟩ := z.2
    have e : ∀ i k, 2 ≤ i → i < 339 → gI W i k = gI μ i k := fun i k a b => (he i a b k).1
    exact ⟨G, rs, n, h1, ⟨fun i hi => by rw [e 335 i (by decide) (by decide)]; exact b2 i hi, fun m hm => by rw [e 336 m (by decide) (by decide), e 337 m (by decide) (by decide)]; exact b3 m hm, by rw [e 334 _ (by decide) (by decide)]; exact b4, by rw [e 334 _ (by decide) (by decide)]; exact b5⟩, by rw [e 334 _ (by decide) (by decide)]; exact b6, by rw [e 334 _ (by decide) (by decide)]; exact b7, by rw [e 334 _ (by decide) (by decide)]; exact b8⟩
/-- between two flights -/
def LwS (p p0 N : Nat) (q : PDt) (d : FDt) (H : Hst) (S : Nat → Option FDt) (W : Wd) : Prop := CrV W p q d H S ∧ (gR W 0 9 = some p0 ∧ Pl p0 ∧ p0 ≠ p) ∧ gI W 0 1 = 0 ∧ AcD N d ∧ AcE d
theorem LwV.s (h : LwV p p0 q d H S N μ) : LwS p p0 N q d H S μ := ⟨h.1, h.2.2.2.2.1, h.2.2.2.2.2, h.2.2.1.1.2.2.2.2, h.2.2.1.2.2.2.2⟩
theorem LwS.fx (h : LwS p p0 N q d H S μ) (hw : Wf W) (he : ∀ i, i < 339 → i ≠ 338 → Sm μ W i) : LwS p p0 N q d H S W := by
  have h0 := he 0 (by decide) (by decide)
  refine ⟨?_, ⟨(h0 9).2.2.trans h.2.1.1, h.2.1.2⟩, (h0 1).1.trans h.2.2.1, h.2.2.2⟩
  obtain ⟨h1, h2, h3, ⟨k, r, a1, a2, a3, a4, a5, a6⟩, h5, h6⟩ := h.1
  refine ⟨hw, h2.fr (fun i a b => he i (by rcases h2.pl with e | e <;> omega) (by rcases h2.pl with e | e <;> omega)), h3.fr (fun i a b => he i (by omega) (by omega)), ⟨k, r, a1, ((he 82 (by decide) (by decide) 1).1).trans a2, ((he 82 (by decide) (by decide) 2).1).trans a3, a4, a5, fun i hi => (a6 i hi).fr (fun j a b => he j (by have := (a5 i hi).1; omega) (by have := (a5 i hi).1; omega))⟩, fun j hj => ?_, ?_⟩
  · have h7 := h5 j hj
    cases hS : S j with
    | none => rw [hS] at h7; exact ((he 323 (by decide) (by decide) j).1).trans h7
    | some x =>
      rw [hS] at h7
      exact ⟨((he 323 (by decide) (by decide) j).1).trans h7.1, h7.2.fr (fun i a b => he i (by omega) (by omega))⟩
  · unfold SvA
    rw [(h0 17).1]
    refine h6.imp (fun z => z) (fun z => ⟨z.1, ?_⟩)
    obtain ⟨G, rs, n, h1, ⟨b2, b3, b4, b5⟩, b6, b7, b8⟩ := z.2
    have e : ∀ i k, i < 338 → gI W i k = gI μ i k := fun i k a => (he i (by omega) (by omega) k).1
    exact ⟨G, rs, n, h1, ⟨fun i hi => by rw [e 335 i (by decide)]; exact b2 i hi, fun m hm => by rw [e 336 m (by decide), e 337 m (by decide)]; exact b3 m hm, by rw [e 334 _ (by decide)]; exact b4, by rw [e 334 _ (by decide)]; exact b5⟩, by rw [e 334 _ (by decide)]; exact b6, by rw [e 334 _ (by decide)]; exact b7, by rw [e 334 _ (by decide)]; exact b8⟩
/-- the flight that has been loaded keeps to all -/
theorem ld_new (hz : ZG 0 z) (hg : GzD z) (hA : AcD N d) (hE : AcE d) : QX z.1 ∧ GX N z.1 (ldA z d) ∧ goD z.1 (ldA z d) := by
  obtain ⟨⟨⟨hC, _, _, h0, h1⟩, htm, hsh, ⟨_, h60, hun⟩, hwi⟩, hM4, hM7, _, _, _, _⟩ := hz
  have hne : ∀ a i, ¬ (a = 6 ∧ i = 1) → dF (ldA z d) a i = dF z.2.1 a i := fun a i y => up2_ne y
  have hQ : QX z.1 := ⟨hg.q, hC, ⟨h0, h1⟩, ⟨hM4, hM7⟩, hg.told, htm, hsh⟩
  refine ⟨hQ, ⟨InD.ld hg hA, fun t m _ _ => Or.inl ((hne _ _ (by omega)).trans (hun t m)), fun c s hc e hs => ?_, fun i hi => Or.inl ((hne _ _ (by omega)).trans (hwi i hi)), hE⟩, go_of hQ.told ((hne _ _ (by omega)).trans h60)⟩
  obtain ⟨s2, h2, e2, h3⟩ := hg.2.2.2.2.2.2.2.2.2.2 c hc
  have e3 : s2 = s := (nI_eqI (by omega) (by omega)).mp (e2.symm.trans e)
  have e4 : paN (ldA z d) (nI c) = paN z.2.1 (nI c) := by
    show fb_ct (fun i => decide (dF (ldA z d) 0 i = nI c)) (dP z.2.1) = _
    exact fb_ct_cong fun i _ => by rw [hne 0 i (by omega)]
  rw [e4, ← e3]
  exact h3
/-- a flight has been loaded -/
def LdX (p p0 N : Nat) (d : FDt) (μ : Wd) (v : Option Value) (V : Wd) : Prop := ∃ (z : PZ) (H : Hst), v = some (.int (nI (dP z.2.1))) ∧ LwV p0 p z.1 (ldA z d) H (fun _ => none) N V ∧ goD z.1 (ldA z d) ∧ 2 ≤ dP z.2.1 ∧ dP z.2.1 ≤ 40 ∧ wn V ≤ wn μ + 93 ∧ gX V = gX μ
abbrev R_L_load : Room := { frames := 32, cells := 93, slots := 481, locals := 2200 }
theorem t_L_load (h : LwS p p0 N q d H S μ) (hs : StrV μ r l) (hl8 : l.length ≤ 800) (hT : TxI (ZG 0) l) (hμ : wn μ + 200 < 1000000) : CV Y_L_load R_L_load [.ref 0, .ref r] μ (LdX p p0 N d μ) := by
  have hw := h.1.wf
  obtain ⟨v_, W2, k2, rfl, m, hI, hm1, hm2⟩ := t_L_type hw (by omega) hs hl8 h.2.2.1
  obtain ⟨hE, hn, hl, hoI, hoR, hB⟩ := hI
  have hw2 := hE.1
  have h128 : ∀ x ∈ l, x < 128 := hs.2.1
  have hC : CrV W2 p q d H S := h.1.fd hw2 (fun i a b => hE.2.2.2.2 i (Nat.lt_of_lt_of_le b hw.1) (fun y => by rcases y with y | y <;> omega)) (hoI 17 (by decide))
  obtain ⟨z, hz1, hz2⟩ := hT (gI W2 41 2) (gL W2 57)
  have hg := hz1.2 (gz0 _ _)
  obtain ⟨hQ, hG, hgo⟩ := ld_new (N := N) hz2 hg h.2.2.2.1 h.2.2.2.2
  have hP := hg.P4
  have hP2 := hz2.2.2.2.1
  obtain ⟨v2, V, k8, rfl, hL⟩ := c_load hC ((hoR 9).trans h.2.1.1) h.2.1.2.1 h.2.1.2.2 (n := l.length) (L := 20 * m) hl (by omega) hm1 (B := chT l) (fun k hk => ⟨Nat.lt_trans (chT_lt h128 k) (by decide), (hB k (by omega)).trans (sby_lo (chT_lt h128 k)).symm⟩) ⟨trivial, trivial, trivial⟩ (by omega) (hz1.all (B := chT l) (fun j hj => if_pos hj)) hG.1.1.s01
  obtain ⟨g1, g2, g3, _, _, _, _, _, _, g5, g4, _⟩ := hL
  refine ⟨_, V, Ct.entH yh_L_load (Nat.le_of_ble_eq_true rfl) ?_, z, (0, H.2), rfl, ⟨g1, hQ, hG, ⟨fun i hi => absurd hi (Nat.not_lt_zero _), fun j e he => nomatch he⟩, ⟨g2, h.1.2.1.pl, fun y => h.2.1.2.2 y.symm⟩, g3⟩, hgo, hP2, hP, by omega, g5.2.2.1.trans hE.2.2.1⟩
  refine a_aload_n dL_load_0 rfl ?_
  refine a_aload_n dL_load_1 rfl ?_
  refine a_invS (b2 := (48, 256)) k2 rfl dL_load_2 yk_L_type sm_L_type ml_L_24 rfl (by decide) (by decide) (Nat.le_of_ble_eq_true rfl) ?_
  refine a_istore_n dL_load_5 (by decide) ?_
  refine a_aload_n dL_load_6 rfl ?_
  refine a_iload_n dL_load_7 rfl ?_
  refine a_inv (b2 := (0, 0)) k8 rfl dL_load_8 yk_X10_load im_X10_load se_X10_load ml_L_30 rfl (co_0 hw2) (by decide) hc_X10 (by decide) (by decide) (Nat.le_of_ble_eq_true rfl) ?_
  exact a_out rfl rfl (a_ireturn dL_load_11 rfl rfl)
end LDL
