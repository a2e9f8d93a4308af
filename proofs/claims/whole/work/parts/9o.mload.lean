section MLOAD
variable {μ W V : Wd} {B : Nat → Nat} {n p x : Nat} {z : PZ}
abbrev s40 : Nat → Prop := fun i => i = 340 ∨ i = 345
theorem Out.p40 (a : Out s40 μ V) : PaF μ V := ⟨a.mono (fun i y => y.elim (fun y => Or.inr (Or.inl y)) (fun y => Or.inr (Or.inr (Or.inr (Or.inr y))))), fun k _ => a.i (by decide) k, fun k _ => a.l (by decide) k⟩
/-- what reading leaves in the model -/
def RdP (B : Nat → Nat) (n : Nat) (μ : Wd) (r : (Nat × Nat) ⊕ PZ) (v : Option Value) (V : Wd) : Prop := PaF μ V ∧ match r with
  | .inl e => v = some (.int 0) ∧ gI V 338 23 = nI e.1 ∧ gI V 338 24 = nI e.2
  | .inr z => v = some (.int 1) ∧ GzD z ∧ ∃ p, MgV B n p z V
theorem bA_m1 {k : Nat} (hB : ∀ k, k < n → B k < 256) : bA B n k = -1 ↔ n ≤ k := by
  unfold bA
  by_cases h : k < n
  · rw [if_pos h]
    exact ⟨fun q => absurd q (nI_ne1 (by have := hB k h; omega)), fun q => by omega⟩
  · rw [if_neg h]; exact ⟨fun _ => by omega, fun _ => rfl⟩
theorem tkK0 : tkK B n p = 0 ↔ n ≤ tkS B n p := by
  unfold tkK
  by_cases h : n ≤ tkS B n p
  · rw [if_pos h]; exact ⟨fun _ => h, fun _ => rfl⟩
  · rw [if_neg h]
    refine ⟨fun q => ?_, fun q => absurd q h⟩
    exfalso
    split at q
    · cases q
    · unfold kdN at q
      split at q
      · cases q
      · split at q
        · cases q
        · split at q <;> cases q
abbrev R_X11_readFlight : Room := { frames := 10, cells := 0, slots := 0, locals := 213 }
abbrev RX_X11_readFlight : Room := { frames := 10, cells := 1, slots := 6, locals := 213 }

theorem rf1_l {Q : Oc → Wd → Prop} (kx : ∀ W : Wd, Out s40 μ W → (∀ i, i ≠ 340 → ∀ k, gI W i k = gI μ i k) → (∀ k, k < 89 → gI W 340 k = 0) → WP Y_X11_readFlight R_X11_readFlight (0, 0) W 21 [(0, .ref 338)] [] Q) : ∀ (dd m : Nat) (W : Wd), m + dd = 89 → Out s40 μ W → (∀ i, i ≠ 340 → ∀ k, gI W i k = gI μ i k) → (∀ k, k < m → gI W 340 k = 0) → WP Y_X11_readFlight R_X11_readFlight (0, 0) W 2 [(0, .ref 338), (1, .int (nI m))] [] Q := by
  intro dd
  induction dd with
  | zero =>
    intro m W hm hO hX hz
    have hw := hO.1
    obtain rfl : 89 = m := by omega
    refine lf (a_iload_n dX11_readFlight_2 rfl) ?_
    refine lf (a_bipush (89 : Int32) dX11_readFlight_3 (by decide)) ?_
    refine lf2 (a_icmp_ge (tgt := 21) dX11_readFlight_5 (by decide)) (fun h5 => ?_) (fun h5 => absurd h5 (fun q => q (nI_le (b := 89) (Nat.le_refl _) (by decide))))
    exact lf (a_loc _ rfl) (kx W hO hX hz)
  | succ dd ih =>
    intro m W hm hO hX hz
    have hw := hO.1
    refine lf (a_iload_n dX11_readFlight_2 rfl) ?_
    refine lf (a_bipush (89 : Int32) dX11_readFlight_3 (by decide)) ?_
    refine lf2 (a_icmp_ge (tgt := 21) dX11_readFlight_5 (by decide)) (fun h5 => absurd h5 (nI_ge (a := m) (b := 89) (by omega) (by decide))) (fun h5 => ?_)
    refine lf (a_aload_n dX11_readFlight_8 rfl) ?_
    refine lf (a_getR (cr_338_2 (by repeat (first | with_reducible exact hw | with_reducible exact hwc | with_reducible assumption | with_reducible apply Wf.sI | with_reducible apply Wf.sL | with_reducible apply Wf.cpI | with_reducible apply Wf.cpL | with_reducible apply Wf.cp2 | with_reducible apply Wf.sIs | with_reducible apply Wf.sLs | with_reducible apply Wf.cpU | with_reducible apply Wf.fillI | with_reducible apply Wf.clU | with_reducible apply Wf.dnF | with_reducible apply Wf.gbW))) dX11_readFlight_9 fs_X11_13 rfl (co_338 (by repeat (first | with_reducible exact hw | with_reducible exact hwc | with_reducible assumption | with_reducible apply Wf.sI | with_reducible apply Wf.sL | with_reducible apply Wf.cpI | with_reducible apply Wf.cpL | with_reducible apply Wf.cp2 | with_reducible apply Wf.sIs | with_reducible apply Wf.sLs | with_reducible apply Wf.cpU | with_reducible apply Wf.fillI | with_reducible apply Wf.clU | with_reducible apply Wf.dnF | with_reducible apply Wf.gbW)))) ?_
    refine lf (a_iload_n dX11_readFlight_12 rfl) ?_
    refine lf (a_iconst (0 : Int32) dX11_readFlight_13 (by decide)) ?_
    refine lf (a_ist dX11_readFlight_14 (ca_340 (by repeat (first | with_reducible exact hw | with_reducible exact hwc | with_reducible assumption | with_reducible apply Wf.sI | with_reducible apply Wf.sL | with_reducible apply Wf.cpI | with_reducible apply Wf.cpL | with_reducible apply Wf.cp2 | with_reducible apply Wf.sIs | with_reducible apply Wf.sLs | with_reducible apply Wf.cpU | with_reducible apply Wf.fillI | with_reducible apply Wf.clU | with_reducible apply Wf.dnF | with_reducible apply Wf.gbW))) (ixn (show m < 89 by omega) (by decide))) ?_
    refine lf (a_iincN dX11_readFlight_15 rfl (by decide)) ?_
    refine lf (a_goto (tgt := 2) dX11_readFlight_18 (by decide)) ?_
    exact lf (a_loc _ rfl) (ih (m + 1) _ (by omega) (hO.sI (S := s40) (by decide) _ _) (fun i hi k => by rw [gI_sI, if_neg (fun q => hi q.1)]; exact hX i hi k) (fun k hk => by rw [gI_sI]; by_cases hx : k = m; (· rw [if_pos ⟨rfl, hx⟩]); (· rw [if_neg (fun q => hx q.2)]; exact hz k (by omega))))
theorem rf2_l {Q : Oc → Wd → Prop} (kx : ∀ W : Wd, Out s40 μ W → (∀ i, i ≠ 345 → ∀ k, gI W i k = gI μ i k) → (∀ k, k < 291 → gI W 345 k = 0) → WP Y_X11_readFlight R_X11_readFlight (0, 0) W 43 [(0, .ref 338)] [] Q) : ∀ (dd m : Nat) (W : Wd), m + dd = 291 → Out s40 μ W → (∀ i, i ≠ 345 → ∀ k, gI W i k = gI μ i k) → (∀ k, k < m → gI W 345 k = 0) → WP Y_X11_readFlight R_X11_readFlight (0, 0) W 23 [(0, .ref 338), (1, .int (nI m))] [] Q := by
  intro dd
  induction dd with
  | zero =>
    intro m W hm hO hX hz
    have hw := hO.1
    obtain rfl : 291 = m := by omega
    refine lf (a_iload_n dX11_readFlight_23 rfl) ?_
    refine lf (a_sipush (291 : Int32) dX11_readFlight_24 (by decide)) ?_
    refine lf2 (a_icmp_ge (tgt := 43) dX11_readFlight_27 (by decide)) (fun h27 => ?_) (fun h27 => absurd h27 (fun q => q (nI_le (b := 291) (Nat.le_refl _) (by decide))))
    exact lf (a_loc _ rfl) (kx W hO hX hz)
  | succ dd ih =>
    intro m W hm hO hX hz
    have hw := hO.1
    refine lf (a_iload_n dX11_readFlight_23 rfl) ?_
    refine lf (a_sipush (291 : Int32) dX11_readFlight_24 (by decide)) ?_
    refine lf2 (a_icmp_ge (tgt := 43) dX11_readFlight_27 (by decide)) (fun h27 => absurd h27 (nI_ge (a := m) (b := 291) (by omega) (by decide))) (fun h27 => ?_)
    refine lf (a_aload_n dX11_readFlight_30 rfl) ?_
    refine lf (a_getR (cr_338_7 (by repeat (first | with_reducible exact hw | with_reducible exact hwc | with_reducible assumption | with_reducible apply Wf.sI | with_reducible apply Wf.sL | with_reducible apply Wf.cpI | with_reducible apply Wf.cpL | with_reducible apply Wf.cp2 | with_reducible apply Wf.sIs | with_reducible apply Wf.sLs | with_reducible apply Wf.cpU | with_reducible apply Wf.fillI | with_reducible apply Wf.clU | with_reducible apply Wf.dnF | with_reducible apply Wf.gbW))) dX11_readFlight_31 fs_X11_29 rfl (co_338 (by repeat (first | with_reducible exact hw | with_reducible exact hwc | with_reducible assumption | with_reducible apply Wf.sI | with_reducible apply Wf.sL | with_reducible apply Wf.cpI | with_reducible apply Wf.cpL | with_reducible apply Wf.cp2 | with_reducible apply Wf.sIs | with_reducible apply Wf.sLs | with_reducible apply Wf.cpU | with_reducible apply Wf.fillI | with_reducible apply Wf.clU | with_reducible apply Wf.dnF | with_reducible apply Wf.gbW)))) ?_
    refine lf (a_iload_n dX11_readFlight_34 rfl) ?_
    refine lf (a_iconst (0 : Int32) dX11_readFlight_35 (by decide)) ?_
    refine lf (a_ist dX11_readFlight_36 (ca_345 (by repeat (first | with_reducible exact hw | with_reducible exact hwc | with_reducible assumption | with_reducible apply Wf.sI | with_reducible apply Wf.sL | with_reducible apply Wf.cpI | with_reducible apply Wf.cpL | with_reducible apply Wf.cp2 | with_reducible apply Wf.sIs | with_reducible apply Wf.sLs | with_reducible apply Wf.cpU | with_reducible apply Wf.fillI | with_reducible apply Wf.clU | with_reducible apply Wf.dnF | with_reducible apply Wf.gbW))) (ixn (show m < 291 by omega) (by decide))) ?_
    refine lf (a_iincN dX11_readFlight_37 rfl (by decide)) ?_
    refine lf (a_goto (tgt := 23) dX11_readFlight_40 (by decide)) ?_
    exact lf (a_loc _ rfl) (ih (m + 1) _ (by omega) (hO.sI (S := s40) (by decide) _ _) (fun i hi k => by rw [gI_sI, if_neg (fun q => hi q.1)]; exact hX i hi k) (fun k hk => by rw [gI_sI]; by_cases hx : k = m; (· rw [if_pos ⟨rfl, hx⟩]); (· rw [if_neg (fun q => hx q.2)]; exact hz k (by omega))))
theorem rf3_l : ∀ (c p : Nat) (z : PZ) (W : Wd), n - p < c → PaF μ W → MgV B n p z W → GzD z → WP Y_X11_readFlight R_X11_readFlight (0, 0) W 74 [(0, .ref 338)] [] (fun o V => ∃ v, o = .inl v ∧ RdP B n μ (rdS B n c p z) v V) := by
  intro c
  induction c with
  | zero => intro p z W h; omega
  | succ c ih =>
    intro p z W hc hF hz hg
    have hw := hz.wf
    have hB : ∀ k, k < n → B k < 256 := fun k hk => hz.tx.b256 hk
    have hm1 := bA_m1 (k := tkS B n p) hB
    have hpn := hz.le
    refine lf (a_aload_n dX11_readFlight_74 rfl) ?_
    obtain ⟨v_, W75, k75, rfl, hF0, hH⟩ := (m_peek hw hz.tx)
    have hz1 := hz.hd hF0 hH
    have hw1 := hz1.wf
    have hF75 := hF.trans hF0.fk.pa
    refine lf (a_inv (b2 := (0, 0)) k75 rfl dX11_readFlight_75 yk_X11_peek im_X11_peek se_X11_peek ml_X11_148 rfl (co_338 (by repeat (first | with_reducible exact hw | with_reducible exact hwc | with_reducible assumption | with_reducible apply Wf.sI | with_reducible apply Wf.sL | with_reducible apply Wf.cpI | with_reducible apply Wf.cpL | with_reducible apply Wf.cp2 | with_reducible apply Wf.sIs | with_reducible apply Wf.sLs | with_reducible apply Wf.cpU | with_reducible apply Wf.fillI | with_reducible apply Wf.clU | with_reducible apply Wf.dnF | with_reducible apply Wf.gbW))) (by decide) hc_X11 (by decide) (by decide) (Nat.le_of_ble_eq_true rfl)) ?_
    refine lf (a_iconst (-1 : Int32) dX11_readFlight_78 (by decide)) ?_
    refine lf2 (a_icmp_eq (tgt := 98) dX11_readFlight_79 (by decide)) (fun h79 => ?_) (fun h79 => ?_)
    · refine lf (a_iconst (1 : Int32) dX11_readFlight_98 (by decide)) ?_
      refine ⟨_, _, (a_ireturn dX11_readFlight_99 rfl rfl), ?_⟩
      refine ⟨_, rfl, hF75, ?_⟩
      rw [rd_end (tkK0.mpr (hm1.mp h79))]
      exact ⟨rfl, hg, p, hz1⟩
    · refine lf (a_aload_n dX11_readFlight_82 rfl) ?_
      obtain ⟨v_, W83, k83, hR83⟩ := (m_readStatement hz1 hg)
      obtain ⟨x83, rfl, hx83⟩ := hR83.v
      refine lf (a_inv (b2 := (0, 0)) k83 rfl dX11_readFlight_83 yk_X11_readStatement im_X11_readStatement se_X11_readStatement ml_X11_279 rfl (co_338 (by repeat (first | with_reducible exact hw | with_reducible exact hwc | with_reducible assumption | with_reducible apply Wf.sI | with_reducible apply Wf.sL | with_reducible apply Wf.cpI | with_reducible apply Wf.cpL | with_reducible apply Wf.cp2 | with_reducible apply Wf.sIs | with_reducible apply Wf.sLs | with_reducible apply Wf.cpU | with_reducible apply Wf.fillI | with_reducible apply Wf.clU | with_reducible apply Wf.dnF | with_reducible apply Wf.gbW))) (by decide) hc_X11 (by decide) (by decide) (Nat.le_of_ble_eq_true rfl)) ?_
      rcases hR83.2 with ⟨hv1, P, z', hst, hzP⟩ | ⟨hv0, e, hst, hE⟩
      · injection hv1 with hv1
        injection hv1 with hv1
        subst hv1
        have hwP := hzP.wf
        refine lf2 (a_if_eq (tgt := 96) dX11_readFlight_86 (by decide)) (fun h86 => absurd h86 (by decide)) (fun h86 => ?_)
        refine lf (a_aload_n dX11_readFlight_89 rfl) ?_
        obtain ⟨v_, W90, k90, hR90⟩ := (m_readSemicolon hzP)
        obtain ⟨hX90, hR90⟩ := hR90
        generalize hr90 : sgS B n P = r90 at hR90
        cases r90 with
        | inl a90 =>
          obtain ⟨rfl, hE90⟩ := hR90
          have hF90 := (hF75.trans hR83.1).trans hX90.pa
          have hsz : sgZ B n P z' = .inl a90 := by unfold sgZ; rw [hr90]; rfl
          rw [hsz] at hst
          refine lf (a_inv (b2 := (0, 0)) k90 rfl dX11_readFlight_90 yk_X11_readSemicolon im_X11_readSemicolon se_X11_readSemicolon ml_X11_282 rfl (co_338 (by repeat (first | with_reducible exact hw | with_reducible exact hwc | with_reducible assumption | with_reducible apply Wf.sI | with_reducible apply Wf.sL | with_reducible apply Wf.cpI | with_reducible apply Wf.cpL | with_reducible apply Wf.cp2 | with_reducible apply Wf.sIs | with_reducible apply Wf.sLs | with_reducible apply Wf.cpU | with_reducible apply Wf.fillI | with_reducible apply Wf.clU | with_reducible apply Wf.dnF | with_reducible apply Wf.gbW))) (by decide) hc_X11 (by decide) (by decide) (Nat.le_of_ble_eq_true rfl)) ?_
          refine lfn (a_if_ne (tgt := 74) dX11_readFlight_93 (by decide)) (fun h93 => absurd h93 (by decide)) (fun h93 => ?_)
          refine lf (a_iconst (0 : Int32) dX11_readFlight_96 (by decide)) ?_
          refine ⟨_, _, (a_ireturn dX11_readFlight_97 rfl rfl), ?_⟩
          refine ⟨_, rfl, hF90, ?_⟩
          rw [rd_bad (fun q => h79 (hm1.mpr (tkK0.mp q))) hst]
          exact ⟨rfl, hE90⟩
        | inr a90 =>
          obtain ⟨rfl, hM90⟩ := hR90
          have hF90 := (hF75.trans hR83.1).trans hX90.pa
          have hsz : sgZ B n P z' = .inr (P, z') := by unfold sgZ; rw [hr90]; rfl
          rw [hsz] at hst
          refine lf (a_inv (b2 := (0, 0)) k90 rfl dX11_readFlight_90 yk_X11_readSemicolon im_X11_readSemicolon se_X11_readSemicolon ml_X11_282 rfl (co_338 (by repeat (first | with_reducible exact hw | with_reducible exact hwc | with_reducible assumption | with_reducible apply Wf.sI | with_reducible apply Wf.sL | with_reducible apply Wf.cpI | with_reducible apply Wf.cpL | with_reducible apply Wf.cp2 | with_reducible apply Wf.sIs | with_reducible apply Wf.sLs | with_reducible apply Wf.cpU | with_reducible apply Wf.fillI | with_reducible apply Wf.clU | with_reducible apply Wf.dnF | with_reducible apply Wf.gbW))) (by decide) hc_X11 (by decide) (by decide) (Nat.le_of_ble_eq_true rfl)) ?_
          refine lfn (a_if_ne (tgt := 74) dX11_readFlight_93 (by decide)) (fun h93 => ?_) (fun h93 => absurd h93 (by decide))
          have hadv := adv_st hpn hst
          have hg2 := gz_st hpn hg hst
          have hk0 : ¬ tkK B n p = 0 := fun q => h79 (hm1.mpr (tkK0.mp q))
          have hte := (tkE_le (B := B) hpn).2.2 (by have : ¬ n ≤ tkS B n p := fun q => h79 (hm1.mpr q); omega)
          have hts := (tkS_le (B := B) hpn).1
          have hPe := E1 (B := B) hzP.le
          rw [rd_ok hk0 hst]
          exact lf (a_loc _ rfl) (ih (tkE B n P) z' _ (by dsimp only at hadv; omega) hF90 hM90 hg2)
      · injection hv0 with hv0
        injection hv0 with hv0
        subst hv0
        refine lf2 (a_if_eq (tgt := 96) dX11_readFlight_86 (by decide)) (fun h86 => ?_) (fun h86 => absurd h86 (by decide))
        refine lf (a_iconst (0 : Int32) dX11_readFlight_96 (by decide)) ?_
        refine ⟨_, _, (a_ireturn dX11_readFlight_97 rfl rfl), ?_⟩
        refine ⟨_, rfl, hF75.trans hR83.1, ?_⟩
        rw [rd_bad (fun q => h79 (hm1.mpr (tkK0.mp q))) hst]
        exact ⟨rfl, hE⟩
theorem rf_dr (hO : Out s40 μ W) (h0 : ∀ k, k < 89 → gI W 340 k = 0) (h5 : ∀ k, k < 291 → gI W 345 k = 0) {m0 : Int32} {A0 : Nat → Int64} : Out s40 μ (sI (sI (sI (sI W 340 3 30) 340 4 10) 345 0 1) 345 2 120) ∧ DrV (rz0 m0 A0) (sI (sI (sI (sI W 340 3 30) 340 4 10) 345 0 1) 345 2 120) := by
  refine ⟨(((hO.sI (S := s40) (by decide) _ _).sI (S := s40) (by decide) _ _).sI (S := s40) (by decide) _ _).sI (S := s40) (by decide) _ _, ⟨⟨?_, ?_, ?_, ?_, ?_⟩, fun i hi => absurd hi (Nat.not_lt_zero i), fun i hi => absurd hi (Nat.not_lt_zero i), fun i hi => absurd hi (Nat.not_lt_zero i)⟩, ⟨⟨?_, ?_, ?_, ?_, ?_⟩, fun i hi => absurd hi (Nat.not_lt_zero i), fun k h1 h2 => ?_⟩, fun i hi => absurd hi (Nat.not_lt_zero i), fun i hi => absurd hi (Nat.not_lt_zero i)⟩
  · rw [gI_sI, if_neg (by omega), gI_sI, if_neg (by omega), gI_sI, if_neg (by omega), gI_sI, if_neg (by omega)]; exact h0 0 (by decide)
  · rw [gI_sI, if_neg (by omega), gI_sI, if_neg (by omega), gI_sI, if_neg (by omega), gI_sI, if_neg (by omega)]; exact h0 1 (by decide)
  · rw [gI_sI, if_neg (by omega), gI_sI, if_neg (by omega), gI_sI, if_neg (by omega), gI_sI, if_neg (by omega)]; exact h0 2 (by decide)
  · rw [gI_sI, if_neg (by omega), gI_sI, if_neg (by omega), gI_sI, if_neg (by omega), gI_sI, if_pos ⟨rfl, rfl⟩]; rfl
  · rw [gI_sI, if_neg (by omega), gI_sI, if_neg (by omega), gI_sI, if_pos ⟨rfl, rfl⟩]; rfl
  · rw [gI_sI, if_neg (by omega), gI_sI, if_pos ⟨rfl, rfl⟩]
  · rw [gI_sI, if_neg (by omega), gI_sI, if_neg (by omega), gI_sI, if_neg (by omega), gI_sI, if_neg (by omega)]; exact h5 1 (by decide)
  · rw [gI_sI, if_pos ⟨rfl, rfl⟩]; rfl
  · rw [gI_sI, if_neg (by omega), gI_sI, if_neg (by omega), gI_sI, if_neg (by omega), gI_sI, if_neg (by omega)]; exact h5 3 (by decide)
  · rw [gI_sI, if_neg (by omega), gI_sI, if_neg (by omega), gI_sI, if_neg (by omega), gI_sI, if_neg (by omega)]; exact h5 4 (by decide)
  · rw [gI_sI, if_neg (by omega), gI_sI, if_neg (by omega), gI_sI, if_neg (by omega), gI_sI, if_neg (by omega)]; exact h5 k h2
theorem m_readFlight (hw : Wf μ) (hT : TxV B n 0 μ) (h23 : gI μ 338 23 = 0) (h24 : gI μ 338 24 = -1) (m0 : Int32) (A0 : Nat → Int64) : CV Y_X11_readFlight R_X11_readFlight [.ref 338] μ (RdP B n μ (rdS B n (n + 1) 0 (rz0 m0 A0))) := by
  refine CV.ent yk_X11_readFlight (Nat.le_of_ble_eq_true rfl) ?_
  refine lf (a_iconst (0 : Int32) dX11_readFlight_0 (by decide)) ?_
  refine lf (a_istore_n dX11_readFlight_1 (by decide)) ?_
  refine lf (a_loc [(0, .ref 338), (1, .int (nI 0))] rfl) (rf1_l (μ := μ) (fun W hOW hX1 hz1 => ?_) 89 0 μ (by omega) (Out.rfl' hw) (fun _ _ _ => rfl) (fun k hk => absurd hk (Nat.not_lt_zero k)))
  have hwW := hOW.1
  refine lf (a_iconst (0 : Int32) dX11_readFlight_21 (by decide)) ?_
  refine lf (a_istore_n dX11_readFlight_22 (by decide)) ?_
  refine lf (a_loc [(0, .ref 338), (1, .int (nI 0))] rfl) (rf2_l (μ := W) (fun W2 hO2 hX2 hz2 => ?_) 291 0 W (by omega) (Out.rfl' hOW.1) (fun _ _ _ => rfl) (fun k hk => absurd hk (Nat.not_lt_zero k)))
  have hw2 := hO2.1
  refine lf (a_aload_n dX11_readFlight_43 rfl) ?_
  refine lf (a_getR (cr_338_2 (by repeat (first | with_reducible exact hw | with_reducible exact hwc | with_reducible assumption | with_reducible apply Wf.sI | with_reducible apply Wf.sL | with_reducible apply Wf.cpI | with_reducible apply Wf.cpL | with_reducible apply Wf.cp2 | with_reducible apply Wf.sIs | with_reducible apply Wf.sLs | with_reducible apply Wf.cpU | with_reducible apply Wf.fillI | with_reducible apply Wf.clU | with_reducible apply Wf.dnF | with_reducible apply Wf.gbW))) dX11_readFlight_44 fs_X11_13 rfl (co_338 (by repeat (first | with_reducible exact hw | with_reducible exact hwc | with_reducible assumption | with_reducible apply Wf.sI | with_reducible apply Wf.sL | with_reducible apply Wf.cpI | with_reducible apply Wf.cpL | with_reducible apply Wf.cp2 | with_reducible apply Wf.sIs | with_reducible apply Wf.sLs | with_reducible apply Wf.cpU | with_reducible apply Wf.fillI | with_reducible apply Wf.clU | with_reducible apply Wf.dnF | with_reducible apply Wf.gbW)))) ?_
  refine lf (a_iconst (3 : Int32) dX11_readFlight_47 (by decide)) ?_
  refine lf (a_bipush (30 : Int32) dX11_readFlight_48 (by decide)) ?_
  refine lf (a_ist dX11_readFlight_50 (ca_340 (by repeat (first | with_reducible exact hw | with_reducible exact hwc | with_reducible assumption | with_reducible apply Wf.sI | with_reducible apply Wf.sL | with_reducible apply Wf.cpI | with_reducible apply Wf.cpL | with_reducible apply Wf.cp2 | with_reducible apply Wf.sIs | with_reducible apply Wf.sLs | with_reducible apply Wf.cpU | with_reducible apply Wf.fillI | with_reducible apply Wf.clU | with_reducible apply Wf.dnF | with_reducible apply Wf.gbW))) (ixn (m := 3) (by decide) (by decide))) ?_
  refine lf (a_aload_n dX11_readFlight_51 rfl) ?_
  refine lf (a_getR (cr_338_2 (by repeat (first | with_reducible exact hw | with_reducible exact hwc | with_reducible assumption | with_reducible apply Wf.sI | with_reducible apply Wf.sL | with_reducible apply Wf.cpI | with_reducible apply Wf.cpL | with_reducible apply Wf.cp2 | with_reducible apply Wf.sIs | with_reducible apply Wf.sLs | with_reducible apply Wf.cpU | with_reducible apply Wf.fillI | with_reducible apply Wf.clU | with_reducible apply Wf.dnF | with_reducible apply Wf.gbW))) dX11_readFlight_52 fs_X11_13 rfl (co_338 (by repeat (first | with_reducible exact hw | with_reducible exact hwc | with_reducible assumption | with_reducible apply Wf.sI | with_reducible apply Wf.sL | with_reducible apply Wf.cpI | with_reducible apply Wf.cpL | with_reducible apply Wf.cp2 | with_reducible apply Wf.sIs | with_reducible apply Wf.sLs | with_reducible apply Wf.cpU | with_reducible apply Wf.fillI | with_reducible apply Wf.clU | with_reducible apply Wf.dnF | with_reducible apply Wf.gbW)))) ?_
  refine lf (a_iconst (4 : Int32) dX11_readFlight_55 (by decide)) ?_
  refine lf (a_bipush (10 : Int32) dX11_readFlight_56 (by decide)) ?_
  refine lf (a_ist dX11_readFlight_58 (ca_340 (by repeat (first | with_reducible exact hw | with_reducible exact hwc | with_reducible assumption | with_reducible apply Wf.sI | with_reducible apply Wf.sL | with_reducible apply Wf.cpI | with_reducible apply Wf.cpL | with_reducible apply Wf.cp2 | with_reducible apply Wf.sIs | with_reducible apply Wf.sLs | with_reducible apply Wf.cpU | with_reducible apply Wf.fillI | with_reducible apply Wf.clU | with_reducible apply Wf.dnF | with_reducible apply Wf.gbW))) (ixn (m := 4) (by decide) (by decide))) ?_
  refine lf (a_aload_n dX11_readFlight_59 rfl) ?_
  refine lf (a_getR (cr_338_7 (by repeat (first | with_reducible exact hw | with_reducible exact hwc | with_reducible assumption | with_reducible apply Wf.sI | with_reducible apply Wf.sL | with_reducible apply Wf.cpI | with_reducible apply Wf.cpL | with_reducible apply Wf.cp2 | with_reducible apply Wf.sIs | with_reducible apply Wf.sLs | with_reducible apply Wf.cpU | with_reducible apply Wf.fillI | with_reducible apply Wf.clU | with_reducible apply Wf.dnF | with_reducible apply Wf.gbW))) dX11_readFlight_60 fs_X11_29 rfl (co_338 (by repeat (first | with_reducible exact hw | with_reducible exact hwc | with_reducible assumption | with_reducible apply Wf.sI | with_reducible apply Wf.sL | with_reducible apply Wf.cpI | with_reducible apply Wf.cpL | with_reducible apply Wf.cp2 | with_reducible apply Wf.sIs | with_reducible apply Wf.sLs | with_reducible apply Wf.cpU | with_reducible apply Wf.fillI | with_reducible apply Wf.clU | with_reducible apply Wf.dnF | with_reducible apply Wf.gbW)))) ?_
  refine lf (a_iconst (0 : Int32) dX11_readFlight_63 (by decide)) ?_
  refine lf (a_iconst (1 : Int32) dX11_readFlight_64 (by decide)) ?_
  refine lf (a_ist dX11_readFlight_65 (ca_345 (by repeat (first | with_reducible exact hw | with_reducible exact hwc | with_reducible assumption | with_reducible apply Wf.sI | with_reducible apply Wf.sL | with_reducible apply Wf.cpI | with_reducible apply Wf.cpL | with_reducible apply Wf.cp2 | with_reducible apply Wf.sIs | with_reducible apply Wf.sLs | with_reducible apply Wf.cpU | with_reducible apply Wf.fillI | with_reducible apply Wf.clU | with_reducible apply Wf.dnF | with_reducible apply Wf.gbW))) (ixn (m := 0) (by decide) (by decide))) ?_
  refine lf (a_aload_n dX11_readFlight_66 rfl) ?_
  refine lf (a_getR (cr_338_7 (by repeat (first | with_reducible exact hw | with_reducible exact hwc | with_reducible assumption | with_reducible apply Wf.sI | with_reducible apply Wf.sL | with_reducible apply Wf.cpI | with_reducible apply Wf.cpL | with_reducible apply Wf.cp2 | with_reducible apply Wf.sIs | with_reducible apply Wf.sLs | with_reducible apply Wf.cpU | with_reducible apply Wf.fillI | with_reducible apply Wf.clU | with_reducible apply Wf.dnF | with_reducible apply Wf.gbW))) dX11_readFlight_67 fs_X11_29 rfl (co_338 (by repeat (first | with_reducible exact hw | with_reducible exact hwc | with_reducible assumption | with_reducible apply Wf.sI | with_reducible apply Wf.sL | with_reducible apply Wf.cpI | with_reducible apply Wf.cpL | with_reducible apply Wf.cp2 | with_reducible apply Wf.sIs | with_reducible apply Wf.sLs | with_reducible apply Wf.cpU | with_reducible apply Wf.fillI | with_reducible apply Wf.clU | with_reducible apply Wf.dnF | with_reducible apply Wf.gbW)))) ?_
  refine lf (a_iconst (2 : Int32) dX11_readFlight_70 (by decide)) ?_
  refine lf (a_bipush (120 : Int32) dX11_readFlight_71 (by decide)) ?_
  refine lf (a_ist dX11_readFlight_73 (ca_345 (by repeat (first | with_reducible exact hw | with_reducible exact hwc | with_reducible assumption | with_reducible apply Wf.sI | with_reducible apply Wf.sL | with_reducible apply Wf.cpI | with_reducible apply Wf.cpL | with_reducible apply Wf.cp2 | with_reducible apply Wf.sIs | with_reducible apply Wf.sLs | with_reducible apply Wf.cpU | with_reducible apply Wf.fillI | with_reducible apply Wf.clU | with_reducible apply Wf.dnF | with_reducible apply Wf.gbW))) (ixn (m := 2) (by decide) (by decide))) ?_
  obtain ⟨hO3, hD⟩ := rf_dr (m0 := m0) (A0 := A0) (hOW.trans hO2) (fun k hk => (hX2 340 (by decide) k).trans (hz1 k hk)) hz2
  revert hO3 hD
  generalize sI (sI (sI (sI W2 340 3 30) 340 4 10) 345 0 1) 345 2 120 = U
  intro hO3 hD
  have hM : MgV B n 0 (rz0 m0 A0) U := by
    obtain ⟨a1, a2, a3, a4, a5⟩ := hT
    have e := fun k => hO3.i (i := 338) (by decide) k
    have e5 := fun k => hO3.i (i := 352) (by decide) k
    exact ⟨hO3.1, ⟨a1, a2, by rw [e]; exact a3, fun k hk => by rw [e5]; exact a4 k hk, by rw [e]; exact a5⟩, ⟨by rw [e]; exact h23, by rw [e]; exact h24⟩, hD⟩
  exact lf (a_loc [(0, .ref 338)] rfl) (rf3_l (n + 1) 0 _ U (by omega) hO3.p40 hM (gz0 m0 A0))
end MLOAD
