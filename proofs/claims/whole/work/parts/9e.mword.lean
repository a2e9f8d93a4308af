section MWORD
variable {μ W V : Wd} {B : Nat → Nat} {n p x : Nat}
def wdL (B : Nat → Nat) (n p : Nat) : Nat := if tkK B n p = 1 ∧ (tkL B n p).length ≤ 8 then wvN (tkL B n p) else 0
theorem tkE_run {k : Nat} (hs : tkS B n p < n) (hk : kdN (B (tkS B n p)) = k) (h12 : k = 1 ∨ k = 2) : ∀ i, tkS B n p ≤ i → i < tkE B n p → kdN (B i) = k := by
  intro i h1 h2
  unfold tkE at h2
  rw [if_neg (by omega), if_pos (by omega)] at h2
  rw [hk] at h2
  by_cases hi : i = tkS B n p
  · rw [hi]; exact hk
  · exact (rnW_ge B k (n - (tkS B n p + 1)) (tkS B n p + 1)).2.2 i (by omega) h2
theorem kd1 {b : Nat} (h : kdN b = 1) : 97 ≤ b ∧ b ≤ 122 := by
  unfold kdN at h
  split at h
  · assumption
  · split at h
    · omega
    · split at h <;> omega
theorem kd2 {b : Nat} (h : kdN b = 2) : 48 ≤ b ∧ b ≤ 57 := by
  unfold kdN at h
  split at h
  · omega
  · split at h
    · assumption
    · split at h <;> omega
theorem tkL_lt (h : tkK B n p = 1) : LtL (tkL B n p) := by
  intro c hc
  obtain ⟨j, hj, rfl⟩ := List.mem_map.mp hc
  have hj2 := List.mem_range.mp hj
  have h1 := tkK1.mp h
  exact kd1 (tkE_run h1.1 h1.2 (Or.inl rfl) _ (by omega) (by omega))
theorem tkL_ne (hp : p ≤ n) (h : tkK B n p = 1) : tkL B n p ≠ [] := by
  intro z
  have h1 := tkK1.mp h
  have h2 := (tkE_le (B := B) hp).2.2 h1.1
  have h3 := tkL_len B n p
  rw [z] at h3
  have h3 : 0 = tkE B n p - tkS B n p := h3
  omega
theorem wdL_lt : wdL B n p < 2 ^ 40 := by
  unfold wdL
  split
  · rename_i h; exact wvN_lt (tkL_lt h.1) h.2
  · decide
theorem wdL_0 (hp : p ≤ n) : wdL B n p = 0 ↔ ¬ (tkK B n p = 1 ∧ (tkL B n p).length ≤ 8) := by
  unfold wdL
  by_cases h : tkK B n p = 1 ∧ (tkL B n p).length ≤ 8
  · rw [if_pos h]
    exact ⟨fun z => absurd z (Nat.pos_iff_ne_zero.mp (wvN_pos (tkL_lt h.1) (tkL_ne hp h.1))), fun z => absurd h z⟩
  · rw [if_neg h]
    exact ⟨fun _ => h, fun _ => rfl⟩
/-- a word's value says the word -/
theorem wdL_is {l : List Nat} (hp : p ≤ n) (hl : LtL l) (h0 : l ≠ []) (h8 : l.length ≤ 8) : wdL B n p = wvN l ↔ tkK B n p = 1 ∧ tkL B n p = l := by
  by_cases h : tkK B n p = 1 ∧ (tkL B n p).length ≤ 8
  · unfold wdL
    rw [if_pos h]
    exact ⟨fun z => ⟨h.1, wvN_inj (tkL_lt h.1) hl z⟩, fun z => by rw [z.2]⟩
  · rw [(wdL_0 hp).mpr h]
    refine ⟨fun z => absurd z (fun y => absurd (wvN_pos hl h0) (by omega)), fun z => absurd ⟨z.1, by rw [z.2]; exact h8⟩ h⟩
theorem wv_step {a b : Nat} (h : 97 ≤ b ∧ b ≤ 122) : (32 : Int64) * lN a + (nI b).toInt64 - 96 = lN (32 * a + (b - 96)) := by
  have e : ∀ b, b < 256 → (nI b).toInt64 = lN b := by decide +kernel
  rw [e b (by omega)]
  have e2 : lN b = lN (b - 96) + lN 96 := by
    show Int64.ofNat b = Int64.ofNat (b - 96) + Int64.ofNat 96
    rw [← Int64.ofNat_add]
    exact congrArg Int64.ofNat (by omega)
  rw [e2, ← Int64.add_assoc]
  show 32 * lN a + lN (b - 96) + lN 96 - lN 96 = _
  rw [Int64.add_sub_cancel]
  show Int64.ofNat 32 * Int64.ofNat a + Int64.ofNat (b - 96) = Int64.ofNat (32 * a + (b - 96))
  rw [Int64.ofNat_add, Int64.ofNat_mul]
/-- as PkF, but for the fields that hold what was read -/
def FkF (μ V : Wd) : Prop := Out s38 μ V ∧ (∀ k, k < 18 ∨ k = 19 ∨ 28 ≤ k → gI V 338 k = gI μ 338 k) ∧ ∀ k, k ≠ 25 → gL V 338 k = gL μ 338 k
theorem FkF.rfl' (hw : Wf μ) : FkF μ μ := ⟨Out.rfl' hw, fun _ _ => rfl, fun _ _ => rfl⟩
theorem FkF.trans (a : FkF μ W) (b : FkF W V) : FkF μ V := ⟨a.1.trans b.1, fun k h => (b.2.1 k h).trans (a.2.1 k h), fun k h => (b.2.2 k h).trans (a.2.2 k h)⟩
theorem PkF.fk (a : PkF μ V) : FkF μ V := ⟨a.1, fun k h => a.2.1 k (by omega) (by omega) (by omega), fun k _ => a.2.2 k⟩
theorem FkF.set (a : FkF μ W) {k : Nat} (hk : 18 ≤ k ∧ k ≠ 19 ∧ k < 28) (v : Int32) : FkF μ (sI W 338 k v) := ⟨a.1.sI (S := s38) rfl _ _, fun j h => by rw [gI_sI, if_neg (by omega)]; exact a.2.1 j h, fun j h => a.2.2 j h⟩
theorem FkF.sL (a : FkF μ W) (v : Int64) : FkF μ (sL W 338 25 v) := ⟨a.1.sL (S := s38) rfl _ _, fun j h => a.2.1 j h, fun j h => by rw [gL_sL, if_neg (by omega)]; exact a.2.2 j h⟩
theorem FkF.tx {p2 : Nat} (a : FkF μ V) (h : TxV B n p μ) (hp : p2 ≤ n) {x : Nat} (hx : gI V 338 18 = nI x) (hxn : x ≤ n) (he : tkS B n x = tkS B n p2) : TxV B n p2 V :=
  ⟨h.1, hp, (a.2.1 19 (by decide)).trans h.2.2.1, fun k hk => ⟨(h.2.2.2.1 k hk).1, (a.1.i (by decide) k).trans (h.2.2.2.1 k hk).2⟩, x, hx, hxn, he⟩
theorem hl_let (hB : ∀ k, k < n → B k < 256) : inI (bA B n (tkS B n p)) 97 122 = if tkK B n p = 1 then 1 else 0 := by
  rw [bA_let hB]
  by_cases h : tkK B n p = 1
  · rw [if_pos h, if_pos (tkK1.mp h)]
  · rw [if_neg h, if_neg (fun z => h (tkK1.mpr z))]
theorem pkE_lt (h : tkS B n p < n) : pkE B n p = tkE B n p := if_pos h
abbrev R_X11_nextWord : Room := { frames := 3, cells := 0, slots := 0, locals := 63 }
abbrev RX_X11_nextWord : Room := { frames := 3, cells := 1, slots := 6, locals := 63 }

theorem nw_l (hw : Wf W) (hn : n ≤ 900) (e19 : gI W 338 19 = nI n) (e52 : ∀ k, k < n → B k < 256 ∧ gI W 352 k = nI (B k)) {s e : Nat} (e20 : gI W 338 20 = nI s) (e21 : gI W 338 21 = nI e) (hen : e ≤ n) (h8 : e - s ≤ 8) (hse : s ≤ e) (hk : ∀ i, s ≤ i → i < e → kdN (B i) = 1) : ∀ dd m, m + dd = e → s ≤ m → AW Y_X11_nextWord R_X11_nextWord (0, 0) W 19 [(0, .ref 338), (1, .long (lN (wvF B s (m - s)))), (3, .int (nI m))] [] (.inl (some (.long (lN (wvF B s (e - s)))))) W := by
  intro dd
  induction dd with
  | zero =>
    intro m hm hsm
    obtain rfl : e = m := by omega
    refine a_iload_n dX11_nextWord_19 rfl ?_
    refine a_aload_n dX11_nextWord_20 rfl ?_
    refine a_getI dX11_nextWord_21 fs_X11_139 rfl (co_338 hw) ?_
    rw [e21]
    refine a_icmp_ge (tgt := 59) dX11_nextWord_24 (by decide) (fun h24 => ?_) (fun h24 => absurd h24 (fun z => z (nI_le (Nat.le_refl _) (by omega))))
    refine a_lload_n dX11_nextWord_59 rfl ?_
    exact a_out rfl rfl (a_lreturn dX11_nextWord_60 rfl)
  | succ dd ih =>
    intro m hm hsm
    have hb := (e52 m (by omega)).1
    have hbm : bA B n m = nI (B m) := if_pos (by omega)
    have hk1 := kd1 (hk m hsm (by omega))
    refine a_iload_n dX11_nextWord_19 rfl ?_
    refine a_aload_n dX11_nextWord_20 rfl ?_
    refine a_getI dX11_nextWord_21 fs_X11_139 rfl (co_338 hw) ?_
    rw [e21]
    refine a_icmp_ge (tgt := 59) dX11_nextWord_24 (by decide) (fun h24 => absurd h24 (nI_ge (by omega) (by omega))) (fun h24 => ?_)
    refine a_aload_n dX11_nextWord_27 rfl ?_
    refine a_inv (b2 := (0, 0)) (m_letters hw e20 e21 hse) rfl dX11_nextWord_28 yk_X11_letters im_X11_letters se_X11_letters ml_X11_151 rfl (co_338 hw) (by decide) hc_X11 (by decide) (by decide) (Nat.le_of_ble_eq_true rfl) ?_
    refine a_bipush (8 : Int32) dX11_nextWord_31 (by decide) ?_
    refine a_icmp_gt (tgt := 59) dX11_nextWord_33 (by decide) (fun h33 => absurd h33 (fun z => absurd ((nI_ltI (a := 8) (by omega) (by omega)).mp z) (by omega))) (fun h33 => ?_)
    refine a_ldc2 (v := 32) dX11_nextWord_36 (lwa_in 1730 (by decide +kernel) rfl) ?_
    refine a_lload_n dX11_nextWord_39 rfl ?_
    refine a_lmul dX11_nextWord_40 ?_
    
    refine a_aload_n dX11_nextWord_41 rfl ?_
    refine a_iload_n dX11_nextWord_42 rfl ?_
    refine a_inv (b2 := (0, 0)) (m_byteAt hw hn e19 e52 (k := m) (by omega)) rfl dX11_nextWord_43 yk_X11_byteAt im_X11_byteAt se_X11_byteAt ml_X11_133 rfl (co_338 hw) (by decide) hc_X11 (by decide) (by decide) (Nat.le_of_ble_eq_true rfl) ?_
    refine a_i2l dX11_nextWord_46 ?_
    refine a_ladd dX11_nextWord_47 ?_
    
    refine a_ldc2 (v := 96) dX11_nextWord_48 (lwa_in 1731 (by decide +kernel) rfl) ?_
    refine a_lsub dX11_nextWord_51 ?_
    rw [hbm, wv_step hk1]
    refine a_lstore_n dX11_nextWord_52 (by decide) ?_
    refine a_iinc (1 : Int32) dX11_nextWord_53 (by decide) rfl (by decide) ?_
    rw [nI_1]
    refine a_goto (tgt := 19) dX11_nextWord_56 (by decide) ?_
    have qih := ih (m + 1) (by omega) (by omega)
    have e2 : wvF B s (m + 1 - s) = 32 * wvF B s (m - s) + (B m - 96) := by
      rw [show m + 1 - s = (m - s) + 1 by omega]
      show 32 * wvF B s (m - s) + (B (s + (m - s)) - 96) = _
      rw [show s + (m - s) = m by omega]
    rw [e2] at qih
    exact a_loc _ rfl qih
theorem m_nextWord (hw : Wf μ) (hT : TxV B n p μ) : CV Y_X11_nextWord R_X11_nextWord [.ref 338] μ (fun v V => v = some (.long (lN (wdL B n p))) ∧ PkF μ V ∧ HdV B n p V) := by
  refine CV.ent yk_X11_nextWord (Nat.le_of_ble_eq_true rfl) ?_
  have hl := hl_let (p := p) (fun k hk => hT.b256 hk)
  by_cases hk1 : tkK B n p = 1
  · rw [if_pos hk1] at hl
    have hts := tkK1.mp hk1
    have hte := tkE_le (B := B) hT.2.1
    have hrun := tkE_run hts.1 hts.2 (Or.inl rfl)
    have hT1 := hT.1
    have hlen := tkL_len B n p
    by_cases h8 : tkE B n p - tkS B n p ≤ 8
    · refine lf (a_aload_n dX11_nextWord_0 rfl) ?_
      obtain ⟨v_, W1, k1, rfl, hF, hH⟩ := (m_peek hw hT)
      have hw1 := hF.1.1
      have e19 : gI W1 338 19 = nI n := (hF.2.1 19 (by decide) (by decide) (by decide)).trans hT.2.2.1
      have e52 : ∀ k, k < n → B k < 256 ∧ gI W1 352 k = nI (B k) := fun k hk => ⟨(hT.2.2.2.1 k hk).1, (hF.1.i (by decide) k).trans (hT.2.2.2.1 k hk).2⟩
      have e20 := hH.2.1
      have e21 : gI W1 338 21 = nI (tkE B n p) := by rw [hH.2.2, pkE_lt hts.1]
      refine lf (a_inv (b2 := (0, 0)) k1 rfl dX11_nextWord_1 yk_X11_peek im_X11_peek se_X11_peek ml_X11_148 rfl (co_338 (by repeat (first | with_reducible exact hw | with_reducible exact hwc | with_reducible assumption | with_reducible apply Wf.sI | with_reducible apply Wf.sL | with_reducible apply Wf.cpI | with_reducible apply Wf.cpL | with_reducible apply Wf.cp2 | with_reducible apply Wf.sIs | with_reducible apply Wf.sLs | with_reducible apply Wf.cpU | with_reducible apply Wf.fillI | with_reducible apply Wf.clU | with_reducible apply Wf.dnF | with_reducible apply Wf.gbW))) (by decide) hc_X11 (by decide) (by decide) (Nat.le_of_ble_eq_true rfl)) ?_
      refine lf (a_invS (b2 := (0, 0)) (Ct.int hl (m_isLetter _)) rfl dX11_nextWord_4 yk_X11_isLetter sm_X11_isLetter ml_X11_142 rfl (by decide) (by decide) (Nat.le_of_ble_eq_true rfl)) ?_
      refine lfn (a_if_ne (tgt := 12) dX11_nextWord_7 (by decide)) (fun h7 => ?_) (fun h7 => absurd h7 (by decide))
      refine lf (a_lconst (0 : Int64) dX11_nextWord_12 (by decide)) ?_
      refine lf (a_lstore_n dX11_nextWord_13 (by decide)) ?_
      refine lf (a_aload_n dX11_nextWord_14 rfl) ?_
      refine lf (a_getI dX11_nextWord_15 fs_X11_136 rfl (co_338 (by repeat (first | with_reducible exact hw | with_reducible exact hwc | with_reducible assumption | with_reducible apply Wf.sI | with_reducible apply Wf.sL | with_reducible apply Wf.cpI | with_reducible apply Wf.cpL | with_reducible apply Wf.cp2 | with_reducible apply Wf.sIs | with_reducible apply Wf.sLs | with_reducible apply Wf.cpU | with_reducible apply Wf.fillI | with_reducible apply Wf.clU | with_reducible apply Wf.dnF | with_reducible apply Wf.gbW)))) ?_
      refine lf (a_istore_n dX11_nextWord_18 (by decide)) ?_
      rw [e20]
      refine ⟨_, _, a_loc [(0, .ref 338), (1, .long (lN (wvF B (tkS B n p) (tkS B n p - tkS B n p)))), (3, .int (nI (tkS B n p)))] (by rw [Nat.sub_self]; rfl) (nw_l hw1 hT1 e19 e52 e20 e21 hte.2.1 h8 hte.1 hrun (tkE B n p - tkS B n p) _ (by omega) (Nat.le_refl _)), _, rfl, ?_, hF, hH⟩
      rw [wvF_eq]
      unfold wdL
      rw [if_pos ⟨hk1, by omega⟩]
      rfl
    · refine lf (a_aload_n dX11_nextWord_0 rfl) ?_
      obtain ⟨v_, W1, k1, rfl, hF, hH⟩ := (m_peek hw hT)
      have hw1 := hF.1.1
      have e19 : gI W1 338 19 = nI n := (hF.2.1 19 (by decide) (by decide) (by decide)).trans hT.2.2.1
      have e52 : ∀ k, k < n → B k < 256 ∧ gI W1 352 k = nI (B k) := fun k hk => ⟨(hT.2.2.2.1 k hk).1, (hF.1.i (by decide) k).trans (hT.2.2.2.1 k hk).2⟩
      have e20 := hH.2.1
      have e21 : gI W1 338 21 = nI (tkE B n p) := by rw [hH.2.2, pkE_lt hts.1]
      refine lf (a_inv (b2 := (0, 0)) k1 rfl dX11_nextWord_1 yk_X11_peek im_X11_peek se_X11_peek ml_X11_148 rfl (co_338 (by repeat (first | with_reducible exact hw | with_reducible exact hwc | with_reducible assumption | with_reducible apply Wf.sI | with_reducible apply Wf.sL | with_reducible apply Wf.cpI | with_reducible apply Wf.cpL | with_reducible apply Wf.cp2 | with_reducible apply Wf.sIs | with_reducible apply Wf.sLs | with_reducible apply Wf.cpU | with_reducible apply Wf.fillI | with_reducible apply Wf.clU | with_reducible apply Wf.dnF | with_reducible apply Wf.gbW))) (by decide) hc_X11 (by decide) (by decide) (Nat.le_of_ble_eq_true rfl)) ?_
      refine lf (a_invS (b2 := (0, 0)) (Ct.int hl (m_isLetter _)) rfl dX11_nextWord_4 yk_X11_isLetter sm_X11_isLetter ml_X11_142 rfl (by decide) (by decide) (Nat.le_of_ble_eq_true rfl)) ?_
      refine lfn (a_if_ne (tgt := 12) dX11_nextWord_7 (by decide)) (fun h7 => ?_) (fun h7 => absurd h7 (by decide))
      refine lf (a_lconst (0 : Int64) dX11_nextWord_12 (by decide)) ?_
      refine lf (a_lstore_n dX11_nextWord_13 (by decide)) ?_
      refine lf (a_aload_n dX11_nextWord_14 rfl) ?_
      refine lf (a_getI dX11_nextWord_15 fs_X11_136 rfl (co_338 (by repeat (first | with_reducible exact hw | with_reducible exact hwc | with_reducible assumption | with_reducible apply Wf.sI | with_reducible apply Wf.sL | with_reducible apply Wf.cpI | with_reducible apply Wf.cpL | with_reducible apply Wf.cp2 | with_reducible apply Wf.sIs | with_reducible apply Wf.sLs | with_reducible apply Wf.cpU | with_reducible apply Wf.fillI | with_reducible apply Wf.clU | with_reducible apply Wf.dnF | with_reducible apply Wf.gbW)))) ?_
      rw [e20]
      refine lf (a_istore_n dX11_nextWord_18 (by decide)) ?_
      refine lf (a_iload_n dX11_nextWord_19 rfl) ?_
      refine lf (a_aload_n dX11_nextWord_20 rfl) ?_
      refine lf (a_getI dX11_nextWord_21 fs_X11_139 rfl (co_338 (by repeat (first | with_reducible exact hw | with_reducible exact hwc | with_reducible assumption | with_reducible apply Wf.sI | with_reducible apply Wf.sL | with_reducible apply Wf.cpI | with_reducible apply Wf.cpL | with_reducible apply Wf.cp2 | with_reducible apply Wf.sIs | with_reducible apply Wf.sLs | with_reducible apply Wf.cpU | with_reducible apply Wf.fillI | with_reducible apply Wf.clU | with_reducible apply Wf.dnF | with_reducible apply Wf.gbW)))) ?_
      rw [e21]
      refine lf2 (a_icmp_ge (tgt := 59) dX11_nextWord_24 (by decide)) (fun h24 => absurd h24 (nI_ge (by omega) (by omega))) (fun h24 => ?_)
      refine lf (a_aload_n dX11_nextWord_27 rfl) ?_
      refine lf (a_inv (b2 := (0, 0)) (m_letters hw1 e20 e21 hte.1) rfl dX11_nextWord_28 yk_X11_letters im_X11_letters se_X11_letters ml_X11_151 rfl (co_338 (by repeat (first | with_reducible exact hw | with_reducible exact hwc | with_reducible assumption | with_reducible apply Wf.sI | with_reducible apply Wf.sL | with_reducible apply Wf.cpI | with_reducible apply Wf.cpL | with_reducible apply Wf.cp2 | with_reducible apply Wf.sIs | with_reducible apply Wf.sLs | with_reducible apply Wf.cpU | with_reducible apply Wf.fillI | with_reducible apply Wf.clU | with_reducible apply Wf.dnF | with_reducible apply Wf.gbW))) (by decide) hc_X11 (by decide) (by decide) (Nat.le_of_ble_eq_true rfl)) ?_
      refine lf (a_bipush (8 : Int32) dX11_nextWord_31 (by decide)) ?_
      refine lf2 (a_icmp_gt (tgt := 59) dX11_nextWord_33 (by decide)) (fun h33 => ?_) (fun h33 => absurd h33 (fun z => z (nI_lt (a := 8) (by omega) (by omega))))
      refine lf (a_lload_n dX11_nextWord_59 rfl) ?_
      refine ⟨_, _, (a_lreturn dX11_nextWord_60 rfl), ?_⟩
      refine ⟨_, rfl, ?_, hF, hH⟩
      unfold wdL
      rw [if_neg (fun z => h8 (by omega))]
      rfl
  · rw [if_neg hk1] at hl
    refine lf (a_aload_n dX11_nextWord_0 rfl) ?_
    obtain ⟨v_, W1, k1, rfl, hF, hH⟩ := (m_peek hw hT)
    have hw1 := hF.1.1
    have e19 : gI W1 338 19 = nI n := (hF.2.1 19 (by decide) (by decide) (by decide)).trans hT.2.2.1
    have e52 : ∀ k, k < n → B k < 256 ∧ gI W1 352 k = nI (B k) := fun k hk => ⟨(hT.2.2.2.1 k hk).1, (hF.1.i (by decide) k).trans (hT.2.2.2.1 k hk).2⟩
    refine lf (a_inv (b2 := (0, 0)) k1 rfl dX11_nextWord_1 yk_X11_peek im_X11_peek se_X11_peek ml_X11_148 rfl (co_338 hw) (by decide) hc_X11 (by decide) (by decide) (Nat.le_of_ble_eq_true rfl)) ?_
    refine lf (a_invS (b2 := (0, 0)) (Ct.int hl (m_isLetter _)) rfl dX11_nextWord_4 yk_X11_isLetter sm_X11_isLetter ml_X11_142 rfl (by decide) (by decide) (Nat.le_of_ble_eq_true rfl)) ?_
    refine lfn (a_if_ne (tgt := 12) dX11_nextWord_7 (by decide)) (fun h7 => absurd h7 (by decide)) (fun h7 => ?_)
    refine lf (a_lconst (0 : Int64) dX11_nextWord_10 (by decide)) ?_
    refine ⟨_, _, (a_lreturn dX11_nextWord_11 rfl), ?_⟩
    refine ⟨_, rfl, ?_, hF, hH⟩
    unfold wdL
    rw [if_neg (fun z => hk1 z.1)]
    rfl
end MWORD
