section ORDER
def bt (x : Int32) (i : Nat) : Bool := x.toBitVec.getLsbD i
theorem b_ext {x y : Int32} (h : ∀ i, i < 32 → bt x i = bt y i) : x = y := Int32.toBitVec_inj.mp (BitVec.eq_of_getLsbD_eq (fun i hi => h i hi))
theorem b_or (x y : Int32) (i : Nat) : bt (x ||| y) i = (bt x i || bt y i) := by unfold bt; rw [Int32.toBitVec_or, BitVec.getLsbD_or]
theorem b_and (x y : Int32) (i : Nat) : bt (x &&& y) i = (bt x i && bt y i) := by unfold bt; rw [Int32.toBitVec_and, BitVec.getLsbD_and]
theorem b_xor (x y : Int32) (i : Nat) : bt (x ^^^ y) i = (bt x i ^^ bt y i) := by unfold bt; rw [Int32.toBitVec_xor, BitVec.getLsbD_xor]
theorem b_big {x : Int32} {i : Nat} (h : 32 ≤ i) : bt x i = false := BitVec.getLsbD_of_ge _ _ h
theorem b_255 (i : Nat) : bt 255 i = decide (i < 8) := by
  rcases Nat.lt_or_ge i 32 with h | h
  · exact (by decide +kernel : ∀ i, i < 32 → bt 255 i = decide (i < 8)) i h
  · rw [b_big h, decide_eq_false (by omega)]
theorem b_65535 (i : Nat) : bt 65535 i = decide (i < 16) := by
  rcases Nat.lt_or_ge i 32 with h | h
  · exact (by decide +kernel : ∀ i, i < 32 → bt 65535 i = decide (i < 16)) i h
  · rw [b_big h, decide_eq_false (by omega)]
theorem b_m1 : ∀ i, i < 32 → bt (-1) i = true := by decide +kernel
theorem b_0 (i : Nat) : bt 0 i = false := BitVec.getLsbD_zero
theorem s_l : ∀ n, n < 32 → ((nI n &&& 31).toBitVec.smod 32).toNat = n := by decide +kernel
theorem s_u : ∀ n, n < 32 → (((nI n).toUInt32 &&& Int32.toUInt32 31).toBitVec % 32).toNat = n := by decide +kernel
theorem b_shl (n : Nat) (hn : n < 32) (x : Int32) {i : Nat} (hi : i < 32) : bt (x <<< (nI n &&& 31)) i = (decide (n ≤ i) && bt x (i - n)) := by
  unfold bt
  rw [Int32.toBitVec_shiftLeft]
  show (x.toBitVec <<< ((nI n &&& 31).toBitVec.smod 32).toNat).getLsbD i = _
  rw [s_l n hn, BitVec.getLsbD_shiftLeft]
  rcases Nat.lt_or_ge i n with h | h
  · simp [h, Nat.not_le.mpr h]
  · simp [hi, h, Nat.not_lt.mpr h]
theorem b_ushr (n : Nat) (hn : n < 32) (x : Int32) (i : Nat) : bt ((x.toUInt32 >>> ((nI n).toUInt32 &&& Int32.toUInt32 31)).toInt32) i = bt x (n + i) := by
  show (x.toUInt32 >>> ((nI n).toUInt32 &&& Int32.toUInt32 31)).toBitVec.getLsbD i = x.toUInt32.toBitVec.getLsbD (n + i)
  rw [UInt32.toBitVec_shiftRight]
  show (x.toUInt32.toBitVec >>> (((nI n).toUInt32 &&& Int32.toUInt32 31).toBitVec % 32).toNat).getLsbD i = _
  rw [s_u n hn, BitVec.getLsbD_ushiftRight]
theorem b_sshr (n : Nat) (hn : n < 32) (x : Int32) {i : Nat} (hi : i < 32) : bt (x >>> (nI n &&& 31)) i = if n + i < 32 then bt x (n + i) else bt x 31 := by
  unfold bt
  rw [Int32.toBitVec_shiftRight]
  show (x.toBitVec.sshiftRight ((nI n &&& 31).toBitVec.smod 32).toNat).getLsbD i = _
  rw [s_l n hn, BitVec.getLsbD_sshiftRight, BitVec.msb_eq_getLsbD_last]
  simp [hi]
theorem b_shl8 (x : Int32) {i : Nat} (hi : i < 32) : bt (x <<< ((8 : Int32) &&& 31)) i = (decide (8 ≤ i) && bt x (i - 8)) := b_shl 8 (by omega) x hi
theorem b_shl16 (x : Int32) {i : Nat} (hi : i < 32) : bt (x <<< ((16 : Int32) &&& 31)) i = (decide (16 ≤ i) && bt x (i - 16)) := b_shl 16 (by omega) x hi
theorem b_shl24 (x : Int32) {i : Nat} (hi : i < 32) : bt (x <<< ((24 : Int32) &&& 31)) i = (decide (24 ≤ i) && bt x (i - 24)) := b_shl 24 (by omega) x hi
theorem b_sshr8 (x : Int32) {i : Nat} (hi : i < 32) : bt (x >>> ((8 : Int32) &&& 31)) i = if 8 + i < 32 then bt x (8 + i) else bt x 31 := b_sshr 8 (by omega) x hi
theorem b_one : ∀ i, i < 32 → bt 1 i = decide (i = 0) := by decide +kernel
theorem b_bit (m : Nat) (hm : m < 32) {i : Nat} (hi : i < 32) : bt ((1 : Int32) <<< (nI m &&& 31)) i = decide (i = m) := by
  rw [b_shl m hm 1 hi, b_one (i - m) (by omega)]
  by_cases h : i = m
  · subst h; simp
  · rw [decide_eq_false h]
    by_cases h2 : m ≤ i
    · rw [decide_eq_false (show ¬ i - m = 0 by omega), Bool.and_false]
    · rw [decide_eq_false h2, Bool.false_and]
theorem b_test (x : Int32) {m : Nat} (hm : m < 32) : (x >>> (nI m &&& 31)) &&& 1 = 1 ↔ bt x m = true := by
  have e : bt (x >>> (nI m &&& 31)) 0 = bt x m := by
    rw [b_sshr m hm x (by omega), if_pos (by omega)]; rfl
  constructor
  · intro h
    have h2 := congrArg (fun z => bt z 0) h
    simp only [b_and, e, b_one 0 (by omega), decide_true, Bool.and_true] at h2
    exact h2
  · intro h
    refine b_ext fun i hi => ?_
    rw [b_and, b_one i hi]
    by_cases h2 : i = 0
    · subst h2; rw [e, h]; rfl
    · rw [decide_eq_false h2, Bool.and_false]
theorem b_not (x : Int32) {i : Nat} (hi : i < 32) : bt (x ^^^ -1) i = !bt x i := by
  rw [b_xor, b_m1 i hi, Bool.xor_true]
variable {μ : Wd} {p f : Nat} {q : PDt} {d : FDt} {W : Wd}
/-- whether a meal suits one of a cabin with such needs -/
def fitD (q : PDt) (c n : Int32) (i : Nat) : Bool := decide (¬ adI (pF q 2 i) c = 0 ∧ n &&& (pF q 6 i ^^^ -1) = 0)
theorem suD_bit (q : PDt) (c n : Int32) : ∀ (M : Nat), M ≤ 12 → ∀ j, j < 32 → bt (itN (fun i a => if adI (pF q 2 i) c = 0 then a else if n &&& (pF q 6 i ^^^ -1) = 0 then a ||| ((1 : Int32) <<< (nI i &&& 31)) else a) 0 M) j = decide (j < M ∧ (¬ adI (pF q 2 j) c = 0 ∧ n &&& (pF q 6 j ^^^ -1) = 0))
  | 0, _, j, hj => by rw [itN_zero, b_0]; simp
  | M + 1, hM, j, hj => by
    have ih := suD_bit q c n M (by omega) j hj
    rw [itN_succ]
    by_cases h1 : adI (pF q 2 M) c = 0
    · rw [if_pos h1, ih]
      refine decide_eq_decide.mpr ⟨fun h => ⟨by omega, h.2⟩, fun h => ⟨?_, h.2⟩⟩
      have : j ≠ M := by rintro rfl; exact h.2.1 h1
      omega
    · rw [if_neg h1]
      by_cases h2 : n &&& (pF q 6 M ^^^ -1) = 0
      · rw [if_pos h2, b_or, ih, b_bit M (by omega) hj]
        by_cases h3 : j = M
        · subst h3
          rw [decide_eq_true (rfl : j = j), Bool.or_true]
          exact (decide_eq_true ⟨Nat.lt_succ_self _, h1, h2⟩).symm
        · rw [decide_eq_false h3, Bool.or_false]
          exact decide_eq_decide.mpr ⟨fun h => ⟨by omega, h.2⟩, fun h => ⟨by omega, h.2⟩⟩
      · rw [if_neg h2, ih]
        refine decide_eq_decide.mpr ⟨fun h => ⟨by omega, h.2⟩, fun h => ⟨?_, h.2⟩⟩
        have : j ≠ M := by rintro rfl; exact h2 h.2.2
        omega
theorem suD_test (hq : PV μ p q) (c n : Int32) {j : Nat} (hj : j < pM q) : (suD q c n >>> (nI j &&& 31)) &&& 1 = 1 ↔ fitD q c n j = true := by
  have h := hq.M4
  rw [b_test _ (by omega), suD, suD_bit q c n _ h j (by omega)]
  simp [hj, fitD]
/-- the cheapest of some meals: step -/
def chS (q : PDt) (s : Nat → Bool) (i : Nat) (a : Option Nat) : Option Nat := if s i then (match a with | none => some i | some b => if pF q 5 b ≤ pF q 5 i then some b else some i) else a
def chD (q : PDt) (s : Nat → Bool) (M : Nat) : Option Nat := itN (chS q s) none M
theorem chD_lt {q : PDt} {s : Nat → Bool} : ∀ {M b : Nat}, chD q s M = some b → b < M
  | 0, b, h => nomatch h
  | M + 1, b, h => by
    have ih := fun b => chD_lt (q := q) (s := s) (M := M) (b := b)
    unfold chD at h ih
    rw [itN_succ] at h
    generalize itN (chS q s) none M = a at h ih
    unfold chS at h
    split at h
    · cases a with
      | none => injection h with h; omega
      | some c =>
        have := ih c rfl
        simp only at h
        split at h <;> injection h with h <;> omega
    · have := ih b h; omega

abbrev R_X7_cheapestOf : Room := { frames := 0, cells := 0, slots := 0, locals := 0 }
abbrev RX_X7_cheapestOf : Room := { frames := 0, cells := 1, slots := 6, locals := 0 }

theorem nI_ne1 {n : Nat} (h : n < 2 ^ 31) : ¬ nI n = -1 := fun e => by
  have h2 := congrArg (fun z : Int32 => decide (z < 0)) e
  have h3 : decide (nI n < 0) = false := decide_eq_false (nI_pos h)
  rw [h3] at h2
  exact absurd h2 (by decide)
theorem l_X7_cheapestOf_4 (hw : Wf μ) (hq : PV μ p q) {x : Int32} {s : Nat → Bool} (hx : ∀ j, j < pM q → ((x >>> (nI j &&& 31)) &&& 1 = 1 ↔ s j = true)) {o : Oc} {μ1 : Wd} (kx : AW Y_X7_cheapestOf R_X7_cheapestOf (0, 0) μ 55 [(0, .ref p), (1, .int x), (2, .int (oI (chD q s (pM q)))), (3, .int (nI (pM q)))] [] o μ1) : ∀ d m, m + d = pM q → AW Y_X7_cheapestOf R_X7_cheapestOf (0, 0) μ 4 [(0, .ref p), (1, .int x), (2, .int (oI (chD q s m))), (3, .int (nI m))] [] o μ1 := by
  have hM4 := hq.M4
  have hp := hq.pl
  intro d
  induction d with
  | zero =>
    intro m hm
    obtain rfl : m = pM q := by omega
    refine a_iload_n dX7_cheapestOf_4 rfl ?_
    refine a_aload_n dX7_cheapestOf_5 rfl ?_
    refine a_getI dX7_cheapestOf_6 fs_X7_40 rfl (pl_o hw hp) ?_
    rw [hq.hM]
    refine a_icmp_ge (tgt := 55) dX7_cheapestOf_9 (by decide) (fun h9 => ?_) (fun h9 => absurd h9 (fun z => z (nI_le (Nat.le_refl _) (by omega))))
    exact a_loc _ rfl kx
  | succ d ih =>
    intro m hm
    have z := ih (m + 1) (by omega)
    have hlt : ∀ b, chD q s m = some b → b < m := fun b => chD_lt
    unfold chD at z hlt ⊢
    rw [itN_succ] at z
    generalize itN (chS q s) none m = a at z hlt ⊢
    unfold chS at z
    have hs := hx m (by omega)
    cases a with
    | none =>
      refine a_iload_n dX7_cheapestOf_4 rfl ?_
      refine a_aload_n dX7_cheapestOf_5 rfl ?_
      refine a_getI dX7_cheapestOf_6 fs_X7_40 rfl (pl_o hw hp) ?_
      rw [hq.hM]
      refine a_icmp_ge (tgt := 55) dX7_cheapestOf_9 (by decide) (fun h9 => absurd h9 (nI_ge (by omega) (by omega))) (fun h9 => ?_)
      refine a_iload_n dX7_cheapestOf_12 rfl ?_
      refine a_iload_n dX7_cheapestOf_13 rfl ?_
      refine a_ishr dX7_cheapestOf_14 ?_
      refine a_iconst (1 : Int32) dX7_cheapestOf_15 (by decide) ?_
      refine a_iand dX7_cheapestOf_16 ?_
      refine a_iconst (1 : Int32) dX7_cheapestOf_17 (by decide) ?_
      refine a_icmp_ne (tgt := 49) dX7_cheapestOf_18 (by decide) (fun h18 => ?_) (fun h18 => ?_)
      · refine a_iincN dX7_cheapestOf_49 rfl (by decide) ?_
        refine a_goto (tgt := 4) dX7_cheapestOf_52 (by decide) ?_
        simp_all only [if_true, if_false, not_true_eq_false, not_false_eq_true, true_iff, false_iff, iff_true, iff_false]
        exact a_loc _ rfl z
      · refine a_iload_n dX7_cheapestOf_21 rfl ?_
        refine a_iconst (-1 : Int32) dX7_cheapestOf_22 (by decide) ?_
        refine a_icmp_eq (tgt := 47) dX7_cheapestOf_23 (by decide) (fun h23 => ?_) (fun h23 => absurd h23 (fun q => q rfl))
        refine a_iload_n dX7_cheapestOf_47 rfl ?_
        refine a_istore_n dX7_cheapestOf_48 (by decide) ?_
        refine a_iincN dX7_cheapestOf_49 rfl (by decide) ?_
        refine a_goto (tgt := 4) dX7_cheapestOf_52 (by decide) ?_
        simp_all only [if_true, if_false, not_true_eq_false, not_false_eq_true, true_iff, false_iff, iff_true, iff_false]
        exact a_loc _ rfl z
    | some b =>
      have hb : b < m := hlt b rfl
      refine a_iload_n dX7_cheapestOf_4 rfl ?_
      refine a_aload_n dX7_cheapestOf_5 rfl ?_
      refine a_getI dX7_cheapestOf_6 fs_X7_40 rfl (pl_o hw hp) ?_
      rw [hq.hM]
      refine a_icmp_ge (tgt := 55) dX7_cheapestOf_9 (by decide) (fun h9 => absurd h9 (nI_ge (by omega) (by omega))) (fun h9 => ?_)
      refine a_iload_n dX7_cheapestOf_12 rfl ?_
      refine a_iload_n dX7_cheapestOf_13 rfl ?_
      refine a_ishr dX7_cheapestOf_14 ?_
      refine a_iconst (1 : Int32) dX7_cheapestOf_15 (by decide) ?_
      refine a_iand dX7_cheapestOf_16 ?_
      refine a_iconst (1 : Int32) dX7_cheapestOf_17 (by decide) ?_
      refine a_icmp_ne (tgt := 49) dX7_cheapestOf_18 (by decide) (fun h18 => ?_) (fun h18 => ?_)
      · refine a_iincN dX7_cheapestOf_49 rfl (by decide) ?_
        refine a_goto (tgt := 4) dX7_cheapestOf_52 (by decide) ?_
        simp_all only [if_true, if_false, not_true_eq_false, not_false_eq_true, true_iff, false_iff, iff_true, iff_false]
        exact a_loc _ rfl z
      · refine a_iload_n dX7_cheapestOf_21 rfl ?_
        refine a_iconst (-1 : Int32) dX7_cheapestOf_22 (by decide) ?_
        refine a_icmp_eq (tgt := 47) dX7_cheapestOf_23 (by decide) (fun h23 => absurd h23 (nI_ne1 (by omega))) (fun h23 => ?_)
        refine a_aload_n dX7_cheapestOf_26 rfl ?_
        refine a_getR (pl_r4 hw hp) dX7_cheapestOf_27 fs_X7_20 rfl (pl_o hw hp) ?_
        refine a_iload_n dX7_cheapestOf_30 rfl ?_
        refine a_aald (j := m) dX7_cheapestOf_31 (pl_a6 hw hp) (by decide) (ixn (by omega) (by decide)) (pl_rm hw hp (by omega)) ?_
        refine a_getI dX7_cheapestOf_32 fs_X7_64 rfl (pl_m hw hp (by omega)) ?_
        rw [hq.m4 (by omega)]
        refine a_aload_n dX7_cheapestOf_35 rfl ?_
        refine a_getR (pl_r4 hw hp) dX7_cheapestOf_36 fs_X7_20 rfl (pl_o hw hp) ?_
        refine a_iload_n dX7_cheapestOf_39 rfl ?_
        refine a_aald (j := b) dX7_cheapestOf_40 (pl_a6 hw hp) (by decide) (ixn (by omega) (by decide)) (pl_rm hw hp (by omega)) ?_
        refine a_getI dX7_cheapestOf_41 fs_X7_64 rfl (pl_m hw hp (by omega)) ?_
        rw [hq.m4 (by omega)]
        refine a_icmp_ge (tgt := 49) dX7_cheapestOf_44 (by decide) (fun h44 => ?_) (fun h44 => ?_)
        · refine a_iincN dX7_cheapestOf_49 rfl (by decide) ?_
          refine a_goto (tgt := 4) dX7_cheapestOf_52 (by decide) ?_
          simp_all only [if_true, if_false, not_true_eq_false, not_false_eq_true, true_iff, false_iff, iff_true, iff_false]
          exact a_loc _ rfl z
        · refine a_iload_n dX7_cheapestOf_47 rfl ?_
          refine a_istore_n dX7_cheapestOf_48 (by decide) ?_
          refine a_iincN dX7_cheapestOf_49 rfl (by decide) ?_
          refine a_goto (tgt := 4) dX7_cheapestOf_52 (by decide) ?_
          simp_all only [if_true, if_false, not_true_eq_false, not_false_eq_true, true_iff, false_iff, iff_true, iff_false]
          exact a_loc _ rfl z
theorem t_X7_cheapestOf (hw : Wf μ) (hq : PV μ p q) {x : Int32} {s : Nat → Bool} (hx : ∀ j, j < pM q → ((x >>> (nI j &&& 31)) &&& 1 = 1 ↔ s j = true)) : Ct Y_X7_cheapestOf R_X7_cheapestOf [.ref p, .int x] μ (.inl (some (.int (oI (chD q s (pM q)))))) μ := by
  refine Ct.ent yk_X7_cheapestOf (Nat.le_of_ble_eq_true rfl) ?_
  refine a_iconst (-1 : Int32) dX7_cheapestOf_0 (by decide) ?_
  refine a_istore_n dX7_cheapestOf_1 (by decide) ?_
  refine a_iconst (0 : Int32) dX7_cheapestOf_2 (by decide) ?_
  refine a_istore_n dX7_cheapestOf_3 (by decide) ?_
  refine a_loc [(0, .ref p), (1, .int x), (2, .int (oI (chD q s 0))), (3, .int (nI 0))] rfl ?_
  refine l_X7_cheapestOf_4 hw hq hx ?_ (pM q) 0 (by omega)
  exact a_out rfl rfl (a_iload_n dX7_cheapestOf_55 rfl (a_ireturn dX7_cheapestOf_56 rfl rfl))
abbrev R_X1_cheapestFor : Room := { frames := 3, cells := 0, slots := 0, locals := 67 }
abbrev RX_X1_cheapestFor : Room := { frames := 3, cells := 1, slots := 6, locals := 67 }

theorem v_X1_cheapestFor (hw : Wf μ) (hv : FV μ f p d) (hq : PV μ p q) {i : Nat} (hi : i < dP d) : Ct Y_X1_cheapestFor R_X1_cheapestFor [.ref f, .int (nI i)] μ (.inl (some (.int (oI (chD q (fitD q (dF d 0 i) (dF d 1 i)) (pM q)))))) μ := by
  refine Ct.ent yk_X1_cheapestFor (Nat.le_of_ble_eq_true rfl) ?_
  have hf := hv.fl
  have hpl := hq.pl
  have hp := hv.rp
  refine a_aload_n dX1_cheapestFor_0 rfl ?_
  refine a_getR hp dX1_cheapestFor_1 fs_X1_9 rfl (fl_o hw hf) ?_
  refine a_aload_n dX1_cheapestFor_4 rfl ?_
  refine a_iload_n dX1_cheapestFor_5 rfl ?_
  refine a_inv (b2 := (0, 0)) (v_X1_suiting hw hv hq hi) rfl dX1_cheapestFor_6 yk_X1_suiting im_X1_suiting se_X1_suiting ml_X1_98 rfl (fl_o hw hf) (by decide) hc_X1 (by decide) (by decide) (Nat.le_of_ble_eq_true rfl) ?_
  refine a_inv (b2 := (0, 0)) (t_X7_cheapestOf hw hq (fun j hj => suD_test hq _ _ hj)) rfl dX1_cheapestFor_9 yk_X7_cheapestOf im_X7_cheapestOf se_X7_cheapestOf ml_X1_100 rfl (pl_o hw hpl) (by decide) hc_X7 (by decide) (by decide) (Nat.le_of_ble_eq_true rfl) ?_
  exact a_out rfl rfl (a_ireturn dX1_cheapestFor_12 rfl rfl)
end ORDER
