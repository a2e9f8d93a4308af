section SBN
variable {Y : Yd} {rm : Room} {b : Nat × Nat} {μ μ1 W : Wd} {pc : Nat} {la : List (Nat × Value)} {st : List Value} {o : Oc} {lo a : Nat} {l : List Nat}
theorem a_iincD {j x : Nat} (hd : decode Y.2.1 pc = .ok (.iinc j (-1), 3)) (hl : lk la j = some (.int (nI (x + 1)))) (hn : j < Y.2.2.1) (k : AW Y rm b μ (pc + 3) (st1 la j (.int (nI x))) st o μ1) : AW Y rm b μ pc la st o μ1 := by
  refine a_iinc (-1) hd (by decide) hl hn ?_
  rw [show nI (x + 1) + -1 = nI x by rw [nI_succ, Int32.add_assoc, show (1 : Int32) + -1 = 0 by decide, Int32.add_zero]]
  exact k
/-- the digits of a number below 100 -/
def dgL (n : Nat) : List Nat := if n < 10 then [48 + n] else [48 + n / 10, 48 + n % 10]
theorem dgL_len (n : Nat) : 1 ≤ (dgL n).length ∧ (dgL n).length ≤ 2 := by
  unfold dgL
  split
  · exact ⟨Nat.le_refl _, Nat.le_succ _⟩
  · exact ⟨Nat.le_succ _, Nat.le_refl _⟩
theorem ng100 {n : Nat} (h : n < 100) : ¬ (-(nI n) ≤ -100) := by
  have q : ∀ n, n < 100 → ¬ (-(nI n) ≤ -100) := by decide +kernel
  exact q n h
theorem ng100g {n : Nat} (h : n < 100) : (-100 : Int32) < -(nI n) := by
  have q : ∀ n, n < 100 → (-100 : Int32) < -(nI n) := by decide +kernel
  exact q n h
theorem ng10 {n : Nat} (h : n < 10) : ¬ (-(nI n) ≤ -10) := by
  have q : ∀ n, n < 10 → ¬ (-(nI n) ≤ -10) := by decide +kernel
  exact q n h
theorem ng10p {n : Nat} (h0 : 10 ≤ n) (h : n < 100) : -(nI n) ≤ -10 := by
  have q : ∀ n, n < 100 → 10 ≤ n → -(nI n) ≤ -10 := by decide +kernel
  exact q n h h0
theorem ng9 {n : Nat} (h : n < 10) : (-9 : Int32) ≤ -(nI n) := by
  have q : ∀ n, n < 10 → (-9 : Int32) ≤ -(nI n) := by decide +kernel
  exact q n h
theorem ng9p {n : Nat} (h0 : 10 ≤ n) (h : n < 100) : ¬ (-9 : Int32) ≤ -(nI n) := by
  have q : ∀ n, n < 100 → 10 ≤ n → ¬ (-9 : Int32) ≤ -(nI n) := by decide +kernel
  exact q n h h0
theorem dgB1 {n : Nat} (h : n < 100) : dgB 1 n = 48 + n % 10 ∧ dgB 0 n = 48 + n / 10 ∧ 48 + n % 10 < 128 ∧ 48 + n / 10 < 128 := ⟨rfl, rfl, by omega, by omega⟩
abbrev R_J6_stringSize_0f7a4 : Room := { frames := 2, cells := 0, slots := 0, locals := 100 }
theorem t_J6_stringSize_0f7a4 {n : Nat} (h : n < 100) : Ct Y_J6_stringSize_0f7a4 R_J6_stringSize_0f7a4 [.int (nI n)] μ (.inl (some (.int (nI (dgL n).length)))) μ := by
  refine Ct.ent yk_J6_stringSize_0f7a4 (Nat.le_of_ble_eq_true rfl) ?_
  rcases Nat.lt_or_ge n 10 with h1 | h1
  · refine a_iconst (1 : Int32) dJ6_stringSize_0f7a4_0 (by decide) ?_
    refine a_istore_n dJ6_stringSize_0f7a4_1 (by decide) ?_
    refine a_iload_n dJ6_stringSize_0f7a4_2 rfl ?_
    refine a_if_lt (tgt := 11) dJ6_stringSize_0f7a4_3 (by decide) (fun h3 => absurd h3 (nI_pos (by omega))) (fun h3 => ?_)
    refine a_iconst (0 : Int32) dJ6_stringSize_0f7a4_6 (by decide) ?_
    refine a_istore_n dJ6_stringSize_0f7a4_7 (by decide) ?_
    refine a_iload_n dJ6_stringSize_0f7a4_8 rfl ?_
    refine a_ineg dJ6_stringSize_0f7a4_9 ?_
    refine a_istore_n dJ6_stringSize_0f7a4_10 (by decide) ?_
    refine a_bipush (-10 : Int32) dJ6_stringSize_0f7a4_11 (by decide) ?_
    refine a_istore_n dJ6_stringSize_0f7a4_13 (by decide) ?_
    refine a_iconst (1 : Int32) dJ6_stringSize_0f7a4_14 (by decide) ?_
    refine a_istore_n dJ6_stringSize_0f7a4_15 (by decide) ?_
    refine a_iload_n dJ6_stringSize_0f7a4_16 rfl ?_
    refine a_bipush (10 : Int32) dJ6_stringSize_0f7a4_17 (by decide) ?_
    refine a_icmp_ge (tgt := 42) dJ6_stringSize_0f7a4_19 (by decide) (fun h19 => absurd h19 (by decide)) (fun h19 => ?_)
    refine a_iload_n dJ6_stringSize_0f7a4_22 rfl ?_
    refine a_iload_n dJ6_stringSize_0f7a4_23 rfl ?_
    refine a_icmp_le (tgt := 31) dJ6_stringSize_0f7a4_24 (by decide) (fun h24 => absurd h24 (ng10 h1)) (fun h24 => ?_)
    refine a_iload_n dJ6_stringSize_0f7a4_27 rfl ?_
    refine a_iload_n dJ6_stringSize_0f7a4_28 rfl ?_
    refine a_iadd dJ6_stringSize_0f7a4_29 ?_
    exact a_out (by unfold dgL; rw [if_pos h1]; rfl) rfl (a_ireturn dJ6_stringSize_0f7a4_30 rfl rfl)
  · refine a_iconst (1 : Int32) dJ6_stringSize_0f7a4_0 (by decide) ?_
    refine a_istore_n dJ6_stringSize_0f7a4_1 (by decide) ?_
    refine a_iload_n dJ6_stringSize_0f7a4_2 rfl ?_
    refine a_if_lt (tgt := 11) dJ6_stringSize_0f7a4_3 (by decide) (fun h3 => absurd h3 (nI_pos (by omega))) (fun h3 => ?_)
    refine a_iconst (0 : Int32) dJ6_stringSize_0f7a4_6 (by decide) ?_
    refine a_istore_n dJ6_stringSize_0f7a4_7 (by decide) ?_
    refine a_iload_n dJ6_stringSize_0f7a4_8 rfl ?_
    refine a_ineg dJ6_stringSize_0f7a4_9 ?_
    refine a_istore_n dJ6_stringSize_0f7a4_10 (by decide) ?_
    refine a_bipush (-10 : Int32) dJ6_stringSize_0f7a4_11 (by decide) ?_
    refine a_istore_n dJ6_stringSize_0f7a4_13 (by decide) ?_
    refine a_iconst (1 : Int32) dJ6_stringSize_0f7a4_14 (by decide) ?_
    refine a_istore_n dJ6_stringSize_0f7a4_15 (by decide) ?_
    skip
    refine a_iload_n dJ6_stringSize_0f7a4_16 rfl ?_
    refine a_bipush (10 : Int32) dJ6_stringSize_0f7a4_17 (by decide) ?_
    refine a_icmp_ge (tgt := 42) dJ6_stringSize_0f7a4_19 (by decide) (fun h19 => absurd h19 (by decide)) (fun h19 => ?_)
    refine a_iload_n dJ6_stringSize_0f7a4_22 rfl ?_
    refine a_iload_n dJ6_stringSize_0f7a4_23 rfl ?_
    refine a_icmp_le (tgt := 31) dJ6_stringSize_0f7a4_24 (by decide) (fun h24 => ?_) (fun h24 => absurd h24 (fun z => z (ng10p h1 h)))
    refine a_bipush (10 : Int32) dJ6_stringSize_0f7a4_31 (by decide) ?_
    refine a_iload_n dJ6_stringSize_0f7a4_33 rfl ?_
    refine a_imul dJ6_stringSize_0f7a4_34 ?_
    rw [show (10 : Int32) * -10 = -100 by decide]
    refine a_istore_n dJ6_stringSize_0f7a4_35 (by decide) ?_
    refine a_iinc (1 : Int32) dJ6_stringSize_0f7a4_36 (by decide) rfl (by decide) ?_
    refine a_goto (tgt := 16) dJ6_stringSize_0f7a4_39 (by decide) ?_
    skip
    refine a_iload_n dJ6_stringSize_0f7a4_16 rfl ?_
    refine a_bipush (10 : Int32) dJ6_stringSize_0f7a4_17 (by decide) ?_
    refine a_icmp_ge (tgt := 42) dJ6_stringSize_0f7a4_19 (by decide) (fun h19 => absurd h19 (by decide)) (fun h19 => ?_)
    refine a_iload_n dJ6_stringSize_0f7a4_22 rfl ?_
    refine a_iload_n dJ6_stringSize_0f7a4_23 rfl ?_
    refine a_icmp_le (tgt := 31) dJ6_stringSize_0f7a4_24 (by decide) (fun h24 => absurd h24 (ng100 h)) (fun h24 => ?_)
    refine a_iload_n dJ6_stringSize_0f7a4_27 rfl ?_
    refine a_iload_n dJ6_stringSize_0f7a4_28 rfl ?_
    refine a_iadd dJ6_stringSize_0f7a4_29 ?_
    exact a_out (by unfold dgL; rw [if_neg (by omega)]; rfl) rfl (a_ireturn dJ6_stringSize_0f7a4_30 rfl rfl)
abbrev R_J6_getChars_ba4f3 : Room := { frames := 2, cells := 0, slots := 0, locals := 100 }
theorem t1_J6_getChars_ba4f3 {n p v cap : Nat} (h : n < 10) (ha : Ar μ v 22 cap) (hp : p + 1 ≤ cap) (hcap : cap < 4000) : Ct Y_J6_getChars_ba4f3 R_J6_getChars_ba4f3 [.int (nI n), .int (nI (p + 1)), .ref v] μ (.inl (some (.int (nI p)))) (sI μ v p (nI (48 + n % 10))) := by
  refine Ct.ent yk_J6_getChars_ba4f3 (Nat.le_of_ble_eq_true rfl) ?_
  have hd := dgB1 (n := n) (by omega)
  refine a_iload_n dJ6_getChars_ba4f3_0 rfl ?_
  refine a_istore dJ6_getChars_ba4f3_1 (by decide) ?_
  refine a_iload_n dJ6_getChars_ba4f3_3 rfl ?_
  refine a_if_ge (tgt := 11) dJ6_getChars_ba4f3_4 (by decide) (fun h4 => ?_) (fun h4 => absurd h4 (fun z => z (nI_pos' (by omega))))
  refine a_iconst (0 : Int32) dJ6_getChars_ba4f3_11 (by decide) ?_
  refine a_istore dJ6_getChars_ba4f3_12 (by decide) ?_
  refine a_iload dJ6_getChars_ba4f3_14 rfl ?_
  refine a_if_ne (tgt := 22) dJ6_getChars_ba4f3_16 (by decide) (fun h16 => absurd h16 (fun z => z rfl)) (fun h16 => ?_)
  refine a_iload_n dJ6_getChars_ba4f3_19 rfl ?_
  refine a_ineg dJ6_getChars_ba4f3_20 ?_
  refine a_istore_n dJ6_getChars_ba4f3_21 (by decide) ?_
  refine a_iload_n dJ6_getChars_ba4f3_22 rfl ?_
  refine a_bipush (-100 : Int32) dJ6_getChars_ba4f3_23 (by decide) ?_
  refine a_icmp_gt (tgt := 72) dJ6_getChars_ba4f3_25 (by decide) (fun h25 => ?_) (fun h25 => absurd h25 (fun z => z (ng100g (show n < 100 by omega))))
  refine a_aload_n dJ6_getChars_ba4f3_72 rfl ?_
  refine a_iincD dJ6_getChars_ba4f3_73 rfl (by decide) ?_
  refine a_iload dJ6_getChars_ba4f3_76 rfl ?_
  refine a_gsDO rfl dJ6_getChars_ba4f3_78 ?_
  refine a_iload_n dJ6_getChars_ba4f3_81 rfl ?_
  refine a_ineg dJ6_getChars_ba4f3_82 ?_
  rw [Int32.neg_neg]
  refine a_dgld (t := 1) (by decide) (show n < 100 by omega) dJ6_getChars_ba4f3_83 ?_
  rw [hd.1]
  refine a_bst dJ6_getChars_ba4f3_84 ha (ixn (show p < cap by omega) (by omega)) ?_
  rw [narb hd.2.2.1]
  refine a_iload_n dJ6_getChars_ba4f3_85 rfl ?_
  refine a_bipush (-9 : Int32) dJ6_getChars_ba4f3_86 (by decide) ?_
  refine a_icmp_ge (tgt := 104) dJ6_getChars_ba4f3_88 (by decide) (fun h88 => ?_) (fun h88 => absurd h88 (fun z => z (ng9 h)))
  refine a_iload dJ6_getChars_ba4f3_104 rfl ?_
  refine a_if_eq (tgt := 118) dJ6_getChars_ba4f3_106 (by decide) (fun h106 => ?_) (fun h106 => absurd h106 (fun z => z rfl))
  refine a_iload dJ6_getChars_ba4f3_118 rfl ?_
  exact a_out rfl rfl (a_ireturn dJ6_getChars_ba4f3_120 rfl rfl)
theorem t2_J6_getChars_ba4f3 {n p v cap : Nat} (h0 : 10 ≤ n) (h : n < 100) (ha : Ar μ v 22 cap) (hp : p + 2 ≤ cap) (hcap : cap < 4000) : Ct Y_J6_getChars_ba4f3 R_J6_getChars_ba4f3 [.int (nI n), .int (nI (p + 2)), .ref v] μ (.inl (some (.int (nI p)))) (sI (sI μ v (p + 1) (nI (48 + n % 10))) v p (nI (48 + n / 10))) := by
  refine Ct.ent yk_J6_getChars_ba4f3 (Nat.le_of_ble_eq_true rfl) ?_
  have hd := dgB1 (n := n) (by omega)
  refine a_iload_n dJ6_getChars_ba4f3_0 rfl ?_
  refine a_istore dJ6_getChars_ba4f3_1 (by decide) ?_
  refine a_iload_n dJ6_getChars_ba4f3_3 rfl ?_
  refine a_if_ge (tgt := 11) dJ6_getChars_ba4f3_4 (by decide) (fun h4 => ?_) (fun h4 => absurd h4 (fun z => z (nI_pos' (by omega))))
  refine a_iconst (0 : Int32) dJ6_getChars_ba4f3_11 (by decide) ?_
  refine a_istore dJ6_getChars_ba4f3_12 (by decide) ?_
  refine a_iload dJ6_getChars_ba4f3_14 rfl ?_
  refine a_if_ne (tgt := 22) dJ6_getChars_ba4f3_16 (by decide) (fun h16 => absurd h16 (fun z => z rfl)) (fun h16 => ?_)
  refine a_iload_n dJ6_getChars_ba4f3_19 rfl ?_
  refine a_ineg dJ6_getChars_ba4f3_20 ?_
  refine a_istore_n dJ6_getChars_ba4f3_21 (by decide) ?_
  refine a_iload_n dJ6_getChars_ba4f3_22 rfl ?_
  refine a_bipush (-100 : Int32) dJ6_getChars_ba4f3_23 (by decide) ?_
  refine a_icmp_gt (tgt := 72) dJ6_getChars_ba4f3_25 (by decide) (fun h25 => ?_) (fun h25 => absurd h25 (fun z => z (ng100g (show n < 100 by omega))))
  refine a_aload_n dJ6_getChars_ba4f3_72 rfl ?_
  refine a_iincD dJ6_getChars_ba4f3_73 rfl (by decide) ?_
  refine a_iload dJ6_getChars_ba4f3_76 rfl ?_
  refine a_gsDO rfl dJ6_getChars_ba4f3_78 ?_
  refine a_iload_n dJ6_getChars_ba4f3_81 rfl ?_
  refine a_ineg dJ6_getChars_ba4f3_82 ?_
  rw [Int32.neg_neg]
  refine a_dgld (t := 1) (by decide) (show n < 100 by omega) dJ6_getChars_ba4f3_83 ?_
  rw [hd.1]
  refine a_bst dJ6_getChars_ba4f3_84 ha (ixn (show p + 1 < cap by omega) (by omega)) ?_
  rw [narb hd.2.2.1]
  refine a_iload_n dJ6_getChars_ba4f3_85 rfl ?_
  refine a_bipush (-9 : Int32) dJ6_getChars_ba4f3_86 (by decide) ?_
  refine a_icmp_ge (tgt := 104) dJ6_getChars_ba4f3_88 (by decide) (fun h88 => absurd h88 (ng9p h0 h)) (fun h88 => ?_)
  refine a_aload_n dJ6_getChars_ba4f3_91 rfl ?_
  refine a_iincD dJ6_getChars_ba4f3_92 rfl (by decide) ?_
  refine a_iload dJ6_getChars_ba4f3_95 rfl ?_
  refine a_gsDT rfl dJ6_getChars_ba4f3_97 ?_
  refine a_iload_n dJ6_getChars_ba4f3_100 rfl ?_
  refine a_ineg dJ6_getChars_ba4f3_101 ?_
  rw [Int32.neg_neg]
  refine a_dgld (t := 0) (by decide) (show n < 100 by omega) dJ6_getChars_ba4f3_102 ?_
  rw [hd.2.1]
  refine a_bst dJ6_getChars_ba4f3_103 ha (ixn (show p < cap by omega) (by omega)) ?_
  rw [narb hd.2.2.2]
  refine a_iload dJ6_getChars_ba4f3_104 rfl ?_
  refine a_if_eq (tgt := 118) dJ6_getChars_ba4f3_106 (by decide) (fun h106 => ?_) (fun h106 => absurd h106 (fun z => z rfl))
  refine a_iload dJ6_getChars_ba4f3_118 rfl ?_
  exact a_out rfl rfl (a_ireturn dJ6_getChars_ba4f3_120 rfl rfl)
abbrev R_J5_append_c97b9 : Room := { frames := 10, cells := 1, slots := 1900, locals := 500 }
theorem t1_J5_append_c97b9 (hw : Wf μ) {q0 n : Nat} (hS : SbV lo μ a l q0) (h : n < 10) (hl : l.length + 1 ≤ 900) (hm : wn μ + 1 < 1000000) : CV Y_J5_append_c97b9 R_J5_append_c97b9 [.ref a, .int (nI n)] μ (SaQ lo μ a (l ++ dgL n)) := by
  refine CV.ent yk_J5_append_c97b9 (Nat.le_of_ble_eq_true rfl) ?_
  have ho := hS.ob
  have hct := hS.len
  have hdl : dgL n = [48 + n] := if_pos h
  refine lf (a_aload_n dJ5_append_c97b9_0 rfl) ?_
  refine lf (a_getI dJ5_append_c97b9_1 fs_J5_79 rfl ho) ?_
  rw [hct]
  refine lf (a_istore_n dJ5_append_c97b9_4 (by decide)) ?_
  refine lf (a_iload_n dJ5_append_c97b9_5 rfl) ?_
  refine lf (a_iload_n dJ5_append_c97b9_6 rfl) ?_
  refine lf (a_invS (b2 := (1, 1900)) (t_J6_stringSize_0f7a4 (show n < 100 by omega)) rfl dJ5_append_c97b9_7 yk_J6_stringSize_0f7a4 sm_J6_stringSize_0f7a4 ml_J5_245 rfl (by decide) ⟨by decide, by decide⟩ (Nat.le_of_ble_eq_true rfl)) ?_
  rw [hdl]
  refine lf (a_iadd dJ5_append_c97b9_10) ?_
  rw [show nI l.length + nI [48 + n].length = nI (l.length + 1) from nI_add _ _]
  refine lf (a_istore_n dJ5_append_c97b9_11 (by decide)) ?_
  refine lf (a_aload_n dJ5_append_c97b9_12 rfl) ?_
  refine lf (a_iload_n dJ5_append_c97b9_13 rfl) ?_
  obtain ⟨v_, W14, k14, rfl, hE, hwn, ⟨p1, p2, p3, p4, ho7, hc7, hct7, v, cap, p5, hr7, ha7, p6, p7, p8, hb7⟩, hold⟩ := (t_J5_ensureCapacityInternal_d00df hw hS hl hm)
  refine lf (a_invG (b2 := (0, 0)) k14 rfl dJ5_append_c97b9_14 yk_J5_ensureCapacityInternal_d00df im_J5_ensureCapacityInternal_d00df sl_EN ml_J5_100 rfl ho (by decide) hc_J4 (by decide) ⟨Nat.le_refl _, Nat.le_refl _⟩ (Nat.le_of_ble_eq_true rfl)) ?_
  have hav := ob_ne ho7 ha7
  refine lf (a_aload_n dJ5_append_c97b9_17 rfl) ?_
  refine lf (a_invG (b2 := (0, 0)) (t_J5_isLatin1_aae02 ho7 hc7) rfl dJ5_append_c97b9_18 yk_J5_isLatin1_aae02 im_J5_isLatin1_aae02 sl_L1 ml_J5_83 rfl ho7 (by decide) hc_J4 (by decide) (by decide) (Nat.le_of_ble_eq_true rfl)) ?_
  refine lf2 (a_if_eq (tgt := 37) dJ5_append_c97b9_21 (by decide)) (fun h21 => absurd h21 (by decide)) (fun h21 => ?_)
  refine lf (a_iload_n dJ5_append_c97b9_24 rfl) ?_
  refine lf (a_iload_n dJ5_append_c97b9_25 rfl) ?_
  refine lf (a_aload_n dJ5_append_c97b9_26 rfl) ?_
  refine lf (a_getR hr7 dJ5_append_c97b9_27 fs_J5_15 rfl ho7) ?_
  refine lf (a_invS (b2 := (0, 0)) (t1_J6_getChars_ba4f3 h (p := l.length) ha7 p7 (by omega)) rfl dJ5_append_c97b9_30 yk_J6_getChars_ba4f3 sm_J6_getChars_ba4f3 ml_J5_248 rfl (by decide) (by decide) (Nat.le_of_ble_eq_true rfl)) ?_
  refine lf (a_pop dJ5_append_c97b9_33 rfl) ?_
  refine lf (a_goto (tgt := 48) dJ5_append_c97b9_34 (by decide)) ?_
  refine lf (a_aload_n dJ5_append_c97b9_48 rfl) ?_
  refine lf (a_iload_n dJ5_append_c97b9_49 rfl) ?_
  refine lf (a_putI dJ5_append_c97b9_50 fs_J5_79 rfl rfl rfl ho7) ?_
  refine lf (a_aload_n dJ5_append_c97b9_53 rfl) ?_
  refine ⟨_, _, (a_areturn dJ5_append_c97b9_54 rfl (by first | exact Or.inl ⟨_, rfl⟩ | exact Or.inr ⟨_, rfl⟩)), ?_⟩
  refine ⟨_, rfl, rfl, ((hE.mono (S' := SbS μ a) (fun _ _ z => Or.inl z)).sI2 (fun h => Or.inr (hold v hr7 h))).sI2 (fun _ => Or.inl rfl), hwn, by rw [List.length_append]; exact hl, fun z hz => ?_, p3, p4, ho7, ?_, ?_, v, cap, p5, hr7, ha7, by rw [List.length_append]; exact p7, Nat.zero_le _, p8, fun j hj => ?_⟩
  · rcases List.mem_append.mp hz with h9 | h9
    · exact p2 z h9
    · simp only [List.mem_cons, List.not_mem_nil, or_false] at h9
      omega
  · rw [gI_sI, if_neg (fun z => by omega), gI_sI, if_neg (fun z => hav z.1)]; exact hc7
  · rw [gI_sI, if_pos ⟨rfl, rfl⟩, List.length_append]; rfl
  · rw [gI_sI, if_neg (fun e => hav e.1.symm), gI_sI]
    by_cases z : j = l.length
    · rw [if_pos ⟨rfl, z⟩]
      refine ⟨48 + n % 10, by omega, rfl, fun _ => ?_⟩
      rw [getD_app2 (by omega), z, Nat.sub_self, Nat.mod_eq_of_lt h]
      rfl
    · rw [if_neg (fun e => z e.2)]
      obtain ⟨x9, e1, e2, e3⟩ := hb7 j hj
      refine ⟨x9, e1, e2, fun hh => ?_⟩
      rw [List.length_append] at hh
      have hh : j < l.length + 1 := hh
      rw [getD_app1 (by omega)]
      exact e3 (by omega)
theorem t2_J5_append_c97b9 (hw : Wf μ) {q0 n : Nat} (hS : SbV lo μ a l q0) (h0 : 10 ≤ n) (h : n < 100) (hl : l.length + 2 ≤ 900) (hm : wn μ + 1 < 1000000) : CV Y_J5_append_c97b9 R_J5_append_c97b9 [.ref a, .int (nI n)] μ (SaQ lo μ a (l ++ dgL n)) := by
  refine CV.ent yk_J5_append_c97b9 (Nat.le_of_ble_eq_true rfl) ?_
  have ho := hS.ob
  have hct := hS.len
  have hdl : dgL n = [48 + n / 10, 48 + n % 10] := if_neg (by omega)
  refine lf (a_aload_n dJ5_append_c97b9_0 rfl) ?_
  refine lf (a_getI dJ5_append_c97b9_1 fs_J5_79 rfl ho) ?_
  rw [hct]
  refine lf (a_istore_n dJ5_append_c97b9_4 (by decide)) ?_
  refine lf (a_iload_n dJ5_append_c97b9_5 rfl) ?_
  refine lf (a_iload_n dJ5_append_c97b9_6 rfl) ?_
  refine lf (a_invS (b2 := (1, 1900)) (t_J6_stringSize_0f7a4 (show n < 100 by omega)) rfl dJ5_append_c97b9_7 yk_J6_stringSize_0f7a4 sm_J6_stringSize_0f7a4 ml_J5_245 rfl (by decide) ⟨by decide, by decide⟩ (Nat.le_of_ble_eq_true rfl)) ?_
  rw [hdl]
  refine lf (a_iadd dJ5_append_c97b9_10) ?_
  rw [show nI l.length + nI [48 + n / 10, 48 + n % 10].length = nI (l.length + 2) from nI_add _ _]
  refine lf (a_istore_n dJ5_append_c97b9_11 (by decide)) ?_
  refine lf (a_aload_n dJ5_append_c97b9_12 rfl) ?_
  refine lf (a_iload_n dJ5_append_c97b9_13 rfl) ?_
  obtain ⟨v_, W14, k14, rfl, hE, hwn, ⟨p1, p2, p3, p4, ho7, hc7, hct7, v, cap, p5, hr7, ha7, p6, p7, p8, hb7⟩, hold⟩ := (t_J5_ensureCapacityInternal_d00df hw hS hl hm)
  refine lf (a_invG (b2 := (0, 0)) k14 rfl dJ5_append_c97b9_14 yk_J5_ensureCapacityInternal_d00df im_J5_ensureCapacityInternal_d00df sl_EN ml_J5_100 rfl ho (by decide) hc_J4 (by decide) ⟨Nat.le_refl _, Nat.le_refl _⟩ (Nat.le_of_ble_eq_true rfl)) ?_
  have hav := ob_ne ho7 ha7
  refine lf (a_aload_n dJ5_append_c97b9_17 rfl) ?_
  refine lf (a_invG (b2 := (0, 0)) (t_J5_isLatin1_aae02 ho7 hc7) rfl dJ5_append_c97b9_18 yk_J5_isLatin1_aae02 im_J5_isLatin1_aae02 sl_L1 ml_J5_83 rfl ho7 (by decide) hc_J4 (by decide) (by decide) (Nat.le_of_ble_eq_true rfl)) ?_
  refine lf2 (a_if_eq (tgt := 37) dJ5_append_c97b9_21 (by decide)) (fun h21 => absurd h21 (by decide)) (fun h21 => ?_)
  refine lf (a_iload_n dJ5_append_c97b9_24 rfl) ?_
  refine lf (a_iload_n dJ5_append_c97b9_25 rfl) ?_
  refine lf (a_aload_n dJ5_append_c97b9_26 rfl) ?_
  refine lf (a_getR hr7 dJ5_append_c97b9_27 fs_J5_15 rfl ho7) ?_
  refine lf (a_invS (b2 := (0, 0)) (t2_J6_getChars_ba4f3 h0 h (p := l.length) ha7 p7 (by omega)) rfl dJ5_append_c97b9_30 yk_J6_getChars_ba4f3 sm_J6_getChars_ba4f3 ml_J5_248 rfl (by decide) (by decide) (Nat.le_of_ble_eq_true rfl)) ?_
  refine lf (a_pop dJ5_append_c97b9_33 rfl) ?_
  refine lf (a_goto (tgt := 48) dJ5_append_c97b9_34 (by decide)) ?_
  refine lf (a_aload_n dJ5_append_c97b9_48 rfl) ?_
  refine lf (a_iload_n dJ5_append_c97b9_49 rfl) ?_
  refine lf (a_putI dJ5_append_c97b9_50 fs_J5_79 rfl rfl rfl ho7) ?_
  refine lf (a_aload_n dJ5_append_c97b9_53 rfl) ?_
  refine ⟨_, _, (a_areturn dJ5_append_c97b9_54 rfl (by first | exact Or.inl ⟨_, rfl⟩ | exact Or.inr ⟨_, rfl⟩)), ?_⟩
  refine ⟨_, rfl, rfl, (((hE.mono (S' := SbS μ a) (fun _ _ z => Or.inl z)).sI2 (fun h => Or.inr (hold v hr7 h))).sI2 (fun h => Or.inr (hold v hr7 h))).sI2 (fun _ => Or.inl rfl), hwn, by rw [List.length_append]; exact hl, fun z hz => ?_, p3, p4, ho7, ?_, ?_, v, cap, p5, hr7, ha7, by rw [List.length_append]; exact p7, Nat.zero_le _, p8, fun j hj => ?_⟩
  · rcases List.mem_append.mp hz with h9 | h9
    · exact p2 z h9
    · simp only [List.mem_cons, List.not_mem_nil, or_false] at h9
      omega
  · rw [gI_sI, if_neg (fun z => by omega), gI_sI, if_neg (fun z => hav z.1), gI_sI, if_neg (fun z => hav z.1)]; exact hc7
  · rw [gI_sI, if_pos ⟨rfl, rfl⟩, List.length_append]; rfl
  · rw [gI_sI, if_neg (fun e => hav e.1.symm), gI_sI]
    by_cases z : j = l.length
    · rw [if_pos ⟨rfl, z⟩]
      refine ⟨48 + n / 10, by omega, rfl, fun _ => ?_⟩
      rw [getD_app2 (by omega), z, Nat.sub_self]
      rfl
    · rw [if_neg (fun e => z e.2), gI_sI]
      by_cases z2 : j = l.length + 1
      · rw [if_pos ⟨rfl, z2⟩]
        refine ⟨48 + n % 10, by omega, rfl, fun _ => ?_⟩
        rw [getD_app2 (by omega), z2, show l.length + 1 - l.length = 1 by omega]
        rfl
      · rw [if_neg (fun e => z2 e.2)]
        obtain ⟨x9, e1, e2, e3⟩ := hb7 j hj
        refine ⟨x9, e1, e2, fun hh => ?_⟩
        rw [List.length_append] at hh
        have hh : j < l.length + 2 := hh
        rw [getD_app1 (by omega)]
        exact e3 (by omega)
theorem t_J5_append_c97b9 (hw : Wf μ) {q0 n : Nat} (hS : SbV lo μ a l q0) (h : n < 100) (hl : l.length + 2 ≤ 900) (hm : wn μ + 1 < 1000000) : CV Y_J5_append_c97b9 R_J5_append_c97b9 [.ref a, .int (nI n)] μ (SaQ lo μ a (l ++ dgL n)) := by
  rcases Nat.lt_or_ge n 10 with h1 | h1
  · exact t1_J5_append_c97b9 hw hS h1 (by omega) hm
  · exact t2_J5_append_c97b9 hw hS h1 h hl hm
end SBN
