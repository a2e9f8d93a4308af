section SBM
variable {μ W : Wd} {lo a : Nat} {l : List Nat}
theorem r0_late {i k : Nat} (h : 339 ≤ i) : r0 i k = none := by
  unfold r0
  have e2 : r0L.getD i [] = [] := by rw [List.getD_eq_getElem?_getD, List.getElem?_eq_none (Nat.le_trans (by decide +kernel) h)]; rfl
  rw [e2]; rfl
abbrev sIx (μ : Wd) (i k : Nat) (v : Int32) : Wd := sI μ i k v
abbrev sRx (μ : Wd) (i k : Nat) (v : Option Nat) : Wd := sR μ i k v
theorem Ex.sI2 {S : Nat → Prop} {i k : Nat} {v : Int32} (h : Ex S μ W) (hS : i < wn μ → S i) : Ex S μ (sIx W i k v) := ⟨h.1.sI, h.2.1, h.2.2.1, h.2.2.2.1, fun j hj hs z => ⟨by
  rw [gI_sI, if_neg (fun e => hs (by rw [e.1]; exact hS (by rw [← e.1]; exact hj)))]
  exact (h.2.2.2.2 j hj hs z).1, (h.2.2.2.2 j hj hs z).2.1, (h.2.2.2.2 j hj hs z).2.2⟩⟩
theorem Ex.sR2 {S : Nat → Prop} {i k : Nat} {v : Option Nat} (h : Ex S μ W) (hi : 339 ≤ i) (hS : i < wn μ → S i) : Ex S μ (sRx W i k v) := ⟨h.1.sR (r0_late hi) _, h.2.1, h.2.2.1, h.2.2.2.1, fun j hj hs z => ⟨(h.2.2.2.2 j hj hs z).1, (h.2.2.2.2 j hj hs z).2.1, by
  rw [gR_sR, if_neg (fun e => hs (by rw [e.1]; exact hS (by rw [← e.1]; exact hj)))]
  exact (h.2.2.2.2 j hj hs z).2.2⟩⟩
theorem shl0 {n : Nat} (h : n < 4000) : nI n <<< ((0 : Int32) &&& 31) = nI n := by
  rw [pk_shlN ((0 : Int32) &&& 31) 0 (by decide) (by omega), Nat.pow_zero, Nat.mul_one]
theorem mxI {x y : Nat} (hx : x < 2 ^ 31) (hy : y < 2 ^ 31) : (if nI x < nI y then nI y else nI x) = nI (max x y) := by
  by_cases h : x < y
  · rw [if_pos ((nI_ltI hx hy).mpr h), Nat.max_eq_right (by omega)]
  · rw [if_neg (fun z => h ((nI_ltI hx hy).mp z)), Nat.max_eq_left (by omega)]
theorem mnI {x y : Nat} (hx : x < 2 ^ 31) (hy : y < 2 ^ 31) : (if nI y < nI x then nI y else nI x) = nI (min x y) := by
  by_cases h : y < x
  · rw [if_pos ((nI_ltI hy hx).mpr h), Nat.min_eq_right (by omega)]
  · rw [if_neg (fun z => h ((nI_ltI hy hx).mp z)), Nat.min_eq_left (by omega)]
theorem gtBig {n : Nat} (h : n < 9000) : ¬ (2147483639 : Int32) < nI n := nI_nlt (a := 2147483639) (b := n) (by omega) (by decide)
theorem neBig {n : Nat} (h : n < 9000) : ¬ nI n = (2147483647 : Int32) := fun z => by
  have := (nI_eq (a := n) (b := 2147483647) (by omega) (by decide)).mp z
  omega
theorem geBig {n : Nat} (h : n < 9000) : ¬ (2147483631 : Int32) ≤ nI n := nI_ge (a := n) (b := 2147483631) (by omega) (by decide)
theorem subz {q c : Nat} (h : q ≤ c) (hc : c < 9000) : nI q - nI c ≤ 0 := by
  refine Int32.le_iff_toInt_le.mpr ?_
  rw [pk_sub_toInt (by omega) (by omega)]
  show (q : Int) - c ≤ (0 : Int32).toInt
  rw [show (0 : Int32).toInt = 0 from rfl]
  omega
theorem subp {q c : Nat} (h : c < q) (hc : q < 9000) : ¬ nI (q - c) ≤ 0 := nI_ge (a := 0) (b := q - c) (by omega) (by omega)
theorem narb {c : Nat} (h : c < 128) : vp_nar .byte (nI c) = nI c := by
  have q : ∀ c, c < 128 → vp_nar .byte (nI c) = nI c := by decide +kernel
  exact q c h
theorem acl_J7 : Cond.methodLink RJ7 150 arraycopyName ∈ lwa := lwa_in 1171 (by decide +kernel) rfl
theorem acl_J0 : Cond.methodLink RJ0 212 arraycopyName ∈ lwa := lwa_in 1212 (by decide +kernel) rfl
theorem oi_J5 : Cond.methodLink RJ5 3 objectInit ∈ lwa := lwa_in 1119 (by decide +kernel) rfl
theorem ck_J8_200 : Cond.constant RJ8 200 2147483639 ∈ lwa := lwa_in 1156 (by decide +kernel) rfl
theorem ck_J5_39 : Cond.constant RJ5 39 2147483647 ∈ lwa := lwa_in 1122 (by decide +kernel) rfl
theorem ck_J5_38 : Cond.constant RJ5 38 2147483631 ∈ lwa := lwa_in 1121 (by decide +kernel) rfl
abbrev R_J5_isLatin1_aae02 : Room := { frames := 2, cells := 0, slots := 0, locals := 100 }
theorem t_J5_isLatin1_aae02 (ho : Ob μ a 12) (hc : gI μ a 1 = 0) : Ct Y_J5_isLatin1_aae02 R_J5_isLatin1_aae02 [.ref a] μ (.inl (some (.int 1))) μ := by
  refine Ct.ent yk_J5_isLatin1_aae02 (Nat.le_of_ble_eq_true rfl) ?_
  refine a_gsCS5 rfl dJ5_isLatin1_aae02_0 ?_
  refine a_if_eq (tgt := 17) dJ5_isLatin1_aae02_3 (by decide) (fun h3 => absurd h3 (by decide)) (fun h3 => ?_)
  refine a_aload_n dJ5_isLatin1_aae02_6 rfl ?_
  refine a_getI dJ5_isLatin1_aae02_7 fs_J5_22 rfl ho ?_
  rw [hc]
  refine a_if_ne (tgt := 17) dJ5_isLatin1_aae02_10 (by decide) (fun h10 => absurd h10 (by decide)) (fun h10 => ?_)
  refine a_iconst (1 : Int32) dJ5_isLatin1_aae02_13 (by decide) ?_
  refine a_goto (tgt := 18) dJ5_isLatin1_aae02_14 (by decide) ?_
  exact a_out rfl rfl (a_ireturn dJ5_isLatin1_aae02_18 rfl rfl)
abbrev R_J5_length_8abf5 : Room := { frames := 2, cells := 0, slots := 0, locals := 100 }
theorem t_J5_length_8abf5 (ho : Ob μ a 12) {n : Nat} (hn : gI μ a 3 = nI n) : Ct Y_J5_length_8abf5 R_J5_length_8abf5 [.ref a] μ (.inl (some (.int (nI n)))) μ := by
  refine Ct.ent yk_J5_length_8abf5 (Nat.le_of_ble_eq_true rfl) ?_
  refine a_aload_n dJ5_length_8abf5_0 rfl ?_
  refine a_getI dJ5_length_8abf5_1 fs_J5_79 rfl ho ?_
  rw [hn]
  exact a_out rfl rfl (a_ireturn dJ5_length_8abf5_4 rfl rfl)
abbrev R_J5_getValue_6d5f1 : Room := { frames := 2, cells := 0, slots := 0, locals := 100 }
theorem t_J5_getValue_6d5f1 (ho : Ob μ a 12) {v : Nat} (hr : gR μ a 0 = some v) : Ct Y_J5_getValue_6d5f1 R_J5_getValue_6d5f1 [.ref a] μ (.inl (some (.ref v))) μ := by
  refine Ct.ent yk_J5_getValue_6d5f1 (Nat.le_of_ble_eq_true rfl) ?_
  refine a_aload_n dJ5_getValue_6d5f1_0 rfl ?_
  refine a_getR hr dJ5_getValue_6d5f1_1 fs_J5_15 rfl ho ?_
  exact a_out rfl rfl (a_areturn dJ5_getValue_6d5f1_4 rfl (by first | exact Or.inl ⟨_, rfl⟩ | exact Or.inr ⟨_, rfl⟩))
abbrev R_J8_newLength_cabcc : Room := { frames := 4, cells := 0, slots := 0, locals := 200 }
theorem t_J8_newLength_cabcc {c g p : Nat} (h : c + g + p < 9000) (h0 : 0 < c + max g p) : Ct Y_J8_newLength_cabcc R_J8_newLength_cabcc [.int (nI c), .int (nI g), .int (nI p)] μ (.inl (some (.int (nI (c + max g p))))) μ := by
  refine Ct.ent yk_J8_newLength_cabcc (Nat.le_of_ble_eq_true rfl) ?_
  have hm : c + max g p < 9000 := by omega
  refine a_iload_n dJ8_newLength_cabcc_0 rfl ?_
  refine a_iload_n dJ8_newLength_cabcc_1 rfl ?_
  refine a_iload_n dJ8_newLength_cabcc_2 rfl ?_
  refine a_mmax dJ8_newLength_cabcc_3 ml_J8_194 (by decide) (by decide) (Nat.le_of_ble_eq_true rfl) ?_
  rw [mxI (by omega) (by omega)]
  refine a_iadd dJ8_newLength_cabcc_6 ?_
  rw [nI_add]
  refine a_istore_n dJ8_newLength_cabcc_7 (by decide) ?_
  refine a_iconst (0 : Int32) dJ8_newLength_cabcc_8 (by decide) ?_
  refine a_iload_n dJ8_newLength_cabcc_9 rfl ?_
  refine a_icmp_ge (tgt := 21) dJ8_newLength_cabcc_10 (by decide) (fun h10 => absurd h10 (nI_ge (a := 0) h0 (by omega))) (fun h10 => ?_)
  refine a_iload_n dJ8_newLength_cabcc_13 rfl ?_
  refine a_ldc dJ8_newLength_cabcc_14 ck_J8_200 ?_
  refine a_icmp_gt (tgt := 21) dJ8_newLength_cabcc_16 (by decide) (fun h16 => absurd h16 (gtBig hm)) (fun h16 => ?_)
  refine a_iload_n dJ8_newLength_cabcc_19 rfl ?_
  exact a_out rfl rfl (a_ireturn dJ8_newLength_cabcc_20 rfl rfl)
abbrev R_J5_newCapacity_0f7a4 : Room := { frames := 6, cells := 0, slots := 0, locals := 300 }
theorem t_J5_newCapacity_0f7a4 (ho : Ob μ a 12) (hc : gI μ a 1 = 0) {v cap m : Nat} (hr : gR μ a 0 = some v) (ha : Ar μ v 22 cap) (h1 : cap < m) (h2 : m ≤ 900) : Ct Y_J5_newCapacity_0f7a4 R_J5_newCapacity_0f7a4 [.ref a, .int (nI m)] μ (.inl (some (.int (nI (cap + max (m - cap) (cap + 2)))))) μ := by
  refine Ct.ent yk_J5_newCapacity_0f7a4 (Nat.le_of_ble_eq_true rfl) ?_
  have hm : cap + max (m - cap) (cap + 2) < 4000 := by omega
  refine a_aload_n dJ5_newCapacity_0f7a4_0 rfl ?_
  refine a_getR hr dJ5_newCapacity_0f7a4_1 fs_J5_15 rfl ho ?_
  refine a_alen (nI cap) dJ5_newCapacity_0f7a4_4 ha (by decide) rfl ?_
  refine a_istore_n dJ5_newCapacity_0f7a4_5 (by decide) ?_
  refine a_iload_n dJ5_newCapacity_0f7a4_6 rfl ?_
  refine a_aload_n dJ5_newCapacity_0f7a4_7 rfl ?_
  refine a_getI dJ5_newCapacity_0f7a4_8 fs_J5_22 rfl ho ?_
  rw [hc]
  refine a_ishl dJ5_newCapacity_0f7a4_11 ?_
  rw [shl0 (by omega)]
  refine a_istore_n dJ5_newCapacity_0f7a4_12 (by decide) ?_
  refine a_iload_n dJ5_newCapacity_0f7a4_13 rfl ?_
  refine a_iload_n dJ5_newCapacity_0f7a4_14 rfl ?_
  refine a_isub dJ5_newCapacity_0f7a4_15 ?_
  rw [pk_sub (by omega)]
  refine a_istore dJ5_newCapacity_0f7a4_16 (by decide) ?_
  refine a_iload_n dJ5_newCapacity_0f7a4_18 rfl ?_
  refine a_iload dJ5_newCapacity_0f7a4_19 rfl ?_
  refine a_iload_n dJ5_newCapacity_0f7a4_21 rfl ?_
  refine a_iconst (2 : Int32) dJ5_newCapacity_0f7a4_22 (by decide) ?_
  refine a_aload_n dJ5_newCapacity_0f7a4_23 rfl ?_
  refine a_getI dJ5_newCapacity_0f7a4_24 fs_J5_22 rfl ho ?_
  rw [hc]
  refine a_ishl dJ5_newCapacity_0f7a4_27 ?_
  rw [show ((2 : Int32) <<< ((0 : Int32) &&& 31)) = nI 2 by decide +kernel]
  refine a_iadd dJ5_newCapacity_0f7a4_28 ?_
  rw [nI_add]
  refine a_invS (b2 := (0, 0)) (t_J8_newLength_cabcc (by omega) (by omega)) rfl dJ5_newCapacity_0f7a4_29 yk_J8_newLength_cabcc sm_J8_newLength_cabcc ml_J5_114 rfl (by decide) (by decide) (Nat.le_of_ble_eq_true rfl) ?_
  refine a_istore dJ5_newCapacity_0f7a4_32 (by decide) ?_
  refine a_iload dJ5_newCapacity_0f7a4_34 rfl ?_
  refine a_ldc dJ5_newCapacity_0f7a4_36 ck_J5_39 ?_
  refine a_icmp_ne (tgt := 51) dJ5_newCapacity_0f7a4_38 (by decide) (fun h38 => ?_) (fun h38 => absurd h38 (neBig (by omega)))
  refine a_iload dJ5_newCapacity_0f7a4_51 rfl ?_
  refine a_aload_n dJ5_newCapacity_0f7a4_53 rfl ?_
  refine a_getI dJ5_newCapacity_0f7a4_54 fs_J5_22 rfl ho ?_
  rw [hc]
  refine a_ishr dJ5_newCapacity_0f7a4_57 ?_
  rw [sh0 (by omega)]
  exact a_out rfl rfl (a_ireturn dJ5_newCapacity_0f7a4_58 rfl rfl)
abbrev R_J7_copyOf_9075b : Room := { frames := 4, cells := 1, slots := 1900, locals := 200 }
/-- a longer copy of the bytes -/
def CoQ (μ : Wd) (v cap q : Nat) (r : Option Value) (V : Wd) : Prop := r = some (.ref (wn μ)) ∧ Ex (fun _ => False) μ V ∧ wn V = wn μ + 1 ∧ Ar V (wn μ) 22 q ∧ ∀ j, j < q → gI V (wn μ) j = if j < cap then gI μ v j else 0
theorem t_J7_copyOf_9075b (hw : Wf μ) {v cap q : Nat} (ha : Ar μ v 22 cap) (h1 : cap < q) (h2 : q ≤ 1900) (hx : ∀ j, j < cap → ∃ x, x < 128 ∧ gI μ v j = nI x) (hm : wn μ + 1 < 1000000) : CV Y_J7_copyOf_9075b R_J7_copyOf_9075b [.ref v, .int (nI q)] μ (CoQ μ v cap q) := by
  refine CV.ent yk_J7_copyOf_9075b (Nat.le_of_ble_eq_true rfl) ?_
  have hb1 : Ar (mk μ (q * 32 + 22)) (wn μ) 22 q := ⟨Nat.lt_succ_self _, km_new hw.1 (by decide), al_new hw.1 (by decide)⟩
  have ha1 : Ar (mk μ (q * 32 + 22)) v 22 cap := ha.ex (Ex.mk (S := fun _ => False) hw _)
  have hne : v ≠ wn μ := Nat.ne_of_lt ha.1
  have hx1 : ∀ j, j < cap → ∃ x, x < 128 ∧ gI (mk μ (q * 32 + 22)) v j = nI x := fun j hj => by rw [gI_mk, if_neg hne]; exact hx j hj
  refine lf (a_iload_n dJ7_copyOf_9075b_0 rfl) ?_
  refine lf (a_aload_n dJ7_copyOf_9075b_1 rfl) ?_
  refine lf (a_alen (nI cap) dJ7_copyOf_9075b_2 ha (by decide) rfl) ?_
  refine lfn (a_icmp_ne (tgt := 14) dJ7_copyOf_9075b_3 (by decide)) (fun h3 => ?_) (fun h3 => absurd h3 (fun z => absurd ((nI_eq (by omega) (by omega)).mp z) (by omega)))
  refine lf (a_iload_n dJ7_copyOf_9075b_14 rfl) ?_
  refine lf (a_newI (c9 := q * 32 + 22) (len := q) (t := 22) (aty := .byte) (ty := .byte) dJ7_copyOf_9075b_15 rfl ac_byte ⟨rfl, by decide, by decide, by decide⟩ rfl (by decide) (by omega) (km_new hw.1 (by decide)) (al_new hw.1 (by decide)) (by omega) (b' := (0, 1900 - q)) (by show ((1 : Nat), (1900 : Nat)) = (0 + 1, 1900 - q + q); rw [Nat.sub_add_cancel h2])) ?_
  refine lf (a_astore_n dJ7_copyOf_9075b_17 (by decide)) ?_
  refine lf (a_aload_n dJ7_copyOf_9075b_18 rfl) ?_
  refine lf (a_iconst (0 : Int32) dJ7_copyOf_9075b_19 (by decide)) ?_
  refine lf (a_aload_n dJ7_copyOf_9075b_20 rfl) ?_
  refine lf (a_iconst (0 : Int32) dJ7_copyOf_9075b_21 (by decide)) ?_
  refine lf (a_aload_n dJ7_copyOf_9075b_22 rfl) ?_
  refine lf (a_alen (nI cap) dJ7_copyOf_9075b_23 ha1 (by decide) rfl) ?_
  refine lf (a_iload_n dJ7_copyOf_9075b_24 rfl) ?_
  refine lf (a_mmin dJ7_copyOf_9075b_25 ml_J7_304 (by decide) (by decide) (Nat.le_of_ble_eq_true rfl)) ?_
  rw [mnI (by omega) (by omega), Nat.min_eq_left (by omega)]
  refine lf (a_copyB (dp := 0) dJ7_copyOf_9075b_28 acl_J7 ha1 hb1 (Nat.le_refl _) (by omega) (by omega) hx1 (by decide) (by decide) (Nat.le_of_ble_eq_true rfl)) ?_
  refine lf (a_aload_n dJ7_copyOf_9075b_31 rfl) ?_
  refine ⟨_, _, (a_areturn dJ7_copyOf_9075b_32 rfl (by first | exact Or.inl ⟨_, rfl⟩ | exact Or.inr ⟨_, rfl⟩)), ?_⟩
  refine ⟨_, rfl, rfl, (Ex.mk hw (q * 32 + 22)).cpY (fun h => absurd h (Nat.lt_irrefl _)), rfl, hb1, fun j hj => ?_⟩
  rw [gI_cpY]
  by_cases z : j < cap
  · rw [if_pos ⟨rfl, Nat.zero_le _, by omega⟩, if_pos z, gI_mk, if_neg hne, Nat.sub_zero]
  · rw [if_neg (fun e => z (by omega)), if_neg z, gI_mk, if_pos rfl]
abbrev R_J5_ensureCapacityInternal_d00df : Room := { frames := 8, cells := 1, slots := 1900, locals := 400 }
theorem SbV.ob {W : Wd} {q : Nat} (h : SbV lo W a l q) : Ob W a 12 := h.2.2.2.2.1
theorem SbV.len {W : Wd} {q : Nat} (h : SbV lo W a l q) : gI W a 3 = nI l.length := h.2.2.2.2.2.2.1
theorem SbV.cod {W : Wd} {q : Nat} (h : SbV lo W a l q) : gI W a 1 = 0 := h.2.2.2.2.2.1
/-- there is room for q letters -/
def EnQ (lo : Nat) (μ : Wd) (a : Nat) (l : List Nat) (q : Nat) (r : Option Value) (V : Wd) : Prop := r = none ∧ Ex (fun i => i = a) μ V ∧ wn V ≤ wn μ + 1 ∧ SbV lo V a l q ∧ ∀ v, gR V a 0 = some v → v < wn μ → gR μ a 0 = some v
theorem t_J5_ensureCapacityInternal_d00df (hw : Wf μ) {q0 q : Nat} (hS : SbV lo μ a l q0) (h2 : q ≤ 900) (hm : wn μ + 1 < 1000000) : CV Y_J5_ensureCapacityInternal_d00df R_J5_ensureCapacityInternal_d00df [.ref a, .int (nI q)] μ (EnQ lo μ a l q) := by
  refine CV.ent yk_J5_ensureCapacityInternal_d00df (Nat.le_of_ble_eq_true rfl) ?_
  have hS0 := hS
  obtain ⟨p1, p2, p3, p4, ho, hc, hct, v, cap, p5, hr, ha, p6, p7, p8, hb⟩ := hS
  rcases Nat.lt_or_ge cap q with hlt | hge
  · refine lf (a_aload_n dJ5_ensureCapacityInternal_d00df_0 rfl) ?_
    refine lf (a_getR hr dJ5_ensureCapacityInternal_d00df_1 fs_J5_15 rfl ho) ?_
    refine lf (a_alen (nI cap) dJ5_ensureCapacityInternal_d00df_4 ha (by decide) rfl) ?_
    refine lf (a_aload_n dJ5_ensureCapacityInternal_d00df_5 rfl) ?_
    refine lf (a_getI dJ5_ensureCapacityInternal_d00df_6 fs_J5_22 rfl ho) ?_
    rw [hc]
    refine lf (a_ishr dJ5_ensureCapacityInternal_d00df_9) ?_
    rw [sh0 (by omega)]
    refine lf (a_istore_n dJ5_ensureCapacityInternal_d00df_10 (by decide)) ?_
    refine lf (a_iload_n dJ5_ensureCapacityInternal_d00df_11 rfl) ?_
    refine lf (a_iload_n dJ5_ensureCapacityInternal_d00df_12 rfl) ?_
    refine lf (a_isub dJ5_ensureCapacityInternal_d00df_13) ?_
    rw [pk_sub (by omega)]
    refine lf2 (a_if_le (tgt := 38) dJ5_ensureCapacityInternal_d00df_14 (by decide)) (fun h14 => absurd h14 (subp hlt (by omega))) (fun h14 => ?_)
    refine lf (a_aload_n dJ5_ensureCapacityInternal_d00df_17 rfl) ?_
    refine lf (a_aload_n dJ5_ensureCapacityInternal_d00df_18 rfl) ?_
    refine lf (a_getR hr dJ5_ensureCapacityInternal_d00df_19 fs_J5_15 rfl ho) ?_
    refine lf (a_aload_n dJ5_ensureCapacityInternal_d00df_22 rfl) ?_
    refine lf (a_iload_n dJ5_ensureCapacityInternal_d00df_23 rfl) ?_
    refine lf (a_invG (b2 := (1, 1900)) (t_J5_newCapacity_0f7a4 ho hc hr ha hlt h2) rfl dJ5_ensureCapacityInternal_d00df_24 yk_J5_newCapacity_0f7a4 im_J5_newCapacity_0f7a4 sl_NC ml_J5_104 rfl ho (by decide) hc_J4 (by decide) (by decide) (Nat.le_of_ble_eq_true rfl)) ?_
    refine lf (a_aload_n dJ5_ensureCapacityInternal_d00df_27 rfl) ?_
    refine lf (a_getI dJ5_ensureCapacityInternal_d00df_28 fs_J5_22 rfl ho) ?_
    rw [hc]
    refine lf (a_ishl dJ5_ensureCapacityInternal_d00df_31) ?_
    rw [shl0 (by omega)]
    obtain ⟨v_, W32, k32, rfl, hE, hwn, hA, hbs⟩ := (t_J7_copyOf_9075b hw ha (q := cap + max (q - cap) (cap + 2)) (by omega) (by omega) (fun j hj => (hb j hj).imp fun x h => ⟨h.1, h.2.1⟩) hm)
    have ho1 : Ob W32 a 12 := ho.ex hE
    have hE2 : Ex (fun i => i = a) μ (sR W32 a 0 (some (wn μ))) := (hE.mono (fun _ _ z => z.elim)).sR2 (by omega) (fun _ => rfl)
    refine lf (a_invS (b2 := (0, 0)) k32 rfl dJ5_ensureCapacityInternal_d00df_32 yk_J7_copyOf_9075b sm_J7_copyOf_9075b ml_J5_108 rfl (by decide) ⟨Nat.le_refl _, Nat.le_refl _⟩ (Nat.le_of_ble_eq_true rfl)) ?_
    refine lf (a_putR dJ5_ensureCapacityInternal_d00df_35 fs_J5_15 rfl rfl ho1) ?_
    refine ⟨_, _, (a_return dJ5_ensureCapacityInternal_d00df_38 rfl), ?_⟩
    have hne : a ≠ wn μ := Nat.ne_of_lt ho.1
    refine ⟨_, rfl, rfl, hE2, Nat.le_of_eq hwn, ⟨p1, p2, p3, p4, ho1, ?_, ?_, wn μ, cap + max (q - cap) (cap + 2), by have := ho.1; omega, ?_, hA, by omega, by omega, by omega, fun j hj => ?_⟩, fun z e h => ?_⟩
    · rw [gI_sR, hE.i ho.1 (fun z => z) 1]; exact hc
    · rw [gI_sR, hE.i ho.1 (fun z => z) 3]; exact hct
    · rw [gR_sR, if_pos ⟨rfl, rfl⟩]
    · rw [gI_sR, hbs j hj]
      by_cases z : j < cap
      · rw [if_pos z]; exact hb j z
      · rw [if_neg z]; exact ⟨0, by decide, rfl, fun e => by omega⟩
    · rw [gR_sR, if_pos ⟨rfl, rfl⟩] at e
      injection e with e
      omega
  · refine lf (a_aload_n dJ5_ensureCapacityInternal_d00df_0 rfl) ?_
    refine lf (a_getR hr dJ5_ensureCapacityInternal_d00df_1 fs_J5_15 rfl ho) ?_
    refine lf (a_alen (nI cap) dJ5_ensureCapacityInternal_d00df_4 ha (by decide) rfl) ?_
    refine lf (a_aload_n dJ5_ensureCapacityInternal_d00df_5 rfl) ?_
    refine lf (a_getI dJ5_ensureCapacityInternal_d00df_6 fs_J5_22 rfl ho) ?_
    rw [hc]
    refine lf (a_ishr dJ5_ensureCapacityInternal_d00df_9) ?_
    rw [sh0 (by omega)]
    refine lf (a_istore_n dJ5_ensureCapacityInternal_d00df_10 (by decide)) ?_
    refine lf (a_iload_n dJ5_ensureCapacityInternal_d00df_11 rfl) ?_
    refine lf (a_iload_n dJ5_ensureCapacityInternal_d00df_12 rfl) ?_
    refine lf (a_isub dJ5_ensureCapacityInternal_d00df_13) ?_
    refine lf2 (a_if_le (tgt := 38) dJ5_ensureCapacityInternal_d00df_14 (by decide)) (fun h14 => ?_) (fun h14 => absurd h14 (fun z => z (subz hge (by omega))))
    refine ⟨_, _, (a_return dJ5_ensureCapacityInternal_d00df_38 rfl), ?_⟩
    exact ⟨_, rfl, rfl, Ex.rfl' hw, Nat.le_succ _, ⟨p1, p2, p3, p4, ho, hc, hct, v, cap, p5, hr, ha, p6, hge, p8, hb⟩, fun _ e _ => e⟩
abbrev R_J1_canEncode_fc78d : Room := { frames := 2, cells := 0, slots := 0, locals := 100 }
theorem t_J1_canEncode_fc78d {x : Nat} (hx : x < 128) : Ct Y_J1_canEncode_fc78d R_J1_canEncode_fc78d [.int (nI x)] μ (.inl (some (.int 1))) μ := by
  refine Ct.ent yk_J1_canEncode_fc78d (Nat.le_of_ble_eq_true rfl) ?_
  refine a_iload_n dJ1_canEncode_fc78d_0 rfl ?_
  refine a_sipush (255 : Int32) dJ1_canEncode_fc78d_1 (by decide) ?_
  refine a_icmp_gt (tgt := 11) dJ1_canEncode_fc78d_4 (by decide) (fun h4 => absurd h4 (nI_nlt (a := 255) (b := x) (by omega) (by decide))) (fun h4 => ?_)
  refine a_iconst (1 : Int32) dJ1_canEncode_fc78d_7 (by decide) ?_
  refine a_goto (tgt := 12) dJ1_canEncode_fc78d_8 (by decide) ?_
  exact a_out rfl rfl (a_ireturn dJ1_canEncode_fc78d_12 rfl rfl)
abbrev R_J5_append_3fe6f : Room := { frames := 10, cells := 1, slots := 1900, locals := 500 }
/-- the builder holds l behind it -/
def SaQ (lo : Nat) (μ : Wd) (a : Nat) (l : List Nat) (r : Option Value) (V : Wd) : Prop := r = some (.ref a) ∧ Ex (SbS μ a) μ V ∧ wn V ≤ wn μ + 1 ∧ SbV lo V a l 0
theorem getD_app1 {l s : List Nat} {j : Nat} (h : j < l.length) : (l ++ s).getD j 0 = l.getD j 0 := by
  rw [List.getD_eq_getElem?_getD, List.getD_eq_getElem?_getD, List.getElem?_append_left h]
theorem getD_app2 {l s : List Nat} {j : Nat} (h : l.length ≤ j) : (l ++ s).getD j 0 = s.getD (j - l.length) 0 := by
  rw [List.getD_eq_getElem?_getD, List.getD_eq_getElem?_getD, List.getElem?_append_right h]
theorem ob_ne {v n : Nat} (ho : Ob μ a 12) (ha : Ar μ v 22 n) : a ≠ v := fun e => by
  have h1 := ho.2
  rw [e, ha.2.1] at h1
  omega
theorem t_J5_append_3fe6f (hw : Wf μ) {q0 x : Nat} (hS : SbV lo μ a l q0) (hx : x < 128) (hl : l.length + 1 ≤ 900) (hm : wn μ + 1 < 1000000) : CV Y_J5_append_3fe6f R_J5_append_3fe6f [.ref a, .int (nI x)] μ (SaQ lo μ a (l ++ [x])) := by
  refine CV.ent yk_J5_append_3fe6f (Nat.le_of_ble_eq_true rfl) ?_
  have ho := hS.ob
  have hct := hS.len
  refine lf (a_aload_n dJ5_append_3fe6f_0 rfl) ?_
  refine lf (a_aload_n dJ5_append_3fe6f_1 rfl) ?_
  refine lf (a_getI dJ5_append_3fe6f_2 fs_J5_79 rfl ho) ?_
  rw [hct]
  refine lf (a_iconst (1 : Int32) dJ5_append_3fe6f_5 (by decide)) ?_
  refine lf (a_iadd dJ5_append_3fe6f_6) ?_
  rw [show nI l.length + 1 = nI (l.length + 1) from (nI_succ _).symm]
  obtain ⟨v_, W7, k7, rfl, hE, hwn, ⟨p1, p2, p3, p4, ho7, hc7, hct7, v, cap, p5, hr7, ha7, p6, p7, p8, hb7⟩, hold⟩ := (t_J5_ensureCapacityInternal_d00df hw hS hl hm)
  refine lf (a_invG (b2 := (0, 0)) k7 rfl dJ5_append_3fe6f_7 yk_J5_ensureCapacityInternal_d00df im_J5_ensureCapacityInternal_d00df sl_EN ml_J5_100 rfl ho (by decide) hc_J4 (by decide) ⟨Nat.le_refl _, Nat.le_refl _⟩ (Nat.le_of_ble_eq_true rfl)) ?_
  have hav := ob_ne ho7 ha7
  refine lf (a_aload_n dJ5_append_3fe6f_10 rfl) ?_
  refine lf (a_invG (b2 := (0, 0)) (t_J5_isLatin1_aae02 ho7 hc7) rfl dJ5_append_3fe6f_11 yk_J5_isLatin1_aae02 im_J5_isLatin1_aae02 sl_L1 ml_J5_83 rfl ho7 (by decide) hc_J4 (by decide) (by decide) (Nat.le_of_ble_eq_true rfl)) ?_
  refine lf2 (a_if_eq (tgt := 45) dJ5_append_3fe6f_14 (by decide)) (fun h14 => absurd h14 (by decide)) (fun h14 => ?_)
  refine lf (a_iload_n dJ5_append_3fe6f_17 rfl) ?_
  refine lf (a_invS (b2 := (0, 0)) (t_J1_canEncode_fc78d hx) rfl dJ5_append_3fe6f_18 yk_J1_canEncode_fc78d sm_J1_canEncode_fc78d ml_J5_191 rfl (by decide) (by decide) (Nat.le_of_ble_eq_true rfl)) ?_
  refine lf2 (a_if_eq (tgt := 45) dJ5_append_3fe6f_21 (by decide)) (fun h21 => absurd h21 (by decide)) (fun h21 => ?_)
  refine lf (a_aload_n dJ5_append_3fe6f_24 rfl) ?_
  refine lf (a_getR hr7 dJ5_append_3fe6f_25 fs_J5_15 rfl ho7) ?_
  refine lf (a_aload_n dJ5_append_3fe6f_28 rfl) ?_
  refine lf (a_dup dJ5_append_3fe6f_29 rfl) ?_
  refine lf (a_getI dJ5_append_3fe6f_30 fs_J5_79 rfl ho7) ?_
  rw [hct7]
  refine lf (a_dup_x1 dJ5_append_3fe6f_33 rfl rfl) ?_
  refine lf (a_iconst (1 : Int32) dJ5_append_3fe6f_34 (by decide)) ?_
  refine lf (a_iadd dJ5_append_3fe6f_35) ?_
  rw [show nI l.length + 1 = nI (l.length + 1) from (nI_succ _).symm]
  refine lf (a_putI dJ5_append_3fe6f_36 fs_J5_79 rfl rfl rfl ho7) ?_
  refine lf (a_iload_n dJ5_append_3fe6f_39 rfl) ?_
  refine lf (a_i2b dJ5_append_3fe6f_40) ?_
  refine lf (a_bst dJ5_append_3fe6f_41 ha7 (ixn (show l.length < cap by omega) (by omega))) ?_
  rw [nar7 hx]
  refine lf (a_goto (tgt := 75) dJ5_append_3fe6f_42 (by decide)) ?_
  refine lf (a_aload_n dJ5_append_3fe6f_75 rfl) ?_
  refine ⟨_, _, (a_areturn dJ5_append_3fe6f_76 rfl (by first | exact Or.inl ⟨_, rfl⟩ | exact Or.inr ⟨_, rfl⟩)), ?_⟩
  refine ⟨_, rfl, rfl, ((hE.mono (fun _ _ z => Or.inl z)).sI2 (fun _ => Or.inl rfl)).sI2 (fun h => Or.inr (hold v hr7 h)), hwn, by rw [List.length_append]; exact hl, fun z hz => ?_, p3, p4, ho7, ?_, ?_, v, cap, p5, hr7, ha7, by rw [List.length_append]; exact p7, Nat.zero_le _, p8, fun j hj => ?_⟩
  · rcases List.mem_append.mp hz with h | h
    · exact p2 z h
    · rw [List.mem_singleton.mp h]; exact hx
  · rw [gI_sI, if_neg (fun z => hav z.1), gI_sI, if_neg (fun z => by omega)]; exact hc7
  · rw [gI_sI, if_neg (fun z => hav z.1), gI_sI, if_pos ⟨rfl, rfl⟩, List.length_append]; rfl
  · rw [gI_sI]
    by_cases z : j = l.length
    · rw [if_pos ⟨rfl, z⟩]
      refine ⟨x, hx, rfl, fun _ => ?_⟩
      rw [getD_app2 (by omega), z, Nat.sub_self]
      rfl
    · rw [if_neg (fun e => z e.2), gI_sI, if_neg (fun e => hav e.1.symm)]
      obtain ⟨x9, e1, e2, e3⟩ := hb7 j hj
      refine ⟨x9, e1, e2, fun h => ?_⟩
      rw [List.length_append] at h
      have h : j < l.length + 1 := h
      rw [getD_app1 (by omega)]
      exact e3 (by omega)
end SBM
