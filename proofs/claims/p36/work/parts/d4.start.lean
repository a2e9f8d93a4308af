section START
def chf : List (Nat × Cond) → List Cond → Bool
  | [], _ => true
  | (g, w) :: r, t => match t.drop g with
    | [] => false
    | x :: t' => decide (x = w) && chf r t'
theorem chf_mem : ∀ {L : List (Nat × Cond)} {t : List Cond}, chf L t = true → ∀ q ∈ L, q.2 ∈ t
  | [], _, _ => fun _ h => nomatch h
  | (g, w) :: r, t, h => by
    unfold chf at h
    split at h
    · cases h
    · rename_i x t' hd
      simp only [Bool.and_eq_true, decide_eq_true_eq] at h
      have hs : ∀ z, z ∈ x :: t' → z ∈ t := fun z hz => List.mem_of_mem_drop (by rw [hd]; exact hz)
      intro q hq
      rcases List.mem_cons.mp hq with rfl | hq
      · exact hs _ (by rw [h.1]; exact List.mem_cons_self)
      · exact hs _ (List.mem_cons_of_mem _ (chf_mem h.2 q hq))
theorem chf_in {L : List (Nat × Cond)} {t : List Cond} (h : chf L t = true) {g : Nat} {w : Cond} (i : Nat) (hi : L[i]? = some (g, w)) : w ∈ t := chf_mem h (g, w) (List.mem_of_getElem? hi)
/-- the leaves of what the Statement gives -/
def nfl : List Cond := flatC (Jvm.Cond.and given_1 narrow_1)
def byO (tx : String) : List Nat := tx.toList.map Char.toNat
abbrev tmV (own : String) (k : Nat) : Term := .field (.string own k) "java/lang/String" "value" "[B"
def strL (q : String × Nat × String) : List Cond := [.exactly (.string q.1 q.2.1) "java/lang/String", .eq (.field (.string q.1 q.2.1) "java/lang/String" "coder" "B") (.int 0), .arrayOf (tmV q.1 q.2.1) .byte, .eq (.length (tmV q.1 q.2.1)) (.int (Int32.ofNat (byO q.2.2).length))] ++ (List.range (byO q.2.2).length).map fun j => .eq (.elem (tmV q.1 q.2.1) (.int (Int32.ofNat j))) (.int (Int32.ofNat ((byO q.2.2).getD j 0)))
theorem ev_int {args : Array Value} {s : State} {t : Term} {z : Int32} (h : (Cond.eq t (.int z)).before args s = true) : t.eval args s none [] s = some (.int z) := by
  cases hv : t.eval args s none [] s with
  | none => simp [Cond.before, Cond.holds, Cond.value, hv] at h
  | some w =>
    have hz : (Term.int z).eval args s none [] s = some (.int z) := rfl
    simp only [Cond.before, Cond.holds, Cond.value, hv, hz] at h
    cases w <;> simp_all
/-- a String constant, as the Statement gives it -/
theorem str_at {own tx : String} {k : Nat} {args : Array Value} {s : State} {A : Nat → Prop} (hseg : ∀ w ∈ strL (own, k, tx), w.before args s = true) (hsr : (Cond.stringRef own k tx).before args s = true) (hA : ∀ a : Nat, a < s.heap.size → ¬ A a) (hn : (byO tx).length < 2 ^ 31) :
    ∃ a v : Nat, vk_R own k tx a s ∧ va_O "java/lang/String" a A s s.heap ∧ va_OF "java/lang/String" "coder" "B" (.int 0) a A s s.heap ∧ va_OF "java/lang/String" "value" "[B" (.ref v) a A s s.heap ∧ va_T .byte v (byO tx).length (fun j => .int (Int32.ofNat ((byO tx).getD j 0))) A s s.heap := by
  have hex : (Cond.exactly (.string own k) "java/lang/String").before args s = true := hseg _ (List.mem_append_left _ List.mem_cons_self)
  have hco := ev_int (hseg _ (List.mem_append_left _ (List.mem_cons_of_mem _ List.mem_cons_self)))
  have harr := hseg _ (List.mem_append_left _ (List.mem_cons_of_mem _ (List.mem_cons_of_mem _ List.mem_cons_self)))
  have hlen := ev_int (hseg _ (List.mem_append_left _ (List.mem_cons_of_mem _ (List.mem_cons_of_mem _ (List.mem_cons_of_mem _ List.mem_cons_self)))))
  have hel : ∀ j : Nat, j < (byO tx).length → (Term.elem (tmV own k) (.int (Int32.ofNat j))).eval args s none [] s = some (.int (Int32.ofNat ((byO tx).getD j 0))) := fun j hj => ev_int (hseg _ (List.mem_append_right _ (List.mem_map.mpr ⟨j, List.mem_range.mpr hj, rfl⟩)))
  obtain ⟨a, c, cA, kA, q1, -⟩ := Cond.exactly_spec (args := args) (first := s) (o := none) (s := s) (idx := []) (t := .string own k) (cls := "java/lang/String") hex
  obtain ⟨v, hv, hT⟩ := va_Tof (f := fun j => .int (Int32.ofNat ((byO tx).getD j 0))) hn harr hlen hel hA
  exact ⟨a, v, vk_R.of hsr q1, va_Oof hex q1 hA, vk_OFof q1 hco hA, vk_OFof q1 hv hA, hT⟩
theorem ot0 {w : Cond} (hw : w.onTables = true) {args : Array Value} {s : State} (h : w.before args s = true) : w.before #[] s = true := by
  have e := Cond.onTables_vm (A := #[]) (A' := args) (U := s) (U' := s) s.vm w hw
  have hU : s.setVm s.vm = s := rfl
  rw [hU] at e
  rw [e]
  exact h
def ksP : List Nat := [300, 304, 495, 523, 555, 563, 571, 580, 586, 594, 605, 613, 623, 634, 644, 653, 662, 670, 309, 334, 355, 386, 417, 439, 458, 474, 695, 704, 714, 729, 744, 753, 766, 776, 782, 788, 793, 800, 812, 817, 829, 842, 856, 866, 878, 890, 915, 932, 959, 975, 1001, 1020, 1038, 1066, 1095, 1117, 1148, 1182, 1204]
def ksT : List Nat := [102, 126, 897, 906, 940, 967, 972, 1003, 1051, 1064, 1065, 1070, 1075, 1080, 1094, 1099, 1100, 1105, 634, 677, 750, 755, 781, 814, 823, 829, 1112, 1264, 1266, 1267, 1268, 1269, 1276, 1277, 1278, 1279, 1318, 1326, 1331, 1332, 1333, 1334, 1335, 1336, 1337, 1345, 1363, 1386, 1395, 1408, 1417, 1431, 1438, 1449, 1472, 1473, 1487, 1527, 1563]
def ksOK (c : Nat) : Bool := match kst[c]? with
  | some q => decide ((nfl.drop (ksP.getD c 0)).take (strL q).length = strL q) && decide ((lw_tbl.drop (ksT.getD c 0)).head? = some (Cond.stringRef q.1 q.2.1 q.2.2)) && decide ((byO q.2.2).length < 2147483648)
  | none => true
set_option maxRecDepth 50000 in
theorem ks_0 : (List.range 6).all (fun c => ksOK (0 + c)) = true := by decide +kernel
set_option maxRecDepth 50000 in
theorem ks_6 : (List.range 6).all (fun c => ksOK (6 + c)) = true := by decide +kernel
set_option maxRecDepth 50000 in
theorem ks_12 : (List.range 6).all (fun c => ksOK (12 + c)) = true := by decide +kernel
set_option maxRecDepth 50000 in
theorem ks_18 : (List.range 6).all (fun c => ksOK (18 + c)) = true := by decide +kernel
set_option maxRecDepth 50000 in
theorem ks_24 : (List.range 6).all (fun c => ksOK (24 + c)) = true := by decide +kernel
set_option maxRecDepth 50000 in
theorem ks_30 : (List.range 6).all (fun c => ksOK (30 + c)) = true := by decide +kernel
set_option maxRecDepth 50000 in
theorem ks_36 : (List.range 6).all (fun c => ksOK (36 + c)) = true := by decide +kernel
set_option maxRecDepth 50000 in
theorem ks_42 : (List.range 6).all (fun c => ksOK (42 + c)) = true := by decide +kernel
set_option maxRecDepth 50000 in
theorem ks_48 : (List.range 6).all (fun c => ksOK (48 + c)) = true := by decide +kernel
set_option maxRecDepth 50000 in
theorem ks_54 : (List.range 5).all (fun c => ksOK (54 + c)) = true := by decide +kernel
theorem ks_all {c : Nat} (h : c < 59) : ksOK c = true := by
  have f : ∀ a n : Nat, (List.range n).all (fun c => ksOK (a + c)) = true → a ≤ c → c < a + n → ksOK c = true := fun a n hh h1 h2 => by
    have q := List.all_eq_true.mp hh (c - a) (List.mem_range.mpr (by omega))
    rw [Nat.add_sub_cancel' h1] at q
    exact q
  rcases (by omega : (0 ≤ c ∧ c < 6) ∨ (6 ≤ c ∧ c < 12) ∨ (12 ≤ c ∧ c < 18) ∨ (18 ≤ c ∧ c < 24) ∨ (24 ≤ c ∧ c < 30) ∨ (30 ≤ c ∧ c < 36) ∨ (36 ≤ c ∧ c < 42) ∨ (42 ≤ c ∧ c < 48) ∨ (48 ≤ c ∧ c < 54) ∨ (54 ≤ c ∧ c < 59)) with z | z | z | z | z | z | z | z | z | z
  · exact f 0 6 ks_0 (by omega) (by omega)
  · exact f 6 6 ks_6 (by omega) (by omega)
  · exact f 12 6 ks_12 (by omega) (by omega)
  · exact f 18 6 ks_18 (by omega) (by omega)
  · exact f 24 6 ks_24 (by omega) (by omega)
  · exact f 30 6 ks_30 (by omega) (by omega)
  · exact f 36 6 ks_36 (by omega) (by omega)
  · exact f 42 6 ks_42 (by omega) (by omega)
  · exact f 48 6 ks_48 (by omega) (by omega)
  · exact f 54 5 ks_54 (by omega) (by omega)
theorem kst_len {c : Nat} {q : String × Nat × String} (h : kst[c]? = some q) : c < 59 := by
  have hl : kst.length = 59 := by decide
  have := (List.getElem?_eq_some_iff.mp h).1
  omega
theorem kst_ok {c : Nat} {q : String × Nat × String} (h : kst[c]? = some q) : (∀ w ∈ strL q, w ∈ nfl) ∧ Cond.stringRef q.1 q.2.1 q.2.2 ∈ lw_tbl ∧ (byO q.2.2).length < 2147483648 := by
  have hk := ks_all (kst_len h)
  unfold ksOK at hk
  rw [h] at hk
  simp only [Bool.and_eq_true, decide_eq_true_eq] at hk
  refine ⟨fun w hw => ?_, ?_, hk.2⟩
  · rw [← hk.1.1] at hw
    exact List.mem_of_mem_drop (List.mem_of_mem_take hw)
  · exact List.mem_of_mem_drop (List.mem_of_mem_head? hk.1.2)
def nfL : List (Nat × Cond) := [(4, (Cond.isRef (Term.static "java/lang/Throwable" "UNASSIGNED_STACK" "[Ljava/lang/StackTraceElement;"))), (0, (Cond.isRef (Term.static "java/lang/Throwable" "SUPPRESSED_SENTINEL" "Ljava/util/List;"))), (0, (Cond.eq (Term.static "java/lang/String" "COMPACT_STRINGS" "Z") (Term.int (1 : Int32)))), (0, (Cond.isRef (Term.static "jdk/internal/util/Preconditions" "SIOOBE_FORMATTER" "Ljava/util/function/BiFunction;"))), (0, (Cond.eq (Term.static "java/lang/StringUTF16" "$assertionsDisabled" "Z") (Term.int (1 : Int32)))), (219, (Cond.not (Cond.castable "java/lang/IllegalArgumentException" "java/lang/IllegalStateException"))), (2, (Cond.not (Cond.castable "java/util/NoSuchElementException" "java/lang/IllegalStateException"))), (0, (Cond.not (Cond.castable "java/lang/IndexOutOfBoundsException" "java/lang/IllegalStateException"))), (13, (Cond.not (Cond.castable "java/lang/IllegalStateException" "java/lang/IllegalArgumentException"))), (0, (Cond.not (Cond.castable "java/util/NoSuchElementException" "java/lang/IllegalArgumentException"))), (0, (Cond.not (Cond.castable "java/lang/IndexOutOfBoundsException" "java/lang/IllegalArgumentException")))]
set_option maxRecDepth 50000 in
theorem nfL_ok : chf nfL nfl = true := by decide +kernel
theorem nf_us : (Cond.isRef (Term.static "java/lang/Throwable" "UNASSIGNED_STACK" "[Ljava/lang/StackTraceElement;")) ∈ nfl := chf_in nfL_ok 0 rfl
theorem nf_ss : (Cond.isRef (Term.static "java/lang/Throwable" "SUPPRESSED_SENTINEL" "Ljava/util/List;")) ∈ nfl := chf_in nfL_ok 1 rfl
theorem nf_cs : (Cond.eq (Term.static "java/lang/String" "COMPACT_STRINGS" "Z") (Term.int (1 : Int32))) ∈ nfl := chf_in nfL_ok 2 rfl
theorem nf_sf : (Cond.isRef (Term.static "jdk/internal/util/Preconditions" "SIOOBE_FORMATTER" "Ljava/util/function/BiFunction;")) ∈ nfl := chf_in nfL_ok 3 rfl
theorem nf_ad : (Cond.eq (Term.static "java/lang/StringUTF16" "$assertionsDisabled" "Z") (Term.int (1 : Int32))) ∈ nfl := chf_in nfL_ok 4 rfl
theorem nf_nc0 : (Cond.not (Cond.castable "java/lang/IllegalArgumentException" "java/lang/IllegalStateException")) ∈ nfl := chf_in nfL_ok 5 rfl
theorem nf_nc1 : (Cond.not (Cond.castable "java/util/NoSuchElementException" "java/lang/IllegalStateException")) ∈ nfl := chf_in nfL_ok 6 rfl
theorem nf_nc2 : (Cond.not (Cond.castable "java/lang/IndexOutOfBoundsException" "java/lang/IllegalStateException")) ∈ nfl := chf_in nfL_ok 7 rfl
theorem nf_nc3 : (Cond.not (Cond.castable "java/lang/IllegalStateException" "java/lang/IllegalArgumentException")) ∈ nfl := chf_in nfL_ok 8 rfl
theorem nf_nc4 : (Cond.not (Cond.castable "java/util/NoSuchElementException" "java/lang/IllegalArgumentException")) ∈ nfl := chf_in nfL_ok 9 rfl
theorem nf_nc5 : (Cond.not (Cond.castable "java/lang/IndexOutOfBoundsException" "java/lang/IllegalArgumentException")) ∈ nfl := chf_in nfL_ok 10 rfl
def tbL_0 : List (Nat × Cond) := [(62, Cond.initialized "java/lang/Throwable"), (5, Cond.initialized "java/lang/String"), (0, Cond.initialized "java/lang/StringUTF16"), (4, Cond.initialized "jdk/internal/util/Preconditions"), (2, Cond.initialized "java/lang/Integer"), (4, Cond.instantiable RX10 18), (7, Cond.instantiable RX7 11), (5, Cond.arrayOver (.object RX0)), (0, Cond.instantiable RX0 3), (0, Cond.methodLinkNest RX7 17 yX0_init "MealLoader"), (19, Cond.arrayClass .byte), (1, Cond.arrayOver (.object RX5)), (0, Cond.instantiable RX5 6), (0, Cond.methodLinkNest RX7 24 yX5_init "MealLoader"), (107, Cond.arrayClass .int), (1, Cond.instantiable RX1 13), (5, Cond.arrayOver (.array .int)), (66, Cond.arrayClass .long), (1, Cond.instantiable RX2 5), (5, Cond.instantiable RX9 6)]
set_option maxRecDepth 50000 in
theorem tbL_0_ok : chf tbL_0 lw_tbl = true := by decide +kernel
theorem tbi_th : Cond.initialized "java/lang/Throwable" ∈ lw_tbl := chf_in tbL_0_ok 0 rfl
theorem tbi_st : Cond.initialized "java/lang/String" ∈ lw_tbl := chf_in tbL_0_ok 1 rfl
theorem tbi_su : Cond.initialized "java/lang/StringUTF16" ∈ lw_tbl := chf_in tbL_0_ok 2 rfl
theorem tbi_pr : Cond.initialized "jdk/internal/util/Preconditions" ∈ lw_tbl := chf_in tbL_0_ok 3 rfl
theorem tbi_in : Cond.initialized "java/lang/Integer" ∈ lw_tbl := chf_in tbL_0_ok 4 rfl
theorem tbk_11 : Cond.instantiable RX10 18 ∈ lw_tbl := chf_in tbL_0_ok 5 rfl
theorem tbk_8 : Cond.instantiable RX7 11 ∈ lw_tbl := chf_in tbL_0_ok 6 rfl
theorem tbo_0 : Cond.arrayOver (.object RX0) ∈ lw_tbl := chf_in tbL_0_ok 7 rfl
theorem tbk_1 : Cond.instantiable RX0 3 ∈ lw_tbl := chf_in tbL_0_ok 8 rfl
theorem tbn_0 : Cond.methodLinkNest RX7 17 yX0_init "MealLoader" ∈ lw_tbl := chf_in tbL_0_ok 9 rfl
theorem tba_byte : Cond.arrayClass .byte ∈ lw_tbl := chf_in tbL_0_ok 10 rfl
theorem tbo_5 : Cond.arrayOver (.object RX5) ∈ lw_tbl := chf_in tbL_0_ok 11 rfl
theorem tbk_6 : Cond.instantiable RX5 6 ∈ lw_tbl := chf_in tbL_0_ok 12 rfl
theorem tbn_1 : Cond.methodLinkNest RX7 24 yX5_init "MealLoader" ∈ lw_tbl := chf_in tbL_0_ok 13 rfl
theorem tba_int : Cond.arrayClass .int ∈ lw_tbl := chf_in tbL_0_ok 14 rfl
theorem tbk_2 : Cond.instantiable RX1 13 ∈ lw_tbl := chf_in tbL_0_ok 15 rfl
theorem tbo_a : Cond.arrayOver (.array .int) ∈ lw_tbl := chf_in tbL_0_ok 16 rfl
theorem tba_long : Cond.arrayClass .long ∈ lw_tbl := chf_in tbL_0_ok 17 rfl
theorem tbk_3 : Cond.instantiable RX2 5 ∈ lw_tbl := chf_in tbL_0_ok 18 rfl
theorem tbk_10 : Cond.instantiable RX9 6 ∈ lw_tbl := chf_in tbL_0_ok 19 rfl
def tbL_20 : List (Nat × Cond) := [(314, Cond.methodLinkNest RX2 11 yX9_init "MealLoader"), (46, Cond.instantiable RX3 3), (5, Cond.arrayOver (.object RX1)), (13, Cond.instantiable RX6 2), (12, Cond.arrayClass .boolean), (1, Cond.instantiable RX4 10), (37, Cond.instantiable RX8 8), (159, Cond.castable "java/lang/IllegalArgumentException" "java/lang/IllegalArgumentException"), (1, Cond.declares (Bundle.initS "java/lang/RuntimeException")), (1, Cond.declares (Bundle.initS "java/lang/Exception")), (1, Cond.declares (Bundle.initS Bundle.tN)), (18, Cond.laysStatic "java/lang/Throwable" "UNASSIGNED_STACK" "[Ljava/lang/StackTraceElement;"), (1, Cond.laysStatic "java/lang/Throwable" "SUPPRESSED_SENTINEL" "Ljava/util/List;"), (48, Cond.castable "java/util/NoSuchElementException" "java/util/NoSuchElementException"), (103, Cond.castable "java/lang/IllegalStateException" "java/lang/IllegalStateException"), (79, Cond.laysStatic "java/lang/String" "COMPACT_STRINGS" "Z"), (15, Cond.laysStatic "jdk/internal/util/Preconditions" "SIOOBE_FORMATTER" "Ljava/util/function/BiFunction;"), (17, Cond.laysStatic "java/lang/StringUTF16" "$assertionsDisabled" "Z"), (106, Cond.instantiable RJ0 4), (54, Cond.arrayClass .char)]
set_option maxRecDepth 50000 in
theorem tbL_20_ok : chf tbL_20 lw_tbl = true := by decide +kernel
theorem tbn_2 : Cond.methodLinkNest RX2 11 yX9_init "MealLoader" ∈ lw_tbl := chf_in tbL_20_ok 0 rfl
theorem tbk_4 : Cond.instantiable RX3 3 ∈ lw_tbl := chf_in tbL_20_ok 1 rfl
theorem tbo_1 : Cond.arrayOver (.object RX1) ∈ lw_tbl := chf_in tbL_20_ok 2 rfl
theorem tbk_7 : Cond.instantiable RX6 2 ∈ lw_tbl := chf_in tbL_20_ok 3 rfl
theorem tba_boolean : Cond.arrayClass .boolean ∈ lw_tbl := chf_in tbL_20_ok 4 rfl
theorem tbk_5 : Cond.instantiable RX4 10 ∈ lw_tbl := chf_in tbL_20_ok 5 rfl
theorem tbk_9 : Cond.instantiable RX8 8 ∈ lw_tbl := chf_in tbL_20_ok 6 rfl
theorem tbc_1 : Cond.castable "java/lang/IllegalArgumentException" "java/lang/IllegalArgumentException" ∈ lw_tbl := chf_in tbL_20_ok 7 rfl
theorem tbd_0 : Cond.declares (Bundle.initS "java/lang/RuntimeException") ∈ lw_tbl := chf_in tbL_20_ok 8 rfl
theorem tbd_1 : Cond.declares (Bundle.initS "java/lang/Exception") ∈ lw_tbl := chf_in tbL_20_ok 9 rfl
theorem tbd_2 : Cond.declares (Bundle.initS Bundle.tN) ∈ lw_tbl := chf_in tbL_20_ok 10 rfl
theorem tb_us : Cond.laysStatic "java/lang/Throwable" "UNASSIGNED_STACK" "[Ljava/lang/StackTraceElement;" ∈ lw_tbl := chf_in tbL_20_ok 11 rfl
theorem tb_ss : Cond.laysStatic "java/lang/Throwable" "SUPPRESSED_SENTINEL" "Ljava/util/List;" ∈ lw_tbl := chf_in tbL_20_ok 12 rfl
theorem tbc_2 : Cond.castable "java/util/NoSuchElementException" "java/util/NoSuchElementException" ∈ lw_tbl := chf_in tbL_20_ok 13 rfl
theorem tbc_0 : Cond.castable "java/lang/IllegalStateException" "java/lang/IllegalStateException" ∈ lw_tbl := chf_in tbL_20_ok 14 rfl
theorem tb_cs : Cond.laysStatic "java/lang/String" "COMPACT_STRINGS" "Z" ∈ lw_tbl := chf_in tbL_20_ok 15 rfl
theorem tb_sf : Cond.laysStatic "jdk/internal/util/Preconditions" "SIOOBE_FORMATTER" "Ljava/util/function/BiFunction;" ∈ lw_tbl := chf_in tbL_20_ok 16 rfl
theorem tb_ad : Cond.laysStatic "java/lang/StringUTF16" "$assertionsDisabled" "Z" ∈ lw_tbl := chf_in tbL_20_ok 17 rfl
theorem tbk_0 : Cond.instantiable RJ0 4 ∈ lw_tbl := chf_in tbL_20_ok 18 rfl
theorem tba_char : Cond.arrayClass .char ∈ lw_tbl := chf_in tbL_20_ok 19 rfl
def tbL_40 : List (Nat × Cond) := [(1111, Cond.instantiable RJ4 4), (31, Cond.privateMethod yJ5_ensureCapacityInternal_d00df), (0, Cond.instanceMethod yJ5_ensureCapacityInternal_d00df), (2, Cond.privateMethod yJ5_newCapacity_0f7a4), (0, Cond.instanceMethod yJ5_newCapacity_0f7a4), (19, Cond.castable "[B" "java/lang/Cloneable"), (6, Cond.selects RJ4 yJ5_isLatin1_aae02 yJ5_isLatin1_aae02), (15, Cond.privateMethod yJ5_putStringAt_47b60), (0, Cond.instanceMethod yJ5_putStringAt_47b60), (2, Cond.privateMethod yJ5_inflateIfNeededFor_a7421), (0, Cond.instanceMethod yJ5_inflateIfNeededFor_a7421), (43, Cond.laysStatic "java/lang/Integer" "DigitOnes" "[B"), (1, Cond.laysStatic "java/lang/Integer" "DigitTens" "[B"), (181, Cond.castable "java/lang/IndexOutOfBoundsException" "java/lang/IndexOutOfBoundsException")]
set_option maxRecDepth 50000 in
theorem tbL_40_ok : chf tbL_40 lw_tbl = true := by decide +kernel
theorem tbk_12 : Cond.instantiable RJ4 4 ∈ lw_tbl := chf_in tbL_40_ok 0 rfl
theorem tbp_0 : Cond.privateMethod yJ5_ensureCapacityInternal_d00df ∈ lw_tbl := chf_in tbL_40_ok 1 rfl
theorem tbm_0 : Cond.instanceMethod yJ5_ensureCapacityInternal_d00df ∈ lw_tbl := chf_in tbL_40_ok 2 rfl
theorem tbp_1 : Cond.privateMethod yJ5_newCapacity_0f7a4 ∈ lw_tbl := chf_in tbL_40_ok 3 rfl
theorem tbm_1 : Cond.instanceMethod yJ5_newCapacity_0f7a4 ∈ lw_tbl := chf_in tbL_40_ok 4 rfl
theorem tb_cl : Cond.castable "[B" "java/lang/Cloneable" ∈ lw_tbl := chf_in tbL_40_ok 5 rfl
theorem tb_sl : Cond.selects RJ4 yJ5_isLatin1_aae02 yJ5_isLatin1_aae02 ∈ lw_tbl := chf_in tbL_40_ok 6 rfl
theorem tbp_2 : Cond.privateMethod yJ5_putStringAt_47b60 ∈ lw_tbl := chf_in tbL_40_ok 7 rfl
theorem tbm_2 : Cond.instanceMethod yJ5_putStringAt_47b60 ∈ lw_tbl := chf_in tbL_40_ok 8 rfl
theorem tbp_3 : Cond.privateMethod yJ5_inflateIfNeededFor_a7421 ∈ lw_tbl := chf_in tbL_40_ok 9 rfl
theorem tbm_3 : Cond.instanceMethod yJ5_inflateIfNeededFor_a7421 ∈ lw_tbl := chf_in tbL_40_ok 10 rfl
theorem tb_do : Cond.laysStatic "java/lang/Integer" "DigitOnes" "[B" ∈ lw_tbl := chf_in tbL_40_ok 11 rfl
theorem tb_dt : Cond.laysStatic "java/lang/Integer" "DigitTens" "[B" ∈ lw_tbl := chf_in tbL_40_ok 12 rfl
theorem tbc_3 : Cond.castable "java/lang/IndexOutOfBoundsException" "java/lang/IndexOutOfBoundsException" ∈ lw_tbl := chf_in tbL_40_ok 13 rfl
def digT (t : Nat) : Term := .static "java/lang/Integer" (if t = 0 then "DigitTens" else "DigitOnes") "[B"
def digL (t : Nat) : List Cond := [.isRef (digT t), .arrayOf (digT t) .byte, .eq (.length (digT t)) (.int 100)] ++ (List.range 100).map fun j => .eq (.elem (digT t) (.int (Int32.ofNat j))) (.int (Int32.ofNat (dgB t j)))
set_option maxRecDepth 50000 in
theorem dig_ok0 : (nfl.drop 114).take 103 = digL 0 := by decide +kernel
set_option maxRecDepth 50000 in
theorem dig_ok1 : (nfl.drop 11).take 103 = digL 1 := by decide +kernel
theorem dig_in {t : Nat} (ht : t < 2) : ∀ w ∈ digL t, w ∈ nfl := fun w hw => by
  rcases (by omega : t = 0 ∨ t = 1) with e | e <;> subst e
  · rw [← dig_ok0] at hw
    exact List.mem_of_mem_drop (List.mem_of_mem_take hw)
  · rw [← dig_ok1] at hw
    exact List.mem_of_mem_drop (List.mem_of_mem_take hw)
end START
