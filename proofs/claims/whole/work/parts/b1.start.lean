section START
def chf : List (Nat × Cond) → List Cond → Bool
  | [], _ => true
  | (g, w) :: r, t => match t.drop g with
    | [] => false
    | x :: t' => decide (x = w) && chf r t'
theorem chf_mem : ∀ {L : List (Nat × Cond)} {t : List Cond}, chf L t = true → ∀ q ∈ L, q.2 ∈ t
  | [], _, _ => fun _ h => nomatch h
  | (g, w) :: r, t, h => by
    unfold chf at h
    split at h
    · cases h
    · rename_i x t' hd
      simp only [Bool.and_eq_true, decide_eq_true_eq] at h
      have hs : ∀ z, z ∈ x :: t' → z ∈ t := fun z hz => List.mem_of_mem_drop (by rw [hd]; exact hz)
      intro q hq
      rcases List.mem_cons.mp hq with rfl | hq
      · exact hs _ (by rw [h.1]; exact List.mem_cons_self)
      · exact hs _ (List.mem_cons_of_mem _ (chf_mem h.2 q hq))
theorem chf_in {L : List (Nat × Cond)} {t : List Cond} (h : chf L t = true) {g : Nat} {w : Cond} (i : Nat) (hi : L[i]? = some (g, w)) : w ∈ t := chf_mem h (g, w) (List.mem_of_getElem? hi)
/-- the leaves of what the Statement gives -/
def nfl : List Cond := flatC (Jvm.Cond.and given_1 narrow_1)
def byO (tx : String) : List Nat := tx.toList.map Char.toNat
abbrev tmV (own : String) (k : Nat) : Term := .field (.string own k) "java/lang/String" "value" "[B"
def strL (q : String × Nat × String) : List Cond := [.exactly (.string q.1 q.2.1) "java/lang/String", .eq (.field (.string q.1 q.2.1) "java/lang/String" "coder" "B") (.int 0), .arrayOf (tmV q.1 q.2.1) .byte, .eq (.length (tmV q.1 q.2.1)) (.int (Int32.ofNat (byO q.2.2).length))] ++ (List.range (byO q.2.2).length).map fun j => .eq (.elem (tmV q.1 q.2.1) (.int (Int32.ofNat j))) (.int (Int32.ofNat ((byO q.2.2).getD j 0)))
theorem ev_int {args : Array Value} {s : State} {t : Term} {z : Int32} (h : (Cond.eq t (.int z)).before args s = true) : t.eval args s none [] s = some (.int z) := by
  cases hv : t.eval args s none [] s with
  | none => simp [Cond.before, Cond.holds, Cond.value, hv] at h
  | some w =>
    have hz : (Term.int z).eval args s none [] s = some (.int z) := rfl
    simp only [Cond.before, Cond.holds, Cond.value, hv, hz] at h
    cases w <;> simp_all
/-- a String constant, as the Statement gives it -/
theorem str_at {own tx : String} {k : Nat} {args : Array Value} {s : State} {A : Nat → Prop} (hseg : ∀ w ∈ strL (own, k, tx), w.before args s = true) (hsr : (Cond.stringRef own k tx).before args s = true) (hA : ∀ a : Nat, a < s.heap.size → ¬ A a) (hn : (byO tx).length < 2 ^ 31) :
    ∃ a v : Nat, vk_R own k tx a s ∧ va_O "java/lang/String" a A s s.heap ∧ va_OF "java/lang/String" "coder" "B" (.int 0) a A s s.heap ∧ va_OF "java/lang/String" "value" "[B" (.ref v) a A s s.heap ∧ va_T .byte v (byO tx).length (fun j => .int (Int32.ofNat ((byO tx).getD j 0))) A s s.heap := by
  have hex : (Cond.exactly (.string own k) "java/lang/String").before args s = true := hseg _ (List.mem_append_left _ List.mem_cons_self)
  have hco := ev_int (hseg _ (List.mem_append_left _ (List.mem_cons_of_mem _ List.mem_cons_self)))
  have harr := hseg _ (List.mem_append_left _ (List.mem_cons_of_mem _ (List.mem_cons_of_mem _ List.mem_cons_self)))
  have hlen := ev_int (hseg _ (List.mem_append_left _ (List.mem_cons_of_mem _ (List.mem_cons_of_mem _ (List.mem_cons_of_mem _ List.mem_cons_self)))))
  have hel : ∀ j : Nat, j < (byO tx).length → (Term.elem (tmV own k) (.int (Int32.ofNat j))).eval args s none [] s = some (.int (Int32.ofNat ((byO tx).getD j 0))) := fun j hj => ev_int (hseg _ (List.mem_append_right _ (List.mem_map.mpr ⟨j, List.mem_range.mpr hj, rfl⟩)))
  obtain ⟨a, c, cA, kA, q1, -⟩ := Cond.exactly_spec (args := args) (first := s) (o := none) (s := s) (idx := []) (t := .string own k) (cls := "java/lang/String") hex
  obtain ⟨v, hv, hT⟩ := va_Tof (f := fun j => .int (Int32.ofNat ((byO tx).getD j 0))) hn harr hlen hel hA
  exact ⟨a, v, vk_R.of hsr q1, va_Oof hex q1 hA, vk_OFof q1 hco hA, vk_OFof q1 hv hA, hT⟩
theorem ot0 {w : Cond} (hw : w.onTables = true) {args : Array Value} {s : State} (h : w.before args s = true) : w.before #[] s = true := by
  have e := Cond.onTables_vm (A := #[]) (A' := args) (U := s) (U' := s) s.vm w hw
  have hU : s.setVm s.vm = s := rfl
  rw [hU] at e
  rw [e]
  exact h
def ksP : List Nat := [126, 130, 135, 163, 195, 203, 211, 220, 226, 234, 245, 253, 263, 274, 284, 293, 302, 310, 335, 360, 377, 404, 420, 446, 467, 498, 517, 546, 564, 592, 614, 645, 667, 701, 723, 747, 778, 797, 822, 838, 859]
def ksT : List Nat := [204, 228, 714, 761, 805, 878, 883, 914, 962, 975, 976, 981, 986, 991, 1008, 1013, 1014, 1019, 1101, 1123, 1152, 1164, 1243, 1255, 1258, 1270, 1273, 1298, 1305, 1317, 1318, 1327, 1351, 1397, 1433, 1441, 1463, 1471, 1487, 1495, 1520]
def ksOK (c : Nat) : Bool := match kst[c]? with
  | some q => decide ((nfl.drop (ksP.getD c 0)).take (strL q).length = strL q) && decide ((lw_tbl.drop (ksT.getD c 0)).head? = some (Cond.stringRef q.1 q.2.1 q.2.2)) && decide ((byO q.2.2).length < 2147483648)
  | none => true
set_option maxRecDepth 50000 in
theorem ks_0 : (List.range 6).all (fun c => ksOK (0 + c)) = true := by decide +kernel
set_option maxRecDepth 50000 in
theorem ks_6 : (List.range 6).all (fun c => ksOK (6 + c)) = true := by decide +kernel
set_option maxRecDepth 50000 in
theorem ks_12 : (List.range 6).all (fun c => ksOK (12 + c)) = true := by decide +kernel
set_option maxRecDepth 50000 in
theorem ks_18 : (List.range 6).all (fun c => ksOK (18 + c)) = true := by decide +kernel
set_option maxRecDepth 50000 in
theorem ks_24 : (List.range 6).all (fun c => ksOK (24 + c)) = true := by decide +kernel
set_option maxRecDepth 50000 in
theorem ks_30 : (List.range 6).all (fun c => ksOK (30 + c)) = true := by decide +kernel
set_option maxRecDepth 50000 in
theorem ks_36 : (List.range 5).all (fun c => ksOK (36 + c)) = true := by decide +kernel
theorem ks_all {c : Nat} (h : c < 41) : ksOK c = true := by
  have f : ∀ a n : Nat, (List.range n).all (fun c => ksOK (a + c)) = true → a ≤ c → c < a + n → ksOK c = true := fun a n hh h1 h2 => by
    have q := List.all_eq_true.mp hh (c - a) (List.mem_range.mpr (by omega))
    rw [Nat.add_sub_cancel' h1] at q
    exact q
  rcases (by omega : c < 6 ∨ (6 ≤ c ∧ c < 12) ∨ (12 ≤ c ∧ c < 18) ∨ (18 ≤ c ∧ c < 24) ∨ (24 ≤ c ∧ c < 30) ∨ (30 ≤ c ∧ c < 36) ∨ 36 ≤ c) with z | z | z | z | z | z | z
  · exact f 0 6 ks_0 (by omega) (by omega)
  · exact f 6 6 ks_6 (by omega) (by omega)
  · exact f 12 6 ks_12 (by omega) (by omega)
  · exact f 18 6 ks_18 (by omega) (by omega)
  · exact f 24 6 ks_24 (by omega) (by omega)
  · exact f 30 6 ks_30 (by omega) (by omega)
  · exact f 36 5 ks_36 (by omega) (by omega)
theorem kst_len {c : Nat} {q : String × Nat × String} (h : kst[c]? = some q) : c < 41 := by
  have hl : kst.length = 41 := by decide
  have := (List.getElem?_eq_some_iff.mp h).1
  omega
theorem kst_ok {c : Nat} {q : String × Nat × String} (h : kst[c]? = some q) : (∀ w ∈ strL q, w ∈ nfl) ∧ Cond.stringRef q.1 q.2.1 q.2.2 ∈ lw_tbl ∧ (byO q.2.2).length < 2147483648 := by
  have hk := ks_all (kst_len h)
  unfold ksOK at hk
  rw [h] at hk
  simp only [Bool.and_eq_true, decide_eq_true_eq] at hk
  refine ⟨fun w hw => ?_, ?_, hk.2⟩
  · rw [← hk.1.1] at hw
    exact List.mem_of_mem_drop (List.mem_of_mem_take hw)
  · exact List.mem_of_mem_drop (List.mem_of_mem_head? hk.1.2)
def nfL : List (Nat × Cond) := [(4, (Cond.isRef (Term.static "java/lang/Throwable" "UNASSIGNED_STACK" "[Ljava/lang/StackTraceElement;"))), (0, (Cond.isRef (Term.static "java/lang/Throwable" "SUPPRESSED_SENTINEL" "Ljava/util/List;"))), (0, (Cond.eq (Term.static "java/lang/String" "COMPACT_STRINGS" "Z") (Term.int (1 : Int32)))), (0, (Cond.isRef (Term.static "jdk/internal/util/Preconditions" "SIOOBE_FORMATTER" "Ljava/util/function/BiFunction;"))), (0, (Cond.eq (Term.static "java/lang/StringUTF16" "$assertionsDisabled" "Z") (Term.int (1 : Int32)))), (14, (Cond.not (Cond.castable "java/lang/IllegalArgumentException" "java/lang/IllegalStateException"))), (1, (Cond.not (Cond.castable "java/util/NoSuchElementException" "java/lang/IllegalStateException"))), (0, (Cond.not (Cond.castable "java/lang/IndexOutOfBoundsException" "java/lang/IllegalStateException"))), (12, (Cond.not (Cond.castable "java/lang/IllegalStateException" "java/lang/IllegalArgumentException"))), (1, (Cond.not (Cond.castable "java/util/NoSuchElementException" "java/lang/IllegalArgumentException"))), (0, (Cond.not (Cond.castable "java/lang/IndexOutOfBoundsException" "java/lang/IllegalArgumentException"))), (12, (Cond.not (Cond.castable "java/lang/IllegalStateException" "java/util/NoSuchElementException"))), (0, (Cond.not (Cond.castable "java/lang/IllegalArgumentException" "java/util/NoSuchElementException"))), (1, (Cond.not (Cond.castable "java/lang/IndexOutOfBoundsException" "java/util/NoSuchElementException"))), (12, (Cond.not (Cond.castable "java/lang/IllegalStateException" "java/lang/IndexOutOfBoundsException"))), (0, (Cond.not (Cond.castable "java/lang/IllegalArgumentException" "java/lang/IndexOutOfBoundsException"))), (1, (Cond.not (Cond.castable "java/util/NoSuchElementException" "java/lang/IndexOutOfBoundsException")))]
set_option maxRecDepth 50000 in
theorem nfL_ok : chf nfL nfl = true := by decide +kernel
theorem nf_us : (Cond.isRef (Term.static "java/lang/Throwable" "UNASSIGNED_STACK" "[Ljava/lang/StackTraceElement;")) ∈ nfl := chf_in nfL_ok 0 rfl
theorem nf_ss : (Cond.isRef (Term.static "java/lang/Throwable" "SUPPRESSED_SENTINEL" "Ljava/util/List;")) ∈ nfl := chf_in nfL_ok 1 rfl
theorem nf_cs : (Cond.eq (Term.static "java/lang/String" "COMPACT_STRINGS" "Z") (Term.int (1 : Int32))) ∈ nfl := chf_in nfL_ok 2 rfl
theorem nf_sf : (Cond.isRef (Term.static "jdk/internal/util/Preconditions" "SIOOBE_FORMATTER" "Ljava/util/function/BiFunction;")) ∈ nfl := chf_in nfL_ok 3 rfl
theorem nf_ad : (Cond.eq (Term.static "java/lang/StringUTF16" "$assertionsDisabled" "Z") (Term.int (1 : Int32))) ∈ nfl := chf_in nfL_ok 4 rfl
theorem nf_nc0 : (Cond.not (Cond.castable "java/lang/IllegalArgumentException" "java/lang/IllegalStateException")) ∈ nfl := chf_in nfL_ok 5 rfl
theorem nf_nc1 : (Cond.not (Cond.castable "java/util/NoSuchElementException" "java/lang/IllegalStateException")) ∈ nfl := chf_in nfL_ok 6 rfl
theorem nf_nc2 : (Cond.not (Cond.castable "java/lang/IndexOutOfBoundsException" "java/lang/IllegalStateException")) ∈ nfl := chf_in nfL_ok 7 rfl
theorem nf_nc3 : (Cond.not (Cond.castable "java/lang/IllegalStateException" "java/lang/IllegalArgumentException")) ∈ nfl := chf_in nfL_ok 8 rfl
theorem nf_nc4 : (Cond.not (Cond.castable "java/util/NoSuchElementException" "java/lang/IllegalArgumentException")) ∈ nfl := chf_in nfL_ok 9 rfl
theorem nf_nc5 : (Cond.not (Cond.castable "java/lang/IndexOutOfBoundsException" "java/lang/IllegalArgumentException")) ∈ nfl := chf_in nfL_ok 10 rfl
theorem nf_nc6 : (Cond.not (Cond.castable "java/lang/IllegalStateException" "java/util/NoSuchElementException")) ∈ nfl := chf_in nfL_ok 11 rfl
theorem nf_nc7 : (Cond.not (Cond.castable "java/lang/IllegalArgumentException" "java/util/NoSuchElementException")) ∈ nfl := chf_in nfL_ok 12 rfl
theorem nf_nc8 : (Cond.not (Cond.castable "java/lang/IndexOutOfBoundsException" "java/util/NoSuchElementException")) ∈ nfl := chf_in nfL_ok 13 rfl
theorem nf_nc9 : (Cond.not (Cond.castable "java/lang/IllegalStateException" "java/lang/IndexOutOfBoundsException")) ∈ nfl := chf_in nfL_ok 14 rfl
theorem nf_nc10 : (Cond.not (Cond.castable "java/lang/IllegalArgumentException" "java/lang/IndexOutOfBoundsException")) ∈ nfl := chf_in nfL_ok 15 rfl
theorem nf_nc11 : (Cond.not (Cond.castable "java/util/NoSuchElementException" "java/lang/IndexOutOfBoundsException")) ∈ nfl := chf_in nfL_ok 16 rfl
def tbL_0 : List (Nat × Cond) := [(166, Cond.initialized "java/lang/Throwable"), (6, Cond.initialized "java/lang/String"), (1, Cond.initialized "jdk/internal/util/Preconditions"), (0, Cond.initialized "java/lang/StringUTF16"), (7, Cond.instantiable RX10 18), (7, Cond.instantiable RX7 11), (5, Cond.arrayOver (.object RX0)), (0, Cond.instantiable RX0 3), (0, Cond.methodLinkNest RX7 17 yX0_init "MealLoader"), (19, Cond.arrayClass .byte), (1, Cond.arrayOver (.object RX5)), (0, Cond.instantiable RX5 6), (0, Cond.methodLinkNest RX7 24 yX5_init "MealLoader"), (108, Cond.arrayClass .int), (1, Cond.instantiable RX1 13), (5, Cond.arrayOver (.array .int)), (66, Cond.arrayClass .long), (1, Cond.instantiable RX2 5), (5, Cond.instantiable RX9 6), (0, Cond.methodLinkNest RX2 11 yX9_init "MealLoader")]
set_option maxRecDepth 50000 in
theorem tbL_0_ok : chf tbL_0 lw_tbl = true := by decide +kernel
theorem tbi_th : Cond.initialized "java/lang/Throwable" ∈ lw_tbl := chf_in tbL_0_ok 0 rfl
theorem tbi_st : Cond.initialized "java/lang/String" ∈ lw_tbl := chf_in tbL_0_ok 1 rfl
theorem tbi_pr : Cond.initialized "jdk/internal/util/Preconditions" ∈ lw_tbl := chf_in tbL_0_ok 2 rfl
theorem tbi_su : Cond.initialized "java/lang/StringUTF16" ∈ lw_tbl := chf_in tbL_0_ok 3 rfl
theorem tbk_11 : Cond.instantiable RX10 18 ∈ lw_tbl := chf_in tbL_0_ok 4 rfl
theorem tbk_8 : Cond.instantiable RX7 11 ∈ lw_tbl := chf_in tbL_0_ok 5 rfl
theorem tbo_0 : Cond.arrayOver (.object RX0) ∈ lw_tbl := chf_in tbL_0_ok 6 rfl
theorem tbk_1 : Cond.instantiable RX0 3 ∈ lw_tbl := chf_in tbL_0_ok 7 rfl
theorem tbn_0 : Cond.methodLinkNest RX7 17 yX0_init "MealLoader" ∈ lw_tbl := chf_in tbL_0_ok 8 rfl
theorem tba_byte : Cond.arrayClass .byte ∈ lw_tbl := chf_in tbL_0_ok 9 rfl
theorem tbo_5 : Cond.arrayOver (.object RX5) ∈ lw_tbl := chf_in tbL_0_ok 10 rfl
theorem tbk_6 : Cond.instantiable RX5 6 ∈ lw_tbl := chf_in tbL_0_ok 11 rfl
theorem tbn_1 : Cond.methodLinkNest RX7 24 yX5_init "MealLoader" ∈ lw_tbl := chf_in tbL_0_ok 12 rfl
theorem tba_int : Cond.arrayClass .int ∈ lw_tbl := chf_in tbL_0_ok 13 rfl
theorem tbk_2 : Cond.instantiable RX1 13 ∈ lw_tbl := chf_in tbL_0_ok 14 rfl
theorem tbo_a : Cond.arrayOver (.array .int) ∈ lw_tbl := chf_in tbL_0_ok 15 rfl
theorem tba_long : Cond.arrayClass .long ∈ lw_tbl := chf_in tbL_0_ok 16 rfl
theorem tbk_3 : Cond.instantiable RX2 5 ∈ lw_tbl := chf_in tbL_0_ok 17 rfl
theorem tbk_10 : Cond.instantiable RX9 6 ∈ lw_tbl := chf_in tbL_0_ok 18 rfl
theorem tbn_2 : Cond.methodLinkNest RX2 11 yX9_init "MealLoader" ∈ lw_tbl := chf_in tbL_0_ok 19 rfl
def tbL_20 : List (Nat × Cond) := [(464, Cond.instantiable RX3 3), (5, Cond.arrayOver (.object RX1)), (13, Cond.instantiable RX6 2), (12, Cond.arrayClass .boolean), (1, Cond.instantiable RX4 10), (37, Cond.instantiable RX8 8), (136, Cond.castable "java/lang/IllegalStateException" "java/lang/IllegalStateException"), (1, Cond.declares (Bundle.initS "java/lang/RuntimeException")), (1, Cond.declares (Bundle.initS "java/lang/Exception")), (1, Cond.declares (Bundle.initS Bundle.tN)), (18, Cond.laysStatic "java/lang/Throwable" "UNASSIGNED_STACK" "[Ljava/lang/StackTraceElement;"), (1, Cond.laysStatic "java/lang/Throwable" "SUPPRESSED_SENTINEL" "Ljava/util/List;"), (52, Cond.castable "java/lang/IllegalArgumentException" "java/lang/IllegalArgumentException"), (64, Cond.laysStatic "java/lang/String" "COMPACT_STRINGS" "Z"), (15, Cond.laysStatic "jdk/internal/util/Preconditions" "SIOOBE_FORMATTER" "Ljava/util/function/BiFunction;"), (17, Cond.laysStatic "java/lang/StringUTF16" "$assertionsDisabled" "Z"), (52, Cond.instantiable RJ0 4), (54, Cond.arrayClass .char), (154, Cond.castable "java/util/NoSuchElementException" "java/util/NoSuchElementException"), (174, Cond.castable "java/lang/IndexOutOfBoundsException" "java/lang/IndexOutOfBoundsException")]
set_option maxRecDepth 50000 in
theorem tbL_20_ok : chf tbL_20 lw_tbl = true := by decide +kernel
theorem tbk_4 : Cond.instantiable RX3 3 ∈ lw_tbl := chf_in tbL_20_ok 0 rfl
theorem tbo_1 : Cond.arrayOver (.object RX1) ∈ lw_tbl := chf_in tbL_20_ok 1 rfl
theorem tbk_7 : Cond.instantiable RX6 2 ∈ lw_tbl := chf_in tbL_20_ok 2 rfl
theorem tba_boolean : Cond.arrayClass .boolean ∈ lw_tbl := chf_in tbL_20_ok 3 rfl
theorem tbk_5 : Cond.instantiable RX4 10 ∈ lw_tbl := chf_in tbL_20_ok 4 rfl
theorem tbk_9 : Cond.instantiable RX8 8 ∈ lw_tbl := chf_in tbL_20_ok 5 rfl
theorem tbc_0 : Cond.castable "java/lang/IllegalStateException" "java/lang/IllegalStateException" ∈ lw_tbl := chf_in tbL_20_ok 6 rfl
theorem tbd_0 : Cond.declares (Bundle.initS "java/lang/RuntimeException") ∈ lw_tbl := chf_in tbL_20_ok 7 rfl
theorem tbd_1 : Cond.declares (Bundle.initS "java/lang/Exception") ∈ lw_tbl := chf_in tbL_20_ok 8 rfl
theorem tbd_2 : Cond.declares (Bundle.initS Bundle.tN) ∈ lw_tbl := chf_in tbL_20_ok 9 rfl
theorem tb_us : Cond.laysStatic "java/lang/Throwable" "UNASSIGNED_STACK" "[Ljava/lang/StackTraceElement;" ∈ lw_tbl := chf_in tbL_20_ok 10 rfl
theorem tb_ss : Cond.laysStatic "java/lang/Throwable" "SUPPRESSED_SENTINEL" "Ljava/util/List;" ∈ lw_tbl := chf_in tbL_20_ok 11 rfl
theorem tbc_1 : Cond.castable "java/lang/IllegalArgumentException" "java/lang/IllegalArgumentException" ∈ lw_tbl := chf_in tbL_20_ok 12 rfl
theorem tb_cs : Cond.laysStatic "java/lang/String" "COMPACT_STRINGS" "Z" ∈ lw_tbl := chf_in tbL_20_ok 13 rfl
theorem tb_sf : Cond.laysStatic "jdk/internal/util/Preconditions" "SIOOBE_FORMATTER" "Ljava/util/function/BiFunction;" ∈ lw_tbl := chf_in tbL_20_ok 14 rfl
theorem tb_ad : Cond.laysStatic "java/lang/StringUTF16" "$assertionsDisabled" "Z" ∈ lw_tbl := chf_in tbL_20_ok 15 rfl
theorem tbk_0 : Cond.instantiable RJ0 4 ∈ lw_tbl := chf_in tbL_20_ok 16 rfl
theorem tba_char : Cond.arrayClass .char ∈ lw_tbl := chf_in tbL_20_ok 17 rfl
theorem tbc_2 : Cond.castable "java/util/NoSuchElementException" "java/util/NoSuchElementException" ∈ lw_tbl := chf_in tbL_20_ok 18 rfl
theorem tbc_3 : Cond.castable "java/lang/IndexOutOfBoundsException" "java/lang/IndexOutOfBoundsException" ∈ lw_tbl := chf_in tbL_20_ok 19 rfl
def tbL_40 : List (Nat × Cond) := [(1522, Cond.instantiable RX11 39)]
set_option maxRecDepth 50000 in
theorem tbL_40_ok : chf tbL_40 lw_tbl = true := by decide +kernel
theorem tbk_12 : Cond.instantiable RX11 39 ∈ lw_tbl := chf_in tbL_40_ok 0 rfl
end START
