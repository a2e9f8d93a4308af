section CTORS
def cwl_0 : List (Nat × Cond) := [(82, Cond.instantiable RX10 18), (6, Cond.classLink RX10 20 RX7), (0, Cond.instantiable RX7 11), (4, Cond.classLink RX7 9 RX0), (1, Cond.instantiable RX0 3), (20, Cond.arrayClass .byte), (0, Cond.classLink RX7 18 RX5), (1, Cond.instantiable RX5 6), (108, Cond.arrayClass .int), (0, Cond.classLink RX10 23 RX1), (0, Cond.instantiable RX1 13), (4, Cond.classLink RX1 25 "[[I"), (67, Cond.arrayClass .long), (0, Cond.classLink RX10 39 RX2), (0, Cond.instantiable RX2 5), (4, Cond.classLink RX2 9 RX9), (0, Cond.instantiable RX9 6), (46, Cond.classLink RX10 46 RX3), (0, Cond.instantiable RX3 3), (4, Cond.classLink RX3 9 RX1)]
set_option maxRecDepth 50000 in
theorem cwc_0 : chk cwl_0 lw_tbl = true := by decide +kernel
theorem in_X10 : Cond.instantiable RX10 18 ∈ lwa := chk_in cwc_0 0 rfl
theorem cx_X10_20 : Cond.classLink RX10 20 RX7 ∈ lwa := chk_in cwc_0 1 rfl
theorem in_X7 : Cond.instantiable RX7 11 ∈ lwa := chk_in cwc_0 2 rfl
theorem cx_X7_9 : Cond.classLink RX7 9 RX0 ∈ lwa := chk_in cwc_0 3 rfl
theorem in_X0 : Cond.instantiable RX0 3 ∈ lwa := chk_in cwc_0 4 rfl
theorem acw_byte : Cond.arrayClass .byte ∈ lwa := chk_in cwc_0 5 rfl
theorem cx_X7_18 : Cond.classLink RX7 18 RX5 ∈ lwa := chk_in cwc_0 6 rfl
theorem in_X5 : Cond.instantiable RX5 6 ∈ lwa := chk_in cwc_0 7 rfl
theorem acw_int : Cond.arrayClass .int ∈ lwa := chk_in cwc_0 8 rfl
theorem cx_X10_23 : Cond.classLink RX10 23 RX1 ∈ lwa := chk_in cwc_0 9 rfl
theorem in_X1 : Cond.instantiable RX1 13 ∈ lwa := chk_in cwc_0 10 rfl
theorem cx_X1_25 : Cond.classLink RX1 25 "[[I" ∈ lwa := chk_in cwc_0 11 rfl
theorem acw_long : Cond.arrayClass .long ∈ lwa := chk_in cwc_0 12 rfl
theorem cx_X10_39 : Cond.classLink RX10 39 RX2 ∈ lwa := chk_in cwc_0 13 rfl
theorem in_X2 : Cond.instantiable RX2 5 ∈ lwa := chk_in cwc_0 14 rfl
theorem cx_X2_9 : Cond.classLink RX2 9 RX9 ∈ lwa := chk_in cwc_0 15 rfl
theorem in_X9 : Cond.instantiable RX9 6 ∈ lwa := chk_in cwc_0 16 rfl
theorem cx_X10_46 : Cond.classLink RX10 46 RX3 ∈ lwa := chk_in cwc_0 17 rfl
theorem in_X3 : Cond.instantiable RX3 3 ∈ lwa := chk_in cwc_0 18 rfl
theorem cx_X3_9 : Cond.classLink RX3 9 RX1 ∈ lwa := chk_in cwc_0 19 rfl
def cwl_1 : List (Nat × Cond) := [(380, Cond.classLink RX10 61 RX6), (0, Cond.instantiable RX6 2), (12, Cond.arrayClass .boolean), (0, Cond.classLink RX10 68 RX4), (0, Cond.instantiable RX4 10), (36, Cond.classLink RX10 75 RX8), (0, Cond.instantiable RX8 8)]
set_option maxRecDepth 50000 in
theorem cwc_1 : chk cwl_1 lw_tbl = true := by decide +kernel
theorem cx_X10_61 : Cond.classLink RX10 61 RX6 ∈ lwa := chk_in cwc_1 0 rfl
theorem in_X6 : Cond.instantiable RX6 2 ∈ lwa := chk_in cwc_1 1 rfl
theorem acw_boolean : Cond.arrayClass .boolean ∈ lwa := chk_in cwc_1 2 rfl
theorem cx_X10_68 : Cond.classLink RX10 68 RX4 ∈ lwa := chk_in cwc_1 3 rfl
theorem in_X4 : Cond.instantiable RX4 10 ∈ lwa := chk_in cwc_1 4 rfl
theorem cx_X10_75 : Cond.classLink RX10 75 RX8 ∈ lwa := chk_in cwc_1 5 rfl
theorem in_X8 : Cond.instantiable RX8 8 ∈ lwa := chk_in cwc_1 6 rfl
theorem fl_c {f : Nat} (hf : Fl f) {c t n : Nat} (h : ∀ f ∈ flB, ktL.getD (f + c) 99 = t ∧ klL.getD (f + c) 0 = n ∧ r0L.getD (f + c) [] = [] ∧ 20 ≤ t ∧ f + c < 339) : kOK (f + c) t n := kOK.of (h f hf)
theorem plk_c {p : Nat} (hp : Pl p) {c t n : Nat} (h : ∀ p ∈ [3, 58], ktL.getD (p + c) 99 = t ∧ klL.getD (p + c) 0 = n ∧ r0L.getD (p + c) [] = [] ∧ 20 ≤ t ∧ p + c < 339) : kOK (p + c) t n := kOK.of (h p (by rcases hp with rfl | rfl <;> decide))
def kOQ (i t n : Nat) : Prop := kt i = t ∧ klL.getD i 0 = n ∧ i < 339 ∧ True
theorem kOQ.of {i t n : Nat} (h : ktL.getD i 99 = t ∧ klL.getD i 0 = n ∧ i < 339) : kOQ i t n := ⟨(kt_lt h.2.2).trans h.1, h.2.1, h.2.2, trivial⟩
theorem plq_c {p : Nat} (hp : Pl p) {c t n : Nat} (h : ∀ p ∈ [3, 58], ktL.getD (p + c) 99 = t ∧ klL.getD (p + c) 0 = n ∧ p + c < 339) : kOQ (p + c) t n := kOQ.of (h p (by rcases hp with rfl | rfl <;> decide))
theorem kt_ob {i c : Nat} (h : ktL.getD i 99 = c ∧ i < 339) : kt i = c := (kt_lt h.2).trans h.1
theorem r1_one {a t k9 : Nat} {v : Nat} (hk : kt a = t) (h0 : r0L.getD a [] = []) (ht : t = 1 ∧ v = 1000000 ∨ t = 6 ∧ v = 1000001) (k : Nat) : r1 a k = upF (fun _ => none) 0 (some v) k := by
  have h1 : r0 a k = none := by
    unfold r0
    rw [h0]
    rfl
  unfold r1 upF
  rw [h1]
  have x0 : a ≠ 0 := fun e => absurd hk (by rw [e, show kt 0 = 11 by decide +kernel]; omega)
  have x80 : a ≠ 80 := fun e => absurd hk (by rw [e, show kt 80 = 10 by decide +kernel]; omega)
  show (if k = 0 ∧ kt a = 2 then some 3 else if k = 9 ∧ a = 0 then some 58 else if k = 0 ∧ kt a = 1 then some 1000000 else if k = 0 ∧ kt a = 6 then some 1000001 else if k = 0 ∧ a = 80 then some 81 else none) = if k = 0 then some v else none
  by_cases hk0 : k = 0
  · rcases ht with ⟨rfl, rfl⟩ | ⟨rfl, rfl⟩
    · rw [if_neg (by omega), if_neg (by omega), if_pos ⟨hk0, hk⟩, if_pos hk0]
    · rw [if_neg (by omega), if_neg (by omega), if_neg (by omega), if_pos ⟨hk0, hk⟩, if_pos hk0]
  · rw [if_neg (by omega), if_neg (by omega), if_neg (by omega), if_neg (by omega), if_neg (by omega), if_neg hk0]
abbrev RC_X0_init : Room := { frames := 2, cells := 0, slots := 0, locals := 43 }
set_option maxHeartbeats 40000000 in
theorem i_X0_init {μ : Wd} {a : Nat} (h : Nu μ a) (hk0 : kt a = 1) (h0 : r0L.getD a [] = []) : CV Y_X0_init RC_X0_init [.ref a] μ (fun v V => v = none ∧ Bu μ (a) (a + 1) r1 zJ V) := by
  have hB := Nu.bu h
  refine CV.ent yk_X0_init (Nat.le_of_ble_eq_true rfl) ?_
  refine lf (a_aload_n dX0_init_0 rfl) ?_
  refine lf (a_objI dX0_init_1 oi_MealLoader_Cabin (by decide) (by decide) (Nat.le_of_ble_eq_true rfl)) ?_
  refine lf (a_aload_n dX0_init_4 rfl) ?_
  refine lf (a_ldcS (n := 0) (tx := "") dX0_init_5 rfl) ?_
  refine lf (a_putR dX0_init_7 fs_X0_9 rfl rfl (hB.ob (by omega) hk0)) ?_
  have hB := bu_sR hB (by omega) 0 (some (1000000))
  revert hB
  generalize sR μ (a) 0 (some (1000000)) = W1
  intro hB
  refine ⟨_, _, a_return dX0_init_10 rfl, ?_⟩
  exact ⟨_, rfl, rfl, hB.congr (fun i _ _ k => by
      by_cases e : i = a
      · subst e
        rw [cl2_at]
        exact (r1_one (k9 := 0) hk0 h0 (by decide) k).symm
      · rw [cl2_ne e])⟩
abbrev RC_X5_init : Room := { frames := 2, cells := 0, slots := 0, locals := 43 }
set_option maxHeartbeats 40000000 in
theorem i_X5_init {μ : Wd} {a : Nat} (h : Nu μ a) (hk0 : kt a = 6) (h0 : r0L.getD a [] = []) : CV Y_X5_init RC_X5_init [.ref a] μ (fun v V => v = none ∧ Bu μ (a) (a + 1) r1 zJ V) := by
  have hB := Nu.bu h
  refine CV.ent yk_X5_init (Nat.le_of_ble_eq_true rfl) ?_
  refine lf (a_aload_n dX5_init_0 rfl) ?_
  refine lf (a_objI dX5_init_1 oi_MealLoader_Meal (by decide) (by decide) (Nat.le_of_ble_eq_true rfl)) ?_
  refine lf (a_aload_n dX5_init_4 rfl) ?_
  refine lf (a_ldcS (n := 1) (tx := "") dX5_init_5 rfl) ?_
  refine lf (a_putR dX5_init_7 fs_X5_9 rfl rfl (hB.ob (by omega) hk0)) ?_
  have hB := bu_sR hB (by omega) 0 (some (1000001))
  revert hB
  generalize sR μ (a) 0 (some (1000001)) = W1
  intro hB
  refine ⟨_, _, a_return dX5_init_10 rfl, ?_⟩
  exact ⟨_, rfl, rfl, hB.congr (fun i _ _ k => by
      by_cases e : i = a
      · subst e
        rw [cl2_at]
        exact (r1_one (k9 := 0) hk0 h0 (by decide) k).symm
      · rw [cl2_ne e])⟩
theorem fl_k {f : Nat} (hf : Fl f) : kt f = 2 := by
  have h : ∀ f ∈ flB, ktL.getD f 99 = 2 ∧ f < 339 := by decide +kernel
  exact kt_ob (h f hf)
theorem fl_mna {f : Nat} (hf : Fl f) : kt (f + 4) = 28 ∧ klL.getD (f + 4) 0 = 8 ∧ ∀ j, j < 8 → kt (f + 4 + 1 + j) = 20 ∧ klL.getD (f + 4 + 1 + j) 0 = 12 := by
  have h : ∀ f ∈ flB, (ktL.getD (f + 4) 99 = 28 ∧ klL.getD (f + 4) 0 = 8 ∧ f + 13 < 339) ∧ ∀ j, j < 8 → ktL.getD (f + 4 + 1 + j) 99 = 20 ∧ klL.getD (f + 4 + 1 + j) 0 = 12 := by decide +kernel
  obtain ⟨⟨a1, a2, a3⟩, a4⟩ := h f hf
  exact ⟨(kt_lt (by omega)).trans a1, a2, fun j hj => ⟨(kt_lt (by omega)).trans (a4 j hj).1, (a4 j hj).2⟩⟩
theorem fl_mnr {f : Nat} (hf : Fl f) {i : Nat} (h1 : f + 4 ≤ i) (h2 : i < f + 4 + 9) (k : Nat) : r1 i k = if i = f + 4 then (if k < 8 then some (f + 4 + 1 + k) else none) else none := by
  have h : ∀ f ∈ flB, (ktL.getD (f + 4) 99 = 28 ∧ f + 13 < 339 ∧ (r0L.getD (f + 4) []).length = 8 ∧ ∀ k, k < 8 → r0 (f + 4) k = some (f + 4 + 1 + k)) ∧ ∀ j, j < 8 → ktL.getD (f + 4 + 1 + j) 99 = 20 ∧ r0L.getD (f + 4 + 1 + j) [] = [] := by decide +kernel
  obtain ⟨⟨b1, b2, b3, b4⟩, b5⟩ := h f hf
  by_cases e : i = f + 4
  · subst e
    rw [if_pos rfl]
    by_cases hk : k < 8
    · rw [if_pos hk]
      unfold r1
      rw [b4 k hk]
    · rw [if_neg hk]
      have h0 : r0 (f + 4) k = none := by
        unfold r0
        rw [List.getD_eq_getElem?_getD, List.getElem?_eq_none (by omega)]
        rfl
      have hkt : kt (f + 4) = 28 := (kt_lt (by omega)).trans b1
      unfold r1
      rw [h0]
      have x80 : f + 4 ≠ 80 := fun e => absurd hkt (by rw [e, show kt 80 = 10 by decide +kernel]; omega)
      show (if k = 0 ∧ kt (f + 4) = 2 then some 3 else _) = none
      rw [if_neg (by omega), if_neg (by omega), if_neg (by omega), if_neg (by omega), if_neg (by omega)]
  · rw [if_neg e]
    have q := b5 (i - (f + 4 + 1)) (by omega)
    rw [show f + 4 + 1 + (i - (f + 4 + 1)) = i by omega] at q
    exact r1_none ((kt_lt (by omega)).trans q.1) (by decide) q.2 k
abbrev RC_X1_init : Room := { frames := 2, cells := 16, slots := 248, locals := 43 }
set_option maxHeartbeats 40000000 in
theorem i_X1_init {μ : Wd} {f : Nat} (h : Nu μ f) (hf : Fl f) : CV Y_X1_init RC_X1_init [.ref f, .ref 3] μ (fun v V => v = none ∧ Bu μ (f) (f + 17) r1 zJ V) := by
  have hlt := hf.lt
  have hk0 : kt f = 2 := (fl_k hf)
  have q1 := fl_c hf (c := 1) (t := 20) (n := 40) (by decide +kernel)
  have q2 := fl_c hf (c := 2) (t := 20) (n := 40) (by decide +kernel)
  have q3 := fl_c hf (c := 3) (t := 20) (n := 40) (by decide +kernel)
  have q13 := fl_c hf (c := 13) (t := 20) (n := 6) (by decide +kernel)
  have q14 := fl_c hf (c := 14) (t := 20) (n := 6) (by decide +kernel)
  have q15 := fl_c hf (c := 15) (t := 20) (n := 6) (by decide +kernel)
  have q16 := fl_c hf (c := 16) (t := 21) (n := 6) (by decide +kernel)
  have hB := Nu.bu h
  refine CV.ent yk_X1_init (Nat.le_of_ble_eq_true rfl) ?_
  refine lf (a_aload_n dX1_init_0 rfl) ?_
  refine lf (a_objI dX1_init_1 oi_MealLoader_Flight (by decide) (by decide) (Nat.le_of_ble_eq_true rfl)) ?_
  refine lf (a_aload_n dX1_init_4 rfl) ?_
  refine lf (a_aload_n dX1_init_5 rfl) ?_
  refine lf (a_putR dX1_init_6 fs_X1_9 rfl rfl (hB.ob (by omega) hk0)) ?_
  have hB := bu_sR hB (by omega) 0 (some (3))
  revert hB
  generalize sR μ (f) 0 (some (3)) = W1
  intro hB
  refine lf (a_aload_n dX1_init_9 rfl) ?_
  refine lf (a_bipush (40 : Int32) dX1_init_10 (by decide)) ?_
  refine lf (a_newI (c9 := 40) (len := 40) (t := 20) (aty := .int) (ty := .int) (b' := (15, 208)) dX1_init_12 rfl acw_int ⟨rfl, by decide, by decide, by decide⟩ rfl (by decide) (by decide) (by rw [hB.1]; exact (km_lt q1.2.2.1).trans q1.1) ((al_lt (by rw [hB.1]; exact q1.2.2.1)).trans (by rw [hB.1]; exact q1.2.1)) (by have := q1.2.2.1; rw [hB.1]; omega) rfl) ?_
  rw [hB.1]
  have hB : Bu μ (f) (f + 2) _ _ _ := bu_mk hB (fun k => (cl2_ne (by omega) k).trans (q1.2.2.2 k)) (fun k => rfl) (by omega) 40
  revert hB
  generalize mk W1 40 = W2
  intro hB
  refine lf (a_putRF dX1_init_14 fs_X1_15 rfl rfl rfl hc_X1 (hB.ob (by omega) hk0)) ?_
  have hB := bu_sR hB (by omega) 4 (some (f + 1))
  revert hB
  generalize sR W2 (f) 4 (some (f + 1)) = W3
  intro hB
  refine lf (a_aload_n dX1_init_17 rfl) ?_
  refine lf (a_bipush (40 : Int32) dX1_init_18 (by decide)) ?_
  refine lf (a_newI (c9 := 40) (len := 40) (t := 20) (aty := .int) (ty := .int) (b' := (14, 168)) dX1_init_20 rfl acw_int ⟨rfl, by decide, by decide, by decide⟩ rfl (by decide) (by decide) (by rw [hB.1]; exact (km_lt q2.2.2.1).trans q2.1) ((al_lt (by rw [hB.1]; exact q2.2.2.1)).trans (by rw [hB.1]; exact q2.2.1)) (by have := q2.2.2.1; rw [hB.1]; omega) rfl) ?_
  rw [hB.1]
  have hB : Bu μ (f) (f + 3) _ _ _ := bu_mk hB (fun k => (cl2_ne (by omega) k).trans (q2.2.2.2 k)) (fun k => rfl) (by omega) 40
  revert hB
  generalize mk W3 40 = W4
  intro hB
  refine lf (a_putRF dX1_init_22 fs_X1_19 rfl rfl rfl hc_X1 (hB.ob (by omega) hk0)) ?_
  have hB := bu_sR hB (by omega) 5 (some (f + 2))
  revert hB
  generalize sR W4 (f) 5 (some (f + 2)) = W5
  intro hB
  refine lf (a_aload_n dX1_init_25 rfl) ?_
  refine lf (a_bipush (40 : Int32) dX1_init_26 (by decide)) ?_
  refine lf (a_newI (c9 := 40) (len := 40) (t := 20) (aty := .int) (ty := .int) (b' := (13, 128)) dX1_init_28 rfl acw_int ⟨rfl, by decide, by decide, by decide⟩ rfl (by decide) (by decide) (by rw [hB.1]; exact (km_lt q3.2.2.1).trans q3.1) ((al_lt (by rw [hB.1]; exact q3.2.2.1)).trans (by rw [hB.1]; exact q3.2.1)) (by have := q3.2.2.1; rw [hB.1]; omega) rfl) ?_
  rw [hB.1]
  have hB : Bu μ (f) (f + 4) _ _ _ := bu_mk hB (fun k => (cl2_ne (by omega) k).trans (q3.2.2.2 k)) (fun k => rfl) (by omega) 40
  revert hB
  generalize mk W5 40 = W6
  intro hB
  refine lf (a_putRF dX1_init_30 fs_X1_22 rfl rfl rfl hc_X1 (hB.ob (by omega) hk0)) ?_
  have hB := bu_sR hB (by omega) 6 (some (f + 3))
  revert hB
  generalize sR W6 (f) 6 (some (f + 3)) = W7
  intro hB
  refine lf (a_aload_n dX1_init_33 rfl) ?_
  refine lf (a_bipush (8 : Int32) dX1_init_34 (by decide)) ?_
  refine lf (a_bipush (12 : Int32) dX1_init_36 (by decide)) ?_
  refine lf (a_mna (b' := (4, 24)) dX1_init_38 cx_X1_25 acw_int (by rw [hB.1]; omega) (by rw [hB.1]; exact fl_mna hf) rfl) ?_
  rw [hB.1]
  have hB : Bu μ (f) (f + 13) _ _ _ := bu_mkA hB (by omega) (fun i h1 h2 k => (cl2_ne (by omega) k).trans (fl_mnr hf h1 h2 k)) (fun i h1 h2 k => rfl)
  revert hB
  generalize mkA W7 = W8
  intro hB
  refine lf (a_putRF dX1_init_42 fs_X1_27 rfl rfl rfl hc_X1 (hB.ob (by omega) hk0)) ?_
  have hB := bu_sR hB (by omega) 7 (some (f + 4))
  revert hB
  generalize sR W8 (f) 7 (some (f + 4)) = W9
  intro hB
  refine lf (a_aload_n dX1_init_45 rfl) ?_
  refine lf (a_bipush (6 : Int32) dX1_init_46 (by decide)) ?_
  refine lf (a_newI (c9 := 6) (len := 6) (t := 20) (aty := .int) (ty := .int) (b' := (3, 18)) dX1_init_48 rfl acw_int ⟨rfl, by decide, by decide, by decide⟩ rfl (by decide) (by decide) (by rw [hB.1]; exact (km_lt q13.2.2.1).trans q13.1) ((al_lt (by rw [hB.1]; exact q13.2.2.1)).trans (by rw [hB.1]; exact q13.2.1)) (by have := q13.2.2.1; rw [hB.1]; omega) rfl) ?_
  rw [hB.1]
  have hB : Bu μ (f) (f + 14) _ _ _ := bu_mk hB (fun k => (cl2_ne (by omega) k).trans (q13.2.2.2 k)) (fun k => rfl) (by omega) 6
  revert hB
  generalize mk W9 6 = W10
  intro hB
  refine lf (a_putRF dX1_init_50 fs_X1_30 rfl rfl rfl hc_X1 (hB.ob (by omega) hk0)) ?_
  have hB := bu_sR hB (by omega) 9 (some (f + 13))
  revert hB
  generalize sR W10 (f) 9 (some (f + 13)) = W11
  intro hB
  refine lf (a_aload_n dX1_init_53 rfl) ?_
  refine lf (a_bipush (6 : Int32) dX1_init_54 (by decide)) ?_
  refine lf (a_newI (c9 := 6) (len := 6) (t := 20) (aty := .int) (ty := .int) (b' := (2, 12)) dX1_init_56 rfl acw_int ⟨rfl, by decide, by decide, by decide⟩ rfl (by decide) (by decide) (by rw [hB.1]; exact (km_lt q14.2.2.1).trans q14.1) ((al_lt (by rw [hB.1]; exact q14.2.2.1)).trans (by rw [hB.1]; exact q14.2.1)) (by have := q14.2.2.1; rw [hB.1]; omega) rfl) ?_
  rw [hB.1]
  have hB : Bu μ (f) (f + 15) _ _ _ := bu_mk hB (fun k => (cl2_ne (by omega) k).trans (q14.2.2.2 k)) (fun k => rfl) (by omega) 6
  revert hB
  generalize mk W11 6 = W12
  intro hB
  refine lf (a_putRF dX1_init_58 fs_X1_33 rfl rfl rfl hc_X1 (hB.ob (by omega) hk0)) ?_
  have hB := bu_sR hB (by omega) 10 (some (f + 14))
  revert hB
  generalize sR W12 (f) 10 (some (f + 14)) = W13
  intro hB
  refine lf (a_aload_n dX1_init_61 rfl) ?_
  refine lf (a_bipush (6 : Int32) dX1_init_62 (by decide)) ?_
  refine lf (a_newI (c9 := 6) (len := 6) (t := 20) (aty := .int) (ty := .int) (b' := (1, 6)) dX1_init_64 rfl acw_int ⟨rfl, by decide, by decide, by decide⟩ rfl (by decide) (by decide) (by rw [hB.1]; exact (km_lt q15.2.2.1).trans q15.1) ((al_lt (by rw [hB.1]; exact q15.2.2.1)).trans (by rw [hB.1]; exact q15.2.1)) (by have := q15.2.2.1; rw [hB.1]; omega) rfl) ?_
  rw [hB.1]
  have hB : Bu μ (f) (f + 16) _ _ _ := bu_mk hB (fun k => (cl2_ne (by omega) k).trans (q15.2.2.2 k)) (fun k => rfl) (by omega) 6
  revert hB
  generalize mk W13 6 = W14
  intro hB
  refine lf (a_putRF dX1_init_66 fs_X1_36 rfl rfl rfl hc_X1 (hB.ob (by omega) hk0)) ?_
  have hB := bu_sR hB (by omega) 11 (some (f + 15))
  revert hB
  generalize sR W14 (f) 11 (some (f + 15)) = W15
  intro hB
  refine lf (a_aload_n dX1_init_69 rfl) ?_
  refine lf (a_bipush (6 : Int32) dX1_init_70 (by decide)) ?_
  refine lf (a_newL (c9 := 6) (len := 6) (b' := (0, 0)) dX1_init_72 acw_long (by decide) (by rw [hB.1]; exact (km_lt q16.2.2.1).trans q16.1) ((al_lt (by rw [hB.1]; exact q16.2.2.1)).trans (by rw [hB.1]; exact q16.2.1)) (by have := q16.2.2.1; rw [hB.1]; omega) rfl) ?_
  rw [hB.1]
  have hB : Bu μ (f) (f + 17) _ _ _ := bu_mk hB (fun k => (cl2_ne (by omega) k).trans (q16.2.2.2 k)) (fun k => rfl) (by omega) 6
  revert hB
  generalize mk W15 6 = W16
  intro hB
  refine lf (a_putRF dX1_init_74 fs_X1_39 rfl rfl rfl hc_X1 (hB.ob (by omega) hk0)) ?_
  have hB := bu_sR hB (by omega) 12 (some (f + 16))
  revert hB
  generalize sR W16 (f) 12 (some (f + 16)) = W17
  intro hB
  refine ⟨_, _, a_return dX1_init_77 rfl, ?_⟩
  exact ⟨_, rfl, rfl, hB.congr (fun i _ _ k => cl2_closeA (by
      have h : ∀ f ∈ flB, ∀ k, k < 39 → (upF (upF (upF (upF (upF (upF (upF (upF (upF (fun _ => none) 0 (some (3))) 4 (some (f + 1))) 5 (some (f + 2))) 6 (some (f + 3))) 7 (some (f + 4))) 9 (some (f + 13))) 10 (some (f + 14))) 11 (some (f + 15))) 12 (some (f + 16))) k = r1 f k := by decide +kernel
      exact h f hf) (fun k hk => by simp only [upF]; rw [if_neg (by omega)]; rw [if_neg (by omega)]; rw [if_neg (by omega)]; rw [if_neg (by omega)]; rw [if_neg (by omega)]; rw [if_neg (by omega)]; rw [if_neg (by omega)]; rw [if_neg (by omega)]; rw [if_neg (by omega)]) i k)⟩
end CTORS
