section CTORC
abbrev RC_X9_init : Room := { frames := 2, cells := 1, slots := 0, locals := 43 }
set_option maxHeartbeats 40000000 in
theorem i_X9_init {μ : Wd} (h : Nu μ 80) : CV Y_X9_init RC_X9_init [.ref 80] μ (fun v V => v = none ∧ Bu μ 80 82 r1 zJ V) := by
  have hk0 : kt 80 = 10 := kt_ob (by decide +kernel)
  have q1 : kOK 81 22 0 := kOK.of (by decide +kernel)
  have hB := Nu.bu h
  refine CV.ent yk_X9_init (Nat.le_of_ble_eq_true rfl) ?_
  refine lf (a_aload_n dX9_init_0 rfl) ?_
  refine lf (a_objI dX9_init_1 oi_MealLoader_Tokens (by decide) (by decide) (Nat.le_of_ble_eq_true rfl)) ?_
  refine lf (a_aload_n dX9_init_4 rfl) ?_
  refine lf (a_iconst (0 : Int32) dX9_init_5 (by decide)) ?_
  refine lf (a_newI (c9 := 0) (len := 0) (t := 22) (aty := .byte) (ty := .byte) (b' := (0, 0)) dX9_init_6 rfl acw_byte ⟨rfl, by decide, by decide, by decide⟩ rfl (by decide) (by decide) (by rw [hB.1]; exact (km_lt q1.2.2.1).trans q1.1) ((al_lt (by rw [hB.1]; exact q1.2.2.1)).trans (by rw [hB.1]; exact q1.2.1)) (by have := q1.2.2.1; rw [hB.1]; omega) rfl) ?_
  rw [hB.1]
  have hB : Bu μ (80) (82) _ _ _ := bu_mk hB (fun k => (cl2_ne (by omega) k).trans (q1.2.2.2 k)) (fun k => rfl) (by omega) 0
  revert hB
  generalize mk μ 0 = W1
  intro hB
  refine lf (a_putR dX9_init_8 fs_X9_7 rfl rfl (hB.ob (by omega) hk0)) ?_
  have hB := bu_sR hB (by omega) 0 (some (81))
  revert hB
  generalize sR W1 80 0 (some 81) = W2
  intro hB
  refine ⟨_, _, a_return dX9_init_11 rfl, ?_⟩
  exact ⟨_, rfl, rfl, hB.congr (fun i _ _ k => cl2_closeA (by
      have h : ∀ k, k < 39 → (upF (fun _ => none) 0 (some (81))) k = r1 80 k := by decide +kernel
      exact h) (fun k hk => by simp only [upF]; rw [if_neg (by omega)]) i k)⟩
abbrev RC_X2_init : Room := { frames := 3, cells := 2, slots := 6, locals := 63 }
set_option maxHeartbeats 40000000 in
theorem i_X2_init {μ : Wd} (h : Nu μ 79) : CV Y_X2_init RC_X2_init [.ref 79] μ (fun v V => v = none ∧ Bu μ 79 82 r1 zJ V) := by
  have hk0 : kt 79 = 3 := kt_ob (by decide +kernel)
  have k1 : kt 80 = 10 := kt_ob (by decide +kernel)
  have k1b : 80 < 339 := by decide
  have hB := Nu.bu h
  refine CV.ent yk_X2_init (Nat.le_of_ble_eq_true rfl) ?_
  refine lf (a_aload_n dX2_init_0 rfl) ?_
  refine lf (a_objI dX2_init_1 oi_MealLoader_FlightText (by decide) (by decide) (Nat.le_of_ble_eq_true rfl)) ?_
  refine lf (a_aload_n dX2_init_4 rfl) ?_
  refine lf (a_new (c9 := 0) (b' := (1, 0)) dX2_init_5 cls_X9 cx_X2_9 in_X9 ini_RX9 (fun j hj => by rcases (by omega : j = 0 ∨ j = 1 ∨ j = 2 ∨ j = 3 ∨ j = 4 ∨ j = 5) with e | e | e | e | e | e <;> subst e <;> rfl) (by rw [hB.1]; exact km_k k1 (by decide)) (by have := k1b; rw [hB.1]; omega) rfl) ?_
  rw [hB.1]
  refine lf (a_dup dX2_init_8 rfl) ?_
  obtain ⟨v9, V9, c9, rfl, g9⟩ := i_X9_init (nu_mk hB.1) 
  refine lf (a_invIN (b2 := (0, 0)) c9 rfl dX2_init_9 yk_X9_init rfl rfl im_X9_init ⟨List.mem_cons_of_mem _ (List.mem_cons_of_mem _ List.mem_cons_self), rfl⟩ rfl (by decide) ⟨Nat.le_of_ble_eq_true rfl, Nat.le_of_ble_eq_true rfl⟩ (Nat.le_of_ble_eq_true rfl)) ?_
  have hB : Bu μ (79) (82) _ _ _ := bu_sub hB (by omega) g9 (fun i h1 h2 k => (cl2_ne (by omega) k)) (fun i h1 h2 k => rfl)
  refine lf (a_putRF dX2_init_12 fs_X2_12 rfl rfl rfl hc_X2 (hB.ob (by omega) hk0)) ?_
  have hB := bu_sR hB (by omega) 0 (some (80))
  revert hB
  generalize sR V9 79 0 (some 80) = W1
  intro hB
  refine ⟨_, _, a_return dX2_init_15 rfl, ?_⟩
  exact ⟨_, rfl, rfl, hB.congr (fun i _ _ k => cl2_closeA (by
      have h : ∀ k, k < 39 → (upF (fun _ => none) 0 (some (80))) k = r1 79 k := by decide +kernel
      exact h) (fun k hk => by simp only [upF]; rw [if_neg (by omega)]) i k)⟩
abbrev RC_X6_init : Room := { frames := 2, cells := 2, slots := 24, locals := 43 }
set_option maxHeartbeats 40000000 in
theorem i_X6_init {μ : Wd} (h : Nu μ 324) : CV Y_X6_init RC_X6_init [.ref 324] μ (fun v V => v = none ∧ Bu μ 324 327 r1 zJ V) := by
  have hk0 : kt 324 = 7 := kt_ob (by decide +kernel)
  have q1 : kOK 325 20 12 := kOK.of (by decide +kernel)
  have q2 : kOK 326 20 12 := kOK.of (by decide +kernel)
  have hB := Nu.bu h
  refine CV.ent yk_X6_init (Nat.le_of_ble_eq_true rfl) ?_
  refine lf (a_aload_n dX6_init_0 rfl) ?_
  refine lf (a_objI dX6_init_1 oi_MealLoader_Order (by decide) (by decide) (Nat.le_of_ble_eq_true rfl)) ?_
  refine lf (a_aload_n dX6_init_4 rfl) ?_
  refine lf (a_bipush (12 : Int32) dX6_init_5 (by decide)) ?_
  refine lf (a_newI (c9 := 12) (len := 12) (t := 20) (aty := .int) (ty := .int) (b' := (1, 12)) dX6_init_7 rfl acw_int ⟨rfl, by decide, by decide, by decide⟩ rfl (by decide) (by decide) (by rw [hB.1]; exact (km_lt q1.2.2.1).trans q1.1) ((al_lt (by rw [hB.1]; exact q1.2.2.1)).trans (by rw [hB.1]; exact q1.2.1)) (by have := q1.2.2.1; rw [hB.1]; omega) rfl) ?_
  rw [hB.1]
  have hB : Bu μ (324) (326) _ _ _ := bu_mk hB (fun k => (cl2_ne (by omega) k).trans (q1.2.2.2 k)) (fun k => rfl) (by omega) 12
  revert hB
  generalize mk μ 12 = W1
  intro hB
  refine lf (a_putRF dX6_init_9 fs_X6_9 rfl rfl rfl hc_X6 (hB.ob (by omega) hk0)) ?_
  have hB := bu_sR hB (by omega) 0 (some (325))
  revert hB
  generalize sR W1 324 0 (some 325) = W2
  intro hB
  refine lf (a_aload_n dX6_init_12 rfl) ?_
  refine lf (a_bipush (12 : Int32) dX6_init_13 (by decide)) ?_
  refine lf (a_newI (c9 := 12) (len := 12) (t := 20) (aty := .int) (ty := .int) (b' := (0, 0)) dX6_init_15 rfl acw_int ⟨rfl, by decide, by decide, by decide⟩ rfl (by decide) (by decide) (by rw [hB.1]; exact (km_lt q2.2.2.1).trans q2.1) ((al_lt (by rw [hB.1]; exact q2.2.2.1)).trans (by rw [hB.1]; exact q2.2.1)) (by have := q2.2.2.1; rw [hB.1]; omega) rfl) ?_
  rw [hB.1]
  have hB : Bu μ (324) (327) _ _ _ := bu_mk hB (fun k => (cl2_ne (by omega) k).trans (q2.2.2.2 k)) (fun k => rfl) (by omega) 12
  revert hB
  generalize mk W2 12 = W3
  intro hB
  refine lf (a_putRF dX6_init_17 fs_X6_15 rfl rfl rfl hc_X6 (hB.ob (by omega) hk0)) ?_
  have hB := bu_sR hB (by omega) 1 (some (326))
  revert hB
  generalize sR W3 324 1 (some 326) = W4
  intro hB
  refine ⟨_, _, a_return dX6_init_20 rfl, ?_⟩
  exact ⟨_, rfl, rfl, hB.congr (fun i _ _ k => cl2_closeA (by
      have h : ∀ k, k < 39 → (upF (upF (fun _ => none) 0 (some (325))) 1 (some (326))) k = r1 324 k := by decide +kernel
      exact h) (fun k hk => by simp only [upF]; rw [if_neg (by omega)]; rw [if_neg (by omega)]) i k)⟩
abbrev RC_X4_init : Room := { frames := 2, cells := 6, slots := 128, locals := 43 }
set_option maxHeartbeats 40000000 in
theorem i_X4_init {μ : Wd} (h : Nu μ 327) : CV Y_X4_init RC_X4_init [.ref 327] μ (fun v V => v = none ∧ Bu μ 327 334 r1 zJ V) := by
  have hk0 : kt 327 = 5 := kt_ob (by decide +kernel)
  have q1 : kOK 328 20 40 := kOK.of (by decide +kernel)
  have q2 : kOK 329 20 40 := kOK.of (by decide +kernel)
  have q3 : kOK 330 20 12 := kOK.of (by decide +kernel)
  have q4 : kOK 331 20 12 := kOK.of (by decide +kernel)
  have q5 : kOK 332 20 12 := kOK.of (by decide +kernel)
  have q6 : kOK 333 20 12 := kOK.of (by decide +kernel)
  have hB := Nu.bu h
  refine CV.ent yk_X4_init (Nat.le_of_ble_eq_true rfl) ?_
  refine lf (a_aload_n dX4_init_0 rfl) ?_
  refine lf (a_objI dX4_init_1 oi_MealLoader_Matching (by decide) (by decide) (Nat.le_of_ble_eq_true rfl)) ?_
  refine lf (a_aload_n dX4_init_4 rfl) ?_
  refine lf (a_bipush (40 : Int32) dX4_init_5 (by decide)) ?_
  refine lf (a_newI (c9 := 40) (len := 40) (t := 20) (aty := .int) (ty := .int) (b' := (5, 88)) dX4_init_7 rfl acw_int ⟨rfl, by decide, by decide, by decide⟩ rfl (by decide) (by decide) (by rw [hB.1]; exact (km_lt q1.2.2.1).trans q1.1) ((al_lt (by rw [hB.1]; exact q1.2.2.1)).trans (by rw [hB.1]; exact q1.2.1)) (by have := q1.2.2.1; rw [hB.1]; omega) rfl) ?_
  rw [hB.1]
  have hB : Bu μ (327) (329) _ _ _ := bu_mk hB (fun k => (cl2_ne (by omega) k).trans (q1.2.2.2 k)) (fun k => rfl) (by omega) 40
  revert hB
  generalize mk μ 40 = W1
  intro hB
  refine lf (a_putRF dX4_init_9 fs_X4_9 rfl rfl rfl hc_X4 (hB.ob (by omega) hk0)) ?_
  have hB := bu_sR hB (by omega) 2 (some (328))
  revert hB
  generalize sR W1 327 2 (some 328) = W2
  intro hB
  refine lf (a_aload_n dX4_init_12 rfl) ?_
  refine lf (a_bipush (40 : Int32) dX4_init_13 (by decide)) ?_
  refine lf (a_newI (c9 := 40) (len := 40) (t := 20) (aty := .int) (ty := .int) (b' := (4, 48)) dX4_init_15 rfl acw_int ⟨rfl, by decide, by decide, by decide⟩ rfl (by decide) (by decide) (by rw [hB.1]; exact (km_lt q2.2.2.1).trans q2.1) ((al_lt (by rw [hB.1]; exact q2.2.2.1)).trans (by rw [hB.1]; exact q2.2.1)) (by have := q2.2.2.1; rw [hB.1]; omega) rfl) ?_
  rw [hB.1]
  have hB : Bu μ (327) (330) _ _ _ := bu_mk hB (fun k => (cl2_ne (by omega) k).trans (q2.2.2.2 k)) (fun k => rfl) (by omega) 40
  revert hB
  generalize mk W2 40 = W3
  intro hB
  refine lf (a_putRF dX4_init_17 fs_X4_15 rfl rfl rfl hc_X4 (hB.ob (by omega) hk0)) ?_
  have hB := bu_sR hB (by omega) 3 (some (329))
  revert hB
  generalize sR W3 327 3 (some 329) = W4
  intro hB
  refine lf (a_aload_n dX4_init_20 rfl) ?_
  refine lf (a_bipush (12 : Int32) dX4_init_21 (by decide)) ?_
  refine lf (a_newI (c9 := 12) (len := 12) (t := 20) (aty := .int) (ty := .int) (b' := (3, 36)) dX4_init_23 rfl acw_int ⟨rfl, by decide, by decide, by decide⟩ rfl (by decide) (by decide) (by rw [hB.1]; exact (km_lt q3.2.2.1).trans q3.1) ((al_lt (by rw [hB.1]; exact q3.2.2.1)).trans (by rw [hB.1]; exact q3.2.1)) (by have := q3.2.2.1; rw [hB.1]; omega) rfl) ?_
  rw [hB.1]
  have hB : Bu μ (327) (331) _ _ _ := bu_mk hB (fun k => (cl2_ne (by omega) k).trans (q3.2.2.2 k)) (fun k => rfl) (by omega) 12
  revert hB
  generalize mk W4 12 = W5
  intro hB
  refine lf (a_putRF dX4_init_25 fs_X4_18 rfl rfl rfl hc_X4 (hB.ob (by omega) hk0)) ?_
  have hB := bu_sR hB (by omega) 4 (some (330))
  revert hB
  generalize sR W5 327 4 (some 330) = W6
  intro hB
  refine lf (a_aload_n dX4_init_28 rfl) ?_
  refine lf (a_bipush (12 : Int32) dX4_init_29 (by decide)) ?_
  refine lf (a_newI (c9 := 12) (len := 12) (t := 20) (aty := .int) (ty := .int) (b' := (2, 24)) dX4_init_31 rfl acw_int ⟨rfl, by decide, by decide, by decide⟩ rfl (by decide) (by decide) (by rw [hB.1]; exact (km_lt q4.2.2.1).trans q4.1) ((al_lt (by rw [hB.1]; exact q4.2.2.1)).trans (by rw [hB.1]; exact q4.2.1)) (by have := q4.2.2.1; rw [hB.1]; omega) rfl) ?_
  rw [hB.1]
  have hB : Bu μ (327) (332) _ _ _ := bu_mk hB (fun k => (cl2_ne (by omega) k).trans (q4.2.2.2 k)) (fun k => rfl) (by omega) 12
  revert hB
  generalize mk W6 12 = W7
  intro hB
  refine lf (a_putRF dX4_init_33 fs_X4_21 rfl rfl rfl hc_X4 (hB.ob (by omega) hk0)) ?_
  have hB := bu_sR hB (by omega) 5 (some (331))
  revert hB
  generalize sR W7 327 5 (some 331) = W8
  intro hB
  refine lf (a_aload_n dX4_init_36 rfl) ?_
  refine lf (a_bipush (12 : Int32) dX4_init_37 (by decide)) ?_
  refine lf (a_newI (c9 := 12) (len := 12) (t := 20) (aty := .int) (ty := .int) (b' := (1, 12)) dX4_init_39 rfl acw_int ⟨rfl, by decide, by decide, by decide⟩ rfl (by decide) (by decide) (by rw [hB.1]; exact (km_lt q5.2.2.1).trans q5.1) ((al_lt (by rw [hB.1]; exact q5.2.2.1)).trans (by rw [hB.1]; exact q5.2.1)) (by have := q5.2.2.1; rw [hB.1]; omega) rfl) ?_
  rw [hB.1]
  have hB : Bu μ (327) (333) _ _ _ := bu_mk hB (fun k => (cl2_ne (by omega) k).trans (q5.2.2.2 k)) (fun k => rfl) (by omega) 12
  revert hB
  generalize mk W8 12 = W9
  intro hB
  refine lf (a_putRF dX4_init_41 fs_X4_24 rfl rfl rfl hc_X4 (hB.ob (by omega) hk0)) ?_
  have hB := bu_sR hB (by omega) 6 (some (332))
  revert hB
  generalize sR W9 327 6 (some 332) = W10
  intro hB
  refine lf (a_aload_n dX4_init_44 rfl) ?_
  refine lf (a_bipush (12 : Int32) dX4_init_45 (by decide)) ?_
  refine lf (a_newI (c9 := 12) (len := 12) (t := 20) (aty := .int) (ty := .int) (b' := (0, 0)) dX4_init_47 rfl acw_int ⟨rfl, by decide, by decide, by decide⟩ rfl (by decide) (by decide) (by rw [hB.1]; exact (km_lt q6.2.2.1).trans q6.1) ((al_lt (by rw [hB.1]; exact q6.2.2.1)).trans (by rw [hB.1]; exact q6.2.1)) (by have := q6.2.2.1; rw [hB.1]; omega) rfl) ?_
  rw [hB.1]
  have hB : Bu μ (327) (334) _ _ _ := bu_mk hB (fun k => (cl2_ne (by omega) k).trans (q6.2.2.2 k)) (fun k => rfl) (by omega) 12
  revert hB
  generalize mk W10 12 = W11
  intro hB
  refine lf (a_putRF dX4_init_49 fs_X4_27 rfl rfl rfl hc_X4 (hB.ob (by omega) hk0)) ?_
  have hB := bu_sR hB (by omega) 7 (some (333))
  revert hB
  generalize sR W11 327 7 (some 333) = W12
  intro hB
  refine ⟨_, _, a_return dX4_init_52 rfl, ?_⟩
  exact ⟨_, rfl, rfl, hB.congr (fun i _ _ k => cl2_closeA (by
      have h : ∀ k, k < 39 → (upF (upF (upF (upF (upF (upF (fun _ => none) 2 (some (328))) 3 (some (329))) 4 (some (330))) 5 (some (331))) 6 (some (332))) 7 (some (333))) k = r1 327 k := by decide +kernel
      exact h) (fun k hk => by simp only [upF]; rw [if_neg (by omega)]; rw [if_neg (by omega)]; rw [if_neg (by omega)]; rw [if_neg (by omega)]; rw [if_neg (by omega)]; rw [if_neg (by omega)]) i k)⟩
abbrev RC_X8_init : Room := { frames := 2, cells := 3, slots := 64, locals := 43 }
set_option maxHeartbeats 40000000 in
theorem i_X8_init {μ : Wd} (h : Nu μ 334) : CV Y_X8_init RC_X8_init [.ref 334] μ (fun v V => v = none ∧ Bu μ 334 338 r1 zJ V) := by
  have hk0 : kt 334 = 9 := kt_ob (by decide +kernel)
  have q1 : kOK 335 20 40 := kOK.of (by decide +kernel)
  have q2 : kOK 336 20 12 := kOK.of (by decide +kernel)
  have q3 : kOK 337 20 12 := kOK.of (by decide +kernel)
  have hB := Nu.bu h
  refine CV.ent yk_X8_init (Nat.le_of_ble_eq_true rfl) ?_
  refine lf (a_aload_n dX8_init_0 rfl) ?_
  refine lf (a_objI dX8_init_1 oi_MealLoader_Service (by decide) (by decide) (Nat.le_of_ble_eq_true rfl)) ?_
  refine lf (a_aload_n dX8_init_4 rfl) ?_
  refine lf (a_bipush (40 : Int32) dX8_init_5 (by decide)) ?_
  refine lf (a_newI (c9 := 40) (len := 40) (t := 20) (aty := .int) (ty := .int) (b' := (2, 24)) dX8_init_7 rfl acw_int ⟨rfl, by decide, by decide, by decide⟩ rfl (by decide) (by decide) (by rw [hB.1]; exact (km_lt q1.2.2.1).trans q1.1) ((al_lt (by rw [hB.1]; exact q1.2.2.1)).trans (by rw [hB.1]; exact q1.2.1)) (by have := q1.2.2.1; rw [hB.1]; omega) rfl) ?_
  rw [hB.1]
  have hB : Bu μ (334) (336) _ _ _ := bu_mk hB (fun k => (cl2_ne (by omega) k).trans (q1.2.2.2 k)) (fun k => rfl) (by omega) 40
  revert hB
  generalize mk μ 40 = W1
  intro hB
  refine lf (a_putRF dX8_init_9 fs_X8_9 rfl rfl rfl hc_X8 (hB.ob (by omega) hk0)) ?_
  have hB := bu_sR hB (by omega) 0 (some (335))
  revert hB
  generalize sR W1 334 0 (some 335) = W2
  intro hB
  refine lf (a_aload_n dX8_init_12 rfl) ?_
  refine lf (a_bipush (12 : Int32) dX8_init_13 (by decide)) ?_
  refine lf (a_newI (c9 := 12) (len := 12) (t := 20) (aty := .int) (ty := .int) (b' := (1, 12)) dX8_init_15 rfl acw_int ⟨rfl, by decide, by decide, by decide⟩ rfl (by decide) (by decide) (by rw [hB.1]; exact (km_lt q2.2.2.1).trans q2.1) ((al_lt (by rw [hB.1]; exact q2.2.2.1)).trans (by rw [hB.1]; exact q2.2.1)) (by have := q2.2.2.1; rw [hB.1]; omega) rfl) ?_
  rw [hB.1]
  have hB : Bu μ (334) (337) _ _ _ := bu_mk hB (fun k => (cl2_ne (by omega) k).trans (q2.2.2.2 k)) (fun k => rfl) (by omega) 12
  revert hB
  generalize mk W2 12 = W3
  intro hB
  refine lf (a_putRF dX8_init_17 fs_X8_15 rfl rfl rfl hc_X8 (hB.ob (by omega) hk0)) ?_
  have hB := bu_sR hB (by omega) 1 (some (336))
  revert hB
  generalize sR W3 334 1 (some 336) = W4
  intro hB
  refine lf (a_aload_n dX8_init_20 rfl) ?_
  refine lf (a_bipush (12 : Int32) dX8_init_21 (by decide)) ?_
  refine lf (a_newI (c9 := 12) (len := 12) (t := 20) (aty := .int) (ty := .int) (b' := (0, 0)) dX8_init_23 rfl acw_int ⟨rfl, by decide, by decide, by decide⟩ rfl (by decide) (by decide) (by rw [hB.1]; exact (km_lt q3.2.2.1).trans q3.1) ((al_lt (by rw [hB.1]; exact q3.2.2.1)).trans (by rw [hB.1]; exact q3.2.1)) (by have := q3.2.2.1; rw [hB.1]; omega) rfl) ?_
  rw [hB.1]
  have hB : Bu μ (334) (338) _ _ _ := bu_mk hB (fun k => (cl2_ne (by omega) k).trans (q3.2.2.2 k)) (fun k => rfl) (by omega) 12
  revert hB
  generalize mk W4 12 = W5
  intro hB
  refine lf (a_putRF dX8_init_25 fs_X8_18 rfl rfl rfl hc_X8 (hB.ob (by omega) hk0)) ?_
  have hB := bu_sR hB (by omega) 2 (some (337))
  revert hB
  generalize sR W5 334 2 (some 337) = W6
  intro hB
  refine ⟨_, _, a_return dX8_init_28 rfl, ?_⟩
  exact ⟨_, rfl, rfl, hB.congr (fun i _ _ k => cl2_closeA (by
      have h : ∀ k, k < 39 → (upF (upF (upF (fun _ => none) 0 (some (335))) 1 (some (336))) 2 (some (337))) k = r1 334 k := by decide +kernel
      exact h) (fun k hk => by simp only [upF]; rw [if_neg (by omega)]; rw [if_neg (by omega)]; rw [if_neg (by omega)]) i k)⟩
abbrev RC_X3_init : Room := { frames := 3, cells := 205, slots := 3144, locals := 64 }
set_option maxHeartbeats 40000000 in
theorem i_X3_init {μ : Wd} (h : Nu μ 82) : CV Y_X3_init RC_X3_init [.ref 82, .ref 3] μ (fun v V => v = none ∧ Bu μ 82 288 r1 zJ V) := by
  have hk0 : kt 82 = 4 := kt_ob (by decide +kernel)
  have q1 : kOQ 83 27 12 := kOQ.of (by decide +kernel)
  have k2 : kt 84 = 2 := kt_ob (by decide +kernel)
  have k2b : 84 < 339 := by decide
  have k19 : kt 101 = 2 := kt_ob (by decide +kernel)
  have k19b : 101 < 339 := by decide
  have k36 : kt 118 = 2 := kt_ob (by decide +kernel)
  have k36b : 118 < 339 := by decide
  have k53 : kt 135 = 2 := kt_ob (by decide +kernel)
  have k53b : 135 < 339 := by decide
  have k70 : kt 152 = 2 := kt_ob (by decide +kernel)
  have k70b : 152 < 339 := by decide
  have k87 : kt 169 = 2 := kt_ob (by decide +kernel)
  have k87b : 169 < 339 := by decide
  have k104 : kt 186 = 2 := kt_ob (by decide +kernel)
  have k104b : 186 < 339 := by decide
  have k121 : kt 203 = 2 := kt_ob (by decide +kernel)
  have k121b : 203 < 339 := by decide
  have k138 : kt 220 = 2 := kt_ob (by decide +kernel)
  have k138b : 220 < 339 := by decide
  have k155 : kt 237 = 2 := kt_ob (by decide +kernel)
  have k155b : 237 < 339 := by decide
  have k172 : kt 254 = 2 := kt_ob (by decide +kernel)
  have k172b : 254 < 339 := by decide
  have k189 : kt 271 = 2 := kt_ob (by decide +kernel)
  have k189b : 271 < 339 := by decide
  have hB := Nu.bu h
  refine CV.ent yk_X3_init (Nat.le_of_ble_eq_true rfl) ?_
  refine lf (a_aload_n dX3_init_0 rfl) ?_
  refine lf (a_objI dX3_init_1 oi_MealLoader_History (by decide) (by decide) (Nat.le_of_ble_eq_true rfl)) ?_
  refine lf (a_aload_n dX3_init_4 rfl) ?_
  refine lf (a_bipush (12 : Int32) dX3_init_5 (by decide)) ?_
  refine lf (a_newQ (c9 := 12) (len := 12) (t := 27) (K := RX1) (b' := (204, 3132)) dX3_init_7 cx_X3_9 (List.mem_cons_of_mem _ (List.mem_cons_of_mem _ List.mem_cons_self)) ⟨rfl, by decide, by decide⟩ (by decide) (by rw [hB.1]; exact (km_lt q1.2.2.1).trans q1.1) ((al_lt (by rw [hB.1]; exact q1.2.2.1)).trans (by rw [hB.1]; exact q1.2.1)) (by have := q1.2.2.1; rw [hB.1]; omega) rfl) ?_
  rw [hB.1]
  have hB : Bu μ (82) (84) _ _ _ := bu_mkO hB (fun k => rfl) (by omega) 12
  revert hB
  generalize mk μ 12 = W1
  intro hB
  refine lf (a_putRF dX3_init_10 fs_X3_11 rfl rfl rfl hc_X3 (hB.ob (by omega) hk0)) ?_
  have hB := bu_sR2 hB (by omega) (by omega) 0 (some (83))
  revert hB
  generalize sR W1 82 0 (some 83) = W2
  intro hB
  refine lf (a_iconst (0 : Int32) dX3_init_13 (by decide)) ?_
  refine lf (a_istore_n dX3_init_14 (by decide)) ?_
  refine lf (a_loc [(0, .ref 82), (1, .ref 3), (2, .int (nI 0))] rfl) ?_
  refine lf (a_iload_n dX3_init_15 rfl) ?_
  refine lf (a_bipush (12 : Int32) dX3_init_16 (by decide)) ?_
  refine lf2 (a_icmp_ge (tgt := 41) dX3_init_18 (by decide)) (fun h => absurd h (by decide)) (fun h => ?_)
  refine lf (a_aload_n dX3_init_21 rfl) ?_
  refine lf (a_getR ((hB.2.2.2 (82) (by omega) (by omega) 0).2.2.trans ((cl2_ne (by omega) 0).trans ((cl2_at 0).trans rfl)) : gR W2 (82) 0 = some (83)) dX3_init_22 fs_X3_11 rfl (hB.ob (by omega) hk0)) ?_
  refine lf (a_iload_n dX3_init_25 rfl) ?_
  refine lf (a_new (c9 := 0) (b' := (203, 3119)) dX3_init_26 cls_X1 cx_X3_9 in_X1 ini_RX1 (fun j hj => by rcases (by omega : j = 0 ∨ j = 1 ∨ j = 2 ∨ j = 3 ∨ j = 4 ∨ j = 5 ∨ j = 6 ∨ j = 7 ∨ j = 8 ∨ j = 9 ∨ j = 10 ∨ j = 11 ∨ j = 12) with e | e | e | e | e | e | e | e | e | e | e | e | e <;> subst e <;> rfl) (by rw [hB.1]; exact km_k k2 (by decide)) (by have := k2b; rw [hB.1]; omega) rfl) ?_
  rw [hB.1]
  refine lf (a_dup dX3_init_29 rfl) ?_
  refine lf (a_aload_n dX3_init_30 rfl) ?_
  obtain ⟨v31, V31, c31, rfl, g31⟩ := i_X1_init (nu_mk hB.1) (show Fl 84 from by unfold Fl; decide)
  refine lf (a_invI (b2 := (187, 2871)) c31 rfl dX3_init_31 yk_X1_init rfl rfl im_X1_init ml_X3_17 rfl (by decide) ⟨Nat.le_of_ble_eq_true rfl, Nat.le_of_ble_eq_true rfl⟩ (Nat.le_of_ble_eq_true rfl)) ?_
  have hB : Bu μ (82) (101) _ _ _ := bu_sub hB (by omega) g31 (fun i h1 h2 k => ((cl2_ne (by omega) k).trans (cl2_ne (by omega) k))) (fun i h1 h2 k => rfl)
  refine lf (a_aast (t := 27) (n := 12) (ci := 2) dX3_init_34 (hB.ar (by omega) q1.2.2.1 q1.1 q1.2.1) ⟨by decide, by decide⟩ (ixn (m := 0) (by decide) (by decide)) (hB.ob (by omega) k2) (by decide) (fun r hr => by rw [hc_X1 r hr]; rfl)) ?_
  have hB := bu_sR hB (by omega) 0 (some (84))
  revert hB
  generalize sR V31 (83) 0 (some (84)) = W3
  intro hB
  refine lf (a_iincN dX3_init_35 rfl (by decide)) ?_
  refine lf (a_goto (tgt := 15) dX3_init_38 (by decide)) ?_
  refine lf (a_loc [(0, .ref 82), (1, .ref 3), (2, .int (nI 1))] rfl) ?_
  refine lf (a_iload_n dX3_init_15 rfl) ?_
  refine lf (a_bipush (12 : Int32) dX3_init_16 (by decide)) ?_
  refine lf2 (a_icmp_ge (tgt := 41) dX3_init_18 (by decide)) (fun h => absurd h (by decide)) (fun h => ?_)
  refine lf (a_aload_n dX3_init_21 rfl) ?_
  refine lf (a_getR ((hB.2.2.2 (82) (by omega) (by omega) 0).2.2.trans ((cl2_ne (by omega) 0).trans ((cl2_at 0).trans rfl)) : gR W3 (82) 0 = some (83)) dX3_init_22 fs_X3_11 rfl (hB.ob (by omega) hk0)) ?_
  refine lf (a_iload_n dX3_init_25 rfl) ?_
  refine lf (a_new (c9 := 0) (b' := (186, 2858)) dX3_init_26 cls_X1 cx_X3_9 in_X1 ini_RX1 (fun j hj => by rcases (by omega : j = 0 ∨ j = 1 ∨ j = 2 ∨ j = 3 ∨ j = 4 ∨ j = 5 ∨ j = 6 ∨ j = 7 ∨ j = 8 ∨ j = 9 ∨ j = 10 ∨ j = 11 ∨ j = 12) with e | e | e | e | e | e | e | e | e | e | e | e | e <;> subst e <;> rfl) (by rw [hB.1]; exact km_k k19 (by decide)) (by have := k19b; rw [hB.1]; omega) rfl) ?_
  rw [hB.1]
  refine lf (a_dup dX3_init_29 rfl) ?_
  refine lf (a_aload_n dX3_init_30 rfl) ?_
  obtain ⟨v31, V31, c31, rfl, g31⟩ := i_X1_init (nu_mk hB.1) (show Fl 101 from by unfold Fl; decide)
  refine lf (a_invI (b2 := (170, 2610)) c31 rfl dX3_init_31 yk_X1_init rfl rfl im_X1_init ml_X3_17 rfl (by decide) ⟨Nat.le_of_ble_eq_true rfl, Nat.le_of_ble_eq_true rfl⟩ (Nat.le_of_ble_eq_true rfl)) ?_
  have hB : Bu μ (82) (118) _ _ _ := bu_sub hB (by omega) g31 (fun i h1 h2 k => ((cl2_ne (by omega) k).trans (cl2_ne (by omega) k))) (fun i h1 h2 k => rfl)
  refine lf (a_aast (t := 27) (n := 12) (ci := 2) dX3_init_34 (hB.ar (by omega) q1.2.2.1 q1.1 q1.2.1) ⟨by decide, by decide⟩ (ixn (m := 1) (by decide) (by decide)) (hB.ob (by omega) k19) (by decide) (fun r hr => by rw [hc_X1 r hr]; rfl)) ?_
  have hB := bu_sR hB (by omega) 1 (some (101))
  revert hB
  generalize sR V31 (83) 1 (some (101)) = W4
  intro hB
  refine lf (a_iincN dX3_init_35 rfl (by decide)) ?_
  refine lf (a_goto (tgt := 15) dX3_init_38 (by decide)) ?_
  refine lf (a_loc [(0, .ref 82), (1, .ref 3), (2, .int (nI 2))] rfl) ?_
  refine lf (a_iload_n dX3_init_15 rfl) ?_
  refine lf (a_bipush (12 : Int32) dX3_init_16 (by decide)) ?_
  refine lf2 (a_icmp_ge (tgt := 41) dX3_init_18 (by decide)) (fun h => absurd h (by decide)) (fun h => ?_)
  refine lf (a_aload_n dX3_init_21 rfl) ?_
  refine lf (a_getR ((hB.2.2.2 (82) (by omega) (by omega) 0).2.2.trans ((cl2_ne (by omega) 0).trans ((cl2_at 0).trans rfl)) : gR W4 (82) 0 = some (83)) dX3_init_22 fs_X3_11 rfl (hB.ob (by omega) hk0)) ?_
  refine lf (a_iload_n dX3_init_25 rfl) ?_
  refine lf (a_new (c9 := 0) (b' := (169, 2597)) dX3_init_26 cls_X1 cx_X3_9 in_X1 ini_RX1 (fun j hj => by rcases (by omega : j = 0 ∨ j = 1 ∨ j = 2 ∨ j = 3 ∨ j = 4 ∨ j = 5 ∨ j = 6 ∨ j = 7 ∨ j = 8 ∨ j = 9 ∨ j = 10 ∨ j = 11 ∨ j = 12) with e | e | e | e | e | e | e | e | e | e | e | e | e <;> subst e <;> rfl) (by rw [hB.1]; exact km_k k36 (by decide)) (by have := k36b; rw [hB.1]; omega) rfl) ?_
  rw [hB.1]
  refine lf (a_dup dX3_init_29 rfl) ?_
  refine lf (a_aload_n dX3_init_30 rfl) ?_
  obtain ⟨v31, V31, c31, rfl, g31⟩ := i_X1_init (nu_mk hB.1) (show Fl 118 from by unfold Fl; decide)
  refine lf (a_invI (b2 := (153, 2349)) c31 rfl dX3_init_31 yk_X1_init rfl rfl im_X1_init ml_X3_17 rfl (by decide) ⟨Nat.le_of_ble_eq_true rfl, Nat.le_of_ble_eq_true rfl⟩ (Nat.le_of_ble_eq_true rfl)) ?_
  have hB : Bu μ (82) (135) _ _ _ := bu_sub hB (by omega) g31 (fun i h1 h2 k => ((cl2_ne (by omega) k).trans (cl2_ne (by omega) k))) (fun i h1 h2 k => rfl)
  refine lf (a_aast (t := 27) (n := 12) (ci := 2) dX3_init_34 (hB.ar (by omega) q1.2.2.1 q1.1 q1.2.1) ⟨by decide, by decide⟩ (ixn (m := 2) (by decide) (by decide)) (hB.ob (by omega) k36) (by decide) (fun r hr => by rw [hc_X1 r hr]; rfl)) ?_
  have hB := bu_sR hB (by omega) 2 (some (118))
  revert hB
  generalize sR V31 (83) 2 (some (118)) = W5
  intro hB
  refine lf (a_iincN dX3_init_35 rfl (by decide)) ?_
  refine lf (a_goto (tgt := 15) dX3_init_38 (by decide)) ?_
  refine lf (a_loc [(0, .ref 82), (1, .ref 3), (2, .int (nI 3))] rfl) ?_
  refine lf (a_iload_n dX3_init_15 rfl) ?_
  refine lf (a_bipush (12 : Int32) dX3_init_16 (by decide)) ?_
  refine lf2 (a_icmp_ge (tgt := 41) dX3_init_18 (by decide)) (fun h => absurd h (by decide)) (fun h => ?_)
  refine lf (a_aload_n dX3_init_21 rfl) ?_
  refine lf (a_getR ((hB.2.2.2 (82) (by omega) (by omega) 0).2.2.trans ((cl2_ne (by omega) 0).trans ((cl2_at 0).trans rfl)) : gR W5 (82) 0 = some (83)) dX3_init_22 fs_X3_11 rfl (hB.ob (by omega) hk0)) ?_
  refine lf (a_iload_n dX3_init_25 rfl) ?_
  refine lf (a_new (c9 := 0) (b' := (152, 2336)) dX3_init_26 cls_X1 cx_X3_9 in_X1 ini_RX1 (fun j hj => by rcases (by omega : j = 0 ∨ j = 1 ∨ j = 2 ∨ j = 3 ∨ j = 4 ∨ j = 5 ∨ j = 6 ∨ j = 7 ∨ j = 8 ∨ j = 9 ∨ j = 10 ∨ j = 11 ∨ j = 12) with e | e | e | e | e | e | e | e | e | e | e | e | e <;> subst e <;> rfl) (by rw [hB.1]; exact km_k k53 (by decide)) (by have := k53b; rw [hB.1]; omega) rfl) ?_
  rw [hB.1]
  refine lf (a_dup dX3_init_29 rfl) ?_
  refine lf (a_aload_n dX3_init_30 rfl) ?_
  obtain ⟨v31, V31, c31, rfl, g31⟩ := i_X1_init (nu_mk hB.1) (show Fl 135 from by unfold Fl; decide)
  refine lf (a_invI (b2 := (136, 2088)) c31 rfl dX3_init_31 yk_X1_init rfl rfl im_X1_init ml_X3_17 rfl (by decide) ⟨Nat.le_of_ble_eq_true rfl, Nat.le_of_ble_eq_true rfl⟩ (Nat.le_of_ble_eq_true rfl)) ?_
  have hB : Bu μ (82) (152) _ _ _ := bu_sub hB (by omega) g31 (fun i h1 h2 k => ((cl2_ne (by omega) k).trans (cl2_ne (by omega) k))) (fun i h1 h2 k => rfl)
  refine lf (a_aast (t := 27) (n := 12) (ci := 2) dX3_init_34 (hB.ar (by omega) q1.2.2.1 q1.1 q1.2.1) ⟨by decide, by decide⟩ (ixn (m := 3) (by decide) (by decide)) (hB.ob (by omega) k53) (by decide) (fun r hr => by rw [hc_X1 r hr]; rfl)) ?_
  have hB := bu_sR hB (by omega) 3 (some (135))
  revert hB
  generalize sR V31 (83) 3 (some (135)) = W6
  intro hB
  refine lf (a_iincN dX3_init_35 rfl (by decide)) ?_
  refine lf (a_goto (tgt := 15) dX3_init_38 (by decide)) ?_
  refine lf (a_loc [(0, .ref 82), (1, .ref 3), (2, .int (nI 4))] rfl) ?_
  refine lf (a_iload_n dX3_init_15 rfl) ?_
  refine lf (a_bipush (12 : Int32) dX3_init_16 (by decide)) ?_
  refine lf2 (a_icmp_ge (tgt := 41) dX3_init_18 (by decide)) (fun h => absurd h (by decide)) (fun h => ?_)
  refine lf (a_aload_n dX3_init_21 rfl) ?_
  refine lf (a_getR ((hB.2.2.2 (82) (by omega) (by omega) 0).2.2.trans ((cl2_ne (by omega) 0).trans ((cl2_at 0).trans rfl)) : gR W6 (82) 0 = some (83)) dX3_init_22 fs_X3_11 rfl (hB.ob (by omega) hk0)) ?_
  refine lf (a_iload_n dX3_init_25 rfl) ?_
  refine lf (a_new (c9 := 0) (b' := (135, 2075)) dX3_init_26 cls_X1 cx_X3_9 in_X1 ini_RX1 (fun j hj => by rcases (by omega : j = 0 ∨ j = 1 ∨ j = 2 ∨ j = 3 ∨ j = 4 ∨ j = 5 ∨ j = 6 ∨ j = 7 ∨ j = 8 ∨ j = 9 ∨ j = 10 ∨ j = 11 ∨ j = 12) with e | e | e | e | e | e | e | e | e | e | e | e | e <;> subst e <;> rfl) (by rw [hB.1]; exact km_k k70 (by decide)) (by have := k70b; rw [hB.1]; omega) rfl) ?_
  rw [hB.1]
  refine lf (a_dup dX3_init_29 rfl) ?_
  refine lf (a_aload_n dX3_init_30 rfl) ?_
  obtain ⟨v31, V31, c31, rfl, g31⟩ := i_X1_init (nu_mk hB.1) (show Fl 152 from by unfold Fl; decide)
  refine lf (a_invI (b2 := (119, 1827)) c31 rfl dX3_init_31 yk_X1_init rfl rfl im_X1_init ml_X3_17 rfl (by decide) ⟨Nat.le_of_ble_eq_true rfl, Nat.le_of_ble_eq_true rfl⟩ (Nat.le_of_ble_eq_true rfl)) ?_
  have hB : Bu μ (82) (169) _ _ _ := bu_sub hB (by omega) g31 (fun i h1 h2 k => ((cl2_ne (by omega) k).trans (cl2_ne (by omega) k))) (fun i h1 h2 k => rfl)
  refine lf (a_aast (t := 27) (n := 12) (ci := 2) dX3_init_34 (hB.ar (by omega) q1.2.2.1 q1.1 q1.2.1) ⟨by decide, by decide⟩ (ixn (m := 4) (by decide) (by decide)) (hB.ob (by omega) k70) (by decide) (fun r hr => by rw [hc_X1 r hr]; rfl)) ?_
  have hB := bu_sR hB (by omega) 4 (some (152))
  revert hB
  generalize sR V31 (83) 4 (some (152)) = W7
  intro hB
  refine lf (a_iincN dX3_init_35 rfl (by decide)) ?_
  refine lf (a_goto (tgt := 15) dX3_init_38 (by decide)) ?_
  refine lf (a_loc [(0, .ref 82), (1, .ref 3), (2, .int (nI 5))] rfl) ?_
  refine lf (a_iload_n dX3_init_15 rfl) ?_
  refine lf (a_bipush (12 : Int32) dX3_init_16 (by decide)) ?_
  refine lf2 (a_icmp_ge (tgt := 41) dX3_init_18 (by decide)) (fun h => absurd h (by decide)) (fun h => ?_)
  refine lf (a_aload_n dX3_init_21 rfl) ?_
  refine lf (a_getR ((hB.2.2.2 (82) (by omega) (by omega) 0).2.2.trans ((cl2_ne (by omega) 0).trans ((cl2_at 0).trans rfl)) : gR W7 (82) 0 = some (83)) dX3_init_22 fs_X3_11 rfl (hB.ob (by omega) hk0)) ?_
  refine lf (a_iload_n dX3_init_25 rfl) ?_
  refine lf (a_new (c9 := 0) (b' := (118, 1814)) dX3_init_26 cls_X1 cx_X3_9 in_X1 ini_RX1 (fun j hj => by rcases (by omega : j = 0 ∨ j = 1 ∨ j = 2 ∨ j = 3 ∨ j = 4 ∨ j = 5 ∨ j = 6 ∨ j = 7 ∨ j = 8 ∨ j = 9 ∨ j = 10 ∨ j = 11 ∨ j = 12) with e | e | e | e | e | e | e | e | e | e | e | e | e <;> subst e <;> rfl) (by rw [hB.1]; exact km_k k87 (by decide)) (by have := k87b; rw [hB.1]; omega) rfl) ?_
  rw [hB.1]
  refine lf (a_dup dX3_init_29 rfl) ?_
  refine lf (a_aload_n dX3_init_30 rfl) ?_
  obtain ⟨v31, V31, c31, rfl, g31⟩ := i_X1_init (nu_mk hB.1) (show Fl 169 from by unfold Fl; decide)
  refine lf (a_invI (b2 := (102, 1566)) c31 rfl dX3_init_31 yk_X1_init rfl rfl im_X1_init ml_X3_17 rfl (by decide) ⟨Nat.le_of_ble_eq_true rfl, Nat.le_of_ble_eq_true rfl⟩ (Nat.le_of_ble_eq_true rfl)) ?_
  have hB : Bu μ (82) (186) _ _ _ := bu_sub hB (by omega) g31 (fun i h1 h2 k => ((cl2_ne (by omega) k).trans (cl2_ne (by omega) k))) (fun i h1 h2 k => rfl)
  refine lf (a_aast (t := 27) (n := 12) (ci := 2) dX3_init_34 (hB.ar (by omega) q1.2.2.1 q1.1 q1.2.1) ⟨by decide, by decide⟩ (ixn (m := 5) (by decide) (by decide)) (hB.ob (by omega) k87) (by decide) (fun r hr => by rw [hc_X1 r hr]; rfl)) ?_
  have hB := bu_sR hB (by omega) 5 (some (169))
  revert hB
  generalize sR V31 (83) 5 (some (169)) = W8
  intro hB
  refine lf (a_iincN dX3_init_35 rfl (by decide)) ?_
  refine lf (a_goto (tgt := 15) dX3_init_38 (by decide)) ?_
  refine lf (a_loc [(0, .ref 82), (1, .ref 3), (2, .int (nI 6))] rfl) ?_
  refine lf (a_iload_n dX3_init_15 rfl) ?_
  refine lf (a_bipush (12 : Int32) dX3_init_16 (by decide)) ?_
  refine lf2 (a_icmp_ge (tgt := 41) dX3_init_18 (by decide)) (fun h => absurd h (by decide)) (fun h => ?_)
  refine lf (a_aload_n dX3_init_21 rfl) ?_
  refine lf (a_getR ((hB.2.2.2 (82) (by omega) (by omega) 0).2.2.trans ((cl2_ne (by omega) 0).trans ((cl2_at 0).trans rfl)) : gR W8 (82) 0 = some (83)) dX3_init_22 fs_X3_11 rfl (hB.ob (by omega) hk0)) ?_
  refine lf (a_iload_n dX3_init_25 rfl) ?_
  refine lf (a_new (c9 := 0) (b' := (101, 1553)) dX3_init_26 cls_X1 cx_X3_9 in_X1 ini_RX1 (fun j hj => by rcases (by omega : j = 0 ∨ j = 1 ∨ j = 2 ∨ j = 3 ∨ j = 4 ∨ j = 5 ∨ j = 6 ∨ j = 7 ∨ j = 8 ∨ j = 9 ∨ j = 10 ∨ j = 11 ∨ j = 12) with e | e | e | e | e | e | e | e | e | e | e | e | e <;> subst e <;> rfl) (by rw [hB.1]; exact km_k k104 (by decide)) (by have := k104b; rw [hB.1]; omega) rfl) ?_
  rw [hB.1]
  refine lf (a_dup dX3_init_29 rfl) ?_
  refine lf (a_aload_n dX3_init_30 rfl) ?_
  obtain ⟨v31, V31, c31, rfl, g31⟩ := i_X1_init (nu_mk hB.1) (show Fl 186 from by unfold Fl; decide)
  refine lf (a_invI (b2 := (85, 1305)) c31 rfl dX3_init_31 yk_X1_init rfl rfl im_X1_init ml_X3_17 rfl (by decide) ⟨Nat.le_of_ble_eq_true rfl, Nat.le_of_ble_eq_true rfl⟩ (Nat.le_of_ble_eq_true rfl)) ?_
  have hB : Bu μ (82) (203) _ _ _ := bu_sub hB (by omega) g31 (fun i h1 h2 k => ((cl2_ne (by omega) k).trans (cl2_ne (by omega) k))) (fun i h1 h2 k => rfl)
  refine lf (a_aast (t := 27) (n := 12) (ci := 2) dX3_init_34 (hB.ar (by omega) q1.2.2.1 q1.1 q1.2.1) ⟨by decide, by decide⟩ (ixn (m := 6) (by decide) (by decide)) (hB.ob (by omega) k104) (by decide) (fun r hr => by rw [hc_X1 r hr]; rfl)) ?_
  have hB := bu_sR hB (by omega) 6 (some (186))
  revert hB
  generalize sR V31 (83) 6 (some (186)) = W9
  intro hB
  refine lf (a_iincN dX3_init_35 rfl (by decide)) ?_
  refine lf (a_goto (tgt := 15) dX3_init_38 (by decide)) ?_
  refine lf (a_loc [(0, .ref 82), (1, .ref 3), (2, .int (nI 7))] rfl) ?_
  refine lf (a_iload_n dX3_init_15 rfl) ?_
  refine lf (a_bipush (12 : Int32) dX3_init_16 (by decide)) ?_
  refine lf2 (a_icmp_ge (tgt := 41) dX3_init_18 (by decide)) (fun h => absurd h (by decide)) (fun h => ?_)
  refine lf (a_aload_n dX3_init_21 rfl) ?_
  refine lf (a_getR ((hB.2.2.2 (82) (by omega) (by omega) 0).2.2.trans ((cl2_ne (by omega) 0).trans ((cl2_at 0).trans rfl)) : gR W9 (82) 0 = some (83)) dX3_init_22 fs_X3_11 rfl (hB.ob (by omega) hk0)) ?_
  refine lf (a_iload_n dX3_init_25 rfl) ?_
  refine lf (a_new (c9 := 0) (b' := (84, 1292)) dX3_init_26 cls_X1 cx_X3_9 in_X1 ini_RX1 (fun j hj => by rcases (by omega : j = 0 ∨ j = 1 ∨ j = 2 ∨ j = 3 ∨ j = 4 ∨ j = 5 ∨ j = 6 ∨ j = 7 ∨ j = 8 ∨ j = 9 ∨ j = 10 ∨ j = 11 ∨ j = 12) with e | e | e | e | e | e | e | e | e | e | e | e | e <;> subst e <;> rfl) (by rw [hB.1]; exact km_k k121 (by decide)) (by have := k121b; rw [hB.1]; omega) rfl) ?_
  rw [hB.1]
  refine lf (a_dup dX3_init_29 rfl) ?_
  refine lf (a_aload_n dX3_init_30 rfl) ?_
  obtain ⟨v31, V31, c31, rfl, g31⟩ := i_X1_init (nu_mk hB.1) (show Fl 203 from by unfold Fl; decide)
  refine lf (a_invI (b2 := (68, 1044)) c31 rfl dX3_init_31 yk_X1_init rfl rfl im_X1_init ml_X3_17 rfl (by decide) ⟨Nat.le_of_ble_eq_true rfl, Nat.le_of_ble_eq_true rfl⟩ (Nat.le_of_ble_eq_true rfl)) ?_
  have hB : Bu μ (82) (220) _ _ _ := bu_sub hB (by omega) g31 (fun i h1 h2 k => ((cl2_ne (by omega) k).trans (cl2_ne (by omega) k))) (fun i h1 h2 k => rfl)
  refine lf (a_aast (t := 27) (n := 12) (ci := 2) dX3_init_34 (hB.ar (by omega) q1.2.2.1 q1.1 q1.2.1) ⟨by decide, by decide⟩ (ixn (m := 7) (by decide) (by decide)) (hB.ob (by omega) k121) (by decide) (fun r hr => by rw [hc_X1 r hr]; rfl)) ?_
  have hB := bu_sR hB (by omega) 7 (some (203))
  revert hB
  generalize sR V31 (83) 7 (some (203)) = W10
  intro hB
  refine lf (a_iincN dX3_init_35 rfl (by decide)) ?_
  refine lf (a_goto (tgt := 15) dX3_init_38 (by decide)) ?_
  refine lf (a_loc [(0, .ref 82), (1, .ref 3), (2, .int (nI 8))] rfl) ?_
  refine lf (a_iload_n dX3_init_15 rfl) ?_
  refine lf (a_bipush (12 : Int32) dX3_init_16 (by decide)) ?_
  refine lf2 (a_icmp_ge (tgt := 41) dX3_init_18 (by decide)) (fun h => absurd h (by decide)) (fun h => ?_)
  refine lf (a_aload_n dX3_init_21 rfl) ?_
  refine lf (a_getR ((hB.2.2.2 (82) (by omega) (by omega) 0).2.2.trans ((cl2_ne (by omega) 0).trans ((cl2_at 0).trans rfl)) : gR W10 (82) 0 = some (83)) dX3_init_22 fs_X3_11 rfl (hB.ob (by omega) hk0)) ?_
  refine lf (a_iload_n dX3_init_25 rfl) ?_
  refine lf (a_new (c9 := 0) (b' := (67, 1031)) dX3_init_26 cls_X1 cx_X3_9 in_X1 ini_RX1 (fun j hj => by rcases (by omega : j = 0 ∨ j = 1 ∨ j = 2 ∨ j = 3 ∨ j = 4 ∨ j = 5 ∨ j = 6 ∨ j = 7 ∨ j = 8 ∨ j = 9 ∨ j = 10 ∨ j = 11 ∨ j = 12) with e | e | e | e | e | e | e | e | e | e | e | e | e <;> subst e <;> rfl) (by rw [hB.1]; exact km_k k138 (by decide)) (by have := k138b; rw [hB.1]; omega) rfl) ?_
  rw [hB.1]
  refine lf (a_dup dX3_init_29 rfl) ?_
  refine lf (a_aload_n dX3_init_30 rfl) ?_
  obtain ⟨v31, V31, c31, rfl, g31⟩ := i_X1_init (nu_mk hB.1) (show Fl 220 from by unfold Fl; decide)
  refine lf (a_invI (b2 := (51, 783)) c31 rfl dX3_init_31 yk_X1_init rfl rfl im_X1_init ml_X3_17 rfl (by decide) ⟨Nat.le_of_ble_eq_true rfl, Nat.le_of_ble_eq_true rfl⟩ (Nat.le_of_ble_eq_true rfl)) ?_
  have hB : Bu μ (82) (237) _ _ _ := bu_sub hB (by omega) g31 (fun i h1 h2 k => ((cl2_ne (by omega) k).trans (cl2_ne (by omega) k))) (fun i h1 h2 k => rfl)
  refine lf (a_aast (t := 27) (n := 12) (ci := 2) dX3_init_34 (hB.ar (by omega) q1.2.2.1 q1.1 q1.2.1) ⟨by decide, by decide⟩ (ixn (m := 8) (by decide) (by decide)) (hB.ob (by omega) k138) (by decide) (fun r hr => by rw [hc_X1 r hr]; rfl)) ?_
  have hB := bu_sR hB (by omega) 8 (some (220))
  revert hB
  generalize sR V31 (83) 8 (some (220)) = W11
  intro hB
  refine lf (a_iincN dX3_init_35 rfl (by decide)) ?_
  refine lf (a_goto (tgt := 15) dX3_init_38 (by decide)) ?_
  refine lf (a_loc [(0, .ref 82), (1, .ref 3), (2, .int (nI 9))] rfl) ?_
  refine lf (a_iload_n dX3_init_15 rfl) ?_
  refine lf (a_bipush (12 : Int32) dX3_init_16 (by decide)) ?_
  refine lf2 (a_icmp_ge (tgt := 41) dX3_init_18 (by decide)) (fun h => absurd h (by decide)) (fun h => ?_)
  refine lf (a_aload_n dX3_init_21 rfl) ?_
  refine lf (a_getR ((hB.2.2.2 (82) (by omega) (by omega) 0).2.2.trans ((cl2_ne (by omega) 0).trans ((cl2_at 0).trans rfl)) : gR W11 (82) 0 = some (83)) dX3_init_22 fs_X3_11 rfl (hB.ob (by omega) hk0)) ?_
  refine lf (a_iload_n dX3_init_25 rfl) ?_
  refine lf (a_new (c9 := 0) (b' := (50, 770)) dX3_init_26 cls_X1 cx_X3_9 in_X1 ini_RX1 (fun j hj => by rcases (by omega : j = 0 ∨ j = 1 ∨ j = 2 ∨ j = 3 ∨ j = 4 ∨ j = 5 ∨ j = 6 ∨ j = 7 ∨ j = 8 ∨ j = 9 ∨ j = 10 ∨ j = 11 ∨ j = 12) with e | e | e | e | e | e | e | e | e | e | e | e | e <;> subst e <;> rfl) (by rw [hB.1]; exact km_k k155 (by decide)) (by have := k155b; rw [hB.1]; omega) rfl) ?_
  rw [hB.1]
  refine lf (a_dup dX3_init_29 rfl) ?_
  refine lf (a_aload_n dX3_init_30 rfl) ?_
  obtain ⟨v31, V31, c31, rfl, g31⟩ := i_X1_init (nu_mk hB.1) (show Fl 237 from by unfold Fl; decide)
  refine lf (a_invI (b2 := (34, 522)) c31 rfl dX3_init_31 yk_X1_init rfl rfl im_X1_init ml_X3_17 rfl (by decide) ⟨Nat.le_of_ble_eq_true rfl, Nat.le_of_ble_eq_true rfl⟩ (Nat.le_of_ble_eq_true rfl)) ?_
  have hB : Bu μ (82) (254) _ _ _ := bu_sub hB (by omega) g31 (fun i h1 h2 k => ((cl2_ne (by omega) k).trans (cl2_ne (by omega) k))) (fun i h1 h2 k => rfl)
  refine lf (a_aast (t := 27) (n := 12) (ci := 2) dX3_init_34 (hB.ar (by omega) q1.2.2.1 q1.1 q1.2.1) ⟨by decide, by decide⟩ (ixn (m := 9) (by decide) (by decide)) (hB.ob (by omega) k155) (by decide) (fun r hr => by rw [hc_X1 r hr]; rfl)) ?_
  have hB := bu_sR hB (by omega) 9 (some (237))
  revert hB
  generalize sR V31 (83) 9 (some (237)) = W12
  intro hB
  refine lf (a_iincN dX3_init_35 rfl (by decide)) ?_
  refine lf (a_goto (tgt := 15) dX3_init_38 (by decide)) ?_
  refine lf (a_loc [(0, .ref 82), (1, .ref 3), (2, .int (nI 10))] rfl) ?_
  refine lf (a_iload_n dX3_init_15 rfl) ?_
  refine lf (a_bipush (12 : Int32) dX3_init_16 (by decide)) ?_
  refine lf2 (a_icmp_ge (tgt := 41) dX3_init_18 (by decide)) (fun h => absurd h (by decide)) (fun h => ?_)
  refine lf (a_aload_n dX3_init_21 rfl) ?_
  refine lf (a_getR ((hB.2.2.2 (82) (by omega) (by omega) 0).2.2.trans ((cl2_ne (by omega) 0).trans ((cl2_at 0).trans rfl)) : gR W12 (82) 0 = some (83)) dX3_init_22 fs_X3_11 rfl (hB.ob (by omega) hk0)) ?_
  refine lf (a_iload_n dX3_init_25 rfl) ?_
  refine lf (a_new (c9 := 0) (b' := (33, 509)) dX3_init_26 cls_X1 cx_X3_9 in_X1 ini_RX1 (fun j hj => by rcases (by omega : j = 0 ∨ j = 1 ∨ j = 2 ∨ j = 3 ∨ j = 4 ∨ j = 5 ∨ j = 6 ∨ j = 7 ∨ j = 8 ∨ j = 9 ∨ j = 10 ∨ j = 11 ∨ j = 12) with e | e | e | e | e | e | e | e | e | e | e | e | e <;> subst e <;> rfl) (by rw [hB.1]; exact km_k k172 (by decide)) (by have := k172b; rw [hB.1]; omega) rfl) ?_
  rw [hB.1]
  refine lf (a_dup dX3_init_29 rfl) ?_
  refine lf (a_aload_n dX3_init_30 rfl) ?_
  obtain ⟨v31, V31, c31, rfl, g31⟩ := i_X1_init (nu_mk hB.1) (show Fl 254 from by unfold Fl; decide)
  refine lf (a_invI (b2 := (17, 261)) c31 rfl dX3_init_31 yk_X1_init rfl rfl im_X1_init ml_X3_17 rfl (by decide) ⟨Nat.le_of_ble_eq_true rfl, Nat.le_of_ble_eq_true rfl⟩ (Nat.le_of_ble_eq_true rfl)) ?_
  have hB : Bu μ (82) (271) _ _ _ := bu_sub hB (by omega) g31 (fun i h1 h2 k => ((cl2_ne (by omega) k).trans (cl2_ne (by omega) k))) (fun i h1 h2 k => rfl)
  refine lf (a_aast (t := 27) (n := 12) (ci := 2) dX3_init_34 (hB.ar (by omega) q1.2.2.1 q1.1 q1.2.1) ⟨by decide, by decide⟩ (ixn (m := 10) (by decide) (by decide)) (hB.ob (by omega) k172) (by decide) (fun r hr => by rw [hc_X1 r hr]; rfl)) ?_
  have hB := bu_sR hB (by omega) 10 (some (254))
  revert hB
  generalize sR V31 (83) 10 (some (254)) = W13
  intro hB
  refine lf (a_iincN dX3_init_35 rfl (by decide)) ?_
  refine lf (a_goto (tgt := 15) dX3_init_38 (by decide)) ?_
  refine lf (a_loc [(0, .ref 82), (1, .ref 3), (2, .int (nI 11))] rfl) ?_
  refine lf (a_iload_n dX3_init_15 rfl) ?_
  refine lf (a_bipush (12 : Int32) dX3_init_16 (by decide)) ?_
  refine lf2 (a_icmp_ge (tgt := 41) dX3_init_18 (by decide)) (fun h => absurd h (by decide)) (fun h => ?_)
  refine lf (a_aload_n dX3_init_21 rfl) ?_
  refine lf (a_getR ((hB.2.2.2 (82) (by omega) (by omega) 0).2.2.trans ((cl2_ne (by omega) 0).trans ((cl2_at 0).trans rfl)) : gR W13 (82) 0 = some (83)) dX3_init_22 fs_X3_11 rfl (hB.ob (by omega) hk0)) ?_
  refine lf (a_iload_n dX3_init_25 rfl) ?_
  refine lf (a_new (c9 := 0) (b' := (16, 248)) dX3_init_26 cls_X1 cx_X3_9 in_X1 ini_RX1 (fun j hj => by rcases (by omega : j = 0 ∨ j = 1 ∨ j = 2 ∨ j = 3 ∨ j = 4 ∨ j = 5 ∨ j = 6 ∨ j = 7 ∨ j = 8 ∨ j = 9 ∨ j = 10 ∨ j = 11 ∨ j = 12) with e | e | e | e | e | e | e | e | e | e | e | e | e <;> subst e <;> rfl) (by rw [hB.1]; exact km_k k189 (by decide)) (by have := k189b; rw [hB.1]; omega) rfl) ?_
  rw [hB.1]
  refine lf (a_dup dX3_init_29 rfl) ?_
  refine lf (a_aload_n dX3_init_30 rfl) ?_
  obtain ⟨v31, V31, c31, rfl, g31⟩ := i_X1_init (nu_mk hB.1) (show Fl 271 from by unfold Fl; decide)
  refine lf (a_invI (b2 := (0, 0)) c31 rfl dX3_init_31 yk_X1_init rfl rfl im_X1_init ml_X3_17 rfl (by decide) ⟨Nat.le_of_ble_eq_true rfl, Nat.le_of_ble_eq_true rfl⟩ (Nat.le_of_ble_eq_true rfl)) ?_
  have hB : Bu μ (82) (288) _ _ _ := bu_sub hB (by omega) g31 (fun i h1 h2 k => ((cl2_ne (by omega) k).trans (cl2_ne (by omega) k))) (fun i h1 h2 k => rfl)
  refine lf (a_aast (t := 27) (n := 12) (ci := 2) dX3_init_34 (hB.ar (by omega) q1.2.2.1 q1.1 q1.2.1) ⟨by decide, by decide⟩ (ixn (m := 11) (by decide) (by decide)) (hB.ob (by omega) k189) (by decide) (fun r hr => by rw [hc_X1 r hr]; rfl)) ?_
  have hB := bu_sR hB (by omega) 11 (some (271))
  revert hB
  generalize sR V31 (83) 11 (some (271)) = W14
  intro hB
  refine lf (a_iincN dX3_init_35 rfl (by decide)) ?_
  refine lf (a_goto (tgt := 15) dX3_init_38 (by decide)) ?_
  refine lf (a_loc [(0, .ref 82), (1, .ref 3), (2, .int (nI 12))] rfl) ?_
  refine lf (a_iload_n dX3_init_15 rfl) ?_
  refine lf (a_bipush (12 : Int32) dX3_init_16 (by decide)) ?_
  refine lf2 (a_icmp_ge (tgt := 41) dX3_init_18 (by decide)) (fun h => ?_) (fun h => absurd (by decide) h)
  have hB := hB.congr (fun i _ _ k => cl2_close (by
      have h : ∀ k, k < 39 → (upF (upF (upF (upF (upF (upF (upF (upF (upF (upF (upF (upF (fun _ => none) 0 (some (84))) 1 (some (101))) 2 (some (118))) 3 (some (135))) 4 (some (152))) 5 (some (169))) 6 (some (186))) 7 (some (203))) 8 (some (220))) 9 (some (237))) 10 (some (254))) 11 (some (271))) k = r1 83 k := by decide +kernel
      exact h) (fun k hk => by simp only [upF]; rw [if_neg (by omega)]; rw [if_neg (by omega)]; rw [if_neg (by omega)]; rw [if_neg (by omega)]; rw [if_neg (by omega)]; rw [if_neg (by omega)]; rw [if_neg (by omega)]; rw [if_neg (by omega)]; rw [if_neg (by omega)]; rw [if_neg (by omega)]; rw [if_neg (by omega)]; rw [if_neg (by omega)]) (by omega) i k)
  refine ⟨_, _, a_return dX3_init_41 rfl, ?_⟩
  exact ⟨_, rfl, rfl, hB.congr (fun i _ _ k => cl2_closeA (by
      have h : ∀ k, k < 39 → (upF (fun _ => none) 0 (some (83))) k = r1 82 k := by decide +kernel
      exact h) (fun k hk => by simp only [upF]; rw [if_neg (by omega)]) i k)⟩
end CTORC
