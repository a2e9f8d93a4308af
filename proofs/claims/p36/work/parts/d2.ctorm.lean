section CTORM
abbrev RC_X10_init : Room := { frames := 4, cells := 337, slots := 5716, locals := 86 }
set_option maxRecDepth 20000 in
set_option maxHeartbeats 40000000 in
theorem i_X10_init {μ : Wd} (h : Nu μ 0) : CV Y_X10_init RC_X10_init [.ref 0] μ (fun v V => v = none ∧ Bu μ 0 338 r1 (up2 zJ 0 5 (-1)) V) := by
  have hk0 : kt 0 = 11 := kt_ob (by decide +kernel)
  have q1 : kOK 1 22 900 := kOK.of (by decide +kernel)
  have q2 : kOK 2 22 120 := kOK.of (by decide +kernel)
  have q288 : kOQ 288 27 2 := kOQ.of (by decide +kernel)
  have q323 : kOK 323 23 2 := kOK.of (by decide +kernel)
  have k3 : kt 3 = 8 := kt_ob (by decide +kernel)
  have k3b : 3 < 339 := by decide
  have k24 : kt 24 = 2 := kt_ob (by decide +kernel)
  have k24b : 24 < 339 := by decide
  have k41 : kt 41 = 2 := kt_ob (by decide +kernel)
  have k41b : 41 < 339 := by decide
  have k58 : kt 58 = 8 := kt_ob (by decide +kernel)
  have k58b : 58 < 339 := by decide
  have k79 : kt 79 = 3 := kt_ob (by decide +kernel)
  have k79b : 79 < 339 := by decide
  have k82 : kt 82 = 4 := kt_ob (by decide +kernel)
  have k82b : 82 < 339 := by decide
  have k289 : kt 289 = 2 := kt_ob (by decide +kernel)
  have k289b : 289 < 339 := by decide
  have k306 : kt 306 = 2 := kt_ob (by decide +kernel)
  have k306b : 306 < 339 := by decide
  have k324 : kt 324 = 7 := kt_ob (by decide +kernel)
  have k324b : 324 < 339 := by decide
  have k327 : kt 327 = 5 := kt_ob (by decide +kernel)
  have k327b : 327 < 339 := by decide
  have k334 : kt 334 = 9 := kt_ob (by decide +kernel)
  have k334b : 334 < 339 := by decide
  have hB := Nu.bu h
  refine CV.ent yk_X10_init (Nat.le_of_ble_eq_true rfl) ?_
  refine lf (a_aload_n dX10_init_0 rfl) ?_
  refine lf (a_objI dX10_init_1 oi_MealLoader (by decide) (by decide) (Nat.le_of_ble_eq_true rfl)) ?_
  refine lf (a_aload_n dX10_init_4 rfl) ?_
  refine lf (a_sipush (900 : Int32) dX10_init_5 (by decide)) ?_
  rw [show (900 : Int32) = nI 900 by decide +kernel]
  refine lf (a_newI (c9 := 900) (len := 900) (t := 22) (aty := .byte) (ty := .byte) (b' := (336, 4816)) dX10_init_8 rfl acw_byte ⟨rfl, by decide, by decide, by decide⟩ rfl (by decide) (by decide) (by rw [hB.1]; exact (km_lt q1.2.2.1).trans q1.1) ((al_lt (by rw [hB.1]; exact q1.2.2.1)).trans (by rw [hB.1]; exact q1.2.1)) (by have := q1.2.2.1; rw [hB.1]; omega) rfl) ?_
  rw [hB.1]
  have hB : Bu μ (0) (2) _ _ _ := bu_mk hB (fun k => (cl2_ne (by omega) k).trans (q1.2.2.2 k)) (fun k => rfl) (by omega) 900
  revert hB
  generalize mk μ 900 = W1
  intro hB
  refine lf (a_putRF dX10_init_10 fs_X10_9 rfl rfl rfl hc_X10 (hB.ob (by omega) hk0)) ?_
  have hB := bu_sR hB (by omega) 0 (some (1))
  revert hB
  generalize sR W1 0 0 (some 1) = W2
  intro hB
  refine lf (a_aload_n dX10_init_13 rfl) ?_
  refine lf (a_bipush (120 : Int32) dX10_init_14 (by decide)) ?_
  rw [show (120 : Int32) = nI 120 by decide +kernel]
  refine lf (a_newI (c9 := 120) (len := 120) (t := 22) (aty := .byte) (ty := .byte) (b' := (335, 4696)) dX10_init_16 rfl acw_byte ⟨rfl, by decide, by decide, by decide⟩ rfl (by decide) (by decide) (by rw [hB.1]; exact (km_lt q2.2.2.1).trans q2.1) ((al_lt (by rw [hB.1]; exact q2.2.2.1)).trans (by rw [hB.1]; exact q2.2.1)) (by have := q2.2.2.1; rw [hB.1]; omega) rfl) ?_
  rw [hB.1]
  have hB : Bu μ (0) (3) _ _ _ := bu_mk hB (fun k => (cl2_ne (by omega) k).trans (q2.2.2.2 k)) (fun k => rfl) (by omega) 120
  revert hB
  generalize mk W2 120 = W3
  intro hB
  refine lf (a_putRF dX10_init_18 fs_X10_13 rfl rfl rfl hc_X10 (hB.ob (by omega) hk0)) ?_
  have hB := bu_sR hB (by omega) 2 (some (2))
  revert hB
  generalize sR W3 0 2 (some 2) = W4
  intro hB
  refine lf (a_aload_n dX10_init_21 rfl) ?_
  refine lf (a_iconst (-1 : Int32) dX10_init_22 (by decide)) ?_
  refine lf (a_putI dX10_init_23 fs_X10_16 rfl rfl rfl (hB.ob (by omega) hk0)) ?_
  have hB := bu_sI hB (i := 0) (k := 5) (by omega) (-1)
  revert hB
  generalize sI W4 0 5 (-1) = W5
  intro hB
  refine lf (a_new (c9 := 0) (b' := (334, 4685)) dX10_init_26 cls_X7 cx_X10_20 in_X7 ini_RX7 (fun j hj => by rcases (by omega : j = 0 ∨ j = 1 ∨ j = 2 ∨ j = 3 ∨ j = 4 ∨ j = 5 ∨ j = 6 ∨ j = 7 ∨ j = 8 ∨ j = 9 ∨ j = 10) with e | e | e | e | e | e | e | e | e | e | e <;> subst e <;> rfl) (by rw [hB.1]; exact km_k k3 (by decide)) (by have := k3b; rw [hB.1]; omega) rfl) ?_
  rw [hB.1]
  refine lf (a_dup dX10_init_29 rfl) ?_
  obtain ⟨v30, V30, c30, rfl, g30⟩ := i_X7_init (nu_mk hB.1) (Or.inl rfl)
  refine lf (a_invI (b2 := (314, 4569)) c30 rfl dX10_init_30 yk_X7_init rfl rfl im_X7_init ml_X10_22 rfl (by decide) ⟨Nat.le_of_ble_eq_true rfl, Nat.le_of_ble_eq_true rfl⟩ (Nat.le_of_ble_eq_true rfl)) ?_
  have hB : Bu μ (0) (24) _ _ _ := bu_sub hB (by omega) g30 (fun i h1 h2 k => (cl2_ne (by omega) k)) (fun i h1 h2 k => up2_ne (fun y => absurd y.1 (by omega)))
  refine lf (a_astore_n dX10_init_33 (by decide)) ?_
  refine lf (a_aload_n dX10_init_34 rfl) ?_
  refine lf (a_new (c9 := 0) (b' := (313, 4556)) dX10_init_35 cls_X1 cx_X10_23 in_X1 ini_RX1 (fun j hj => by rcases (by omega : j = 0 ∨ j = 1 ∨ j = 2 ∨ j = 3 ∨ j = 4 ∨ j = 5 ∨ j = 6 ∨ j = 7 ∨ j = 8 ∨ j = 9 ∨ j = 10 ∨ j = 11 ∨ j = 12) with e | e | e | e | e | e | e | e | e | e | e | e | e <;> subst e <;> rfl) (by rw [hB.1]; exact km_k k24 (by decide)) (by have := k24b; rw [hB.1]; omega) rfl) ?_
  rw [hB.1]
  refine lf (a_dup dX10_init_38 rfl) ?_
  refine lf (a_aload_n dX10_init_39 rfl) ?_
  obtain ⟨v40, V40, c40, rfl, g40⟩ := i_X1_init (nu_mk hB.1) (show Fl 24 from by unfold Fl; decide)
  refine lf (a_invI (b2 := (297, 4308)) c40 rfl dX10_init_40 yk_X1_init rfl rfl im_X1_init ml_X10_25 rfl (by decide) ⟨Nat.le_of_ble_eq_true rfl, Nat.le_of_ble_eq_true rfl⟩ (Nat.le_of_ble_eq_true rfl)) ?_
  have hB : Bu μ (0) (41) _ _ _ := bu_sub hB (by omega) g40 (fun i h1 h2 k => (cl2_ne (by omega) k)) (fun i h1 h2 k => up2_ne (fun y => absurd y.1 (by omega)))
  refine lf (a_putRF dX10_init_43 fs_X10_28 rfl rfl rfl hc_X10 (hB.ob (by omega) hk0)) ?_
  have hB := bu_sR hB (by omega) 7 (some (24))
  revert hB
  generalize sR V40 0 7 (some 24) = W6
  intro hB
  refine lf (a_aload_n dX10_init_46 rfl) ?_
  refine lf (a_new (c9 := 0) (b' := (296, 4295)) dX10_init_47 cls_X1 cx_X10_23 in_X1 ini_RX1 (fun j hj => by rcases (by omega : j = 0 ∨ j = 1 ∨ j = 2 ∨ j = 3 ∨ j = 4 ∨ j = 5 ∨ j = 6 ∨ j = 7 ∨ j = 8 ∨ j = 9 ∨ j = 10 ∨ j = 11 ∨ j = 12) with e | e | e | e | e | e | e | e | e | e | e | e | e <;> subst e <;> rfl) (by rw [hB.1]; exact km_k k41 (by decide)) (by have := k41b; rw [hB.1]; omega) rfl) ?_
  rw [hB.1]
  refine lf (a_dup dX10_init_50 rfl) ?_
  refine lf (a_aload_n dX10_init_51 rfl) ?_
  obtain ⟨v52, V52, c52, rfl, g52⟩ := i_X1_init (nu_mk hB.1) (show Fl 41 from by unfold Fl; decide)
  refine lf (a_invI (b2 := (280, 4047)) c52 rfl dX10_init_52 yk_X1_init rfl rfl im_X1_init ml_X10_25 rfl (by decide) ⟨Nat.le_of_ble_eq_true rfl, Nat.le_of_ble_eq_true rfl⟩ (Nat.le_of_ble_eq_true rfl)) ?_
  have hB : Bu μ (0) (58) _ _ _ := bu_sub hB (by omega) g52 (fun i h1 h2 k => (cl2_ne (by omega) k)) (fun i h1 h2 k => up2_ne (fun y => absurd y.1 (by omega)))
  refine lf (a_putRF dX10_init_55 fs_X10_32 rfl rfl rfl hc_X10 (hB.ob (by omega) hk0)) ?_
  have hB := bu_sR hB (by omega) 8 (some (41))
  revert hB
  generalize sR V52 0 8 (some 41) = W7
  intro hB
  refine lf (a_aload_n dX10_init_58 rfl) ?_
  refine lf (a_new (c9 := 0) (b' := (279, 4036)) dX10_init_59 cls_X7 cx_X10_20 in_X7 ini_RX7 (fun j hj => by rcases (by omega : j = 0 ∨ j = 1 ∨ j = 2 ∨ j = 3 ∨ j = 4 ∨ j = 5 ∨ j = 6 ∨ j = 7 ∨ j = 8 ∨ j = 9 ∨ j = 10) with e | e | e | e | e | e | e | e | e | e | e <;> subst e <;> rfl) (by rw [hB.1]; exact km_k k58 (by decide)) (by have := k58b; rw [hB.1]; omega) rfl) ?_
  rw [hB.1]
  refine lf (a_dup dX10_init_62 rfl) ?_
  obtain ⟨v63, V63, c63, rfl, g63⟩ := i_X7_init (nu_mk hB.1) (Or.inr rfl)
  refine lf (a_invI (b2 := (259, 3920)) c63 rfl dX10_init_63 yk_X7_init rfl rfl im_X7_init ml_X10_22 rfl (by decide) ⟨Nat.le_of_ble_eq_true rfl, Nat.le_of_ble_eq_true rfl⟩ (Nat.le_of_ble_eq_true rfl)) ?_
  have hB : Bu μ (0) (79) _ _ _ := bu_sub hB (by omega) g63 (fun i h1 h2 k => (cl2_ne (by omega) k)) (fun i h1 h2 k => up2_ne (fun y => absurd y.1 (by omega)))
  refine lf (a_putR dX10_init_66 fs_X10_35 rfl rfl (hB.ob (by omega) hk0)) ?_
  have hB := bu_sR hB (by omega) 9 (some (58))
  revert hB
  generalize sR V63 0 9 (some 58) = W8
  intro hB
  refine lf (a_aload_n dX10_init_69 rfl) ?_
  refine lf (a_new (c9 := 0) (b' := (258, 3915)) dX10_init_70 cls_X2 cx_X10_39 in_X2 ini_RX2 (fun j hj => by rcases (by omega : j = 0 ∨ j = 1 ∨ j = 2 ∨ j = 3 ∨ j = 4) with e | e | e | e | e <;> subst e <;> rfl) (by rw [hB.1]; exact km_k k79 (by decide)) (by have := k79b; rw [hB.1]; omega) rfl) ?_
  rw [hB.1]
  refine lf (a_dup dX10_init_73 rfl) ?_
  obtain ⟨v74, V74, c74, rfl, g74⟩ := i_X2_init (nu_mk hB.1) 
  refine lf (a_invI (b2 := (256, 3909)) c74 rfl dX10_init_74 yk_X2_init rfl rfl im_X2_init ml_X10_41 rfl (by decide) ⟨Nat.le_of_ble_eq_true rfl, Nat.le_of_ble_eq_true rfl⟩ (Nat.le_of_ble_eq_true rfl)) ?_
  have hB : Bu μ (0) (82) _ _ _ := bu_sub hB (by omega) g74 (fun i h1 h2 k => (cl2_ne (by omega) k)) (fun i h1 h2 k => up2_ne (fun y => absurd y.1 (by omega)))
  refine lf (a_putRF dX10_init_77 fs_X10_42 rfl rfl rfl hc_X10 (hB.ob (by omega) hk0)) ?_
  have hB := bu_sR hB (by omega) 10 (some (79))
  revert hB
  generalize sR V74 0 10 (some 79) = W9
  intro hB
  refine lf (a_aload_n dX10_init_80 rfl) ?_
  refine lf (a_new (c9 := 0) (b' := (255, 3906)) dX10_init_81 cls_X3 cx_X10_46 in_X3 ini_RX3 (fun j hj => by rcases (by omega : j = 0 ∨ j = 1 ∨ j = 2) with e | e | e <;> subst e <;> rfl) (by rw [hB.1]; exact km_k k82 (by decide)) (by have := k82b; rw [hB.1]; omega) rfl) ?_
  rw [hB.1]
  refine lf (a_dup dX10_init_84 rfl) ?_
  refine lf (a_aload_n dX10_init_85 rfl) ?_
  obtain ⟨v86, V86, c86, rfl, g86⟩ := i_X3_init (nu_mk hB.1) 
  refine lf (a_invI (b2 := (50, 762)) c86 rfl dX10_init_86 yk_X3_init rfl rfl im_X3_init ml_X10_48 rfl (by decide) ⟨Nat.le_of_ble_eq_true rfl, Nat.le_of_ble_eq_true rfl⟩ (Nat.le_of_ble_eq_true rfl)) ?_
  have hB : Bu μ (0) (288) _ _ _ := bu_sub hB (by omega) g86 (fun i h1 h2 k => (cl2_ne (by omega) k)) (fun i h1 h2 k => up2_ne (fun y => absurd y.1 (by omega)))
  refine lf (a_putRF dX10_init_89 fs_X10_49 rfl rfl rfl hc_X10 (hB.ob (by omega) hk0)) ?_
  have hB := bu_sR hB (by omega) 11 (some (82))
  revert hB
  generalize sR V86 0 11 (some 82) = W10
  intro hB
  refine lf (a_aload_n dX10_init_92 rfl) ?_
  refine lf (a_iconst (2 : Int32) dX10_init_93 (by decide)) ?_
  refine lf (a_newQ (c9 := 2) (len := 2) (t := 27) (K := RX1) (b' := (49, 760)) dX10_init_94 cx_X10_23 (List.mem_cons_of_mem _ (List.mem_cons_of_mem _ List.mem_cons_self)) ⟨rfl, by decide, by decide⟩ (by decide) (by rw [hB.1]; exact (km_lt q288.2.2.1).trans q288.1) ((al_lt (by rw [hB.1]; exact q288.2.2.1)).trans (by rw [hB.1]; exact q288.2.1)) (by have := q288.2.2.1; rw [hB.1]; omega) rfl) ?_
  rw [hB.1]
  have hB : Bu μ (0) (289) _ _ _ := bu_mkO hB (fun k => up2_ne (fun y => absurd y.1 (by omega))) (by omega) 2
  revert hB
  generalize mk W10 2 = W11
  intro hB
  refine lf (a_putRF dX10_init_97 fs_X10_53 rfl rfl rfl hc_X10 (hB.ob (by omega) hk0)) ?_
  have hB := bu_sR2 hB (by omega) (by omega) 12 (some (288))
  revert hB
  generalize sR W11 0 12 (some 288) = W12
  intro hB
  refine lf (a_iconst (0 : Int32) dX10_init_100 (by decide)) ?_
  refine lf (a_istore_n dX10_init_101 (by decide)) ?_
  refine lf (a_loc [(0, .ref 0), (1, .ref 3), (2, .int (nI 0))] rfl) ?_
  refine lf (a_iload_n dX10_init_102 rfl) ?_
  refine lf (a_iconst (2 : Int32) dX10_init_103 (by decide)) ?_
  refine lf2 (a_icmp_ge (tgt := 127) dX10_init_104 (by decide)) (fun h => absurd h (by decide)) (fun h => ?_)
  refine lf (a_aload_n dX10_init_107 rfl) ?_
  refine lf (a_getR ((hB.2.2.2 (0) (by omega) (by omega) 12).2.2.trans ((cl2_ne (by omega) 12).trans ((cl2_at 12).trans rfl)) : gR W12 (0) 12 = some (288)) dX10_init_108 fs_X10_53 rfl (hB.ob (by omega) hk0)) ?_
  refine lf (a_iload_n dX10_init_111 rfl) ?_
  refine lf (a_new (c9 := 0) (b' := (48, 747)) dX10_init_112 cls_X1 cx_X10_23 in_X1 ini_RX1 (fun j hj => by rcases (by omega : j = 0 ∨ j = 1 ∨ j = 2 ∨ j = 3 ∨ j = 4 ∨ j = 5 ∨ j = 6 ∨ j = 7 ∨ j = 8 ∨ j = 9 ∨ j = 10 ∨ j = 11 ∨ j = 12) with e | e | e | e | e | e | e | e | e | e | e | e | e <;> subst e <;> rfl) (by rw [hB.1]; exact km_k k289 (by decide)) (by have := k289b; rw [hB.1]; omega) rfl) ?_
  rw [hB.1]
  refine lf (a_dup dX10_init_115 rfl) ?_
  refine lf (a_aload_n dX10_init_116 rfl) ?_
  obtain ⟨v117, V117, c117, rfl, g117⟩ := i_X1_init (nu_mk hB.1) (show Fl 289 from by unfold Fl; decide)
  refine lf (a_invI (b2 := (32, 499)) c117 rfl dX10_init_117 yk_X1_init rfl rfl im_X1_init ml_X10_25 rfl (by decide) ⟨Nat.le_of_ble_eq_true rfl, Nat.le_of_ble_eq_true rfl⟩ (Nat.le_of_ble_eq_true rfl)) ?_
  have hB : Bu μ (0) (306) _ _ _ := bu_sub hB (by omega) g117 (fun i h1 h2 k => ((cl2_ne (by omega) k).trans (cl2_ne (by omega) k))) (fun i h1 h2 k => up2_ne (fun y => absurd y.1 (by omega)))
  refine lf (a_aast (t := 27) (n := 2) (ci := 2) dX10_init_120 (hB.ar (by omega) q288.2.2.1 q288.1 q288.2.1) ⟨by decide, by decide⟩ (ixn (m := 0) (by decide) (by decide)) (hB.ob (by omega) k289) (by decide) (fun r hr => by rw [hc_X1 r hr]; rfl)) ?_
  have hB := bu_sR hB (by omega) 0 (some (289))
  revert hB
  generalize sR V117 (288) 0 (some (289)) = W13
  intro hB
  refine lf (a_iincN dX10_init_121 rfl (by decide)) ?_
  refine lf (a_goto (tgt := 102) dX10_init_124 (by decide)) ?_
  refine lf (a_loc [(0, .ref 0), (1, .ref 3), (2, .int (nI 1))] rfl) ?_
  refine lf (a_iload_n dX10_init_102 rfl) ?_
  refine lf (a_iconst (2 : Int32) dX10_init_103 (by decide)) ?_
  refine lf2 (a_icmp_ge (tgt := 127) dX10_init_104 (by decide)) (fun h => absurd h (by decide)) (fun h => ?_)
  refine lf (a_aload_n dX10_init_107 rfl) ?_
  refine lf (a_getR ((hB.2.2.2 (0) (by omega) (by omega) 12).2.2.trans ((cl2_ne (by omega) 12).trans ((cl2_at 12).trans rfl)) : gR W13 (0) 12 = some (288)) dX10_init_108 fs_X10_53 rfl (hB.ob (by omega) hk0)) ?_
  refine lf (a_iload_n dX10_init_111 rfl) ?_
  refine lf (a_new (c9 := 0) (b' := (31, 486)) dX10_init_112 cls_X1 cx_X10_23 in_X1 ini_RX1 (fun j hj => by rcases (by omega : j = 0 ∨ j = 1 ∨ j = 2 ∨ j = 3 ∨ j = 4 ∨ j = 5 ∨ j = 6 ∨ j = 7 ∨ j = 8 ∨ j = 9 ∨ j = 10 ∨ j = 11 ∨ j = 12) with e | e | e | e | e | e | e | e | e | e | e | e | e <;> subst e <;> rfl) (by rw [hB.1]; exact km_k k306 (by decide)) (by have := k306b; rw [hB.1]; omega) rfl) ?_
  rw [hB.1]
  refine lf (a_dup dX10_init_115 rfl) ?_
  refine lf (a_aload_n dX10_init_116 rfl) ?_
  obtain ⟨v117, V117, c117, rfl, g117⟩ := i_X1_init (nu_mk hB.1) (show Fl 306 from by unfold Fl; decide)
  refine lf (a_invI (b2 := (15, 238)) c117 rfl dX10_init_117 yk_X1_init rfl rfl im_X1_init ml_X10_25 rfl (by decide) ⟨Nat.le_of_ble_eq_true rfl, Nat.le_of_ble_eq_true rfl⟩ (Nat.le_of_ble_eq_true rfl)) ?_
  have hB : Bu μ (0) (323) _ _ _ := bu_sub hB (by omega) g117 (fun i h1 h2 k => ((cl2_ne (by omega) k).trans (cl2_ne (by omega) k))) (fun i h1 h2 k => up2_ne (fun y => absurd y.1 (by omega)))
  refine lf (a_aast (t := 27) (n := 2) (ci := 2) dX10_init_120 (hB.ar (by omega) q288.2.2.1 q288.1 q288.2.1) ⟨by decide, by decide⟩ (ixn (m := 1) (by decide) (by decide)) (hB.ob (by omega) k306) (by decide) (fun r hr => by rw [hc_X1 r hr]; rfl)) ?_
  have hB := bu_sR hB (by omega) 1 (some (306))
  revert hB
  generalize sR V117 (288) 1 (some (306)) = W14
  intro hB
  refine lf (a_iincN dX10_init_121 rfl (by decide)) ?_
  refine lf (a_goto (tgt := 102) dX10_init_124 (by decide)) ?_
  refine lf (a_loc [(0, .ref 0), (1, .ref 3), (2, .int (nI 2))] rfl) ?_
  refine lf (a_iload_n dX10_init_102 rfl) ?_
  refine lf (a_iconst (2 : Int32) dX10_init_103 (by decide)) ?_
  refine lf2 (a_icmp_ge (tgt := 127) dX10_init_104 (by decide)) (fun h => ?_) (fun h => absurd (by decide) h)
  have hB := hB.congr (fun i _ _ k => cl2_close (by
      have h : ∀ k, k < 39 → (upF (upF (fun _ => none) 0 (some (289))) 1 (some (306))) k = r1 288 k := by decide +kernel
      exact h) (fun k hk => by simp only [upF]; rw [if_neg (by omega)]; rw [if_neg (by omega)]) (by omega) i k)
  refine lf (a_aload_n dX10_init_127 rfl) ?_
  refine lf (a_iconst (2 : Int32) dX10_init_128 (by decide)) ?_
  refine lf (a_newI (c9 := 2) (len := 2) (t := 23) (aty := .boolean) (ty := .boolean) (b' := (14, 236)) dX10_init_129 rfl acw_boolean ⟨rfl, by decide, by decide, by decide⟩ rfl (by decide) (by decide) (by rw [hB.1]; exact (km_lt q323.2.2.1).trans q323.1) ((al_lt (by rw [hB.1]; exact q323.2.2.1)).trans (by rw [hB.1]; exact q323.2.1)) (by have := q323.2.2.1; rw [hB.1]; omega) rfl) ?_
  rw [hB.1]
  have hB : Bu μ (0) (324) _ _ _ := bu_mk hB (fun k => (cl2_ne (by omega) k).trans (q323.2.2.2 k)) (fun k => up2_ne (fun y => absurd y.1 (by omega))) (by omega) 2
  revert hB
  generalize mk W14 2 = W15
  intro hB
  refine lf (a_putRF dX10_init_131 fs_X10_57 rfl rfl rfl hc_X10 (hB.ob (by omega) hk0)) ?_
  have hB := bu_sR hB (by omega) 13 (some (323))
  revert hB
  generalize sR W15 0 13 (some 323) = W16
  intro hB
  refine lf (a_aload_n dX10_init_134 rfl) ?_
  refine lf (a_new (c9 := 0) (b' := (13, 234)) dX10_init_135 cls_X6 cx_X10_61 in_X6 ini_RX6 (fun j hj => by rcases (by omega : j = 0 ∨ j = 1) with e | e <;> subst e <;> rfl) (by rw [hB.1]; exact km_k k324 (by decide)) (by have := k324b; rw [hB.1]; omega) rfl) ?_
  rw [hB.1]
  refine lf (a_dup dX10_init_138 rfl) ?_
  obtain ⟨v139, V139, c139, rfl, g139⟩ := i_X6_init (nu_mk hB.1) 
  refine lf (a_invI (b2 := (11, 210)) c139 rfl dX10_init_139 yk_X6_init rfl rfl im_X6_init ml_X10_63 rfl (by decide) ⟨Nat.le_of_ble_eq_true rfl, Nat.le_of_ble_eq_true rfl⟩ (Nat.le_of_ble_eq_true rfl)) ?_
  have hB : Bu μ (0) (327) _ _ _ := bu_sub hB (by omega) g139 (fun i h1 h2 k => (cl2_ne (by omega) k)) (fun i h1 h2 k => up2_ne (fun y => absurd y.1 (by omega)))
  refine lf (a_putRF dX10_init_142 fs_X10_64 rfl rfl rfl hc_X10 (hB.ob (by omega) hk0)) ?_
  have hB := bu_sR hB (by omega) 14 (some (324))
  revert hB
  generalize sR V139 0 14 (some 324) = W17
  intro hB
  refine lf (a_aload_n dX10_init_145 rfl) ?_
  refine lf (a_new (c9 := 0) (b' := (10, 200)) dX10_init_146 cls_X4 cx_X10_68 in_X4 ini_RX4 (fun j hj => by rcases (by omega : j = 0 ∨ j = 1 ∨ j = 2 ∨ j = 3 ∨ j = 4 ∨ j = 5 ∨ j = 6 ∨ j = 7 ∨ j = 8 ∨ j = 9) with e | e | e | e | e | e | e | e | e | e <;> subst e <;> rfl) (by rw [hB.1]; exact km_k k327 (by decide)) (by have := k327b; rw [hB.1]; omega) rfl) ?_
  rw [hB.1]
  refine lf (a_dup dX10_init_149 rfl) ?_
  obtain ⟨v150, V150, c150, rfl, g150⟩ := i_X4_init (nu_mk hB.1) 
  refine lf (a_invI (b2 := (4, 72)) c150 rfl dX10_init_150 yk_X4_init rfl rfl im_X4_init ml_X10_70 rfl (by decide) ⟨Nat.le_of_ble_eq_true rfl, Nat.le_of_ble_eq_true rfl⟩ (Nat.le_of_ble_eq_true rfl)) ?_
  have hB : Bu μ (0) (334) _ _ _ := bu_sub hB (by omega) g150 (fun i h1 h2 k => (cl2_ne (by omega) k)) (fun i h1 h2 k => up2_ne (fun y => absurd y.1 (by omega)))
  refine lf (a_putRF dX10_init_153 fs_X10_71 rfl rfl rfl hc_X10 (hB.ob (by omega) hk0)) ?_
  have hB := bu_sR hB (by omega) 15 (some (327))
  revert hB
  generalize sR V150 0 15 (some 327) = W18
  intro hB
  refine lf (a_aload_n dX10_init_156 rfl) ?_
  refine lf (a_new (c9 := 0) (b' := (3, 64)) dX10_init_157 cls_X8 cx_X10_75 in_X8 ini_RX8 (fun j hj => by rcases (by omega : j = 0 ∨ j = 1 ∨ j = 2 ∨ j = 3 ∨ j = 4 ∨ j = 5 ∨ j = 6 ∨ j = 7) with e | e | e | e | e | e | e | e <;> subst e <;> rfl) (by rw [hB.1]; exact km_k k334 (by decide)) (by have := k334b; rw [hB.1]; omega) rfl) ?_
  rw [hB.1]
  refine lf (a_dup dX10_init_160 rfl) ?_
  obtain ⟨v161, V161, c161, rfl, g161⟩ := i_X8_init (nu_mk hB.1) 
  refine lf (a_invI (b2 := (0, 0)) c161 rfl dX10_init_161 yk_X8_init rfl rfl im_X8_init ml_X10_77 rfl (by decide) ⟨Nat.le_of_ble_eq_true rfl, Nat.le_of_ble_eq_true rfl⟩ (Nat.le_of_ble_eq_true rfl)) ?_
  have hB : Bu μ (0) (338) _ _ _ := bu_sub hB (by omega) g161 (fun i h1 h2 k => (cl2_ne (by omega) k)) (fun i h1 h2 k => up2_ne (fun y => absurd y.1 (by omega)))
  refine lf (a_putRF dX10_init_164 fs_X10_78 rfl rfl rfl hc_X10 (hB.ob (by omega) hk0)) ?_
  have hB := bu_sR hB (by omega) 16 (some (334))
  revert hB
  generalize sR V161 0 16 (some 334) = W19
  intro hB
  refine ⟨_, _, a_return dX10_init_167 rfl, ?_⟩
  exact ⟨_, rfl, rfl, hB.congr (fun i _ _ k => cl2_closeA (by
      have h : ∀ k, k < 39 → (upF (upF (upF (upF (upF (upF (upF (upF (upF (upF (upF (upF (fun _ => none) 0 (some (1))) 2 (some (2))) 7 (some (24))) 8 (some (41))) 9 (some (58))) 10 (some (79))) 11 (some (82))) 12 (some (288))) 13 (some (323))) 14 (some (324))) 15 (some (327))) 16 (some (334))) k = r1 0 k := by decide +kernel
      exact h) (fun k hk => by simp only [upF]; rw [if_neg (by omega)]; rw [if_neg (by omega)]; rw [if_neg (by omega)]; rw [if_neg (by omega)]; rw [if_neg (by omega)]; rw [if_neg (by omega)]; rw [if_neg (by omega)]; rw [if_neg (by omega)]; rw [if_neg (by omega)]; rw [if_neg (by omega)]; rw [if_neg (by omega)]; rw [if_neg (by omega)]) i k)⟩
end CTORM
