section CTORP
abbrev RC_X7_init : Room := { frames := 3, cells := 20, slots := 116, locals := 63 }
set_option maxHeartbeats 40000000 in
theorem i_X7_init {μ : Wd} {p : Nat} (h : Nu μ p) (hp : Pl p) : CV Y_X7_init RC_X7_init [.ref p] μ (fun v V => v = none ∧ Bu μ (p) (p + 21) r1 zJ V) := by
  have hlt := hp.lt
  have hpm : p ∈ [3, 58] := by rcases hp with rfl | rfl <;> decide
  have hk0 : kt p = 8 := by
    have h : ∀ p ∈ [3, 58], ktL.getD p 99 = 8 ∧ p < 339 := by decide +kernel
    exact kt_ob (h p hpm)
  have q1 := plq_c hp (c := 1) (t := 25) (n := 4) (by decide +kernel)
  have q6 := plq_c hp (c := 6) (t := 26) (n := 12) (by decide +kernel)
  have q19 := plk_c hp (c := 19) (t := 20) (n := 8) (by decide +kernel)
  have q20 := plk_c hp (c := 20) (t := 20) (n := 8) (by decide +kernel)
  have y2 : ktL.getD (p + 2) 99 = 1 ∧ p + 2 < 339 ∧ r0L.getD (p + 2) [] = [] := by
    have h : ∀ p ∈ [3, 58], ktL.getD (p + 2) 99 = 1 ∧ p + 2 < 339 ∧ r0L.getD (p + 2) [] = [] := by decide +kernel
    exact h p hpm
  have k2 : kt (p + 2) = 1 := kt_ob ⟨y2.1, y2.2.1⟩
  have k2b := y2.2.1
  have z2 := y2.2.2
  have y3 : ktL.getD (p + 3) 99 = 1 ∧ p + 3 < 339 ∧ r0L.getD (p + 3) [] = [] := by
    have h : ∀ p ∈ [3, 58], ktL.getD (p + 3) 99 = 1 ∧ p + 3 < 339 ∧ r0L.getD (p + 3) [] = [] := by decide +kernel
    exact h p hpm
  have k3 : kt (p + 3) = 1 := kt_ob ⟨y3.1, y3.2.1⟩
  have k3b := y3.2.1
  have z3 := y3.2.2
  have y4 : ktL.getD (p + 4) 99 = 1 ∧ p + 4 < 339 ∧ r0L.getD (p + 4) [] = [] := by
    have h : ∀ p ∈ [3, 58], ktL.getD (p + 4) 99 = 1 ∧ p + 4 < 339 ∧ r0L.getD (p + 4) [] = [] := by decide +kernel
    exact h p hpm
  have k4 : kt (p + 4) = 1 := kt_ob ⟨y4.1, y4.2.1⟩
  have k4b := y4.2.1
  have z4 := y4.2.2
  have y5 : ktL.getD (p + 5) 99 = 1 ∧ p + 5 < 339 ∧ r0L.getD (p + 5) [] = [] := by
    have h : ∀ p ∈ [3, 58], ktL.getD (p + 5) 99 = 1 ∧ p + 5 < 339 ∧ r0L.getD (p + 5) [] = [] := by decide +kernel
    exact h p hpm
  have k5 : kt (p + 5) = 1 := kt_ob ⟨y5.1, y5.2.1⟩
  have k5b := y5.2.1
  have z5 := y5.2.2
  have y7 : ktL.getD (p + 7) 99 = 6 ∧ p + 7 < 339 ∧ r0L.getD (p + 7) [] = [] := by
    have h : ∀ p ∈ [3, 58], ktL.getD (p + 7) 99 = 6 ∧ p + 7 < 339 ∧ r0L.getD (p + 7) [] = [] := by decide +kernel
    exact h p hpm
  have k7 : kt (p + 7) = 6 := kt_ob ⟨y7.1, y7.2.1⟩
  have k7b := y7.2.1
  have z7 := y7.2.2
  have y8 : ktL.getD (p + 8) 99 = 6 ∧ p + 8 < 339 ∧ r0L.getD (p + 8) [] = [] := by
    have h : ∀ p ∈ [3, 58], ktL.getD (p + 8) 99 = 6 ∧ p + 8 < 339 ∧ r0L.getD (p + 8) [] = [] := by decide +kernel
    exact h p hpm
  have k8 : kt (p + 8) = 6 := kt_ob ⟨y8.1, y8.2.1⟩
  have k8b := y8.2.1
  have z8 := y8.2.2
  have y9 : ktL.getD (p + 9) 99 = 6 ∧ p + 9 < 339 ∧ r0L.getD (p + 9) [] = [] := by
    have h : ∀ p ∈ [3, 58], ktL.getD (p + 9) 99 = 6 ∧ p + 9 < 339 ∧ r0L.getD (p + 9) [] = [] := by decide +kernel
    exact h p hpm
  have k9 : kt (p + 9) = 6 := kt_ob ⟨y9.1, y9.2.1⟩
  have k9b := y9.2.1
  have z9 := y9.2.2
  have y10 : ktL.getD (p + 10) 99 = 6 ∧ p + 10 < 339 ∧ r0L.getD (p + 10) [] = [] := by
    have h : ∀ p ∈ [3, 58], ktL.getD (p + 10) 99 = 6 ∧ p + 10 < 339 ∧ r0L.getD (p + 10) [] = [] := by decide +kernel
    exact h p hpm
  have k10 : kt (p + 10) = 6 := kt_ob ⟨y10.1, y10.2.1⟩
  have k10b := y10.2.1
  have z10 := y10.2.2
  have y11 : ktL.getD (p + 11) 99 = 6 ∧ p + 11 < 339 ∧ r0L.getD (p + 11) [] = [] := by
    have h : ∀ p ∈ [3, 58], ktL.getD (p + 11) 99 = 6 ∧ p + 11 < 339 ∧ r0L.getD (p + 11) [] = [] := by decide +kernel
    exact h p hpm
  have k11 : kt (p + 11) = 6 := kt_ob ⟨y11.1, y11.2.1⟩
  have k11b := y11.2.1
  have z11 := y11.2.2
  have y12 : ktL.getD (p + 12) 99 = 6 ∧ p + 12 < 339 ∧ r0L.getD (p + 12) [] = [] := by
    have h : ∀ p ∈ [3, 58], ktL.getD (p + 12) 99 = 6 ∧ p + 12 < 339 ∧ r0L.getD (p + 12) [] = [] := by decide +kernel
    exact h p hpm
  have k12 : kt (p + 12) = 6 := kt_ob ⟨y12.1, y12.2.1⟩
  have k12b := y12.2.1
  have z12 := y12.2.2
  have y13 : ktL.getD (p + 13) 99 = 6 ∧ p + 13 < 339 ∧ r0L.getD (p + 13) [] = [] := by
    have h : ∀ p ∈ [3, 58], ktL.getD (p + 13) 99 = 6 ∧ p + 13 < 339 ∧ r0L.getD (p + 13) [] = [] := by decide +kernel
    exact h p hpm
  have k13 : kt (p + 13) = 6 := kt_ob ⟨y13.1, y13.2.1⟩
  have k13b := y13.2.1
  have z13 := y13.2.2
  have y14 : ktL.getD (p + 14) 99 = 6 ∧ p + 14 < 339 ∧ r0L.getD (p + 14) [] = [] := by
    have h : ∀ p ∈ [3, 58], ktL.getD (p + 14) 99 = 6 ∧ p + 14 < 339 ∧ r0L.getD (p + 14) [] = [] := by decide +kernel
    exact h p hpm
  have k14 : kt (p + 14) = 6 := kt_ob ⟨y14.1, y14.2.1⟩
  have k14b := y14.2.1
  have z14 := y14.2.2
  have y15 : ktL.getD (p + 15) 99 = 6 ∧ p + 15 < 339 ∧ r0L.getD (p + 15) [] = [] := by
    have h : ∀ p ∈ [3, 58], ktL.getD (p + 15) 99 = 6 ∧ p + 15 < 339 ∧ r0L.getD (p + 15) [] = [] := by decide +kernel
    exact h p hpm
  have k15 : kt (p + 15) = 6 := kt_ob ⟨y15.1, y15.2.1⟩
  have k15b := y15.2.1
  have z15 := y15.2.2
  have y16 : ktL.getD (p + 16) 99 = 6 ∧ p + 16 < 339 ∧ r0L.getD (p + 16) [] = [] := by
    have h : ∀ p ∈ [3, 58], ktL.getD (p + 16) 99 = 6 ∧ p + 16 < 339 ∧ r0L.getD (p + 16) [] = [] := by decide +kernel
    exact h p hpm
  have k16 : kt (p + 16) = 6 := kt_ob ⟨y16.1, y16.2.1⟩
  have k16b := y16.2.1
  have z16 := y16.2.2
  have y17 : ktL.getD (p + 17) 99 = 6 ∧ p + 17 < 339 ∧ r0L.getD (p + 17) [] = [] := by
    have h : ∀ p ∈ [3, 58], ktL.getD (p + 17) 99 = 6 ∧ p + 17 < 339 ∧ r0L.getD (p + 17) [] = [] := by decide +kernel
    exact h p hpm
  have k17 : kt (p + 17) = 6 := kt_ob ⟨y17.1, y17.2.1⟩
  have k17b := y17.2.1
  have z17 := y17.2.2
  have y18 : ktL.getD (p + 18) 99 = 6 ∧ p + 18 < 339 ∧ r0L.getD (p + 18) [] = [] := by
    have h : ∀ p ∈ [3, 58], ktL.getD (p + 18) 99 = 6 ∧ p + 18 < 339 ∧ r0L.getD (p + 18) [] = [] := by decide +kernel
    exact h p hpm
  have k18 : kt (p + 18) = 6 := kt_ob ⟨y18.1, y18.2.1⟩
  have k18b := y18.2.1
  have z18 := y18.2.2
  have hB := Nu.bu h
  refine CV.ent yk_X7_init (Nat.le_of_ble_eq_true rfl) ?_
  refine lf (a_aload_n dX7_init_0 rfl) ?_
  refine lf (a_objI dX7_init_1 oi_MealLoader_Plan (by decide) (by decide) (Nat.le_of_ble_eq_true rfl)) ?_
  refine lf (a_aload_n dX7_init_4 rfl) ?_
  refine lf (a_iconst (4 : Int32) dX7_init_5 (by decide)) ?_
  refine lf (a_newQ (c9 := 4) (len := 4) (t := 25) (K := RX0) (b' := (19, 112)) dX7_init_6 cx_X7_9 (List.mem_cons_self) ⟨rfl, by decide, by decide⟩ (by decide) (by rw [hB.1]; exact (km_lt q1.2.2.1).trans q1.1) ((al_lt (by rw [hB.1]; exact q1.2.2.1)).trans (by rw [hB.1]; exact q1.2.1)) (by have := q1.2.2.1; rw [hB.1]; omega) rfl) ?_
  rw [hB.1]
  have hB : Bu μ (p) (p + 2) _ _ _ := bu_mkO hB (fun k => rfl) (by omega) 4
  revert hB
  generalize mk μ 4 = W1
  intro hB
  refine lf (a_putRF dX7_init_9 fs_X7_11 rfl rfl rfl hc_X7 (hB.ob (by omega) hk0)) ?_
  have hB := bu_sR2 hB (by omega) (by omega) 2 (some (p + 1))
  revert hB
  generalize sR W1 (p) 2 (some (p + 1)) = W2
  intro hB
  refine lf (a_iconst (0 : Int32) dX7_init_12 (by decide)) ?_
  refine lf (a_istore_n dX7_init_13 (by decide)) ?_
  refine lf (a_loc [(0, .ref p), (1, .int (nI 0))] rfl) ?_
  refine lf (a_iload_n dX7_init_14 rfl) ?_
  refine lf (a_iconst (4 : Int32) dX7_init_15 (by decide)) ?_
  refine lf2 (a_icmp_ge (tgt := 38) dX7_init_16 (by decide)) (fun h => absurd h (by decide)) (fun h => ?_)
  refine lf (a_aload_n dX7_init_19 rfl) ?_
  refine lf (a_getR ((hB.2.2.2 (p) (by omega) (by omega) 2).2.2.trans ((cl2_ne (by omega) 2).trans ((cl2_at 2).trans rfl)) : gR W2 (p) 2 = some (p + 1)) dX7_init_20 fs_X7_11 rfl (hB.ob (by omega) hk0)) ?_
  refine lf (a_iload_n dX7_init_23 rfl) ?_
  refine lf (a_new (c9 := 0) (b' := (18, 109)) dX7_init_24 cls_X0 cx_X7_9 in_X0 ini_RX0 (fun j hj => by rcases (by omega : j = 0 ∨ j = 1 ∨ j = 2) with e | e | e <;> subst e <;> rfl) (by rw [hB.1]; exact km_k k2 (by decide)) (by have := k2b; rw [hB.1]; omega) rfl) ?_
  rw [hB.1]
  refine lf (a_dup dX7_init_27 rfl) ?_
  obtain ⟨v28, V28, c28, rfl, g28⟩ := i_X0_init (nu_mk hB.1) k2 z2
  refine lf (a_invIN (b2 := (18, 109)) c28 rfl dX7_init_28 yk_X0_init rfl rfl im_X0_init ⟨List.mem_cons_self, rfl⟩ rfl (by decide) ⟨Nat.le_of_ble_eq_true rfl, Nat.le_of_ble_eq_true rfl⟩ (Nat.le_of_ble_eq_true rfl)) ?_
  have hB : Bu μ (p) (p + 3) _ _ _ := bu_sub hB (by omega) g28 (fun i h1 h2 k => ((cl2_ne (by omega) k).trans (cl2_ne (by omega) k))) (fun i h1 h2 k => rfl)
  refine lf (a_aast (t := 25) (n := 4) (ci := 1) dX7_init_31 (hB.ar (by omega) q1.2.2.1 q1.1 q1.2.1) ⟨by decide, by decide⟩ (ixn (m := 0) (by decide) (by decide)) (hB.ob (by omega) k2) (by decide) (fun r hr => by rw [hc_X0 r hr]; rfl)) ?_
  have hB := bu_sR hB (by omega) 0 (some (p + 2))
  revert hB
  generalize sR V28 (p + 1) 0 (some (p + 2)) = W3
  intro hB
  refine lf (a_iincN dX7_init_32 rfl (by decide)) ?_
  refine lf (a_goto (tgt := 14) dX7_init_35 (by decide)) ?_
  refine lf (a_loc [(0, .ref p), (1, .int (nI 1))] rfl) ?_
  refine lf (a_iload_n dX7_init_14 rfl) ?_
  refine lf (a_iconst (4 : Int32) dX7_init_15 (by decide)) ?_
  refine lf2 (a_icmp_ge (tgt := 38) dX7_init_16 (by decide)) (fun h => absurd h (by decide)) (fun h => ?_)
  refine lf (a_aload_n dX7_init_19 rfl) ?_
  refine lf (a_getR ((hB.2.2.2 (p) (by omega) (by omega) 2).2.2.trans ((cl2_ne (by omega) 2).trans ((cl2_at 2).trans rfl)) : gR W3 (p) 2 = some (p + 1)) dX7_init_20 fs_X7_11 rfl (hB.ob (by omega) hk0)) ?_
  refine lf (a_iload_n dX7_init_23 rfl) ?_
  refine lf (a_new (c9 := 0) (b' := (17, 106)) dX7_init_24 cls_X0 cx_X7_9 in_X0 ini_RX0 (fun j hj => by rcases (by omega : j = 0 ∨ j = 1 ∨ j = 2) with e | e | e <;> subst e <;> rfl) (by rw [hB.1]; exact km_k k3 (by decide)) (by have := k3b; rw [hB.1]; omega) rfl) ?_
  rw [hB.1]
  refine lf (a_dup dX7_init_27 rfl) ?_
  obtain ⟨v28, V28, c28, rfl, g28⟩ := i_X0_init (nu_mk hB.1) k3 z3
  refine lf (a_invIN (b2 := (17, 106)) c28 rfl dX7_init_28 yk_X0_init rfl rfl im_X0_init ⟨List.mem_cons_self, rfl⟩ rfl (by decide) ⟨Nat.le_of_ble_eq_true rfl, Nat.le_of_ble_eq_true rfl⟩ (Nat.le_of_ble_eq_true rfl)) ?_
  have hB : Bu μ (p) (p + 4) _ _ _ := bu_sub hB (by omega) g28 (fun i h1 h2 k => ((cl2_ne (by omega) k).trans (cl2_ne (by omega) k))) (fun i h1 h2 k => rfl)
  refine lf (a_aast (t := 25) (n := 4) (ci := 1) dX7_init_31 (hB.ar (by omega) q1.2.2.1 q1.1 q1.2.1) ⟨by decide, by decide⟩ (ixn (m := 1) (by decide) (by decide)) (hB.ob (by omega) k3) (by decide) (fun r hr => by rw [hc_X0 r hr]; rfl)) ?_
  have hB := bu_sR hB (by omega) 1 (some (p + 3))
  revert hB
  generalize sR V28 (p + 1) 1 (some (p + 3)) = W4
  intro hB
  refine lf (a_iincN dX7_init_32 rfl (by decide)) ?_
  refine lf (a_goto (tgt := 14) dX7_init_35 (by decide)) ?_
  refine lf (a_loc [(0, .ref p), (1, .int (nI 2))] rfl) ?_
  refine lf (a_iload_n dX7_init_14 rfl) ?_
  refine lf (a_iconst (4 : Int32) dX7_init_15 (by decide)) ?_
  refine lf2 (a_icmp_ge (tgt := 38) dX7_init_16 (by decide)) (fun h => absurd h (by decide)) (fun h => ?_)
  refine lf (a_aload_n dX7_init_19 rfl) ?_
  refine lf (a_getR ((hB.2.2.2 (p) (by omega) (by omega) 2).2.2.trans ((cl2_ne (by omega) 2).trans ((cl2_at 2).trans rfl)) : gR W4 (p) 2 = some (p + 1)) dX7_init_20 fs_X7_11 rfl (hB.ob (by omega) hk0)) ?_
  refine lf (a_iload_n dX7_init_23 rfl) ?_
  refine lf (a_new (c9 := 0) (b' := (16, 103)) dX7_init_24 cls_X0 cx_X7_9 in_X0 ini_RX0 (fun j hj => by rcases (by omega : j = 0 ∨ j = 1 ∨ j = 2) with e | e | e <;> subst e <;> rfl) (by rw [hB.1]; exact km_k k4 (by decide)) (by have := k4b; rw [hB.1]; omega) rfl) ?_
  rw [hB.1]
  refine lf (a_dup dX7_init_27 rfl) ?_
  obtain ⟨v28, V28, c28, rfl, g28⟩ := i_X0_init (nu_mk hB.1) k4 z4
  refine lf (a_invIN (b2 := (16, 103)) c28 rfl dX7_init_28 yk_X0_init rfl rfl im_X0_init ⟨List.mem_cons_self, rfl⟩ rfl (by decide) ⟨Nat.le_of_ble_eq_true rfl, Nat.le_of_ble_eq_true rfl⟩ (Nat.le_of_ble_eq_true rfl)) ?_
  have hB : Bu μ (p) (p + 5) _ _ _ := bu_sub hB (by omega) g28 (fun i h1 h2 k => ((cl2_ne (by omega) k).trans (cl2_ne (by omega) k))) (fun i h1 h2 k => rfl)
  refine lf (a_aast (t := 25) (n := 4) (ci := 1) dX7_init_31 (hB.ar (by omega) q1.2.2.1 q1.1 q1.2.1) ⟨by decide, by decide⟩ (ixn (m := 2) (by decide) (by decide)) (hB.ob (by omega) k4) (by decide) (fun r hr => by rw [hc_X0 r hr]; rfl)) ?_
  have hB := bu_sR hB (by omega) 2 (some (p + 4))
  revert hB
  generalize sR V28 (p + 1) 2 (some (p + 4)) = W5
  intro hB
  refine lf (a_iincN dX7_init_32 rfl (by decide)) ?_
  refine lf (a_goto (tgt := 14) dX7_init_35 (by decide)) ?_
  refine lf (a_loc [(0, .ref p), (1, .int (nI 3))] rfl) ?_
  refine lf (a_iload_n dX7_init_14 rfl) ?_
  refine lf (a_iconst (4 : Int32) dX7_init_15 (by decide)) ?_
  refine lf2 (a_icmp_ge (tgt := 38) dX7_init_16 (by decide)) (fun h => absurd h (by decide)) (fun h => ?_)
  refine lf (a_aload_n dX7_init_19 rfl) ?_
  refine lf (a_getR ((hB.2.2.2 (p) (by omega) (by omega) 2).2.2.trans ((cl2_ne (by omega) 2).trans ((cl2_at 2).trans rfl)) : gR W5 (p) 2 = some (p + 1)) dX7_init_20 fs_X7_11 rfl (hB.ob (by omega) hk0)) ?_
  refine lf (a_iload_n dX7_init_23 rfl) ?_
  refine lf (a_new (c9 := 0) (b' := (15, 100)) dX7_init_24 cls_X0 cx_X7_9 in_X0 ini_RX0 (fun j hj => by rcases (by omega : j = 0 ∨ j = 1 ∨ j = 2) with e | e | e <;> subst e <;> rfl) (by rw [hB.1]; exact km_k k5 (by decide)) (by have := k5b; rw [hB.1]; omega) rfl) ?_
  rw [hB.1]
  refine lf (a_dup dX7_init_27 rfl) ?_
  obtain ⟨v28, V28, c28, rfl, g28⟩ := i_X0_init (nu_mk hB.1) k5 z5
  refine lf (a_invIN (b2 := (15, 100)) c28 rfl dX7_init_28 yk_X0_init rfl rfl im_X0_init ⟨List.mem_cons_self, rfl⟩ rfl (by decide) ⟨Nat.le_of_ble_eq_true rfl, Nat.le_of_ble_eq_true rfl⟩ (Nat.le_of_ble_eq_true rfl)) ?_
  have hB : Bu μ (p) (p + 6) _ _ _ := bu_sub hB (by omega) g28 (fun i h1 h2 k => ((cl2_ne (by omega) k).trans (cl2_ne (by omega) k))) (fun i h1 h2 k => rfl)
  refine lf (a_aast (t := 25) (n := 4) (ci := 1) dX7_init_31 (hB.ar (by omega) q1.2.2.1 q1.1 q1.2.1) ⟨by decide, by decide⟩ (ixn (m := 3) (by decide) (by decide)) (hB.ob (by omega) k5) (by decide) (fun r hr => by rw [hc_X0 r hr]; rfl)) ?_
  have hB := bu_sR hB (by omega) 3 (some (p + 5))
  revert hB
  generalize sR V28 (p + 1) 3 (some (p + 5)) = W6
  intro hB
  refine lf (a_iincN dX7_init_32 rfl (by decide)) ?_
  refine lf (a_goto (tgt := 14) dX7_init_35 (by decide)) ?_
  refine lf (a_loc [(0, .ref p), (1, .int (nI 4))] rfl) ?_
  refine lf (a_iload_n dX7_init_14 rfl) ?_
  refine lf (a_iconst (4 : Int32) dX7_init_15 (by decide)) ?_
  refine lf2 (a_icmp_ge (tgt := 38) dX7_init_16 (by decide)) (fun h => ?_) (fun h => absurd (by decide) h)
  have hB := hB.congr (fun i _ _ k => cl2_close (by
      have h : ∀ p ∈ [3, 58], ∀ k, k < 39 → (upF (upF (upF (upF (fun _ => none) 0 (some (p + 2))) 1 (some (p + 3))) 2 (some (p + 4))) 3 (some (p + 5))) k = r1 (p + 1) k := by decide +kernel
      exact h p hpm) (fun k hk => by simp only [upF]; rw [if_neg (by omega)]; rw [if_neg (by omega)]; rw [if_neg (by omega)]; rw [if_neg (by omega)]) (by omega) i k)
  refine lf (a_aload_n dX7_init_38 rfl) ?_
  refine lf (a_bipush (12 : Int32) dX7_init_39 (by decide)) ?_
  refine lf (a_newQ (c9 := 12) (len := 12) (t := 26) (K := RX5) (b' := (14, 88)) dX7_init_41 cx_X7_18 (List.mem_cons_of_mem _ List.mem_cons_self) ⟨rfl, by decide, by decide⟩ (by decide) (by rw [hB.1]; exact (km_lt q6.2.2.1).trans q6.1) ((al_lt (by rw [hB.1]; exact q6.2.2.1)).trans (by rw [hB.1]; exact q6.2.1)) (by have := q6.2.2.1; rw [hB.1]; omega) rfl) ?_
  rw [hB.1]
  have hB : Bu μ (p) (p + 7) _ _ _ := bu_mkO hB (fun k => rfl) (by omega) 12
  revert hB
  generalize mk W6 12 = W7
  intro hB
  refine lf (a_putRF dX7_init_44 fs_X7_20 rfl rfl rfl hc_X7 (hB.ob (by omega) hk0)) ?_
  have hB := bu_sR2 hB (by omega) (by omega) 4 (some (p + 6))
  revert hB
  generalize sR W7 (p) 4 (some (p + 6)) = W8
  intro hB
  refine lf (a_iconst (0 : Int32) dX7_init_47 (by decide)) ?_
  refine lf (a_istore_n dX7_init_48 (by decide)) ?_
  refine lf (a_loc [(0, .ref p), (1, .int (nI 0))] rfl) ?_
  refine lf (a_iload_n dX7_init_49 rfl) ?_
  refine lf (a_bipush (12 : Int32) dX7_init_50 (by decide)) ?_
  refine lf2 (a_icmp_ge (tgt := 74) dX7_init_52 (by decide)) (fun h => absurd h (by decide)) (fun h => ?_)
  refine lf (a_aload_n dX7_init_55 rfl) ?_
  refine lf (a_getR ((hB.2.2.2 (p) (by omega) (by omega) 4).2.2.trans ((cl2_ne (by omega) 4).trans ((cl2_at 4).trans rfl)) : gR W8 (p) 4 = some (p + 6)) dX7_init_56 fs_X7_20 rfl (hB.ob (by omega) hk0)) ?_
  refine lf (a_iload_n dX7_init_59 rfl) ?_
  refine lf (a_new (c9 := 0) (b' := (13, 82)) dX7_init_60 cls_X5 cx_X7_18 in_X5 ini_RX5 (fun j hj => by rcases (by omega : j = 0 ∨ j = 1 ∨ j = 2 ∨ j = 3 ∨ j = 4 ∨ j = 5) with e | e | e | e | e | e <;> subst e <;> rfl) (by rw [hB.1]; exact km_k k7 (by decide)) (by have := k7b; rw [hB.1]; omega) rfl) ?_
  rw [hB.1]
  refine lf (a_dup dX7_init_63 rfl) ?_
  obtain ⟨v64, V64, c64, rfl, g64⟩ := i_X5_init (nu_mk hB.1) k7 z7
  refine lf (a_invIN (b2 := (13, 82)) c64 rfl dX7_init_64 yk_X5_init rfl rfl im_X5_init ⟨List.mem_cons_of_mem _ List.mem_cons_self, rfl⟩ rfl (by decide) ⟨Nat.le_of_ble_eq_true rfl, Nat.le_of_ble_eq_true rfl⟩ (Nat.le_of_ble_eq_true rfl)) ?_
  have hB : Bu μ (p) (p + 8) _ _ _ := bu_sub hB (by omega) g64 (fun i h1 h2 k => ((cl2_ne (by omega) k).trans (cl2_ne (by omega) k))) (fun i h1 h2 k => rfl)
  refine lf (a_aast (t := 26) (n := 12) (ci := 6) dX7_init_67 (hB.ar (by omega) q6.2.2.1 q6.1 q6.2.1) ⟨by decide, by decide⟩ (ixn (m := 0) (by decide) (by decide)) (hB.ob (by omega) k7) (by decide) (fun r hr => by rw [hc_X5 r hr]; rfl)) ?_
  have hB := bu_sR hB (by omega) 0 (some (p + 7))
  revert hB
  generalize sR V64 (p + 6) 0 (some (p + 7)) = W9
  intro hB
  refine lf (a_iincN dX7_init_68 rfl (by decide)) ?_
  refine lf (a_goto (tgt := 49) dX7_init_71 (by decide)) ?_
  refine lf (a_loc [(0, .ref p), (1, .int (nI 1))] rfl) ?_
  refine lf (a_iload_n dX7_init_49 rfl) ?_
  refine lf (a_bipush (12 : Int32) dX7_init_50 (by decide)) ?_
  refine lf2 (a_icmp_ge (tgt := 74) dX7_init_52 (by decide)) (fun h => absurd h (by decide)) (fun h => ?_)
  refine lf (a_aload_n dX7_init_55 rfl) ?_
  refine lf (a_getR ((hB.2.2.2 (p) (by omega) (by omega) 4).2.2.trans ((cl2_ne (by omega) 4).trans ((cl2_at 4).trans rfl)) : gR W9 (p) 4 = some (p + 6)) dX7_init_56 fs_X7_20 rfl (hB.ob (by omega) hk0)) ?_
  refine lf (a_iload_n dX7_init_59 rfl) ?_
  refine lf (a_new (c9 := 0) (b' := (12, 76)) dX7_init_60 cls_X5 cx_X7_18 in_X5 ini_RX5 (fun j hj => by rcases (by omega : j = 0 ∨ j = 1 ∨ j = 2 ∨ j = 3 ∨ j = 4 ∨ j = 5) with e | e | e | e | e | e <;> subst e <;> rfl) (by rw [hB.1]; exact km_k k8 (by decide)) (by have := k8b; rw [hB.1]; omega) rfl) ?_
  rw [hB.1]
  refine lf (a_dup dX7_init_63 rfl) ?_
  obtain ⟨v64, V64, c64, rfl, g64⟩ := i_X5_init (nu_mk hB.1) k8 z8
  refine lf (a_invIN (b2 := (12, 76)) c64 rfl dX7_init_64 yk_X5_init rfl rfl im_X5_init ⟨List.mem_cons_of_mem _ List.mem_cons_self, rfl⟩ rfl (by decide) ⟨Nat.le_of_ble_eq_true rfl, Nat.le_of_ble_eq_true rfl⟩ (Nat.le_of_ble_eq_true rfl)) ?_
  have hB : Bu μ (p) (p + 9) _ _ _ := bu_sub hB (by omega) g64 (fun i h1 h2 k => ((cl2_ne (by omega) k).trans (cl2_ne (by omega) k))) (fun i h1 h2 k => rfl)
  refine lf (a_aast (t := 26) (n := 12) (ci := 6) dX7_init_67 (hB.ar (by omega) q6.2.2.1 q6.1 q6.2.1) ⟨by decide, by decide⟩ (ixn (m := 1) (by decide) (by decide)) (hB.ob (by omega) k8) (by decide) (fun r hr => by rw [hc_X5 r hr]; rfl)) ?_
  have hB := bu_sR hB (by omega) 1 (some (p + 8))
  revert hB
  generalize sR V64 (p + 6) 1 (some (p + 8)) = W10
  intro hB
  refine lf (a_iincN dX7_init_68 rfl (by decide)) ?_
  refine lf (a_goto (tgt := 49) dX7_init_71 (by decide)) ?_
  refine lf (a_loc [(0, .ref p), (1, .int (nI 2))] rfl) ?_
  refine lf (a_iload_n dX7_init_49 rfl) ?_
  refine lf (a_bipush (12 : Int32) dX7_init_50 (by decide)) ?_
  refine lf2 (a_icmp_ge (tgt := 74) dX7_init_52 (by decide)) (fun h => absurd h (by decide)) (fun h => ?_)
  refine lf (a_aload_n dX7_init_55 rfl) ?_
  refine lf (a_getR ((hB.2.2.2 (p) (by omega) (by omega) 4).2.2.trans ((cl2_ne (by omega) 4).trans ((cl2_at 4).trans rfl)) : gR W10 (p) 4 = some (p + 6)) dX7_init_56 fs_X7_20 rfl (hB.ob (by omega) hk0)) ?_
  refine lf (a_iload_n dX7_init_59 rfl) ?_
  refine lf (a_new (c9 := 0) (b' := (11, 70)) dX7_init_60 cls_X5 cx_X7_18 in_X5 ini_RX5 (fun j hj => by rcases (by omega : j = 0 ∨ j = 1 ∨ j = 2 ∨ j = 3 ∨ j = 4 ∨ j = 5) with e | e | e | e | e | e <;> subst e <;> rfl) (by rw [hB.1]; exact km_k k9 (by decide)) (by have := k9b; rw [hB.1]; omega) rfl) ?_
  rw [hB.1]
  refine lf (a_dup dX7_init_63 rfl) ?_
  obtain ⟨v64, V64, c64, rfl, g64⟩ := i_X5_init (nu_mk hB.1) k9 z9
  refine lf (a_invIN (b2 := (11, 70)) c64 rfl dX7_init_64 yk_X5_init rfl rfl im_X5_init ⟨List.mem_cons_of_mem _ List.mem_cons_self, rfl⟩ rfl (by decide) ⟨Nat.le_of_ble_eq_true rfl, Nat.le_of_ble_eq_true rfl⟩ (Nat.le_of_ble_eq_true rfl)) ?_
  have hB : Bu μ (p) (p + 10) _ _ _ := bu_sub hB (by omega) g64 (fun i h1 h2 k => ((cl2_ne (by omega) k).trans (cl2_ne (by omega) k))) (fun i h1 h2 k => rfl)
  refine lf (a_aast (t := 26) (n := 12) (ci := 6) dX7_init_67 (hB.ar (by omega) q6.2.2.1 q6.1 q6.2.1) ⟨by decide, by decide⟩ (ixn (m := 2) (by decide) (by decide)) (hB.ob (by omega) k9) (by decide) (fun r hr => by rw [hc_X5 r hr]; rfl)) ?_
  have hB := bu_sR hB (by omega) 2 (some (p + 9))
  revert hB
  generalize sR V64 (p + 6) 2 (some (p + 9)) = W11
  intro hB
  refine lf (a_iincN dX7_init_68 rfl (by decide)) ?_
  refine lf (a_goto (tgt := 49) dX7_init_71 (by decide)) ?_
  refine lf (a_loc [(0, .ref p), (1, .int (nI 3))] rfl) ?_
  refine lf (a_iload_n dX7_init_49 rfl) ?_
  refine lf (a_bipush (12 : Int32) dX7_init_50 (by decide)) ?_
  refine lf2 (a_icmp_ge (tgt := 74) dX7_init_52 (by decide)) (fun h => absurd h (by decide)) (fun h => ?_)
  refine lf (a_aload_n dX7_init_55 rfl) ?_
  refine lf (a_getR ((hB.2.2.2 (p) (by omega) (by omega) 4).2.2.trans ((cl2_ne (by omega) 4).trans ((cl2_at 4).trans rfl)) : gR W11 (p) 4 = some (p + 6)) dX7_init_56 fs_X7_20 rfl (hB.ob (by omega) hk0)) ?_
  refine lf (a_iload_n dX7_init_59 rfl) ?_
  refine lf (a_new (c9 := 0) (b' := (10, 64)) dX7_init_60 cls_X5 cx_X7_18 in_X5 ini_RX5 (fun j hj => by rcases (by omega : j = 0 ∨ j = 1 ∨ j = 2 ∨ j = 3 ∨ j = 4 ∨ j = 5) with e | e | e | e | e | e <;> subst e <;> rfl) (by rw [hB.1]; exact km_k k10 (by decide)) (by have := k10b; rw [hB.1]; omega) rfl) ?_
  rw [hB.1]
  refine lf (a_dup dX7_init_63 rfl) ?_
  obtain ⟨v64, V64, c64, rfl, g64⟩ := i_X5_init (nu_mk hB.1) k10 z10
  refine lf (a_invIN (b2 := (10, 64)) c64 rfl dX7_init_64 yk_X5_init rfl rfl im_X5_init ⟨List.mem_cons_of_mem _ List.mem_cons_self, rfl⟩ rfl (by decide) ⟨Nat.le_of_ble_eq_true rfl, Nat.le_of_ble_eq_true rfl⟩ (Nat.le_of_ble_eq_true rfl)) ?_
  have hB : Bu μ (p) (p + 11) _ _ _ := bu_sub hB (by omega) g64 (fun i h1 h2 k => ((cl2_ne (by omega) k).trans (cl2_ne (by omega) k))) (fun i h1 h2 k => rfl)
  refine lf (a_aast (t := 26) (n := 12) (ci := 6) dX7_init_67 (hB.ar (by omega) q6.2.2.1 q6.1 q6.2.1) ⟨by decide, by decide⟩ (ixn (m := 3) (by decide) (by decide)) (hB.ob (by omega) k10) (by decide) (fun r hr => by rw [hc_X5 r hr]; rfl)) ?_
  have hB := bu_sR hB (by omega) 3 (some (p + 10))
  revert hB
  generalize sR V64 (p + 6) 3 (some (p + 10)) = W12
  intro hB
  refine lf (a_iincN dX7_init_68 rfl (by decide)) ?_
  refine lf (a_goto (tgt := 49) dX7_init_71 (by decide)) ?_
  refine lf (a_loc [(0, .ref p), (1, .int (nI 4))] rfl) ?_
  refine lf (a_iload_n dX7_init_49 rfl) ?_
  refine lf (a_bipush (12 : Int32) dX7_init_50 (by decide)) ?_
  refine lf2 (a_icmp_ge (tgt := 74) dX7_init_52 (by decide)) (fun h => absurd h (by decide)) (fun h => ?_)
  refine lf (a_aload_n dX7_init_55 rfl) ?_
  refine lf (a_getR ((hB.2.2.2 (p) (by omega) (by omega) 4).2.2.trans ((cl2_ne (by omega) 4).trans ((cl2_at 4).trans rfl)) : gR W12 (p) 4 = some (p + 6)) dX7_init_56 fs_X7_20 rfl (hB.ob (by omega) hk0)) ?_
  refine lf (a_iload_n dX7_init_59 rfl) ?_
  refine lf (a_new (c9 := 0) (b' := (9, 58)) dX7_init_60 cls_X5 cx_X7_18 in_X5 ini_RX5 (fun j hj => by rcases (by omega : j = 0 ∨ j = 1 ∨ j = 2 ∨ j = 3 ∨ j = 4 ∨ j = 5) with e | e | e | e | e | e <;> subst e <;> rfl) (by rw [hB.1]; exact km_k k11 (by decide)) (by have := k11b; rw [hB.1]; omega) rfl) ?_
  rw [hB.1]
  refine lf (a_dup dX7_init_63 rfl) ?_
  obtain ⟨v64, V64, c64, rfl, g64⟩ := i_X5_init (nu_mk hB.1) k11 z11
  refine lf (a_invIN (b2 := (9, 58)) c64 rfl dX7_init_64 yk_X5_init rfl rfl im_X5_init ⟨List.mem_cons_of_mem _ List.mem_cons_self, rfl⟩ rfl (by decide) ⟨Nat.le_of_ble_eq_true rfl, Nat.le_of_ble_eq_true rfl⟩ (Nat.le_of_ble_eq_true rfl)) ?_
  have hB : Bu μ (p) (p + 12) _ _ _ := bu_sub hB (by omega) g64 (fun i h1 h2 k => ((cl2_ne (by omega) k).trans (cl2_ne (by omega) k))) (fun i h1 h2 k => rfl)
  refine lf (a_aast (t := 26) (n := 12) (ci := 6) dX7_init_67 (hB.ar (by omega) q6.2.2.1 q6.1 q6.2.1) ⟨by decide, by decide⟩ (ixn (m := 4) (by decide) (by decide)) (hB.ob (by omega) k11) (by decide) (fun r hr => by rw [hc_X5 r hr]; rfl)) ?_
  have hB := bu_sR hB (by omega) 4 (some (p + 11))
  revert hB
  generalize sR V64 (p + 6) 4 (some (p + 11)) = W13
  intro hB
  refine lf (a_iincN dX7_init_68 rfl (by decide)) ?_
  refine lf (a_goto (tgt := 49) dX7_init_71 (by decide)) ?_
  refine lf (a_loc [(0, .ref p), (1, .int (nI 5))] rfl) ?_
  refine lf (a_iload_n dX7_init_49 rfl) ?_
  refine lf (a_bipush (12 : Int32) dX7_init_50 (by decide)) ?_
  refine lf2 (a_icmp_ge (tgt := 74) dX7_init_52 (by decide)) (fun h => absurd h (by decide)) (fun h => ?_)
  refine lf (a_aload_n dX7_init_55 rfl) ?_
  refine lf (a_getR ((hB.2.2.2 (p) (by omega) (by omega) 4).2.2.trans ((cl2_ne (by omega) 4).trans ((cl2_at 4).trans rfl)) : gR W13 (p) 4 = some (p + 6)) dX7_init_56 fs_X7_20 rfl (hB.ob (by omega) hk0)) ?_
  refine lf (a_iload_n dX7_init_59 rfl) ?_
  refine lf (a_new (c9 := 0) (b' := (8, 52)) dX7_init_60 cls_X5 cx_X7_18 in_X5 ini_RX5 (fun j hj => by rcases (by omega : j = 0 ∨ j = 1 ∨ j = 2 ∨ j = 3 ∨ j = 4 ∨ j = 5) with e | e | e | e | e | e <;> subst e <;> rfl) (by rw [hB.1]; exact km_k k12 (by decide)) (by have := k12b; rw [hB.1]; omega) rfl) ?_
  rw [hB.1]
  refine lf (a_dup dX7_init_63 rfl) ?_
  obtain ⟨v64, V64, c64, rfl, g64⟩ := i_X5_init (nu_mk hB.1) k12 z12
  refine lf (a_invIN (b2 := (8, 52)) c64 rfl dX7_init_64 yk_X5_init rfl rfl im_X5_init ⟨List.mem_cons_of_mem _ List.mem_cons_self, rfl⟩ rfl (by decide) ⟨Nat.le_of_ble_eq_true rfl, Nat.le_of_ble_eq_true rfl⟩ (Nat.le_of_ble_eq_true rfl)) ?_
  have hB : Bu μ (p) (p + 13) _ _ _ := bu_sub hB (by omega) g64 (fun i h1 h2 k => ((cl2_ne (by omega) k).trans (cl2_ne (by omega) k))) (fun i h1 h2 k => rfl)
  refine lf (a_aast (t := 26) (n := 12) (ci := 6) dX7_init_67 (hB.ar (by omega) q6.2.2.1 q6.1 q6.2.1) ⟨by decide, by decide⟩ (ixn (m := 5) (by decide) (by decide)) (hB.ob (by omega) k12) (by decide) (fun r hr => by rw [hc_X5 r hr]; rfl)) ?_
  have hB := bu_sR hB (by omega) 5 (some (p + 12))
  revert hB
  generalize sR V64 (p + 6) 5 (some (p + 12)) = W14
  intro hB
  refine lf (a_iincN dX7_init_68 rfl (by decide)) ?_
  refine lf (a_goto (tgt := 49) dX7_init_71 (by decide)) ?_
  refine lf (a_loc [(0, .ref p), (1, .int (nI 6))] rfl) ?_
  refine lf (a_iload_n dX7_init_49 rfl) ?_
  refine lf (a_bipush (12 : Int32) dX7_init_50 (by decide)) ?_
  refine lf2 (a_icmp_ge (tgt := 74) dX7_init_52 (by decide)) (fun h => absurd h (by decide)) (fun h => ?_)
  refine lf (a_aload_n dX7_init_55 rfl) ?_
  refine lf (a_getR ((hB.2.2.2 (p) (by omega) (by omega) 4).2.2.trans ((cl2_ne (by omega) 4).trans ((cl2_at 4).trans rfl)) : gR W14 (p) 4 = some (p + 6)) dX7_init_56 fs_X7_20 rfl (hB.ob (by omega) hk0)) ?_
  refine lf (a_iload_n dX7_init_59 rfl) ?_
  refine lf (a_new (c9 := 0) (b' := (7, 46)) dX7_init_60 cls_X5 cx_X7_18 in_X5 ini_RX5 (fun j hj => by rcases (by omega : j = 0 ∨ j = 1 ∨ j = 2 ∨ j = 3 ∨ j = 4 ∨ j = 5) with e | e | e | e | e | e <;> subst e <;> rfl) (by rw [hB.1]; exact km_k k13 (by decide)) (by have := k13b; rw [hB.1]; omega) rfl) ?_
  rw [hB.1]
  refine lf (a_dup dX7_init_63 rfl) ?_
  obtain ⟨v64, V64, c64, rfl, g64⟩ := i_X5_init (nu_mk hB.1) k13 z13
  refine lf (a_invIN (b2 := (7, 46)) c64 rfl dX7_init_64 yk_X5_init rfl rfl im_X5_init ⟨List.mem_cons_of_mem _ List.mem_cons_self, rfl⟩ rfl (by decide) ⟨Nat.le_of_ble_eq_true rfl, Nat.le_of_ble_eq_true rfl⟩ (Nat.le_of_ble_eq_true rfl)) ?_
  have hB : Bu μ (p) (p + 14) _ _ _ := bu_sub hB (by omega) g64 (fun i h1 h2 k => ((cl2_ne (by omega) k).trans (cl2_ne (by omega) k))) (fun i h1 h2 k => rfl)
  refine lf (a_aast (t := 26) (n := 12) (ci := 6) dX7_init_67 (hB.ar (by omega) q6.2.2.1 q6.1 q6.2.1) ⟨by decide, by decide⟩ (ixn (m := 6) (by decide) (by decide)) (hB.ob (by omega) k13) (by decide) (fun r hr => by rw [hc_X5 r hr]; rfl)) ?_
  have hB := bu_sR hB (by omega) 6 (some (p + 13))
  revert hB
  generalize sR V64 (p + 6) 6 (some (p + 13)) = W15
  intro hB
  refine lf (a_iincN dX7_init_68 rfl (by decide)) ?_
  refine lf (a_goto (tgt := 49) dX7_init_71 (by decide)) ?_
  refine lf (a_loc [(0, .ref p), (1, .int (nI 7))] rfl) ?_
  refine lf (a_iload_n dX7_init_49 rfl) ?_
  refine lf (a_bipush (12 : Int32) dX7_init_50 (by decide)) ?_
  refine lf2 (a_icmp_ge (tgt := 74) dX7_init_52 (by decide)) (fun h => absurd h (by decide)) (fun h => ?_)
  refine lf (a_aload_n dX7_init_55 rfl) ?_
  refine lf (a_getR ((hB.2.2.2 (p) (by omega) (by omega) 4).2.2.trans ((cl2_ne (by omega) 4).trans ((cl2_at 4).trans rfl)) : gR W15 (p) 4 = some (p + 6)) dX7_init_56 fs_X7_20 rfl (hB.ob (by omega) hk0)) ?_
  refine lf (a_iload_n dX7_init_59 rfl) ?_
  refine lf (a_new (c9 := 0) (b' := (6, 40)) dX7_init_60 cls_X5 cx_X7_18 in_X5 ini_RX5 (fun j hj => by rcases (by omega : j = 0 ∨ j = 1 ∨ j = 2 ∨ j = 3 ∨ j = 4 ∨ j = 5) with e | e | e | e | e | e <;> subst e <;> rfl) (by rw [hB.1]; exact km_k k14 (by decide)) (by have := k14b; rw [hB.1]; omega) rfl) ?_
  rw [hB.1]
  refine lf (a_dup dX7_init_63 rfl) ?_
  obtain ⟨v64, V64, c64, rfl, g64⟩ := i_X5_init (nu_mk hB.1) k14 z14
  refine lf (a_invIN (b2 := (6, 40)) c64 rfl dX7_init_64 yk_X5_init rfl rfl im_X5_init ⟨List.mem_cons_of_mem _ List.mem_cons_self, rfl⟩ rfl (by decide) ⟨Nat.le_of_ble_eq_true rfl, Nat.le_of_ble_eq_true rfl⟩ (Nat.le_of_ble_eq_true rfl)) ?_
  have hB : Bu μ (p) (p + 15) _ _ _ := bu_sub hB (by omega) g64 (fun i h1 h2 k => ((cl2_ne (by omega) k).trans (cl2_ne (by omega) k))) (fun i h1 h2 k => rfl)
  refine lf (a_aast (t := 26) (n := 12) (ci := 6) dX7_init_67 (hB.ar (by omega) q6.2.2.1 q6.1 q6.2.1) ⟨by decide, by decide⟩ (ixn (m := 7) (by decide) (by decide)) (hB.ob (by omega) k14) (by decide) (fun r hr => by rw [hc_X5 r hr]; rfl)) ?_
  have hB := bu_sR hB (by omega) 7 (some (p + 14))
  revert hB
  generalize sR V64 (p + 6) 7 (some (p + 14)) = W16
  intro hB
  refine lf (a_iincN dX7_init_68 rfl (by decide)) ?_
  refine lf (a_goto (tgt := 49) dX7_init_71 (by decide)) ?_
  refine lf (a_loc [(0, .ref p), (1, .int (nI 8))] rfl) ?_
  refine lf (a_iload_n dX7_init_49 rfl) ?_
  refine lf (a_bipush (12 : Int32) dX7_init_50 (by decide)) ?_
  refine lf2 (a_icmp_ge (tgt := 74) dX7_init_52 (by decide)) (fun h => absurd h (by decide)) (fun h => ?_)
  refine lf (a_aload_n dX7_init_55 rfl) ?_
  refine lf (a_getR ((hB.2.2.2 (p) (by omega) (by omega) 4).2.2.trans ((cl2_ne (by omega) 4).trans ((cl2_at 4).trans rfl)) : gR W16 (p) 4 = some (p + 6)) dX7_init_56 fs_X7_20 rfl (hB.ob (by omega) hk0)) ?_
  refine lf (a_iload_n dX7_init_59 rfl) ?_
  refine lf (a_new (c9 := 0) (b' := (5, 34)) dX7_init_60 cls_X5 cx_X7_18 in_X5 ini_RX5 (fun j hj => by rcases (by omega : j = 0 ∨ j = 1 ∨ j = 2 ∨ j = 3 ∨ j = 4 ∨ j = 5) with e | e | e | e | e | e <;> subst e <;> rfl) (by rw [hB.1]; exact km_k k15 (by decide)) (by have := k15b; rw [hB.1]; omega) rfl) ?_
  rw [hB.1]
  refine lf (a_dup dX7_init_63 rfl) ?_
  obtain ⟨v64, V64, c64, rfl, g64⟩ := i_X5_init (nu_mk hB.1) k15 z15
  refine lf (a_invIN (b2 := (5, 34)) c64 rfl dX7_init_64 yk_X5_init rfl rfl im_X5_init ⟨List.mem_cons_of_mem _ List.mem_cons_self, rfl⟩ rfl (by decide) ⟨Nat.le_of_ble_eq_true rfl, Nat.le_of_ble_eq_true rfl⟩ (Nat.le_of_ble_eq_true rfl)) ?_
  have hB : Bu μ (p) (p + 16) _ _ _ := bu_sub hB (by omega) g64 (fun i h1 h2 k => ((cl2_ne (by omega) k).trans (cl2_ne (by omega) k))) (fun i h1 h2 k => rfl)
  refine lf (a_aast (t := 26) (n := 12) (ci := 6) dX7_init_67 (hB.ar (by omega) q6.2.2.1 q6.1 q6.2.1) ⟨by decide, by decide⟩ (ixn (m := 8) (by decide) (by decide)) (hB.ob (by omega) k15) (by decide) (fun r hr => by rw [hc_X5 r hr]; rfl)) ?_
  have hB := bu_sR hB (by omega) 8 (some (p + 15))
  revert hB
  generalize sR V64 (p + 6) 8 (some (p + 15)) = W17
  intro hB
  refine lf (a_iincN dX7_init_68 rfl (by decide)) ?_
  refine lf (a_goto (tgt := 49) dX7_init_71 (by decide)) ?_
  refine lf (a_loc [(0, .ref p), (1, .int (nI 9))] rfl) ?_
  refine lf (a_iload_n dX7_init_49 rfl) ?_
  refine lf (a_bipush (12 : Int32) dX7_init_50 (by decide)) ?_
  refine lf2 (a_icmp_ge (tgt := 74) dX7_init_52 (by decide)) (fun h => absurd h (by decide)) (fun h => ?_)
  refine lf (a_aload_n dX7_init_55 rfl) ?_
  refine lf (a_getR ((hB.2.2.2 (p) (by omega) (by omega) 4).2.2.trans ((cl2_ne (by omega) 4).trans ((cl2_at 4).trans rfl)) : gR W17 (p) 4 = some (p + 6)) dX7_init_56 fs_X7_20 rfl (hB.ob (by omega) hk0)) ?_
  refine lf (a_iload_n dX7_init_59 rfl) ?_
  refine lf (a_new (c9 := 0) (b' := (4, 28)) dX7_init_60 cls_X5 cx_X7_18 in_X5 ini_RX5 (fun j hj => by rcases (by omega : j = 0 ∨ j = 1 ∨ j = 2 ∨ j = 3 ∨ j = 4 ∨ j = 5) with e | e | e | e | e | e <;> subst e <;> rfl) (by rw [hB.1]; exact km_k k16 (by decide)) (by have := k16b; rw [hB.1]; omega) rfl) ?_
  rw [hB.1]
  refine lf (a_dup dX7_init_63 rfl) ?_
  obtain ⟨v64, V64, c64, rfl, g64⟩ := i_X5_init (nu_mk hB.1) k16 z16
  refine lf (a_invIN (b2 := (4, 28)) c64 rfl dX7_init_64 yk_X5_init rfl rfl im_X5_init ⟨List.mem_cons_of_mem _ List.mem_cons_self, rfl⟩ rfl (by decide) ⟨Nat.le_of_ble_eq_true rfl, Nat.le_of_ble_eq_true rfl⟩ (Nat.le_of_ble_eq_true rfl)) ?_
  have hB : Bu μ (p) (p + 17) _ _ _ := bu_sub hB (by omega) g64 (fun i h1 h2 k => ((cl2_ne (by omega) k).trans (cl2_ne (by omega) k))) (fun i h1 h2 k => rfl)
  refine lf (a_aast (t := 26) (n := 12) (ci := 6) dX7_init_67 (hB.ar (by omega) q6.2.2.1 q6.1 q6.2.1) ⟨by decide, by decide⟩ (ixn (m := 9) (by decide) (by decide)) (hB.ob (by omega) k16) (by decide) (fun r hr => by rw [hc_X5 r hr]; rfl)) ?_
  have hB := bu_sR hB (by omega) 9 (some (p + 16))
  revert hB
  generalize sR V64 (p + 6) 9 (some (p + 16)) = W18
  intro hB
  refine lf (a_iincN dX7_init_68 rfl (by decide)) ?_
  refine lf (a_goto (tgt := 49) dX7_init_71 (by decide)) ?_
  refine lf (a_loc [(0, .ref p), (1, .int (nI 10))] rfl) ?_
  refine lf (a_iload_n dX7_init_49 rfl) ?_
  refine lf (a_bipush (12 : Int32) dX7_init_50 (by decide)) ?_
  refine lf2 (a_icmp_ge (tgt := 74) dX7_init_52 (by decide)) (fun h => absurd h (by decide)) (fun h => ?_)
  refine lf (a_aload_n dX7_init_55 rfl) ?_
  refine lf (a_getR ((hB.2.2.2 (p) (by omega) (by omega) 4).2.2.trans ((cl2_ne (by omega) 4).trans ((cl2_at 4).trans rfl)) : gR W18 (p) 4 = some (p + 6)) dX7_init_56 fs_X7_20 rfl (hB.ob (by omega) hk0)) ?_
  refine lf (a_iload_n dX7_init_59 rfl) ?_
  refine lf (a_new (c9 := 0) (b' := (3, 22)) dX7_init_60 cls_X5 cx_X7_18 in_X5 ini_RX5 (fun j hj => by rcases (by omega : j = 0 ∨ j = 1 ∨ j = 2 ∨ j = 3 ∨ j = 4 ∨ j = 5) with e | e | e | e | e | e <;> subst e <;> rfl) (by rw [hB.1]; exact km_k k17 (by decide)) (by have := k17b; rw [hB.1]; omega) rfl) ?_
  rw [hB.1]
  refine lf (a_dup dX7_init_63 rfl) ?_
  obtain ⟨v64, V64, c64, rfl, g64⟩ := i_X5_init (nu_mk hB.1) k17 z17
  refine lf (a_invIN (b2 := (3, 22)) c64 rfl dX7_init_64 yk_X5_init rfl rfl im_X5_init ⟨List.mem_cons_of_mem _ List.mem_cons_self, rfl⟩ rfl (by decide) ⟨Nat.le_of_ble_eq_true rfl, Nat.le_of_ble_eq_true rfl⟩ (Nat.le_of_ble_eq_true rfl)) ?_
  have hB : Bu μ (p) (p + 18) _ _ _ := bu_sub hB (by omega) g64 (fun i h1 h2 k => ((cl2_ne (by omega) k).trans (cl2_ne (by omega) k))) (fun i h1 h2 k => rfl)
  refine lf (a_aast (t := 26) (n := 12) (ci := 6) dX7_init_67 (hB.ar (by omega) q6.2.2.1 q6.1 q6.2.1) ⟨by decide, by decide⟩ (ixn (m := 10) (by decide) (by decide)) (hB.ob (by omega) k17) (by decide) (fun r hr => by rw [hc_X5 r hr]; rfl)) ?_
  have hB := bu_sR hB (by omega) 10 (some (p + 17))
  revert hB
  generalize sR V64 (p + 6) 10 (some (p + 17)) = W19
  intro hB
  refine lf (a_iincN dX7_init_68 rfl (by decide)) ?_
  refine lf (a_goto (tgt := 49) dX7_init_71 (by decide)) ?_
  refine lf (a_loc [(0, .ref p), (1, .int (nI 11))] rfl) ?_
  refine lf (a_iload_n dX7_init_49 rfl) ?_
  refine lf (a_bipush (12 : Int32) dX7_init_50 (by decide)) ?_
  refine lf2 (a_icmp_ge (tgt := 74) dX7_init_52 (by decide)) (fun h => absurd h (by decide)) (fun h => ?_)
  refine lf (a_aload_n dX7_init_55 rfl) ?_
  refine lf (a_getR ((hB.2.2.2 (p) (by omega) (by omega) 4).2.2.trans ((cl2_ne (by omega) 4).trans ((cl2_at 4).trans rfl)) : gR W19 (p) 4 = some (p + 6)) dX7_init_56 fs_X7_20 rfl (hB.ob (by omega) hk0)) ?_
  refine lf (a_iload_n dX7_init_59 rfl) ?_
  refine lf (a_new (c9 := 0) (b' := (2, 16)) dX7_init_60 cls_X5 cx_X7_18 in_X5 ini_RX5 (fun j hj => by rcases (by omega : j = 0 ∨ j = 1 ∨ j = 2 ∨ j = 3 ∨ j = 4 ∨ j = 5) with e | e | e | e | e | e <;> subst e <;> rfl) (by rw [hB.1]; exact km_k k18 (by decide)) (by have := k18b; rw [hB.1]; omega) rfl) ?_
  rw [hB.1]
  refine lf (a_dup dX7_init_63 rfl) ?_
  obtain ⟨v64, V64, c64, rfl, g64⟩ := i_X5_init (nu_mk hB.1) k18 z18
  refine lf (a_invIN (b2 := (2, 16)) c64 rfl dX7_init_64 yk_X5_init rfl rfl im_X5_init ⟨List.mem_cons_of_mem _ List.mem_cons_self, rfl⟩ rfl (by decide) ⟨Nat.le_of_ble_eq_true rfl, Nat.le_of_ble_eq_true rfl⟩ (Nat.le_of_ble_eq_true rfl)) ?_
  have hB : Bu μ (p) (p + 19) _ _ _ := bu_sub hB (by omega) g64 (fun i h1 h2 k => ((cl2_ne (by omega) k).trans (cl2_ne (by omega) k))) (fun i h1 h2 k => rfl)
  refine lf (a_aast (t := 26) (n := 12) (ci := 6) dX7_init_67 (hB.ar (by omega) q6.2.2.1 q6.1 q6.2.1) ⟨by decide, by decide⟩ (ixn (m := 11) (by decide) (by decide)) (hB.ob (by omega) k18) (by decide) (fun r hr => by rw [hc_X5 r hr]; rfl)) ?_
  have hB := bu_sR hB (by omega) 11 (some (p + 18))
  revert hB
  generalize sR V64 (p + 6) 11 (some (p + 18)) = W20
  intro hB
  refine lf (a_iincN dX7_init_68 rfl (by decide)) ?_
  refine lf (a_goto (tgt := 49) dX7_init_71 (by decide)) ?_
  refine lf (a_loc [(0, .ref p), (1, .int (nI 12))] rfl) ?_
  refine lf (a_iload_n dX7_init_49 rfl) ?_
  refine lf (a_bipush (12 : Int32) dX7_init_50 (by decide)) ?_
  refine lf2 (a_icmp_ge (tgt := 74) dX7_init_52 (by decide)) (fun h => ?_) (fun h => absurd (by decide) h)
  have hB := hB.congr (fun i _ _ k => cl2_close (by
      have h : ∀ p ∈ [3, 58], ∀ k, k < 39 → (upF (upF (upF (upF (upF (upF (upF (upF (upF (upF (upF (upF (fun _ => none) 0 (some (p + 7))) 1 (some (p + 8))) 2 (some (p + 9))) 3 (some (p + 10))) 4 (some (p + 11))) 5 (some (p + 12))) 6 (some (p + 13))) 7 (some (p + 14))) 8 (some (p + 15))) 9 (some (p + 16))) 10 (some (p + 17))) 11 (some (p + 18))) k = r1 (p + 6) k := by decide +kernel
      exact h p hpm) (fun k hk => by simp only [upF]; rw [if_neg (by omega)]; rw [if_neg (by omega)]; rw [if_neg (by omega)]; rw [if_neg (by omega)]; rw [if_neg (by omega)]; rw [if_neg (by omega)]; rw [if_neg (by omega)]; rw [if_neg (by omega)]; rw [if_neg (by omega)]; rw [if_neg (by omega)]; rw [if_neg (by omega)]; rw [if_neg (by omega)]) (by omega) i k)
  refine lf (a_aload_n dX7_init_74 rfl) ?_
  refine lf (a_bipush (8 : Int32) dX7_init_75 (by decide)) ?_
  refine lf (a_newI (c9 := 8) (len := 8) (t := 20) (aty := .int) (ty := .int) (b' := (1, 8)) dX7_init_77 rfl acw_int ⟨rfl, by decide, by decide, by decide⟩ rfl (by decide) (by decide) (by rw [hB.1]; exact (km_lt q19.2.2.1).trans q19.1) ((al_lt (by rw [hB.1]; exact q19.2.2.1)).trans (by rw [hB.1]; exact q19.2.1)) (by have := q19.2.2.1; rw [hB.1]; omega) rfl) ?_
  rw [hB.1]
  have hB : Bu μ (p) (p + 20) _ _ _ := bu_mk hB (fun k => (cl2_ne (by omega) k).trans (q19.2.2.2 k)) (fun k => rfl) (by omega) 8
  revert hB
  generalize mk W20 8 = W21
  intro hB
  refine lf (a_putRF dX7_init_79 fs_X7_25 rfl rfl rfl hc_X7 (hB.ob (by omega) hk0)) ?_
  have hB := bu_sR hB (by omega) 6 (some (p + 19))
  revert hB
  generalize sR W21 (p) 6 (some (p + 19)) = W22
  intro hB
  refine lf (a_aload_n dX7_init_82 rfl) ?_
  refine lf (a_bipush (8 : Int32) dX7_init_83 (by decide)) ?_
  refine lf (a_newI (c9 := 8) (len := 8) (t := 20) (aty := .int) (ty := .int) (b' := (0, 0)) dX7_init_85 rfl acw_int ⟨rfl, by decide, by decide, by decide⟩ rfl (by decide) (by decide) (by rw [hB.1]; exact (km_lt q20.2.2.1).trans q20.1) ((al_lt (by rw [hB.1]; exact q20.2.2.1)).trans (by rw [hB.1]; exact q20.2.1)) (by have := q20.2.2.1; rw [hB.1]; omega) rfl) ?_
  rw [hB.1]
  have hB : Bu μ (p) (p + 21) _ _ _ := bu_mk hB (fun k => (cl2_ne (by omega) k).trans (q20.2.2.2 k)) (fun k => rfl) (by omega) 8
  revert hB
  generalize mk W22 8 = W23
  intro hB
  refine lf (a_putRF dX7_init_87 fs_X7_29 rfl rfl rfl hc_X7 (hB.ob (by omega) hk0)) ?_
  have hB := bu_sR hB (by omega) 7 (some (p + 20))
  revert hB
  generalize sR W23 (p) 7 (some (p + 20)) = W24
  intro hB
  refine ⟨_, _, a_return dX7_init_90 rfl, ?_⟩
  exact ⟨_, rfl, rfl, hB.congr (fun i _ _ k => cl2_closeA (by
      have h : ∀ p ∈ [3, 58], ∀ k, k < 39 → (upF (upF (upF (upF (fun _ => none) 2 (some (p + 1))) 4 (some (p + 6))) 6 (some (p + 19))) 7 (some (p + 20))) k = r1 p k := by decide +kernel
      exact h p hpm) (fun k hk => by simp only [upF]; rw [if_neg (by omega)]; rw [if_neg (by omega)]; rw [if_neg (by omega)]; rw [if_neg (by omega)]) i k)⟩
end CTORP
