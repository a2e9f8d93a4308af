section SBW
variable {μ W : Wd} {lo a r : Nat} {l s : List Nat}
theorem sm5_aS : Cond.sameMethod yJ5_append_cf1ce.cls yJ5_append_cf1ce.cls yJ5_append_cf1ce.name yJ5_append_cf1ce.desc ∈ lwa := lwa_in 1127 (by decide +kernel) rfl
theorem sm5_aC : Cond.sameMethod yJ5_append_3fe6f.cls yJ5_append_3fe6f.cls yJ5_append_3fe6f.name yJ5_append_3fe6f.desc ∈ lwa := lwa_in 1572 (by decide +kernel) rfl
theorem sm5_aI : Cond.sameMethod yJ5_append_c97b9.cls yJ5_append_c97b9.cls yJ5_append_c97b9.name yJ5_append_c97b9.desc ∈ lwa := lwa_in 1571 (by decide +kernel) rfl
theorem sm5_ln : Cond.sameMethod yJ5_length_8abf5.cls yJ5_length_8abf5.cls yJ5_length_8abf5.name yJ5_length_8abf5.desc ∈ lwa := lwa_in 1298 (by decide +kernel) rfl
theorem su_SB : Cond.superclass RJ4 RJ5 ∈ lwa := lwa_in 1136 (by decide +kernel) rfl
theorem in_SB : Cond.instantiable RJ4 4 ∈ lwa := lwa_in 1111 (by decide +kernel) rfl
theorem so_aS : Cond.selects RJ4 yJ5_append_cf1ce yJ4_append_cf1ce ∈ lwa := lwa_in 1128 (by decide +kernel) rfl
theorem so_ln : Cond.selects RJ4 yJ5_length_8abf5 yJ4_length_8abf5 ∈ lwa := lwa_in 1299 (by decide +kernel) rfl
theorem cw_Str4 : Cond.classLink RJ4 18 "java/lang/String" ∈ lwa := lwa_in 1284 (by decide +kernel) rfl
abbrev R_J4_append_15ec4 : Room := { frames := 12, cells := 1, slots := 1900, locals := 600 }
theorem t_J4_append_15ec4 (hw : Wf μ) {q0 : Nat} (hS : SbV lo μ a l q0) (hs : StrV μ r s) (hl : l.length + s.length ≤ 900) (hm : wn μ + 1 < 1000000) : CV Y_J4_append_15ec4 R_J4_append_15ec4 [.ref a, .ref r] μ (SaQ lo μ a (l ++ s)) := by
  refine CV.ent yk_J4_append_15ec4 (Nat.le_of_ble_eq_true rfl) ?_
  have ho := hS.ob
  refine lf (a_aload_n dJ4_append_15ec4_0 rfl) ?_
  refine lf (a_aload_n dJ4_append_15ec4_1 rfl) ?_
  obtain ⟨v_, W2, k2, rfl, hE, hwn, hS2⟩ := (t_J5_append_cf1ce hw hS hs hl hm)
  refine lf (a_invSup (b2 := (0, 0)) k2 rfl dJ4_append_15ec4_2 yk_J5_append_cf1ce im_J5_append_cf1ce ml_J4_29 sm5_aS su_SB (by decide) in_SB rfl ho (by decide) hc_J4 (by decide) ⟨Nat.le_refl _, Nat.le_refl _⟩ (Nat.le_of_ble_eq_true rfl)) ?_
  refine lf (a_pop dJ4_append_15ec4_5 rfl) ?_
  refine lf (a_aload_n dJ4_append_15ec4_6 rfl) ?_
  refine ⟨_, _, (a_areturn dJ4_append_15ec4_7 rfl (by first | exact Or.inl ⟨_, rfl⟩ | exact Or.inr ⟨_, rfl⟩)), ?_⟩
  exact ⟨_, rfl, rfl, hE, hwn, hS2⟩
abbrev R_J4_append_cf468 : Room := { frames := 12, cells := 1, slots := 1900, locals := 600 }
theorem t_J4_append_cf468 (hw : Wf μ) {q0 : Nat} (hS : SbV lo μ a l q0) {x : Nat} (hx : x < 128) (hl : l.length + 1 ≤ 900) (hm : wn μ + 1 < 1000000) : CV Y_J4_append_cf468 R_J4_append_cf468 [.ref a, .int (nI x)] μ (SaQ lo μ a (l ++ [x])) := by
  refine CV.ent yk_J4_append_cf468 (Nat.le_of_ble_eq_true rfl) ?_
  have ho := hS.ob
  refine lf (a_aload_n dJ4_append_cf468_0 rfl) ?_
  refine lf (a_iload_n dJ4_append_cf468_1 rfl) ?_
  obtain ⟨v_, W2, k2, rfl, hE, hwn, hS2⟩ := (t_J5_append_3fe6f hw hS hx hl hm)
  refine lf (a_invSup (b2 := (0, 0)) k2 rfl dJ4_append_cf468_2 yk_J5_append_3fe6f im_J5_append_3fe6f ml_J4_50 sm5_aC su_SB (by decide) in_SB rfl ho (by decide) hc_J4 (by decide) ⟨Nat.le_refl _, Nat.le_refl _⟩ (Nat.le_of_ble_eq_true rfl)) ?_
  refine lf (a_pop dJ4_append_cf468_5 rfl) ?_
  refine lf (a_aload_n dJ4_append_cf468_6 rfl) ?_
  refine ⟨_, _, (a_areturn dJ4_append_cf468_7 rfl (by first | exact Or.inl ⟨_, rfl⟩ | exact Or.inr ⟨_, rfl⟩)), ?_⟩
  exact ⟨_, rfl, rfl, hE, hwn, hS2⟩
abbrev R_J4_append_bf812 : Room := { frames := 12, cells := 1, slots := 1900, locals := 600 }
theorem t_J4_append_bf812 (hw : Wf μ) {q0 : Nat} (hS : SbV lo μ a l q0) {n : Nat} (h : n < 100) (hl : l.length + 2 ≤ 900) (hm : wn μ + 1 < 1000000) : CV Y_J4_append_bf812 R_J4_append_bf812 [.ref a, .int (nI n)] μ (SaQ lo μ a (l ++ dgL n)) := by
  refine CV.ent yk_J4_append_bf812 (Nat.le_of_ble_eq_true rfl) ?_
  have ho := hS.ob
  refine lf (a_aload_n dJ4_append_bf812_0 rfl) ?_
  refine lf (a_iload_n dJ4_append_bf812_1 rfl) ?_
  obtain ⟨v_, W2, k2, rfl, hE, hwn, hS2⟩ := (t_J5_append_c97b9 hw hS h hl hm)
  refine lf (a_invSup (b2 := (0, 0)) k2 rfl dJ4_append_bf812_2 yk_J5_append_c97b9 im_J5_append_c97b9 ml_J4_53 sm5_aI su_SB (by decide) in_SB rfl ho (by decide) hc_J4 (by decide) ⟨Nat.le_refl _, Nat.le_refl _⟩ (Nat.le_of_ble_eq_true rfl)) ?_
  refine lf (a_pop dJ4_append_bf812_5 rfl) ?_
  refine lf (a_aload_n dJ4_append_bf812_6 rfl) ?_
  refine ⟨_, _, (a_areturn dJ4_append_bf812_7 rfl (by first | exact Or.inl ⟨_, rfl⟩ | exact Or.inr ⟨_, rfl⟩)), ?_⟩
  exact ⟨_, rfl, rfl, hE, hwn, hS2⟩
abbrev R_J4_append_cf1ce : Room := { frames := 14, cells := 1, slots := 1900, locals := 700 }
theorem t_J4_append_cf1ce (hw : Wf μ) {q0 : Nat} (hS : SbV lo μ a l q0) (hs : StrV μ r s) (hl : l.length + s.length ≤ 900) (hm : wn μ + 1 < 1000000) : CV Y_J4_append_cf1ce R_J4_append_cf1ce [.ref a, .ref r] μ (SaQ lo μ a (l ++ s)) := by
  refine CV.ent yk_J4_append_cf1ce (Nat.le_of_ble_eq_true rfl) ?_
  have ho := hS.ob
  refine lf (a_aload_n dJ4_append_cf1ce_0 rfl) ?_
  refine lf (a_aload_n dJ4_append_cf1ce_1 rfl) ?_
  obtain ⟨v_, W2, k2, rfl, hE, hwn, hS2⟩ := (t_J4_append_15ec4 hw hS hs hl hm)
  refine lf (a_inv (b2 := (0, 0)) k2 rfl dJ4_append_cf1ce_2 yk_J4_append_15ec4 im_J4_append_15ec4 se_J4_append_15ec4 ml_J4_23 rfl ho (by decide) hc_J4 (by decide) ⟨Nat.le_refl _, Nat.le_refl _⟩ (Nat.le_of_ble_eq_true rfl)) ?_
  refine ⟨_, _, (a_areturn dJ4_append_cf1ce_5 rfl (by first | exact Or.inl ⟨_, rfl⟩ | exact Or.inr ⟨_, rfl⟩)), ?_⟩
  exact ⟨_, rfl, rfl, hE, hwn, hS2⟩
abbrev R_J4_length_8abf5 : Room := { frames := 4, cells := 0, slots := 0, locals := 200 }
theorem t_J4_length_8abf5 (ho : Ob μ a 12) {n : Nat} (hn : gI μ a 3 = nI n) : Ct Y_J4_length_8abf5 R_J4_length_8abf5 [.ref a] μ (.inl (some (.int (nI n)))) μ := by
  refine Ct.ent yk_J4_length_8abf5 (Nat.le_of_ble_eq_true rfl) ?_
  refine a_aload_n dJ4_length_8abf5_0 rfl ?_
  refine a_invSup (b2 := (0, 0)) (t_J5_length_8abf5 ho hn) rfl dJ4_length_8abf5_1 yk_J5_length_8abf5 im_J5_length_8abf5 ml_J4_343 sm5_ln su_SB (by decide) in_SB rfl ho (by decide) hc_J4 (by decide) (by decide) (Nat.le_of_ble_eq_true rfl) ?_
  exact a_out rfl rfl (a_ireturn dJ4_length_8abf5_4 rfl rfl)
abbrev R_J5_init_d00df : Room := { frames := 4, cells := 1, slots := 16, locals := 200 }
/-- a builder has been made -/
def BnQ (lo : Nat) (μ : Wd) (a : Nat) (l : List Nat) (k : Nat) (r : Option Value) (V : Wd) : Prop := r = none ∧ Ex (fun i => i = a) μ V ∧ wn V ≤ wn μ + k ∧ SbV lo V a l 0
theorem t_J5_init_d00df (hw : Wf μ) (ho : Ob μ a 12) (h0 : gI μ a 3 = 0) (h3 : 339 ≤ lo) (hlo : lo ≤ a) (hm : wn μ + 1 < 1000000) : CV Y_J5_init_d00df R_J5_init_d00df [.ref a, .int (nI 16)] μ (BnQ lo μ a [] 1) := by
  refine CV.ent yk_J5_init_d00df (Nat.le_of_ble_eq_true rfl) ?_
  have hb1 : Ar (mk μ (16 * 32 + 22)) (wn μ) 22 16 := ⟨Nat.lt_succ_self _, km_new hw.1 (by decide), al_new hw.1 (by decide)⟩
  have ho1 : Ob (mk μ (16 * 32 + 22)) a 12 := ho.ex (Ex.mk (S := fun _ => False) hw _)
  have hne : a ≠ wn μ := Nat.ne_of_lt ho.1
  refine lf (a_aload_n dJ5_init_d00df_0 rfl) ?_
  refine lf (a_objI dJ5_init_d00df_1 oi_J5 (by decide) (by decide) (Nat.le_of_ble_eq_true rfl)) ?_
  refine lf (a_gsCS5 rfl dJ5_init_d00df_4) ?_
  refine lf2 (a_if_eq (tgt := 25) dJ5_init_d00df_7 (by decide)) (fun h7 => absurd h7 (by decide)) (fun h7 => ?_)
  refine lf (a_aload_n dJ5_init_d00df_10 rfl) ?_
  refine lf (a_iload_n dJ5_init_d00df_11 rfl) ?_
  refine lf (a_newI (c9 := 16 * 32 + 22) (len := 16) (t := 22) (aty := .byte) (ty := .byte) dJ5_init_d00df_12 rfl ac_byte ⟨rfl, by decide, by decide, by decide⟩ rfl (by decide) (by omega) (km_new hw.1 (by decide)) (al_new hw.1 (by decide)) (by omega) (b' := (0, 0)) (by rfl)) ?_
  refine lf (a_putR dJ5_init_d00df_14 fs_J5_15 rfl rfl ho1) ?_
  refine lf (a_aload_n dJ5_init_d00df_17 rfl) ?_
  refine lf (a_iconst (0 : Int32) dJ5_init_d00df_18 (by decide)) ?_
  refine lf (a_putI dJ5_init_d00df_19 fs_J5_22 rfl rfl rfl ho1) ?_
  refine lf (a_goto (tgt := 38) dJ5_init_d00df_22 (by decide)) ?_
  refine ⟨_, _, (a_return dJ5_init_d00df_38 rfl), ?_⟩
  refine ⟨_, rfl, rfl, Ex.sI2 (S := fun i => i = a) (i := a) (Ex.sR2 (S := fun i => i = a) (i := a) (Ex.mk hw (16 * 32 + 22)) (by omega) (fun _ => rfl)) (fun _ => rfl), Nat.le_refl _, Nat.zero_le _, fun _ h => (nomatch h), h3, hlo, ho1, ?_, ?_, wn μ, 16, by have := ho.1; omega, ?_, hb1, Nat.zero_le _, Nat.zero_le _, by decide, fun j hj => ⟨0, by decide, ?_, fun h => (nomatch h)⟩⟩
  · rw [gI_sI, if_pos ⟨rfl, rfl⟩]
  · rw [gI_sI, if_neg (fun z => by omega), gI_sR, gI_mk, if_neg hne]; exact h0
  · rw [gR_sI, gR_sR, if_pos ⟨rfl, rfl⟩]
  · rw [gI_sI, if_neg (fun z => hne z.1.symm), gI_sR, gI_mk, if_pos rfl]; rfl
abbrev R_J4_init_da8c8 : Room := { frames := 6, cells := 1, slots := 16, locals := 300 }
theorem t_J4_init_da8c8 (hw : Wf μ) (ho : Ob μ a 12) (h0 : gI μ a 3 = 0) (h3 : 339 ≤ lo) (hlo : lo ≤ a) (hm : wn μ + 1 < 1000000) : CV Y_J4_init_da8c8 R_J4_init_da8c8 [.ref a] μ (BnQ lo μ a [] 1) := by
  refine CV.ent yk_J4_init_da8c8 (Nat.le_of_ble_eq_true rfl) ?_
  refine lf (a_aload_n dJ4_init_da8c8_0 rfl) ?_
  refine lf (a_bipush (16 : Int32) dJ4_init_da8c8_1 (by decide)) ?_
  obtain ⟨v_, W3, k3, rfl, hE, hwn, hS⟩ := (t_J5_init_d00df hw ho h0 h3 hlo hm)
  refine lf (a_invI (b2 := (0, 0)) k3 rfl dJ4_init_da8c8_3 yk_J5_init_d00df rfl rfl im_J5_init_d00df ml_J4_1 rfl (by decide) ⟨Nat.le_refl _, Nat.le_refl _⟩ (Nat.le_of_ble_eq_true rfl)) ?_
  refine ⟨_, _, (a_return dJ4_init_da8c8_6 rfl), ?_⟩
  exact ⟨_, rfl, rfl, hE, hwn, hS⟩
abbrev R_J5_init_a7421 : Room := { frames := 16, cells := 2, slots := 2900, locals := 800 }
theorem t_J5_init_a7421 (hw : Wf μ) (ho : Ob μ a 12) (h0 : gI μ a 3 = 0) (h3 : 339 ≤ lo) (hlo : lo ≤ a) (hs : StrV μ r s) (hra : r ≠ a) (hm : wn μ + 2 < 1000000) : CV Y_J5_init_a7421 R_J5_init_a7421 [.ref a, .ref r] μ (BnQ lo μ a s 2) := by
  refine CV.ent yk_J5_init_a7421 (Nat.le_of_ble_eq_true rfl) ?_
  have h900 := hs.1
  have hb1 : Ar (mk μ ((s.length + 16) * 32 + 22)) (wn μ) 22 (s.length + 16) := ⟨Nat.lt_succ_self _, km_new hw.1 (by decide), al_new hw.1 (by decide)⟩
  have ho1 : Ob (mk μ ((s.length + 16) * 32 + 22)) a 12 := ho.ex (Ex.mk (S := fun _ => False) hw _)
  have hne : a ≠ wn μ := Nat.ne_of_lt ho.1
  have hc9 : ∀ x, gI (sI μ a 1 x) a 3 = 0 := fun x => by rw [gI_sI, if_neg (fun z => by omega)]; exact h0
  have hwc : Wf (sI μ a 1 0) := hw.sI
  refine lf (a_aload_n dJ5_init_a7421_0 rfl) ?_
  refine lf (a_objI dJ5_init_a7421_1 oi_J5 (by decide) (by decide) (Nat.le_of_ble_eq_true rfl)) ?_
  refine lf (a_aload_n dJ5_init_a7421_4 rfl) ?_
  refine lf (a_invT (b2 := (2, 2900)) hs (t_J0_length_8abf5 hs) rfl dJ5_init_a7421_5 yk_J0_length_8abf5 im_J0_length_8abf5 se_J0_length_8abf5 ml_J5_32 rfl rfl (by decide) (by decide) (Nat.le_of_ble_eq_true rfl)) ?_
  refine lf (a_istore_n dJ5_init_a7421_8 (by decide)) ?_
  refine lf (a_iload_n dJ5_init_a7421_9 rfl) ?_
  refine lf (a_ldc dJ5_init_a7421_10 ck_J5_38) ?_
  refine lf2 (a_icmp_ge (tgt := 22) dJ5_init_a7421_12 (by decide)) (fun h12 => absurd h12 (geBig (by omega))) (fun h12 => ?_)
  refine lf (a_iload_n dJ5_init_a7421_15 rfl) ?_
  refine lf (a_bipush (16 : Int32) dJ5_init_a7421_16 (by decide)) ?_
  refine lf (a_iadd dJ5_init_a7421_18) ?_
  rw [show nI s.length + 16 = nI (s.length + 16) from nI_add _ 16]
  refine lf (a_goto (tgt := 24) dJ5_init_a7421_19 (by decide)) ?_
  refine lf (a_istore_n dJ5_init_a7421_24 (by decide)) ?_
  refine lf (a_aload_n dJ5_init_a7421_25 rfl) ?_
  refine lf (a_invT (b2 := (2, 2900)) hs (t_J0_coder_7d493 hs) rfl dJ5_init_a7421_26 yk_J0_coder_7d493 im_J0_coder_7d493 se_J0_coder_7d493 ml_J5_40 rfl rfl (by decide) (by decide) (Nat.le_of_ble_eq_true rfl)) ?_
  refine lf (a_istore dJ5_init_a7421_29 (by decide)) ?_
  refine lf (a_aload_n dJ5_init_a7421_31 rfl) ?_
  refine lf (a_iload dJ5_init_a7421_32 rfl) ?_
  refine lf (a_putI dJ5_init_a7421_34 fs_J5_22 rfl rfl rfl ho) ?_
  refine lf (a_aload_n dJ5_init_a7421_37 rfl) ?_
  refine lf (a_iload dJ5_init_a7421_38 rfl) ?_
  refine lfn (a_if_ne (tgt := 49) dJ5_init_a7421_40 (by decide)) (fun h40 => absurd h40 (fun z => z rfl)) (fun h40 => ?_)
  refine lf (a_iload_n dJ5_init_a7421_43 rfl) ?_
  refine lf (a_newI (μ := sI μ a 1 0) (c9 := (s.length + 16) * 32 + 22) (len := s.length + 16) (t := 22) (aty := .byte) (ty := .byte) dJ5_init_a7421_44 rfl ac_byte ⟨rfl, by decide, by decide, by decide⟩ rfl (by decide) (by omega) (km_new hwc.1 (by decide)) (al_new hwc.1 (by decide)) (by show wn μ + 1 < _; omega) (b' := (1, 2884 - s.length)) (by show ((2 : Nat), (2900 : Nat)) = (1 + 1, 2884 - s.length + (s.length + 16)); congr 1; omega)) ?_
  refine lf (a_goto (tgt := 53) dJ5_init_a7421_46 (by decide)) ?_
  refine lf (a_putR dJ5_init_a7421_53 fs_J5_15 rfl rfl ho1) ?_
  have hE5 : Ex (fun i => i = a) μ (sR (mk (sI μ a 1 0) ((s.length + 16) * 32 + 22)) a 0 (some (wn μ))) := by
    have e1 : Ex (fun i => i = a) μ (sI μ a 1 0) := Ex.sI2 (S := fun i => i = a) (i := a) (Ex.rfl' hw) (fun _ => rfl)
    exact Ex.sR2 (S := fun i => i = a) (i := a) (e1.trans (Ex.mk hwc _)) (by omega) (fun _ => rfl)
  have hS5 : SbV lo (sR (mk (sI μ a 1 0) ((s.length + 16) * 32 + 22)) a 0 (some (wn μ))) a [] 0 := by
    refine ⟨Nat.zero_le _, fun _ h => (nomatch h), h3, hlo, ho1, ?_, ?_, wn μ, s.length + 16, by have := ho.1; omega, ?_, hb1, Nat.zero_le _, Nat.zero_le _, by omega, fun j hj => ⟨0, by decide, ?_, fun h => (nomatch h)⟩⟩
    · rw [gI_sR, gI_mk, if_neg (show ¬ a = wn (sI μ a 1 0) from hne), gI_sI, if_pos ⟨rfl, rfl⟩]
    · rw [gI_sR, gI_mk, if_neg (show ¬ a = wn (sI μ a 1 0) from hne), gI_sI, if_neg (fun z => by omega)]; exact h0
    · rw [gR_sR, if_pos ⟨rfl, rfl⟩]
    · rw [gI_sR, gI_mk, if_pos (show wn μ = wn (sI μ a 1 0) from rfl)]; rfl
  have hs5 : StrV (sR (mk (sI μ a 1 0) ((s.length + 16) * 32 + 22)) a 0 (some (wn μ))) r s := hs.ex2 hE5 (fun _ z => hra z) (fun z e h z9 => by have h2 := h.2.1; rw [z9, ho.2] at h2; omega)
  refine lf (a_aload_n dJ5_init_a7421_56 rfl) ?_
  refine lf (a_aload_n dJ5_init_a7421_57 rfl) ?_
  obtain ⟨v_, W58, k58, rfl, hE8, hwn8, hS8⟩ := (t_J4_append_cf1ce hE5.1 hS5 hs5 (by show 0 + s.length ≤ 900; omega) (by show wn μ + 1 + 1 < _; omega))
  refine lf (a_invO (x := yJ5_append_cf1ce) (C9 := RJ4) (b2 := (0, 984 - s.length)) k58 rfl dJ5_init_a7421_58 yk_J4_append_cf1ce im_J4_append_cf1ce so_aS ml_J5_43 sm5_aS im_J5_append_cf1ce cd_J5_append_cf1ce ⟨by decide, yk_J5_append_cf1ce.2.2.2.1⟩ rfl hS5.ob (by decide) hc_J4 (by decide) ⟨Nat.le_refl _, by show 1900 + (984 - s.length) ≤ 2884 - s.length; omega⟩ (Nat.le_of_ble_eq_true rfl)) ?_
  refine lf (a_pop dJ5_init_a7421_61 rfl) ?_
  refine ⟨_, _, (a_return dJ5_init_a7421_62 rfl), ?_⟩
  refine ⟨_, rfl, rfl, ?_, by have h : wn W58 ≤ wn μ + 1 + 1 := hwn8; omega, by rw [← List.nil_append s]; exact hS8⟩
  refine ⟨hE8.1, Nat.le_trans (Nat.le_succ _) hE8.2.1, hE8.2.2.1, fun i hi => ?_, fun i hi hs9 => ?_⟩
  · exact (hE8.2.2.2.1 i (Nat.lt_succ_of_lt hi)).trans (hE5.2.2.2.1 i hi)
  · have n1 : ¬ SbS (sR (mk (sI μ a 1 0) ((s.length + 16) * 32 + 22)) a 0 (some (wn μ))) a i := by
      rintro (e | e)
      · exact hs9 e
      · rw [gR_sR, if_pos ⟨rfl, rfl⟩] at e
        injection e with e
        omega
    exact fun k => ⟨(hE8.2.2.2.2 i (Nat.lt_succ_of_lt hi) n1 k).1.trans (hE5.2.2.2.2 i hi hs9 k).1, (hE8.2.2.2.2 i (Nat.lt_succ_of_lt hi) n1 k).2.1.trans (hE5.2.2.2.2 i hi hs9 k).2.1, (hE8.2.2.2.2 i (Nat.lt_succ_of_lt hi) n1 k).2.2.trans (hE5.2.2.2.2 i hi hs9 k).2.2⟩
abbrev R_J4_init_a7421 : Room := { frames := 18, cells := 2, slots := 2900, locals := 900 }
theorem t_J4_init_a7421 (hw : Wf μ) (ho : Ob μ a 12) (h0 : gI μ a 3 = 0) (h3 : 339 ≤ lo) (hlo : lo ≤ a) (hs : StrV μ r s) (hra : r ≠ a) (hm : wn μ + 2 < 1000000) : CV Y_J4_init_a7421 R_J4_init_a7421 [.ref a, .ref r] μ (BnQ lo μ a s 2) := by
  refine CV.ent yk_J4_init_a7421 (Nat.le_of_ble_eq_true rfl) ?_
  refine lf (a_aload_n dJ4_init_a7421_0 rfl) ?_
  refine lf (a_aload_n dJ4_init_a7421_1 rfl) ?_
  obtain ⟨v_, W2, k2, rfl, hE, hwn, hS⟩ := (t_J5_init_a7421 hw ho h0 h3 hlo hs hra hm)
  refine lf (a_invI (b2 := (0, 0)) k2 rfl dJ4_init_a7421_2 yk_J5_init_a7421 rfl rfl im_J5_init_a7421 ml_J4_7 rfl (by decide) ⟨Nat.le_refl _, Nat.le_refl _⟩ (Nat.le_of_ble_eq_true rfl)) ?_
  refine ⟨_, _, (a_return dJ4_init_a7421_5 rfl), ?_⟩
  exact ⟨_, rfl, rfl, hE, hwn, hS⟩
end SBW
