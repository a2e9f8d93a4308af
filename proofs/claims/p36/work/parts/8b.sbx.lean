section SBX
variable {μ W : Wd} {lo a r : Nat} {l s : List Nat}
abbrev R_J7_checkLength_df160 : Room := { frames := 2, cells := 0, slots := 0, locals := 100 }
theorem t_J7_checkLength_df160 {n : Nat} (hn : n < 9000) : Ct Y_J7_checkLength_df160 R_J7_checkLength_df160 [.int (nI 0), .int (nI n)] μ (.inl none) μ := by
  refine Ct.ent yk_J7_checkLength_df160 (Nat.le_of_ble_eq_true rfl) ?_
  refine a_iload_n dJ7_checkLength_df160_0 rfl ?_
  refine a_iload_n dJ7_checkLength_df160_1 rfl ?_
  refine a_icmp_ge (tgt := 37) dJ7_checkLength_df160_2 (by decide) (fun h2 => ?_) (fun h2 => absurd h2 (fun z => z (nI_le (a := 0) (b := n) (Nat.zero_le _) (by omega))))
  exact a_out rfl rfl (a_return dJ7_checkLength_df160_37 rfl)
/-- the first n bytes in an array of their own -/
def CrQ (μ : Wd) (v n : Nat) (r : Option Value) (V : Wd) : Prop := r = some (.ref (wn μ)) ∧ Ex (fun _ => False) μ V ∧ wn V = wn μ + 1 ∧ Ar V (wn μ) 22 n ∧ ∀ j, j < n → gI V (wn μ) j = gI μ v j
abbrev R_J7_copyOfRangeByte_39247 : Room := { frames := 4, cells := 1, slots := 1900, locals := 200 }
theorem t_J7_copyOfRangeByte_39247 (hw : Wf μ) {v cap n : Nat} (ha : Ar μ v 22 cap) (hn : n ≤ cap) (hcap : cap ≤ 1900) (hx : ∀ j, j < cap → ∃ x, x < 128 ∧ gI μ v j = nI x) (hm : wn μ + 1 < 1000000) : CV Y_J7_copyOfRangeByte_39247 R_J7_copyOfRangeByte_39247 [.ref v, .int (nI 0), .int (nI n)] μ (CrQ μ v n) := by
  refine CV.ent yk_J7_copyOfRangeByte_39247 (Nat.le_of_ble_eq_true rfl) ?_
  have hb1 : Ar (mk μ (n * 32 + 22)) (wn μ) 22 n := ⟨Nat.lt_succ_self _, km_new hw.1 (by decide), al_new hw.1 (by decide)⟩
  have ha1 : Ar (mk μ (n * 32 + 22)) v 22 cap := ha.ex (Ex.mk (S := fun _ => False) hw _)
  have hne : v ≠ wn μ := Nat.ne_of_lt ha.1
  have hx1 : ∀ j, j < n → ∃ x, x < 128 ∧ gI (mk μ (n * 32 + 22)) v j = nI x := fun j hj => by rw [gI_mk, if_neg hne]; exact hx j (by omega)
  refine lf (a_iload_n dJ7_copyOfRangeByte_39247_0 rfl) ?_
  refine lf (a_iload_n dJ7_copyOfRangeByte_39247_1 rfl) ?_
  refine lf (a_invS (b2 := (1, 1900)) (t_J7_checkLength_df160 (n := n) (by omega)) rfl dJ7_copyOfRangeByte_39247_2 yk_J7_checkLength_df160 sm_J7_checkLength_df160 ml_J7_343 rfl (by decide) (by decide) (Nat.le_of_ble_eq_true rfl)) ?_
  refine lf (a_iload_n dJ7_copyOfRangeByte_39247_5 rfl) ?_
  refine lf (a_iload_n dJ7_copyOfRangeByte_39247_6 rfl) ?_
  refine lf (a_isub dJ7_copyOfRangeByte_39247_7) ?_
  rw [pk_sub (Nat.zero_le _), Nat.sub_zero]
  refine lf (a_istore_n dJ7_copyOfRangeByte_39247_8 (by decide)) ?_
  refine lf (a_iload_n dJ7_copyOfRangeByte_39247_9 rfl) ?_
  refine lf (a_newI (c9 := n * 32 + 22) (len := n) (t := 22) (aty := .byte) (ty := .byte) dJ7_copyOfRangeByte_39247_10 rfl ac_byte ⟨rfl, by decide, by decide, by decide⟩ rfl (by decide) (by omega) (km_new hw.1 (by decide)) (al_new hw.1 (by decide)) (by omega) (b' := (0, 1900 - n)) (by show ((1 : Nat), (1900 : Nat)) = (0 + 1, 1900 - n + n); rw [Nat.sub_add_cancel (by omega)])) ?_
  refine lf (a_astore dJ7_copyOfRangeByte_39247_12 (by decide)) ?_
  refine lf (a_aload_n dJ7_copyOfRangeByte_39247_14 rfl) ?_
  refine lf (a_iload_n dJ7_copyOfRangeByte_39247_15 rfl) ?_
  refine lf (a_aload dJ7_copyOfRangeByte_39247_16 rfl) ?_
  refine lf (a_iconst (0 : Int32) dJ7_copyOfRangeByte_39247_18 (by decide)) ?_
  refine lf (a_aload_n dJ7_copyOfRangeByte_39247_19 rfl) ?_
  refine lf (a_alen (nI cap) dJ7_copyOfRangeByte_39247_20 ha1 (by decide) rfl) ?_
  refine lf (a_iload_n dJ7_copyOfRangeByte_39247_21 rfl) ?_
  refine lf (a_isub dJ7_copyOfRangeByte_39247_22) ?_
  rw [pk_sub (Nat.zero_le _), Nat.sub_zero]
  refine lf (a_iload_n dJ7_copyOfRangeByte_39247_23 rfl) ?_
  refine lf (a_mmin dJ7_copyOfRangeByte_39247_24 ml_J7_304 (by decide) (by decide) (Nat.le_of_ble_eq_true rfl)) ?_
  rw [mnI (by omega) (by omega), Nat.min_eq_right hn]
  refine lf (a_copyB (dp := 0) dJ7_copyOfRangeByte_39247_27 acl_J7 ha1 hb1 hn (by omega) (by omega) hx1 (by decide) (by decide) (Nat.le_of_ble_eq_true rfl)) ?_
  refine lf (a_aload dJ7_copyOfRangeByte_39247_30 rfl) ?_
  refine ⟨_, _, (a_areturn dJ7_copyOfRangeByte_39247_32 rfl (by first | exact Or.inl ⟨_, rfl⟩ | exact Or.inr ⟨_, rfl⟩)), ?_⟩
  refine ⟨_, rfl, rfl, (Ex.mk hw (n * 32 + 22)).cpY (fun h => absurd h (Nat.lt_irrefl _)), rfl, hb1, fun j hj => ?_⟩
  rw [gI_cpY, if_pos ⟨rfl, Nat.zero_le _, by omega⟩, gI_mk, if_neg hne, Nat.sub_zero]
abbrev R_J7_copyOfRange_39247 : Room := { frames := 6, cells := 1, slots := 1900, locals := 300 }
theorem t_J7_copyOfRange_39247 (hw : Wf μ) {v cap n : Nat} (ha : Ar μ v 22 cap) (hn : n ≤ cap) (hcap : cap ≤ 1900) (hx : ∀ j, j < cap → ∃ x, x < 128 ∧ gI μ v j = nI x) (hm : wn μ + 1 < 1000000) : CV Y_J7_copyOfRange_39247 R_J7_copyOfRange_39247 [.ref v, .int (nI 0), .int (nI n)] μ (CrQ μ v n) := by
  refine CV.ent yk_J7_copyOfRange_39247 (Nat.le_of_ble_eq_true rfl) ?_
  rcases Nat.lt_or_ge n cap with hlt | hge
  · refine lf (a_iload_n dJ7_copyOfRange_39247_0 rfl) ?_
    refine lfn (a_if_ne (tgt := 10) dJ7_copyOfRange_39247_1 (by decide)) (fun h1 => absurd h1 (fun z => z rfl)) (fun h1 => ?_)
    refine lf (a_iload_n dJ7_copyOfRange_39247_4 rfl) ?_
    refine lf (a_aload_n dJ7_copyOfRange_39247_5 rfl) ?_
    refine lf (a_alen (nI cap) dJ7_copyOfRange_39247_6 ha (by decide) rfl) ?_
    refine lf2 (a_icmp_eq (tgt := 17) dJ7_copyOfRange_39247_7 (by decide)) (fun h7 => absurd h7 (fun z => absurd ((nI_eq (by omega) (by omega)).mp z) (by omega))) (fun h7 => ?_)
    refine lf (a_aload_n dJ7_copyOfRange_39247_10 rfl) ?_
    refine lf (a_iload_n dJ7_copyOfRange_39247_11 rfl) ?_
    refine lf (a_iload_n dJ7_copyOfRange_39247_12 rfl) ?_
    obtain ⟨v_, W13, k13, rfl, hE, hwn, hA, hbs⟩ := (t_J7_copyOfRangeByte_39247 hw ha hn hcap hx hm)
    refine lf (a_invS (b2 := (0, 0)) k13 rfl dJ7_copyOfRange_39247_13 yk_J7_copyOfRangeByte_39247 sm_J7_copyOfRangeByte_39247 ml_J7_339 rfl (by decide) ⟨Nat.le_refl _, Nat.le_refl _⟩ (Nat.le_of_ble_eq_true rfl)) ?_
    refine ⟨_, _, (a_areturn dJ7_copyOfRange_39247_16 rfl (by first | exact Or.inl ⟨_, rfl⟩ | exact Or.inr ⟨_, rfl⟩)), ?_⟩
    exact ⟨_, rfl, rfl, hE, hwn, hA, hbs⟩
  · obtain rfl : n = cap := by omega
    refine lf (a_iload_n dJ7_copyOfRange_39247_0 rfl) ?_
    refine lfn (a_if_ne (tgt := 10) dJ7_copyOfRange_39247_1 (by decide)) (fun h1 => absurd h1 (fun z => z rfl)) (fun h1 => ?_)
    refine lf (a_iload_n dJ7_copyOfRange_39247_4 rfl) ?_
    refine lf (a_aload_n dJ7_copyOfRange_39247_5 rfl) ?_
    refine lf (a_alen (nI n) dJ7_copyOfRange_39247_6 ha (by decide) rfl) ?_
    refine lf2 (a_icmp_eq (tgt := 17) dJ7_copyOfRange_39247_7 (by decide)) (fun h7 => ?_) (fun h7 => absurd h7 (fun z => z rfl))
    refine lf (a_aload_n dJ7_copyOfRange_39247_17 rfl) ?_
    refine lf (a_cloneB (b' := (0, 1900 - n)) rfl dJ7_copyOfRange_39247_18 hw ha hx hm (by decide) (by decide) (Nat.le_of_ble_eq_true rfl) (by show ((1 : Nat), (1900 : Nat)) = (0 + 1, 1900 - n + n); rw [Nat.sub_add_cancel hcap])) ?_
    have hA : Ar (clB μ (n * 32 + 22) v) (wn μ) 22 n := ⟨Nat.lt_succ_self _, km_new hw.1 (by decide), al_new hw.1 (by decide)⟩
    refine lf (a_castB rfl dJ7_copyOfRange_39247_21 hA) ?_
    refine ⟨_, _, (a_areturn dJ7_copyOfRange_39247_24 rfl (by first | exact Or.inl ⟨_, rfl⟩ | exact Or.inr ⟨_, rfl⟩)), ?_⟩
    exact ⟨_, rfl, rfl, clB_ex hw _ _, rfl, hA, fun j hj => by rw [gI_clB, if_pos rfl]⟩
abbrev R_J0_init_db425 : Room := { frames := 8, cells := 1, slots := 1900, locals := 400 }
/-- a String has been made of the builder's letters -/
def TsQ (μ : Wd) (r : Nat) (l : List Nat) (v : Option Value) (V : Wd) : Prop := v = none ∧ Ex (fun i => i = r) μ V ∧ wn V = wn μ + 1 ∧ StrV V r l ∧ gR V r 0 = some (wn μ)
theorem t_J0_init_db425 (hw : Wf μ) {q0 : Nat} (hS : SbV lo μ a l q0) (hr3 : 339 ≤ r) (ho0 : Ob μ r 0) (hm : wn μ + 1 < 1000000) : CV Y_J0_init_db425 R_J0_init_db425 [.ref r, .ref a, .null] μ (TsQ μ r l) := by
  refine CV.ent yk_J0_init_db425 (Nat.le_of_ble_eq_true rfl) ?_
  obtain ⟨p1, p2, p3, p4, ho, hc, hct, v, cap, p5, hr, ha, p6, p7, p8, hb⟩ := hS
  have hna : r ≠ a := fun e => by have h := ho0.2; rw [e, ho.2] at h; omega
  have hw1 : Wf (sI μ r 1 0) := hw.sI
  have hnv : v ≠ r := fun e => by have h := ha.2.1; rw [e, ho0.2] at h; omega
  have hrw : r ≠ wn μ := Nat.ne_of_lt ho0.1
  refine lf (a_aload_n dJ0_init_db425_0 rfl) ?_
  refine lf (a_objI dJ0_init_db425_1 oi_java_lang_String (by decide) (by decide) (Nat.le_of_ble_eq_true rfl)) ?_
  refine lf (a_aload_n dJ0_init_db425_4 rfl) ?_
  refine lf (a_invG (b2 := (1, 1900)) (t_J5_getValue_6d5f1 ho hr) rfl dJ0_init_db425_5 yk_J5_getValue_6d5f1 im_J5_getValue_6d5f1 sl_GV ml_J0_552 rfl ho (by decide) hc_J4 (by decide) (by decide) (Nat.le_of_ble_eq_true rfl)) ?_
  refine lf (a_astore_n dJ0_init_db425_8 (by decide)) ?_
  refine lf (a_aload_n dJ0_init_db425_9 rfl) ?_
  refine lf (a_invO (x := yJ5_length_8abf5) (C9 := RJ4) (b2 := (1, 1900)) (t_J4_length_8abf5 ho hct) rfl dJ0_init_db425_10 yk_J4_length_8abf5 im_J4_length_8abf5 so_ln ml_J0_549 sm5_ln im_J5_length_8abf5 cd_J5_length_8abf5 ⟨by decide, yk_J5_length_8abf5.2.2.2.1⟩ rfl ho (by decide) hc_J4 (by decide) (by decide) (Nat.le_of_ble_eq_true rfl)) ?_
  refine lf (a_istore dJ0_init_db425_13 (by decide)) ?_
  refine lf (a_aload_n dJ0_init_db425_15 rfl) ?_
  refine lf (a_invG (b2 := (1, 1900)) (t_J5_isLatin1_aae02 ho hc) rfl dJ0_init_db425_16 yk_J5_isLatin1_aae02 im_J5_isLatin1_aae02 sl_L1 ml_J0_1047 rfl ho (by decide) hc_J4 (by decide) (by decide) (Nat.le_of_ble_eq_true rfl)) ?_
  refine lf2 (a_if_eq (tgt := 41) dJ0_init_db425_19 (by decide)) (fun h19 => absurd h19 (by decide)) (fun h19 => ?_)
  refine lf (a_aload_n dJ0_init_db425_22 rfl) ?_
  refine lf (a_iconst (0 : Int32) dJ0_init_db425_23 (by decide)) ?_
  refine lf (a_putIF dJ0_init_db425_24 fs_J0_15 rfl rfl rfl rfl hc_J0 ho0) ?_
  refine lf (a_aload_n dJ0_init_db425_27 rfl) ?_
  refine lf (a_aload_n dJ0_init_db425_28 rfl) ?_
  refine lf (a_iconst (0 : Int32) dJ0_init_db425_29 (by decide)) ?_
  refine lf (a_iload dJ0_init_db425_30 rfl) ?_
  obtain ⟨v_, W32, k32, rfl, hE, hwn, hA, hbs⟩ := (t_J7_copyOfRange_39247 (μ := sI μ r 1 0) hw1 (n := l.length) ha p6 p8 (fun j hj => (hb j hj).imp fun x h => ⟨by exact h.1, by rw [gI_sI, if_neg (fun z => hnv z.1)]; exact h.2.1⟩) hm)
  refine lf (a_invS (b2 := (0, 0)) k32 rfl dJ0_init_db425_32 yk_J7_copyOfRange_39247 sm_J7_copyOfRange_39247 ml_J0_54 rfl (by decide) ⟨Nat.le_refl _, Nat.le_refl _⟩ (Nat.le_of_ble_eq_true rfl)) ?_
  refine lf (a_putRF dJ0_init_db425_35 fs_J0_9 rfl rfl rfl hc_J0 (Ob.ex (μ := sI μ r 1 0) ho0 hE)) ?_
  refine lf (a_goto (tgt := 97) dJ0_init_db425_38 (by decide)) ?_
  refine ⟨_, _, (a_return dJ0_init_db425_97 rfl), ?_⟩
  have hE1 : Ex (fun i => i = r) μ (sI μ r 1 0) := Ex.sI2 (S := fun i => i = r) (i := r) (Ex.rfl' hw) (fun _ => rfl)
  refine ⟨_, rfl, rfl, Ex.sR2 (S := fun i => i = r) (i := r) (hE1.trans (hE.mono (fun _ _ z => z.elim))) hr3 (fun _ => rfl), hwn, ⟨p1, p2, Or.inr ⟨hr3, (show Ob W32 r 0 from Ob.ex (μ := sI μ r 1 0) ho0 hE), wn μ, hw.1, ?_, hA, ?_, fun j hj => ?_⟩⟩, ?_⟩
  · rw [gR_sR, if_pos ⟨rfl, rfl⟩]; rfl
  · rw [gI_sR, hE.i (μ := sI μ r 1 0) ho0.1 (fun z => z) 1, gI_sI, if_pos ⟨rfl, rfl⟩]
  · have h9 := hbs j hj
    rw [gI_sR]
    refine h9.trans ?_
    rw [gI_sI, if_neg (fun z => hnv z.1)]
    obtain ⟨x, e1, e2, e3⟩ := hb j (by omega)
    rw [e2, e3 hj]
  · rw [gR_sR, if_pos ⟨rfl, rfl⟩]; rfl
abbrev R_J0_init_81219 : Room := { frames := 10, cells := 1, slots := 1900, locals := 500 }
theorem t_J0_init_81219 (hw : Wf μ) {q0 : Nat} (hS : SbV lo μ a l q0) (hr3 : 339 ≤ r) (ho0 : Ob μ r 0) (hm : wn μ + 1 < 1000000) : CV Y_J0_init_81219 R_J0_init_81219 [.ref r, .ref a] μ (TsQ μ r l) := by
  refine CV.ent yk_J0_init_81219 (Nat.le_of_ble_eq_true rfl) ?_
  refine lf (a_aload_n dJ0_init_81219_0 rfl) ?_
  refine lf (a_aload_n dJ0_init_81219_1 rfl) ?_
  refine lf (a_null dJ0_init_81219_2) ?_
  obtain ⟨v_, W3, k3, rfl, hE, hwn, hS2, hr2⟩ := (t_J0_init_db425 hw hS hr3 ho0 hm)
  refine lf (a_invI (b2 := (0, 0)) k3 rfl dJ0_init_81219_3 yk_J0_init_db425 rfl rfl im_J0_init_db425 ml_J0_489 rfl (by decide) ⟨Nat.le_refl _, Nat.le_refl _⟩ (Nat.le_of_ble_eq_true rfl)) ?_
  refine ⟨_, _, (a_return dJ0_init_81219_6 rfl), ?_⟩
  exact ⟨_, rfl, rfl, hE, hwn, hS2, hr2⟩
abbrev R_J4_toString_0e30d : Room := { frames := 12, cells := 2, slots := 1904, locals := 600 }
/-- the builder's letters as a String -/
def SrQ (μ : Wd) (l : List Nat) (v : Option Value) (V : Wd) : Prop := v = some (.ref (wn μ)) ∧ Ex (fun _ => False) μ V ∧ wn V = wn μ + 2 ∧ StrV V (wn μ) l ∧ gR V (wn μ) 0 = some (wn μ + 1)
theorem t_J4_toString_0e30d (hw : Wf μ) {q0 : Nat} (hS : SbV lo μ a l q0) (hm : wn μ + 2 < 1000000) : CV Y_J4_toString_0e30d R_J4_toString_0e30d [.ref a] μ (SrQ μ l) := by
  refine CV.ent yk_J4_toString_0e30d (Nat.le_of_ble_eq_true rfl) ?_
  have hw2 := hw.mk 0
  have hS1 : SbV lo (mk μ 0) a l q0 := by
    have hE := Ex.mk (S := fun _ => False) hw 0
    obtain ⟨p1, p2, p3, p4, ho, hc, hct, v, cap, p5, hr, ha, p6, p7, p8, hb⟩ := hS
    exact ⟨p1, p2, p3, p4, ho.ex hE, (hE.i ho.1 (fun z => z) 1).trans hc, (hE.i ho.1 (fun z => z) 3).trans hct, v, cap, p5, (hE.r ho.1 (fun z => z) 0).trans hr, ha.ex hE, p6, p7, p8, fun j hj => (hb j hj).imp fun x h => ⟨h.1, (hE.i ha.1 (fun z => z) j).trans h.2.1, h.2.2⟩⟩
  have ho2 : Ob (mk μ 0) (wn μ) 0 := ⟨Nat.lt_succ_self _, km_new (len := 0) (t := 0) hw.1 (by decide)⟩
  refine lf (a_new (c9 := 0) (b' := (1, 1900)) dJ4_toString_0e30d_0 cls_J0 cw_Str4 in_Str ini_RJ0 (fun j hj => by rcases (by omega : j = 0 ∨ j = 1 ∨ j = 2 ∨ j = 3) with e | e | e | e <;> subst e <;> rfl) (km_new (len := 0) (t := 0) hw.1 (by decide)) (by omega) rfl) ?_
  refine lf (a_dup dJ4_toString_0e30d_3 rfl) ?_
  refine lf (a_aload_n dJ4_toString_0e30d_4 rfl) ?_
  obtain ⟨v_, W5, k5, rfl, hE, hwn, hS2, hr2⟩ := (t_J0_init_81219 (μ := mk μ 0) (r := wn μ) hw2 hS1 hw.1 ho2 (by show wn μ + 1 + 1 < _; omega))
  refine lf (a_invI (b2 := (0, 0)) k5 rfl dJ4_toString_0e30d_5 yk_J0_init_81219 rfl rfl im_J0_init_81219 ml_J4_137 rfl (by decide) ⟨Nat.le_refl _, Nat.le_refl _⟩ (Nat.le_of_ble_eq_true rfl)) ?_
  refine ⟨_, _, (a_areturn dJ4_toString_0e30d_8 rfl (by first | exact Or.inl ⟨_, rfl⟩ | exact Or.inr ⟨_, rfl⟩)), ?_⟩
  refine ⟨_, rfl, rfl, ?_, hwn, hS2, hr2⟩
  have e1 : Ex (fun i => i = wn μ) μ W5 := (Ex.mk hw 0).trans hE
  exact e1.mono (fun i hi z => by omega)
end SBX
