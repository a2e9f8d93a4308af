section STRO
variable {μ W : Wd}
/-- a String has been made of the letters -/
def MsQ (μ : Wd) (r : Nat) (l : List Nat) (v : Option Value) (V : Wd) : Prop := v = none ∧ Ex (fun i => i = r) μ V ∧ wn V = wn μ + 1 ∧ StrV V r l
theorem Ob.ex {S : Nat → Prop} {a c : Nat} (h : Ob μ a c) (he : Ex S μ W) : Ob W a c := ⟨Nat.lt_of_lt_of_le h.1 he.2.1, (he.hkm h.1).trans h.2⟩
theorem Ar.ex {S : Nat → Prop} {a t n : Nat} (h : Ar μ a t n) (he : Ex S μ W) : Ar W a t n := ⟨Nat.lt_of_lt_of_le h.1 he.2.1, (he.hkm h.1).trans h.2.1, (he.hal h.1).trans h.2.2⟩
abbrev R_J0_init_bb550 : Room := { frames := 4, cells := 1, slots := 6, locals := 150 }
theorem t_J0_init_bb550 (hw : Wf μ) {r a : Nat} {l : List Nat} (h364 : 339 ≤ r) (ho : Ob μ r 0) (ha : Ar μ a 24 l.length) (h0 : 0 < l.length) (h6 : l.length ≤ 6) (hx : ∀ x ∈ l, x < 128) (hl : ∀ j, j < l.length → gI μ a j = nI (l.getD j 0)) (hm : wn μ + 1 < 1000000) : CV Y_J0_init_bb550 R_J0_init_bb550 [.ref r, .ref a, .int 0, .int (nI l.length), .null] μ (MsQ μ r l) := by
  refine CV.ent yk_J0_init_bb550 (Nat.le_of_ble_eq_true rfl) ?_
  refine lf (a_aload_n dJ0_init_bb550_0 rfl) ?_
  refine lf (a_objI dJ0_init_bb550_1 oi_java_lang_String (by decide) (by decide) (Nat.le_of_ble_eq_true rfl)) ?_
  refine lf (a_iload_n dJ0_init_bb550_4 rfl) ?_
  refine lfn (a_if_ne (tgt := 27) dJ0_init_bb550_5 (by decide)) (fun h5 => ?_) (fun h5 => absurd h5 (nI_ne0 h0 (by omega)))
  refine lf (a_gsCS rfl dJ0_init_bb550_27) ?_
  refine lf2 (a_if_eq (tgt := 58) dJ0_init_bb550_30 (by decide)) (fun h30 => absurd h30 (by decide)) (fun h30 => ?_)
  refine lf (a_aload_n dJ0_init_bb550_33 rfl) ?_
  refine lf (a_iload_n dJ0_init_bb550_34 rfl) ?_
  refine lf (a_iload_n dJ0_init_bb550_35 rfl) ?_
  obtain ⟨v_, W36, k36, hcq⟩ := (t_J2_compress_dfd3c hw ha h6 (l := fun j => l.getD j 0) (fun j hj => ⟨hl j hj, hx _ (getD_mem l j hj)⟩) hm)
  obtain ⟨hv9, hE, hwn, hA, hbs⟩ := hcq
  subst hv9
  have hwc := hE.1
  have ho1 := ho.ex hE
  have hE2 : Ex (fun i => i = r) μ (sR (sI W36 r 1 0) r 0 (some (wn μ))) := ⟨(hwc.sI).sR (by
    have h := ho.2
    unfold r0
    by_cases q : r < 339
    · have z : ∀ r, r < 339 → kt r = 0 → (r0L.getD r []).getD 0 none = none := by decide +kernel
      exact z r q ((km_lt q).symm.trans h)
    · have e2 : r0L.getD r [] = [] := by rw [List.getD_eq_getElem?_getD, List.getElem?_eq_none (Nat.le_trans (by decide +kernel) (Nat.not_lt.mp q))]; rfl
      rw [e2]; rfl) _, hE.2.1, hE.2.2.1, hE.2.2.2.1, fun i hi hs k => ⟨by rw [gI_sR, gI_sI, if_neg (fun z => hs z.1)]; exact hE.i hi (fun z => z) k, (hE.2.2.2.2 i hi (fun z => z) k).2.1, by rw [gR_sR, if_neg (fun z => hs z.1)]; exact hE.r hi (fun z => z) k⟩⟩
  refine lf (a_invS (b2 := (0, 0)) k36 rfl dJ0_init_bb550_36 yk_J2_compress_dfd3c sm_J2_compress_dfd3c ml_J0_177 rfl (by decide) ⟨Nat.le_refl _, Nat.le_refl _⟩ (Nat.le_of_ble_eq_true rfl)) ?_
  refine lf (a_astore dJ0_init_bb550_39 (by decide)) ?_
  refine lf (a_aload_n dJ0_init_bb550_41 rfl) ?_
  refine lf (a_aload dJ0_init_bb550_42 rfl) ?_
  refine lf (a_iload_n dJ0_init_bb550_44 rfl) ?_
  refine lf (a_invS (b2 := (0, 0)) (t_J2_coderFromArrayLen_85cad hA) rfl dJ0_init_bb550_45 yk_J2_coderFromArrayLen_85cad sm_J2_coderFromArrayLen_85cad ml_J0_47 rfl (by decide) ⟨Nat.le_refl _, Nat.le_refl _⟩ (Nat.le_of_ble_eq_true rfl)) ?_
  refine lf (a_putIF dJ0_init_bb550_48 fs_J0_15 rfl rfl rfl rfl hc_J0 ho1) ?_
  refine lf (a_aload_n dJ0_init_bb550_51 rfl) ?_
  refine lf (a_aload dJ0_init_bb550_52 rfl) ?_
  refine lf (a_putRF dJ0_init_bb550_54 fs_J0_9 rfl rfl rfl hc_J0 ho1) ?_
  refine ⟨_, _, (a_return dJ0_init_bb550_57 rfl), ?_⟩
  have hrw : r ≠ wn μ := Nat.ne_of_lt ho.1
  refine ⟨_, rfl, rfl, hE2, hwn, by omega, hx, Or.inr ⟨h364, ho1, wn μ, hw.1, ?_, hA, ?_, fun j hj => ?_⟩⟩
  · rw [gR_sR, if_pos ⟨rfl, rfl⟩]
  · rw [gI_sR, gI_sI, if_pos ⟨rfl, rfl⟩]
  · rw [gI_sR, gI_sI, if_neg (fun z => hrw z.1.symm)]; exact hbs j hj
abbrev R_J0_init_905df : Room := { frames := 7, cells := 1, slots := 6, locals := 240 }
theorem t_J0_init_905df (hw : Wf μ) {r a : Nat} {l : List Nat} (h364 : 339 ≤ r) (ho : Ob μ r 0) (ha : Ar μ a 24 l.length) (h0 : 0 < l.length) (h6 : l.length ≤ 6) (hx : ∀ x ∈ l, x < 128) (hl : ∀ j, j < l.length → gI μ a j = nI (l.getD j 0)) (hm : wn μ + 1 < 1000000) : CV Y_J0_init_905df R_J0_init_905df [.ref r, .ref a] μ (MsQ μ r l) := by
  refine CV.ent yk_J0_init_905df (Nat.le_of_ble_eq_true rfl) ?_
  refine lf (a_aload_n dJ0_init_905df_0 rfl) ?_
  refine lf (a_aload_n dJ0_init_905df_1 rfl) ?_
  refine lf (a_iconst (0 : Int32) dJ0_init_905df_2 (by decide)) ?_
  refine lf (a_aload_n dJ0_init_905df_3 rfl) ?_
  refine lf (a_alen (nI l.length) dJ0_init_905df_4 ha (by decide) rfl) ?_
  refine lf (a_null dJ0_init_905df_5) ?_
  obtain ⟨v_, W6, k6, rfl, hE, hwn, hS⟩ := (t_J0_init_bb550 hw h364 ho ha h0 h6 hx hl hm)
  refine lf (a_invI (b2 := (0, 0)) k6 rfl dJ0_init_905df_6 yk_J0_init_bb550 rfl rfl im_J0_init_bb550 ml_J0_27 rfl (by decide) ⟨Nat.le_refl _, Nat.le_refl _⟩ (Nat.le_of_ble_eq_true rfl)) ?_
  refine ⟨_, _, (a_return dJ0_init_905df_9 rfl), ?_⟩
  exact ⟨_, rfl, rfl, hE, hwn, hS⟩
abbrev R_X9_size : Room := { frames := 0, cells := 0, slots := 0, locals := 0 }
abbrev RX_X9_size : Room := { frames := 0, cells := 1, slots := 6, locals := 0 }

theorem t_X9_size (hw : Wf μ) {s n : Nat} (hs : gI μ 80 2 = nI s) (he : gI μ 80 3 = nI (s + n)) : Ct Y_X9_size R_X9_size [.ref 80] μ (.inl (some (.int (nI n)))) μ := by
  refine Ct.ent yk_X9_size (Nat.le_of_ble_eq_true rfl) ?_
  refine a_aload_n dX9_size_0 rfl ?_
  refine a_getI dX9_size_1 fs_X9_23 rfl (co_80 hw) ?_
  rw [he]
  refine a_aload_n dX9_size_4 rfl ?_
  refine a_getI dX9_size_5 fs_X9_26 rfl (co_80 hw) ?_
  rw [hs]
  refine a_isub dX9_size_8 ?_
  rw [pk_sub (by omega), Nat.add_sub_cancel_left]
  exact a_out rfl rfl (a_ireturn dX9_size_9 rfl rfl)
abbrev R_X9_word : Room := { frames := 8, cells := 3, slots := 16, locals := 263 }
theorem narc {c : Nat} (h : c < 128) : vp_nar .char (nI c) = nI c := by
  have q : ∀ c, c < 128 → vp_nar .char (nI c) = nI c := by decide +kernel
  exact q c h
/-- the word at hand: its letters -/
def WdH (μ : Wd) (s : Nat) (l : List Nat) : Prop := gR μ 80 0 = some 1 ∧ gI μ 80 2 = nI s ∧ gI μ 80 3 = nI (s + l.length) ∧ s + l.length ≤ 900 ∧ (∀ x ∈ l, x < 128) ∧ ∀ j, j < l.length → gI μ 1 (s + j) = nI (l.getD j 0)
theorem l_X9_word_9 (hw0 : Wf μ) {s : Nat} {l : List Nat} (hW : WdH μ s l) (h6 : l.length ≤ 6) {Q : Oc → Wd → Prop} (kx : ∀ W : Wd, (Out (fun i => i = wn μ) (mk μ (l.length * 32 + 24)) W ∧ ∀ j, j < l.length → gI W (wn μ) j = nI (l.getD j 0)) → WP Y_X9_word R_X9_word (2, 16 - l.length) W 36 [(0, .ref 80), (1, .ref (wn μ)), (2, .int (nI l.length))] [] Q) : ∀ dd m (W : Wd), m + dd = l.length → (Out (fun i => i = wn μ) (mk μ (l.length * 32 + 24)) W ∧ ∀ j, j < m → gI W (wn μ) j = nI (l.getD j 0)) → WP Y_X9_word R_X9_word (2, 16 - l.length) W 9 [(0, .ref 80), (1, .ref (wn μ)), (2, .int (nI m))] [] Q := by
  intro dd
  induction dd with
  | zero =>
    intro m W hm hI
    obtain rfl : l.length = m := by omega
    have hw := hI.1.1
    have hA : Ar W (wn μ) 24 l.length := ⟨by rw [hI.1.2.1]; exact Nat.lt_succ_self _, by rw [show km W (wn μ) = km (mk μ (l.length * 32 + 24)) (wn μ) by unfold km; rw [hI.1.2.2.1]]; exact km_new hw0.1 (by decide), by rw [show al W (wn μ) = al (mk μ (l.length * 32 + 24)) (wn μ) by unfold al; rw [hI.1.2.2.1]]; exact al_new hw0.1 (by decide)⟩
    have hold : ∀ i k, i < wn μ → gI W i k = gI μ i k ∧ gR W i k = gR μ i k := fun i k hi => by
      have a := hI.1.2.2.2.2 i (by omega) k
      rw [gI_mk, gR_mk, if_neg (by omega), if_neg (by omega)] at a
      exact ⟨a.1, a.2.2⟩
    have h364 := hw0.1
    refine lf (a_iload_n dX9_word_9 rfl) ?_
    refine lf (a_aload_n dX9_word_10 rfl) ?_
    refine lf (a_alen (nI l.length) dX9_word_11 hA (by decide) rfl) ?_
    refine lf2 (a_icmp_ge (tgt := 36) dX9_word_12 (by decide)) (fun h12 => ?_) (fun h12 => absurd h12 (fun z => z (nI_le (Nat.le_refl _) (by omega))))
    exact lf (a_loc _ rfl) (kx W hI)
  | succ dd ih =>
    intro m W hm hI
    have hw := hI.1.1
    have hA : Ar W (wn μ) 24 l.length := ⟨by rw [hI.1.2.1]; exact Nat.lt_succ_self _, by rw [show km W (wn μ) = km (mk μ (l.length * 32 + 24)) (wn μ) by unfold km; rw [hI.1.2.2.1]]; exact km_new hw0.1 (by decide), by rw [show al W (wn μ) = al (mk μ (l.length * 32 + 24)) (wn μ) by unfold al; rw [hI.1.2.2.1]]; exact al_new hw0.1 (by decide)⟩
    have hold : ∀ i k, i < wn μ → gI W i k = gI μ i k ∧ gR W i k = gR μ i k := fun i k hi => by
      have a := hI.1.2.2.2.2 i (by omega) k
      rw [gI_mk, gR_mk, if_neg (by omega), if_neg (by omega)] at a
      exact ⟨a.1, a.2.2⟩
    have h364 := hw0.1
    obtain ⟨ht0, hs, he, h900, hx, hl⟩ := hW
    have htx : gR W 80 0 = some 1 := (hold 80 0 (by omega)).2.trans ht0
    have hxm := hx _ (getD_mem l m (by omega))
    refine lf (a_iload_n dX9_word_9 rfl) ?_
    refine lf (a_aload_n dX9_word_10 rfl) ?_
    refine lf (a_alen (nI l.length) dX9_word_11 hA (by decide) rfl) ?_
    refine lf2 (a_icmp_ge (tgt := 36) dX9_word_12 (by decide)) (fun h12 => absurd h12 (nI_ge (by omega) (by omega))) (fun h12 => ?_)
    refine lf (a_aload_n dX9_word_15 rfl) ?_
    refine lf (a_iload_n dX9_word_16 rfl) ?_
    refine lf (a_aload_n dX9_word_17 rfl) ?_
    refine lf (a_getR htx dX9_word_18 fs_X9_7 rfl (co_80 hw)) ?_
    refine lf (a_aload_n dX9_word_21 rfl) ?_
    refine lf (a_getI dX9_word_22 fs_X9_26 rfl (co_80 hw)) ?_
    rw [(hold 80 2 (by omega)).1, hs]
    refine lf (a_iload_n dX9_word_25 rfl) ?_
    refine lf (a_iadd dX9_word_26) ?_
    rw [nI_add]
    refine lf (a_bld dX9_word_27 (ca_1 hw) (ixn (show s + m < 900 by omega) (by decide))) ?_
    rw [(hold 1 (s + m) (by omega)).1, hl m (by omega)]
    refine lf (a_i2c dX9_word_28) ?_
    rw [(by255 hxm).2]
    refine lf (a_cst dX9_word_29 hA (ixn (show m < l.length by omega) (by omega))) ?_
    rw [narc hxm]
    refine lf (a_iincN dX9_word_30 rfl (by decide)) ?_
    refine lf (a_goto (tgt := 9) dX9_word_33 (by decide)) ?_
    refine lf (a_loc _ rfl) (ih (m + 1) _ (by omega) ⟨hI.1.sI (S := fun i => i = wn μ) rfl m (nI (l.getD m 0)), fun j hj => ?_⟩)
    rw [gI_sI]
    by_cases z : j = m
    · subst z; rw [if_pos ⟨rfl, rfl⟩]
    · rw [if_neg (fun e => z e.2)]; exact hI.2 j (by omega)
/-- a word's String -/
def WoQ (μ : Wd) (l : List Nat) (v : Option Value) (V : Wd) : Prop := v = some (.ref (wn μ + 1)) ∧ Ex (fun _ => False) μ V ∧ wn V = wn μ + 3 ∧ StrV V (wn μ + 1) l
theorem ws_Str : Cond.classLink RX9 43 "java/lang/String" ∈ lwa := lwa_in 994 (by decide +kernel) rfl
theorem in_Str : Cond.instantiable "java/lang/String" 4 ∈ lwa := lwa_in 995 (by decide +kernel) rfl
theorem t_X9_word (hw : Wf μ) {s : Nat} {l : List Nat} (hW : WdH μ s l) (h0 : 0 < l.length) (h6 : l.length ≤ 6) (hk : True ∧ True ∧ True) (hm : wn μ + 3 < 1000000) : CV Y_X9_word R_X9_word [.ref 80] μ (WoQ μ l) := by
  refine CV.ent yk_X9_word (Nat.le_of_ble_eq_true rfl) ?_
  refine lf (a_aload_n dX9_word_0 rfl) ?_
  refine lf (a_inv (b2 := (3, 16)) (t_X9_size hw hW.2.1 hW.2.2.1) rfl dX9_word_1 yk_X9_size im_X9_size se_X9_size ml_X9_51 rfl (co_80 hw) (by decide) hc_X9 (by decide) (by decide) (Nat.le_of_ble_eq_true rfl)) ?_
  refine lf (a_newI (c9 := l.length * 32 + 24) (len := l.length) (t := 24) (aty := .char) (ty := .char) dX9_word_4 rfl ac_char ⟨rfl, by decide, by decide, by decide⟩ rfl (by decide) (by omega) (km_new hw.1 (by decide)) (al_new hw.1 (by decide)) (by omega) (b' := (2, 16 - l.length)) (by show ((3 : Nat), (16 : Nat)) = (2 + 1, 16 - l.length + l.length); rw [Nat.sub_add_cancel (by omega)])) ?_
  refine lf (a_astore_n dX9_word_6 (by decide)) ?_
  refine lf (a_iconst (0 : Int32) dX9_word_7 (by decide)) ?_
  refine lf (a_istore_n dX9_word_8 (by decide)) ?_
  refine lf (a_loc [(0, .ref 80), (1, .ref (wn μ)), (2, .int (nI 0))] rfl) (l_X9_word_9 hw hW h6 (fun W hI => ?_) l.length 0 _ (by omega) ⟨Out.rfl' (hw.mk (l.length * 32 + 24)), fun j hj => by omega⟩)
  have hwW : wn W = wn μ + 1 := hI.1.2.1
  have hA : Ar W (wn μ) 24 l.length := ⟨by rw [hwW]; exact Nat.lt_succ_self _, by rw [show km W (wn μ) = km (mk μ (l.length * 32 + 24)) (wn μ) by unfold km; rw [hI.1.2.2.1]]; exact km_new hw.1 (by decide), by rw [show al W (wn μ) = al (mk μ (l.length * 32 + 24)) (wn μ) by unfold al; rw [hI.1.2.2.1]]; exact al_new hw.1 (by decide)⟩
  have hw1 := hI.1.1
  have hw2 := hw1.mk 0
  have ho2 : Ob (mk W 0) (wn μ + 1) 0 := ⟨by rw [wn_mk, hwW]; exact Nat.lt_succ_self _, by rw [← hwW]; exact km_new (len := 0) (t := 0) hw1.1 (by decide)⟩
  have hA2 : Ar (mk W 0) (wn μ) 24 l.length := hA.ex (Ex.mk (S := fun _ => False) hw1 0)
  have hl2 : ∀ j, j < l.length → gI (mk W 0) (wn μ) j = nI (l.getD j 0) := fun j hj => by rw [gI_mk, if_neg (by rw [hwW]; omega)]; exact hI.2 j hj
  refine lf (a_new (c9 := 0) (b' := (1, 12 - l.length)) dX9_word_36 cls_J0 ws_Str in_Str ini_RJ0 (fun j hj => by rcases (by omega : j = 0 ∨ j = 1 ∨ j = 2 ∨ j = 3) with e | e | e | e <;> subst e <;> rfl) (km_new (len := 0) (t := 0) hw1.1 (by decide)) (by rw [hwW]; omega) (by show ((2 : Nat), 16 - l.length) = (1 + 1, 12 - l.length + 4); congr 1; omega)) ?_
  refine lf (a_dup dX9_word_39 rfl) ?_
  refine lf (a_aload_n dX9_word_40 rfl) ?_
  obtain ⟨v_, W41, k41, rfl, hE, hwn, hS⟩ := (t_J0_init_905df (r := wn W) hw2 hw1.1 (by rw [hwW]; exact ho2) hA2 h0 h6 hW.2.2.2.2.1 hl2 (by rw [wn_mk, hwW]; omega))
  refine lf (a_invI (b2 := (0, 0)) k41 rfl dX9_word_41 yk_J0_init_905df rfl rfl im_J0_init_905df ml_X9_54 rfl (by decide) ⟨Nat.le_refl _, by show 6 + 0 ≤ 12 - l.length; omega⟩ (Nat.le_of_ble_eq_true rfl)) ?_
  refine ⟨_, _, (a_areturn dX9_word_44 rfl (by first | exact Or.inl ⟨_, rfl⟩ | exact Or.inr ⟨_, rfl⟩)), ?_⟩
  refine ⟨_, rfl, by rw [hwW], ?_, by rw [hwn, wn_mk, hwW], by rw [hwW] at hS; exact hS⟩
  have e1 : Ex (fun i => i = wn μ) μ W := (Ex.mk hw (l.length * 32 + 24)).trans (Ex.of hI.1)
  have e2 : Ex (fun i => i = wn μ ∨ i = wn μ + 1) μ W41 := ((e1.trans (Ex.mk hw1 0)).mono (fun _ _ z => Or.inl z)).trans (hE.mono (fun i _ z => Or.inr (by rw [z, hwW])))
  exact e2.mono (fun i hi z => by rcases z with z | z <;> omega)
end STRO
