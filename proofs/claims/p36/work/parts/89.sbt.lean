section SBT
variable {μ W : Wd} {lo a r : Nat} {l s : List Nat}
theorem StrV.ex2 {S : Nat → Prop} (hs : StrV μ r s) (he : Ex S μ W) (h1 : Ob μ r 0 → ¬ S r) (h2 : ∀ v, gR μ r 0 = some v → Ar μ v 22 s.length → ¬ S v) : StrV W r s := by
  obtain ⟨q1, q2, q3⟩ := hs
  refine ⟨q1, q2, ?_⟩
  rcases q3 with h | ⟨g1, g2, v, g3, g4, g5, g6, g7⟩
  · exact Or.inl h
  · have n1 := h1 g2
    have n2 := h2 v g4 g5
    exact Or.inr ⟨g1, g2.ex he, v, g3, (he.r g2.1 n1 0).trans g4, g5.ex he, (he.i g2.1 n1 1).trans g6, fun j hj => (he.i g5.1 n2 j).trans (g7 j hj)⟩
abbrev R_J0_getBytes_840e7 : Room := { frames := 4, cells := 0, slots := 0, locals := 200 }
/-- the letters of s stand from p on -/
def GbQ (μ : Wd) (v p : Nat) (s : List Nat) (r : Option Value) (V : Wd) : Prop := r = none ∧ Out (fun i => i = v) μ V ∧ ∀ j, gI V v j = if p ≤ j ∧ j < p + s.length then nI (s.getD (j - p) 0) else gI μ v j
theorem t_J0_getBytes_840e7 (hw : Wf μ) (hs : StrV μ r s) {v cap p : Nat} (ha : Ar μ v 22 cap) (hp : p + s.length ≤ cap) (hcap : cap < 4000) : CV Y_J0_getBytes_840e7 R_J0_getBytes_840e7 [.ref r, .ref v, .int (nI p), .int 0] μ (GbQ μ v p s) := by
  refine CV.ent yk_J0_getBytes_840e7 (Nat.le_of_ble_eq_true rfl) ?_
  have hs0 := hs
  obtain ⟨h60, hx, ⟨c, q, rfl, hq, hl⟩ | ⟨-, ho, z, -, hr, ha9, hc, hb⟩⟩ := hs
  · refine lf (a_aload_n dJ0_getBytes_840e7_0 rfl) ?_
    refine lf (a_invT (b2 := (0, 0)) hs0 (t_J0_coder_7d493 hs0) rfl dJ0_getBytes_840e7_1 yk_J0_coder_7d493 im_J0_coder_7d493 se_J0_coder_7d493 ml_J0_335 rfl rfl (by decide) (by decide) (Nat.le_of_ble_eq_true rfl)) ?_
    refine lf (a_iload_n dJ0_getBytes_840e7_4 rfl) ?_
    refine lfn (a_icmp_ne (tgt := 28) dJ0_getBytes_840e7_5 (by decide)) (fun h5 => absurd h5 (fun z => z rfl)) (fun h5 => ?_)
    refine lf (a_aload_n dJ0_getBytes_840e7_8 rfl) ?_
    refine lf (a_kval rfl dJ0_getBytes_840e7_9 hq) ?_
    refine lf (a_iconst (0 : Int32) dJ0_getBytes_840e7_12 (by decide)) ?_
    refine lf (a_aload_n dJ0_getBytes_840e7_13 rfl) ?_
    refine lf (a_iload_n dJ0_getBytes_840e7_14 rfl) ?_
    refine lf (a_iload_n dJ0_getBytes_840e7_15 rfl) ?_
    refine lf (a_ishl dJ0_getBytes_840e7_16) ?_
    rw [shl0 (by omega)]
    refine lf (a_aload_n dJ0_getBytes_840e7_17 rfl) ?_
    refine lf (a_kval rfl dJ0_getBytes_840e7_18 hq) ?_
    refine lf (a_klen dJ0_getBytes_840e7_21 hq) ?_
    refine lf (a_copyBK (dp := p) hq dJ0_getBytes_840e7_22 acl_J0 ha (by rw [hl]; exact hp) (by omega) (by rw [hl]; exact hx) (by decide) (by decide) (Nat.le_of_ble_eq_true rfl)) ?_
    refine lf (a_goto (tgt := 43) dJ0_getBytes_840e7_25 (by decide)) ?_
    refine ⟨_, _, (a_return dJ0_getBytes_840e7_43 rfl), ?_⟩
    refine ⟨_, rfl, rfl, (Out.rfl' hw).cpY rfl, fun j => ?_⟩
    rw [gI_cpY, hl]
    by_cases e : p ≤ j ∧ j < p + s.length
    · rw [if_pos e, if_pos ⟨rfl, e⟩]
    · rw [if_neg e, if_neg (fun f => e f.2)]
  · refine lf (a_aload_n dJ0_getBytes_840e7_0 rfl) ?_
    refine lf (a_invT (b2 := (0, 0)) hs0 (t_J0_coder_7d493 hs0) rfl dJ0_getBytes_840e7_1 yk_J0_coder_7d493 im_J0_coder_7d493 se_J0_coder_7d493 ml_J0_335 rfl rfl (by decide) (by decide) (Nat.le_of_ble_eq_true rfl)) ?_
    refine lf (a_iload_n dJ0_getBytes_840e7_4 rfl) ?_
    refine lfn (a_icmp_ne (tgt := 28) dJ0_getBytes_840e7_5 (by decide)) (fun h5 => absurd h5 (fun z => z rfl)) (fun h5 => ?_)
    refine lf (a_aload_n dJ0_getBytes_840e7_8 rfl) ?_
    refine lf (a_getR hr dJ0_getBytes_840e7_9 fs_J0_9 rfl ho) ?_
    refine lf (a_iconst (0 : Int32) dJ0_getBytes_840e7_12 (by decide)) ?_
    refine lf (a_aload_n dJ0_getBytes_840e7_13 rfl) ?_
    refine lf (a_iload_n dJ0_getBytes_840e7_14 rfl) ?_
    refine lf (a_iload_n dJ0_getBytes_840e7_15 rfl) ?_
    refine lf (a_ishl dJ0_getBytes_840e7_16) ?_
    rw [shl0 (by omega)]
    refine lf (a_aload_n dJ0_getBytes_840e7_17 rfl) ?_
    refine lf (a_getR hr dJ0_getBytes_840e7_18 fs_J0_9 rfl ho) ?_
    refine lf (a_alen (nI s.length) dJ0_getBytes_840e7_21 ha9 (by decide) rfl) ?_
    refine lf (a_copyB (dp := p) dJ0_getBytes_840e7_22 acl_J0 ha9 ha (Nat.le_refl _) hp (by omega) (fun j hj => ⟨s.getD j 0, hx _ (getD_mem s j hj), hb j hj⟩) (by decide) (by decide) (Nat.le_of_ble_eq_true rfl)) ?_
    refine lf (a_goto (tgt := 43) dJ0_getBytes_840e7_25 (by decide)) ?_
    refine ⟨_, _, (a_return dJ0_getBytes_840e7_43 rfl), ?_⟩
    refine ⟨_, rfl, rfl, (Out.rfl' hw).cpY rfl, fun j => ?_⟩
    rw [gI_cpY]
    by_cases e : p ≤ j ∧ j < p + s.length
    · rw [if_pos e, if_pos ⟨rfl, e⟩, hb _ (by omega)]
    · rw [if_neg e, if_neg (fun f => e f.2)]
abbrev R_J5_inflateIfNeededFor_a7421 : Room := { frames := 4, cells := 0, slots := 0, locals := 200 }
theorem t_J5_inflateIfNeededFor_a7421 (ho : Ob μ a 12) (hc : gI μ a 1 = 0) (hs : StrV μ r s) : Ct Y_J5_inflateIfNeededFor_a7421 R_J5_inflateIfNeededFor_a7421 [.ref a, .ref r] μ (.inl none) μ := by
  refine Ct.ent yk_J5_inflateIfNeededFor_a7421 (Nat.le_of_ble_eq_true rfl) ?_
  refine a_gsCS5 rfl dJ5_inflateIfNeededFor_a7421_0 ?_
  refine a_if_eq (tgt := 21) dJ5_inflateIfNeededFor_a7421_3 (by decide) (fun h3 => absurd h3 (by decide)) (fun h3 => ?_)
  refine a_aload_n dJ5_inflateIfNeededFor_a7421_6 rfl ?_
  refine a_getI dJ5_inflateIfNeededFor_a7421_7 fs_J5_22 rfl ho ?_
  rw [hc]
  refine a_aload_n dJ5_inflateIfNeededFor_a7421_10 rfl ?_
  refine a_invT (b2 := (0, 0)) hs (t_J0_coder_7d493 hs) rfl dJ5_inflateIfNeededFor_a7421_11 yk_J0_coder_7d493 im_J0_coder_7d493 se_J0_coder_7d493 ml_J5_40 rfl rfl (by decide) (by decide) (Nat.le_of_ble_eq_true rfl) ?_
  refine a_icmp_eq (tgt := 21) dJ5_inflateIfNeededFor_a7421_14 (by decide) (fun h14 => ?_) (fun h14 => absurd h14 (fun z => z rfl))
  exact a_out rfl rfl (a_return dJ5_inflateIfNeededFor_a7421_21 rfl)
abbrev R_J5_putStringAt_47b60 : Room := { frames := 6, cells := 0, slots := 0, locals := 300 }
theorem t_J5_putStringAt_47b60 (hw : Wf μ) (ho : Ob μ a 12) (hc : gI μ a 1 = 0) {v cap p : Nat} (hr : gR μ a 0 = some v) (hs : StrV μ r s) (ha : Ar μ v 22 cap) (hp : p + s.length ≤ cap) (hcap : cap < 4000) : CV Y_J5_putStringAt_47b60 R_J5_putStringAt_47b60 [.ref a, .int (nI p), .ref r] μ (GbQ μ v p s) := by
  refine CV.ent yk_J5_putStringAt_47b60 (Nat.le_of_ble_eq_true rfl) ?_
  refine lf (a_aload_n dJ5_putStringAt_47b60_0 rfl) ?_
  refine lf (a_aload_n dJ5_putStringAt_47b60_1 rfl) ?_
  refine lf (a_invG (b2 := (0, 0)) (t_J5_inflateIfNeededFor_a7421 ho hc hs) rfl dJ5_putStringAt_47b60_2 yk_J5_inflateIfNeededFor_a7421 im_J5_inflateIfNeededFor_a7421 sl_IF ml_J5_397 rfl ho (by decide) hc_J4 (by decide) (by decide) (Nat.le_of_ble_eq_true rfl)) ?_
  refine lf (a_aload_n dJ5_putStringAt_47b60_5 rfl) ?_
  refine lf (a_aload_n dJ5_putStringAt_47b60_6 rfl) ?_
  refine lf (a_getR hr dJ5_putStringAt_47b60_7 fs_J5_15 rfl ho) ?_
  refine lf (a_iload_n dJ5_putStringAt_47b60_10 rfl) ?_
  refine lf (a_aload_n dJ5_putStringAt_47b60_11 rfl) ?_
  refine lf (a_getI dJ5_putStringAt_47b60_12 fs_J5_22 rfl ho) ?_
  rw [hc]
  obtain ⟨v_, W15, k15, rfl, hO, hbs⟩ := (t_J0_getBytes_840e7 hw hs ha hp hcap)
  refine lf (a_invT (b2 := (0, 0)) hs k15 rfl dJ5_putStringAt_47b60_15 yk_J0_getBytes_840e7 im_J0_getBytes_840e7 se_J0_getBytes_840e7 ml_J5_399 rfl rfl (by decide) (by decide) (Nat.le_of_ble_eq_true rfl)) ?_
  refine ⟨_, _, (a_return dJ5_putStringAt_47b60_18 rfl), ?_⟩
  exact ⟨_, rfl, rfl, hO, hbs⟩
abbrev R_J5_append_cf1ce : Room := { frames := 10, cells := 1, slots := 1900, locals := 500 }
theorem t_J5_append_cf1ce (hw : Wf μ) {q0 : Nat} (hS : SbV lo μ a l q0) (hs : StrV μ r s) (hl : l.length + s.length ≤ 900) (hm : wn μ + 1 < 1000000) : CV Y_J5_append_cf1ce R_J5_append_cf1ce [.ref a, .ref r] μ (SaQ lo μ a (l ++ s)) := by
  refine CV.ent yk_J5_append_cf1ce (Nat.le_of_ble_eq_true rfl) ?_
  have ho := hS.ob
  have hct := hS.len
  refine lf (a_aload_n dJ5_append_cf1ce_0 rfl) ?_
  refine lf (a_ifnn (tgt := 9) dJ5_append_cf1ce_1 (by decide)) ?_
  skip
  refine lf (a_aload_n dJ5_append_cf1ce_9 rfl) ?_
  refine lf (a_invT (b2 := (1, 1900)) hs (t_J0_length_8abf5 hs) rfl dJ5_append_cf1ce_10 yk_J0_length_8abf5 im_J0_length_8abf5 se_J0_length_8abf5 ml_J5_32 rfl rfl (by decide) (by decide) (Nat.le_of_ble_eq_true rfl)) ?_
  refine lf (a_istore_n dJ5_append_cf1ce_13 (by decide)) ?_
  refine lf (a_aload_n dJ5_append_cf1ce_14 rfl) ?_
  refine lf (a_aload_n dJ5_append_cf1ce_15 rfl) ?_
  refine lf (a_getI dJ5_append_cf1ce_16 fs_J5_79 rfl ho) ?_
  rw [hct]
  refine lf (a_iload_n dJ5_append_cf1ce_19 rfl) ?_
  refine lf (a_iadd dJ5_append_cf1ce_20) ?_
  rw [nI_add]
  obtain ⟨v_, W21, k21, rfl, hE, hwn, ⟨p1, p2, p3, p4, ho7, hc7, hct7, v, cap, p5, hr7, ha7, p6, p7, p8, hb7⟩, hold⟩ := (t_J5_ensureCapacityInternal_d00df hw hS hl hm)
  refine lf (a_invG (b2 := (0, 0)) k21 rfl dJ5_append_cf1ce_21 yk_J5_ensureCapacityInternal_d00df im_J5_ensureCapacityInternal_d00df sl_EN ml_J5_100 rfl ho (by decide) hc_J4 (by decide) ⟨Nat.le_refl _, Nat.le_refl _⟩ (Nat.le_of_ble_eq_true rfl)) ?_
  have hav := ob_ne ho7 ha7
  have hs7 : StrV W21 r s := hs.ex2 hE (fun e z => by have h := e.2; rw [z, ho.2] at h; omega) (fun z e h z9 => by have h2 := h.2.1; rw [z9, ho.2] at h2; omega)
  refine lf (a_aload_n dJ5_append_cf1ce_24 rfl) ?_
  refine lf (a_aload_n dJ5_append_cf1ce_25 rfl) ?_
  refine lf (a_getI dJ5_append_cf1ce_26 fs_J5_79 rfl ho7) ?_
  rw [hct7]
  refine lf (a_aload_n dJ5_append_cf1ce_29 rfl) ?_
  obtain ⟨v_, W30, k30, rfl, hO, hbs⟩ := (t_J5_putStringAt_47b60 hE.1 ho7 hc7 (p := l.length) hr7 hs7 ha7 p7 (by omega))
  refine lf (a_invG (b2 := (0, 0)) k30 rfl dJ5_append_cf1ce_30 yk_J5_putStringAt_47b60 im_J5_putStringAt_47b60 sl_PS ml_J5_208 rfl ho7 (by decide) hc_J4 (by decide) (by decide) (Nat.le_of_ble_eq_true rfl)) ?_
  have ho30 : Ob W30 a 12 := ho7.ex (Ex.of hO)
  have hct30 : gI W30 a 3 = nI l.length := (hO.i hav 3).trans hct7
  refine lf (a_aload_n dJ5_append_cf1ce_33 rfl) ?_
  refine lf (a_dup dJ5_append_cf1ce_34 rfl) ?_
  refine lf (a_getI dJ5_append_cf1ce_35 fs_J5_79 rfl ho30) ?_
  rw [hct30]
  refine lf (a_iload_n dJ5_append_cf1ce_38 rfl) ?_
  refine lf (a_iadd dJ5_append_cf1ce_39) ?_
  rw [nI_add]
  refine lf (a_putI dJ5_append_cf1ce_40 fs_J5_79 rfl rfl rfl ho30) ?_
  refine lf (a_aload_n dJ5_append_cf1ce_43 rfl) ?_
  refine ⟨_, _, (a_areturn dJ5_append_cf1ce_44 rfl (by first | exact Or.inl ⟨_, rfl⟩ | exact Or.inr ⟨_, rfl⟩)), ?_⟩
  refine ⟨_, rfl, rfl, ?_, ?_, by rw [List.length_append]; exact hl, fun z hz => ?_, p3, p4, ?_, ?_, ?_, v, cap, p5, ?_, ?_, by rw [List.length_append]; exact p7, Nat.zero_le _, p8, fun j hj => ?_⟩
  · exact Ex.sI2 (S := SbS μ a) ⟨hO.1, by rw [hO.2.1]; exact hE.2.1, hO.2.2.2.1.trans hE.2.2.1, fun i hi => by rw [hO.2.2.1]; exact hE.2.2.2.1 i hi, fun i hi hs9 => by
      have n1 : ¬ i = a := fun e => hs9 (Or.inl e)
      have n2 : ¬ i = v := fun e => hs9 (Or.inr (hold i (by rw [e]; exact hr7) hi))
      exact fun k => ⟨(hO.i n2 k).trans (hE.2.2.2.2 i hi n1 k).1, (hO.l n2 k).trans (hE.2.2.2.2 i hi n1 k).2.1, (hO.r n2 k).trans (hE.2.2.2.2 i hi n1 k).2.2⟩⟩ (fun _ => Or.inl rfl)
  · show wn W30 ≤ _
    rw [hO.2.1]; exact hwn
  · rcases List.mem_append.mp hz with h9 | h9
    · exact p2 z h9
    · exact hs.2.1 z h9
  · exact ho30
  · rw [gI_sI, if_neg (fun z => by omega), hO.i hav]; exact hc7
  · rw [gI_sI, if_pos ⟨rfl, rfl⟩, List.length_append]
  · rw [gR_sI, hO.r hav]; exact hr7
  · exact (show Ar W30 v 22 cap from ha7.ex (Ex.of hO))
  · rw [gI_sI, if_neg (fun e => hav e.1.symm), hbs]
    by_cases z : l.length ≤ j ∧ j < l.length + s.length
    · rw [if_pos z]
      refine ⟨s.getD (j - l.length) 0, hs.2.1 _ (getD_mem _ _ (by omega)), rfl, fun _ => ?_⟩
      rw [getD_app2 z.1]
    · rw [if_neg z]
      obtain ⟨x9, e1, e2, e3⟩ := hb7 j hj
      refine ⟨x9, e1, e2, fun hh => ?_⟩
      rw [List.length_append] at hh
      rw [getD_app1 (by omega)]
      exact e3 (by omega)
end SBT
