section LAWALL
theorem kl_19 : Cond.classLink RL 19 RX10 ∈ lwa := lwa_in 81 (by decide +kernel) rfl
theorem pbe {a b c d : Nat} (h1 : a ≤ c) (h2 : c ≤ a) (h3 : b ≤ d) (h4 : d ≤ b) : (a, b) = (c, d) := by
  rw [Nat.le_antisymm h1 h2, Nat.le_antisymm h3 h4]
theorem law_all {L : Nat} {xs : Nat → Int32} (hL : L ≤ 260) : ∃ μ1, AW Y_L_law RLaw (600086, 7301442) (mu0 L xs) 0 [(0, .ref 2000000)] [] (.inl (some (.int 1))) μ1 := by
  suffices h : WP Y_L_law RLaw (600086, 7301442) (mu0 L xs) 0 [(0, .ref 2000000)] [] QLw by
    obtain ⟨o, μ1, h1, h2⟩ := h
    have h3 : o = .inl (some (.int 1)) := h2
    subst h3
    exact ⟨μ1, h1⟩
  have hd0 : decode Y_L_law.2.1 0 = .ok (.new 19, 3) := dL_law_0
  have hh : (600086, 7301442) = (((600085, 7301424) : Nat × Nat).1 + 1, ((600085, 7301424) : Nat × Nat).2 + 18) := (pbe (Nat.le_of_ble_eq_true rfl) (Nat.le_of_ble_eq_true rfl) (Nat.le_of_ble_eq_true rfl) (Nat.le_of_ble_eq_true rfl))
  refine lf (a_new (c9 := 0) (Y := Y_L_law) (rm := RLaw) (μ := mu0 L xs) (pc := 0) (b' := (600085, 7301424)) hd0 cls_X10 kl_19 in_X10 ini_RX10 (fun j hj => by rcases (by omega : j = 0 ∨ j = 1 ∨ j = 2 ∨ j = 3 ∨ j = 4 ∨ j = 5 ∨ j = 6 ∨ j = 7 ∨ j = 8 ∨ j = 9 ∨ j = 10 ∨ j = 11 ∨ j = 12 ∨ j = 13 ∨ j = 14 ∨ j = 15 ∨ j = 16 ∨ j = 17) with e | e | e | e | e | e | e | e | e | e | e | e | e | e | e | e | e | e <;> subst e <;> rfl) (show km (mk (mu0 L xs) 0) 0 = 11 from (km_lt (by decide)).trans (by decide +kernel)) (show 0 + 1 < 1000000 by decide) hh) ?_
  rw [show wn (mu0 L xs) = 0 from rfl]
  refine lf (a_dup dL_law_3 rfl) ?_
  obtain ⟨v1, V1, k1, rfl, hB⟩ := i_X10_init (nu_mk (show wn (mu0 L xs) = 0 from rfl))
  refine lf (a_invI (b2 := (599748, 7295708)) k1 rfl dL_law_4 yk_X10_init rfl rfl im_X10_init ml_L_171 rfl (by decide) ⟨Nat.le_of_ble_eq_true rfl, Nat.le_of_ble_eq_true rfl⟩ (Nat.le_of_ble_eq_true rfl)) ?_
  refine lf (a_astore_n dL_law_7 (by decide)) ?_
  refine lf (a_iconst (1 : Int32) dL_law_8 (by decide)) ?_
  refine lf (a_newI (c9 := 0) (Y := Y_L_law) (rm := RLaw) (μ := V1) (pc := 9) (len := 1) (t := 20) (aty := .int) (ty := .int) (b' := (599747, 7295707)) dL_law_9 rfl acw_int ⟨rfl, by decide, by decide, by decide⟩ rfl (by decide) (by decide) (by rw [hB.1]; exact (km_lt (by decide)).trans (by decide +kernel)) (by rw [hB.1]; exact (al_lt (by decide)).trans (by decide +kernel)) (by rw [hB.1]; decide) (pbe (Nat.le_of_ble_eq_true rfl) (Nat.le_of_ble_eq_true rfl) (Nat.le_of_ble_eq_true rfl) (Nat.le_of_ble_eq_true rfl))) ?_
  rw [hB.1]
  have hz : ∀ i k, i < 339 → gR (mk V1 0) i k = r1 i k ∧ (i < 338 → gI (mk V1 0) i k = (if i = 0 ∧ k = 5 then -1 else 0)) ∧ gL (mk V1 0) i k = 0 := fun i k hi => by
    rw [gR_mk, gI_mk, gL_mk, hB.1]
    by_cases e : i = 338
    · rw [if_pos e, if_pos e, if_pos e, e]
      exact ⟨(r1_none (show kt 338 = 20 by decide +kernel) (by decide) (by decide +kernel) k).symm, fun h => absurd h (by decide), rfl⟩
    · rw [if_neg e, if_neg e, if_neg e]
      obtain ⟨y1, y2, y3⟩ := hB.2.2.2 i (Nat.zero_le _) (by omega) k
      exact ⟨y3, fun _ => y1, y2⟩
  have hrel := rel0 (μ := mk V1 0) (by rw [wn_mk, hB.1]) (fun i k hi => (hz i k hi).1) (fun i k hi => (hz i k (by omega)).2.1 hi) (fun i k hi => (hz i k hi).2.2)
  have hgx : gX (mk V1 0) = (L, xs) := by
    rw [gX_mk, hB.2.1, gX_mk]
    rfl
  have hn : wn (mk V1 0) = 339 := by rw [wn_mk, hB.1]
  generalize mk V1 0 = V at hrel hgx hn ⊢
  have hw := hrel.1.wf
  refine lf (a_dup dL_law_11 rfl) ?_
  refine lf (a_iconst (0 : Int32) dL_law_12 (by decide)) ?_
  refine lf (a_aload_n dL_law_13 rfl) ?_
  refine lf (a_slen dL_law_14 hgx) ?_
  refine lfn (a_if_ne (tgt := 24) dL_law_15 (by decide)) (fun h15 => ?_) (fun h15 => ?_)
  · have hlt : 0 < L := Nat.pos_of_ne_zero fun z => h15 (by rw [z]; rfl)
    refine lf (a_aload_n dL_law_24 rfl) ?_
    refine lf (a_iconst (0 : Int32) dL_law_25 (by decide)) ?_
    refine lf (a_sld dL_law_26 hgx (ixn (m := 0) hlt (by omega))) ?_
    refine lf (a_ist dL_law_27 (ca_338 hw) (ixn (m := 0) (by decide) (by decide))) ?_
    refine lf (a_astore_n dL_law_28 (by decide)) ?_
    refine lf (a_iconst (1 : Int32) dL_law_29 (by decide)) ?_
    refine lf (a_istore_n dL_law_30 (by decide)) ?_
    refine lf (a_iconst (0 : Int32) dL_law_31 (by decide)) ?_
    refine lf (a_istore dL_law_32 (by decide)) ?_
    exact lf (a_room (b' := (500 * 5, 372000 * 5)) (Nat.le_of_ble_eq_true rfl) (Nat.le_of_ble_eq_true rfl)) (lf (a_loc (LA0 0) rfl) (law_flights (X := (L, xs)) hL 5 0 3 58 _ _ _ _ _ rfl (hrel.st _) (Nat.le_of_eq hn) hgx))
  · refine lf (a_sipush (5759 : Int32) dL_law_18 (by decide)) ?_
    refine lf (a_goto (tgt := 27) dL_law_21 (by decide)) ?_
    refine lf (a_ist dL_law_27 (ca_338 hw) (ixn (m := 0) (by decide) (by decide))) ?_
    refine lf (a_astore_n dL_law_28 (by decide)) ?_
    refine lf (a_iconst (1 : Int32) dL_law_29 (by decide)) ?_
    refine lf (a_istore_n dL_law_30 (by decide)) ?_
    refine lf (a_iconst (0 : Int32) dL_law_31 (by decide)) ?_
    refine lf (a_istore dL_law_32 (by decide)) ?_
    exact lf (a_room (b' := (500 * 5, 372000 * 5)) (Nat.le_of_ble_eq_true rfl) (Nat.le_of_ble_eq_true rfl)) (lf (a_loc (LA0 0) rfl) (law_flights (X := (L, xs)) hL 5 0 3 58 _ _ _ _ _ rfl (hrel.st _) (Nat.le_of_eq hn) hgx))
end LAWALL
