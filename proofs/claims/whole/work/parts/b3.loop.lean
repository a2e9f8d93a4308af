section LOOP
theorem gt6 {L i : Nat} (hL : L ≤ 3072) (hi : i ≤ 4000) : (nI L - 6 < nI i) ↔ L < i + 6 := by
  by_cases h : 6 ≤ L
  · rw [show (6 : Int32) = nI 6 from rfl, nI_subI h, nI_ltI (by omega) (by omega)]
    omega
  · have h0 : nI L - 6 < 0 := by
      rcases (by omega : L = 0 ∨ L = 1 ∨ L = 2 ∨ L = 3 ∨ L = 4 ∨ L = 5) with e | e | e | e | e | e <;> subst e <;> decide
    have h1 := nI_ge0 (n := i) (by omega)
    rw [Int32.lt_iff_toInt_lt] at h0 ⊢
    rw [Int32.le_iff_toInt_le] at h1
    omega
theorem pbe {a b c d : Nat} (h1 : a ≤ c) (h2 : c ≤ a) (h3 : b ≤ d) (h4 : d ≤ b) : (a, b) = (c, d) := by
  rw [Nat.le_antisymm h1 h2, Nat.le_antisymm h3 h4]
theorem law_turn {μ : Wd} {N i bb : Nat} {X : Nat × (Nat → Int32)} (h : RelV N μ) (hN : N ≤ 511) (hX : gX μ = X) (hi : i + 6 ≤ X.1) (hL : X.1 ≤ 3072) (kx : ∀ V, RelV (N + 1) V → gX V = X → WP Y_L_law RLaw (60 * bb, 300 * bb) V 1976 (LAw i) [] QLw) (x : Int32) : WP Y_L_law RLaw (60 * (bb + 1), 300 * (bb + 1)) μ 40 (LAw i) [.int x] QLw := by
  by_cases h1 : x.toInt < 0 ∨ 32 < x.toInt
  · refine lf (a_tabOut (tgt := 1976) dL_law_40 h1 (by decide)) ?_
    exact lf (a_room (b' := (60 * bb, 300 * bb)) (by show 60 * bb ≤ 60 * (bb + 1); omega) (by show 300 * bb ≤ 300 * (bb + 1); omega)) (kx μ h.mono hX)
  · rcases (by omega : x.toInt = 0 ∨ x.toInt = 1 ∨ x.toInt = 2 ∨ x.toInt = 3 ∨ x.toInt = 4 ∨ x.toInt = 5 ∨ x.toInt = 6 ∨ x.toInt = 7 ∨ x.toInt = 8 ∨ x.toInt = 9 ∨ x.toInt = 10 ∨ x.toInt = 11 ∨ x.toInt = 12 ∨ x.toInt = 13 ∨ x.toInt = 14 ∨ x.toInt = 15 ∨ x.toInt = 16 ∨ x.toInt = 17 ∨ x.toInt = 18 ∨ x.toInt = 19 ∨ x.toInt = 20 ∨ x.toInt = 21 ∨ x.toInt = 22 ∨ x.toInt = 23 ∨ x.toInt = 24 ∨ x.toInt = 25 ∨ x.toInt = 26 ∨ x.toInt = 27 ∨ x.toInt = 28 ∨ x.toInt = 29 ∨ x.toInt = 30 ∨ x.toInt = 31 ∨ x.toInt = 32) with e | e | e | e | e | e | e | e | e | e | e | e | e | e | e | e | e | e | e | e | e | e | e | e | e | e | e | e | e | e | e | e | e
    · exact lf (a_tabIn (off := 148) (tgt := 188) dL_law_40 (by omega) (by omega) (by rw [e]; rfl) (by decide)) (s_feed h hX hi hL kx)
    · exact lf (a_tabIn (off := 252) (tgt := 292) dL_law_40 (by omega) (by omega) (by rw [e]; rfl) (by decide)) (s_load h hX hi hL kx (by omega))
    · exact lf (a_tabIn (off := 308) (tgt := 348) dL_law_40 (by omega) (by omega) (by rw [e]; rfl) (by decide)) (s_errorCode h hX hi hL kx)
    · exact lf (a_tabIn (off := 321) (tgt := 361) dL_law_40 (by omega) (by omega) (by rw [e]; rfl) (by decide)) (s_errorPosition h hX hi hL kx)
    · exact lf (a_tabIn (off := 334) (tgt := 374) dL_law_40 (by omega) (by omega) (by rw [e]; rfl) (by decide)) (s_count h hX hi hL kx)
    · exact lf (a_tabIn (off := 390) (tgt := 430) dL_law_40 (by omega) (by omega) (by rw [e]; rfl) (by decide)) (s_cabin h hX hi hL kx)
    · exact lf (a_tabIn (off := 458) (tgt := 498) dL_law_40 (by omega) (by omega) (by rw [e]; rfl) (by decide)) (s_meal h hX hi hL kx)
    · exact lf (a_tabIn (off := 526) (tgt := 566) dL_law_40 (by omega) (by omega) (by rw [e]; rfl) (by decide)) (s_passenger h hX hi hL kx)
    · exact lf (a_tabIn (off := 594) (tgt := 634) dL_law_40 (by omega) (by omega) (by rw [e]; rfl) (by decide)) (s_trolley h hX hi hL kx)
    · exact lf (a_tabIn (off := 662) (tgt := 702) dL_law_40 (by omega) (by omega) (by rw [e]; rfl) (by decide)) (s_held h hX hi hL kx)
    · exact lf (a_tabIn (off := 730) (tgt := 770) dL_law_40 (by omega) (by omega) (by rw [e]; rfl) (by decide)) (s_topUpAt h hX hi hL kx)
    · exact lf (a_tabIn (off := 798) (tgt := 838) dL_law_40 (by omega) (by omega) (by rw [e]; rfl) (by decide)) (s_board h hX hi hL kx)
    · exact lf (a_tabIn (off := 878) (tgt := 918) dL_law_40 (by omega) (by omega) (by rw [e]; rfl) (by decide)) (s_change h hX hi hL kx)
    · exact lf (a_tabIn (off := 946) (tgt := 986) dL_law_40 (by omega) (by omega) (by rw [e]; rfl) (by decide)) (s_leave h hX hi hL kx)
    · exact lf (a_tabIn (off := 1002) (tgt := 1042) dL_law_40 (by omega) (by omega) (by rw [e]; rfl) (by decide)) (s_setNeeds h hX hi hL kx)
    · exact lf (a_tabIn (off := 1070) (tgt := 1110) dL_law_40 (by omega) (by omega) (by rw [e]; rfl) (by decide)) (s_loadOrder h hX hi hL kx)
    · exact lf (a_tabIn (off := 1114) (tgt := 1154) dL_law_40 (by omega) (by omega) (by rw [e]; rfl) (by decide)) (s_store h hX hi hL kx)
    · exact lf (a_tabIn (off := 1182) (tgt := 1222) dL_law_40 (by omega) (by omega) (by rw [e]; rfl) (by decide)) (s_unload h hX hi hL kx)
    · exact lf (a_tabIn (off := 1250) (tgt := 1290) dL_law_40 (by omega) (by omega) (by rw [e]; rfl) (by decide)) (s_topUp h hX hi hL kx)
    · exact lf (a_tabIn (off := 1318) (tgt := 1358) dL_law_40 (by omega) (by omega) (by rw [e]; rfl) (by decide)) (s_advance h hX hi hL kx)
    · exact lf (a_tabIn (off := 1374) (tgt := 1414) dL_law_40 (by omega) (by omega) (by rw [e]; rfl) (by decide)) (s_reason h hX hi hL kx)
    · exact lf (a_tabIn (off := 1387) (tgt := 1427) dL_law_40 (by omega) (by omega) (by rw [e]; rfl) (by decide)) (s_outlook h hX hi hL kx)
    · exact lf (a_tabIn (off := 1443) (tgt := 1483) dL_law_40 (by omega) (by omega) (by rw [e]; rfl) (by decide)) (s_mealFor h hX hi hL kx)
    · exact lf (a_tabIn (off := 1499) (tgt := 1539) dL_law_40 (by omega) (by omega) (by rw [e]; rfl) (by decide)) (s_serve h hX hi hL kx)
    · exact lf (a_tabIn (off := 1543) (tgt := 1583) dL_law_40 (by omega) (by omega) (by rw [e]; rfl) (by decide)) (s_account h hX hi hL kx)
    · exact lf (a_tabIn (off := 1598) (tgt := 1638) dL_law_40 (by omega) (by omega) (by rw [e]; rfl) (by decide)) (s_wasteShare h hX hi hL kx (by omega))
    · exact lf (a_tabIn (off := 1641) (tgt := 1681) dL_law_40 (by omega) (by omega) (by rw [e]; rfl) (by decide)) (s_wasteBits h hX hi hL kx (by omega))
    · exact lf (a_tabIn (off := 1654) (tgt := 1694) dL_law_40 (by omega) (by omega) (by rw [e]; rfl) (by decide)) (s_costBits h hX hi hL kx (by omega))
    · exact lf (a_tabIn (off := 1668) (tgt := 1708) dL_law_40 (by omega) (by omega) (by rw [e]; rfl) (by decide)) (s_undo h hX hi hL kx)
    · exact lf (a_tabIn (off := 1712) (tgt := 1752) dL_law_40 (by omega) (by omega) (by rw [e]; rfl) (by decide)) (s_keep h hX hi hL kx)
    · exact lf (a_tabIn (off := 1768) (tgt := 1808) dL_law_40 (by omega) (by omega) (by rw [e]; rfl) (by decide)) (s_restore h hX hi hL kx)
    · exact lf (a_tabIn (off := 1824) (tgt := 1864) dL_law_40 (by omega) (by omega) (by rw [e]; rfl) (by decide)) (s_writeTrolley h hX hi hL kx)
    · exact lf (a_tabIn (off := 1880) (tgt := 1920) dL_law_40 (by omega) (by omega) (by rw [e]; rfl) (by decide)) (s_outputByte h hX hi hL kx)
theorem law_loop {X : Nat × (Nat → Int32)} (hL : X.1 ≤ 3072) : ∀ (n N : Nat) (μ : Wd), RelV N μ → gX μ = X → N + n = 512 → WP Y_L_law RLaw (60 * n, 300 * n) μ 23 (LAw (6 * N)) [] QLw := by
  intro n
  induction n with
  | zero =>
    intro N μ h hX hn
    refine lf (a_iload dL_law_23 rfl) ?_
    refine lf (a_aload_n dL_law_25 rfl) ?_
    refine lf (a_slen dL_law_26 hX) ?_
    refine lf (a_bipush (6 : Int32) dL_law_27 (by decide)) ?_
    refine lf (a_isub dL_law_29) ?_
    refine lf2 (a_icmp_gt (tgt := 1982) dL_law_30 (by decide)) (fun h30 => ?_) (fun h30 => absurd ((gt6 hL (by omega)).mpr (by omega)) h30)
    refine lf (a_iconst (1 : Int32) dL_law_1982 (by decide)) ?_
    exact ⟨_, _, a_ireturn dL_law_1983 rfl rfl, rfl⟩
  | succ n ih =>
    intro N μ h hX hn
    refine lf (a_iload dL_law_23 rfl) ?_
    refine lf (a_aload_n dL_law_25 rfl) ?_
    refine lf (a_slen dL_law_26 hX) ?_
    refine lf (a_bipush (6 : Int32) dL_law_27 (by decide)) ?_
    refine lf (a_isub dL_law_29) ?_
    refine lf2 (a_icmp_gt (tgt := 1982) dL_law_30 (by decide)) (fun h30 => ?_) (fun h30 => ?_)
    · refine lf (a_iconst (1 : Int32) dL_law_1982 (by decide)) ?_
      exact ⟨_, _, a_ireturn dL_law_1983 rfl rfl, rfl⟩
    · have hi : 6 * N + 6 ≤ X.1 := by
        exact Nat.le_of_not_lt fun z => h30 ((gt6 hL (by omega)).mpr z)
      refine lf (a_aload_n dL_law_33 rfl) ?_
      refine lf (a_iload dL_law_34 rfl) ?_
      refine lf (a_sld dL_law_36 hX (ixn (show 6 * N < X.1 by omega) (by omega))) ?_
      refine lf (a_bipush (63 : Int32) dL_law_37 (by decide)) ?_
      refine lf (a_iand dL_law_39) ?_
      refine law_turn h (by omega) hX hi hL (fun V hV hXV => ?_) _
      refine lf (a_iinc (6 : Int32) dL_law_1976 (by decide) rfl (by decide)) ?_
      rw [show nI (6 * N) + (6 : Int32) = nI (6 * (N + 1)) from nI_add (6 * N) 6]
      refine lf (a_goto (tgt := 23) dL_law_1979 (by decide)) ?_
      exact lf (a_loc (LAw (6 * (N + 1))) rfl) (ih (N + 1) V hV hXV (by omega))
theorem law_all {L : Nat} {xs : Nat → Int32} (hL : L ≤ 3072) : ∃ μ1, AW Y_L_law RLaw (601024, 7293034) (mu0 L xs) 0 [(0, .ref 2000000)] [] (.inl (some (.int 1))) μ1 := by
  suffices h : WP Y_L_law RLaw (601024, 7293034) (mu0 L xs) 0 [(0, .ref 2000000)] [] QLw by
    obtain ⟨o, μ1, h1, h2⟩ := h
    have h3 : o = .inl (some (.int 1)) := h2
    subst h3
    exact ⟨μ1, h1⟩
  have hd0 : decode Y_L_law.2.1 0 = .ok (.new 8, 3) := dL_law_0
  have hh : (601024, 7293034) = (((601023, 7293016) : Nat × Nat).1 + 1, ((601023, 7293016) : Nat × Nat).2 + 18) := pbe (Nat.le_of_ble_eq_true rfl) (Nat.le_of_ble_eq_true rfl) (Nat.le_of_ble_eq_true rfl) (Nat.le_of_ble_eq_true rfl)
  refine lf (a_new (Y := Y_L_law) (rm := RLaw) (μ := mu0 L xs) (pc := 0) (b' := (601023, 7293016)) hd0 cls_X10 kl_8 in_X10 ini_RX10 (fun j hj => by rcases (by omega : j = 0 ∨ j = 1 ∨ j = 2 ∨ j = 3 ∨ j = 4 ∨ j = 5 ∨ j = 6 ∨ j = 7 ∨ j = 8 ∨ j = 9 ∨ j = 10 ∨ j = 11 ∨ j = 12 ∨ j = 13 ∨ j = 14 ∨ j = 15 ∨ j = 16 ∨ j = 17) with e | e | e | e | e | e | e | e | e | e | e | e | e | e | e | e | e | e <;> subst e <;> rfl) (show kt 0 = 11 by decide +kernel) (show 0 + 1 < 1000000 by decide) hh) ?_
  rw [show wn (mu0 L xs) = 0 from rfl]
  refine lf (a_dup dL_law_3 rfl) ?_
  obtain ⟨v1, V1, k1, rfl, hB⟩ := i_X10_init (nu_mk (show wn (mu0 L xs) = 0 from rfl))
  refine lf (a_invI (b2 := (600686, 7287300)) k1 rfl dL_law_4 yk_X10_init rfl rfl im_X10_init ml_L_104 rfl (by decide) ⟨Nat.le_of_ble_eq_true rfl, Nat.le_of_ble_eq_true rfl⟩ (Nat.le_of_ble_eq_true rfl)) ?_
  refine lf (a_astore_n dL_law_7 (by decide)) ?_
  refine lf (a_new (Y := Y_L_law) (rm := RLaw) (μ := V1) (pc := 8) (b' := (600685, 7287261)) dL_law_8 cls_X11 kl_105 in_X11 ini_RX11 (fun j hj => by rcases (by omega : j = 0 ∨ j = 1 ∨ j = 2 ∨ j = 3 ∨ j = 4 ∨ j = 5 ∨ j = 6 ∨ j = 7 ∨ j = 8 ∨ j = 9 ∨ j = 10 ∨ j = 11 ∨ j = 12 ∨ j = 13 ∨ j = 14 ∨ j = 15 ∨ j = 16 ∨ j = 17 ∨ j = 18 ∨ j = 19 ∨ j = 20 ∨ j = 21 ∨ j = 22 ∨ j = 23 ∨ j = 24 ∨ j = 25 ∨ j = 26 ∨ j = 27 ∨ j = 28 ∨ j = 29 ∨ j = 30 ∨ j = 31 ∨ j = 32 ∨ j = 33 ∨ j = 34 ∨ j = 35 ∨ j = 36 ∨ j = 37 ∨ j = 38) with e | e | e | e | e | e | e | e | e | e | e | e | e | e | e | e | e | e | e | e | e | e | e | e | e | e | e | e | e | e | e | e | e | e | e | e | e | e | e <;> subst e <;> rfl) (by rw [hB.1]; decide +kernel) (by rw [hB.1]; decide) (pbe (Nat.le_of_ble_eq_true rfl) (Nat.le_of_ble_eq_true rfl) (Nat.le_of_ble_eq_true rfl) (Nat.le_of_ble_eq_true rfl))) ?_
  rw [hB.1]
  refine lf (a_dup dL_law_11 rfl) ?_
  obtain ⟨v2, V2, k2, rfl, hM⟩ := i_X11_init (nu_mk hB.1)
  refine lf (a_invI (b2 := (600661, 7280981)) k2 rfl dL_law_12 yk_X11_init rfl rfl im_X11_init ml_L_107 rfl (by decide) ⟨Nat.le_of_ble_eq_true rfl, Nat.le_of_ble_eq_true rfl⟩ (Nat.le_of_ble_eq_true rfl)) ?_
  refine lf (a_astore_n dL_law_15 (by decide)) ?_
  refine lf (a_iconst (1 : Int32) dL_law_16 (by decide)) ?_
  refine lf (a_newL (Y := Y_L_law) (rm := RLaw) (μ := V2) (pc := 17) (len := 1) (b' := (600660, 7280980)) dL_law_17 acw_long (by decide) (by rw [hM.1]; decide +kernel) ((al_lt (by rw [hM.1]; decide)).trans (by rw [hM.1]; decide +kernel)) (by rw [hM.1]; decide) (pbe (Nat.le_of_ble_eq_true rfl) (Nat.le_of_ble_eq_true rfl) (Nat.le_of_ble_eq_true rfl) (Nat.le_of_ble_eq_true rfl))) ?_
  rw [hM.1]
  refine lf (a_astore_n dL_law_19 (by decide)) ?_
  refine lf (a_iconst (0 : Int32) dL_law_20 (by decide)) ?_
  refine lf (a_istore dL_law_21 (by decide)) ?_
  have lo : ∀ i, i < 338 → ∀ k, gI V2 i k = gI V1 i k ∧ gL V2 i k = gL V1 i k ∧ gR V2 i k = gR V1 i k := fun i hi k => by
    have q := hM.2.2.1 i hi k
    have hne : ¬ i = wn V1 := by rw [hB.1]; omega
    rw [gI_mk, if_neg hne, gL_mk, if_neg hne, gR_mk, if_neg hne] at q
    exact q
  have hall : ∀ i k, i < 363 → gR V2 i k = r1 i k ∧ gI V2 i k = (if (i = 0 ∧ k = 5) ∨ (i = 338 ∧ k = 24) then -1 else 0) ∧ gL V2 i k = 0 := fun i k hi => by
    by_cases h : i < 338
    · obtain ⟨x1, x2, x3⟩ := lo i h k
      obtain ⟨y1, y2, y3⟩ := hB.2.2.2 i (Nat.zero_le _) h k
      refine ⟨x3.trans y3, x1.trans (y1.trans ?_), x2.trans y2⟩
      unfold up2
      by_cases e : i = 0 ∧ k = 5
      · rw [if_pos e, if_pos (Or.inl e)]
      · rw [if_neg e, if_neg (by omega)]
    · obtain ⟨y1, y2, y3⟩ := hM.2.2.2 i (by omega) hi k
      refine ⟨y3, y1.trans ?_, y2⟩
      unfold up2
      by_cases e : i = 338 ∧ k = 24
      · rw [if_pos e, if_pos (Or.inr e)]
      · rw [if_neg e, if_neg (by omega)]
  have hz : ∀ i k, i < 364 → gR (mk V2 1) i k = r1 i k ∧ gI (mk V2 1) i k = (if (i = 0 ∧ k = 5) ∨ (i = 338 ∧ k = 24) then -1 else 0) ∧ gL (mk V2 1) i k = 0 := fun i k hi => by
    rw [gR_mk, gI_mk, gL_mk, hM.1]
    by_cases e : i = 363
    · rw [if_pos e, if_pos e, if_pos e, if_neg (by omega), e]
      exact ⟨(r1_none (show kt 363 = 21 by decide +kernel) (by decide) (by decide +kernel) k).symm, rfl, rfl⟩
    · rw [if_neg e, if_neg e, if_neg e]
      exact hall i k (by omega)
  have hrel : RelV 0 (mk V2 1) := rel0 (by rw [wn_mk, hM.1]) (fun i k hi => (hz i k hi).1) (fun i k hi => (hz i k hi).2.1) (fun i k hi => (hz i k hi).2.2)
  have hgx : gX (mk V2 1) = (L, xs) := by
    rw [gX_mk, hM.2.1, gX_mk, hB.2.1, gX_mk]
    rfl
  generalize mk V2 1 = V at hrel hgx ⊢
  exact lf (a_room (b' := (60 * 512, 300 * 512)) (Nat.le_of_ble_eq_true rfl) (Nat.le_of_ble_eq_true rfl)) (lf (a_loc (LAw (6 * 0)) rfl) (law_loop hL 512 0 V hrel hgx rfl))
end LOOP
