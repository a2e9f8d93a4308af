section STEPS
theorem s_reason {μ : Wd} {N i bb : Nat} {X : Nat × (Nat → Int32)} (h : RelV N μ) (hX : gX μ = X) (hi : i + 6 ≤ X.1) (hL : X.1 ≤ 3072) (kx : ∀ V, RelV (N + 1) V → gX V = X → WP Y_L_law RLaw (60 * bb, 300 * bb) V 1976 (LAw i) [] QLw) : WP Y_L_law RLaw (60 * (bb + 1), 300 * (bb + 1)) μ 1414 (LAw i) [] QLw := by
  have hw := h.wf
  obtain ⟨v, V, tv, kc, km, hr, hv, hx⟩ := o_reason h
  obtain ⟨v, rfl⟩ := tv
  have hV := hr.wf
  have hX2 : gX V = X := hx.trans hX
  refine lf (a_aload_n dL_law_1414 rfl) ?_
  refine lf (a_inv (b2 := (60 * (bb + 1), 300 * (bb + 1))) kc rfl dL_law_1415 yk_X10_reason im_X10_reason se_X10_reason ml_L_180 rfl (co_0 (by repeat (first | with_reducible exact hw | with_reducible exact hwc | with_reducible assumption | with_reducible apply Wf.sI | with_reducible apply Wf.sL | with_reducible apply Wf.cpI | with_reducible apply Wf.cpL | with_reducible apply Wf.cp2 | with_reducible apply Wf.sIs | with_reducible apply Wf.sLs | with_reducible apply Wf.cpU | with_reducible apply Wf.fillI | with_reducible apply Wf.clU | with_reducible apply Wf.dnF | with_reducible apply Wf.gbW))) (by decide) hc_X10 (by decide) ⟨by show 0 + 60 * (bb + 1) ≤ 60 * (bb + 1); omega, by show 0 + 300 * (bb + 1) ≤ 300 * (bb + 1); omega⟩ (Nat.le_of_ble_eq_true rfl)) ?_
  refine lf (a_aload_n dL_law_1418 rfl) ?_
  refine lf (a_inv (b2 := (60 * (bb + 1), 300 * (bb + 1))) km rfl dL_law_1419 yk_X11_reason im_X11_reason se_X11_reason ml_L_183 rfl (co_338 (by repeat (first | with_reducible exact hw | with_reducible exact hwc | with_reducible assumption | with_reducible apply Wf.sI | with_reducible apply Wf.sL | with_reducible apply Wf.cpI | with_reducible apply Wf.cpL | with_reducible apply Wf.cp2 | with_reducible apply Wf.sIs | with_reducible apply Wf.sLs | with_reducible apply Wf.cpU | with_reducible apply Wf.fillI | with_reducible apply Wf.clU | with_reducible apply Wf.dnF | with_reducible apply Wf.gbW))) (by decide) hc_X11 (by decide) ⟨by show 0 + 60 * (bb + 1) ≤ 60 * (bb + 1); omega, by show 0 + 300 * (bb + 1) ≤ 300 * (bb + 1); omega⟩ (Nat.le_of_ble_eq_true rfl)) ?_
  refine lf2 (a_icmp_eq (tgt := 1976) dL_law_1422 (by decide)) (fun h1422 => ?_) (fun h1422 => absurd h1422 (fun z => z rfl))
  exact lf (a_room (b' := (60 * bb, 300 * bb)) (by show 60 * bb ≤ 60 * (bb + 1); omega) (by show 300 * bb ≤ 300 * (bb + 1); omega)) (lf (a_loc (LAw i) rfl) (kx V hr hX2))
theorem s_outlook {μ : Wd} {N i bb : Nat} {X : Nat × (Nat → Int32)} (h : RelV N μ) (hX : gX μ = X) (hi : i + 6 ≤ X.1) (hL : X.1 ≤ 3072) (kx : ∀ V, RelV (N + 1) V → gX V = X → WP Y_L_law RLaw (60 * bb, 300 * bb) V 1976 (LAw i) [] QLw) : WP Y_L_law RLaw (60 * (bb + 1), 300 * (bb + 1)) μ 1427 (LAw i) [] QLw := by
  have hw := h.wf
  rcases o_outlook h (X.2 (i + 1)) with ⟨v, W, tv, hW, hc, hg, hk⟩ | ⟨x, k, W, hxk, hW, hc, hg, hk⟩
  · obtain ⟨v, rfl⟩ := tv
    obtain ⟨V, km, k0, hr, hv, hx⟩ := hk (sL W 363 0 (v.toInt64)) ((Out.rfl' hW).sL (S := s363) (i := 363) rfl _ _)
    have hX1 : gX (sL W 363 0 (v.toInt64)) = X := hg.trans hX
    have hX2 : gX V = X := hx.trans hX1
    have hV := hr.wf
    have hv1 : gL V 363 0 = v.toInt64 := hv.trans ((gL_sL _ _ _ _ _ _).trans (if_pos ⟨rfl, rfl⟩))
    refine lf (a_aload_n dL_law_1427 rfl) ?_
    refine lf (a_aload_n dL_law_1428 rfl) ?_
    refine lf (a_iload dL_law_1429 rfl) ?_
    refine lf (a_iconst (1 : Int32) dL_law_1431 (by decide)) ?_
    refine lf (a_iadd dL_law_1432) ?_
    refine lf (a_sld dL_law_1433 hX (ix_s (k := 1) rfl (show i + 1 < X.1 by omega) (by omega))) ?_
    refine lf (a_aload_n dL_law_1434 rfl) ?_
    refine lf (a_invSH (b2 := (60 * bb, 300 * bb)) (wv_outlook (by repeat (first | with_reducible exact hw | with_reducible exact hwc | with_reducible assumption | with_reducible apply Wf.sI | with_reducible apply Wf.sL | with_reducible apply Wf.cpI | with_reducible apply Wf.cpL | with_reducible apply Wf.cp2 | with_reducible apply Wf.sIs | with_reducible apply Wf.sLs | with_reducible apply Wf.cpU | with_reducible apply Wf.fillI | with_reducible apply Wf.clU | with_reducible apply Wf.dnF | with_reducible apply Wf.gbW)) (X.2 (i + 1)) hW hc) rfl dL_law_1435 yh_L_outlook sm_L_outlook ml_L_184 rfl (by decide) ⟨by show 1 + 60 * bb ≤ 60 * (bb + 1); omega, by show 6 + 300 * bb ≤ 300 * (bb + 1); omega⟩ (Nat.le_of_ble_eq_true rfl)) ?_
    refine lf (a_istore dL_law_1438 (by decide)) ?_
    refine lf (a_aload_n dL_law_1440 rfl) ?_
    refine lf (a_aload_n dL_law_1441 rfl) ?_
    refine lf (a_iload dL_law_1442 rfl) ?_
    refine lf (a_iconst (1 : Int32) dL_law_1444 (by decide)) ?_
    refine lf (a_iadd dL_law_1445) ?_
    refine lf (a_sld dL_law_1446 hX1 (ix_s (k := 1) rfl (show i + 1 < X.1 by omega) (by omega))) ?_
    refine lf (a_inv (b2 := (60 * bb, 300 * bb)) km rfl dL_law_1447 yk_X11_outlook im_X11_outlook se_X11_outlook ml_L_186 rfl (co_338 (by repeat (first | with_reducible exact hw | with_reducible exact hwc | with_reducible assumption | with_reducible apply Wf.sI | with_reducible apply Wf.sL | with_reducible apply Wf.cpI | with_reducible apply Wf.cpL | with_reducible apply Wf.cp2 | with_reducible apply Wf.sIs | with_reducible apply Wf.sLs | with_reducible apply Wf.cpU | with_reducible apply Wf.fillI | with_reducible apply Wf.clU | with_reducible apply Wf.dnF | with_reducible apply Wf.gbW))) (by decide) hc_X11 (by decide) ⟨by show 0 + 60 * bb ≤ 60 * bb; omega, by show 0 + 300 * bb ≤ 300 * bb; omega⟩ (Nat.le_of_ble_eq_true rfl)) ?_
    refine lf (a_istore dL_law_1450 (by decide)) ?_
    refine lf (a_aload_n dL_law_1452 rfl) ?_
    refine lf (a_inv (b2 := (60 * bb, 300 * bb)) (m_thrown (by repeat (first | with_reducible exact hw | with_reducible exact hwc | with_reducible assumption | with_reducible apply Wf.sI | with_reducible apply Wf.sL | with_reducible apply Wf.cpI | with_reducible apply Wf.cpL | with_reducible apply Wf.cp2 | with_reducible apply Wf.sIs | with_reducible apply Wf.sLs | with_reducible apply Wf.cpU | with_reducible apply Wf.fillI | with_reducible apply Wf.clU | with_reducible apply Wf.dnF | with_reducible apply Wf.gbW))) rfl dL_law_1453 yk_X11_thrown im_X11_thrown se_X11_thrown ml_L_114 rfl (co_338 (by repeat (first | with_reducible exact hw | with_reducible exact hwc | with_reducible assumption | with_reducible apply Wf.sI | with_reducible apply Wf.sL | with_reducible apply Wf.cpI | with_reducible apply Wf.cpL | with_reducible apply Wf.cp2 | with_reducible apply Wf.sIs | with_reducible apply Wf.sLs | with_reducible apply Wf.cpU | with_reducible apply Wf.fillI | with_reducible apply Wf.clU | with_reducible apply Wf.dnF | with_reducible apply Wf.gbW))) (by decide) hc_X11 (by decide) ⟨by show 0 + 60 * bb ≤ 60 * bb; omega, by show 0 + 300 * bb ≤ 300 * bb; omega⟩ (Nat.le_of_ble_eq_true rfl)) ?_
    refine lf (a_iload dL_law_1456 rfl) ?_
    refine lf2 (a_icmp_eq (tgt := 1463) dL_law_1458 (by decide)) (fun h1458 => ?_) (fun h1458 => absurd h1458 (fun z => z k0))
    refine lf (a_iload dL_law_1463 rfl) ?_
    refine lfn (a_if_ne (tgt := 1480) dL_law_1465 (by decide)) (fun h1465 => absurd h1465 (by decide)) (fun h1465 => ?_)
    refine lf (a_aload_n dL_law_1468 rfl) ?_
    refine lf (a_iconst (0 : Int32) dL_law_1469 (by decide)) ?_
    refine lf (a_lld dL_law_1470 (ca_363 (by repeat (first | with_reducible exact hw | with_reducible exact hwc | with_reducible assumption | with_reducible apply Wf.sI | with_reducible apply Wf.sL | with_reducible apply Wf.cpI | with_reducible apply Wf.cpL | with_reducible apply Wf.cp2 | with_reducible apply Wf.sIs | with_reducible apply Wf.sLs | with_reducible apply Wf.cpU | with_reducible apply Wf.fillI | with_reducible apply Wf.clU | with_reducible apply Wf.dnF | with_reducible apply Wf.gbW))) (ixn (m := 0) (by decide) (by decide))) ?_
    rw [hv1]
    refine lf (a_iload dL_law_1471 rfl) ?_
    refine lf (a_i2l dL_law_1473) ?_
    refine lf (a_lcmp dL_law_1474) ?_
    refine lf2 (a_if_eq (tgt := 1480) dL_law_1475 (by decide)) (fun h1475 => ?_) (fun h1475 => absurd h1475 (fun z => z (lcmp_self _)))
    refine lf (a_goto (tgt := 1976) dL_law_1480 (by decide)) ?_
    exact lf (a_loc (LAw i) rfl) (kx V hr hX2)
  · simp only [List.mem_cons, List.not_mem_nil, or_false, Prod.mk.injEq] at hxk
    obtain ⟨rfl, rfl⟩ := hxk
    obtain ⟨z, V, tz, km, k0, hr, hv, hx⟩ := hk W (Out.rfl' hW)
    obtain ⟨z, rfl⟩ := tz
    have hX1 : gX W = X := hg.trans hX
    have hX2 : gX V = X := hx.trans hX1
    have hV := hr.wf
    refine lf (a_aload_n dL_law_1427 rfl) ?_
    refine lf (a_aload_n dL_law_1428 rfl) ?_
    refine lf (a_iload dL_law_1429 rfl) ?_
    refine lf (a_iconst (1 : Int32) dL_law_1431 (by decide)) ?_
    refine lf (a_iadd dL_law_1432) ?_
    refine lf (a_sld dL_law_1433 hX (ix_s (k := 1) rfl (show i + 1 < X.1 by omega) (by omega))) ?_
    refine lf (a_aload_n dL_law_1434 rfl) ?_
    refine lf (a_invSH (b2 := (60 * bb, 300 * bb)) (wx_outlook_1 (by repeat (first | with_reducible exact hw | with_reducible exact hwc | with_reducible assumption | with_reducible apply Wf.sI | with_reducible apply Wf.sL | with_reducible apply Wf.cpI | with_reducible apply Wf.cpL | with_reducible apply Wf.cp2 | with_reducible apply Wf.sIs | with_reducible apply Wf.sLs | with_reducible apply Wf.cpU | with_reducible apply Wf.fillI | with_reducible apply Wf.clU | with_reducible apply Wf.dnF | with_reducible apply Wf.gbW)) (X.2 (i + 1)) hc) rfl dL_law_1435 yh_L_outlook sm_L_outlook ml_L_184 rfl (by decide) ⟨by show 1 + 60 * bb ≤ 60 * (bb + 1); omega, by show 6 + 300 * bb ≤ 300 * (bb + 1); omega⟩ (Nat.le_of_ble_eq_true rfl)) ?_
    refine lf (a_istore dL_law_1438 (by decide)) ?_
    refine lf (a_aload_n dL_law_1440 rfl) ?_
    refine lf (a_aload_n dL_law_1441 rfl) ?_
    refine lf (a_iload dL_law_1442 rfl) ?_
    refine lf (a_iconst (1 : Int32) dL_law_1444 (by decide)) ?_
    refine lf (a_iadd dL_law_1445) ?_
    refine lf (a_sld dL_law_1446 hX1 (ix_s (k := 1) rfl (show i + 1 < X.1 by omega) (by omega))) ?_
    refine lf (a_inv (b2 := (60 * bb, 300 * bb)) km rfl dL_law_1447 yk_X11_outlook im_X11_outlook se_X11_outlook ml_L_186 rfl (co_338 (by repeat (first | with_reducible exact hw | with_reducible exact hwc | with_reducible assumption | with_reducible apply Wf.sI | with_reducible apply Wf.sL | with_reducible apply Wf.cpI | with_reducible apply Wf.cpL | with_reducible apply Wf.cp2 | with_reducible apply Wf.sIs | with_reducible apply Wf.sLs | with_reducible apply Wf.cpU | with_reducible apply Wf.fillI | with_reducible apply Wf.clU | with_reducible apply Wf.dnF | with_reducible apply Wf.gbW))) (by decide) hc_X11 (by decide) ⟨by show 0 + 60 * bb ≤ 60 * bb; omega, by show 0 + 300 * bb ≤ 300 * bb; omega⟩ (Nat.le_of_ble_eq_true rfl)) ?_
    refine lf (a_istore dL_law_1450 (by decide)) ?_
    refine lf (a_aload_n dL_law_1452 rfl) ?_
    refine lf (a_inv (b2 := (60 * bb, 300 * bb)) (m_thrown (by repeat (first | with_reducible exact hw | with_reducible exact hwc | with_reducible assumption | with_reducible apply Wf.sI | with_reducible apply Wf.sL | with_reducible apply Wf.cpI | with_reducible apply Wf.cpL | with_reducible apply Wf.cp2 | with_reducible apply Wf.sIs | with_reducible apply Wf.sLs | with_reducible apply Wf.cpU | with_reducible apply Wf.fillI | with_reducible apply Wf.clU | with_reducible apply Wf.dnF | with_reducible apply Wf.gbW))) rfl dL_law_1453 yk_X11_thrown im_X11_thrown se_X11_thrown ml_L_114 rfl (co_338 (by repeat (first | with_reducible exact hw | with_reducible exact hwc | with_reducible assumption | with_reducible apply Wf.sI | with_reducible apply Wf.sL | with_reducible apply Wf.cpI | with_reducible apply Wf.cpL | with_reducible apply Wf.cp2 | with_reducible apply Wf.sIs | with_reducible apply Wf.sLs | with_reducible apply Wf.cpU | with_reducible apply Wf.fillI | with_reducible apply Wf.clU | with_reducible apply Wf.dnF | with_reducible apply Wf.gbW))) (by decide) hc_X11 (by decide) ⟨by show 0 + 60 * bb ≤ 60 * bb; omega, by show 0 + 300 * bb ≤ 300 * bb; omega⟩ (Nat.le_of_ble_eq_true rfl)) ?_
    refine lf (a_iload dL_law_1456 rfl) ?_
    refine lf2 (a_icmp_eq (tgt := 1463) dL_law_1458 (by decide)) (fun h1458 => ?_) (fun h1458 => absurd h1458 (fun z => z k0))
    refine lf (a_iload dL_law_1463 rfl) ?_
    refine lfn (a_if_ne (tgt := 1480) dL_law_1465 (by decide)) (fun h1465 => ?_) (fun h1465 => absurd h1465 (by decide))
    refine lf (a_goto (tgt := 1976) dL_law_1480 (by decide)) ?_
    exact lf (a_loc (LAw i) rfl) (kx V hr hX2)
theorem s_mealFor {μ : Wd} {N i bb : Nat} {X : Nat × (Nat → Int32)} (h : RelV N μ) (hX : gX μ = X) (hi : i + 6 ≤ X.1) (hL : X.1 ≤ 3072) (kx : ∀ V, RelV (N + 1) V → gX V = X → WP Y_L_law RLaw (60 * bb, 300 * bb) V 1976 (LAw i) [] QLw) : WP Y_L_law RLaw (60 * (bb + 1), 300 * (bb + 1)) μ 1483 (LAw i) [] QLw := by
  have hw := h.wf
  rcases o_mealFor h (X.2 (i + 1)) with ⟨v, W, tv, hW, hc, hg, hk⟩ | ⟨x, k, W, hxk, hW, hc, hg, hk⟩
  · obtain ⟨v, rfl⟩ := tv
    obtain ⟨V, km, k0, hr, hv, hx⟩ := hk (sL W 363 0 (v.toInt64)) ((Out.rfl' hW).sL (S := s363) (i := 363) rfl _ _)
    have hX1 : gX (sL W 363 0 (v.toInt64)) = X := hg.trans hX
    have hX2 : gX V = X := hx.trans hX1
    have hV := hr.wf
    have hv1 : gL V 363 0 = v.toInt64 := hv.trans ((gL_sL _ _ _ _ _ _).trans (if_pos ⟨rfl, rfl⟩))
    refine lf (a_aload_n dL_law_1483 rfl) ?_
    refine lf (a_aload_n dL_law_1484 rfl) ?_
    refine lf (a_iload dL_law_1485 rfl) ?_
    refine lf (a_iconst (1 : Int32) dL_law_1487 (by decide)) ?_
    refine lf (a_iadd dL_law_1488) ?_
    refine lf (a_sld dL_law_1489 hX (ix_s (k := 1) rfl (show i + 1 < X.1 by omega) (by omega))) ?_
    refine lf (a_aload_n dL_law_1490 rfl) ?_
    refine lf (a_invSH (b2 := (60 * bb, 300 * bb)) (wv_mealFor (by repeat (first | with_reducible exact hw | with_reducible exact hwc | with_reducible assumption | with_reducible apply Wf.sI | with_reducible apply Wf.sL | with_reducible apply Wf.cpI | with_reducible apply Wf.cpL | with_reducible apply Wf.cp2 | with_reducible apply Wf.sIs | with_reducible apply Wf.sLs | with_reducible apply Wf.cpU | with_reducible apply Wf.fillI | with_reducible apply Wf.clU | with_reducible apply Wf.dnF | with_reducible apply Wf.gbW)) (X.2 (i + 1)) hW hc) rfl dL_law_1491 yh_L_mealFor sm_L_mealFor ml_L_187 rfl (by decide) ⟨by show 1 + 60 * bb ≤ 60 * (bb + 1); omega, by show 6 + 300 * bb ≤ 300 * (bb + 1); omega⟩ (Nat.le_of_ble_eq_true rfl)) ?_
    refine lf (a_istore dL_law_1494 (by decide)) ?_
    refine lf (a_aload_n dL_law_1496 rfl) ?_
    refine lf (a_aload_n dL_law_1497 rfl) ?_
    refine lf (a_iload dL_law_1498 rfl) ?_
    refine lf (a_iconst (1 : Int32) dL_law_1500 (by decide)) ?_
    refine lf (a_iadd dL_law_1501) ?_
    refine lf (a_sld dL_law_1502 hX1 (ix_s (k := 1) rfl (show i + 1 < X.1 by omega) (by omega))) ?_
    refine lf (a_inv (b2 := (60 * bb, 300 * bb)) km rfl dL_law_1503 yk_X11_mealFor im_X11_mealFor se_X11_mealFor ml_L_189 rfl (co_338 (by repeat (first | with_reducible exact hw | with_reducible exact hwc | with_reducible assumption | with_reducible apply Wf.sI | with_reducible apply Wf.sL | with_reducible apply Wf.cpI | with_reducible apply Wf.cpL | with_reducible apply Wf.cp2 | with_reducible apply Wf.sIs | with_reducible apply Wf.sLs | with_reducible apply Wf.cpU | with_reducible apply Wf.fillI | with_reducible apply Wf.clU | with_reducible apply Wf.dnF | with_reducible apply Wf.gbW))) (by decide) hc_X11 (by decide) ⟨by show 0 + 60 * bb ≤ 60 * bb; omega, by show 0 + 300 * bb ≤ 300 * bb; omega⟩ (Nat.le_of_ble_eq_true rfl)) ?_
    refine lf (a_istore dL_law_1506 (by decide)) ?_
    refine lf (a_aload_n dL_law_1508 rfl) ?_
    refine lf (a_inv (b2 := (60 * bb, 300 * bb)) (m_thrown (by repeat (first | with_reducible exact hw | with_reducible exact hwc | with_reducible assumption | with_reducible apply Wf.sI | with_reducible apply Wf.sL | with_reducible apply Wf.cpI | with_reducible apply Wf.cpL | with_reducible apply Wf.cp2 | with_reducible apply Wf.sIs | with_reducible apply Wf.sLs | with_reducible apply Wf.cpU | with_reducible apply Wf.fillI | with_reducible apply Wf.clU | with_reducible apply Wf.dnF | with_reducible apply Wf.gbW))) rfl dL_law_1509 yk_X11_thrown im_X11_thrown se_X11_thrown ml_L_114 rfl (co_338 (by repeat (first | with_reducible exact hw | with_reducible exact hwc | with_reducible assumption | with_reducible apply Wf.sI | with_reducible apply Wf.sL | with_reducible apply Wf.cpI | with_reducible apply Wf.cpL | with_reducible apply Wf.cp2 | with_reducible apply Wf.sIs | with_reducible apply Wf.sLs | with_reducible apply Wf.cpU | with_reducible apply Wf.fillI | with_reducible apply Wf.clU | with_reducible apply Wf.dnF | with_reducible apply Wf.gbW))) (by decide) hc_X11 (by decide) ⟨by show 0 + 60 * bb ≤ 60 * bb; omega, by show 0 + 300 * bb ≤ 300 * bb; omega⟩ (Nat.le_of_ble_eq_true rfl)) ?_
    refine lf (a_iload dL_law_1512 rfl) ?_
    refine lf2 (a_icmp_eq (tgt := 1519) dL_law_1514 (by decide)) (fun h1514 => ?_) (fun h1514 => absurd h1514 (fun z => z k0))
    refine lf (a_iload dL_law_1519 rfl) ?_
    refine lfn (a_if_ne (tgt := 1536) dL_law_1521 (by decide)) (fun h1521 => absurd h1521 (by decide)) (fun h1521 => ?_)
    refine lf (a_aload_n dL_law_1524 rfl) ?_
    refine lf (a_iconst (0 : Int32) dL_law_1525 (by decide)) ?_
    refine lf (a_lld dL_law_1526 (ca_363 (by repeat (first | with_reducible exact hw | with_reducible exact hwc | with_reducible assumption | with_reducible apply Wf.sI | with_reducible apply Wf.sL | with_reducible apply Wf.cpI | with_reducible apply Wf.cpL | with_reducible apply Wf.cp2 | with_reducible apply Wf.sIs | with_reducible apply Wf.sLs | with_reducible apply Wf.cpU | with_reducible apply Wf.fillI | with_reducible apply Wf.clU | with_reducible apply Wf.dnF | with_reducible apply Wf.gbW))) (ixn (m := 0) (by decide) (by decide))) ?_
    rw [hv1]
    refine lf (a_iload dL_law_1527 rfl) ?_
    refine lf (a_i2l dL_law_1529) ?_
    refine lf (a_lcmp dL_law_1530) ?_
    refine lf2 (a_if_eq (tgt := 1536) dL_law_1531 (by decide)) (fun h1531 => ?_) (fun h1531 => absurd h1531 (fun z => z (lcmp_self _)))
    refine lf (a_goto (tgt := 1976) dL_law_1536 (by decide)) ?_
    exact lf (a_loc (LAw i) rfl) (kx V hr hX2)
  · simp only [List.mem_cons, List.not_mem_nil, or_false, Prod.mk.injEq] at hxk
    obtain ⟨rfl, rfl⟩ := hxk
    obtain ⟨z, V, tz, km, k0, hr, hv, hx⟩ := hk W (Out.rfl' hW)
    obtain ⟨z, rfl⟩ := tz
    have hX1 : gX W = X := hg.trans hX
    have hX2 : gX V = X := hx.trans hX1
    have hV := hr.wf
    refine lf (a_aload_n dL_law_1483 rfl) ?_
    refine lf (a_aload_n dL_law_1484 rfl) ?_
    refine lf (a_iload dL_law_1485 rfl) ?_
    refine lf (a_iconst (1 : Int32) dL_law_1487 (by decide)) ?_
    refine lf (a_iadd dL_law_1488) ?_
    refine lf (a_sld dL_law_1489 hX (ix_s (k := 1) rfl (show i + 1 < X.1 by omega) (by omega))) ?_
    refine lf (a_aload_n dL_law_1490 rfl) ?_
    refine lf (a_invSH (b2 := (60 * bb, 300 * bb)) (wx_mealFor_1 (by repeat (first | with_reducible exact hw | with_reducible exact hwc | with_reducible assumption | with_reducible apply Wf.sI | with_reducible apply Wf.sL | with_reducible apply Wf.cpI | with_reducible apply Wf.cpL | with_reducible apply Wf.cp2 | with_reducible apply Wf.sIs | with_reducible apply Wf.sLs | with_reducible apply Wf.cpU | with_reducible apply Wf.fillI | with_reducible apply Wf.clU | with_reducible apply Wf.dnF | with_reducible apply Wf.gbW)) (X.2 (i + 1)) hc) rfl dL_law_1491 yh_L_mealFor sm_L_mealFor ml_L_187 rfl (by decide) ⟨by show 1 + 60 * bb ≤ 60 * (bb + 1); omega, by show 6 + 300 * bb ≤ 300 * (bb + 1); omega⟩ (Nat.le_of_ble_eq_true rfl)) ?_
    refine lf (a_istore dL_law_1494 (by decide)) ?_
    refine lf (a_aload_n dL_law_1496 rfl) ?_
    refine lf (a_aload_n dL_law_1497 rfl) ?_
    refine lf (a_iload dL_law_1498 rfl) ?_
    refine lf (a_iconst (1 : Int32) dL_law_1500 (by decide)) ?_
    refine lf (a_iadd dL_law_1501) ?_
    refine lf (a_sld dL_law_1502 hX1 (ix_s (k := 1) rfl (show i + 1 < X.1 by omega) (by omega))) ?_
    refine lf (a_inv (b2 := (60 * bb, 300 * bb)) km rfl dL_law_1503 yk_X11_mealFor im_X11_mealFor se_X11_mealFor ml_L_189 rfl (co_338 (by repeat (first | with_reducible exact hw | with_reducible exact hwc | with_reducible assumption | with_reducible apply Wf.sI | with_reducible apply Wf.sL | with_reducible apply Wf.cpI | with_reducible apply Wf.cpL | with_reducible apply Wf.cp2 | with_reducible apply Wf.sIs | with_reducible apply Wf.sLs | with_reducible apply Wf.cpU | with_reducible apply Wf.fillI | with_reducible apply Wf.clU | with_reducible apply Wf.dnF | with_reducible apply Wf.gbW))) (by decide) hc_X11 (by decide) ⟨by show 0 + 60 * bb ≤ 60 * bb; omega, by show 0 + 300 * bb ≤ 300 * bb; omega⟩ (Nat.le_of_ble_eq_true rfl)) ?_
    refine lf (a_istore dL_law_1506 (by decide)) ?_
    refine lf (a_aload_n dL_law_1508 rfl) ?_
    refine lf (a_inv (b2 := (60 * bb, 300 * bb)) (m_thrown (by repeat (first | with_reducible exact hw | with_reducible exact hwc | with_reducible assumption | with_reducible apply Wf.sI | with_reducible apply Wf.sL | with_reducible apply Wf.cpI | with_reducible apply Wf.cpL | with_reducible apply Wf.cp2 | with_reducible apply Wf.sIs | with_reducible apply Wf.sLs | with_reducible apply Wf.cpU | with_reducible apply Wf.fillI | with_reducible apply Wf.clU | with_reducible apply Wf.dnF | with_reducible apply Wf.gbW))) rfl dL_law_1509 yk_X11_thrown im_X11_thrown se_X11_thrown ml_L_114 rfl (co_338 (by repeat (first | with_reducible exact hw | with_reducible exact hwc | with_reducible assumption | with_reducible apply Wf.sI | with_reducible apply Wf.sL | with_reducible apply Wf.cpI | with_reducible apply Wf.cpL | with_reducible apply Wf.cp2 | with_reducible apply Wf.sIs | with_reducible apply Wf.sLs | with_reducible apply Wf.cpU | with_reducible apply Wf.fillI | with_reducible apply Wf.clU | with_reducible apply Wf.dnF | with_reducible apply Wf.gbW))) (by decide) hc_X11 (by decide) ⟨by show 0 + 60 * bb ≤ 60 * bb; omega, by show 0 + 300 * bb ≤ 300 * bb; omega⟩ (Nat.le_of_ble_eq_true rfl)) ?_
    refine lf (a_iload dL_law_1512 rfl) ?_
    refine lf2 (a_icmp_eq (tgt := 1519) dL_law_1514 (by decide)) (fun h1514 => ?_) (fun h1514 => absurd h1514 (fun z => z k0))
    refine lf (a_iload dL_law_1519 rfl) ?_
    refine lfn (a_if_ne (tgt := 1536) dL_law_1521 (by decide)) (fun h1521 => ?_) (fun h1521 => absurd h1521 (by decide))
    refine lf (a_goto (tgt := 1976) dL_law_1536 (by decide)) ?_
    exact lf (a_loc (LAw i) rfl) (kx V hr hX2)
theorem s_serve {μ : Wd} {N i bb : Nat} {X : Nat × (Nat → Int32)} (h : RelV N μ) (hX : gX μ = X) (hi : i + 6 ≤ X.1) (hL : X.1 ≤ 3072) (kx : ∀ V, RelV (N + 1) V → gX V = X → WP Y_L_law RLaw (60 * bb, 300 * bb) V 1976 (LAw i) [] QLw) : WP Y_L_law RLaw (60 * (bb + 1), 300 * (bb + 1)) μ 1539 (LAw i) [] QLw := by
  have hw := h.wf
  rcases o_serve h with ⟨v, W, tv, hW, hc, hg, hk⟩ | ⟨x, k, W, hxk, hW, hc, hg, hk⟩
  · obtain ⟨v, rfl⟩ := tv
    obtain ⟨V, km, k0, hr, hv, hx⟩ := hk (sL W 363 0 (v.toInt64)) ((Out.rfl' hW).sL (S := s363) (i := 363) rfl _ _)
    have hX1 : gX (sL W 363 0 (v.toInt64)) = X := hg.trans hX
    have hX2 : gX V = X := hx.trans hX1
    have hV := hr.wf
    have hv1 : gL V 363 0 = v.toInt64 := hv.trans ((gL_sL _ _ _ _ _ _).trans (if_pos ⟨rfl, rfl⟩))
    refine lf (a_aload_n dL_law_1539 rfl) ?_
    refine lf (a_aload_n dL_law_1540 rfl) ?_
    refine lf (a_invSH (b2 := (60 * bb, 300 * bb)) (wv_serve (by repeat (first | with_reducible exact hw | with_reducible exact hwc | with_reducible assumption | with_reducible apply Wf.sI | with_reducible apply Wf.sL | with_reducible apply Wf.cpI | with_reducible apply Wf.cpL | with_reducible apply Wf.cp2 | with_reducible apply Wf.sIs | with_reducible apply Wf.sLs | with_reducible apply Wf.cpU | with_reducible apply Wf.fillI | with_reducible apply Wf.clU | with_reducible apply Wf.dnF | with_reducible apply Wf.gbW)) hW hc) rfl dL_law_1541 yh_L_serve sm_L_serve ml_L_190 rfl (by decide) ⟨by show 1 + 60 * bb ≤ 60 * (bb + 1); omega, by show 6 + 300 * bb ≤ 300 * (bb + 1); omega⟩ (Nat.le_of_ble_eq_true rfl)) ?_
    refine lf (a_istore dL_law_1544 (by decide)) ?_
    refine lf (a_aload_n dL_law_1546 rfl) ?_
    refine lf (a_inv (b2 := (60 * bb, 300 * bb)) km rfl dL_law_1547 yk_X11_serve im_X11_serve se_X11_serve ml_L_192 rfl (co_338 (by repeat (first | with_reducible exact hw | with_reducible exact hwc | with_reducible assumption | with_reducible apply Wf.sI | with_reducible apply Wf.sL | with_reducible apply Wf.cpI | with_reducible apply Wf.cpL | with_reducible apply Wf.cp2 | with_reducible apply Wf.sIs | with_reducible apply Wf.sLs | with_reducible apply Wf.cpU | with_reducible apply Wf.fillI | with_reducible apply Wf.clU | with_reducible apply Wf.dnF | with_reducible apply Wf.gbW))) (by decide) hc_X11 (by decide) ⟨by show 0 + 60 * bb ≤ 60 * bb; omega, by show 0 + 300 * bb ≤ 300 * bb; omega⟩ (Nat.le_of_ble_eq_true rfl)) ?_
    refine lf (a_istore dL_law_1550 (by decide)) ?_
    refine lf (a_aload_n dL_law_1552 rfl) ?_
    refine lf (a_inv (b2 := (60 * bb, 300 * bb)) (m_thrown (by repeat (first | with_reducible exact hw | with_reducible exact hwc | with_reducible assumption | with_reducible apply Wf.sI | with_reducible apply Wf.sL | with_reducible apply Wf.cpI | with_reducible apply Wf.cpL | with_reducible apply Wf.cp2 | with_reducible apply Wf.sIs | with_reducible apply Wf.sLs | with_reducible apply Wf.cpU | with_reducible apply Wf.fillI | with_reducible apply Wf.clU | with_reducible apply Wf.dnF | with_reducible apply Wf.gbW))) rfl dL_law_1553 yk_X11_thrown im_X11_thrown se_X11_thrown ml_L_114 rfl (co_338 (by repeat (first | with_reducible exact hw | with_reducible exact hwc | with_reducible assumption | with_reducible apply Wf.sI | with_reducible apply Wf.sL | with_reducible apply Wf.cpI | with_reducible apply Wf.cpL | with_reducible apply Wf.cp2 | with_reducible apply Wf.sIs | with_reducible apply Wf.sLs | with_reducible apply Wf.cpU | with_reducible apply Wf.fillI | with_reducible apply Wf.clU | with_reducible apply Wf.dnF | with_reducible apply Wf.gbW))) (by decide) hc_X11 (by decide) ⟨by show 0 + 60 * bb ≤ 60 * bb; omega, by show 0 + 300 * bb ≤ 300 * bb; omega⟩ (Nat.le_of_ble_eq_true rfl)) ?_
    refine lf (a_iload dL_law_1556 rfl) ?_
    refine lf2 (a_icmp_eq (tgt := 1563) dL_law_1558 (by decide)) (fun h1558 => ?_) (fun h1558 => absurd h1558 (fun z => z k0))
    refine lf (a_iload dL_law_1563 rfl) ?_
    refine lfn (a_if_ne (tgt := 1580) dL_law_1565 (by decide)) (fun h1565 => absurd h1565 (by decide)) (fun h1565 => ?_)
    refine lf (a_aload_n dL_law_1568 rfl) ?_
    refine lf (a_iconst (0 : Int32) dL_law_1569 (by decide)) ?_
    refine lf (a_lld dL_law_1570 (ca_363 (by repeat (first | with_reducible exact hw | with_reducible exact hwc | with_reducible assumption | with_reducible apply Wf.sI | with_reducible apply Wf.sL | with_reducible apply Wf.cpI | with_reducible apply Wf.cpL | with_reducible apply Wf.cp2 | with_reducible apply Wf.sIs | with_reducible apply Wf.sLs | with_reducible apply Wf.cpU | with_reducible apply Wf.fillI | with_reducible apply Wf.clU | with_reducible apply Wf.dnF | with_reducible apply Wf.gbW))) (ixn (m := 0) (by decide) (by decide))) ?_
    rw [hv1]
    refine lf (a_iload dL_law_1571 rfl) ?_
    refine lf (a_i2l dL_law_1573) ?_
    refine lf (a_lcmp dL_law_1574) ?_
    refine lf2 (a_if_eq (tgt := 1580) dL_law_1575 (by decide)) (fun h1575 => ?_) (fun h1575 => absurd h1575 (fun z => z (lcmp_self _)))
    refine lf (a_goto (tgt := 1976) dL_law_1580 (by decide)) ?_
    exact lf (a_loc (LAw i) rfl) (kx V hr hX2)
  · simp only [List.mem_cons, List.not_mem_nil, or_false, Prod.mk.injEq] at hxk
    obtain ⟨rfl, rfl⟩ := hxk
    obtain ⟨z, V, tz, km, k0, hr, hv, hx⟩ := hk W (Out.rfl' hW)
    obtain ⟨z, rfl⟩ := tz
    have hX1 : gX W = X := hg.trans hX
    have hX2 : gX V = X := hx.trans hX1
    have hV := hr.wf
    refine lf (a_aload_n dL_law_1539 rfl) ?_
    refine lf (a_aload_n dL_law_1540 rfl) ?_
    refine lf (a_invSH (b2 := (60 * bb, 300 * bb)) (wx_serve_1 (by repeat (first | with_reducible exact hw | with_reducible exact hwc | with_reducible assumption | with_reducible apply Wf.sI | with_reducible apply Wf.sL | with_reducible apply Wf.cpI | with_reducible apply Wf.cpL | with_reducible apply Wf.cp2 | with_reducible apply Wf.sIs | with_reducible apply Wf.sLs | with_reducible apply Wf.cpU | with_reducible apply Wf.fillI | with_reducible apply Wf.clU | with_reducible apply Wf.dnF | with_reducible apply Wf.gbW)) hc) rfl dL_law_1541 yh_L_serve sm_L_serve ml_L_190 rfl (by decide) ⟨by show 1 + 60 * bb ≤ 60 * (bb + 1); omega, by show 6 + 300 * bb ≤ 300 * (bb + 1); omega⟩ (Nat.le_of_ble_eq_true rfl)) ?_
    refine lf (a_istore dL_law_1544 (by decide)) ?_
    refine lf (a_aload_n dL_law_1546 rfl) ?_
    refine lf (a_inv (b2 := (60 * bb, 300 * bb)) km rfl dL_law_1547 yk_X11_serve im_X11_serve se_X11_serve ml_L_192 rfl (co_338 (by repeat (first | with_reducible exact hw | with_reducible exact hwc | with_reducible assumption | with_reducible apply Wf.sI | with_reducible apply Wf.sL | with_reducible apply Wf.cpI | with_reducible apply Wf.cpL | with_reducible apply Wf.cp2 | with_reducible apply Wf.sIs | with_reducible apply Wf.sLs | with_reducible apply Wf.cpU | with_reducible apply Wf.fillI | with_reducible apply Wf.clU | with_reducible apply Wf.dnF | with_reducible apply Wf.gbW))) (by decide) hc_X11 (by decide) ⟨by show 0 + 60 * bb ≤ 60 * bb; omega, by show 0 + 300 * bb ≤ 300 * bb; omega⟩ (Nat.le_of_ble_eq_true rfl)) ?_
    refine lf (a_istore dL_law_1550 (by decide)) ?_
    refine lf (a_aload_n dL_law_1552 rfl) ?_
    refine lf (a_inv (b2 := (60 * bb, 300 * bb)) (m_thrown (by repeat (first | with_reducible exact hw | with_reducible exact hwc | with_reducible assumption | with_reducible apply Wf.sI | with_reducible apply Wf.sL | with_reducible apply Wf.cpI | with_reducible apply Wf.cpL | with_reducible apply Wf.cp2 | with_reducible apply Wf.sIs | with_reducible apply Wf.sLs | with_reducible apply Wf.cpU | with_reducible apply Wf.fillI | with_reducible apply Wf.clU | with_reducible apply Wf.dnF | with_reducible apply Wf.gbW))) rfl dL_law_1553 yk_X11_thrown im_X11_thrown se_X11_thrown ml_L_114 rfl (co_338 (by repeat (first | with_reducible exact hw | with_reducible exact hwc | with_reducible assumption | with_reducible apply Wf.sI | with_reducible apply Wf.sL | with_reducible apply Wf.cpI | with_reducible apply Wf.cpL | with_reducible apply Wf.cp2 | with_reducible apply Wf.sIs | with_reducible apply Wf.sLs | with_reducible apply Wf.cpU | with_reducible apply Wf.fillI | with_reducible apply Wf.clU | with_reducible apply Wf.dnF | with_reducible apply Wf.gbW))) (by decide) hc_X11 (by decide) ⟨by show 0 + 60 * bb ≤ 60 * bb; omega, by show 0 + 300 * bb ≤ 300 * bb; omega⟩ (Nat.le_of_ble_eq_true rfl)) ?_
    refine lf (a_iload dL_law_1556 rfl) ?_
    refine lf2 (a_icmp_eq (tgt := 1563) dL_law_1558 (by decide)) (fun h1558 => ?_) (fun h1558 => absurd h1558 (fun z => z k0))
    refine lf (a_iload dL_law_1563 rfl) ?_
    refine lfn (a_if_ne (tgt := 1580) dL_law_1565 (by decide)) (fun h1565 => ?_) (fun h1565 => absurd h1565 (by decide))
    refine lf (a_goto (tgt := 1976) dL_law_1580 (by decide)) ?_
    exact lf (a_loc (LAw i) rfl) (kx V hr hX2)
theorem s_account {μ : Wd} {N i bb : Nat} {X : Nat × (Nat → Int32)} (h : RelV N μ) (hX : gX μ = X) (hi : i + 6 ≤ X.1) (hL : X.1 ≤ 3072) (kx : ∀ V, RelV (N + 1) V → gX V = X → WP Y_L_law RLaw (60 * bb, 300 * bb) V 1976 (LAw i) [] QLw) : WP Y_L_law RLaw (60 * (bb + 1), 300 * (bb + 1)) μ 1583 (LAw i) [] QLw := by
  have hw := h.wf
  rcases o_account h (X.2 (i + 1)) with ⟨v, W, tv, hW, hc, hg, hk⟩ | ⟨x, k, W, hxk, hW, hc, hg, hk⟩
  · obtain ⟨v, rfl⟩ := tv
    obtain ⟨V, km, k0, hr, hv, hx⟩ := hk (sL W 363 0 (v)) ((Out.rfl' hW).sL (S := s363) (i := 363) rfl _ _)
    have hX1 : gX (sL W 363 0 (v)) = X := hg.trans hX
    have hX2 : gX V = X := hx.trans hX1
    have hV := hr.wf
    have hv1 : gL V 363 0 = v := hv.trans ((gL_sL _ _ _ _ _ _).trans (if_pos ⟨rfl, rfl⟩))
    refine lf (a_aload_n dL_law_1583 rfl) ?_
    refine lf (a_aload_n dL_law_1584 rfl) ?_
    refine lf (a_iload dL_law_1585 rfl) ?_
    refine lf (a_iconst (1 : Int32) dL_law_1587 (by decide)) ?_
    refine lf (a_iadd dL_law_1588) ?_
    refine lf (a_sld dL_law_1589 hX (ix_s (k := 1) rfl (show i + 1 < X.1 by omega) (by omega))) ?_
    refine lf (a_aload_n dL_law_1590 rfl) ?_
    refine lf (a_invSH (b2 := (60 * bb, 300 * bb)) (wv_account (by repeat (first | with_reducible exact hw | with_reducible exact hwc | with_reducible assumption | with_reducible apply Wf.sI | with_reducible apply Wf.sL | with_reducible apply Wf.cpI | with_reducible apply Wf.cpL | with_reducible apply Wf.cp2 | with_reducible apply Wf.sIs | with_reducible apply Wf.sLs | with_reducible apply Wf.cpU | with_reducible apply Wf.fillI | with_reducible apply Wf.clU | with_reducible apply Wf.dnF | with_reducible apply Wf.gbW)) (X.2 (i + 1)) hW hc) rfl dL_law_1591 yh_L_account sm_L_account ml_L_193 rfl (by decide) ⟨by show 1 + 60 * bb ≤ 60 * (bb + 1); omega, by show 6 + 300 * bb ≤ 300 * (bb + 1); omega⟩ (Nat.le_of_ble_eq_true rfl)) ?_
    refine lf (a_istore dL_law_1594 (by decide)) ?_
    refine lf (a_aload_n dL_law_1596 rfl) ?_
    refine lf (a_aload_n dL_law_1597 rfl) ?_
    refine lf (a_iload dL_law_1598 rfl) ?_
    refine lf (a_iconst (1 : Int32) dL_law_1600 (by decide)) ?_
    refine lf (a_iadd dL_law_1601) ?_
    refine lf (a_sld dL_law_1602 hX1 (ix_s (k := 1) rfl (show i + 1 < X.1 by omega) (by omega))) ?_
    refine lf (a_inv (b2 := (60 * bb, 300 * bb)) km rfl dL_law_1603 yk_X11_account im_X11_account se_X11_account ml_L_195 rfl (co_338 (by repeat (first | with_reducible exact hw | with_reducible exact hwc | with_reducible assumption | with_reducible apply Wf.sI | with_reducible apply Wf.sL | with_reducible apply Wf.cpI | with_reducible apply Wf.cpL | with_reducible apply Wf.cp2 | with_reducible apply Wf.sIs | with_reducible apply Wf.sLs | with_reducible apply Wf.cpU | with_reducible apply Wf.fillI | with_reducible apply Wf.clU | with_reducible apply Wf.dnF | with_reducible apply Wf.gbW))) (by decide) hc_X11 (by decide) ⟨by show 0 + 60 * bb ≤ 60 * bb; omega, by show 0 + 300 * bb ≤ 300 * bb; omega⟩ (Nat.le_of_ble_eq_true rfl)) ?_
    refine lf (a_lstore dL_law_1606 (by decide)) ?_
    refine lf (a_aload_n dL_law_1608 rfl) ?_
    refine lf (a_inv (b2 := (60 * bb, 300 * bb)) (m_thrown (by repeat (first | with_reducible exact hw | with_reducible exact hwc | with_reducible assumption | with_reducible apply Wf.sI | with_reducible apply Wf.sL | with_reducible apply Wf.cpI | with_reducible apply Wf.cpL | with_reducible apply Wf.cp2 | with_reducible apply Wf.sIs | with_reducible apply Wf.sLs | with_reducible apply Wf.cpU | with_reducible apply Wf.fillI | with_reducible apply Wf.clU | with_reducible apply Wf.dnF | with_reducible apply Wf.gbW))) rfl dL_law_1609 yk_X11_thrown im_X11_thrown se_X11_thrown ml_L_114 rfl (co_338 (by repeat (first | with_reducible exact hw | with_reducible exact hwc | with_reducible assumption | with_reducible apply Wf.sI | with_reducible apply Wf.sL | with_reducible apply Wf.cpI | with_reducible apply Wf.cpL | with_reducible apply Wf.cp2 | with_reducible apply Wf.sIs | with_reducible apply Wf.sLs | with_reducible apply Wf.cpU | with_reducible apply Wf.fillI | with_reducible apply Wf.clU | with_reducible apply Wf.dnF | with_reducible apply Wf.gbW))) (by decide) hc_X11 (by decide) ⟨by show 0 + 60 * bb ≤ 60 * bb; omega, by show 0 + 300 * bb ≤ 300 * bb; omega⟩ (Nat.le_of_ble_eq_true rfl)) ?_
    refine lf (a_iload dL_law_1612 rfl) ?_
    refine lf2 (a_icmp_eq (tgt := 1619) dL_law_1614 (by decide)) (fun h1614 => ?_) (fun h1614 => absurd h1614 (fun z => z k0))
    refine lf (a_iload dL_law_1619 rfl) ?_
    refine lfn (a_if_ne (tgt := 1635) dL_law_1621 (by decide)) (fun h1621 => absurd h1621 (by decide)) (fun h1621 => ?_)
    refine lf (a_aload_n dL_law_1624 rfl) ?_
    refine lf (a_iconst (0 : Int32) dL_law_1625 (by decide)) ?_
    refine lf (a_lld dL_law_1626 (ca_363 (by repeat (first | with_reducible exact hw | with_reducible exact hwc | with_reducible assumption | with_reducible apply Wf.sI | with_reducible apply Wf.sL | with_reducible apply Wf.cpI | with_reducible apply Wf.cpL | with_reducible apply Wf.cp2 | with_reducible apply Wf.sIs | with_reducible apply Wf.sLs | with_reducible apply Wf.cpU | with_reducible apply Wf.fillI | with_reducible apply Wf.clU | with_reducible apply Wf.dnF | with_reducible apply Wf.gbW))) (ixn (m := 0) (by decide) (by decide))) ?_
    rw [hv1]
    refine lf (a_lload dL_law_1627 rfl) ?_
    refine lf (a_lcmp dL_law_1629) ?_
    refine lf2 (a_if_eq (tgt := 1635) dL_law_1630 (by decide)) (fun h1630 => ?_) (fun h1630 => absurd h1630 (fun z => z (lcmp_self _)))
    refine lf (a_goto (tgt := 1976) dL_law_1635 (by decide)) ?_
    exact lf (a_loc (LAw i) rfl) (kx V hr hX2)
  · simp only [List.mem_cons, List.not_mem_nil, or_false, Prod.mk.injEq] at hxk
    obtain ⟨rfl, rfl⟩ := hxk
    obtain ⟨z, V, tz, km, k0, hr, hv, hx⟩ := hk W (Out.rfl' hW)
    obtain ⟨z, rfl⟩ := tz
    have hX1 : gX W = X := hg.trans hX
    have hX2 : gX V = X := hx.trans hX1
    have hV := hr.wf
    refine lf (a_aload_n dL_law_1583 rfl) ?_
    refine lf (a_aload_n dL_law_1584 rfl) ?_
    refine lf (a_iload dL_law_1585 rfl) ?_
    refine lf (a_iconst (1 : Int32) dL_law_1587 (by decide)) ?_
    refine lf (a_iadd dL_law_1588) ?_
    refine lf (a_sld dL_law_1589 hX (ix_s (k := 1) rfl (show i + 1 < X.1 by omega) (by omega))) ?_
    refine lf (a_aload_n dL_law_1590 rfl) ?_
    refine lf (a_invSH (b2 := (60 * bb, 300 * bb)) (wx_account_1 (by repeat (first | with_reducible exact hw | with_reducible exact hwc | with_reducible assumption | with_reducible apply Wf.sI | with_reducible apply Wf.sL | with_reducible apply Wf.cpI | with_reducible apply Wf.cpL | with_reducible apply Wf.cp2 | with_reducible apply Wf.sIs | with_reducible apply Wf.sLs | with_reducible apply Wf.cpU | with_reducible apply Wf.fillI | with_reducible apply Wf.clU | with_reducible apply Wf.dnF | with_reducible apply Wf.gbW)) (X.2 (i + 1)) hc) rfl dL_law_1591 yh_L_account sm_L_account ml_L_193 rfl (by decide) ⟨by show 1 + 60 * bb ≤ 60 * (bb + 1); omega, by show 6 + 300 * bb ≤ 300 * (bb + 1); omega⟩ (Nat.le_of_ble_eq_true rfl)) ?_
    refine lf (a_istore dL_law_1594 (by decide)) ?_
    refine lf (a_aload_n dL_law_1596 rfl) ?_
    refine lf (a_aload_n dL_law_1597 rfl) ?_
    refine lf (a_iload dL_law_1598 rfl) ?_
    refine lf (a_iconst (1 : Int32) dL_law_1600 (by decide)) ?_
    refine lf (a_iadd dL_law_1601) ?_
    refine lf (a_sld dL_law_1602 hX1 (ix_s (k := 1) rfl (show i + 1 < X.1 by omega) (by omega))) ?_
    refine lf (a_inv (b2 := (60 * bb, 300 * bb)) km rfl dL_law_1603 yk_X11_account im_X11_account se_X11_account ml_L_195 rfl (co_338 (by repeat (first | with_reducible exact hw | with_reducible exact hwc | with_reducible assumption | with_reducible apply Wf.sI | with_reducible apply Wf.sL | with_reducible apply Wf.cpI | with_reducible apply Wf.cpL | with_reducible apply Wf.cp2 | with_reducible apply Wf.sIs | with_reducible apply Wf.sLs | with_reducible apply Wf.cpU | with_reducible apply Wf.fillI | with_reducible apply Wf.clU | with_reducible apply Wf.dnF | with_reducible apply Wf.gbW))) (by decide) hc_X11 (by decide) ⟨by show 0 + 60 * bb ≤ 60 * bb; omega, by show 0 + 300 * bb ≤ 300 * bb; omega⟩ (Nat.le_of_ble_eq_true rfl)) ?_
    refine lf (a_lstore dL_law_1606 (by decide)) ?_
    refine lf (a_aload_n dL_law_1608 rfl) ?_
    refine lf (a_inv (b2 := (60 * bb, 300 * bb)) (m_thrown (by repeat (first | with_reducible exact hw | with_reducible exact hwc | with_reducible assumption | with_reducible apply Wf.sI | with_reducible apply Wf.sL | with_reducible apply Wf.cpI | with_reducible apply Wf.cpL | with_reducible apply Wf.cp2 | with_reducible apply Wf.sIs | with_reducible apply Wf.sLs | with_reducible apply Wf.cpU | with_reducible apply Wf.fillI | with_reducible apply Wf.clU | with_reducible apply Wf.dnF | with_reducible apply Wf.gbW))) rfl dL_law_1609 yk_X11_thrown im_X11_thrown se_X11_thrown ml_L_114 rfl (co_338 (by repeat (first | with_reducible exact hw | with_reducible exact hwc | with_reducible assumption | with_reducible apply Wf.sI | with_reducible apply Wf.sL | with_reducible apply Wf.cpI | with_reducible apply Wf.cpL | with_reducible apply Wf.cp2 | with_reducible apply Wf.sIs | with_reducible apply Wf.sLs | with_reducible apply Wf.cpU | with_reducible apply Wf.fillI | with_reducible apply Wf.clU | with_reducible apply Wf.dnF | with_reducible apply Wf.gbW))) (by decide) hc_X11 (by decide) ⟨by show 0 + 60 * bb ≤ 60 * bb; omega, by show 0 + 300 * bb ≤ 300 * bb; omega⟩ (Nat.le_of_ble_eq_true rfl)) ?_
    refine lf (a_iload dL_law_1612 rfl) ?_
    refine lf2 (a_icmp_eq (tgt := 1619) dL_law_1614 (by decide)) (fun h1614 => ?_) (fun h1614 => absurd h1614 (fun z => z k0))
    refine lf (a_iload dL_law_1619 rfl) ?_
    refine lfn (a_if_ne (tgt := 1635) dL_law_1621 (by decide)) (fun h1621 => ?_) (fun h1621 => absurd h1621 (by decide))
    refine lf (a_goto (tgt := 1976) dL_law_1635 (by decide)) ?_
    exact lf (a_loc (LAw i) rfl) (kx V hr hX2)
theorem s_undo {μ : Wd} {N i bb : Nat} {X : Nat × (Nat → Int32)} (h : RelV N μ) (hX : gX μ = X) (hi : i + 6 ≤ X.1) (hL : X.1 ≤ 3072) (kx : ∀ V, RelV (N + 1) V → gX V = X → WP Y_L_law RLaw (60 * bb, 300 * bb) V 1976 (LAw i) [] QLw) : WP Y_L_law RLaw (60 * (bb + 1), 300 * (bb + 1)) μ 1708 (LAw i) [] QLw := by
  have hw := h.wf
  rcases o_undo h with ⟨v, W, tv, hW, hc, hg, hk⟩ | ⟨x, k, W, hxk, hW, hc, hg, hk⟩
  · obtain ⟨v, rfl⟩ := tv
    obtain ⟨V, km, k0, hr, hv, hx⟩ := hk (sL W 363 0 (v.toInt64)) ((Out.rfl' hW).sL (S := s363) (i := 363) rfl _ _)
    have hX1 : gX (sL W 363 0 (v.toInt64)) = X := hg.trans hX
    have hX2 : gX V = X := hx.trans hX1
    have hV := hr.wf
    have hv1 : gL V 363 0 = v.toInt64 := hv.trans ((gL_sL _ _ _ _ _ _).trans (if_pos ⟨rfl, rfl⟩))
    refine lf (a_aload_n dL_law_1708 rfl) ?_
    refine lf (a_aload_n dL_law_1709 rfl) ?_
    refine lf (a_invSH (b2 := (60 * bb, 300 * bb)) (wv_undo (by repeat (first | with_reducible exact hw | with_reducible exact hwc | with_reducible assumption | with_reducible apply Wf.sI | with_reducible apply Wf.sL | with_reducible apply Wf.cpI | with_reducible apply Wf.cpL | with_reducible apply Wf.cp2 | with_reducible apply Wf.sIs | with_reducible apply Wf.sLs | with_reducible apply Wf.cpU | with_reducible apply Wf.fillI | with_reducible apply Wf.clU | with_reducible apply Wf.dnF | with_reducible apply Wf.gbW)) hW hc) rfl dL_law_1710 yh_L_undo sm_L_undo ml_L_210 rfl (by decide) ⟨by show 1 + 60 * bb ≤ 60 * (bb + 1); omega, by show 6 + 300 * bb ≤ 300 * (bb + 1); omega⟩ (Nat.le_of_ble_eq_true rfl)) ?_
    refine lf (a_istore dL_law_1713 (by decide)) ?_
    refine lf (a_aload_n dL_law_1715 rfl) ?_
    refine lf (a_inv (b2 := (60 * bb, 300 * bb)) km rfl dL_law_1716 yk_X11_undo im_X11_undo se_X11_undo ml_L_212 rfl (co_338 (by repeat (first | with_reducible exact hw | with_reducible exact hwc | with_reducible assumption | with_reducible apply Wf.sI | with_reducible apply Wf.sL | with_reducible apply Wf.cpI | with_reducible apply Wf.cpL | with_reducible apply Wf.cp2 | with_reducible apply Wf.sIs | with_reducible apply Wf.sLs | with_reducible apply Wf.cpU | with_reducible apply Wf.fillI | with_reducible apply Wf.clU | with_reducible apply Wf.dnF | with_reducible apply Wf.gbW))) (by decide) hc_X11 (by decide) ⟨by show 0 + 60 * bb ≤ 60 * bb; omega, by show 0 + 300 * bb ≤ 300 * bb; omega⟩ (Nat.le_of_ble_eq_true rfl)) ?_
    refine lf (a_istore dL_law_1719 (by decide)) ?_
    refine lf (a_aload_n dL_law_1721 rfl) ?_
    refine lf (a_inv (b2 := (60 * bb, 300 * bb)) (m_thrown (by repeat (first | with_reducible exact hw | with_reducible exact hwc | with_reducible assumption | with_reducible apply Wf.sI | with_reducible apply Wf.sL | with_reducible apply Wf.cpI | with_reducible apply Wf.cpL | with_reducible apply Wf.cp2 | with_reducible apply Wf.sIs | with_reducible apply Wf.sLs | with_reducible apply Wf.cpU | with_reducible apply Wf.fillI | with_reducible apply Wf.clU | with_reducible apply Wf.dnF | with_reducible apply Wf.gbW))) rfl dL_law_1722 yk_X11_thrown im_X11_thrown se_X11_thrown ml_L_114 rfl (co_338 (by repeat (first | with_reducible exact hw | with_reducible exact hwc | with_reducible assumption | with_reducible apply Wf.sI | with_reducible apply Wf.sL | with_reducible apply Wf.cpI | with_reducible apply Wf.cpL | with_reducible apply Wf.cp2 | with_reducible apply Wf.sIs | with_reducible apply Wf.sLs | with_reducible apply Wf.cpU | with_reducible apply Wf.fillI | with_reducible apply Wf.clU | with_reducible apply Wf.dnF | with_reducible apply Wf.gbW))) (by decide) hc_X11 (by decide) ⟨by show 0 + 60 * bb ≤ 60 * bb; omega, by show 0 + 300 * bb ≤ 300 * bb; omega⟩ (Nat.le_of_ble_eq_true rfl)) ?_
    refine lf (a_iload dL_law_1725 rfl) ?_
    refine lf2 (a_icmp_eq (tgt := 1732) dL_law_1727 (by decide)) (fun h1727 => ?_) (fun h1727 => absurd h1727 (fun z => z k0))
    refine lf (a_iload dL_law_1732 rfl) ?_
    refine lfn (a_if_ne (tgt := 1749) dL_law_1734 (by decide)) (fun h1734 => absurd h1734 (by decide)) (fun h1734 => ?_)
    refine lf (a_aload_n dL_law_1737 rfl) ?_
    refine lf (a_iconst (0 : Int32) dL_law_1738 (by decide)) ?_
    refine lf (a_lld dL_law_1739 (ca_363 (by repeat (first | with_reducible exact hw | with_reducible exact hwc | with_reducible assumption | with_reducible apply Wf.sI | with_reducible apply Wf.sL | with_reducible apply Wf.cpI | with_reducible apply Wf.cpL | with_reducible apply Wf.cp2 | with_reducible apply Wf.sIs | with_reducible apply Wf.sLs | with_reducible apply Wf.cpU | with_reducible apply Wf.fillI | with_reducible apply Wf.clU | with_reducible apply Wf.dnF | with_reducible apply Wf.gbW))) (ixn (m := 0) (by decide) (by decide))) ?_
    rw [hv1]
    refine lf (a_iload dL_law_1740 rfl) ?_
    refine lf (a_i2l dL_law_1742) ?_
    refine lf (a_lcmp dL_law_1743) ?_
    refine lf2 (a_if_eq (tgt := 1749) dL_law_1744 (by decide)) (fun h1744 => ?_) (fun h1744 => absurd h1744 (fun z => z (lcmp_self _)))
    refine lf (a_goto (tgt := 1976) dL_law_1749 (by decide)) ?_
    exact lf (a_loc (LAw i) rfl) (kx V hr hX2)
  · simp only [List.mem_cons, List.not_mem_nil, or_false, Prod.mk.injEq] at hxk
    obtain ⟨rfl, rfl⟩ := hxk
    obtain ⟨z, V, tz, km, k0, hr, hv, hx⟩ := hk W (Out.rfl' hW)
    obtain ⟨z, rfl⟩ := tz
    have hX1 : gX W = X := hg.trans hX
    have hX2 : gX V = X := hx.trans hX1
    have hV := hr.wf
    refine lf (a_aload_n dL_law_1708 rfl) ?_
    refine lf (a_aload_n dL_law_1709 rfl) ?_
    refine lf (a_invSH (b2 := (60 * bb, 300 * bb)) (wx_undo_1 (by repeat (first | with_reducible exact hw | with_reducible exact hwc | with_reducible assumption | with_reducible apply Wf.sI | with_reducible apply Wf.sL | with_reducible apply Wf.cpI | with_reducible apply Wf.cpL | with_reducible apply Wf.cp2 | with_reducible apply Wf.sIs | with_reducible apply Wf.sLs | with_reducible apply Wf.cpU | with_reducible apply Wf.fillI | with_reducible apply Wf.clU | with_reducible apply Wf.dnF | with_reducible apply Wf.gbW)) hc) rfl dL_law_1710 yh_L_undo sm_L_undo ml_L_210 rfl (by decide) ⟨by show 1 + 60 * bb ≤ 60 * (bb + 1); omega, by show 6 + 300 * bb ≤ 300 * (bb + 1); omega⟩ (Nat.le_of_ble_eq_true rfl)) ?_
    refine lf (a_istore dL_law_1713 (by decide)) ?_
    refine lf (a_aload_n dL_law_1715 rfl) ?_
    refine lf (a_inv (b2 := (60 * bb, 300 * bb)) km rfl dL_law_1716 yk_X11_undo im_X11_undo se_X11_undo ml_L_212 rfl (co_338 (by repeat (first | with_reducible exact hw | with_reducible exact hwc | with_reducible assumption | with_reducible apply Wf.sI | with_reducible apply Wf.sL | with_reducible apply Wf.cpI | with_reducible apply Wf.cpL | with_reducible apply Wf.cp2 | with_reducible apply Wf.sIs | with_reducible apply Wf.sLs | with_reducible apply Wf.cpU | with_reducible apply Wf.fillI | with_reducible apply Wf.clU | with_reducible apply Wf.dnF | with_reducible apply Wf.gbW))) (by decide) hc_X11 (by decide) ⟨by show 0 + 60 * bb ≤ 60 * bb; omega, by show 0 + 300 * bb ≤ 300 * bb; omega⟩ (Nat.le_of_ble_eq_true rfl)) ?_
    refine lf (a_istore dL_law_1719 (by decide)) ?_
    refine lf (a_aload_n dL_law_1721 rfl) ?_
    refine lf (a_inv (b2 := (60 * bb, 300 * bb)) (m_thrown (by repeat (first | with_reducible exact hw | with_reducible exact hwc | with_reducible assumption | with_reducible apply Wf.sI | with_reducible apply Wf.sL | with_reducible apply Wf.cpI | with_reducible apply Wf.cpL | with_reducible apply Wf.cp2 | with_reducible apply Wf.sIs | with_reducible apply Wf.sLs | with_reducible apply Wf.cpU | with_reducible apply Wf.fillI | with_reducible apply Wf.clU | with_reducible apply Wf.dnF | with_reducible apply Wf.gbW))) rfl dL_law_1722 yk_X11_thrown im_X11_thrown se_X11_thrown ml_L_114 rfl (co_338 (by repeat (first | with_reducible exact hw | with_reducible exact hwc | with_reducible assumption | with_reducible apply Wf.sI | with_reducible apply Wf.sL | with_reducible apply Wf.cpI | with_reducible apply Wf.cpL | with_reducible apply Wf.cp2 | with_reducible apply Wf.sIs | with_reducible apply Wf.sLs | with_reducible apply Wf.cpU | with_reducible apply Wf.fillI | with_reducible apply Wf.clU | with_reducible apply Wf.dnF | with_reducible apply Wf.gbW))) (by decide) hc_X11 (by decide) ⟨by show 0 + 60 * bb ≤ 60 * bb; omega, by show 0 + 300 * bb ≤ 300 * bb; omega⟩ (Nat.le_of_ble_eq_true rfl)) ?_
    refine lf (a_iload dL_law_1725 rfl) ?_
    refine lf2 (a_icmp_eq (tgt := 1732) dL_law_1727 (by decide)) (fun h1727 => ?_) (fun h1727 => absurd h1727 (fun z => z k0))
    refine lf (a_iload dL_law_1732 rfl) ?_
    refine lfn (a_if_ne (tgt := 1749) dL_law_1734 (by decide)) (fun h1734 => ?_) (fun h1734 => absurd h1734 (by decide))
    refine lf (a_goto (tgt := 1976) dL_law_1749 (by decide)) ?_
    exact lf (a_loc (LAw i) rfl) (kx V hr hX2)
theorem s_keep {μ : Wd} {N i bb : Nat} {X : Nat × (Nat → Int32)} (h : RelV N μ) (hX : gX μ = X) (hi : i + 6 ≤ X.1) (hL : X.1 ≤ 3072) (kx : ∀ V, RelV (N + 1) V → gX V = X → WP Y_L_law RLaw (60 * bb, 300 * bb) V 1976 (LAw i) [] QLw) : WP Y_L_law RLaw (60 * (bb + 1), 300 * (bb + 1)) μ 1752 (LAw i) [] QLw := by
  have hw := h.wf
  rcases o_keep h (X.2 (i + 1)) with ⟨v, W, tv, hW, hc, hg, hk⟩ | ⟨x, k, W, hxk, hW, hc, hg, hk⟩
  · obtain ⟨v, rfl⟩ := tv
    obtain ⟨V, km, k0, hr, hv, hx⟩ := hk (sL W 363 0 (v.toInt64)) ((Out.rfl' hW).sL (S := s363) (i := 363) rfl _ _)
    have hX1 : gX (sL W 363 0 (v.toInt64)) = X := hg.trans hX
    have hX2 : gX V = X := hx.trans hX1
    have hV := hr.wf
    have hv1 : gL V 363 0 = v.toInt64 := hv.trans ((gL_sL _ _ _ _ _ _).trans (if_pos ⟨rfl, rfl⟩))
    refine lf (a_aload_n dL_law_1752 rfl) ?_
    refine lf (a_aload_n dL_law_1753 rfl) ?_
    refine lf (a_iload dL_law_1754 rfl) ?_
    refine lf (a_iconst (1 : Int32) dL_law_1756 (by decide)) ?_
    refine lf (a_iadd dL_law_1757) ?_
    refine lf (a_sld dL_law_1758 hX (ix_s (k := 1) rfl (show i + 1 < X.1 by omega) (by omega))) ?_
    refine lf (a_aload_n dL_law_1759 rfl) ?_
    refine lf (a_invSH (b2 := (60 * bb, 300 * bb)) (wv_keep (by repeat (first | with_reducible exact hw | with_reducible exact hwc | with_reducible assumption | with_reducible apply Wf.sI | with_reducible apply Wf.sL | with_reducible apply Wf.cpI | with_reducible apply Wf.cpL | with_reducible apply Wf.cp2 | with_reducible apply Wf.sIs | with_reducible apply Wf.sLs | with_reducible apply Wf.cpU | with_reducible apply Wf.fillI | with_reducible apply Wf.clU | with_reducible apply Wf.dnF | with_reducible apply Wf.gbW)) (X.2 (i + 1)) hW hc) rfl dL_law_1760 yh_L_keep sm_L_keep ml_L_213 rfl (by decide) ⟨by show 1 + 60 * bb ≤ 60 * (bb + 1); omega, by show 6 + 300 * bb ≤ 300 * (bb + 1); omega⟩ (Nat.le_of_ble_eq_true rfl)) ?_
    refine lf (a_istore dL_law_1763 (by decide)) ?_
    refine lf (a_aload_n dL_law_1765 rfl) ?_
    refine lf (a_aload_n dL_law_1766 rfl) ?_
    refine lf (a_iload dL_law_1767 rfl) ?_
    refine lf (a_iconst (1 : Int32) dL_law_1769 (by decide)) ?_
    refine lf (a_iadd dL_law_1770) ?_
    refine lf (a_sld dL_law_1771 hX1 (ix_s (k := 1) rfl (show i + 1 < X.1 by omega) (by omega))) ?_
    refine lf (a_inv (b2 := (60 * bb, 300 * bb)) km rfl dL_law_1772 yk_X11_keep im_X11_keep se_X11_keep ml_L_215 rfl (co_338 (by repeat (first | with_reducible exact hw | with_reducible exact hwc | with_reducible assumption | with_reducible apply Wf.sI | with_reducible apply Wf.sL | with_reducible apply Wf.cpI | with_reducible apply Wf.cpL | with_reducible apply Wf.cp2 | with_reducible apply Wf.sIs | with_reducible apply Wf.sLs | with_reducible apply Wf.cpU | with_reducible apply Wf.fillI | with_reducible apply Wf.clU | with_reducible apply Wf.dnF | with_reducible apply Wf.gbW))) (by decide) hc_X11 (by decide) ⟨by show 0 + 60 * bb ≤ 60 * bb; omega, by show 0 + 300 * bb ≤ 300 * bb; omega⟩ (Nat.le_of_ble_eq_true rfl)) ?_
    refine lf (a_istore dL_law_1775 (by decide)) ?_
    refine lf (a_aload_n dL_law_1777 rfl) ?_
    refine lf (a_inv (b2 := (60 * bb, 300 * bb)) (m_thrown (by repeat (first | with_reducible exact hw | with_reducible exact hwc | with_reducible assumption | with_reducible apply Wf.sI | with_reducible apply Wf.sL | with_reducible apply Wf.cpI | with_reducible apply Wf.cpL | with_reducible apply Wf.cp2 | with_reducible apply Wf.sIs | with_reducible apply Wf.sLs | with_reducible apply Wf.cpU | with_reducible apply Wf.fillI | with_reducible apply Wf.clU | with_reducible apply Wf.dnF | with_reducible apply Wf.gbW))) rfl dL_law_1778 yk_X11_thrown im_X11_thrown se_X11_thrown ml_L_114 rfl (co_338 (by repeat (first | with_reducible exact hw | with_reducible exact hwc | with_reducible assumption | with_reducible apply Wf.sI | with_reducible apply Wf.sL | with_reducible apply Wf.cpI | with_reducible apply Wf.cpL | with_reducible apply Wf.cp2 | with_reducible apply Wf.sIs | with_reducible apply Wf.sLs | with_reducible apply Wf.cpU | with_reducible apply Wf.fillI | with_reducible apply Wf.clU | with_reducible apply Wf.dnF | with_reducible apply Wf.gbW))) (by decide) hc_X11 (by decide) ⟨by show 0 + 60 * bb ≤ 60 * bb; omega, by show 0 + 300 * bb ≤ 300 * bb; omega⟩ (Nat.le_of_ble_eq_true rfl)) ?_
    refine lf (a_iload dL_law_1781 rfl) ?_
    refine lf2 (a_icmp_eq (tgt := 1788) dL_law_1783 (by decide)) (fun h1783 => ?_) (fun h1783 => absurd h1783 (fun z => z k0))
    refine lf (a_iload dL_law_1788 rfl) ?_
    refine lfn (a_if_ne (tgt := 1805) dL_law_1790 (by decide)) (fun h1790 => absurd h1790 (by decide)) (fun h1790 => ?_)
    refine lf (a_aload_n dL_law_1793 rfl) ?_
    refine lf (a_iconst (0 : Int32) dL_law_1794 (by decide)) ?_
    refine lf (a_lld dL_law_1795 (ca_363 (by repeat (first | with_reducible exact hw | with_reducible exact hwc | with_reducible assumption | with_reducible apply Wf.sI | with_reducible apply Wf.sL | with_reducible apply Wf.cpI | with_reducible apply Wf.cpL | with_reducible apply Wf.cp2 | with_reducible apply Wf.sIs | with_reducible apply Wf.sLs | with_reducible apply Wf.cpU | with_reducible apply Wf.fillI | with_reducible apply Wf.clU | with_reducible apply Wf.dnF | with_reducible apply Wf.gbW))) (ixn (m := 0) (by decide) (by decide))) ?_
    rw [hv1]
    refine lf (a_iload dL_law_1796 rfl) ?_
    refine lf (a_i2l dL_law_1798) ?_
    refine lf (a_lcmp dL_law_1799) ?_
    refine lf2 (a_if_eq (tgt := 1805) dL_law_1800 (by decide)) (fun h1800 => ?_) (fun h1800 => absurd h1800 (fun z => z (lcmp_self _)))
    refine lf (a_goto (tgt := 1976) dL_law_1805 (by decide)) ?_
    exact lf (a_loc (LAw i) rfl) (kx V hr hX2)
  · simp only [List.mem_cons, List.not_mem_nil, or_false, Prod.mk.injEq] at hxk
    obtain ⟨rfl, rfl⟩ := hxk
    obtain ⟨z, V, tz, km, k0, hr, hv, hx⟩ := hk W (Out.rfl' hW)
    obtain ⟨z, rfl⟩ := tz
    have hX1 : gX W = X := hg.trans hX
    have hX2 : gX V = X := hx.trans hX1
    have hV := hr.wf
    refine lf (a_aload_n dL_law_1752 rfl) ?_
    refine lf (a_aload_n dL_law_1753 rfl) ?_
    refine lf (a_iload dL_law_1754 rfl) ?_
    refine lf (a_iconst (1 : Int32) dL_law_1756 (by decide)) ?_
    refine lf (a_iadd dL_law_1757) ?_
    refine lf (a_sld dL_law_1758 hX (ix_s (k := 1) rfl (show i + 1 < X.1 by omega) (by omega))) ?_
    refine lf (a_aload_n dL_law_1759 rfl) ?_
    refine lf (a_invSH (b2 := (60 * bb, 300 * bb)) (wx_keep_1 (by repeat (first | with_reducible exact hw | with_reducible exact hwc | with_reducible assumption | with_reducible apply Wf.sI | with_reducible apply Wf.sL | with_reducible apply Wf.cpI | with_reducible apply Wf.cpL | with_reducible apply Wf.cp2 | with_reducible apply Wf.sIs | with_reducible apply Wf.sLs | with_reducible apply Wf.cpU | with_reducible apply Wf.fillI | with_reducible apply Wf.clU | with_reducible apply Wf.dnF | with_reducible apply Wf.gbW)) (X.2 (i + 1)) hc) rfl dL_law_1760 yh_L_keep sm_L_keep ml_L_213 rfl (by decide) ⟨by show 1 + 60 * bb ≤ 60 * (bb + 1); omega, by show 6 + 300 * bb ≤ 300 * (bb + 1); omega⟩ (Nat.le_of_ble_eq_true rfl)) ?_
    refine lf (a_istore dL_law_1763 (by decide)) ?_
    refine lf (a_aload_n dL_law_1765 rfl) ?_
    refine lf (a_aload_n dL_law_1766 rfl) ?_
    refine lf (a_iload dL_law_1767 rfl) ?_
    refine lf (a_iconst (1 : Int32) dL_law_1769 (by decide)) ?_
    refine lf (a_iadd dL_law_1770) ?_
    refine lf (a_sld dL_law_1771 hX1 (ix_s (k := 1) rfl (show i + 1 < X.1 by omega) (by omega))) ?_
    refine lf (a_inv (b2 := (60 * bb, 300 * bb)) km rfl dL_law_1772 yk_X11_keep im_X11_keep se_X11_keep ml_L_215 rfl (co_338 (by repeat (first | with_reducible exact hw | with_reducible exact hwc | with_reducible assumption | with_reducible apply Wf.sI | with_reducible apply Wf.sL | with_reducible apply Wf.cpI | with_reducible apply Wf.cpL | with_reducible apply Wf.cp2 | with_reducible apply Wf.sIs | with_reducible apply Wf.sLs | with_reducible apply Wf.cpU | with_reducible apply Wf.fillI | with_reducible apply Wf.clU | with_reducible apply Wf.dnF | with_reducible apply Wf.gbW))) (by decide) hc_X11 (by decide) ⟨by show 0 + 60 * bb ≤ 60 * bb; omega, by show 0 + 300 * bb ≤ 300 * bb; omega⟩ (Nat.le_of_ble_eq_true rfl)) ?_
    refine lf (a_istore dL_law_1775 (by decide)) ?_
    refine lf (a_aload_n dL_law_1777 rfl) ?_
    refine lf (a_inv (b2 := (60 * bb, 300 * bb)) (m_thrown (by repeat (first | with_reducible exact hw | with_reducible exact hwc | with_reducible assumption | with_reducible apply Wf.sI | with_reducible apply Wf.sL | with_reducible apply Wf.cpI | with_reducible apply Wf.cpL | with_reducible apply Wf.cp2 | with_reducible apply Wf.sIs | with_reducible apply Wf.sLs | with_reducible apply Wf.cpU | with_reducible apply Wf.fillI | with_reducible apply Wf.clU | with_reducible apply Wf.dnF | with_reducible apply Wf.gbW))) rfl dL_law_1778 yk_X11_thrown im_X11_thrown se_X11_thrown ml_L_114 rfl (co_338 (by repeat (first | with_reducible exact hw | with_reducible exact hwc | with_reducible assumption | with_reducible apply Wf.sI | with_reducible apply Wf.sL | with_reducible apply Wf.cpI | with_reducible apply Wf.cpL | with_reducible apply Wf.cp2 | with_reducible apply Wf.sIs | with_reducible apply Wf.sLs | with_reducible apply Wf.cpU | with_reducible apply Wf.fillI | with_reducible apply Wf.clU | with_reducible apply Wf.dnF | with_reducible apply Wf.gbW))) (by decide) hc_X11 (by decide) ⟨by show 0 + 60 * bb ≤ 60 * bb; omega, by show 0 + 300 * bb ≤ 300 * bb; omega⟩ (Nat.le_of_ble_eq_true rfl)) ?_
    refine lf (a_iload dL_law_1781 rfl) ?_
    refine lf2 (a_icmp_eq (tgt := 1788) dL_law_1783 (by decide)) (fun h1783 => ?_) (fun h1783 => absurd h1783 (fun z => z k0))
    refine lf (a_iload dL_law_1788 rfl) ?_
    refine lfn (a_if_ne (tgt := 1805) dL_law_1790 (by decide)) (fun h1790 => ?_) (fun h1790 => absurd h1790 (by decide))
    refine lf (a_goto (tgt := 1976) dL_law_1805 (by decide)) ?_
    exact lf (a_loc (LAw i) rfl) (kx V hr hX2)
theorem s_restore {μ : Wd} {N i bb : Nat} {X : Nat × (Nat → Int32)} (h : RelV N μ) (hX : gX μ = X) (hi : i + 6 ≤ X.1) (hL : X.1 ≤ 3072) (kx : ∀ V, RelV (N + 1) V → gX V = X → WP Y_L_law RLaw (60 * bb, 300 * bb) V 1976 (LAw i) [] QLw) : WP Y_L_law RLaw (60 * (bb + 1), 300 * (bb + 1)) μ 1808 (LAw i) [] QLw := by
  have hw := h.wf
  rcases o_restore h (X.2 (i + 1)) with ⟨v, W, tv, hW, hc, hg, hk⟩ | ⟨x, k, W, hxk, hW, hc, hg, hk⟩
  · obtain ⟨v, rfl⟩ := tv
    obtain ⟨V, km, k0, hr, hv, hx⟩ := hk (sL W 363 0 (v.toInt64)) ((Out.rfl' hW).sL (S := s363) (i := 363) rfl _ _)
    have hX1 : gX (sL W 363 0 (v.toInt64)) = X := hg.trans hX
    have hX2 : gX V = X := hx.trans hX1
    have hV := hr.wf
    have hv1 : gL V 363 0 = v.toInt64 := hv.trans ((gL_sL _ _ _ _ _ _).trans (if_pos ⟨rfl, rfl⟩))
    refine lf (a_aload_n dL_law_1808 rfl) ?_
    refine lf (a_aload_n dL_law_1809 rfl) ?_
    refine lf (a_iload dL_law_1810 rfl) ?_
    refine lf (a_iconst (1 : Int32) dL_law_1812 (by decide)) ?_
    refine lf (a_iadd dL_law_1813) ?_
    refine lf (a_sld dL_law_1814 hX (ix_s (k := 1) rfl (show i + 1 < X.1 by omega) (by omega))) ?_
    refine lf (a_aload_n dL_law_1815 rfl) ?_
    refine lf (a_invSH (b2 := (60 * bb, 300 * bb)) (wv_restore (by repeat (first | with_reducible exact hw | with_reducible exact hwc | with_reducible assumption | with_reducible apply Wf.sI | with_reducible apply Wf.sL | with_reducible apply Wf.cpI | with_reducible apply Wf.cpL | with_reducible apply Wf.cp2 | with_reducible apply Wf.sIs | with_reducible apply Wf.sLs | with_reducible apply Wf.cpU | with_reducible apply Wf.fillI | with_reducible apply Wf.clU | with_reducible apply Wf.dnF | with_reducible apply Wf.gbW)) (X.2 (i + 1)) hW hc) rfl dL_law_1816 yh_L_restore sm_L_restore ml_L_216 rfl (by decide) ⟨by show 1 + 60 * bb ≤ 60 * (bb + 1); omega, by show 6 + 300 * bb ≤ 300 * (bb + 1); omega⟩ (Nat.le_of_ble_eq_true rfl)) ?_
    refine lf (a_istore dL_law_1819 (by decide)) ?_
    refine lf (a_aload_n dL_law_1821 rfl) ?_
    refine lf (a_aload_n dL_law_1822 rfl) ?_
    refine lf (a_iload dL_law_1823 rfl) ?_
    refine lf (a_iconst (1 : Int32) dL_law_1825 (by decide)) ?_
    refine lf (a_iadd dL_law_1826) ?_
    refine lf (a_sld dL_law_1827 hX1 (ix_s (k := 1) rfl (show i + 1 < X.1 by omega) (by omega))) ?_
    refine lf (a_inv (b2 := (60 * bb, 300 * bb)) km rfl dL_law_1828 yk_X11_restore im_X11_restore se_X11_restore ml_L_218 rfl (co_338 (by repeat (first | with_reducible exact hw | with_reducible exact hwc | with_reducible assumption | with_reducible apply Wf.sI | with_reducible apply Wf.sL | with_reducible apply Wf.cpI | with_reducible apply Wf.cpL | with_reducible apply Wf.cp2 | with_reducible apply Wf.sIs | with_reducible apply Wf.sLs | with_reducible apply Wf.cpU | with_reducible apply Wf.fillI | with_reducible apply Wf.clU | with_reducible apply Wf.dnF | with_reducible apply Wf.gbW))) (by decide) hc_X11 (by decide) ⟨by show 0 + 60 * bb ≤ 60 * bb; omega, by show 0 + 300 * bb ≤ 300 * bb; omega⟩ (Nat.le_of_ble_eq_true rfl)) ?_
    refine lf (a_istore dL_law_1831 (by decide)) ?_
    refine lf (a_aload_n dL_law_1833 rfl) ?_
    refine lf (a_inv (b2 := (60 * bb, 300 * bb)) (m_thrown (by repeat (first | with_reducible exact hw | with_reducible exact hwc | with_reducible assumption | with_reducible apply Wf.sI | with_reducible apply Wf.sL | with_reducible apply Wf.cpI | with_reducible apply Wf.cpL | with_reducible apply Wf.cp2 | with_reducible apply Wf.sIs | with_reducible apply Wf.sLs | with_reducible apply Wf.cpU | with_reducible apply Wf.fillI | with_reducible apply Wf.clU | with_reducible apply Wf.dnF | with_reducible apply Wf.gbW))) rfl dL_law_1834 yk_X11_thrown im_X11_thrown se_X11_thrown ml_L_114 rfl (co_338 (by repeat (first | with_reducible exact hw | with_reducible exact hwc | with_reducible assumption | with_reducible apply Wf.sI | with_reducible apply Wf.sL | with_reducible apply Wf.cpI | with_reducible apply Wf.cpL | with_reducible apply Wf.cp2 | with_reducible apply Wf.sIs | with_reducible apply Wf.sLs | with_reducible apply Wf.cpU | with_reducible apply Wf.fillI | with_reducible apply Wf.clU | with_reducible apply Wf.dnF | with_reducible apply Wf.gbW))) (by decide) hc_X11 (by decide) ⟨by show 0 + 60 * bb ≤ 60 * bb; omega, by show 0 + 300 * bb ≤ 300 * bb; omega⟩ (Nat.le_of_ble_eq_true rfl)) ?_
    refine lf (a_iload dL_law_1837 rfl) ?_
    refine lf2 (a_icmp_eq (tgt := 1844) dL_law_1839 (by decide)) (fun h1839 => ?_) (fun h1839 => absurd h1839 (fun z => z k0))
    refine lf (a_iload dL_law_1844 rfl) ?_
    refine lfn (a_if_ne (tgt := 1861) dL_law_1846 (by decide)) (fun h1846 => absurd h1846 (by decide)) (fun h1846 => ?_)
    refine lf (a_aload_n dL_law_1849 rfl) ?_
    refine lf (a_iconst (0 : Int32) dL_law_1850 (by decide)) ?_
    refine lf (a_lld dL_law_1851 (ca_363 (by repeat (first | with_reducible exact hw | with_reducible exact hwc | with_reducible assumption | with_reducible apply Wf.sI | with_reducible apply Wf.sL | with_reducible apply Wf.cpI | with_reducible apply Wf.cpL | with_reducible apply Wf.cp2 | with_reducible apply Wf.sIs | with_reducible apply Wf.sLs | with_reducible apply Wf.cpU | with_reducible apply Wf.fillI | with_reducible apply Wf.clU | with_reducible apply Wf.dnF | with_reducible apply Wf.gbW))) (ixn (m := 0) (by decide) (by decide))) ?_
    rw [hv1]
    refine lf (a_iload dL_law_1852 rfl) ?_
    refine lf (a_i2l dL_law_1854) ?_
    refine lf (a_lcmp dL_law_1855) ?_
    refine lf2 (a_if_eq (tgt := 1861) dL_law_1856 (by decide)) (fun h1856 => ?_) (fun h1856 => absurd h1856 (fun z => z (lcmp_self _)))
    refine lf (a_goto (tgt := 1976) dL_law_1861 (by decide)) ?_
    exact lf (a_loc (LAw i) rfl) (kx V hr hX2)
  · simp only [List.mem_cons, List.not_mem_nil, or_false, Prod.mk.injEq] at hxk
    rcases hxk with ⟨rfl, rfl⟩ | ⟨rfl, rfl⟩
    · obtain ⟨z, V, tz, km, k0, hr, hv, hx⟩ := hk W (Out.rfl' hW)
      obtain ⟨z, rfl⟩ := tz
      have hX1 : gX W = X := hg.trans hX
      have hX2 : gX V = X := hx.trans hX1
      have hV := hr.wf
      refine lf (a_aload_n dL_law_1808 rfl) ?_
      refine lf (a_aload_n dL_law_1809 rfl) ?_
      refine lf (a_iload dL_law_1810 rfl) ?_
      refine lf (a_iconst (1 : Int32) dL_law_1812 (by decide)) ?_
      refine lf (a_iadd dL_law_1813) ?_
      refine lf (a_sld dL_law_1814 hX (ix_s (k := 1) rfl (show i + 1 < X.1 by omega) (by omega))) ?_
      refine lf (a_aload_n dL_law_1815 rfl) ?_
      refine lf (a_invSH (b2 := (60 * bb, 300 * bb)) (wx_restore_1 (by repeat (first | with_reducible exact hw | with_reducible exact hwc | with_reducible assumption | with_reducible apply Wf.sI | with_reducible apply Wf.sL | with_reducible apply Wf.cpI | with_reducible apply Wf.cpL | with_reducible apply Wf.cp2 | with_reducible apply Wf.sIs | with_reducible apply Wf.sLs | with_reducible apply Wf.cpU | with_reducible apply Wf.fillI | with_reducible apply Wf.clU | with_reducible apply Wf.dnF | with_reducible apply Wf.gbW)) (X.2 (i + 1)) hc) rfl dL_law_1816 yh_L_restore sm_L_restore ml_L_216 rfl (by decide) ⟨by show 1 + 60 * bb ≤ 60 * (bb + 1); omega, by show 6 + 300 * bb ≤ 300 * (bb + 1); omega⟩ (Nat.le_of_ble_eq_true rfl)) ?_
      refine lf (a_istore dL_law_1819 (by decide)) ?_
      refine lf (a_aload_n dL_law_1821 rfl) ?_
      refine lf (a_aload_n dL_law_1822 rfl) ?_
      refine lf (a_iload dL_law_1823 rfl) ?_
      refine lf (a_iconst (1 : Int32) dL_law_1825 (by decide)) ?_
      refine lf (a_iadd dL_law_1826) ?_
      refine lf (a_sld dL_law_1827 hX1 (ix_s (k := 1) rfl (show i + 1 < X.1 by omega) (by omega))) ?_
      refine lf (a_inv (b2 := (60 * bb, 300 * bb)) km rfl dL_law_1828 yk_X11_restore im_X11_restore se_X11_restore ml_L_218 rfl (co_338 (by repeat (first | with_reducible exact hw | with_reducible exact hwc | with_reducible assumption | with_reducible apply Wf.sI | with_reducible apply Wf.sL | with_reducible apply Wf.cpI | with_reducible apply Wf.cpL | with_reducible apply Wf.cp2 | with_reducible apply Wf.sIs | with_reducible apply Wf.sLs | with_reducible apply Wf.cpU | with_reducible apply Wf.fillI | with_reducible apply Wf.clU | with_reducible apply Wf.dnF | with_reducible apply Wf.gbW))) (by decide) hc_X11 (by decide) ⟨by show 0 + 60 * bb ≤ 60 * bb; omega, by show 0 + 300 * bb ≤ 300 * bb; omega⟩ (Nat.le_of_ble_eq_true rfl)) ?_
      refine lf (a_istore dL_law_1831 (by decide)) ?_
      refine lf (a_aload_n dL_law_1833 rfl) ?_
      refine lf (a_inv (b2 := (60 * bb, 300 * bb)) (m_thrown (by repeat (first | with_reducible exact hw | with_reducible exact hwc | with_reducible assumption | with_reducible apply Wf.sI | with_reducible apply Wf.sL | with_reducible apply Wf.cpI | with_reducible apply Wf.cpL | with_reducible apply Wf.cp2 | with_reducible apply Wf.sIs | with_reducible apply Wf.sLs | with_reducible apply Wf.cpU | with_reducible apply Wf.fillI | with_reducible apply Wf.clU | with_reducible apply Wf.dnF | with_reducible apply Wf.gbW))) rfl dL_law_1834 yk_X11_thrown im_X11_thrown se_X11_thrown ml_L_114 rfl (co_338 (by repeat (first | with_reducible exact hw | with_reducible exact hwc | with_reducible assumption | with_reducible apply Wf.sI | with_reducible apply Wf.sL | with_reducible apply Wf.cpI | with_reducible apply Wf.cpL | with_reducible apply Wf.cp2 | with_reducible apply Wf.sIs | with_reducible apply Wf.sLs | with_reducible apply Wf.cpU | with_reducible apply Wf.fillI | with_reducible apply Wf.clU | with_reducible apply Wf.dnF | with_reducible apply Wf.gbW))) (by decide) hc_X11 (by decide) ⟨by show 0 + 60 * bb ≤ 60 * bb; omega, by show 0 + 300 * bb ≤ 300 * bb; omega⟩ (Nat.le_of_ble_eq_true rfl)) ?_
      refine lf (a_iload dL_law_1837 rfl) ?_
      refine lf2 (a_icmp_eq (tgt := 1844) dL_law_1839 (by decide)) (fun h1839 => ?_) (fun h1839 => absurd h1839 (fun z => z k0))
      refine lf (a_iload dL_law_1844 rfl) ?_
      refine lfn (a_if_ne (tgt := 1861) dL_law_1846 (by decide)) (fun h1846 => ?_) (fun h1846 => absurd h1846 (by decide))
      refine lf (a_goto (tgt := 1976) dL_law_1861 (by decide)) ?_
      exact lf (a_loc (LAw i) rfl) (kx V hr hX2)
    · obtain ⟨z, V, tz, km, k0, hr, hv, hx⟩ := hk W (Out.rfl' hW)
      obtain ⟨z, rfl⟩ := tz
      have hX1 : gX W = X := hg.trans hX
      have hX2 : gX V = X := hx.trans hX1
      have hV := hr.wf
      refine lf (a_aload_n dL_law_1808 rfl) ?_
      refine lf (a_aload_n dL_law_1809 rfl) ?_
      refine lf (a_iload dL_law_1810 rfl) ?_
      refine lf (a_iconst (1 : Int32) dL_law_1812 (by decide)) ?_
      refine lf (a_iadd dL_law_1813) ?_
      refine lf (a_sld dL_law_1814 hX (ix_s (k := 1) rfl (show i + 1 < X.1 by omega) (by omega))) ?_
      refine lf (a_aload_n dL_law_1815 rfl) ?_
      refine lf (a_invSH (b2 := (60 * bb, 300 * bb)) (wx_restore_2 (by repeat (first | with_reducible exact hw | with_reducible exact hwc | with_reducible assumption | with_reducible apply Wf.sI | with_reducible apply Wf.sL | with_reducible apply Wf.cpI | with_reducible apply Wf.cpL | with_reducible apply Wf.cp2 | with_reducible apply Wf.sIs | with_reducible apply Wf.sLs | with_reducible apply Wf.cpU | with_reducible apply Wf.fillI | with_reducible apply Wf.clU | with_reducible apply Wf.dnF | with_reducible apply Wf.gbW)) (X.2 (i + 1)) hc) rfl dL_law_1816 yh_L_restore sm_L_restore ml_L_216 rfl (by decide) ⟨by show 1 + 60 * bb ≤ 60 * (bb + 1); omega, by show 6 + 300 * bb ≤ 300 * (bb + 1); omega⟩ (Nat.le_of_ble_eq_true rfl)) ?_
      refine lf (a_istore dL_law_1819 (by decide)) ?_
      refine lf (a_aload_n dL_law_1821 rfl) ?_
      refine lf (a_aload_n dL_law_1822 rfl) ?_
      refine lf (a_iload dL_law_1823 rfl) ?_
      refine lf (a_iconst (1 : Int32) dL_law_1825 (by decide)) ?_
      refine lf (a_iadd dL_law_1826) ?_
      refine lf (a_sld dL_law_1827 hX1 (ix_s (k := 1) rfl (show i + 1 < X.1 by omega) (by omega))) ?_
      refine lf (a_inv (b2 := (60 * bb, 300 * bb)) km rfl dL_law_1828 yk_X11_restore im_X11_restore se_X11_restore ml_L_218 rfl (co_338 (by repeat (first | with_reducible exact hw | with_reducible exact hwc | with_reducible assumption | with_reducible apply Wf.sI | with_reducible apply Wf.sL | with_reducible apply Wf.cpI | with_reducible apply Wf.cpL | with_reducible apply Wf.cp2 | with_reducible apply Wf.sIs | with_reducible apply Wf.sLs | with_reducible apply Wf.cpU | with_reducible apply Wf.fillI | with_reducible apply Wf.clU | with_reducible apply Wf.dnF | with_reducible apply Wf.gbW))) (by decide) hc_X11 (by decide) ⟨by show 0 + 60 * bb ≤ 60 * bb; omega, by show 0 + 300 * bb ≤ 300 * bb; omega⟩ (Nat.le_of_ble_eq_true rfl)) ?_
      refine lf (a_istore dL_law_1831 (by decide)) ?_
      refine lf (a_aload_n dL_law_1833 rfl) ?_
      refine lf (a_inv (b2 := (60 * bb, 300 * bb)) (m_thrown (by repeat (first | with_reducible exact hw | with_reducible exact hwc | with_reducible assumption | with_reducible apply Wf.sI | with_reducible apply Wf.sL | with_reducible apply Wf.cpI | with_reducible apply Wf.cpL | with_reducible apply Wf.cp2 | with_reducible apply Wf.sIs | with_reducible apply Wf.sLs | with_reducible apply Wf.cpU | with_reducible apply Wf.fillI | with_reducible apply Wf.clU | with_reducible apply Wf.dnF | with_reducible apply Wf.gbW))) rfl dL_law_1834 yk_X11_thrown im_X11_thrown se_X11_thrown ml_L_114 rfl (co_338 (by repeat (first | with_reducible exact hw | with_reducible exact hwc | with_reducible assumption | with_reducible apply Wf.sI | with_reducible apply Wf.sL | with_reducible apply Wf.cpI | with_reducible apply Wf.cpL | with_reducible apply Wf.cp2 | with_reducible apply Wf.sIs | with_reducible apply Wf.sLs | with_reducible apply Wf.cpU | with_reducible apply Wf.fillI | with_reducible apply Wf.clU | with_reducible apply Wf.dnF | with_reducible apply Wf.gbW))) (by decide) hc_X11 (by decide) ⟨by show 0 + 60 * bb ≤ 60 * bb; omega, by show 0 + 300 * bb ≤ 300 * bb; omega⟩ (Nat.le_of_ble_eq_true rfl)) ?_
      refine lf (a_iload dL_law_1837 rfl) ?_
      refine lf2 (a_icmp_eq (tgt := 1844) dL_law_1839 (by decide)) (fun h1839 => ?_) (fun h1839 => absurd h1839 (fun z => z k0))
      refine lf (a_iload dL_law_1844 rfl) ?_
      refine lfn (a_if_ne (tgt := 1861) dL_law_1846 (by decide)) (fun h1846 => ?_) (fun h1846 => absurd h1846 (by decide))
      refine lf (a_goto (tgt := 1976) dL_law_1861 (by decide)) ?_
      exact lf (a_loc (LAw i) rfl) (kx V hr hX2)
theorem s_writeTrolley {μ : Wd} {N i bb : Nat} {X : Nat × (Nat → Int32)} (h : RelV N μ) (hX : gX μ = X) (hi : i + 6 ≤ X.1) (hL : X.1 ≤ 3072) (kx : ∀ V, RelV (N + 1) V → gX V = X → WP Y_L_law RLaw (60 * bb, 300 * bb) V 1976 (LAw i) [] QLw) : WP Y_L_law RLaw (60 * (bb + 1), 300 * (bb + 1)) μ 1864 (LAw i) [] QLw := by
  have hw := h.wf
  rcases o_writeTrolley h (X.2 (i + 1)) with ⟨v, W, tv, hW, hc, hg, hk⟩ | ⟨x, k, W, hxk, hW, hc, hg, hk⟩
  · obtain ⟨v, rfl⟩ := tv
    obtain ⟨V, km, k0, hr, hv, hx⟩ := hk (sL W 363 0 (v.toInt64)) ((Out.rfl' hW).sL (S := s363) (i := 363) rfl _ _)
    have hX1 : gX (sL W 363 0 (v.toInt64)) = X := hg.trans hX
    have hX2 : gX V = X := hx.trans hX1
    have hV := hr.wf
    have hv1 : gL V 363 0 = v.toInt64 := hv.trans ((gL_sL _ _ _ _ _ _).trans (if_pos ⟨rfl, rfl⟩))
    refine lf (a_aload_n dL_law_1864 rfl) ?_
    refine lf (a_aload_n dL_law_1865 rfl) ?_
    refine lf (a_iload dL_law_1866 rfl) ?_
    refine lf (a_iconst (1 : Int32) dL_law_1868 (by decide)) ?_
    refine lf (a_iadd dL_law_1869) ?_
    refine lf (a_sld dL_law_1870 hX (ix_s (k := 1) rfl (show i + 1 < X.1 by omega) (by omega))) ?_
    refine lf (a_aload_n dL_law_1871 rfl) ?_
    refine lf (a_invSH (b2 := (60 * bb, 300 * bb)) (wv_writeTrolley (by repeat (first | with_reducible exact hw | with_reducible exact hwc | with_reducible assumption | with_reducible apply Wf.sI | with_reducible apply Wf.sL | with_reducible apply Wf.cpI | with_reducible apply Wf.cpL | with_reducible apply Wf.cp2 | with_reducible apply Wf.sIs | with_reducible apply Wf.sLs | with_reducible apply Wf.cpU | with_reducible apply Wf.fillI | with_reducible apply Wf.clU | with_reducible apply Wf.dnF | with_reducible apply Wf.gbW)) (X.2 (i + 1)) hW hc) rfl dL_law_1872 yh_L_writeTrolley sm_L_writeTrolley ml_L_219 rfl (by decide) ⟨by show 1 + 60 * bb ≤ 60 * (bb + 1); omega, by show 6 + 300 * bb ≤ 300 * (bb + 1); omega⟩ (Nat.le_of_ble_eq_true rfl)) ?_
    refine lf (a_istore dL_law_1875 (by decide)) ?_
    refine lf (a_aload_n dL_law_1877 rfl) ?_
    refine lf (a_aload_n dL_law_1878 rfl) ?_
    refine lf (a_iload dL_law_1879 rfl) ?_
    refine lf (a_iconst (1 : Int32) dL_law_1881 (by decide)) ?_
    refine lf (a_iadd dL_law_1882) ?_
    refine lf (a_sld dL_law_1883 hX1 (ix_s (k := 1) rfl (show i + 1 < X.1 by omega) (by omega))) ?_
    refine lf (a_inv (b2 := (60 * bb, 300 * bb)) km rfl dL_law_1884 yk_X11_writeTrolley im_X11_writeTrolley se_X11_writeTrolley ml_L_221 rfl (co_338 (by repeat (first | with_reducible exact hw | with_reducible exact hwc | with_reducible assumption | with_reducible apply Wf.sI | with_reducible apply Wf.sL | with_reducible apply Wf.cpI | with_reducible apply Wf.cpL | with_reducible apply Wf.cp2 | with_reducible apply Wf.sIs | with_reducible apply Wf.sLs | with_reducible apply Wf.cpU | with_reducible apply Wf.fillI | with_reducible apply Wf.clU | with_reducible apply Wf.dnF | with_reducible apply Wf.gbW))) (by decide) hc_X11 (by decide) ⟨by show 0 + 60 * bb ≤ 60 * bb; omega, by show 0 + 300 * bb ≤ 300 * bb; omega⟩ (Nat.le_of_ble_eq_true rfl)) ?_
    refine lf (a_istore dL_law_1887 (by decide)) ?_
    refine lf (a_aload_n dL_law_1889 rfl) ?_
    refine lf (a_inv (b2 := (60 * bb, 300 * bb)) (m_thrown (by repeat (first | with_reducible exact hw | with_reducible exact hwc | with_reducible assumption | with_reducible apply Wf.sI | with_reducible apply Wf.sL | with_reducible apply Wf.cpI | with_reducible apply Wf.cpL | with_reducible apply Wf.cp2 | with_reducible apply Wf.sIs | with_reducible apply Wf.sLs | with_reducible apply Wf.cpU | with_reducible apply Wf.fillI | with_reducible apply Wf.clU | with_reducible apply Wf.dnF | with_reducible apply Wf.gbW))) rfl dL_law_1890 yk_X11_thrown im_X11_thrown se_X11_thrown ml_L_114 rfl (co_338 (by repeat (first | with_reducible exact hw | with_reducible exact hwc | with_reducible assumption | with_reducible apply Wf.sI | with_reducible apply Wf.sL | with_reducible apply Wf.cpI | with_reducible apply Wf.cpL | with_reducible apply Wf.cp2 | with_reducible apply Wf.sIs | with_reducible apply Wf.sLs | with_reducible apply Wf.cpU | with_reducible apply Wf.fillI | with_reducible apply Wf.clU | with_reducible apply Wf.dnF | with_reducible apply Wf.gbW))) (by decide) hc_X11 (by decide) ⟨by show 0 + 60 * bb ≤ 60 * bb; omega, by show 0 + 300 * bb ≤ 300 * bb; omega⟩ (Nat.le_of_ble_eq_true rfl)) ?_
    refine lf (a_iload dL_law_1893 rfl) ?_
    refine lf2 (a_icmp_eq (tgt := 1900) dL_law_1895 (by decide)) (fun h1895 => ?_) (fun h1895 => absurd h1895 (fun z => z k0))
    refine lf (a_iload dL_law_1900 rfl) ?_
    refine lfn (a_if_ne (tgt := 1917) dL_law_1902 (by decide)) (fun h1902 => absurd h1902 (by decide)) (fun h1902 => ?_)
    refine lf (a_aload_n dL_law_1905 rfl) ?_
    refine lf (a_iconst (0 : Int32) dL_law_1906 (by decide)) ?_
    refine lf (a_lld dL_law_1907 (ca_363 (by repeat (first | with_reducible exact hw | with_reducible exact hwc | with_reducible assumption | with_reducible apply Wf.sI | with_reducible apply Wf.sL | with_reducible apply Wf.cpI | with_reducible apply Wf.cpL | with_reducible apply Wf.cp2 | with_reducible apply Wf.sIs | with_reducible apply Wf.sLs | with_reducible apply Wf.cpU | with_reducible apply Wf.fillI | with_reducible apply Wf.clU | with_reducible apply Wf.dnF | with_reducible apply Wf.gbW))) (ixn (m := 0) (by decide) (by decide))) ?_
    rw [hv1]
    refine lf (a_iload dL_law_1908 rfl) ?_
    refine lf (a_i2l dL_law_1910) ?_
    refine lf (a_lcmp dL_law_1911) ?_
    refine lf2 (a_if_eq (tgt := 1917) dL_law_1912 (by decide)) (fun h1912 => ?_) (fun h1912 => absurd h1912 (fun z => z (lcmp_self _)))
    refine lf (a_goto (tgt := 1976) dL_law_1917 (by decide)) ?_
    exact lf (a_loc (LAw i) rfl) (kx V hr hX2)
  · simp only [List.mem_cons, List.not_mem_nil, or_false, Prod.mk.injEq] at hxk
    obtain ⟨rfl, rfl⟩ := hxk
    obtain ⟨z, V, tz, km, k0, hr, hv, hx⟩ := hk W (Out.rfl' hW)
    obtain ⟨z, rfl⟩ := tz
    have hX1 : gX W = X := hg.trans hX
    have hX2 : gX V = X := hx.trans hX1
    have hV := hr.wf
    refine lf (a_aload_n dL_law_1864 rfl) ?_
    refine lf (a_aload_n dL_law_1865 rfl) ?_
    refine lf (a_iload dL_law_1866 rfl) ?_
    refine lf (a_iconst (1 : Int32) dL_law_1868 (by decide)) ?_
    refine lf (a_iadd dL_law_1869) ?_
    refine lf (a_sld dL_law_1870 hX (ix_s (k := 1) rfl (show i + 1 < X.1 by omega) (by omega))) ?_
    refine lf (a_aload_n dL_law_1871 rfl) ?_
    refine lf (a_invSH (b2 := (60 * bb, 300 * bb)) (wx_writeTrolley_1 (by repeat (first | with_reducible exact hw | with_reducible exact hwc | with_reducible assumption | with_reducible apply Wf.sI | with_reducible apply Wf.sL | with_reducible apply Wf.cpI | with_reducible apply Wf.cpL | with_reducible apply Wf.cp2 | with_reducible apply Wf.sIs | with_reducible apply Wf.sLs | with_reducible apply Wf.cpU | with_reducible apply Wf.fillI | with_reducible apply Wf.clU | with_reducible apply Wf.dnF | with_reducible apply Wf.gbW)) (X.2 (i + 1)) hc) rfl dL_law_1872 yh_L_writeTrolley sm_L_writeTrolley ml_L_219 rfl (by decide) ⟨by show 1 + 60 * bb ≤ 60 * (bb + 1); omega, by show 6 + 300 * bb ≤ 300 * (bb + 1); omega⟩ (Nat.le_of_ble_eq_true rfl)) ?_
    refine lf (a_istore dL_law_1875 (by decide)) ?_
    refine lf (a_aload_n dL_law_1877 rfl) ?_
    refine lf (a_aload_n dL_law_1878 rfl) ?_
    refine lf (a_iload dL_law_1879 rfl) ?_
    refine lf (a_iconst (1 : Int32) dL_law_1881 (by decide)) ?_
    refine lf (a_iadd dL_law_1882) ?_
    refine lf (a_sld dL_law_1883 hX1 (ix_s (k := 1) rfl (show i + 1 < X.1 by omega) (by omega))) ?_
    refine lf (a_inv (b2 := (60 * bb, 300 * bb)) km rfl dL_law_1884 yk_X11_writeTrolley im_X11_writeTrolley se_X11_writeTrolley ml_L_221 rfl (co_338 (by repeat (first | with_reducible exact hw | with_reducible exact hwc | with_reducible assumption | with_reducible apply Wf.sI | with_reducible apply Wf.sL | with_reducible apply Wf.cpI | with_reducible apply Wf.cpL | with_reducible apply Wf.cp2 | with_reducible apply Wf.sIs | with_reducible apply Wf.sLs | with_reducible apply Wf.cpU | with_reducible apply Wf.fillI | with_reducible apply Wf.clU | with_reducible apply Wf.dnF | with_reducible apply Wf.gbW))) (by decide) hc_X11 (by decide) ⟨by show 0 + 60 * bb ≤ 60 * bb; omega, by show 0 + 300 * bb ≤ 300 * bb; omega⟩ (Nat.le_of_ble_eq_true rfl)) ?_
    refine lf (a_istore dL_law_1887 (by decide)) ?_
    refine lf (a_aload_n dL_law_1889 rfl) ?_
    refine lf (a_inv (b2 := (60 * bb, 300 * bb)) (m_thrown (by repeat (first | with_reducible exact hw | with_reducible exact hwc | with_reducible assumption | with_reducible apply Wf.sI | with_reducible apply Wf.sL | with_reducible apply Wf.cpI | with_reducible apply Wf.cpL | with_reducible apply Wf.cp2 | with_reducible apply Wf.sIs | with_reducible apply Wf.sLs | with_reducible apply Wf.cpU | with_reducible apply Wf.fillI | with_reducible apply Wf.clU | with_reducible apply Wf.dnF | with_reducible apply Wf.gbW))) rfl dL_law_1890 yk_X11_thrown im_X11_thrown se_X11_thrown ml_L_114 rfl (co_338 (by repeat (first | with_reducible exact hw | with_reducible exact hwc | with_reducible assumption | with_reducible apply Wf.sI | with_reducible apply Wf.sL | with_reducible apply Wf.cpI | with_reducible apply Wf.cpL | with_reducible apply Wf.cp2 | with_reducible apply Wf.sIs | with_reducible apply Wf.sLs | with_reducible apply Wf.cpU | with_reducible apply Wf.fillI | with_reducible apply Wf.clU | with_reducible apply Wf.dnF | with_reducible apply Wf.gbW))) (by decide) hc_X11 (by decide) ⟨by show 0 + 60 * bb ≤ 60 * bb; omega, by show 0 + 300 * bb ≤ 300 * bb; omega⟩ (Nat.le_of_ble_eq_true rfl)) ?_
    refine lf (a_iload dL_law_1893 rfl) ?_
    refine lf2 (a_icmp_eq (tgt := 1900) dL_law_1895 (by decide)) (fun h1895 => ?_) (fun h1895 => absurd h1895 (fun z => z k0))
    refine lf (a_iload dL_law_1900 rfl) ?_
    refine lfn (a_if_ne (tgt := 1917) dL_law_1902 (by decide)) (fun h1902 => ?_) (fun h1902 => absurd h1902 (by decide))
    refine lf (a_goto (tgt := 1976) dL_law_1917 (by decide)) ?_
    exact lf (a_loc (LAw i) rfl) (kx V hr hX2)
theorem s_outputByte {μ : Wd} {N i bb : Nat} {X : Nat × (Nat → Int32)} (h : RelV N μ) (hX : gX μ = X) (hi : i + 6 ≤ X.1) (hL : X.1 ≤ 3072) (kx : ∀ V, RelV (N + 1) V → gX V = X → WP Y_L_law RLaw (60 * bb, 300 * bb) V 1976 (LAw i) [] QLw) : WP Y_L_law RLaw (60 * (bb + 1), 300 * (bb + 1)) μ 1920 (LAw i) [] QLw := by
  have hw := h.wf
  rcases o_outputByte h (X.2 (i + 1)) with ⟨v, W, tv, hW, hc, hg, hk⟩ | ⟨x, k, W, hxk, hW, hc, hg, hk⟩
  · obtain ⟨v, rfl⟩ := tv
    obtain ⟨V, km, k0, hr, hv, hx⟩ := hk (sL W 363 0 (v.toInt64)) ((Out.rfl' hW).sL (S := s363) (i := 363) rfl _ _)
    have hX1 : gX (sL W 363 0 (v.toInt64)) = X := hg.trans hX
    have hX2 : gX V = X := hx.trans hX1
    have hV := hr.wf
    have hv1 : gL V 363 0 = v.toInt64 := hv.trans ((gL_sL _ _ _ _ _ _).trans (if_pos ⟨rfl, rfl⟩))
    refine lf (a_aload_n dL_law_1920 rfl) ?_
    refine lf (a_aload_n dL_law_1921 rfl) ?_
    refine lf (a_iload dL_law_1922 rfl) ?_
    refine lf (a_iconst (1 : Int32) dL_law_1924 (by decide)) ?_
    refine lf (a_iadd dL_law_1925) ?_
    refine lf (a_sld dL_law_1926 hX (ix_s (k := 1) rfl (show i + 1 < X.1 by omega) (by omega))) ?_
    refine lf (a_aload_n dL_law_1927 rfl) ?_
    refine lf (a_invSH (b2 := (60 * bb, 300 * bb)) (wv_outputByte (by repeat (first | with_reducible exact hw | with_reducible exact hwc | with_reducible assumption | with_reducible apply Wf.sI | with_reducible apply Wf.sL | with_reducible apply Wf.cpI | with_reducible apply Wf.cpL | with_reducible apply Wf.cp2 | with_reducible apply Wf.sIs | with_reducible apply Wf.sLs | with_reducible apply Wf.cpU | with_reducible apply Wf.fillI | with_reducible apply Wf.clU | with_reducible apply Wf.dnF | with_reducible apply Wf.gbW)) (X.2 (i + 1)) hW hc) rfl dL_law_1928 yh_L_outputByte sm_L_outputByte ml_L_222 rfl (by decide) ⟨by show 1 + 60 * bb ≤ 60 * (bb + 1); omega, by show 6 + 300 * bb ≤ 300 * (bb + 1); omega⟩ (Nat.le_of_ble_eq_true rfl)) ?_
    refine lf (a_istore dL_law_1931 (by decide)) ?_
    refine lf (a_aload_n dL_law_1933 rfl) ?_
    refine lf (a_aload_n dL_law_1934 rfl) ?_
    refine lf (a_iload dL_law_1935 rfl) ?_
    refine lf (a_iconst (1 : Int32) dL_law_1937 (by decide)) ?_
    refine lf (a_iadd dL_law_1938) ?_
    refine lf (a_sld dL_law_1939 hX1 (ix_s (k := 1) rfl (show i + 1 < X.1 by omega) (by omega))) ?_
    refine lf (a_inv (b2 := (60 * bb, 300 * bb)) km rfl dL_law_1940 yk_X11_outputByte im_X11_outputByte se_X11_outputByte ml_L_224 rfl (co_338 (by repeat (first | with_reducible exact hw | with_reducible exact hwc | with_reducible assumption | with_reducible apply Wf.sI | with_reducible apply Wf.sL | with_reducible apply Wf.cpI | with_reducible apply Wf.cpL | with_reducible apply Wf.cp2 | with_reducible apply Wf.sIs | with_reducible apply Wf.sLs | with_reducible apply Wf.cpU | with_reducible apply Wf.fillI | with_reducible apply Wf.clU | with_reducible apply Wf.dnF | with_reducible apply Wf.gbW))) (by decide) hc_X11 (by decide) ⟨by show 0 + 60 * bb ≤ 60 * bb; omega, by show 0 + 300 * bb ≤ 300 * bb; omega⟩ (Nat.le_of_ble_eq_true rfl)) ?_
    refine lf (a_istore dL_law_1943 (by decide)) ?_
    refine lf (a_aload_n dL_law_1945 rfl) ?_
    refine lf (a_inv (b2 := (60 * bb, 300 * bb)) (m_thrown (by repeat (first | with_reducible exact hw | with_reducible exact hwc | with_reducible assumption | with_reducible apply Wf.sI | with_reducible apply Wf.sL | with_reducible apply Wf.cpI | with_reducible apply Wf.cpL | with_reducible apply Wf.cp2 | with_reducible apply Wf.sIs | with_reducible apply Wf.sLs | with_reducible apply Wf.cpU | with_reducible apply Wf.fillI | with_reducible apply Wf.clU | with_reducible apply Wf.dnF | with_reducible apply Wf.gbW))) rfl dL_law_1946 yk_X11_thrown im_X11_thrown se_X11_thrown ml_L_114 rfl (co_338 (by repeat (first | with_reducible exact hw | with_reducible exact hwc | with_reducible assumption | with_reducible apply Wf.sI | with_reducible apply Wf.sL | with_reducible apply Wf.cpI | with_reducible apply Wf.cpL | with_reducible apply Wf.cp2 | with_reducible apply Wf.sIs | with_reducible apply Wf.sLs | with_reducible apply Wf.cpU | with_reducible apply Wf.fillI | with_reducible apply Wf.clU | with_reducible apply Wf.dnF | with_reducible apply Wf.gbW))) (by decide) hc_X11 (by decide) ⟨by show 0 + 60 * bb ≤ 60 * bb; omega, by show 0 + 300 * bb ≤ 300 * bb; omega⟩ (Nat.le_of_ble_eq_true rfl)) ?_
    refine lf (a_iload dL_law_1949 rfl) ?_
    refine lf2 (a_icmp_eq (tgt := 1956) dL_law_1951 (by decide)) (fun h1951 => ?_) (fun h1951 => absurd h1951 (fun z => z k0))
    refine lf (a_iload dL_law_1956 rfl) ?_
    refine lfn (a_if_ne (tgt := 1973) dL_law_1958 (by decide)) (fun h1958 => absurd h1958 (by decide)) (fun h1958 => ?_)
    refine lf (a_aload_n dL_law_1961 rfl) ?_
    refine lf (a_iconst (0 : Int32) dL_law_1962 (by decide)) ?_
    refine lf (a_lld dL_law_1963 (ca_363 (by repeat (first | with_reducible exact hw | with_reducible exact hwc | with_reducible assumption | with_reducible apply Wf.sI | with_reducible apply Wf.sL | with_reducible apply Wf.cpI | with_reducible apply Wf.cpL | with_reducible apply Wf.cp2 | with_reducible apply Wf.sIs | with_reducible apply Wf.sLs | with_reducible apply Wf.cpU | with_reducible apply Wf.fillI | with_reducible apply Wf.clU | with_reducible apply Wf.dnF | with_reducible apply Wf.gbW))) (ixn (m := 0) (by decide) (by decide))) ?_
    rw [hv1]
    refine lf (a_iload dL_law_1964 rfl) ?_
    refine lf (a_i2l dL_law_1966) ?_
    refine lf (a_lcmp dL_law_1967) ?_
    refine lf2 (a_if_eq (tgt := 1973) dL_law_1968 (by decide)) (fun h1968 => ?_) (fun h1968 => absurd h1968 (fun z => z (lcmp_self _)))
    refine lf (a_goto (tgt := 1976) dL_law_1973 (by decide)) ?_
    exact lf (a_loc (LAw i) rfl) (kx V hr hX2)
  · simp only [List.mem_cons, List.not_mem_nil, or_false, Prod.mk.injEq] at hxk
    obtain ⟨rfl, rfl⟩ := hxk
    obtain ⟨z, V, tz, km, k0, hr, hv, hx⟩ := hk W (Out.rfl' hW)
    obtain ⟨z, rfl⟩ := tz
    have hX1 : gX W = X := hg.trans hX
    have hX2 : gX V = X := hx.trans hX1
    have hV := hr.wf
    refine lf (a_aload_n dL_law_1920 rfl) ?_
    refine lf (a_aload_n dL_law_1921 rfl) ?_
    refine lf (a_iload dL_law_1922 rfl) ?_
    refine lf (a_iconst (1 : Int32) dL_law_1924 (by decide)) ?_
    refine lf (a_iadd dL_law_1925) ?_
    refine lf (a_sld dL_law_1926 hX (ix_s (k := 1) rfl (show i + 1 < X.1 by omega) (by omega))) ?_
    refine lf (a_aload_n dL_law_1927 rfl) ?_
    refine lf (a_invSH (b2 := (60 * bb, 300 * bb)) (wx_outputByte_1 (by repeat (first | with_reducible exact hw | with_reducible exact hwc | with_reducible assumption | with_reducible apply Wf.sI | with_reducible apply Wf.sL | with_reducible apply Wf.cpI | with_reducible apply Wf.cpL | with_reducible apply Wf.cp2 | with_reducible apply Wf.sIs | with_reducible apply Wf.sLs | with_reducible apply Wf.cpU | with_reducible apply Wf.fillI | with_reducible apply Wf.clU | with_reducible apply Wf.dnF | with_reducible apply Wf.gbW)) (X.2 (i + 1)) hc) rfl dL_law_1928 yh_L_outputByte sm_L_outputByte ml_L_222 rfl (by decide) ⟨by show 1 + 60 * bb ≤ 60 * (bb + 1); omega, by show 6 + 300 * bb ≤ 300 * (bb + 1); omega⟩ (Nat.le_of_ble_eq_true rfl)) ?_
    refine lf (a_istore dL_law_1931 (by decide)) ?_
    refine lf (a_aload_n dL_law_1933 rfl) ?_
    refine lf (a_aload_n dL_law_1934 rfl) ?_
    refine lf (a_iload dL_law_1935 rfl) ?_
    refine lf (a_iconst (1 : Int32) dL_law_1937 (by decide)) ?_
    refine lf (a_iadd dL_law_1938) ?_
    refine lf (a_sld dL_law_1939 hX1 (ix_s (k := 1) rfl (show i + 1 < X.1 by omega) (by omega))) ?_
    refine lf (a_inv (b2 := (60 * bb, 300 * bb)) km rfl dL_law_1940 yk_X11_outputByte im_X11_outputByte se_X11_outputByte ml_L_224 rfl (co_338 (by repeat (first | with_reducible exact hw | with_reducible exact hwc | with_reducible assumption | with_reducible apply Wf.sI | with_reducible apply Wf.sL | with_reducible apply Wf.cpI | with_reducible apply Wf.cpL | with_reducible apply Wf.cp2 | with_reducible apply Wf.sIs | with_reducible apply Wf.sLs | with_reducible apply Wf.cpU | with_reducible apply Wf.fillI | with_reducible apply Wf.clU | with_reducible apply Wf.dnF | with_reducible apply Wf.gbW))) (by decide) hc_X11 (by decide) ⟨by show 0 + 60 * bb ≤ 60 * bb; omega, by show 0 + 300 * bb ≤ 300 * bb; omega⟩ (Nat.le_of_ble_eq_true rfl)) ?_
    refine lf (a_istore dL_law_1943 (by decide)) ?_
    refine lf (a_aload_n dL_law_1945 rfl) ?_
    refine lf (a_inv (b2 := (60 * bb, 300 * bb)) (m_thrown (by repeat (first | with_reducible exact hw | with_reducible exact hwc | with_reducible assumption | with_reducible apply Wf.sI | with_reducible apply Wf.sL | with_reducible apply Wf.cpI | with_reducible apply Wf.cpL | with_reducible apply Wf.cp2 | with_reducible apply Wf.sIs | with_reducible apply Wf.sLs | with_reducible apply Wf.cpU | with_reducible apply Wf.fillI | with_reducible apply Wf.clU | with_reducible apply Wf.dnF | with_reducible apply Wf.gbW))) rfl dL_law_1946 yk_X11_thrown im_X11_thrown se_X11_thrown ml_L_114 rfl (co_338 (by repeat (first | with_reducible exact hw | with_reducible exact hwc | with_reducible assumption | with_reducible apply Wf.sI | with_reducible apply Wf.sL | with_reducible apply Wf.cpI | with_reducible apply Wf.cpL | with_reducible apply Wf.cp2 | with_reducible apply Wf.sIs | with_reducible apply Wf.sLs | with_reducible apply Wf.cpU | with_reducible apply Wf.fillI | with_reducible apply Wf.clU | with_reducible apply Wf.dnF | with_reducible apply Wf.gbW))) (by decide) hc_X11 (by decide) ⟨by show 0 + 60 * bb ≤ 60 * bb; omega, by show 0 + 300 * bb ≤ 300 * bb; omega⟩ (Nat.le_of_ble_eq_true rfl)) ?_
    refine lf (a_iload dL_law_1949 rfl) ?_
    refine lf2 (a_icmp_eq (tgt := 1956) dL_law_1951 (by decide)) (fun h1951 => ?_) (fun h1951 => absurd h1951 (fun z => z k0))
    refine lf (a_iload dL_law_1956 rfl) ?_
    refine lfn (a_if_ne (tgt := 1973) dL_law_1958 (by decide)) (fun h1958 => ?_) (fun h1958 => absurd h1958 (by decide))
    refine lf (a_goto (tgt := 1976) dL_law_1973 (by decide)) ?_
    exact lf (a_loc (LAw i) rfl) (kx V hr hX2)
end STEPS
