section STEPS
theorem s_change {μ : Wd} {N i bb : Nat} {X : Nat × (Nat → Int32)} (h : RelV N μ) (hX : gX μ = X) (hi : i + 6 ≤ X.1) (hL : X.1 ≤ 3072) (kx : ∀ V, RelV (N + 1) V → gX V = X → WP Y_L_law RLaw (60 * bb, 300 * bb) V 1976 (LAw i) [] QLw) : WP Y_L_law RLaw (60 * (bb + 1), 300 * (bb + 1)) μ 918 (LAw i) [] QLw := by
  have hw := h.wf
  rcases o_change h (X.2 (i + 1)) (X.2 (i + 2)) with ⟨v, W, tv, hW, hc, hg, hk⟩ | ⟨x, k, W, hxk, hW, hc, hg, hk⟩
  · obtain ⟨v, rfl⟩ := tv
    obtain ⟨V, km, k0, hr, hv, hx⟩ := hk (sL W 363 0 (v.toInt64)) ((Out.rfl' hW).sL (S := s363) (i := 363) rfl _ _)
    have hX1 : gX (sL W 363 0 (v.toInt64)) = X := hg.trans hX
    have hX2 : gX V = X := hx.trans hX1
    have hV := hr.wf
    have hv1 : gL V 363 0 = v.toInt64 := hv.trans ((gL_sL _ _ _ _ _ _).trans (if_pos ⟨rfl, rfl⟩))
    refine lf (a_aload_n dL_law_918 rfl) ?_
    refine lf (a_aload_n dL_law_919 rfl) ?_
    refine lf (a_iload dL_law_920 rfl) ?_
    refine lf (a_iconst (1 : Int32) dL_law_922 (by decide)) ?_
    refine lf (a_iadd dL_law_923) ?_
    refine lf (a_sld dL_law_924 hX (ix_s (k := 1) rfl (show i + 1 < X.1 by omega) (by omega))) ?_
    refine lf (a_aload_n dL_law_925 rfl) ?_
    refine lf (a_iload dL_law_926 rfl) ?_
    refine lf (a_iconst (2 : Int32) dL_law_928 (by decide)) ?_
    refine lf (a_iadd dL_law_929) ?_
    refine lf (a_sld dL_law_930 hX (ix_s (k := 2) rfl (show i + 2 < X.1 by omega) (by omega))) ?_
    refine lf (a_aload_n dL_law_931 rfl) ?_
    refine lf (a_invSH (b2 := (60 * bb, 300 * bb)) (wv_change (by repeat (first | with_reducible exact hw | with_reducible exact hwc | with_reducible assumption | with_reducible apply Wf.sI | with_reducible apply Wf.sL | with_reducible apply Wf.cpI | with_reducible apply Wf.cpL | with_reducible apply Wf.cp2 | with_reducible apply Wf.sIs | with_reducible apply Wf.sLs | with_reducible apply Wf.cpU | with_reducible apply Wf.fillI | with_reducible apply Wf.clU | with_reducible apply Wf.dnF | with_reducible apply Wf.gbW)) (X.2 (i + 1)) (X.2 (i + 2)) hW hc) rfl dL_law_932 yh_L_change sm_L_change ml_L_155 rfl (by decide) ⟨by show 1 + 60 * bb ≤ 60 * (bb + 1); omega, by show 6 + 300 * bb ≤ 300 * (bb + 1); omega⟩ (Nat.le_of_ble_eq_true rfl)) ?_
    refine lf (a_istore dL_law_935 (by decide)) ?_
    refine lf (a_aload_n dL_law_937 rfl) ?_
    refine lf (a_aload_n dL_law_938 rfl) ?_
    refine lf (a_iload dL_law_939 rfl) ?_
    refine lf (a_iconst (1 : Int32) dL_law_941 (by decide)) ?_
    refine lf (a_iadd dL_law_942) ?_
    refine lf (a_sld dL_law_943 hX1 (ix_s (k := 1) rfl (show i + 1 < X.1 by omega) (by omega))) ?_
    refine lf (a_aload_n dL_law_944 rfl) ?_
    refine lf (a_iload dL_law_945 rfl) ?_
    refine lf (a_iconst (2 : Int32) dL_law_947 (by decide)) ?_
    refine lf (a_iadd dL_law_948) ?_
    refine lf (a_sld dL_law_949 hX1 (ix_s (k := 2) rfl (show i + 2 < X.1 by omega) (by omega))) ?_
    refine lf (a_inv (b2 := (60 * bb, 300 * bb)) km rfl dL_law_950 yk_X11_change im_X11_change se_X11_change ml_L_157 rfl (co_338 (by repeat (first | with_reducible exact hw | with_reducible exact hwc | with_reducible assumption | with_reducible apply Wf.sI | with_reducible apply Wf.sL | with_reducible apply Wf.cpI | with_reducible apply Wf.cpL | with_reducible apply Wf.cp2 | with_reducible apply Wf.sIs | with_reducible apply Wf.sLs | with_reducible apply Wf.cpU | with_reducible apply Wf.fillI | with_reducible apply Wf.clU | with_reducible apply Wf.dnF | with_reducible apply Wf.gbW))) (by decide) hc_X11 (by decide) ⟨by show 0 + 60 * bb ≤ 60 * bb; omega, by show 0 + 300 * bb ≤ 300 * bb; omega⟩ (Nat.le_of_ble_eq_true rfl)) ?_
    refine lf (a_istore dL_law_953 (by decide)) ?_
    refine lf (a_aload_n dL_law_955 rfl) ?_
    refine lf (a_inv (b2 := (60 * bb, 300 * bb)) (m_thrown (by repeat (first | with_reducible exact hw | with_reducible exact hwc | with_reducible assumption | with_reducible apply Wf.sI | with_reducible apply Wf.sL | with_reducible apply Wf.cpI | with_reducible apply Wf.cpL | with_reducible apply Wf.cp2 | with_reducible apply Wf.sIs | with_reducible apply Wf.sLs | with_reducible apply Wf.cpU | with_reducible apply Wf.fillI | with_reducible apply Wf.clU | with_reducible apply Wf.dnF | with_reducible apply Wf.gbW))) rfl dL_law_956 yk_X11_thrown im_X11_thrown se_X11_thrown ml_L_114 rfl (co_338 (by repeat (first | with_reducible exact hw | with_reducible exact hwc | with_reducible assumption | with_reducible apply Wf.sI | with_reducible apply Wf.sL | with_reducible apply Wf.cpI | with_reducible apply Wf.cpL | with_reducible apply Wf.cp2 | with_reducible apply Wf.sIs | with_reducible apply Wf.sLs | with_reducible apply Wf.cpU | with_reducible apply Wf.fillI | with_reducible apply Wf.clU | with_reducible apply Wf.dnF | with_reducible apply Wf.gbW))) (by decide) hc_X11 (by decide) ⟨by show 0 + 60 * bb ≤ 60 * bb; omega, by show 0 + 300 * bb ≤ 300 * bb; omega⟩ (Nat.le_of_ble_eq_true rfl)) ?_
    refine lf (a_iload dL_law_959 rfl) ?_
    refine lf2 (a_icmp_eq (tgt := 966) dL_law_961 (by decide)) (fun h961 => ?_) (fun h961 => absurd h961 (fun z => z k0))
    refine lf (a_iload dL_law_966 rfl) ?_
    refine lfn (a_if_ne (tgt := 983) dL_law_968 (by decide)) (fun h968 => absurd h968 (by decide)) (fun h968 => ?_)
    refine lf (a_aload_n dL_law_971 rfl) ?_
    refine lf (a_iconst (0 : Int32) dL_law_972 (by decide)) ?_
    refine lf (a_lld dL_law_973 (ca_363 (by repeat (first | with_reducible exact hw | with_reducible exact hwc | with_reducible assumption | with_reducible apply Wf.sI | with_reducible apply Wf.sL | with_reducible apply Wf.cpI | with_reducible apply Wf.cpL | with_reducible apply Wf.cp2 | with_reducible apply Wf.sIs | with_reducible apply Wf.sLs | with_reducible apply Wf.cpU | with_reducible apply Wf.fillI | with_reducible apply Wf.clU | with_reducible apply Wf.dnF | with_reducible apply Wf.gbW))) (ixn (m := 0) (by decide) (by decide))) ?_
    rw [hv1]
    refine lf (a_iload dL_law_974 rfl) ?_
    refine lf (a_i2l dL_law_976) ?_
    refine lf (a_lcmp dL_law_977) ?_
    refine lf2 (a_if_eq (tgt := 983) dL_law_978 (by decide)) (fun h978 => ?_) (fun h978 => absurd h978 (fun z => z (lcmp_self _)))
    refine lf (a_goto (tgt := 1976) dL_law_983 (by decide)) ?_
    exact lf (a_loc (LAw i) rfl) (kx V hr hX2)
  · simp only [List.mem_cons, List.not_mem_nil, or_false, Prod.mk.injEq] at hxk
    rcases hxk with ⟨rfl, rfl⟩ | ⟨rfl, rfl⟩ | ⟨rfl, rfl⟩
    · obtain ⟨z, V, tz, km, k0, hr, hv, hx⟩ := hk W (Out.rfl' hW)
      obtain ⟨z, rfl⟩ := tz
      have hX1 : gX W = X := hg.trans hX
      have hX2 : gX V = X := hx.trans hX1
      have hV := hr.wf
      refine lf (a_aload_n dL_law_918 rfl) ?_
      refine lf (a_aload_n dL_law_919 rfl) ?_
      refine lf (a_iload dL_law_920 rfl) ?_
      refine lf (a_iconst (1 : Int32) dL_law_922 (by decide)) ?_
      refine lf (a_iadd dL_law_923) ?_
      refine lf (a_sld dL_law_924 hX (ix_s (k := 1) rfl (show i + 1 < X.1 by omega) (by omega))) ?_
      refine lf (a_aload_n dL_law_925 rfl) ?_
      refine lf (a_iload dL_law_926 rfl) ?_
      refine lf (a_iconst (2 : Int32) dL_law_928 (by decide)) ?_
      refine lf (a_iadd dL_law_929) ?_
      refine lf (a_sld dL_law_930 hX (ix_s (k := 2) rfl (show i + 2 < X.1 by omega) (by omega))) ?_
      refine lf (a_aload_n dL_law_931 rfl) ?_
      refine lf (a_invSH (b2 := (60 * bb, 300 * bb)) (wx_change_1 (by repeat (first | with_reducible exact hw | with_reducible exact hwc | with_reducible assumption | with_reducible apply Wf.sI | with_reducible apply Wf.sL | with_reducible apply Wf.cpI | with_reducible apply Wf.cpL | with_reducible apply Wf.cp2 | with_reducible apply Wf.sIs | with_reducible apply Wf.sLs | with_reducible apply Wf.cpU | with_reducible apply Wf.fillI | with_reducible apply Wf.clU | with_reducible apply Wf.dnF | with_reducible apply Wf.gbW)) (X.2 (i + 1)) (X.2 (i + 2)) hc) rfl dL_law_932 yh_L_change sm_L_change ml_L_155 rfl (by decide) ⟨by show 1 + 60 * bb ≤ 60 * (bb + 1); omega, by show 6 + 300 * bb ≤ 300 * (bb + 1); omega⟩ (Nat.le_of_ble_eq_true rfl)) ?_
      refine lf (a_istore dL_law_935 (by decide)) ?_
      refine lf (a_aload_n dL_law_937 rfl) ?_
      refine lf (a_aload_n dL_law_938 rfl) ?_
      refine lf (a_iload dL_law_939 rfl) ?_
      refine lf (a_iconst (1 : Int32) dL_law_941 (by decide)) ?_
      refine lf (a_iadd dL_law_942) ?_
      refine lf (a_sld dL_law_943 hX1 (ix_s (k := 1) rfl (show i + 1 < X.1 by omega) (by omega))) ?_
      refine lf (a_aload_n dL_law_944 rfl) ?_
      refine lf (a_iload dL_law_945 rfl) ?_
      refine lf (a_iconst (2 : Int32) dL_law_947 (by decide)) ?_
      refine lf (a_iadd dL_law_948) ?_
      refine lf (a_sld dL_law_949 hX1 (ix_s (k := 2) rfl (show i + 2 < X.1 by omega) (by omega))) ?_
      refine lf (a_inv (b2 := (60 * bb, 300 * bb)) km rfl dL_law_950 yk_X11_change im_X11_change se_X11_change ml_L_157 rfl (co_338 (by repeat (first | with_reducible exact hw | with_reducible exact hwc | with_reducible assumption | with_reducible apply Wf.sI | with_reducible apply Wf.sL | with_reducible apply Wf.cpI | with_reducible apply Wf.cpL | with_reducible apply Wf.cp2 | with_reducible apply Wf.sIs | with_reducible apply Wf.sLs | with_reducible apply Wf.cpU | with_reducible apply Wf.fillI | with_reducible apply Wf.clU | with_reducible apply Wf.dnF | with_reducible apply Wf.gbW))) (by decide) hc_X11 (by decide) ⟨by show 0 + 60 * bb ≤ 60 * bb; omega, by show 0 + 300 * bb ≤ 300 * bb; omega⟩ (Nat.le_of_ble_eq_true rfl)) ?_
      refine lf (a_istore dL_law_953 (by decide)) ?_
      refine lf (a_aload_n dL_law_955 rfl) ?_
      refine lf (a_inv (b2 := (60 * bb, 300 * bb)) (m_thrown (by repeat (first | with_reducible exact hw | with_reducible exact hwc | with_reducible assumption | with_reducible apply Wf.sI | with_reducible apply Wf.sL | with_reducible apply Wf.cpI | with_reducible apply Wf.cpL | with_reducible apply Wf.cp2 | with_reducible apply Wf.sIs | with_reducible apply Wf.sLs | with_reducible apply Wf.cpU | with_reducible apply Wf.fillI | with_reducible apply Wf.clU | with_reducible apply Wf.dnF | with_reducible apply Wf.gbW))) rfl dL_law_956 yk_X11_thrown im_X11_thrown se_X11_thrown ml_L_114 rfl (co_338 (by repeat (first | with_reducible exact hw | with_reducible exact hwc | with_reducible assumption | with_reducible apply Wf.sI | with_reducible apply Wf.sL | with_reducible apply Wf.cpI | with_reducible apply Wf.cpL | with_reducible apply Wf.cp2 | with_reducible apply Wf.sIs | with_reducible apply Wf.sLs | with_reducible apply Wf.cpU | with_reducible apply Wf.fillI | with_reducible apply Wf.clU | with_reducible apply Wf.dnF | with_reducible apply Wf.gbW))) (by decide) hc_X11 (by decide) ⟨by show 0 + 60 * bb ≤ 60 * bb; omega, by show 0 + 300 * bb ≤ 300 * bb; omega⟩ (Nat.le_of_ble_eq_true rfl)) ?_
      refine lf (a_iload dL_law_959 rfl) ?_
      refine lf2 (a_icmp_eq (tgt := 966) dL_law_961 (by decide)) (fun h961 => ?_) (fun h961 => absurd h961 (fun z => z k0))
      refine lf (a_iload dL_law_966 rfl) ?_
      refine lfn (a_if_ne (tgt := 983) dL_law_968 (by decide)) (fun h968 => ?_) (fun h968 => absurd h968 (by decide))
      refine lf (a_goto (tgt := 1976) dL_law_983 (by decide)) ?_
      exact lf (a_loc (LAw i) rfl) (kx V hr hX2)
    · obtain ⟨z, V, tz, km, k0, hr, hv, hx⟩ := hk W (Out.rfl' hW)
      obtain ⟨z, rfl⟩ := tz
      have hX1 : gX W = X := hg.trans hX
      have hX2 : gX V = X := hx.trans hX1
      have hV := hr.wf
      refine lf (a_aload_n dL_law_918 rfl) ?_
      refine lf (a_aload_n dL_law_919 rfl) ?_
      refine lf (a_iload dL_law_920 rfl) ?_
      refine lf (a_iconst (1 : Int32) dL_law_922 (by decide)) ?_
      refine lf (a_iadd dL_law_923) ?_
      refine lf (a_sld dL_law_924 hX (ix_s (k := 1) rfl (show i + 1 < X.1 by omega) (by omega))) ?_
      refine lf (a_aload_n dL_law_925 rfl) ?_
      refine lf (a_iload dL_law_926 rfl) ?_
      refine lf (a_iconst (2 : Int32) dL_law_928 (by decide)) ?_
      refine lf (a_iadd dL_law_929) ?_
      refine lf (a_sld dL_law_930 hX (ix_s (k := 2) rfl (show i + 2 < X.1 by omega) (by omega))) ?_
      refine lf (a_aload_n dL_law_931 rfl) ?_
      refine lf (a_invSH (b2 := (60 * bb, 300 * bb)) (wx_change_2 (by repeat (first | with_reducible exact hw | with_reducible exact hwc | with_reducible assumption | with_reducible apply Wf.sI | with_reducible apply Wf.sL | with_reducible apply Wf.cpI | with_reducible apply Wf.cpL | with_reducible apply Wf.cp2 | with_reducible apply Wf.sIs | with_reducible apply Wf.sLs | with_reducible apply Wf.cpU | with_reducible apply Wf.fillI | with_reducible apply Wf.clU | with_reducible apply Wf.dnF | with_reducible apply Wf.gbW)) (X.2 (i + 1)) (X.2 (i + 2)) hc) rfl dL_law_932 yh_L_change sm_L_change ml_L_155 rfl (by decide) ⟨by show 1 + 60 * bb ≤ 60 * (bb + 1); omega, by show 6 + 300 * bb ≤ 300 * (bb + 1); omega⟩ (Nat.le_of_ble_eq_true rfl)) ?_
      refine lf (a_istore dL_law_935 (by decide)) ?_
      refine lf (a_aload_n dL_law_937 rfl) ?_
      refine lf (a_aload_n dL_law_938 rfl) ?_
      refine lf (a_iload dL_law_939 rfl) ?_
      refine lf (a_iconst (1 : Int32) dL_law_941 (by decide)) ?_
      refine lf (a_iadd dL_law_942) ?_
      refine lf (a_sld dL_law_943 hX1 (ix_s (k := 1) rfl (show i + 1 < X.1 by omega) (by omega))) ?_
      refine lf (a_aload_n dL_law_944 rfl) ?_
      refine lf (a_iload dL_law_945 rfl) ?_
      refine lf (a_iconst (2 : Int32) dL_law_947 (by decide)) ?_
      refine lf (a_iadd dL_law_948) ?_
      refine lf (a_sld dL_law_949 hX1 (ix_s (k := 2) rfl (show i + 2 < X.1 by omega) (by omega))) ?_
      refine lf (a_inv (b2 := (60 * bb, 300 * bb)) km rfl dL_law_950 yk_X11_change im_X11_change se_X11_change ml_L_157 rfl (co_338 (by repeat (first | with_reducible exact hw | with_reducible exact hwc | with_reducible assumption | with_reducible apply Wf.sI | with_reducible apply Wf.sL | with_reducible apply Wf.cpI | with_reducible apply Wf.cpL | with_reducible apply Wf.cp2 | with_reducible apply Wf.sIs | with_reducible apply Wf.sLs | with_reducible apply Wf.cpU | with_reducible apply Wf.fillI | with_reducible apply Wf.clU | with_reducible apply Wf.dnF | with_reducible apply Wf.gbW))) (by decide) hc_X11 (by decide) ⟨by show 0 + 60 * bb ≤ 60 * bb; omega, by show 0 + 300 * bb ≤ 300 * bb; omega⟩ (Nat.le_of_ble_eq_true rfl)) ?_
      refine lf (a_istore dL_law_953 (by decide)) ?_
      refine lf (a_aload_n dL_law_955 rfl) ?_
      refine lf (a_inv (b2 := (60 * bb, 300 * bb)) (m_thrown (by repeat (first | with_reducible exact hw | with_reducible exact hwc | with_reducible assumption | with_reducible apply Wf.sI | with_reducible apply Wf.sL | with_reducible apply Wf.cpI | with_reducible apply Wf.cpL | with_reducible apply Wf.cp2 | with_reducible apply Wf.sIs | with_reducible apply Wf.sLs | with_reducible apply Wf.cpU | with_reducible apply Wf.fillI | with_reducible apply Wf.clU | with_reducible apply Wf.dnF | with_reducible apply Wf.gbW))) rfl dL_law_956 yk_X11_thrown im_X11_thrown se_X11_thrown ml_L_114 rfl (co_338 (by repeat (first | with_reducible exact hw | with_reducible exact hwc | with_reducible assumption | with_reducible apply Wf.sI | with_reducible apply Wf.sL | with_reducible apply Wf.cpI | with_reducible apply Wf.cpL | with_reducible apply Wf.cp2 | with_reducible apply Wf.sIs | with_reducible apply Wf.sLs | with_reducible apply Wf.cpU | with_reducible apply Wf.fillI | with_reducible apply Wf.clU | with_reducible apply Wf.dnF | with_reducible apply Wf.gbW))) (by decide) hc_X11 (by decide) ⟨by show 0 + 60 * bb ≤ 60 * bb; omega, by show 0 + 300 * bb ≤ 300 * bb; omega⟩ (Nat.le_of_ble_eq_true rfl)) ?_
      refine lf (a_iload dL_law_959 rfl) ?_
      refine lf2 (a_icmp_eq (tgt := 966) dL_law_961 (by decide)) (fun h961 => ?_) (fun h961 => absurd h961 (fun z => z k0))
      refine lf (a_iload dL_law_966 rfl) ?_
      refine lfn (a_if_ne (tgt := 983) dL_law_968 (by decide)) (fun h968 => ?_) (fun h968 => absurd h968 (by decide))
      refine lf (a_goto (tgt := 1976) dL_law_983 (by decide)) ?_
      exact lf (a_loc (LAw i) rfl) (kx V hr hX2)
    · obtain ⟨z, V, tz, km, k0, hr, hv, hx⟩ := hk W (Out.rfl' hW)
      obtain ⟨z, rfl⟩ := tz
      have hX1 : gX W = X := hg.trans hX
      have hX2 : gX V = X := hx.trans hX1
      have hV := hr.wf
      refine lf (a_aload_n dL_law_918 rfl) ?_
      refine lf (a_aload_n dL_law_919 rfl) ?_
      refine lf (a_iload dL_law_920 rfl) ?_
      refine lf (a_iconst (1 : Int32) dL_law_922 (by decide)) ?_
      refine lf (a_iadd dL_law_923) ?_
      refine lf (a_sld dL_law_924 hX (ix_s (k := 1) rfl (show i + 1 < X.1 by omega) (by omega))) ?_
      refine lf (a_aload_n dL_law_925 rfl) ?_
      refine lf (a_iload dL_law_926 rfl) ?_
      refine lf (a_iconst (2 : Int32) dL_law_928 (by decide)) ?_
      refine lf (a_iadd dL_law_929) ?_
      refine lf (a_sld dL_law_930 hX (ix_s (k := 2) rfl (show i + 2 < X.1 by omega) (by omega))) ?_
      refine lf (a_aload_n dL_law_931 rfl) ?_
      refine lf (a_invSH (b2 := (60 * bb, 300 * bb)) (wx_change_3 (by repeat (first | with_reducible exact hw | with_reducible exact hwc | with_reducible assumption | with_reducible apply Wf.sI | with_reducible apply Wf.sL | with_reducible apply Wf.cpI | with_reducible apply Wf.cpL | with_reducible apply Wf.cp2 | with_reducible apply Wf.sIs | with_reducible apply Wf.sLs | with_reducible apply Wf.cpU | with_reducible apply Wf.fillI | with_reducible apply Wf.clU | with_reducible apply Wf.dnF | with_reducible apply Wf.gbW)) (X.2 (i + 1)) (X.2 (i + 2)) hc) rfl dL_law_932 yh_L_change sm_L_change ml_L_155 rfl (by decide) ⟨by show 1 + 60 * bb ≤ 60 * (bb + 1); omega, by show 6 + 300 * bb ≤ 300 * (bb + 1); omega⟩ (Nat.le_of_ble_eq_true rfl)) ?_
      refine lf (a_istore dL_law_935 (by decide)) ?_
      refine lf (a_aload_n dL_law_937 rfl) ?_
      refine lf (a_aload_n dL_law_938 rfl) ?_
      refine lf (a_iload dL_law_939 rfl) ?_
      refine lf (a_iconst (1 : Int32) dL_law_941 (by decide)) ?_
      refine lf (a_iadd dL_law_942) ?_
      refine lf (a_sld dL_law_943 hX1 (ix_s (k := 1) rfl (show i + 1 < X.1 by omega) (by omega))) ?_
      refine lf (a_aload_n dL_law_944 rfl) ?_
      refine lf (a_iload dL_law_945 rfl) ?_
      refine lf (a_iconst (2 : Int32) dL_law_947 (by decide)) ?_
      refine lf (a_iadd dL_law_948) ?_
      refine lf (a_sld dL_law_949 hX1 (ix_s (k := 2) rfl (show i + 2 < X.1 by omega) (by omega))) ?_
      refine lf (a_inv (b2 := (60 * bb, 300 * bb)) km rfl dL_law_950 yk_X11_change im_X11_change se_X11_change ml_L_157 rfl (co_338 (by repeat (first | with_reducible exact hw | with_reducible exact hwc | with_reducible assumption | with_reducible apply Wf.sI | with_reducible apply Wf.sL | with_reducible apply Wf.cpI | with_reducible apply Wf.cpL | with_reducible apply Wf.cp2 | with_reducible apply Wf.sIs | with_reducible apply Wf.sLs | with_reducible apply Wf.cpU | with_reducible apply Wf.fillI | with_reducible apply Wf.clU | with_reducible apply Wf.dnF | with_reducible apply Wf.gbW))) (by decide) hc_X11 (by decide) ⟨by show 0 + 60 * bb ≤ 60 * bb; omega, by show 0 + 300 * bb ≤ 300 * bb; omega⟩ (Nat.le_of_ble_eq_true rfl)) ?_
      refine lf (a_istore dL_law_953 (by decide)) ?_
      refine lf (a_aload_n dL_law_955 rfl) ?_
      refine lf (a_inv (b2 := (60 * bb, 300 * bb)) (m_thrown (by repeat (first | with_reducible exact hw | with_reducible exact hwc | with_reducible assumption | with_reducible apply Wf.sI | with_reducible apply Wf.sL | with_reducible apply Wf.cpI | with_reducible apply Wf.cpL | with_reducible apply Wf.cp2 | with_reducible apply Wf.sIs | with_reducible apply Wf.sLs | with_reducible apply Wf.cpU | with_reducible apply Wf.fillI | with_reducible apply Wf.clU | with_reducible apply Wf.dnF | with_reducible apply Wf.gbW))) rfl dL_law_956 yk_X11_thrown im_X11_thrown se_X11_thrown ml_L_114 rfl (co_338 (by repeat (first | with_reducible exact hw | with_reducible exact hwc | with_reducible assumption | with_reducible apply Wf.sI | with_reducible apply Wf.sL | with_reducible apply Wf.cpI | with_reducible apply Wf.cpL | with_reducible apply Wf.cp2 | with_reducible apply Wf.sIs | with_reducible apply Wf.sLs | with_reducible apply Wf.cpU | with_reducible apply Wf.fillI | with_reducible apply Wf.clU | with_reducible apply Wf.dnF | with_reducible apply Wf.gbW))) (by decide) hc_X11 (by decide) ⟨by show 0 + 60 * bb ≤ 60 * bb; omega, by show 0 + 300 * bb ≤ 300 * bb; omega⟩ (Nat.le_of_ble_eq_true rfl)) ?_
      refine lf (a_iload dL_law_959 rfl) ?_
      refine lf2 (a_icmp_eq (tgt := 966) dL_law_961 (by decide)) (fun h961 => ?_) (fun h961 => absurd h961 (fun z => z k0))
      refine lf (a_iload dL_law_966 rfl) ?_
      refine lfn (a_if_ne (tgt := 983) dL_law_968 (by decide)) (fun h968 => ?_) (fun h968 => absurd h968 (by decide))
      refine lf (a_goto (tgt := 1976) dL_law_983 (by decide)) ?_
      exact lf (a_loc (LAw i) rfl) (kx V hr hX2)
theorem s_leave {μ : Wd} {N i bb : Nat} {X : Nat × (Nat → Int32)} (h : RelV N μ) (hX : gX μ = X) (hi : i + 6 ≤ X.1) (hL : X.1 ≤ 3072) (kx : ∀ V, RelV (N + 1) V → gX V = X → WP Y_L_law RLaw (60 * bb, 300 * bb) V 1976 (LAw i) [] QLw) : WP Y_L_law RLaw (60 * (bb + 1), 300 * (bb + 1)) μ 986 (LAw i) [] QLw := by
  have hw := h.wf
  rcases o_leave h (X.2 (i + 1)) with ⟨v, W, tv, hW, hc, hg, hk⟩ | ⟨x, k, W, hxk, hW, hc, hg, hk⟩
  · obtain ⟨v, rfl⟩ := tv
    obtain ⟨V, km, k0, hr, hv, hx⟩ := hk (sL W 363 0 (v.toInt64)) ((Out.rfl' hW).sL (S := s363) (i := 363) rfl _ _)
    have hX1 : gX (sL W 363 0 (v.toInt64)) = X := hg.trans hX
    have hX2 : gX V = X := hx.trans hX1
    have hV := hr.wf
    have hv1 : gL V 363 0 = v.toInt64 := hv.trans ((gL_sL _ _ _ _ _ _).trans (if_pos ⟨rfl, rfl⟩))
    refine lf (a_aload_n dL_law_986 rfl) ?_
    refine lf (a_aload_n dL_law_987 rfl) ?_
    refine lf (a_iload dL_law_988 rfl) ?_
    refine lf (a_iconst (1 : Int32) dL_law_990 (by decide)) ?_
    refine lf (a_iadd dL_law_991) ?_
    refine lf (a_sld dL_law_992 hX (ix_s (k := 1) rfl (show i + 1 < X.1 by omega) (by omega))) ?_
    refine lf (a_aload_n dL_law_993 rfl) ?_
    refine lf (a_invSH (b2 := (60 * bb, 300 * bb)) (wv_leave (by repeat (first | with_reducible exact hw | with_reducible exact hwc | with_reducible assumption | with_reducible apply Wf.sI | with_reducible apply Wf.sL | with_reducible apply Wf.cpI | with_reducible apply Wf.cpL | with_reducible apply Wf.cp2 | with_reducible apply Wf.sIs | with_reducible apply Wf.sLs | with_reducible apply Wf.cpU | with_reducible apply Wf.fillI | with_reducible apply Wf.clU | with_reducible apply Wf.dnF | with_reducible apply Wf.gbW)) (X.2 (i + 1)) hW hc) rfl dL_law_994 yh_L_leave sm_L_leave ml_L_158 rfl (by decide) ⟨by show 1 + 60 * bb ≤ 60 * (bb + 1); omega, by show 6 + 300 * bb ≤ 300 * (bb + 1); omega⟩ (Nat.le_of_ble_eq_true rfl)) ?_
    refine lf (a_istore dL_law_997 (by decide)) ?_
    refine lf (a_aload_n dL_law_999 rfl) ?_
    refine lf (a_aload_n dL_law_1000 rfl) ?_
    refine lf (a_iload dL_law_1001 rfl) ?_
    refine lf (a_iconst (1 : Int32) dL_law_1003 (by decide)) ?_
    refine lf (a_iadd dL_law_1004) ?_
    refine lf (a_sld dL_law_1005 hX1 (ix_s (k := 1) rfl (show i + 1 < X.1 by omega) (by omega))) ?_
    refine lf (a_inv (b2 := (60 * bb, 300 * bb)) km rfl dL_law_1006 yk_X11_leave im_X11_leave se_X11_leave ml_L_160 rfl (co_338 (by repeat (first | with_reducible exact hw | with_reducible exact hwc | with_reducible assumption | with_reducible apply Wf.sI | with_reducible apply Wf.sL | with_reducible apply Wf.cpI | with_reducible apply Wf.cpL | with_reducible apply Wf.cp2 | with_reducible apply Wf.sIs | with_reducible apply Wf.sLs | with_reducible apply Wf.cpU | with_reducible apply Wf.fillI | with_reducible apply Wf.clU | with_reducible apply Wf.dnF | with_reducible apply Wf.gbW))) (by decide) hc_X11 (by decide) ⟨by show 0 + 60 * bb ≤ 60 * bb; omega, by show 0 + 300 * bb ≤ 300 * bb; omega⟩ (Nat.le_of_ble_eq_true rfl)) ?_
    refine lf (a_istore dL_law_1009 (by decide)) ?_
    refine lf (a_aload_n dL_law_1011 rfl) ?_
    refine lf (a_inv (b2 := (60 * bb, 300 * bb)) (m_thrown (by repeat (first | with_reducible exact hw | with_reducible exact hwc | with_reducible assumption | with_reducible apply Wf.sI | with_reducible apply Wf.sL | with_reducible apply Wf.cpI | with_reducible apply Wf.cpL | with_reducible apply Wf.cp2 | with_reducible apply Wf.sIs | with_reducible apply Wf.sLs | with_reducible apply Wf.cpU | with_reducible apply Wf.fillI | with_reducible apply Wf.clU | with_reducible apply Wf.dnF | with_reducible apply Wf.gbW))) rfl dL_law_1012 yk_X11_thrown im_X11_thrown se_X11_thrown ml_L_114 rfl (co_338 (by repeat (first | with_reducible exact hw | with_reducible exact hwc | with_reducible assumption | with_reducible apply Wf.sI | with_reducible apply Wf.sL | with_reducible apply Wf.cpI | with_reducible apply Wf.cpL | with_reducible apply Wf.cp2 | with_reducible apply Wf.sIs | with_reducible apply Wf.sLs | with_reducible apply Wf.cpU | with_reducible apply Wf.fillI | with_reducible apply Wf.clU | with_reducible apply Wf.dnF | with_reducible apply Wf.gbW))) (by decide) hc_X11 (by decide) ⟨by show 0 + 60 * bb ≤ 60 * bb; omega, by show 0 + 300 * bb ≤ 300 * bb; omega⟩ (Nat.le_of_ble_eq_true rfl)) ?_
    refine lf (a_iload dL_law_1015 rfl) ?_
    refine lf2 (a_icmp_eq (tgt := 1022) dL_law_1017 (by decide)) (fun h1017 => ?_) (fun h1017 => absurd h1017 (fun z => z k0))
    refine lf (a_iload dL_law_1022 rfl) ?_
    refine lfn (a_if_ne (tgt := 1039) dL_law_1024 (by decide)) (fun h1024 => absurd h1024 (by decide)) (fun h1024 => ?_)
    refine lf (a_aload_n dL_law_1027 rfl) ?_
    refine lf (a_iconst (0 : Int32) dL_law_1028 (by decide)) ?_
    refine lf (a_lld dL_law_1029 (ca_363 (by repeat (first | with_reducible exact hw | with_reducible exact hwc | with_reducible assumption | with_reducible apply Wf.sI | with_reducible apply Wf.sL | with_reducible apply Wf.cpI | with_reducible apply Wf.cpL | with_reducible apply Wf.cp2 | with_reducible apply Wf.sIs | with_reducible apply Wf.sLs | with_reducible apply Wf.cpU | with_reducible apply Wf.fillI | with_reducible apply Wf.clU | with_reducible apply Wf.dnF | with_reducible apply Wf.gbW))) (ixn (m := 0) (by decide) (by decide))) ?_
    rw [hv1]
    refine lf (a_iload dL_law_1030 rfl) ?_
    refine lf (a_i2l dL_law_1032) ?_
    refine lf (a_lcmp dL_law_1033) ?_
    refine lf2 (a_if_eq (tgt := 1039) dL_law_1034 (by decide)) (fun h1034 => ?_) (fun h1034 => absurd h1034 (fun z => z (lcmp_self _)))
    refine lf (a_goto (tgt := 1976) dL_law_1039 (by decide)) ?_
    exact lf (a_loc (LAw i) rfl) (kx V hr hX2)
  · simp only [List.mem_cons, List.not_mem_nil, or_false, Prod.mk.injEq] at hxk
    rcases hxk with ⟨rfl, rfl⟩ | ⟨rfl, rfl⟩
    · obtain ⟨z, V, tz, km, k0, hr, hv, hx⟩ := hk W (Out.rfl' hW)
      obtain ⟨z, rfl⟩ := tz
      have hX1 : gX W = X := hg.trans hX
      have hX2 : gX V = X := hx.trans hX1
      have hV := hr.wf
      refine lf (a_aload_n dL_law_986 rfl) ?_
      refine lf (a_aload_n dL_law_987 rfl) ?_
      refine lf (a_iload dL_law_988 rfl) ?_
      refine lf (a_iconst (1 : Int32) dL_law_990 (by decide)) ?_
      refine lf (a_iadd dL_law_991) ?_
      refine lf (a_sld dL_law_992 hX (ix_s (k := 1) rfl (show i + 1 < X.1 by omega) (by omega))) ?_
      refine lf (a_aload_n dL_law_993 rfl) ?_
      refine lf (a_invSH (b2 := (60 * bb, 300 * bb)) (wx_leave_1 (by repeat (first | with_reducible exact hw | with_reducible exact hwc | with_reducible assumption | with_reducible apply Wf.sI | with_reducible apply Wf.sL | with_reducible apply Wf.cpI | with_reducible apply Wf.cpL | with_reducible apply Wf.cp2 | with_reducible apply Wf.sIs | with_reducible apply Wf.sLs | with_reducible apply Wf.cpU | with_reducible apply Wf.fillI | with_reducible apply Wf.clU | with_reducible apply Wf.dnF | with_reducible apply Wf.gbW)) (X.2 (i + 1)) hc) rfl dL_law_994 yh_L_leave sm_L_leave ml_L_158 rfl (by decide) ⟨by show 1 + 60 * bb ≤ 60 * (bb + 1); omega, by show 6 + 300 * bb ≤ 300 * (bb + 1); omega⟩ (Nat.le_of_ble_eq_true rfl)) ?_
      refine lf (a_istore dL_law_997 (by decide)) ?_
      refine lf (a_aload_n dL_law_999 rfl) ?_
      refine lf (a_aload_n dL_law_1000 rfl) ?_
      refine lf (a_iload dL_law_1001 rfl) ?_
      refine lf (a_iconst (1 : Int32) dL_law_1003 (by decide)) ?_
      refine lf (a_iadd dL_law_1004) ?_
      refine lf (a_sld dL_law_1005 hX1 (ix_s (k := 1) rfl (show i + 1 < X.1 by omega) (by omega))) ?_
      refine lf (a_inv (b2 := (60 * bb, 300 * bb)) km rfl dL_law_1006 yk_X11_leave im_X11_leave se_X11_leave ml_L_160 rfl (co_338 (by repeat (first | with_reducible exact hw | with_reducible exact hwc | with_reducible assumption | with_reducible apply Wf.sI | with_reducible apply Wf.sL | with_reducible apply Wf.cpI | with_reducible apply Wf.cpL | with_reducible apply Wf.cp2 | with_reducible apply Wf.sIs | with_reducible apply Wf.sLs | with_reducible apply Wf.cpU | with_reducible apply Wf.fillI | with_reducible apply Wf.clU | with_reducible apply Wf.dnF | with_reducible apply Wf.gbW))) (by decide) hc_X11 (by decide) ⟨by show 0 + 60 * bb ≤ 60 * bb; omega, by show 0 + 300 * bb ≤ 300 * bb; omega⟩ (Nat.le_of_ble_eq_true rfl)) ?_
      refine lf (a_istore dL_law_1009 (by decide)) ?_
      refine lf (a_aload_n dL_law_1011 rfl) ?_
      refine lf (a_inv (b2 := (60 * bb, 300 * bb)) (m_thrown (by repeat (first | with_reducible exact hw | with_reducible exact hwc | with_reducible assumption | with_reducible apply Wf.sI | with_reducible apply Wf.sL | with_reducible apply Wf.cpI | with_reducible apply Wf.cpL | with_reducible apply Wf.cp2 | with_reducible apply Wf.sIs | with_reducible apply Wf.sLs | with_reducible apply Wf.cpU | with_reducible apply Wf.fillI | with_reducible apply Wf.clU | with_reducible apply Wf.dnF | with_reducible apply Wf.gbW))) rfl dL_law_1012 yk_X11_thrown im_X11_thrown se_X11_thrown ml_L_114 rfl (co_338 (by repeat (first | with_reducible exact hw | with_reducible exact hwc | with_reducible assumption | with_reducible apply Wf.sI | with_reducible apply Wf.sL | with_reducible apply Wf.cpI | with_reducible apply Wf.cpL | with_reducible apply Wf.cp2 | with_reducible apply Wf.sIs | with_reducible apply Wf.sLs | with_reducible apply Wf.cpU | with_reducible apply Wf.fillI | with_reducible apply Wf.clU | with_reducible apply Wf.dnF | with_reducible apply Wf.gbW))) (by decide) hc_X11 (by decide) ⟨by show 0 + 60 * bb ≤ 60 * bb; omega, by show 0 + 300 * bb ≤ 300 * bb; omega⟩ (Nat.le_of_ble_eq_true rfl)) ?_
      refine lf (a_iload dL_law_1015 rfl) ?_
      refine lf2 (a_icmp_eq (tgt := 1022) dL_law_1017 (by decide)) (fun h1017 => ?_) (fun h1017 => absurd h1017 (fun z => z k0))
      refine lf (a_iload dL_law_1022 rfl) ?_
      refine lfn (a_if_ne (tgt := 1039) dL_law_1024 (by decide)) (fun h1024 => ?_) (fun h1024 => absurd h1024 (by decide))
      refine lf (a_goto (tgt := 1976) dL_law_1039 (by decide)) ?_
      exact lf (a_loc (LAw i) rfl) (kx V hr hX2)
    · obtain ⟨z, V, tz, km, k0, hr, hv, hx⟩ := hk W (Out.rfl' hW)
      obtain ⟨z, rfl⟩ := tz
      have hX1 : gX W = X := hg.trans hX
      have hX2 : gX V = X := hx.trans hX1
      have hV := hr.wf
      refine lf (a_aload_n dL_law_986 rfl) ?_
      refine lf (a_aload_n dL_law_987 rfl) ?_
      refine lf (a_iload dL_law_988 rfl) ?_
      refine lf (a_iconst (1 : Int32) dL_law_990 (by decide)) ?_
      refine lf (a_iadd dL_law_991) ?_
      refine lf (a_sld dL_law_992 hX (ix_s (k := 1) rfl (show i + 1 < X.1 by omega) (by omega))) ?_
      refine lf (a_aload_n dL_law_993 rfl) ?_
      refine lf (a_invSH (b2 := (60 * bb, 300 * bb)) (wx_leave_2 (by repeat (first | with_reducible exact hw | with_reducible exact hwc | with_reducible assumption | with_reducible apply Wf.sI | with_reducible apply Wf.sL | with_reducible apply Wf.cpI | with_reducible apply Wf.cpL | with_reducible apply Wf.cp2 | with_reducible apply Wf.sIs | with_reducible apply Wf.sLs | with_reducible apply Wf.cpU | with_reducible apply Wf.fillI | with_reducible apply Wf.clU | with_reducible apply Wf.dnF | with_reducible apply Wf.gbW)) (X.2 (i + 1)) hc) rfl dL_law_994 yh_L_leave sm_L_leave ml_L_158 rfl (by decide) ⟨by show 1 + 60 * bb ≤ 60 * (bb + 1); omega, by show 6 + 300 * bb ≤ 300 * (bb + 1); omega⟩ (Nat.le_of_ble_eq_true rfl)) ?_
      refine lf (a_istore dL_law_997 (by decide)) ?_
      refine lf (a_aload_n dL_law_999 rfl) ?_
      refine lf (a_aload_n dL_law_1000 rfl) ?_
      refine lf (a_iload dL_law_1001 rfl) ?_
      refine lf (a_iconst (1 : Int32) dL_law_1003 (by decide)) ?_
      refine lf (a_iadd dL_law_1004) ?_
      refine lf (a_sld dL_law_1005 hX1 (ix_s (k := 1) rfl (show i + 1 < X.1 by omega) (by omega))) ?_
      refine lf (a_inv (b2 := (60 * bb, 300 * bb)) km rfl dL_law_1006 yk_X11_leave im_X11_leave se_X11_leave ml_L_160 rfl (co_338 (by repeat (first | with_reducible exact hw | with_reducible exact hwc | with_reducible assumption | with_reducible apply Wf.sI | with_reducible apply Wf.sL | with_reducible apply Wf.cpI | with_reducible apply Wf.cpL | with_reducible apply Wf.cp2 | with_reducible apply Wf.sIs | with_reducible apply Wf.sLs | with_reducible apply Wf.cpU | with_reducible apply Wf.fillI | with_reducible apply Wf.clU | with_reducible apply Wf.dnF | with_reducible apply Wf.gbW))) (by decide) hc_X11 (by decide) ⟨by show 0 + 60 * bb ≤ 60 * bb; omega, by show 0 + 300 * bb ≤ 300 * bb; omega⟩ (Nat.le_of_ble_eq_true rfl)) ?_
      refine lf (a_istore dL_law_1009 (by decide)) ?_
      refine lf (a_aload_n dL_law_1011 rfl) ?_
      refine lf (a_inv (b2 := (60 * bb, 300 * bb)) (m_thrown (by repeat (first | with_reducible exact hw | with_reducible exact hwc | with_reducible assumption | with_reducible apply Wf.sI | with_reducible apply Wf.sL | with_reducible apply Wf.cpI | with_reducible apply Wf.cpL | with_reducible apply Wf.cp2 | with_reducible apply Wf.sIs | with_reducible apply Wf.sLs | with_reducible apply Wf.cpU | with_reducible apply Wf.fillI | with_reducible apply Wf.clU | with_reducible apply Wf.dnF | with_reducible apply Wf.gbW))) rfl dL_law_1012 yk_X11_thrown im_X11_thrown se_X11_thrown ml_L_114 rfl (co_338 (by repeat (first | with_reducible exact hw | with_reducible exact hwc | with_reducible assumption | with_reducible apply Wf.sI | with_reducible apply Wf.sL | with_reducible apply Wf.cpI | with_reducible apply Wf.cpL | with_reducible apply Wf.cp2 | with_reducible apply Wf.sIs | with_reducible apply Wf.sLs | with_reducible apply Wf.cpU | with_reducible apply Wf.fillI | with_reducible apply Wf.clU | with_reducible apply Wf.dnF | with_reducible apply Wf.gbW))) (by decide) hc_X11 (by decide) ⟨by show 0 + 60 * bb ≤ 60 * bb; omega, by show 0 + 300 * bb ≤ 300 * bb; omega⟩ (Nat.le_of_ble_eq_true rfl)) ?_
      refine lf (a_iload dL_law_1015 rfl) ?_
      refine lf2 (a_icmp_eq (tgt := 1022) dL_law_1017 (by decide)) (fun h1017 => ?_) (fun h1017 => absurd h1017 (fun z => z k0))
      refine lf (a_iload dL_law_1022 rfl) ?_
      refine lfn (a_if_ne (tgt := 1039) dL_law_1024 (by decide)) (fun h1024 => ?_) (fun h1024 => absurd h1024 (by decide))
      refine lf (a_goto (tgt := 1976) dL_law_1039 (by decide)) ?_
      exact lf (a_loc (LAw i) rfl) (kx V hr hX2)
theorem s_setNeeds {μ : Wd} {N i bb : Nat} {X : Nat × (Nat → Int32)} (h : RelV N μ) (hX : gX μ = X) (hi : i + 6 ≤ X.1) (hL : X.1 ≤ 3072) (kx : ∀ V, RelV (N + 1) V → gX V = X → WP Y_L_law RLaw (60 * bb, 300 * bb) V 1976 (LAw i) [] QLw) : WP Y_L_law RLaw (60 * (bb + 1), 300 * (bb + 1)) μ 1042 (LAw i) [] QLw := by
  have hw := h.wf
  rcases o_setNeeds h (X.2 (i + 1)) (X.2 (i + 2)) with ⟨v, W, tv, hW, hc, hg, hk⟩ | ⟨x, k, W, hxk, hW, hc, hg, hk⟩
  · obtain ⟨v, rfl⟩ := tv
    obtain ⟨V, km, k0, hr, hv, hx⟩ := hk (sL W 363 0 (v.toInt64)) ((Out.rfl' hW).sL (S := s363) (i := 363) rfl _ _)
    have hX1 : gX (sL W 363 0 (v.toInt64)) = X := hg.trans hX
    have hX2 : gX V = X := hx.trans hX1
    have hV := hr.wf
    have hv1 : gL V 363 0 = v.toInt64 := hv.trans ((gL_sL _ _ _ _ _ _).trans (if_pos ⟨rfl, rfl⟩))
    refine lf (a_aload_n dL_law_1042 rfl) ?_
    refine lf (a_aload_n dL_law_1043 rfl) ?_
    refine lf (a_iload dL_law_1044 rfl) ?_
    refine lf (a_iconst (1 : Int32) dL_law_1046 (by decide)) ?_
    refine lf (a_iadd dL_law_1047) ?_
    refine lf (a_sld dL_law_1048 hX (ix_s (k := 1) rfl (show i + 1 < X.1 by omega) (by omega))) ?_
    refine lf (a_aload_n dL_law_1049 rfl) ?_
    refine lf (a_iload dL_law_1050 rfl) ?_
    refine lf (a_iconst (2 : Int32) dL_law_1052 (by decide)) ?_
    refine lf (a_iadd dL_law_1053) ?_
    refine lf (a_sld dL_law_1054 hX (ix_s (k := 2) rfl (show i + 2 < X.1 by omega) (by omega))) ?_
    refine lf (a_aload_n dL_law_1055 rfl) ?_
    refine lf (a_invSH (b2 := (60 * bb, 300 * bb)) (wv_setNeeds (by repeat (first | with_reducible exact hw | with_reducible exact hwc | with_reducible assumption | with_reducible apply Wf.sI | with_reducible apply Wf.sL | with_reducible apply Wf.cpI | with_reducible apply Wf.cpL | with_reducible apply Wf.cp2 | with_reducible apply Wf.sIs | with_reducible apply Wf.sLs | with_reducible apply Wf.cpU | with_reducible apply Wf.fillI | with_reducible apply Wf.clU | with_reducible apply Wf.dnF | with_reducible apply Wf.gbW)) (X.2 (i + 1)) (X.2 (i + 2)) hW hc) rfl dL_law_1056 yh_L_setNeeds sm_L_setNeeds ml_L_161 rfl (by decide) ⟨by show 1 + 60 * bb ≤ 60 * (bb + 1); omega, by show 6 + 300 * bb ≤ 300 * (bb + 1); omega⟩ (Nat.le_of_ble_eq_true rfl)) ?_
    refine lf (a_istore dL_law_1059 (by decide)) ?_
    refine lf (a_aload_n dL_law_1061 rfl) ?_
    refine lf (a_aload_n dL_law_1062 rfl) ?_
    refine lf (a_iload dL_law_1063 rfl) ?_
    refine lf (a_iconst (1 : Int32) dL_law_1065 (by decide)) ?_
    refine lf (a_iadd dL_law_1066) ?_
    refine lf (a_sld dL_law_1067 hX1 (ix_s (k := 1) rfl (show i + 1 < X.1 by omega) (by omega))) ?_
    refine lf (a_aload_n dL_law_1068 rfl) ?_
    refine lf (a_iload dL_law_1069 rfl) ?_
    refine lf (a_iconst (2 : Int32) dL_law_1071 (by decide)) ?_
    refine lf (a_iadd dL_law_1072) ?_
    refine lf (a_sld dL_law_1073 hX1 (ix_s (k := 2) rfl (show i + 2 < X.1 by omega) (by omega))) ?_
    refine lf (a_inv (b2 := (60 * bb, 300 * bb)) km rfl dL_law_1074 yk_X11_setNeeds im_X11_setNeeds se_X11_setNeeds ml_L_163 rfl (co_338 (by repeat (first | with_reducible exact hw | with_reducible exact hwc | with_reducible assumption | with_reducible apply Wf.sI | with_reducible apply Wf.sL | with_reducible apply Wf.cpI | with_reducible apply Wf.cpL | with_reducible apply Wf.cp2 | with_reducible apply Wf.sIs | with_reducible apply Wf.sLs | with_reducible apply Wf.cpU | with_reducible apply Wf.fillI | with_reducible apply Wf.clU | with_reducible apply Wf.dnF | with_reducible apply Wf.gbW))) (by decide) hc_X11 (by decide) ⟨by show 0 + 60 * bb ≤ 60 * bb; omega, by show 0 + 300 * bb ≤ 300 * bb; omega⟩ (Nat.le_of_ble_eq_true rfl)) ?_
    refine lf (a_istore dL_law_1077 (by decide)) ?_
    refine lf (a_aload_n dL_law_1079 rfl) ?_
    refine lf (a_inv (b2 := (60 * bb, 300 * bb)) (m_thrown (by repeat (first | with_reducible exact hw | with_reducible exact hwc | with_reducible assumption | with_reducible apply Wf.sI | with_reducible apply Wf.sL | with_reducible apply Wf.cpI | with_reducible apply Wf.cpL | with_reducible apply Wf.cp2 | with_reducible apply Wf.sIs | with_reducible apply Wf.sLs | with_reducible apply Wf.cpU | with_reducible apply Wf.fillI | with_reducible apply Wf.clU | with_reducible apply Wf.dnF | with_reducible apply Wf.gbW))) rfl dL_law_1080 yk_X11_thrown im_X11_thrown se_X11_thrown ml_L_114 rfl (co_338 (by repeat (first | with_reducible exact hw | with_reducible exact hwc | with_reducible assumption | with_reducible apply Wf.sI | with_reducible apply Wf.sL | with_reducible apply Wf.cpI | with_reducible apply Wf.cpL | with_reducible apply Wf.cp2 | with_reducible apply Wf.sIs | with_reducible apply Wf.sLs | with_reducible apply Wf.cpU | with_reducible apply Wf.fillI | with_reducible apply Wf.clU | with_reducible apply Wf.dnF | with_reducible apply Wf.gbW))) (by decide) hc_X11 (by decide) ⟨by show 0 + 60 * bb ≤ 60 * bb; omega, by show 0 + 300 * bb ≤ 300 * bb; omega⟩ (Nat.le_of_ble_eq_true rfl)) ?_
    refine lf (a_iload dL_law_1083 rfl) ?_
    refine lf2 (a_icmp_eq (tgt := 1090) dL_law_1085 (by decide)) (fun h1085 => ?_) (fun h1085 => absurd h1085 (fun z => z k0))
    refine lf (a_iload dL_law_1090 rfl) ?_
    refine lfn (a_if_ne (tgt := 1107) dL_law_1092 (by decide)) (fun h1092 => absurd h1092 (by decide)) (fun h1092 => ?_)
    refine lf (a_aload_n dL_law_1095 rfl) ?_
    refine lf (a_iconst (0 : Int32) dL_law_1096 (by decide)) ?_
    refine lf (a_lld dL_law_1097 (ca_363 (by repeat (first | with_reducible exact hw | with_reducible exact hwc | with_reducible assumption | with_reducible apply Wf.sI | with_reducible apply Wf.sL | with_reducible apply Wf.cpI | with_reducible apply Wf.cpL | with_reducible apply Wf.cp2 | with_reducible apply Wf.sIs | with_reducible apply Wf.sLs | with_reducible apply Wf.cpU | with_reducible apply Wf.fillI | with_reducible apply Wf.clU | with_reducible apply Wf.dnF | with_reducible apply Wf.gbW))) (ixn (m := 0) (by decide) (by decide))) ?_
    rw [hv1]
    refine lf (a_iload dL_law_1098 rfl) ?_
    refine lf (a_i2l dL_law_1100) ?_
    refine lf (a_lcmp dL_law_1101) ?_
    refine lf2 (a_if_eq (tgt := 1107) dL_law_1102 (by decide)) (fun h1102 => ?_) (fun h1102 => absurd h1102 (fun z => z (lcmp_self _)))
    refine lf (a_goto (tgt := 1976) dL_law_1107 (by decide)) ?_
    exact lf (a_loc (LAw i) rfl) (kx V hr hX2)
  · simp only [List.mem_cons, List.not_mem_nil, or_false, Prod.mk.injEq] at hxk
    rcases hxk with ⟨rfl, rfl⟩ | ⟨rfl, rfl⟩ | ⟨rfl, rfl⟩
    · obtain ⟨z, V, tz, km, k0, hr, hv, hx⟩ := hk W (Out.rfl' hW)
      obtain ⟨z, rfl⟩ := tz
      have hX1 : gX W = X := hg.trans hX
      have hX2 : gX V = X := hx.trans hX1
      have hV := hr.wf
      refine lf (a_aload_n dL_law_1042 rfl) ?_
      refine lf (a_aload_n dL_law_1043 rfl) ?_
      refine lf (a_iload dL_law_1044 rfl) ?_
      refine lf (a_iconst (1 : Int32) dL_law_1046 (by decide)) ?_
      refine lf (a_iadd dL_law_1047) ?_
      refine lf (a_sld dL_law_1048 hX (ix_s (k := 1) rfl (show i + 1 < X.1 by omega) (by omega))) ?_
      refine lf (a_aload_n dL_law_1049 rfl) ?_
      refine lf (a_iload dL_law_1050 rfl) ?_
      refine lf (a_iconst (2 : Int32) dL_law_1052 (by decide)) ?_
      refine lf (a_iadd dL_law_1053) ?_
      refine lf (a_sld dL_law_1054 hX (ix_s (k := 2) rfl (show i + 2 < X.1 by omega) (by omega))) ?_
      refine lf (a_aload_n dL_law_1055 rfl) ?_
      refine lf (a_invSH (b2 := (60 * bb, 300 * bb)) (wx_setNeeds_1 (by repeat (first | with_reducible exact hw | with_reducible exact hwc | with_reducible assumption | with_reducible apply Wf.sI | with_reducible apply Wf.sL | with_reducible apply Wf.cpI | with_reducible apply Wf.cpL | with_reducible apply Wf.cp2 | with_reducible apply Wf.sIs | with_reducible apply Wf.sLs | with_reducible apply Wf.cpU | with_reducible apply Wf.fillI | with_reducible apply Wf.clU | with_reducible apply Wf.dnF | with_reducible apply Wf.gbW)) (X.2 (i + 1)) (X.2 (i + 2)) hc) rfl dL_law_1056 yh_L_setNeeds sm_L_setNeeds ml_L_161 rfl (by decide) ⟨by show 1 + 60 * bb ≤ 60 * (bb + 1); omega, by show 6 + 300 * bb ≤ 300 * (bb + 1); omega⟩ (Nat.le_of_ble_eq_true rfl)) ?_
      refine lf (a_istore dL_law_1059 (by decide)) ?_
      refine lf (a_aload_n dL_law_1061 rfl) ?_
      refine lf (a_aload_n dL_law_1062 rfl) ?_
      refine lf (a_iload dL_law_1063 rfl) ?_
      refine lf (a_iconst (1 : Int32) dL_law_1065 (by decide)) ?_
      refine lf (a_iadd dL_law_1066) ?_
      refine lf (a_sld dL_law_1067 hX1 (ix_s (k := 1) rfl (show i + 1 < X.1 by omega) (by omega))) ?_
      refine lf (a_aload_n dL_law_1068 rfl) ?_
      refine lf (a_iload dL_law_1069 rfl) ?_
      refine lf (a_iconst (2 : Int32) dL_law_1071 (by decide)) ?_
      refine lf (a_iadd dL_law_1072) ?_
      refine lf (a_sld dL_law_1073 hX1 (ix_s (k := 2) rfl (show i + 2 < X.1 by omega) (by omega))) ?_
      refine lf (a_inv (b2 := (60 * bb, 300 * bb)) km rfl dL_law_1074 yk_X11_setNeeds im_X11_setNeeds se_X11_setNeeds ml_L_163 rfl (co_338 (by repeat (first | with_reducible exact hw | with_reducible exact hwc | with_reducible assumption | with_reducible apply Wf.sI | with_reducible apply Wf.sL | with_reducible apply Wf.cpI | with_reducible apply Wf.cpL | with_reducible apply Wf.cp2 | with_reducible apply Wf.sIs | with_reducible apply Wf.sLs | with_reducible apply Wf.cpU | with_reducible apply Wf.fillI | with_reducible apply Wf.clU | with_reducible apply Wf.dnF | with_reducible apply Wf.gbW))) (by decide) hc_X11 (by decide) ⟨by show 0 + 60 * bb ≤ 60 * bb; omega, by show 0 + 300 * bb ≤ 300 * bb; omega⟩ (Nat.le_of_ble_eq_true rfl)) ?_
      refine lf (a_istore dL_law_1077 (by decide)) ?_
      refine lf (a_aload_n dL_law_1079 rfl) ?_
      refine lf (a_inv (b2 := (60 * bb, 300 * bb)) (m_thrown (by repeat (first | with_reducible exact hw | with_reducible exact hwc | with_reducible assumption | with_reducible apply Wf.sI | with_reducible apply Wf.sL | with_reducible apply Wf.cpI | with_reducible apply Wf.cpL | with_reducible apply Wf.cp2 | with_reducible apply Wf.sIs | with_reducible apply Wf.sLs | with_reducible apply Wf.cpU | with_reducible apply Wf.fillI | with_reducible apply Wf.clU | with_reducible apply Wf.dnF | with_reducible apply Wf.gbW))) rfl dL_law_1080 yk_X11_thrown im_X11_thrown se_X11_thrown ml_L_114 rfl (co_338 (by repeat (first | with_reducible exact hw | with_reducible exact hwc | with_reducible assumption | with_reducible apply Wf.sI | with_reducible apply Wf.sL | with_reducible apply Wf.cpI | with_reducible apply Wf.cpL | with_reducible apply Wf.cp2 | with_reducible apply Wf.sIs | with_reducible apply Wf.sLs | with_reducible apply Wf.cpU | with_reducible apply Wf.fillI | with_reducible apply Wf.clU | with_reducible apply Wf.dnF | with_reducible apply Wf.gbW))) (by decide) hc_X11 (by decide) ⟨by show 0 + 60 * bb ≤ 60 * bb; omega, by show 0 + 300 * bb ≤ 300 * bb; omega⟩ (Nat.le_of_ble_eq_true rfl)) ?_
      refine lf (a_iload dL_law_1083 rfl) ?_
      refine lf2 (a_icmp_eq (tgt := 1090) dL_law_1085 (by decide)) (fun h1085 => ?_) (fun h1085 => absurd h1085 (fun z => z k0))
      refine lf (a_iload dL_law_1090 rfl) ?_
      refine lfn (a_if_ne (tgt := 1107) dL_law_1092 (by decide)) (fun h1092 => ?_) (fun h1092 => absurd h1092 (by decide))
      refine lf (a_goto (tgt := 1976) dL_law_1107 (by decide)) ?_
      exact lf (a_loc (LAw i) rfl) (kx V hr hX2)
    · obtain ⟨z, V, tz, km, k0, hr, hv, hx⟩ := hk W (Out.rfl' hW)
      obtain ⟨z, rfl⟩ := tz
      have hX1 : gX W = X := hg.trans hX
      have hX2 : gX V = X := hx.trans hX1
      have hV := hr.wf
      refine lf (a_aload_n dL_law_1042 rfl) ?_
      refine lf (a_aload_n dL_law_1043 rfl) ?_
      refine lf (a_iload dL_law_1044 rfl) ?_
      refine lf (a_iconst (1 : Int32) dL_law_1046 (by decide)) ?_
      refine lf (a_iadd dL_law_1047) ?_
      refine lf (a_sld dL_law_1048 hX (ix_s (k := 1) rfl (show i + 1 < X.1 by omega) (by omega))) ?_
      refine lf (a_aload_n dL_law_1049 rfl) ?_
      refine lf (a_iload dL_law_1050 rfl) ?_
      refine lf (a_iconst (2 : Int32) dL_law_1052 (by decide)) ?_
      refine lf (a_iadd dL_law_1053) ?_
      refine lf (a_sld dL_law_1054 hX (ix_s (k := 2) rfl (show i + 2 < X.1 by omega) (by omega))) ?_
      refine lf (a_aload_n dL_law_1055 rfl) ?_
      refine lf (a_invSH (b2 := (60 * bb, 300 * bb)) (wx_setNeeds_2 (by repeat (first | with_reducible exact hw | with_reducible exact hwc | with_reducible assumption | with_reducible apply Wf.sI | with_reducible apply Wf.sL | with_reducible apply Wf.cpI | with_reducible apply Wf.cpL | with_reducible apply Wf.cp2 | with_reducible apply Wf.sIs | with_reducible apply Wf.sLs | with_reducible apply Wf.cpU | with_reducible apply Wf.fillI | with_reducible apply Wf.clU | with_reducible apply Wf.dnF | with_reducible apply Wf.gbW)) (X.2 (i + 1)) (X.2 (i + 2)) hc) rfl dL_law_1056 yh_L_setNeeds sm_L_setNeeds ml_L_161 rfl (by decide) ⟨by show 1 + 60 * bb ≤ 60 * (bb + 1); omega, by show 6 + 300 * bb ≤ 300 * (bb + 1); omega⟩ (Nat.le_of_ble_eq_true rfl)) ?_
      refine lf (a_istore dL_law_1059 (by decide)) ?_
      refine lf (a_aload_n dL_law_1061 rfl) ?_
      refine lf (a_aload_n dL_law_1062 rfl) ?_
      refine lf (a_iload dL_law_1063 rfl) ?_
      refine lf (a_iconst (1 : Int32) dL_law_1065 (by decide)) ?_
      refine lf (a_iadd dL_law_1066) ?_
      refine lf (a_sld dL_law_1067 hX1 (ix_s (k := 1) rfl (show i + 1 < X.1 by omega) (by omega))) ?_
      refine lf (a_aload_n dL_law_1068 rfl) ?_
      refine lf (a_iload dL_law_1069 rfl) ?_
      refine lf (a_iconst (2 : Int32) dL_law_1071 (by decide)) ?_
      refine lf (a_iadd dL_law_1072) ?_
      refine lf (a_sld dL_law_1073 hX1 (ix_s (k := 2) rfl (show i + 2 < X.1 by omega) (by omega))) ?_
      refine lf (a_inv (b2 := (60 * bb, 300 * bb)) km rfl dL_law_1074 yk_X11_setNeeds im_X11_setNeeds se_X11_setNeeds ml_L_163 rfl (co_338 (by repeat (first | with_reducible exact hw | with_reducible exact hwc | with_reducible assumption | with_reducible apply Wf.sI | with_reducible apply Wf.sL | with_reducible apply Wf.cpI | with_reducible apply Wf.cpL | with_reducible apply Wf.cp2 | with_reducible apply Wf.sIs | with_reducible apply Wf.sLs | with_reducible apply Wf.cpU | with_reducible apply Wf.fillI | with_reducible apply Wf.clU | with_reducible apply Wf.dnF | with_reducible apply Wf.gbW))) (by decide) hc_X11 (by decide) ⟨by show 0 + 60 * bb ≤ 60 * bb; omega, by show 0 + 300 * bb ≤ 300 * bb; omega⟩ (Nat.le_of_ble_eq_true rfl)) ?_
      refine lf (a_istore dL_law_1077 (by decide)) ?_
      refine lf (a_aload_n dL_law_1079 rfl) ?_
      refine lf (a_inv (b2 := (60 * bb, 300 * bb)) (m_thrown (by repeat (first | with_reducible exact hw | with_reducible exact hwc | with_reducible assumption | with_reducible apply Wf.sI | with_reducible apply Wf.sL | with_reducible apply Wf.cpI | with_reducible apply Wf.cpL | with_reducible apply Wf.cp2 | with_reducible apply Wf.sIs | with_reducible apply Wf.sLs | with_reducible apply Wf.cpU | with_reducible apply Wf.fillI | with_reducible apply Wf.clU | with_reducible apply Wf.dnF | with_reducible apply Wf.gbW))) rfl dL_law_1080 yk_X11_thrown im_X11_thrown se_X11_thrown ml_L_114 rfl (co_338 (by repeat (first | with_reducible exact hw | with_reducible exact hwc | with_reducible assumption | with_reducible apply Wf.sI | with_reducible apply Wf.sL | with_reducible apply Wf.cpI | with_reducible apply Wf.cpL | with_reducible apply Wf.cp2 | with_reducible apply Wf.sIs | with_reducible apply Wf.sLs | with_reducible apply Wf.cpU | with_reducible apply Wf.fillI | with_reducible apply Wf.clU | with_reducible apply Wf.dnF | with_reducible apply Wf.gbW))) (by decide) hc_X11 (by decide) ⟨by show 0 + 60 * bb ≤ 60 * bb; omega, by show 0 + 300 * bb ≤ 300 * bb; omega⟩ (Nat.le_of_ble_eq_true rfl)) ?_
      refine lf (a_iload dL_law_1083 rfl) ?_
      refine lf2 (a_icmp_eq (tgt := 1090) dL_law_1085 (by decide)) (fun h1085 => ?_) (fun h1085 => absurd h1085 (fun z => z k0))
      refine lf (a_iload dL_law_1090 rfl) ?_
      refine lfn (a_if_ne (tgt := 1107) dL_law_1092 (by decide)) (fun h1092 => ?_) (fun h1092 => absurd h1092 (by decide))
      refine lf (a_goto (tgt := 1976) dL_law_1107 (by decide)) ?_
      exact lf (a_loc (LAw i) rfl) (kx V hr hX2)
    · obtain ⟨z, V, tz, km, k0, hr, hv, hx⟩ := hk W (Out.rfl' hW)
      obtain ⟨z, rfl⟩ := tz
      have hX1 : gX W = X := hg.trans hX
      have hX2 : gX V = X := hx.trans hX1
      have hV := hr.wf
      refine lf (a_aload_n dL_law_1042 rfl) ?_
      refine lf (a_aload_n dL_law_1043 rfl) ?_
      refine lf (a_iload dL_law_1044 rfl) ?_
      refine lf (a_iconst (1 : Int32) dL_law_1046 (by decide)) ?_
      refine lf (a_iadd dL_law_1047) ?_
      refine lf (a_sld dL_law_1048 hX (ix_s (k := 1) rfl (show i + 1 < X.1 by omega) (by omega))) ?_
      refine lf (a_aload_n dL_law_1049 rfl) ?_
      refine lf (a_iload dL_law_1050 rfl) ?_
      refine lf (a_iconst (2 : Int32) dL_law_1052 (by decide)) ?_
      refine lf (a_iadd dL_law_1053) ?_
      refine lf (a_sld dL_law_1054 hX (ix_s (k := 2) rfl (show i + 2 < X.1 by omega) (by omega))) ?_
      refine lf (a_aload_n dL_law_1055 rfl) ?_
      refine lf (a_invSH (b2 := (60 * bb, 300 * bb)) (wx_setNeeds_3 (by repeat (first | with_reducible exact hw | with_reducible exact hwc | with_reducible assumption | with_reducible apply Wf.sI | with_reducible apply Wf.sL | with_reducible apply Wf.cpI | with_reducible apply Wf.cpL | with_reducible apply Wf.cp2 | with_reducible apply Wf.sIs | with_reducible apply Wf.sLs | with_reducible apply Wf.cpU | with_reducible apply Wf.fillI | with_reducible apply Wf.clU | with_reducible apply Wf.dnF | with_reducible apply Wf.gbW)) (X.2 (i + 1)) (X.2 (i + 2)) hc) rfl dL_law_1056 yh_L_setNeeds sm_L_setNeeds ml_L_161 rfl (by decide) ⟨by show 1 + 60 * bb ≤ 60 * (bb + 1); omega, by show 6 + 300 * bb ≤ 300 * (bb + 1); omega⟩ (Nat.le_of_ble_eq_true rfl)) ?_
      refine lf (a_istore dL_law_1059 (by decide)) ?_
      refine lf (a_aload_n dL_law_1061 rfl) ?_
      refine lf (a_aload_n dL_law_1062 rfl) ?_
      refine lf (a_iload dL_law_1063 rfl) ?_
      refine lf (a_iconst (1 : Int32) dL_law_1065 (by decide)) ?_
      refine lf (a_iadd dL_law_1066) ?_
      refine lf (a_sld dL_law_1067 hX1 (ix_s (k := 1) rfl (show i + 1 < X.1 by omega) (by omega))) ?_
      refine lf (a_aload_n dL_law_1068 rfl) ?_
      refine lf (a_iload dL_law_1069 rfl) ?_
      refine lf (a_iconst (2 : Int32) dL_law_1071 (by decide)) ?_
      refine lf (a_iadd dL_law_1072) ?_
      refine lf (a_sld dL_law_1073 hX1 (ix_s (k := 2) rfl (show i + 2 < X.1 by omega) (by omega))) ?_
      refine lf (a_inv (b2 := (60 * bb, 300 * bb)) km rfl dL_law_1074 yk_X11_setNeeds im_X11_setNeeds se_X11_setNeeds ml_L_163 rfl (co_338 (by repeat (first | with_reducible exact hw | with_reducible exact hwc | with_reducible assumption | with_reducible apply Wf.sI | with_reducible apply Wf.sL | with_reducible apply Wf.cpI | with_reducible apply Wf.cpL | with_reducible apply Wf.cp2 | with_reducible apply Wf.sIs | with_reducible apply Wf.sLs | with_reducible apply Wf.cpU | with_reducible apply Wf.fillI | with_reducible apply Wf.clU | with_reducible apply Wf.dnF | with_reducible apply Wf.gbW))) (by decide) hc_X11 (by decide) ⟨by show 0 + 60 * bb ≤ 60 * bb; omega, by show 0 + 300 * bb ≤ 300 * bb; omega⟩ (Nat.le_of_ble_eq_true rfl)) ?_
      refine lf (a_istore dL_law_1077 (by decide)) ?_
      refine lf (a_aload_n dL_law_1079 rfl) ?_
      refine lf (a_inv (b2 := (60 * bb, 300 * bb)) (m_thrown (by repeat (first | with_reducible exact hw | with_reducible exact hwc | with_reducible assumption | with_reducible apply Wf.sI | with_reducible apply Wf.sL | with_reducible apply Wf.cpI | with_reducible apply Wf.cpL | with_reducible apply Wf.cp2 | with_reducible apply Wf.sIs | with_reducible apply Wf.sLs | with_reducible apply Wf.cpU | with_reducible apply Wf.fillI | with_reducible apply Wf.clU | with_reducible apply Wf.dnF | with_reducible apply Wf.gbW))) rfl dL_law_1080 yk_X11_thrown im_X11_thrown se_X11_thrown ml_L_114 rfl (co_338 (by repeat (first | with_reducible exact hw | with_reducible exact hwc | with_reducible assumption | with_reducible apply Wf.sI | with_reducible apply Wf.sL | with_reducible apply Wf.cpI | with_reducible apply Wf.cpL | with_reducible apply Wf.cp2 | with_reducible apply Wf.sIs | with_reducible apply Wf.sLs | with_reducible apply Wf.cpU | with_reducible apply Wf.fillI | with_reducible apply Wf.clU | with_reducible apply Wf.dnF | with_reducible apply Wf.gbW))) (by decide) hc_X11 (by decide) ⟨by show 0 + 60 * bb ≤ 60 * bb; omega, by show 0 + 300 * bb ≤ 300 * bb; omega⟩ (Nat.le_of_ble_eq_true rfl)) ?_
      refine lf (a_iload dL_law_1083 rfl) ?_
      refine lf2 (a_icmp_eq (tgt := 1090) dL_law_1085 (by decide)) (fun h1085 => ?_) (fun h1085 => absurd h1085 (fun z => z k0))
      refine lf (a_iload dL_law_1090 rfl) ?_
      refine lfn (a_if_ne (tgt := 1107) dL_law_1092 (by decide)) (fun h1092 => ?_) (fun h1092 => absurd h1092 (by decide))
      refine lf (a_goto (tgt := 1976) dL_law_1107 (by decide)) ?_
      exact lf (a_loc (LAw i) rfl) (kx V hr hX2)
theorem s_loadOrder {μ : Wd} {N i bb : Nat} {X : Nat × (Nat → Int32)} (h : RelV N μ) (hX : gX μ = X) (hi : i + 6 ≤ X.1) (hL : X.1 ≤ 3072) (kx : ∀ V, RelV (N + 1) V → gX V = X → WP Y_L_law RLaw (60 * bb, 300 * bb) V 1976 (LAw i) [] QLw) : WP Y_L_law RLaw (60 * (bb + 1), 300 * (bb + 1)) μ 1110 (LAw i) [] QLw := by
  have hw := h.wf
  rcases o_loadOrder h with ⟨v, W, tv, hW, hc, hg, hk⟩ | ⟨x, k, W, hxk, hW, hc, hg, hk⟩
  · obtain ⟨v, rfl⟩ := tv
    obtain ⟨V, km, k0, hr, hv, hx⟩ := hk (sL W 363 0 (v.toInt64)) ((Out.rfl' hW).sL (S := s363) (i := 363) rfl _ _)
    have hX1 : gX (sL W 363 0 (v.toInt64)) = X := hg.trans hX
    have hX2 : gX V = X := hx.trans hX1
    have hV := hr.wf
    have hv1 : gL V 363 0 = v.toInt64 := hv.trans ((gL_sL _ _ _ _ _ _).trans (if_pos ⟨rfl, rfl⟩))
    refine lf (a_aload_n dL_law_1110 rfl) ?_
    refine lf (a_aload_n dL_law_1111 rfl) ?_
    refine lf (a_invSH (b2 := (60 * bb, 300 * bb)) (wv_loadOrder (by repeat (first | with_reducible exact hw | with_reducible exact hwc | with_reducible assumption | with_reducible apply Wf.sI | with_reducible apply Wf.sL | with_reducible apply Wf.cpI | with_reducible apply Wf.cpL | with_reducible apply Wf.cp2 | with_reducible apply Wf.sIs | with_reducible apply Wf.sLs | with_reducible apply Wf.cpU | with_reducible apply Wf.fillI | with_reducible apply Wf.clU | with_reducible apply Wf.dnF | with_reducible apply Wf.gbW)) hW hc) rfl dL_law_1112 yh_L_loadOrder sm_L_loadOrder ml_L_164 rfl (by decide) ⟨by show 1 + 60 * bb ≤ 60 * (bb + 1); omega, by show 6 + 300 * bb ≤ 300 * (bb + 1); omega⟩ (Nat.le_of_ble_eq_true rfl)) ?_
    refine lf (a_istore dL_law_1115 (by decide)) ?_
    refine lf (a_aload_n dL_law_1117 rfl) ?_
    refine lf (a_inv (b2 := (60 * bb, 300 * bb)) km rfl dL_law_1118 yk_X11_loadOrder im_X11_loadOrder se_X11_loadOrder ml_L_167 rfl (co_338 (by repeat (first | with_reducible exact hw | with_reducible exact hwc | with_reducible assumption | with_reducible apply Wf.sI | with_reducible apply Wf.sL | with_reducible apply Wf.cpI | with_reducible apply Wf.cpL | with_reducible apply Wf.cp2 | with_reducible apply Wf.sIs | with_reducible apply Wf.sLs | with_reducible apply Wf.cpU | with_reducible apply Wf.fillI | with_reducible apply Wf.clU | with_reducible apply Wf.dnF | with_reducible apply Wf.gbW))) (by decide) hc_X11 (by decide) ⟨by show 0 + 60 * bb ≤ 60 * bb; omega, by show 0 + 300 * bb ≤ 300 * bb; omega⟩ (Nat.le_of_ble_eq_true rfl)) ?_
    refine lf (a_istore dL_law_1121 (by decide)) ?_
    refine lf (a_aload_n dL_law_1123 rfl) ?_
    refine lf (a_inv (b2 := (60 * bb, 300 * bb)) (m_thrown (by repeat (first | with_reducible exact hw | with_reducible exact hwc | with_reducible assumption | with_reducible apply Wf.sI | with_reducible apply Wf.sL | with_reducible apply Wf.cpI | with_reducible apply Wf.cpL | with_reducible apply Wf.cp2 | with_reducible apply Wf.sIs | with_reducible apply Wf.sLs | with_reducible apply Wf.cpU | with_reducible apply Wf.fillI | with_reducible apply Wf.clU | with_reducible apply Wf.dnF | with_reducible apply Wf.gbW))) rfl dL_law_1124 yk_X11_thrown im_X11_thrown se_X11_thrown ml_L_114 rfl (co_338 (by repeat (first | with_reducible exact hw | with_reducible exact hwc | with_reducible assumption | with_reducible apply Wf.sI | with_reducible apply Wf.sL | with_reducible apply Wf.cpI | with_reducible apply Wf.cpL | with_reducible apply Wf.cp2 | with_reducible apply Wf.sIs | with_reducible apply Wf.sLs | with_reducible apply Wf.cpU | with_reducible apply Wf.fillI | with_reducible apply Wf.clU | with_reducible apply Wf.dnF | with_reducible apply Wf.gbW))) (by decide) hc_X11 (by decide) ⟨by show 0 + 60 * bb ≤ 60 * bb; omega, by show 0 + 300 * bb ≤ 300 * bb; omega⟩ (Nat.le_of_ble_eq_true rfl)) ?_
    refine lf (a_iload dL_law_1127 rfl) ?_
    refine lf2 (a_icmp_eq (tgt := 1134) dL_law_1129 (by decide)) (fun h1129 => ?_) (fun h1129 => absurd h1129 (fun z => z k0))
    refine lf (a_iload dL_law_1134 rfl) ?_
    refine lfn (a_if_ne (tgt := 1151) dL_law_1136 (by decide)) (fun h1136 => absurd h1136 (by decide)) (fun h1136 => ?_)
    refine lf (a_aload_n dL_law_1139 rfl) ?_
    refine lf (a_iconst (0 : Int32) dL_law_1140 (by decide)) ?_
    refine lf (a_lld dL_law_1141 (ca_363 (by repeat (first | with_reducible exact hw | with_reducible exact hwc | with_reducible assumption | with_reducible apply Wf.sI | with_reducible apply Wf.sL | with_reducible apply Wf.cpI | with_reducible apply Wf.cpL | with_reducible apply Wf.cp2 | with_reducible apply Wf.sIs | with_reducible apply Wf.sLs | with_reducible apply Wf.cpU | with_reducible apply Wf.fillI | with_reducible apply Wf.clU | with_reducible apply Wf.dnF | with_reducible apply Wf.gbW))) (ixn (m := 0) (by decide) (by decide))) ?_
    rw [hv1]
    refine lf (a_iload dL_law_1142 rfl) ?_
    refine lf (a_i2l dL_law_1144) ?_
    refine lf (a_lcmp dL_law_1145) ?_
    refine lf2 (a_if_eq (tgt := 1151) dL_law_1146 (by decide)) (fun h1146 => ?_) (fun h1146 => absurd h1146 (fun z => z (lcmp_self _)))
    refine lf (a_goto (tgt := 1976) dL_law_1151 (by decide)) ?_
    exact lf (a_loc (LAw i) rfl) (kx V hr hX2)
  · simp only [List.mem_cons, List.not_mem_nil, or_false, Prod.mk.injEq] at hxk
    obtain ⟨rfl, rfl⟩ := hxk
    obtain ⟨z, V, tz, km, k0, hr, hv, hx⟩ := hk W (Out.rfl' hW)
    obtain ⟨z, rfl⟩ := tz
    have hX1 : gX W = X := hg.trans hX
    have hX2 : gX V = X := hx.trans hX1
    have hV := hr.wf
    refine lf (a_aload_n dL_law_1110 rfl) ?_
    refine lf (a_aload_n dL_law_1111 rfl) ?_
    refine lf (a_invSH (b2 := (60 * bb, 300 * bb)) (wx_loadOrder_1 (by repeat (first | with_reducible exact hw | with_reducible exact hwc | with_reducible assumption | with_reducible apply Wf.sI | with_reducible apply Wf.sL | with_reducible apply Wf.cpI | with_reducible apply Wf.cpL | with_reducible apply Wf.cp2 | with_reducible apply Wf.sIs | with_reducible apply Wf.sLs | with_reducible apply Wf.cpU | with_reducible apply Wf.fillI | with_reducible apply Wf.clU | with_reducible apply Wf.dnF | with_reducible apply Wf.gbW)) hc) rfl dL_law_1112 yh_L_loadOrder sm_L_loadOrder ml_L_164 rfl (by decide) ⟨by show 1 + 60 * bb ≤ 60 * (bb + 1); omega, by show 6 + 300 * bb ≤ 300 * (bb + 1); omega⟩ (Nat.le_of_ble_eq_true rfl)) ?_
    refine lf (a_istore dL_law_1115 (by decide)) ?_
    refine lf (a_aload_n dL_law_1117 rfl) ?_
    refine lf (a_inv (b2 := (60 * bb, 300 * bb)) km rfl dL_law_1118 yk_X11_loadOrder im_X11_loadOrder se_X11_loadOrder ml_L_167 rfl (co_338 (by repeat (first | with_reducible exact hw | with_reducible exact hwc | with_reducible assumption | with_reducible apply Wf.sI | with_reducible apply Wf.sL | with_reducible apply Wf.cpI | with_reducible apply Wf.cpL | with_reducible apply Wf.cp2 | with_reducible apply Wf.sIs | with_reducible apply Wf.sLs | with_reducible apply Wf.cpU | with_reducible apply Wf.fillI | with_reducible apply Wf.clU | with_reducible apply Wf.dnF | with_reducible apply Wf.gbW))) (by decide) hc_X11 (by decide) ⟨by show 0 + 60 * bb ≤ 60 * bb; omega, by show 0 + 300 * bb ≤ 300 * bb; omega⟩ (Nat.le_of_ble_eq_true rfl)) ?_
    refine lf (a_istore dL_law_1121 (by decide)) ?_
    refine lf (a_aload_n dL_law_1123 rfl) ?_
    refine lf (a_inv (b2 := (60 * bb, 300 * bb)) (m_thrown (by repeat (first | with_reducible exact hw | with_reducible exact hwc | with_reducible assumption | with_reducible apply Wf.sI | with_reducible apply Wf.sL | with_reducible apply Wf.cpI | with_reducible apply Wf.cpL | with_reducible apply Wf.cp2 | with_reducible apply Wf.sIs | with_reducible apply Wf.sLs | with_reducible apply Wf.cpU | with_reducible apply Wf.fillI | with_reducible apply Wf.clU | with_reducible apply Wf.dnF | with_reducible apply Wf.gbW))) rfl dL_law_1124 yk_X11_thrown im_X11_thrown se_X11_thrown ml_L_114 rfl (co_338 (by repeat (first | with_reducible exact hw | with_reducible exact hwc | with_reducible assumption | with_reducible apply Wf.sI | with_reducible apply Wf.sL | with_reducible apply Wf.cpI | with_reducible apply Wf.cpL | with_reducible apply Wf.cp2 | with_reducible apply Wf.sIs | with_reducible apply Wf.sLs | with_reducible apply Wf.cpU | with_reducible apply Wf.fillI | with_reducible apply Wf.clU | with_reducible apply Wf.dnF | with_reducible apply Wf.gbW))) (by decide) hc_X11 (by decide) ⟨by show 0 + 60 * bb ≤ 60 * bb; omega, by show 0 + 300 * bb ≤ 300 * bb; omega⟩ (Nat.le_of_ble_eq_true rfl)) ?_
    refine lf (a_iload dL_law_1127 rfl) ?_
    refine lf2 (a_icmp_eq (tgt := 1134) dL_law_1129 (by decide)) (fun h1129 => ?_) (fun h1129 => absurd h1129 (fun z => z k0))
    refine lf (a_iload dL_law_1134 rfl) ?_
    refine lfn (a_if_ne (tgt := 1151) dL_law_1136 (by decide)) (fun h1136 => ?_) (fun h1136 => absurd h1136 (by decide))
    refine lf (a_goto (tgt := 1976) dL_law_1151 (by decide)) ?_
    exact lf (a_loc (LAw i) rfl) (kx V hr hX2)
theorem s_store {μ : Wd} {N i bb : Nat} {X : Nat × (Nat → Int32)} (h : RelV N μ) (hX : gX μ = X) (hi : i + 6 ≤ X.1) (hL : X.1 ≤ 3072) (kx : ∀ V, RelV (N + 1) V → gX V = X → WP Y_L_law RLaw (60 * bb, 300 * bb) V 1976 (LAw i) [] QLw) : WP Y_L_law RLaw (60 * (bb + 1), 300 * (bb + 1)) μ 1154 (LAw i) [] QLw := by
  have hw := h.wf
  rcases o_store h (X.2 (i + 1)) (X.2 (i + 2)) with ⟨v, W, tv, hW, hc, hg, hk⟩ | ⟨x, k, W, hxk, hW, hc, hg, hk⟩
  · obtain ⟨v, rfl⟩ := tv
    obtain ⟨V, km, k0, hr, hv, hx⟩ := hk (sL W 363 0 (v.toInt64)) ((Out.rfl' hW).sL (S := s363) (i := 363) rfl _ _)
    have hX1 : gX (sL W 363 0 (v.toInt64)) = X := hg.trans hX
    have hX2 : gX V = X := hx.trans hX1
    have hV := hr.wf
    have hv1 : gL V 363 0 = v.toInt64 := hv.trans ((gL_sL _ _ _ _ _ _).trans (if_pos ⟨rfl, rfl⟩))
    refine lf (a_aload_n dL_law_1154 rfl) ?_
    refine lf (a_aload_n dL_law_1155 rfl) ?_
    refine lf (a_iload dL_law_1156 rfl) ?_
    refine lf (a_iconst (1 : Int32) dL_law_1158 (by decide)) ?_
    refine lf (a_iadd dL_law_1159) ?_
    refine lf (a_sld dL_law_1160 hX (ix_s (k := 1) rfl (show i + 1 < X.1 by omega) (by omega))) ?_
    refine lf (a_aload_n dL_law_1161 rfl) ?_
    refine lf (a_iload dL_law_1162 rfl) ?_
    refine lf (a_iconst (2 : Int32) dL_law_1164 (by decide)) ?_
    refine lf (a_iadd dL_law_1165) ?_
    refine lf (a_sld dL_law_1166 hX (ix_s (k := 2) rfl (show i + 2 < X.1 by omega) (by omega))) ?_
    refine lf (a_aload_n dL_law_1167 rfl) ?_
    refine lf (a_invSH (b2 := (60 * bb, 300 * bb)) (wv_store (by repeat (first | with_reducible exact hw | with_reducible exact hwc | with_reducible assumption | with_reducible apply Wf.sI | with_reducible apply Wf.sL | with_reducible apply Wf.cpI | with_reducible apply Wf.cpL | with_reducible apply Wf.cp2 | with_reducible apply Wf.sIs | with_reducible apply Wf.sLs | with_reducible apply Wf.cpU | with_reducible apply Wf.fillI | with_reducible apply Wf.clU | with_reducible apply Wf.dnF | with_reducible apply Wf.gbW)) (X.2 (i + 1)) (X.2 (i + 2)) hW hc) rfl dL_law_1168 yh_L_store sm_L_store ml_L_168 rfl (by decide) ⟨by show 1 + 60 * bb ≤ 60 * (bb + 1); omega, by show 6 + 300 * bb ≤ 300 * (bb + 1); omega⟩ (Nat.le_of_ble_eq_true rfl)) ?_
    refine lf (a_istore dL_law_1171 (by decide)) ?_
    refine lf (a_aload_n dL_law_1173 rfl) ?_
    refine lf (a_aload_n dL_law_1174 rfl) ?_
    refine lf (a_iload dL_law_1175 rfl) ?_
    refine lf (a_iconst (1 : Int32) dL_law_1177 (by decide)) ?_
    refine lf (a_iadd dL_law_1178) ?_
    refine lf (a_sld dL_law_1179 hX1 (ix_s (k := 1) rfl (show i + 1 < X.1 by omega) (by omega))) ?_
    refine lf (a_aload_n dL_law_1180 rfl) ?_
    refine lf (a_iload dL_law_1181 rfl) ?_
    refine lf (a_iconst (2 : Int32) dL_law_1183 (by decide)) ?_
    refine lf (a_iadd dL_law_1184) ?_
    refine lf (a_sld dL_law_1185 hX1 (ix_s (k := 2) rfl (show i + 2 < X.1 by omega) (by omega))) ?_
    refine lf (a_inv (b2 := (60 * bb, 300 * bb)) km rfl dL_law_1186 yk_X11_store im_X11_store se_X11_store ml_L_170 rfl (co_338 (by repeat (first | with_reducible exact hw | with_reducible exact hwc | with_reducible assumption | with_reducible apply Wf.sI | with_reducible apply Wf.sL | with_reducible apply Wf.cpI | with_reducible apply Wf.cpL | with_reducible apply Wf.cp2 | with_reducible apply Wf.sIs | with_reducible apply Wf.sLs | with_reducible apply Wf.cpU | with_reducible apply Wf.fillI | with_reducible apply Wf.clU | with_reducible apply Wf.dnF | with_reducible apply Wf.gbW))) (by decide) hc_X11 (by decide) ⟨by show 0 + 60 * bb ≤ 60 * bb; omega, by show 0 + 300 * bb ≤ 300 * bb; omega⟩ (Nat.le_of_ble_eq_true rfl)) ?_
    refine lf (a_istore dL_law_1189 (by decide)) ?_
    refine lf (a_aload_n dL_law_1191 rfl) ?_
    refine lf (a_inv (b2 := (60 * bb, 300 * bb)) (m_thrown (by repeat (first | with_reducible exact hw | with_reducible exact hwc | with_reducible assumption | with_reducible apply Wf.sI | with_reducible apply Wf.sL | with_reducible apply Wf.cpI | with_reducible apply Wf.cpL | with_reducible apply Wf.cp2 | with_reducible apply Wf.sIs | with_reducible apply Wf.sLs | with_reducible apply Wf.cpU | with_reducible apply Wf.fillI | with_reducible apply Wf.clU | with_reducible apply Wf.dnF | with_reducible apply Wf.gbW))) rfl dL_law_1192 yk_X11_thrown im_X11_thrown se_X11_thrown ml_L_114 rfl (co_338 (by repeat (first | with_reducible exact hw | with_reducible exact hwc | with_reducible assumption | with_reducible apply Wf.sI | with_reducible apply Wf.sL | with_reducible apply Wf.cpI | with_reducible apply Wf.cpL | with_reducible apply Wf.cp2 | with_reducible apply Wf.sIs | with_reducible apply Wf.sLs | with_reducible apply Wf.cpU | with_reducible apply Wf.fillI | with_reducible apply Wf.clU | with_reducible apply Wf.dnF | with_reducible apply Wf.gbW))) (by decide) hc_X11 (by decide) ⟨by show 0 + 60 * bb ≤ 60 * bb; omega, by show 0 + 300 * bb ≤ 300 * bb; omega⟩ (Nat.le_of_ble_eq_true rfl)) ?_
    refine lf (a_iload dL_law_1195 rfl) ?_
    refine lf2 (a_icmp_eq (tgt := 1202) dL_law_1197 (by decide)) (fun h1197 => ?_) (fun h1197 => absurd h1197 (fun z => z k0))
    refine lf (a_iload dL_law_1202 rfl) ?_
    refine lfn (a_if_ne (tgt := 1219) dL_law_1204 (by decide)) (fun h1204 => absurd h1204 (by decide)) (fun h1204 => ?_)
    refine lf (a_aload_n dL_law_1207 rfl) ?_
    refine lf (a_iconst (0 : Int32) dL_law_1208 (by decide)) ?_
    refine lf (a_lld dL_law_1209 (ca_363 (by repeat (first | with_reducible exact hw | with_reducible exact hwc | with_reducible assumption | with_reducible apply Wf.sI | with_reducible apply Wf.sL | with_reducible apply Wf.cpI | with_reducible apply Wf.cpL | with_reducible apply Wf.cp2 | with_reducible apply Wf.sIs | with_reducible apply Wf.sLs | with_reducible apply Wf.cpU | with_reducible apply Wf.fillI | with_reducible apply Wf.clU | with_reducible apply Wf.dnF | with_reducible apply Wf.gbW))) (ixn (m := 0) (by decide) (by decide))) ?_
    rw [hv1]
    refine lf (a_iload dL_law_1210 rfl) ?_
    refine lf (a_i2l dL_law_1212) ?_
    refine lf (a_lcmp dL_law_1213) ?_
    refine lf2 (a_if_eq (tgt := 1219) dL_law_1214 (by decide)) (fun h1214 => ?_) (fun h1214 => absurd h1214 (fun z => z (lcmp_self _)))
    refine lf (a_goto (tgt := 1976) dL_law_1219 (by decide)) ?_
    exact lf (a_loc (LAw i) rfl) (kx V hr hX2)
  · simp only [List.mem_cons, List.not_mem_nil, or_false, Prod.mk.injEq] at hxk
    rcases hxk with ⟨rfl, rfl⟩ | ⟨rfl, rfl⟩ | ⟨rfl, rfl⟩
    · obtain ⟨z, V, tz, km, k0, hr, hv, hx⟩ := hk W (Out.rfl' hW)
      obtain ⟨z, rfl⟩ := tz
      have hX1 : gX W = X := hg.trans hX
      have hX2 : gX V = X := hx.trans hX1
      have hV := hr.wf
      refine lf (a_aload_n dL_law_1154 rfl) ?_
      refine lf (a_aload_n dL_law_1155 rfl) ?_
      refine lf (a_iload dL_law_1156 rfl) ?_
      refine lf (a_iconst (1 : Int32) dL_law_1158 (by decide)) ?_
      refine lf (a_iadd dL_law_1159) ?_
      refine lf (a_sld dL_law_1160 hX (ix_s (k := 1) rfl (show i + 1 < X.1 by omega) (by omega))) ?_
      refine lf (a_aload_n dL_law_1161 rfl) ?_
      refine lf (a_iload dL_law_1162 rfl) ?_
      refine lf (a_iconst (2 : Int32) dL_law_1164 (by decide)) ?_
      refine lf (a_iadd dL_law_1165) ?_
      refine lf (a_sld dL_law_1166 hX (ix_s (k := 2) rfl (show i + 2 < X.1 by omega) (by omega))) ?_
      refine lf (a_aload_n dL_law_1167 rfl) ?_
      refine lf (a_invSH (b2 := (60 * bb, 300 * bb)) (wx_store_1 (by repeat (first | with_reducible exact hw | with_reducible exact hwc | with_reducible assumption | with_reducible apply Wf.sI | with_reducible apply Wf.sL | with_reducible apply Wf.cpI | with_reducible apply Wf.cpL | with_reducible apply Wf.cp2 | with_reducible apply Wf.sIs | with_reducible apply Wf.sLs | with_reducible apply Wf.cpU | with_reducible apply Wf.fillI | with_reducible apply Wf.clU | with_reducible apply Wf.dnF | with_reducible apply Wf.gbW)) (X.2 (i + 1)) (X.2 (i + 2)) hc) rfl dL_law_1168 yh_L_store sm_L_store ml_L_168 rfl (by decide) ⟨by show 1 + 60 * bb ≤ 60 * (bb + 1); omega, by show 6 + 300 * bb ≤ 300 * (bb + 1); omega⟩ (Nat.le_of_ble_eq_true rfl)) ?_
      refine lf (a_istore dL_law_1171 (by decide)) ?_
      refine lf (a_aload_n dL_law_1173 rfl) ?_
      refine lf (a_aload_n dL_law_1174 rfl) ?_
      refine lf (a_iload dL_law_1175 rfl) ?_
      refine lf (a_iconst (1 : Int32) dL_law_1177 (by decide)) ?_
      refine lf (a_iadd dL_law_1178) ?_
      refine lf (a_sld dL_law_1179 hX1 (ix_s (k := 1) rfl (show i + 1 < X.1 by omega) (by omega))) ?_
      refine lf (a_aload_n dL_law_1180 rfl) ?_
      refine lf (a_iload dL_law_1181 rfl) ?_
      refine lf (a_iconst (2 : Int32) dL_law_1183 (by decide)) ?_
      refine lf (a_iadd dL_law_1184) ?_
      refine lf (a_sld dL_law_1185 hX1 (ix_s (k := 2) rfl (show i + 2 < X.1 by omega) (by omega))) ?_
      refine lf (a_inv (b2 := (60 * bb, 300 * bb)) km rfl dL_law_1186 yk_X11_store im_X11_store se_X11_store ml_L_170 rfl (co_338 (by repeat (first | with_reducible exact hw | with_reducible exact hwc | with_reducible assumption | with_reducible apply Wf.sI | with_reducible apply Wf.sL | with_reducible apply Wf.cpI | with_reducible apply Wf.cpL | with_reducible apply Wf.cp2 | with_reducible apply Wf.sIs | with_reducible apply Wf.sLs | with_reducible apply Wf.cpU | with_reducible apply Wf.fillI | with_reducible apply Wf.clU | with_reducible apply Wf.dnF | with_reducible apply Wf.gbW))) (by decide) hc_X11 (by decide) ⟨by show 0 + 60 * bb ≤ 60 * bb; omega, by show 0 + 300 * bb ≤ 300 * bb; omega⟩ (Nat.le_of_ble_eq_true rfl)) ?_
      refine lf (a_istore dL_law_1189 (by decide)) ?_
      refine lf (a_aload_n dL_law_1191 rfl) ?_
      refine lf (a_inv (b2 := (60 * bb, 300 * bb)) (m_thrown (by repeat (first | with_reducible exact hw | with_reducible exact hwc | with_reducible assumption | with_reducible apply Wf.sI | with_reducible apply Wf.sL | with_reducible apply Wf.cpI | with_reducible apply Wf.cpL | with_reducible apply Wf.cp2 | with_reducible apply Wf.sIs | with_reducible apply Wf.sLs | with_reducible apply Wf.cpU | with_reducible apply Wf.fillI | with_reducible apply Wf.clU | with_reducible apply Wf.dnF | with_reducible apply Wf.gbW))) rfl dL_law_1192 yk_X11_thrown im_X11_thrown se_X11_thrown ml_L_114 rfl (co_338 (by repeat (first | with_reducible exact hw | with_reducible exact hwc | with_reducible assumption | with_reducible apply Wf.sI | with_reducible apply Wf.sL | with_reducible apply Wf.cpI | with_reducible apply Wf.cpL | with_reducible apply Wf.cp2 | with_reducible apply Wf.sIs | with_reducible apply Wf.sLs | with_reducible apply Wf.cpU | with_reducible apply Wf.fillI | with_reducible apply Wf.clU | with_reducible apply Wf.dnF | with_reducible apply Wf.gbW))) (by decide) hc_X11 (by decide) ⟨by show 0 + 60 * bb ≤ 60 * bb; omega, by show 0 + 300 * bb ≤ 300 * bb; omega⟩ (Nat.le_of_ble_eq_true rfl)) ?_
      refine lf (a_iload dL_law_1195 rfl) ?_
      refine lf2 (a_icmp_eq (tgt := 1202) dL_law_1197 (by decide)) (fun h1197 => ?_) (fun h1197 => absurd h1197 (fun z => z k0))
      refine lf (a_iload dL_law_1202 rfl) ?_
      refine lfn (a_if_ne (tgt := 1219) dL_law_1204 (by decide)) (fun h1204 => ?_) (fun h1204 => absurd h1204 (by decide))
      refine lf (a_goto (tgt := 1976) dL_law_1219 (by decide)) ?_
      exact lf (a_loc (LAw i) rfl) (kx V hr hX2)
    · obtain ⟨z, V, tz, km, k0, hr, hv, hx⟩ := hk W (Out.rfl' hW)
      obtain ⟨z, rfl⟩ := tz
      have hX1 : gX W = X := hg.trans hX
      have hX2 : gX V = X := hx.trans hX1
      have hV := hr.wf
      refine lf (a_aload_n dL_law_1154 rfl) ?_
      refine lf (a_aload_n dL_law_1155 rfl) ?_
      refine lf (a_iload dL_law_1156 rfl) ?_
      refine lf (a_iconst (1 : Int32) dL_law_1158 (by decide)) ?_
      refine lf (a_iadd dL_law_1159) ?_
      refine lf (a_sld dL_law_1160 hX (ix_s (k := 1) rfl (show i + 1 < X.1 by omega) (by omega))) ?_
      refine lf (a_aload_n dL_law_1161 rfl) ?_
      refine lf (a_iload dL_law_1162 rfl) ?_
      refine lf (a_iconst (2 : Int32) dL_law_1164 (by decide)) ?_
      refine lf (a_iadd dL_law_1165) ?_
      refine lf (a_sld dL_law_1166 hX (ix_s (k := 2) rfl (show i + 2 < X.1 by omega) (by omega))) ?_
      refine lf (a_aload_n dL_law_1167 rfl) ?_
      refine lf (a_invSH (b2 := (60 * bb, 300 * bb)) (wx_store_2 (by repeat (first | with_reducible exact hw | with_reducible exact hwc | with_reducible assumption | with_reducible apply Wf.sI | with_reducible apply Wf.sL | with_reducible apply Wf.cpI | with_reducible apply Wf.cpL | with_reducible apply Wf.cp2 | with_reducible apply Wf.sIs | with_reducible apply Wf.sLs | with_reducible apply Wf.cpU | with_reducible apply Wf.fillI | with_reducible apply Wf.clU | with_reducible apply Wf.dnF | with_reducible apply Wf.gbW)) (X.2 (i + 1)) (X.2 (i + 2)) hc) rfl dL_law_1168 yh_L_store sm_L_store ml_L_168 rfl (by decide) ⟨by show 1 + 60 * bb ≤ 60 * (bb + 1); omega, by show 6 + 300 * bb ≤ 300 * (bb + 1); omega⟩ (Nat.le_of_ble_eq_true rfl)) ?_
      refine lf (a_istore dL_law_1171 (by decide)) ?_
      refine lf (a_aload_n dL_law_1173 rfl) ?_
      refine lf (a_aload_n dL_law_1174 rfl) ?_
      refine lf (a_iload dL_law_1175 rfl) ?_
      refine lf (a_iconst (1 : Int32) dL_law_1177 (by decide)) ?_
      refine lf (a_iadd dL_law_1178) ?_
      refine lf (a_sld dL_law_1179 hX1 (ix_s (k := 1) rfl (show i + 1 < X.1 by omega) (by omega))) ?_
      refine lf (a_aload_n dL_law_1180 rfl) ?_
      refine lf (a_iload dL_law_1181 rfl) ?_
      refine lf (a_iconst (2 : Int32) dL_law_1183 (by decide)) ?_
      refine lf (a_iadd dL_law_1184) ?_
      refine lf (a_sld dL_law_1185 hX1 (ix_s (k := 2) rfl (show i + 2 < X.1 by omega) (by omega))) ?_
      refine lf (a_inv (b2 := (60 * bb, 300 * bb)) km rfl dL_law_1186 yk_X11_store im_X11_store se_X11_store ml_L_170 rfl (co_338 (by repeat (first | with_reducible exact hw | with_reducible exact hwc | with_reducible assumption | with_reducible apply Wf.sI | with_reducible apply Wf.sL | with_reducible apply Wf.cpI | with_reducible apply Wf.cpL | with_reducible apply Wf.cp2 | with_reducible apply Wf.sIs | with_reducible apply Wf.sLs | with_reducible apply Wf.cpU | with_reducible apply Wf.fillI | with_reducible apply Wf.clU | with_reducible apply Wf.dnF | with_reducible apply Wf.gbW))) (by decide) hc_X11 (by decide) ⟨by show 0 + 60 * bb ≤ 60 * bb; omega, by show 0 + 300 * bb ≤ 300 * bb; omega⟩ (Nat.le_of_ble_eq_true rfl)) ?_
      refine lf (a_istore dL_law_1189 (by decide)) ?_
      refine lf (a_aload_n dL_law_1191 rfl) ?_
      refine lf (a_inv (b2 := (60 * bb, 300 * bb)) (m_thrown (by repeat (first | with_reducible exact hw | with_reducible exact hwc | with_reducible assumption | with_reducible apply Wf.sI | with_reducible apply Wf.sL | with_reducible apply Wf.cpI | with_reducible apply Wf.cpL | with_reducible apply Wf.cp2 | with_reducible apply Wf.sIs | with_reducible apply Wf.sLs | with_reducible apply Wf.cpU | with_reducible apply Wf.fillI | with_reducible apply Wf.clU | with_reducible apply Wf.dnF | with_reducible apply Wf.gbW))) rfl dL_law_1192 yk_X11_thrown im_X11_thrown se_X11_thrown ml_L_114 rfl (co_338 (by repeat (first | with_reducible exact hw | with_reducible exact hwc | with_reducible assumption | with_reducible apply Wf.sI | with_reducible apply Wf.sL | with_reducible apply Wf.cpI | with_reducible apply Wf.cpL | with_reducible apply Wf.cp2 | with_reducible apply Wf.sIs | with_reducible apply Wf.sLs | with_reducible apply Wf.cpU | with_reducible apply Wf.fillI | with_reducible apply Wf.clU | with_reducible apply Wf.dnF | with_reducible apply Wf.gbW))) (by decide) hc_X11 (by decide) ⟨by show 0 + 60 * bb ≤ 60 * bb; omega, by show 0 + 300 * bb ≤ 300 * bb; omega⟩ (Nat.le_of_ble_eq_true rfl)) ?_
      refine lf (a_iload dL_law_1195 rfl) ?_
      refine lf2 (a_icmp_eq (tgt := 1202) dL_law_1197 (by decide)) (fun h1197 => ?_) (fun h1197 => absurd h1197 (fun z => z k0))
      refine lf (a_iload dL_law_1202 rfl) ?_
      refine lfn (a_if_ne (tgt := 1219) dL_law_1204 (by decide)) (fun h1204 => ?_) (fun h1204 => absurd h1204 (by decide))
      refine lf (a_goto (tgt := 1976) dL_law_1219 (by decide)) ?_
      exact lf (a_loc (LAw i) rfl) (kx V hr hX2)
    · obtain ⟨z, V, tz, km, k0, hr, hv, hx⟩ := hk W (Out.rfl' hW)
      obtain ⟨z, rfl⟩ := tz
      have hX1 : gX W = X := hg.trans hX
      have hX2 : gX V = X := hx.trans hX1
      have hV := hr.wf
      refine lf (a_aload_n dL_law_1154 rfl) ?_
      refine lf (a_aload_n dL_law_1155 rfl) ?_
      refine lf (a_iload dL_law_1156 rfl) ?_
      refine lf (a_iconst (1 : Int32) dL_law_1158 (by decide)) ?_
      refine lf (a_iadd dL_law_1159) ?_
      refine lf (a_sld dL_law_1160 hX (ix_s (k := 1) rfl (show i + 1 < X.1 by omega) (by omega))) ?_
      refine lf (a_aload_n dL_law_1161 rfl) ?_
      refine lf (a_iload dL_law_1162 rfl) ?_
      refine lf (a_iconst (2 : Int32) dL_law_1164 (by decide)) ?_
      refine lf (a_iadd dL_law_1165) ?_
      refine lf (a_sld dL_law_1166 hX (ix_s (k := 2) rfl (show i + 2 < X.1 by omega) (by omega))) ?_
      refine lf (a_aload_n dL_law_1167 rfl) ?_
      refine lf (a_invSH (b2 := (60 * bb, 300 * bb)) (wx_store_3 (by repeat (first | with_reducible exact hw | with_reducible exact hwc | with_reducible assumption | with_reducible apply Wf.sI | with_reducible apply Wf.sL | with_reducible apply Wf.cpI | with_reducible apply Wf.cpL | with_reducible apply Wf.cp2 | with_reducible apply Wf.sIs | with_reducible apply Wf.sLs | with_reducible apply Wf.cpU | with_reducible apply Wf.fillI | with_reducible apply Wf.clU | with_reducible apply Wf.dnF | with_reducible apply Wf.gbW)) (X.2 (i + 1)) (X.2 (i + 2)) hc) rfl dL_law_1168 yh_L_store sm_L_store ml_L_168 rfl (by decide) ⟨by show 1 + 60 * bb ≤ 60 * (bb + 1); omega, by show 6 + 300 * bb ≤ 300 * (bb + 1); omega⟩ (Nat.le_of_ble_eq_true rfl)) ?_
      refine lf (a_istore dL_law_1171 (by decide)) ?_
      refine lf (a_aload_n dL_law_1173 rfl) ?_
      refine lf (a_aload_n dL_law_1174 rfl) ?_
      refine lf (a_iload dL_law_1175 rfl) ?_
      refine lf (a_iconst (1 : Int32) dL_law_1177 (by decide)) ?_
      refine lf (a_iadd dL_law_1178) ?_
      refine lf (a_sld dL_law_1179 hX1 (ix_s (k := 1) rfl (show i + 1 < X.1 by omega) (by omega))) ?_
      refine lf (a_aload_n dL_law_1180 rfl) ?_
      refine lf (a_iload dL_law_1181 rfl) ?_
      refine lf (a_iconst (2 : Int32) dL_law_1183 (by decide)) ?_
      refine lf (a_iadd dL_law_1184) ?_
      refine lf (a_sld dL_law_1185 hX1 (ix_s (k := 2) rfl (show i + 2 < X.1 by omega) (by omega))) ?_
      refine lf (a_inv (b2 := (60 * bb, 300 * bb)) km rfl dL_law_1186 yk_X11_store im_X11_store se_X11_store ml_L_170 rfl (co_338 (by repeat (first | with_reducible exact hw | with_reducible exact hwc | with_reducible assumption | with_reducible apply Wf.sI | with_reducible apply Wf.sL | with_reducible apply Wf.cpI | with_reducible apply Wf.cpL | with_reducible apply Wf.cp2 | with_reducible apply Wf.sIs | with_reducible apply Wf.sLs | with_reducible apply Wf.cpU | with_reducible apply Wf.fillI | with_reducible apply Wf.clU | with_reducible apply Wf.dnF | with_reducible apply Wf.gbW))) (by decide) hc_X11 (by decide) ⟨by show 0 + 60 * bb ≤ 60 * bb; omega, by show 0 + 300 * bb ≤ 300 * bb; omega⟩ (Nat.le_of_ble_eq_true rfl)) ?_
      refine lf (a_istore dL_law_1189 (by decide)) ?_
      refine lf (a_aload_n dL_law_1191 rfl) ?_
      refine lf (a_inv (b2 := (60 * bb, 300 * bb)) (m_thrown (by repeat (first | with_reducible exact hw | with_reducible exact hwc | with_reducible assumption | with_reducible apply Wf.sI | with_reducible apply Wf.sL | with_reducible apply Wf.cpI | with_reducible apply Wf.cpL | with_reducible apply Wf.cp2 | with_reducible apply Wf.sIs | with_reducible apply Wf.sLs | with_reducible apply Wf.cpU | with_reducible apply Wf.fillI | with_reducible apply Wf.clU | with_reducible apply Wf.dnF | with_reducible apply Wf.gbW))) rfl dL_law_1192 yk_X11_thrown im_X11_thrown se_X11_thrown ml_L_114 rfl (co_338 (by repeat (first | with_reducible exact hw | with_reducible exact hwc | with_reducible assumption | with_reducible apply Wf.sI | with_reducible apply Wf.sL | with_reducible apply Wf.cpI | with_reducible apply Wf.cpL | with_reducible apply Wf.cp2 | with_reducible apply Wf.sIs | with_reducible apply Wf.sLs | with_reducible apply Wf.cpU | with_reducible apply Wf.fillI | with_reducible apply Wf.clU | with_reducible apply Wf.dnF | with_reducible apply Wf.gbW))) (by decide) hc_X11 (by decide) ⟨by show 0 + 60 * bb ≤ 60 * bb; omega, by show 0 + 300 * bb ≤ 300 * bb; omega⟩ (Nat.le_of_ble_eq_true rfl)) ?_
      refine lf (a_iload dL_law_1195 rfl) ?_
      refine lf2 (a_icmp_eq (tgt := 1202) dL_law_1197 (by decide)) (fun h1197 => ?_) (fun h1197 => absurd h1197 (fun z => z k0))
      refine lf (a_iload dL_law_1202 rfl) ?_
      refine lfn (a_if_ne (tgt := 1219) dL_law_1204 (by decide)) (fun h1204 => ?_) (fun h1204 => absurd h1204 (by decide))
      refine lf (a_goto (tgt := 1976) dL_law_1219 (by decide)) ?_
      exact lf (a_loc (LAw i) rfl) (kx V hr hX2)
theorem s_unload {μ : Wd} {N i bb : Nat} {X : Nat × (Nat → Int32)} (h : RelV N μ) (hX : gX μ = X) (hi : i + 6 ≤ X.1) (hL : X.1 ≤ 3072) (kx : ∀ V, RelV (N + 1) V → gX V = X → WP Y_L_law RLaw (60 * bb, 300 * bb) V 1976 (LAw i) [] QLw) : WP Y_L_law RLaw (60 * (bb + 1), 300 * (bb + 1)) μ 1222 (LAw i) [] QLw := by
  have hw := h.wf
  rcases o_unload h (X.2 (i + 1)) (X.2 (i + 2)) with ⟨v, W, tv, hW, hc, hg, hk⟩ | ⟨x, k, W, hxk, hW, hc, hg, hk⟩
  · obtain ⟨v, rfl⟩ := tv
    obtain ⟨V, km, k0, hr, hv, hx⟩ := hk (sL W 363 0 (v.toInt64)) ((Out.rfl' hW).sL (S := s363) (i := 363) rfl _ _)
    have hX1 : gX (sL W 363 0 (v.toInt64)) = X := hg.trans hX
    have hX2 : gX V = X := hx.trans hX1
    have hV := hr.wf
    have hv1 : gL V 363 0 = v.toInt64 := hv.trans ((gL_sL _ _ _ _ _ _).trans (if_pos ⟨rfl, rfl⟩))
    refine lf (a_aload_n dL_law_1222 rfl) ?_
    refine lf (a_aload_n dL_law_1223 rfl) ?_
    refine lf (a_iload dL_law_1224 rfl) ?_
    refine lf (a_iconst (1 : Int32) dL_law_1226 (by decide)) ?_
    refine lf (a_iadd dL_law_1227) ?_
    refine lf (a_sld dL_law_1228 hX (ix_s (k := 1) rfl (show i + 1 < X.1 by omega) (by omega))) ?_
    refine lf (a_aload_n dL_law_1229 rfl) ?_
    refine lf (a_iload dL_law_1230 rfl) ?_
    refine lf (a_iconst (2 : Int32) dL_law_1232 (by decide)) ?_
    refine lf (a_iadd dL_law_1233) ?_
    refine lf (a_sld dL_law_1234 hX (ix_s (k := 2) rfl (show i + 2 < X.1 by omega) (by omega))) ?_
    refine lf (a_aload_n dL_law_1235 rfl) ?_
    refine lf (a_invSH (b2 := (60 * bb, 300 * bb)) (wv_unload (by repeat (first | with_reducible exact hw | with_reducible exact hwc | with_reducible assumption | with_reducible apply Wf.sI | with_reducible apply Wf.sL | with_reducible apply Wf.cpI | with_reducible apply Wf.cpL | with_reducible apply Wf.cp2 | with_reducible apply Wf.sIs | with_reducible apply Wf.sLs | with_reducible apply Wf.cpU | with_reducible apply Wf.fillI | with_reducible apply Wf.clU | with_reducible apply Wf.dnF | with_reducible apply Wf.gbW)) (X.2 (i + 1)) (X.2 (i + 2)) hW hc) rfl dL_law_1236 yh_L_unload sm_L_unload ml_L_171 rfl (by decide) ⟨by show 1 + 60 * bb ≤ 60 * (bb + 1); omega, by show 6 + 300 * bb ≤ 300 * (bb + 1); omega⟩ (Nat.le_of_ble_eq_true rfl)) ?_
    refine lf (a_istore dL_law_1239 (by decide)) ?_
    refine lf (a_aload_n dL_law_1241 rfl) ?_
    refine lf (a_aload_n dL_law_1242 rfl) ?_
    refine lf (a_iload dL_law_1243 rfl) ?_
    refine lf (a_iconst (1 : Int32) dL_law_1245 (by decide)) ?_
    refine lf (a_iadd dL_law_1246) ?_
    refine lf (a_sld dL_law_1247 hX1 (ix_s (k := 1) rfl (show i + 1 < X.1 by omega) (by omega))) ?_
    refine lf (a_aload_n dL_law_1248 rfl) ?_
    refine lf (a_iload dL_law_1249 rfl) ?_
    refine lf (a_iconst (2 : Int32) dL_law_1251 (by decide)) ?_
    refine lf (a_iadd dL_law_1252) ?_
    refine lf (a_sld dL_law_1253 hX1 (ix_s (k := 2) rfl (show i + 2 < X.1 by omega) (by omega))) ?_
    refine lf (a_inv (b2 := (60 * bb, 300 * bb)) km rfl dL_law_1254 yk_X11_unload im_X11_unload se_X11_unload ml_L_173 rfl (co_338 (by repeat (first | with_reducible exact hw | with_reducible exact hwc | with_reducible assumption | with_reducible apply Wf.sI | with_reducible apply Wf.sL | with_reducible apply Wf.cpI | with_reducible apply Wf.cpL | with_reducible apply Wf.cp2 | with_reducible apply Wf.sIs | with_reducible apply Wf.sLs | with_reducible apply Wf.cpU | with_reducible apply Wf.fillI | with_reducible apply Wf.clU | with_reducible apply Wf.dnF | with_reducible apply Wf.gbW))) (by decide) hc_X11 (by decide) ⟨by show 0 + 60 * bb ≤ 60 * bb; omega, by show 0 + 300 * bb ≤ 300 * bb; omega⟩ (Nat.le_of_ble_eq_true rfl)) ?_
    refine lf (a_istore dL_law_1257 (by decide)) ?_
    refine lf (a_aload_n dL_law_1259 rfl) ?_
    refine lf (a_inv (b2 := (60 * bb, 300 * bb)) (m_thrown (by repeat (first | with_reducible exact hw | with_reducible exact hwc | with_reducible assumption | with_reducible apply Wf.sI | with_reducible apply Wf.sL | with_reducible apply Wf.cpI | with_reducible apply Wf.cpL | with_reducible apply Wf.cp2 | with_reducible apply Wf.sIs | with_reducible apply Wf.sLs | with_reducible apply Wf.cpU | with_reducible apply Wf.fillI | with_reducible apply Wf.clU | with_reducible apply Wf.dnF | with_reducible apply Wf.gbW))) rfl dL_law_1260 yk_X11_thrown im_X11_thrown se_X11_thrown ml_L_114 rfl (co_338 (by repeat (first | with_reducible exact hw | with_reducible exact hwc | with_reducible assumption | with_reducible apply Wf.sI | with_reducible apply Wf.sL | with_reducible apply Wf.cpI | with_reducible apply Wf.cpL | with_reducible apply Wf.cp2 | with_reducible apply Wf.sIs | with_reducible apply Wf.sLs | with_reducible apply Wf.cpU | with_reducible apply Wf.fillI | with_reducible apply Wf.clU | with_reducible apply Wf.dnF | with_reducible apply Wf.gbW))) (by decide) hc_X11 (by decide) ⟨by show 0 + 60 * bb ≤ 60 * bb; omega, by show 0 + 300 * bb ≤ 300 * bb; omega⟩ (Nat.le_of_ble_eq_true rfl)) ?_
    refine lf (a_iload dL_law_1263 rfl) ?_
    refine lf2 (a_icmp_eq (tgt := 1270) dL_law_1265 (by decide)) (fun h1265 => ?_) (fun h1265 => absurd h1265 (fun z => z k0))
    refine lf (a_iload dL_law_1270 rfl) ?_
    refine lfn (a_if_ne (tgt := 1287) dL_law_1272 (by decide)) (fun h1272 => absurd h1272 (by decide)) (fun h1272 => ?_)
    refine lf (a_aload_n dL_law_1275 rfl) ?_
    refine lf (a_iconst (0 : Int32) dL_law_1276 (by decide)) ?_
    refine lf (a_lld dL_law_1277 (ca_363 (by repeat (first | with_reducible exact hw | with_reducible exact hwc | with_reducible assumption | with_reducible apply Wf.sI | with_reducible apply Wf.sL | with_reducible apply Wf.cpI | with_reducible apply Wf.cpL | with_reducible apply Wf.cp2 | with_reducible apply Wf.sIs | with_reducible apply Wf.sLs | with_reducible apply Wf.cpU | with_reducible apply Wf.fillI | with_reducible apply Wf.clU | with_reducible apply Wf.dnF | with_reducible apply Wf.gbW))) (ixn (m := 0) (by decide) (by decide))) ?_
    rw [hv1]
    refine lf (a_iload dL_law_1278 rfl) ?_
    refine lf (a_i2l dL_law_1280) ?_
    refine lf (a_lcmp dL_law_1281) ?_
    refine lf2 (a_if_eq (tgt := 1287) dL_law_1282 (by decide)) (fun h1282 => ?_) (fun h1282 => absurd h1282 (fun z => z (lcmp_self _)))
    refine lf (a_goto (tgt := 1976) dL_law_1287 (by decide)) ?_
    exact lf (a_loc (LAw i) rfl) (kx V hr hX2)
  · simp only [List.mem_cons, List.not_mem_nil, or_false, Prod.mk.injEq] at hxk
    rcases hxk with ⟨rfl, rfl⟩ | ⟨rfl, rfl⟩ | ⟨rfl, rfl⟩
    · obtain ⟨z, V, tz, km, k0, hr, hv, hx⟩ := hk W (Out.rfl' hW)
      obtain ⟨z, rfl⟩ := tz
      have hX1 : gX W = X := hg.trans hX
      have hX2 : gX V = X := hx.trans hX1
      have hV := hr.wf
      refine lf (a_aload_n dL_law_1222 rfl) ?_
      refine lf (a_aload_n dL_law_1223 rfl) ?_
      refine lf (a_iload dL_law_1224 rfl) ?_
      refine lf (a_iconst (1 : Int32) dL_law_1226 (by decide)) ?_
      refine lf (a_iadd dL_law_1227) ?_
      refine lf (a_sld dL_law_1228 hX (ix_s (k := 1) rfl (show i + 1 < X.1 by omega) (by omega))) ?_
      refine lf (a_aload_n dL_law_1229 rfl) ?_
      refine lf (a_iload dL_law_1230 rfl) ?_
      refine lf (a_iconst (2 : Int32) dL_law_1232 (by decide)) ?_
      refine lf (a_iadd dL_law_1233) ?_
      refine lf (a_sld dL_law_1234 hX (ix_s (k := 2) rfl (show i + 2 < X.1 by omega) (by omega))) ?_
      refine lf (a_aload_n dL_law_1235 rfl) ?_
      refine lf (a_invSH (b2 := (60 * bb, 300 * bb)) (wx_unload_1 (by repeat (first | with_reducible exact hw | with_reducible exact hwc | with_reducible assumption | with_reducible apply Wf.sI | with_reducible apply Wf.sL | with_reducible apply Wf.cpI | with_reducible apply Wf.cpL | with_reducible apply Wf.cp2 | with_reducible apply Wf.sIs | with_reducible apply Wf.sLs | with_reducible apply Wf.cpU | with_reducible apply Wf.fillI | with_reducible apply Wf.clU | with_reducible apply Wf.dnF | with_reducible apply Wf.gbW)) (X.2 (i + 1)) (X.2 (i + 2)) hc) rfl dL_law_1236 yh_L_unload sm_L_unload ml_L_171 rfl (by decide) ⟨by show 1 + 60 * bb ≤ 60 * (bb + 1); omega, by show 6 + 300 * bb ≤ 300 * (bb + 1); omega⟩ (Nat.le_of_ble_eq_true rfl)) ?_
      refine lf (a_istore dL_law_1239 (by decide)) ?_
      refine lf (a_aload_n dL_law_1241 rfl) ?_
      refine lf (a_aload_n dL_law_1242 rfl) ?_
      refine lf (a_iload dL_law_1243 rfl) ?_
      refine lf (a_iconst (1 : Int32) dL_law_1245 (by decide)) ?_
      refine lf (a_iadd dL_law_1246) ?_
      refine lf (a_sld dL_law_1247 hX1 (ix_s (k := 1) rfl (show i + 1 < X.1 by omega) (by omega))) ?_
      refine lf (a_aload_n dL_law_1248 rfl) ?_
      refine lf (a_iload dL_law_1249 rfl) ?_
      refine lf (a_iconst (2 : Int32) dL_law_1251 (by decide)) ?_
      refine lf (a_iadd dL_law_1252) ?_
      refine lf (a_sld dL_law_1253 hX1 (ix_s (k := 2) rfl (show i + 2 < X.1 by omega) (by omega))) ?_
      refine lf (a_inv (b2 := (60 * bb, 300 * bb)) km rfl dL_law_1254 yk_X11_unload im_X11_unload se_X11_unload ml_L_173 rfl (co_338 (by repeat (first | with_reducible exact hw | with_reducible exact hwc | with_reducible assumption | with_reducible apply Wf.sI | with_reducible apply Wf.sL | with_reducible apply Wf.cpI | with_reducible apply Wf.cpL | with_reducible apply Wf.cp2 | with_reducible apply Wf.sIs | with_reducible apply Wf.sLs | with_reducible apply Wf.cpU | with_reducible apply Wf.fillI | with_reducible apply Wf.clU | with_reducible apply Wf.dnF | with_reducible apply Wf.gbW))) (by decide) hc_X11 (by decide) ⟨by show 0 + 60 * bb ≤ 60 * bb; omega, by show 0 + 300 * bb ≤ 300 * bb; omega⟩ (Nat.le_of_ble_eq_true rfl)) ?_
      refine lf (a_istore dL_law_1257 (by decide)) ?_
      refine lf (a_aload_n dL_law_1259 rfl) ?_
      refine lf (a_inv (b2 := (60 * bb, 300 * bb)) (m_thrown (by repeat (first | with_reducible exact hw | with_reducible exact hwc | with_reducible assumption | with_reducible apply Wf.sI | with_reducible apply Wf.sL | with_reducible apply Wf.cpI | with_reducible apply Wf.cpL | with_reducible apply Wf.cp2 | with_reducible apply Wf.sIs | with_reducible apply Wf.sLs | with_reducible apply Wf.cpU | with_reducible apply Wf.fillI | with_reducible apply Wf.clU | with_reducible apply Wf.dnF | with_reducible apply Wf.gbW))) rfl dL_law_1260 yk_X11_thrown im_X11_thrown se_X11_thrown ml_L_114 rfl (co_338 (by repeat (first | with_reducible exact hw | with_reducible exact hwc | with_reducible assumption | with_reducible apply Wf.sI | with_reducible apply Wf.sL | with_reducible apply Wf.cpI | with_reducible apply Wf.cpL | with_reducible apply Wf.cp2 | with_reducible apply Wf.sIs | with_reducible apply Wf.sLs | with_reducible apply Wf.cpU | with_reducible apply Wf.fillI | with_reducible apply Wf.clU | with_reducible apply Wf.dnF | with_reducible apply Wf.gbW))) (by decide) hc_X11 (by decide) ⟨by show 0 + 60 * bb ≤ 60 * bb; omega, by show 0 + 300 * bb ≤ 300 * bb; omega⟩ (Nat.le_of_ble_eq_true rfl)) ?_
      refine lf (a_iload dL_law_1263 rfl) ?_
      refine lf2 (a_icmp_eq (tgt := 1270) dL_law_1265 (by decide)) (fun h1265 => ?_) (fun h1265 => absurd h1265 (fun z => z k0))
      refine lf (a_iload dL_law_1270 rfl) ?_
      refine lfn (a_if_ne (tgt := 1287) dL_law_1272 (by decide)) (fun h1272 => ?_) (fun h1272 => absurd h1272 (by decide))
      refine lf (a_goto (tgt := 1976) dL_law_1287 (by decide)) ?_
      exact lf (a_loc (LAw i) rfl) (kx V hr hX2)
    · obtain ⟨z, V, tz, km, k0, hr, hv, hx⟩ := hk W (Out.rfl' hW)
      obtain ⟨z, rfl⟩ := tz
      have hX1 : gX W = X := hg.trans hX
      have hX2 : gX V = X := hx.trans hX1
      have hV := hr.wf
      refine lf (a_aload_n dL_law_1222 rfl) ?_
      refine lf (a_aload_n dL_law_1223 rfl) ?_
      refine lf (a_iload dL_law_1224 rfl) ?_
      refine lf (a_iconst (1 : Int32) dL_law_1226 (by decide)) ?_
      refine lf (a_iadd dL_law_1227) ?_
      refine lf (a_sld dL_law_1228 hX (ix_s (k := 1) rfl (show i + 1 < X.1 by omega) (by omega))) ?_
      refine lf (a_aload_n dL_law_1229 rfl) ?_
      refine lf (a_iload dL_law_1230 rfl) ?_
      refine lf (a_iconst (2 : Int32) dL_law_1232 (by decide)) ?_
      refine lf (a_iadd dL_law_1233) ?_
      refine lf (a_sld dL_law_1234 hX (ix_s (k := 2) rfl (show i + 2 < X.1 by omega) (by omega))) ?_
      refine lf (a_aload_n dL_law_1235 rfl) ?_
      refine lf (a_invSH (b2 := (60 * bb, 300 * bb)) (wx_unload_2 (by repeat (first | with_reducible exact hw | with_reducible exact hwc | with_reducible assumption | with_reducible apply Wf.sI | with_reducible apply Wf.sL | with_reducible apply Wf.cpI | with_reducible apply Wf.cpL | with_reducible apply Wf.cp2 | with_reducible apply Wf.sIs | with_reducible apply Wf.sLs | with_reducible apply Wf.cpU | with_reducible apply Wf.fillI | with_reducible apply Wf.clU | with_reducible apply Wf.dnF | with_reducible apply Wf.gbW)) (X.2 (i + 1)) (X.2 (i + 2)) hc) rfl dL_law_1236 yh_L_unload sm_L_unload ml_L_171 rfl (by decide) ⟨by show 1 + 60 * bb ≤ 60 * (bb + 1); omega, by show 6 + 300 * bb ≤ 300 * (bb + 1); omega⟩ (Nat.le_of_ble_eq_true rfl)) ?_
      refine lf (a_istore dL_law_1239 (by decide)) ?_
      refine lf (a_aload_n dL_law_1241 rfl) ?_
      refine lf (a_aload_n dL_law_1242 rfl) ?_
      refine lf (a_iload dL_law_1243 rfl) ?_
      refine lf (a_iconst (1 : Int32) dL_law_1245 (by decide)) ?_
      refine lf (a_iadd dL_law_1246) ?_
      refine lf (a_sld dL_law_1247 hX1 (ix_s (k := 1) rfl (show i + 1 < X.1 by omega) (by omega))) ?_
      refine lf (a_aload_n dL_law_1248 rfl) ?_
      refine lf (a_iload dL_law_1249 rfl) ?_
      refine lf (a_iconst (2 : Int32) dL_law_1251 (by decide)) ?_
      refine lf (a_iadd dL_law_1252) ?_
      refine lf (a_sld dL_law_1253 hX1 (ix_s (k := 2) rfl (show i + 2 < X.1 by omega) (by omega))) ?_
      refine lf (a_inv (b2 := (60 * bb, 300 * bb)) km rfl dL_law_1254 yk_X11_unload im_X11_unload se_X11_unload ml_L_173 rfl (co_338 (by repeat (first | with_reducible exact hw | with_reducible exact hwc | with_reducible assumption | with_reducible apply Wf.sI | with_reducible apply Wf.sL | with_reducible apply Wf.cpI | with_reducible apply Wf.cpL | with_reducible apply Wf.cp2 | with_reducible apply Wf.sIs | with_reducible apply Wf.sLs | with_reducible apply Wf.cpU | with_reducible apply Wf.fillI | with_reducible apply Wf.clU | with_reducible apply Wf.dnF | with_reducible apply Wf.gbW))) (by decide) hc_X11 (by decide) ⟨by show 0 + 60 * bb ≤ 60 * bb; omega, by show 0 + 300 * bb ≤ 300 * bb; omega⟩ (Nat.le_of_ble_eq_true rfl)) ?_
      refine lf (a_istore dL_law_1257 (by decide)) ?_
      refine lf (a_aload_n dL_law_1259 rfl) ?_
      refine lf (a_inv (b2 := (60 * bb, 300 * bb)) (m_thrown (by repeat (first | with_reducible exact hw | with_reducible exact hwc | with_reducible assumption | with_reducible apply Wf.sI | with_reducible apply Wf.sL | with_reducible apply Wf.cpI | with_reducible apply Wf.cpL | with_reducible apply Wf.cp2 | with_reducible apply Wf.sIs | with_reducible apply Wf.sLs | with_reducible apply Wf.cpU | with_reducible apply Wf.fillI | with_reducible apply Wf.clU | with_reducible apply Wf.dnF | with_reducible apply Wf.gbW))) rfl dL_law_1260 yk_X11_thrown im_X11_thrown se_X11_thrown ml_L_114 rfl (co_338 (by repeat (first | with_reducible exact hw | with_reducible exact hwc | with_reducible assumption | with_reducible apply Wf.sI | with_reducible apply Wf.sL | with_reducible apply Wf.cpI | with_reducible apply Wf.cpL | with_reducible apply Wf.cp2 | with_reducible apply Wf.sIs | with_reducible apply Wf.sLs | with_reducible apply Wf.cpU | with_reducible apply Wf.fillI | with_reducible apply Wf.clU | with_reducible apply Wf.dnF | with_reducible apply Wf.gbW))) (by decide) hc_X11 (by decide) ⟨by show 0 + 60 * bb ≤ 60 * bb; omega, by show 0 + 300 * bb ≤ 300 * bb; omega⟩ (Nat.le_of_ble_eq_true rfl)) ?_
      refine lf (a_iload dL_law_1263 rfl) ?_
      refine lf2 (a_icmp_eq (tgt := 1270) dL_law_1265 (by decide)) (fun h1265 => ?_) (fun h1265 => absurd h1265 (fun z => z k0))
      refine lf (a_iload dL_law_1270 rfl) ?_
      refine lfn (a_if_ne (tgt := 1287) dL_law_1272 (by decide)) (fun h1272 => ?_) (fun h1272 => absurd h1272 (by decide))
      refine lf (a_goto (tgt := 1976) dL_law_1287 (by decide)) ?_
      exact lf (a_loc (LAw i) rfl) (kx V hr hX2)
    · obtain ⟨z, V, tz, km, k0, hr, hv, hx⟩ := hk W (Out.rfl' hW)
      obtain ⟨z, rfl⟩ := tz
      have hX1 : gX W = X := hg.trans hX
      have hX2 : gX V = X := hx.trans hX1
      have hV := hr.wf
      refine lf (a_aload_n dL_law_1222 rfl) ?_
      refine lf (a_aload_n dL_law_1223 rfl) ?_
      refine lf (a_iload dL_law_1224 rfl) ?_
      refine lf (a_iconst (1 : Int32) dL_law_1226 (by decide)) ?_
      refine lf (a_iadd dL_law_1227) ?_
      refine lf (a_sld dL_law_1228 hX (ix_s (k := 1) rfl (show i + 1 < X.1 by omega) (by omega))) ?_
      refine lf (a_aload_n dL_law_1229 rfl) ?_
      refine lf (a_iload dL_law_1230 rfl) ?_
      refine lf (a_iconst (2 : Int32) dL_law_1232 (by decide)) ?_
      refine lf (a_iadd dL_law_1233) ?_
      refine lf (a_sld dL_law_1234 hX (ix_s (k := 2) rfl (show i + 2 < X.1 by omega) (by omega))) ?_
      refine lf (a_aload_n dL_law_1235 rfl) ?_
      refine lf (a_invSH (b2 := (60 * bb, 300 * bb)) (wx_unload_3 (by repeat (first | with_reducible exact hw | with_reducible exact hwc | with_reducible assumption | with_reducible apply Wf.sI | with_reducible apply Wf.sL | with_reducible apply Wf.cpI | with_reducible apply Wf.cpL | with_reducible apply Wf.cp2 | with_reducible apply Wf.sIs | with_reducible apply Wf.sLs | with_reducible apply Wf.cpU | with_reducible apply Wf.fillI | with_reducible apply Wf.clU | with_reducible apply Wf.dnF | with_reducible apply Wf.gbW)) (X.2 (i + 1)) (X.2 (i + 2)) hc) rfl dL_law_1236 yh_L_unload sm_L_unload ml_L_171 rfl (by decide) ⟨by show 1 + 60 * bb ≤ 60 * (bb + 1); omega, by show 6 + 300 * bb ≤ 300 * (bb + 1); omega⟩ (Nat.le_of_ble_eq_true rfl)) ?_
      refine lf (a_istore dL_law_1239 (by decide)) ?_
      refine lf (a_aload_n dL_law_1241 rfl) ?_
      refine lf (a_aload_n dL_law_1242 rfl) ?_
      refine lf (a_iload dL_law_1243 rfl) ?_
      refine lf (a_iconst (1 : Int32) dL_law_1245 (by decide)) ?_
      refine lf (a_iadd dL_law_1246) ?_
      refine lf (a_sld dL_law_1247 hX1 (ix_s (k := 1) rfl (show i + 1 < X.1 by omega) (by omega))) ?_
      refine lf (a_aload_n dL_law_1248 rfl) ?_
      refine lf (a_iload dL_law_1249 rfl) ?_
      refine lf (a_iconst (2 : Int32) dL_law_1251 (by decide)) ?_
      refine lf (a_iadd dL_law_1252) ?_
      refine lf (a_sld dL_law_1253 hX1 (ix_s (k := 2) rfl (show i + 2 < X.1 by omega) (by omega))) ?_
      refine lf (a_inv (b2 := (60 * bb, 300 * bb)) km rfl dL_law_1254 yk_X11_unload im_X11_unload se_X11_unload ml_L_173 rfl (co_338 (by repeat (first | with_reducible exact hw | with_reducible exact hwc | with_reducible assumption | with_reducible apply Wf.sI | with_reducible apply Wf.sL | with_reducible apply Wf.cpI | with_reducible apply Wf.cpL | with_reducible apply Wf.cp2 | with_reducible apply Wf.sIs | with_reducible apply Wf.sLs | with_reducible apply Wf.cpU | with_reducible apply Wf.fillI | with_reducible apply Wf.clU | with_reducible apply Wf.dnF | with_reducible apply Wf.gbW))) (by decide) hc_X11 (by decide) ⟨by show 0 + 60 * bb ≤ 60 * bb; omega, by show 0 + 300 * bb ≤ 300 * bb; omega⟩ (Nat.le_of_ble_eq_true rfl)) ?_
      refine lf (a_istore dL_law_1257 (by decide)) ?_
      refine lf (a_aload_n dL_law_1259 rfl) ?_
      refine lf (a_inv (b2 := (60 * bb, 300 * bb)) (m_thrown (by repeat (first | with_reducible exact hw | with_reducible exact hwc | with_reducible assumption | with_reducible apply Wf.sI | with_reducible apply Wf.sL | with_reducible apply Wf.cpI | with_reducible apply Wf.cpL | with_reducible apply Wf.cp2 | with_reducible apply Wf.sIs | with_reducible apply Wf.sLs | with_reducible apply Wf.cpU | with_reducible apply Wf.fillI | with_reducible apply Wf.clU | with_reducible apply Wf.dnF | with_reducible apply Wf.gbW))) rfl dL_law_1260 yk_X11_thrown im_X11_thrown se_X11_thrown ml_L_114 rfl (co_338 (by repeat (first | with_reducible exact hw | with_reducible exact hwc | with_reducible assumption | with_reducible apply Wf.sI | with_reducible apply Wf.sL | with_reducible apply Wf.cpI | with_reducible apply Wf.cpL | with_reducible apply Wf.cp2 | with_reducible apply Wf.sIs | with_reducible apply Wf.sLs | with_reducible apply Wf.cpU | with_reducible apply Wf.fillI | with_reducible apply Wf.clU | with_reducible apply Wf.dnF | with_reducible apply Wf.gbW))) (by decide) hc_X11 (by decide) ⟨by show 0 + 60 * bb ≤ 60 * bb; omega, by show 0 + 300 * bb ≤ 300 * bb; omega⟩ (Nat.le_of_ble_eq_true rfl)) ?_
      refine lf (a_iload dL_law_1263 rfl) ?_
      refine lf2 (a_icmp_eq (tgt := 1270) dL_law_1265 (by decide)) (fun h1265 => ?_) (fun h1265 => absurd h1265 (fun z => z k0))
      refine lf (a_iload dL_law_1270 rfl) ?_
      refine lfn (a_if_ne (tgt := 1287) dL_law_1272 (by decide)) (fun h1272 => ?_) (fun h1272 => absurd h1272 (by decide))
      refine lf (a_goto (tgt := 1976) dL_law_1287 (by decide)) ?_
      exact lf (a_loc (LAw i) rfl) (kx V hr hX2)
theorem s_topUp {μ : Wd} {N i bb : Nat} {X : Nat × (Nat → Int32)} (h : RelV N μ) (hX : gX μ = X) (hi : i + 6 ≤ X.1) (hL : X.1 ≤ 3072) (kx : ∀ V, RelV (N + 1) V → gX V = X → WP Y_L_law RLaw (60 * bb, 300 * bb) V 1976 (LAw i) [] QLw) : WP Y_L_law RLaw (60 * (bb + 1), 300 * (bb + 1)) μ 1290 (LAw i) [] QLw := by
  have hw := h.wf
  rcases o_topUp h (X.2 (i + 1)) (X.2 (i + 2)) with ⟨v, W, tv, hW, hc, hg, hk⟩ | ⟨x, k, W, hxk, hW, hc, hg, hk⟩
  · obtain ⟨v, rfl⟩ := tv
    obtain ⟨V, km, k0, hr, hv, hx⟩ := hk (sL W 363 0 (v.toInt64)) ((Out.rfl' hW).sL (S := s363) (i := 363) rfl _ _)
    have hX1 : gX (sL W 363 0 (v.toInt64)) = X := hg.trans hX
    have hX2 : gX V = X := hx.trans hX1
    have hV := hr.wf
    have hv1 : gL V 363 0 = v.toInt64 := hv.trans ((gL_sL _ _ _ _ _ _).trans (if_pos ⟨rfl, rfl⟩))
    refine lf (a_aload_n dL_law_1290 rfl) ?_
    refine lf (a_aload_n dL_law_1291 rfl) ?_
    refine lf (a_iload dL_law_1292 rfl) ?_
    refine lf (a_iconst (1 : Int32) dL_law_1294 (by decide)) ?_
    refine lf (a_iadd dL_law_1295) ?_
    refine lf (a_sld dL_law_1296 hX (ix_s (k := 1) rfl (show i + 1 < X.1 by omega) (by omega))) ?_
    refine lf (a_aload_n dL_law_1297 rfl) ?_
    refine lf (a_iload dL_law_1298 rfl) ?_
    refine lf (a_iconst (2 : Int32) dL_law_1300 (by decide)) ?_
    refine lf (a_iadd dL_law_1301) ?_
    refine lf (a_sld dL_law_1302 hX (ix_s (k := 2) rfl (show i + 2 < X.1 by omega) (by omega))) ?_
    refine lf (a_aload_n dL_law_1303 rfl) ?_
    refine lf (a_invSH (b2 := (60 * bb, 300 * bb)) (wv_topUp (by repeat (first | with_reducible exact hw | with_reducible exact hwc | with_reducible assumption | with_reducible apply Wf.sI | with_reducible apply Wf.sL | with_reducible apply Wf.cpI | with_reducible apply Wf.cpL | with_reducible apply Wf.cp2 | with_reducible apply Wf.sIs | with_reducible apply Wf.sLs | with_reducible apply Wf.cpU | with_reducible apply Wf.fillI | with_reducible apply Wf.clU | with_reducible apply Wf.dnF | with_reducible apply Wf.gbW)) (X.2 (i + 1)) (X.2 (i + 2)) hW hc) rfl dL_law_1304 yh_L_topUp sm_L_topUp ml_L_174 rfl (by decide) ⟨by show 1 + 60 * bb ≤ 60 * (bb + 1); omega, by show 6 + 300 * bb ≤ 300 * (bb + 1); omega⟩ (Nat.le_of_ble_eq_true rfl)) ?_
    refine lf (a_istore dL_law_1307 (by decide)) ?_
    refine lf (a_aload_n dL_law_1309 rfl) ?_
    refine lf (a_aload_n dL_law_1310 rfl) ?_
    refine lf (a_iload dL_law_1311 rfl) ?_
    refine lf (a_iconst (1 : Int32) dL_law_1313 (by decide)) ?_
    refine lf (a_iadd dL_law_1314) ?_
    refine lf (a_sld dL_law_1315 hX1 (ix_s (k := 1) rfl (show i + 1 < X.1 by omega) (by omega))) ?_
    refine lf (a_aload_n dL_law_1316 rfl) ?_
    refine lf (a_iload dL_law_1317 rfl) ?_
    refine lf (a_iconst (2 : Int32) dL_law_1319 (by decide)) ?_
    refine lf (a_iadd dL_law_1320) ?_
    refine lf (a_sld dL_law_1321 hX1 (ix_s (k := 2) rfl (show i + 2 < X.1 by omega) (by omega))) ?_
    refine lf (a_inv (b2 := (60 * bb, 300 * bb)) km rfl dL_law_1322 yk_X11_topUp im_X11_topUp se_X11_topUp ml_L_176 rfl (co_338 (by repeat (first | with_reducible exact hw | with_reducible exact hwc | with_reducible assumption | with_reducible apply Wf.sI | with_reducible apply Wf.sL | with_reducible apply Wf.cpI | with_reducible apply Wf.cpL | with_reducible apply Wf.cp2 | with_reducible apply Wf.sIs | with_reducible apply Wf.sLs | with_reducible apply Wf.cpU | with_reducible apply Wf.fillI | with_reducible apply Wf.clU | with_reducible apply Wf.dnF | with_reducible apply Wf.gbW))) (by decide) hc_X11 (by decide) ⟨by show 0 + 60 * bb ≤ 60 * bb; omega, by show 0 + 300 * bb ≤ 300 * bb; omega⟩ (Nat.le_of_ble_eq_true rfl)) ?_
    refine lf (a_istore dL_law_1325 (by decide)) ?_
    refine lf (a_aload_n dL_law_1327 rfl) ?_
    refine lf (a_inv (b2 := (60 * bb, 300 * bb)) (m_thrown (by repeat (first | with_reducible exact hw | with_reducible exact hwc | with_reducible assumption | with_reducible apply Wf.sI | with_reducible apply Wf.sL | with_reducible apply Wf.cpI | with_reducible apply Wf.cpL | with_reducible apply Wf.cp2 | with_reducible apply Wf.sIs | with_reducible apply Wf.sLs | with_reducible apply Wf.cpU | with_reducible apply Wf.fillI | with_reducible apply Wf.clU | with_reducible apply Wf.dnF | with_reducible apply Wf.gbW))) rfl dL_law_1328 yk_X11_thrown im_X11_thrown se_X11_thrown ml_L_114 rfl (co_338 (by repeat (first | with_reducible exact hw | with_reducible exact hwc | with_reducible assumption | with_reducible apply Wf.sI | with_reducible apply Wf.sL | with_reducible apply Wf.cpI | with_reducible apply Wf.cpL | with_reducible apply Wf.cp2 | with_reducible apply Wf.sIs | with_reducible apply Wf.sLs | with_reducible apply Wf.cpU | with_reducible apply Wf.fillI | with_reducible apply Wf.clU | with_reducible apply Wf.dnF | with_reducible apply Wf.gbW))) (by decide) hc_X11 (by decide) ⟨by show 0 + 60 * bb ≤ 60 * bb; omega, by show 0 + 300 * bb ≤ 300 * bb; omega⟩ (Nat.le_of_ble_eq_true rfl)) ?_
    refine lf (a_iload dL_law_1331 rfl) ?_
    refine lf2 (a_icmp_eq (tgt := 1338) dL_law_1333 (by decide)) (fun h1333 => ?_) (fun h1333 => absurd h1333 (fun z => z k0))
    refine lf (a_iload dL_law_1338 rfl) ?_
    refine lfn (a_if_ne (tgt := 1355) dL_law_1340 (by decide)) (fun h1340 => absurd h1340 (by decide)) (fun h1340 => ?_)
    refine lf (a_aload_n dL_law_1343 rfl) ?_
    refine lf (a_iconst (0 : Int32) dL_law_1344 (by decide)) ?_
    refine lf (a_lld dL_law_1345 (ca_363 (by repeat (first | with_reducible exact hw | with_reducible exact hwc | with_reducible assumption | with_reducible apply Wf.sI | with_reducible apply Wf.sL | with_reducible apply Wf.cpI | with_reducible apply Wf.cpL | with_reducible apply Wf.cp2 | with_reducible apply Wf.sIs | with_reducible apply Wf.sLs | with_reducible apply Wf.cpU | with_reducible apply Wf.fillI | with_reducible apply Wf.clU | with_reducible apply Wf.dnF | with_reducible apply Wf.gbW))) (ixn (m := 0) (by decide) (by decide))) ?_
    rw [hv1]
    refine lf (a_iload dL_law_1346 rfl) ?_
    refine lf (a_i2l dL_law_1348) ?_
    refine lf (a_lcmp dL_law_1349) ?_
    refine lf2 (a_if_eq (tgt := 1355) dL_law_1350 (by decide)) (fun h1350 => ?_) (fun h1350 => absurd h1350 (fun z => z (lcmp_self _)))
    refine lf (a_goto (tgt := 1976) dL_law_1355 (by decide)) ?_
    exact lf (a_loc (LAw i) rfl) (kx V hr hX2)
  · simp only [List.mem_cons, List.not_mem_nil, or_false, Prod.mk.injEq] at hxk
    rcases hxk with ⟨rfl, rfl⟩ | ⟨rfl, rfl⟩ | ⟨rfl, rfl⟩
    · obtain ⟨z, V, tz, km, k0, hr, hv, hx⟩ := hk W (Out.rfl' hW)
      obtain ⟨z, rfl⟩ := tz
      have hX1 : gX W = X := hg.trans hX
      have hX2 : gX V = X := hx.trans hX1
      have hV := hr.wf
      refine lf (a_aload_n dL_law_1290 rfl) ?_
      refine lf (a_aload_n dL_law_1291 rfl) ?_
      refine lf (a_iload dL_law_1292 rfl) ?_
      refine lf (a_iconst (1 : Int32) dL_law_1294 (by decide)) ?_
      refine lf (a_iadd dL_law_1295) ?_
      refine lf (a_sld dL_law_1296 hX (ix_s (k := 1) rfl (show i + 1 < X.1 by omega) (by omega))) ?_
      refine lf (a_aload_n dL_law_1297 rfl) ?_
      refine lf (a_iload dL_law_1298 rfl) ?_
      refine lf (a_iconst (2 : Int32) dL_law_1300 (by decide)) ?_
      refine lf (a_iadd dL_law_1301) ?_
      refine lf (a_sld dL_law_1302 hX (ix_s (k := 2) rfl (show i + 2 < X.1 by omega) (by omega))) ?_
      refine lf (a_aload_n dL_law_1303 rfl) ?_
      refine lf (a_invSH (b2 := (60 * bb, 300 * bb)) (wx_topUp_1 (by repeat (first | with_reducible exact hw | with_reducible exact hwc | with_reducible assumption | with_reducible apply Wf.sI | with_reducible apply Wf.sL | with_reducible apply Wf.cpI | with_reducible apply Wf.cpL | with_reducible apply Wf.cp2 | with_reducible apply Wf.sIs | with_reducible apply Wf.sLs | with_reducible apply Wf.cpU | with_reducible apply Wf.fillI | with_reducible apply Wf.clU | with_reducible apply Wf.dnF | with_reducible apply Wf.gbW)) (X.2 (i + 1)) (X.2 (i + 2)) hc) rfl dL_law_1304 yh_L_topUp sm_L_topUp ml_L_174 rfl (by decide) ⟨by show 1 + 60 * bb ≤ 60 * (bb + 1); omega, by show 6 + 300 * bb ≤ 300 * (bb + 1); omega⟩ (Nat.le_of_ble_eq_true rfl)) ?_
      refine lf (a_istore dL_law_1307 (by decide)) ?_
      refine lf (a_aload_n dL_law_1309 rfl) ?_
      refine lf (a_aload_n dL_law_1310 rfl) ?_
      refine lf (a_iload dL_law_1311 rfl) ?_
      refine lf (a_iconst (1 : Int32) dL_law_1313 (by decide)) ?_
      refine lf (a_iadd dL_law_1314) ?_
      refine lf (a_sld dL_law_1315 hX1 (ix_s (k := 1) rfl (show i + 1 < X.1 by omega) (by omega))) ?_
      refine lf (a_aload_n dL_law_1316 rfl) ?_
      refine lf (a_iload dL_law_1317 rfl) ?_
      refine lf (a_iconst (2 : Int32) dL_law_1319 (by decide)) ?_
      refine lf (a_iadd dL_law_1320) ?_
      refine lf (a_sld dL_law_1321 hX1 (ix_s (k := 2) rfl (show i + 2 < X.1 by omega) (by omega))) ?_
      refine lf (a_inv (b2 := (60 * bb, 300 * bb)) km rfl dL_law_1322 yk_X11_topUp im_X11_topUp se_X11_topUp ml_L_176 rfl (co_338 (by repeat (first | with_reducible exact hw | with_reducible exact hwc | with_reducible assumption | with_reducible apply Wf.sI | with_reducible apply Wf.sL | with_reducible apply Wf.cpI | with_reducible apply Wf.cpL | with_reducible apply Wf.cp2 | with_reducible apply Wf.sIs | with_reducible apply Wf.sLs | with_reducible apply Wf.cpU | with_reducible apply Wf.fillI | with_reducible apply Wf.clU | with_reducible apply Wf.dnF | with_reducible apply Wf.gbW))) (by decide) hc_X11 (by decide) ⟨by show 0 + 60 * bb ≤ 60 * bb; omega, by show 0 + 300 * bb ≤ 300 * bb; omega⟩ (Nat.le_of_ble_eq_true rfl)) ?_
      refine lf (a_istore dL_law_1325 (by decide)) ?_
      refine lf (a_aload_n dL_law_1327 rfl) ?_
      refine lf (a_inv (b2 := (60 * bb, 300 * bb)) (m_thrown (by repeat (first | with_reducible exact hw | with_reducible exact hwc | with_reducible assumption | with_reducible apply Wf.sI | with_reducible apply Wf.sL | with_reducible apply Wf.cpI | with_reducible apply Wf.cpL | with_reducible apply Wf.cp2 | with_reducible apply Wf.sIs | with_reducible apply Wf.sLs | with_reducible apply Wf.cpU | with_reducible apply Wf.fillI | with_reducible apply Wf.clU | with_reducible apply Wf.dnF | with_reducible apply Wf.gbW))) rfl dL_law_1328 yk_X11_thrown im_X11_thrown se_X11_thrown ml_L_114 rfl (co_338 (by repeat (first | with_reducible exact hw | with_reducible exact hwc | with_reducible assumption | with_reducible apply Wf.sI | with_reducible apply Wf.sL | with_reducible apply Wf.cpI | with_reducible apply Wf.cpL | with_reducible apply Wf.cp2 | with_reducible apply Wf.sIs | with_reducible apply Wf.sLs | with_reducible apply Wf.cpU | with_reducible apply Wf.fillI | with_reducible apply Wf.clU | with_reducible apply Wf.dnF | with_reducible apply Wf.gbW))) (by decide) hc_X11 (by decide) ⟨by show 0 + 60 * bb ≤ 60 * bb; omega, by show 0 + 300 * bb ≤ 300 * bb; omega⟩ (Nat.le_of_ble_eq_true rfl)) ?_
      refine lf (a_iload dL_law_1331 rfl) ?_
      refine lf2 (a_icmp_eq (tgt := 1338) dL_law_1333 (by decide)) (fun h1333 => ?_) (fun h1333 => absurd h1333 (fun z => z k0))
      refine lf (a_iload dL_law_1338 rfl) ?_
      refine lfn (a_if_ne (tgt := 1355) dL_law_1340 (by decide)) (fun h1340 => ?_) (fun h1340 => absurd h1340 (by decide))
      refine lf (a_goto (tgt := 1976) dL_law_1355 (by decide)) ?_
      exact lf (a_loc (LAw i) rfl) (kx V hr hX2)
    · obtain ⟨z, V, tz, km, k0, hr, hv, hx⟩ := hk W (Out.rfl' hW)
      obtain ⟨z, rfl⟩ := tz
      have hX1 : gX W = X := hg.trans hX
      have hX2 : gX V = X := hx.trans hX1
      have hV := hr.wf
      refine lf (a_aload_n dL_law_1290 rfl) ?_
      refine lf (a_aload_n dL_law_1291 rfl) ?_
      refine lf (a_iload dL_law_1292 rfl) ?_
      refine lf (a_iconst (1 : Int32) dL_law_1294 (by decide)) ?_
      refine lf (a_iadd dL_law_1295) ?_
      refine lf (a_sld dL_law_1296 hX (ix_s (k := 1) rfl (show i + 1 < X.1 by omega) (by omega))) ?_
      refine lf (a_aload_n dL_law_1297 rfl) ?_
      refine lf (a_iload dL_law_1298 rfl) ?_
      refine lf (a_iconst (2 : Int32) dL_law_1300 (by decide)) ?_
      refine lf (a_iadd dL_law_1301) ?_
      refine lf (a_sld dL_law_1302 hX (ix_s (k := 2) rfl (show i + 2 < X.1 by omega) (by omega))) ?_
      refine lf (a_aload_n dL_law_1303 rfl) ?_
      refine lf (a_invSH (b2 := (60 * bb, 300 * bb)) (wx_topUp_2 (by repeat (first | with_reducible exact hw | with_reducible exact hwc | with_reducible assumption | with_reducible apply Wf.sI | with_reducible apply Wf.sL | with_reducible apply Wf.cpI | with_reducible apply Wf.cpL | with_reducible apply Wf.cp2 | with_reducible apply Wf.sIs | with_reducible apply Wf.sLs | with_reducible apply Wf.cpU | with_reducible apply Wf.fillI | with_reducible apply Wf.clU | with_reducible apply Wf.dnF | with_reducible apply Wf.gbW)) (X.2 (i + 1)) (X.2 (i + 2)) hc) rfl dL_law_1304 yh_L_topUp sm_L_topUp ml_L_174 rfl (by decide) ⟨by show 1 + 60 * bb ≤ 60 * (bb + 1); omega, by show 6 + 300 * bb ≤ 300 * (bb + 1); omega⟩ (Nat.le_of_ble_eq_true rfl)) ?_
      refine lf (a_istore dL_law_1307 (by decide)) ?_
      refine lf (a_aload_n dL_law_1309 rfl) ?_
      refine lf (a_aload_n dL_law_1310 rfl) ?_
      refine lf (a_iload dL_law_1311 rfl) ?_
      refine lf (a_iconst (1 : Int32) dL_law_1313 (by decide)) ?_
      refine lf (a_iadd dL_law_1314) ?_
      refine lf (a_sld dL_law_1315 hX1 (ix_s (k := 1) rfl (show i + 1 < X.1 by omega) (by omega))) ?_
      refine lf (a_aload_n dL_law_1316 rfl) ?_
      refine lf (a_iload dL_law_1317 rfl) ?_
      refine lf (a_iconst (2 : Int32) dL_law_1319 (by decide)) ?_
      refine lf (a_iadd dL_law_1320) ?_
      refine lf (a_sld dL_law_1321 hX1 (ix_s (k := 2) rfl (show i + 2 < X.1 by omega) (by omega))) ?_
      refine lf (a_inv (b2 := (60 * bb, 300 * bb)) km rfl dL_law_1322 yk_X11_topUp im_X11_topUp se_X11_topUp ml_L_176 rfl (co_338 (by repeat (first | with_reducible exact hw | with_reducible exact hwc | with_reducible assumption | with_reducible apply Wf.sI | with_reducible apply Wf.sL | with_reducible apply Wf.cpI | with_reducible apply Wf.cpL | with_reducible apply Wf.cp2 | with_reducible apply Wf.sIs | with_reducible apply Wf.sLs | with_reducible apply Wf.cpU | with_reducible apply Wf.fillI | with_reducible apply Wf.clU | with_reducible apply Wf.dnF | with_reducible apply Wf.gbW))) (by decide) hc_X11 (by decide) ⟨by show 0 + 60 * bb ≤ 60 * bb; omega, by show 0 + 300 * bb ≤ 300 * bb; omega⟩ (Nat.le_of_ble_eq_true rfl)) ?_
      refine lf (a_istore dL_law_1325 (by decide)) ?_
      refine lf (a_aload_n dL_law_1327 rfl) ?_
      refine lf (a_inv (b2 := (60 * bb, 300 * bb)) (m_thrown (by repeat (first | with_reducible exact hw | with_reducible exact hwc | with_reducible assumption | with_reducible apply Wf.sI | with_reducible apply Wf.sL | with_reducible apply Wf.cpI | with_reducible apply Wf.cpL | with_reducible apply Wf.cp2 | with_reducible apply Wf.sIs | with_reducible apply Wf.sLs | with_reducible apply Wf.cpU | with_reducible apply Wf.fillI | with_reducible apply Wf.clU | with_reducible apply Wf.dnF | with_reducible apply Wf.gbW))) rfl dL_law_1328 yk_X11_thrown im_X11_thrown se_X11_thrown ml_L_114 rfl (co_338 (by repeat (first | with_reducible exact hw | with_reducible exact hwc | with_reducible assumption | with_reducible apply Wf.sI | with_reducible apply Wf.sL | with_reducible apply Wf.cpI | with_reducible apply Wf.cpL | with_reducible apply Wf.cp2 | with_reducible apply Wf.sIs | with_reducible apply Wf.sLs | with_reducible apply Wf.cpU | with_reducible apply Wf.fillI | with_reducible apply Wf.clU | with_reducible apply Wf.dnF | with_reducible apply Wf.gbW))) (by decide) hc_X11 (by decide) ⟨by show 0 + 60 * bb ≤ 60 * bb; omega, by show 0 + 300 * bb ≤ 300 * bb; omega⟩ (Nat.le_of_ble_eq_true rfl)) ?_
      refine lf (a_iload dL_law_1331 rfl) ?_
      refine lf2 (a_icmp_eq (tgt := 1338) dL_law_1333 (by decide)) (fun h1333 => ?_) (fun h1333 => absurd h1333 (fun z => z k0))
      refine lf (a_iload dL_law_1338 rfl) ?_
      refine lfn (a_if_ne (tgt := 1355) dL_law_1340 (by decide)) (fun h1340 => ?_) (fun h1340 => absurd h1340 (by decide))
      refine lf (a_goto (tgt := 1976) dL_law_1355 (by decide)) ?_
      exact lf (a_loc (LAw i) rfl) (kx V hr hX2)
    · obtain ⟨z, V, tz, km, k0, hr, hv, hx⟩ := hk W (Out.rfl' hW)
      obtain ⟨z, rfl⟩ := tz
      have hX1 : gX W = X := hg.trans hX
      have hX2 : gX V = X := hx.trans hX1
      have hV := hr.wf
      refine lf (a_aload_n dL_law_1290 rfl) ?_
      refine lf (a_aload_n dL_law_1291 rfl) ?_
      refine lf (a_iload dL_law_1292 rfl) ?_
      refine lf (a_iconst (1 : Int32) dL_law_1294 (by decide)) ?_
      refine lf (a_iadd dL_law_1295) ?_
      refine lf (a_sld dL_law_1296 hX (ix_s (k := 1) rfl (show i + 1 < X.1 by omega) (by omega))) ?_
      refine lf (a_aload_n dL_law_1297 rfl) ?_
      refine lf (a_iload dL_law_1298 rfl) ?_
      refine lf (a_iconst (2 : Int32) dL_law_1300 (by decide)) ?_
      refine lf (a_iadd dL_law_1301) ?_
      refine lf (a_sld dL_law_1302 hX (ix_s (k := 2) rfl (show i + 2 < X.1 by omega) (by omega))) ?_
      refine lf (a_aload_n dL_law_1303 rfl) ?_
      refine lf (a_invSH (b2 := (60 * bb, 300 * bb)) (wx_topUp_3 (by repeat (first | with_reducible exact hw | with_reducible exact hwc | with_reducible assumption | with_reducible apply Wf.sI | with_reducible apply Wf.sL | with_reducible apply Wf.cpI | with_reducible apply Wf.cpL | with_reducible apply Wf.cp2 | with_reducible apply Wf.sIs | with_reducible apply Wf.sLs | with_reducible apply Wf.cpU | with_reducible apply Wf.fillI | with_reducible apply Wf.clU | with_reducible apply Wf.dnF | with_reducible apply Wf.gbW)) (X.2 (i + 1)) (X.2 (i + 2)) hc) rfl dL_law_1304 yh_L_topUp sm_L_topUp ml_L_174 rfl (by decide) ⟨by show 1 + 60 * bb ≤ 60 * (bb + 1); omega, by show 6 + 300 * bb ≤ 300 * (bb + 1); omega⟩ (Nat.le_of_ble_eq_true rfl)) ?_
      refine lf (a_istore dL_law_1307 (by decide)) ?_
      refine lf (a_aload_n dL_law_1309 rfl) ?_
      refine lf (a_aload_n dL_law_1310 rfl) ?_
      refine lf (a_iload dL_law_1311 rfl) ?_
      refine lf (a_iconst (1 : Int32) dL_law_1313 (by decide)) ?_
      refine lf (a_iadd dL_law_1314) ?_
      refine lf (a_sld dL_law_1315 hX1 (ix_s (k := 1) rfl (show i + 1 < X.1 by omega) (by omega))) ?_
      refine lf (a_aload_n dL_law_1316 rfl) ?_
      refine lf (a_iload dL_law_1317 rfl) ?_
      refine lf (a_iconst (2 : Int32) dL_law_1319 (by decide)) ?_
      refine lf (a_iadd dL_law_1320) ?_
      refine lf (a_sld dL_law_1321 hX1 (ix_s (k := 2) rfl (show i + 2 < X.1 by omega) (by omega))) ?_
      refine lf (a_inv (b2 := (60 * bb, 300 * bb)) km rfl dL_law_1322 yk_X11_topUp im_X11_topUp se_X11_topUp ml_L_176 rfl (co_338 (by repeat (first | with_reducible exact hw | with_reducible exact hwc | with_reducible assumption | with_reducible apply Wf.sI | with_reducible apply Wf.sL | with_reducible apply Wf.cpI | with_reducible apply Wf.cpL | with_reducible apply Wf.cp2 | with_reducible apply Wf.sIs | with_reducible apply Wf.sLs | with_reducible apply Wf.cpU | with_reducible apply Wf.fillI | with_reducible apply Wf.clU | with_reducible apply Wf.dnF | with_reducible apply Wf.gbW))) (by decide) hc_X11 (by decide) ⟨by show 0 + 60 * bb ≤ 60 * bb; omega, by show 0 + 300 * bb ≤ 300 * bb; omega⟩ (Nat.le_of_ble_eq_true rfl)) ?_
      refine lf (a_istore dL_law_1325 (by decide)) ?_
      refine lf (a_aload_n dL_law_1327 rfl) ?_
      refine lf (a_inv (b2 := (60 * bb, 300 * bb)) (m_thrown (by repeat (first | with_reducible exact hw | with_reducible exact hwc | with_reducible assumption | with_reducible apply Wf.sI | with_reducible apply Wf.sL | with_reducible apply Wf.cpI | with_reducible apply Wf.cpL | with_reducible apply Wf.cp2 | with_reducible apply Wf.sIs | with_reducible apply Wf.sLs | with_reducible apply Wf.cpU | with_reducible apply Wf.fillI | with_reducible apply Wf.clU | with_reducible apply Wf.dnF | with_reducible apply Wf.gbW))) rfl dL_law_1328 yk_X11_thrown im_X11_thrown se_X11_thrown ml_L_114 rfl (co_338 (by repeat (first | with_reducible exact hw | with_reducible exact hwc | with_reducible assumption | with_reducible apply Wf.sI | with_reducible apply Wf.sL | with_reducible apply Wf.cpI | with_reducible apply Wf.cpL | with_reducible apply Wf.cp2 | with_reducible apply Wf.sIs | with_reducible apply Wf.sLs | with_reducible apply Wf.cpU | with_reducible apply Wf.fillI | with_reducible apply Wf.clU | with_reducible apply Wf.dnF | with_reducible apply Wf.gbW))) (by decide) hc_X11 (by decide) ⟨by show 0 + 60 * bb ≤ 60 * bb; omega, by show 0 + 300 * bb ≤ 300 * bb; omega⟩ (Nat.le_of_ble_eq_true rfl)) ?_
      refine lf (a_iload dL_law_1331 rfl) ?_
      refine lf2 (a_icmp_eq (tgt := 1338) dL_law_1333 (by decide)) (fun h1333 => ?_) (fun h1333 => absurd h1333 (fun z => z k0))
      refine lf (a_iload dL_law_1338 rfl) ?_
      refine lfn (a_if_ne (tgt := 1355) dL_law_1340 (by decide)) (fun h1340 => ?_) (fun h1340 => absurd h1340 (by decide))
      refine lf (a_goto (tgt := 1976) dL_law_1355 (by decide)) ?_
      exact lf (a_loc (LAw i) rfl) (kx V hr hX2)
theorem s_advance {μ : Wd} {N i bb : Nat} {X : Nat × (Nat → Int32)} (h : RelV N μ) (hX : gX μ = X) (hi : i + 6 ≤ X.1) (hL : X.1 ≤ 3072) (kx : ∀ V, RelV (N + 1) V → gX V = X → WP Y_L_law RLaw (60 * bb, 300 * bb) V 1976 (LAw i) [] QLw) : WP Y_L_law RLaw (60 * (bb + 1), 300 * (bb + 1)) μ 1358 (LAw i) [] QLw := by
  have hw := h.wf
  rcases o_advance h (X.2 (i + 1)) with ⟨v, W, tv, hW, hc, hg, hk⟩ | ⟨x, k, W, hxk, hW, hc, hg, hk⟩
  · obtain ⟨v, rfl⟩ := tv
    obtain ⟨V, km, k0, hr, hv, hx⟩ := hk (sL W 363 0 (v.toInt64)) ((Out.rfl' hW).sL (S := s363) (i := 363) rfl _ _)
    have hX1 : gX (sL W 363 0 (v.toInt64)) = X := hg.trans hX
    have hX2 : gX V = X := hx.trans hX1
    have hV := hr.wf
    have hv1 : gL V 363 0 = v.toInt64 := hv.trans ((gL_sL _ _ _ _ _ _).trans (if_pos ⟨rfl, rfl⟩))
    refine lf (a_aload_n dL_law_1358 rfl) ?_
    refine lf (a_aload_n dL_law_1359 rfl) ?_
    refine lf (a_iload dL_law_1360 rfl) ?_
    refine lf (a_iconst (1 : Int32) dL_law_1362 (by decide)) ?_
    refine lf (a_iadd dL_law_1363) ?_
    refine lf (a_sld dL_law_1364 hX (ix_s (k := 1) rfl (show i + 1 < X.1 by omega) (by omega))) ?_
    refine lf (a_aload_n dL_law_1365 rfl) ?_
    refine lf (a_invSH (b2 := (60 * bb, 300 * bb)) (wv_advance (by repeat (first | with_reducible exact hw | with_reducible exact hwc | with_reducible assumption | with_reducible apply Wf.sI | with_reducible apply Wf.sL | with_reducible apply Wf.cpI | with_reducible apply Wf.cpL | with_reducible apply Wf.cp2 | with_reducible apply Wf.sIs | with_reducible apply Wf.sLs | with_reducible apply Wf.cpU | with_reducible apply Wf.fillI | with_reducible apply Wf.clU | with_reducible apply Wf.dnF | with_reducible apply Wf.gbW)) (X.2 (i + 1)) hW hc) rfl dL_law_1366 yh_L_advance sm_L_advance ml_L_177 rfl (by decide) ⟨by show 1 + 60 * bb ≤ 60 * (bb + 1); omega, by show 6 + 300 * bb ≤ 300 * (bb + 1); omega⟩ (Nat.le_of_ble_eq_true rfl)) ?_
    refine lf (a_istore dL_law_1369 (by decide)) ?_
    refine lf (a_aload_n dL_law_1371 rfl) ?_
    refine lf (a_aload_n dL_law_1372 rfl) ?_
    refine lf (a_iload dL_law_1373 rfl) ?_
    refine lf (a_iconst (1 : Int32) dL_law_1375 (by decide)) ?_
    refine lf (a_iadd dL_law_1376) ?_
    refine lf (a_sld dL_law_1377 hX1 (ix_s (k := 1) rfl (show i + 1 < X.1 by omega) (by omega))) ?_
    refine lf (a_inv (b2 := (60 * bb, 300 * bb)) km rfl dL_law_1378 yk_X11_advance im_X11_advance se_X11_advance ml_L_179 rfl (co_338 (by repeat (first | with_reducible exact hw | with_reducible exact hwc | with_reducible assumption | with_reducible apply Wf.sI | with_reducible apply Wf.sL | with_reducible apply Wf.cpI | with_reducible apply Wf.cpL | with_reducible apply Wf.cp2 | with_reducible apply Wf.sIs | with_reducible apply Wf.sLs | with_reducible apply Wf.cpU | with_reducible apply Wf.fillI | with_reducible apply Wf.clU | with_reducible apply Wf.dnF | with_reducible apply Wf.gbW))) (by decide) hc_X11 (by decide) ⟨by show 0 + 60 * bb ≤ 60 * bb; omega, by show 0 + 300 * bb ≤ 300 * bb; omega⟩ (Nat.le_of_ble_eq_true rfl)) ?_
    refine lf (a_istore dL_law_1381 (by decide)) ?_
    refine lf (a_aload_n dL_law_1383 rfl) ?_
    refine lf (a_inv (b2 := (60 * bb, 300 * bb)) (m_thrown (by repeat (first | with_reducible exact hw | with_reducible exact hwc | with_reducible assumption | with_reducible apply Wf.sI | with_reducible apply Wf.sL | with_reducible apply Wf.cpI | with_reducible apply Wf.cpL | with_reducible apply Wf.cp2 | with_reducible apply Wf.sIs | with_reducible apply Wf.sLs | with_reducible apply Wf.cpU | with_reducible apply Wf.fillI | with_reducible apply Wf.clU | with_reducible apply Wf.dnF | with_reducible apply Wf.gbW))) rfl dL_law_1384 yk_X11_thrown im_X11_thrown se_X11_thrown ml_L_114 rfl (co_338 (by repeat (first | with_reducible exact hw | with_reducible exact hwc | with_reducible assumption | with_reducible apply Wf.sI | with_reducible apply Wf.sL | with_reducible apply Wf.cpI | with_reducible apply Wf.cpL | with_reducible apply Wf.cp2 | with_reducible apply Wf.sIs | with_reducible apply Wf.sLs | with_reducible apply Wf.cpU | with_reducible apply Wf.fillI | with_reducible apply Wf.clU | with_reducible apply Wf.dnF | with_reducible apply Wf.gbW))) (by decide) hc_X11 (by decide) ⟨by show 0 + 60 * bb ≤ 60 * bb; omega, by show 0 + 300 * bb ≤ 300 * bb; omega⟩ (Nat.le_of_ble_eq_true rfl)) ?_
    refine lf (a_iload dL_law_1387 rfl) ?_
    refine lf2 (a_icmp_eq (tgt := 1394) dL_law_1389 (by decide)) (fun h1389 => ?_) (fun h1389 => absurd h1389 (fun z => z k0))
    refine lf (a_iload dL_law_1394 rfl) ?_
    refine lfn (a_if_ne (tgt := 1411) dL_law_1396 (by decide)) (fun h1396 => absurd h1396 (by decide)) (fun h1396 => ?_)
    refine lf (a_aload_n dL_law_1399 rfl) ?_
    refine lf (a_iconst (0 : Int32) dL_law_1400 (by decide)) ?_
    refine lf (a_lld dL_law_1401 (ca_363 (by repeat (first | with_reducible exact hw | with_reducible exact hwc | with_reducible assumption | with_reducible apply Wf.sI | with_reducible apply Wf.sL | with_reducible apply Wf.cpI | with_reducible apply Wf.cpL | with_reducible apply Wf.cp2 | with_reducible apply Wf.sIs | with_reducible apply Wf.sLs | with_reducible apply Wf.cpU | with_reducible apply Wf.fillI | with_reducible apply Wf.clU | with_reducible apply Wf.dnF | with_reducible apply Wf.gbW))) (ixn (m := 0) (by decide) (by decide))) ?_
    rw [hv1]
    refine lf (a_iload dL_law_1402 rfl) ?_
    refine lf (a_i2l dL_law_1404) ?_
    refine lf (a_lcmp dL_law_1405) ?_
    refine lf2 (a_if_eq (tgt := 1411) dL_law_1406 (by decide)) (fun h1406 => ?_) (fun h1406 => absurd h1406 (fun z => z (lcmp_self _)))
    refine lf (a_goto (tgt := 1976) dL_law_1411 (by decide)) ?_
    exact lf (a_loc (LAw i) rfl) (kx V hr hX2)
  · simp only [List.mem_cons, List.not_mem_nil, or_false, Prod.mk.injEq] at hxk
    rcases hxk with ⟨rfl, rfl⟩ | ⟨rfl, rfl⟩
    · obtain ⟨z, V, tz, km, k0, hr, hv, hx⟩ := hk W (Out.rfl' hW)
      obtain ⟨z, rfl⟩ := tz
      have hX1 : gX W = X := hg.trans hX
      have hX2 : gX V = X := hx.trans hX1
      have hV := hr.wf
      refine lf (a_aload_n dL_law_1358 rfl) ?_
      refine lf (a_aload_n dL_law_1359 rfl) ?_
      refine lf (a_iload dL_law_1360 rfl) ?_
      refine lf (a_iconst (1 : Int32) dL_law_1362 (by decide)) ?_
      refine lf (a_iadd dL_law_1363) ?_
      refine lf (a_sld dL_law_1364 hX (ix_s (k := 1) rfl (show i + 1 < X.1 by omega) (by omega))) ?_
      refine lf (a_aload_n dL_law_1365 rfl) ?_
      refine lf (a_invSH (b2 := (60 * bb, 300 * bb)) (wx_advance_1 (by repeat (first | with_reducible exact hw | with_reducible exact hwc | with_reducible assumption | with_reducible apply Wf.sI | with_reducible apply Wf.sL | with_reducible apply Wf.cpI | with_reducible apply Wf.cpL | with_reducible apply Wf.cp2 | with_reducible apply Wf.sIs | with_reducible apply Wf.sLs | with_reducible apply Wf.cpU | with_reducible apply Wf.fillI | with_reducible apply Wf.clU | with_reducible apply Wf.dnF | with_reducible apply Wf.gbW)) (X.2 (i + 1)) hc) rfl dL_law_1366 yh_L_advance sm_L_advance ml_L_177 rfl (by decide) ⟨by show 1 + 60 * bb ≤ 60 * (bb + 1); omega, by show 6 + 300 * bb ≤ 300 * (bb + 1); omega⟩ (Nat.le_of_ble_eq_true rfl)) ?_
      refine lf (a_istore dL_law_1369 (by decide)) ?_
      refine lf (a_aload_n dL_law_1371 rfl) ?_
      refine lf (a_aload_n dL_law_1372 rfl) ?_
      refine lf (a_iload dL_law_1373 rfl) ?_
      refine lf (a_iconst (1 : Int32) dL_law_1375 (by decide)) ?_
      refine lf (a_iadd dL_law_1376) ?_
      refine lf (a_sld dL_law_1377 hX1 (ix_s (k := 1) rfl (show i + 1 < X.1 by omega) (by omega))) ?_
      refine lf (a_inv (b2 := (60 * bb, 300 * bb)) km rfl dL_law_1378 yk_X11_advance im_X11_advance se_X11_advance ml_L_179 rfl (co_338 (by repeat (first | with_reducible exact hw | with_reducible exact hwc | with_reducible assumption | with_reducible apply Wf.sI | with_reducible apply Wf.sL | with_reducible apply Wf.cpI | with_reducible apply Wf.cpL | with_reducible apply Wf.cp2 | with_reducible apply Wf.sIs | with_reducible apply Wf.sLs | with_reducible apply Wf.cpU | with_reducible apply Wf.fillI | with_reducible apply Wf.clU | with_reducible apply Wf.dnF | with_reducible apply Wf.gbW))) (by decide) hc_X11 (by decide) ⟨by show 0 + 60 * bb ≤ 60 * bb; omega, by show 0 + 300 * bb ≤ 300 * bb; omega⟩ (Nat.le_of_ble_eq_true rfl)) ?_
      refine lf (a_istore dL_law_1381 (by decide)) ?_
      refine lf (a_aload_n dL_law_1383 rfl) ?_
      refine lf (a_inv (b2 := (60 * bb, 300 * bb)) (m_thrown (by repeat (first | with_reducible exact hw | with_reducible exact hwc | with_reducible assumption | with_reducible apply Wf.sI | with_reducible apply Wf.sL | with_reducible apply Wf.cpI | with_reducible apply Wf.cpL | with_reducible apply Wf.cp2 | with_reducible apply Wf.sIs | with_reducible apply Wf.sLs | with_reducible apply Wf.cpU | with_reducible apply Wf.fillI | with_reducible apply Wf.clU | with_reducible apply Wf.dnF | with_reducible apply Wf.gbW))) rfl dL_law_1384 yk_X11_thrown im_X11_thrown se_X11_thrown ml_L_114 rfl (co_338 (by repeat (first | with_reducible exact hw | with_reducible exact hwc | with_reducible assumption | with_reducible apply Wf.sI | with_reducible apply Wf.sL | with_reducible apply Wf.cpI | with_reducible apply Wf.cpL | with_reducible apply Wf.cp2 | with_reducible apply Wf.sIs | with_reducible apply Wf.sLs | with_reducible apply Wf.cpU | with_reducible apply Wf.fillI | with_reducible apply Wf.clU | with_reducible apply Wf.dnF | with_reducible apply Wf.gbW))) (by decide) hc_X11 (by decide) ⟨by show 0 + 60 * bb ≤ 60 * bb; omega, by show 0 + 300 * bb ≤ 300 * bb; omega⟩ (Nat.le_of_ble_eq_true rfl)) ?_
      refine lf (a_iload dL_law_1387 rfl) ?_
      refine lf2 (a_icmp_eq (tgt := 1394) dL_law_1389 (by decide)) (fun h1389 => ?_) (fun h1389 => absurd h1389 (fun z => z k0))
      refine lf (a_iload dL_law_1394 rfl) ?_
      refine lfn (a_if_ne (tgt := 1411) dL_law_1396 (by decide)) (fun h1396 => ?_) (fun h1396 => absurd h1396 (by decide))
      refine lf (a_goto (tgt := 1976) dL_law_1411 (by decide)) ?_
      exact lf (a_loc (LAw i) rfl) (kx V hr hX2)
    · obtain ⟨z, V, tz, km, k0, hr, hv, hx⟩ := hk W (Out.rfl' hW)
      obtain ⟨z, rfl⟩ := tz
      have hX1 : gX W = X := hg.trans hX
      have hX2 : gX V = X := hx.trans hX1
      have hV := hr.wf
      refine lf (a_aload_n dL_law_1358 rfl) ?_
      refine lf (a_aload_n dL_law_1359 rfl) ?_
      refine lf (a_iload dL_law_1360 rfl) ?_
      refine lf (a_iconst (1 : Int32) dL_law_1362 (by decide)) ?_
      refine lf (a_iadd dL_law_1363) ?_
      refine lf (a_sld dL_law_1364 hX (ix_s (k := 1) rfl (show i + 1 < X.1 by omega) (by omega))) ?_
      refine lf (a_aload_n dL_law_1365 rfl) ?_
      refine lf (a_invSH (b2 := (60 * bb, 300 * bb)) (wx_advance_2 (by repeat (first | with_reducible exact hw | with_reducible exact hwc | with_reducible assumption | with_reducible apply Wf.sI | with_reducible apply Wf.sL | with_reducible apply Wf.cpI | with_reducible apply Wf.cpL | with_reducible apply Wf.cp2 | with_reducible apply Wf.sIs | with_reducible apply Wf.sLs | with_reducible apply Wf.cpU | with_reducible apply Wf.fillI | with_reducible apply Wf.clU | with_reducible apply Wf.dnF | with_reducible apply Wf.gbW)) (X.2 (i + 1)) hc) rfl dL_law_1366 yh_L_advance sm_L_advance ml_L_177 rfl (by decide) ⟨by show 1 + 60 * bb ≤ 60 * (bb + 1); omega, by show 6 + 300 * bb ≤ 300 * (bb + 1); omega⟩ (Nat.le_of_ble_eq_true rfl)) ?_
      refine lf (a_istore dL_law_1369 (by decide)) ?_
      refine lf (a_aload_n dL_law_1371 rfl) ?_
      refine lf (a_aload_n dL_law_1372 rfl) ?_
      refine lf (a_iload dL_law_1373 rfl) ?_
      refine lf (a_iconst (1 : Int32) dL_law_1375 (by decide)) ?_
      refine lf (a_iadd dL_law_1376) ?_
      refine lf (a_sld dL_law_1377 hX1 (ix_s (k := 1) rfl (show i + 1 < X.1 by omega) (by omega))) ?_
      refine lf (a_inv (b2 := (60 * bb, 300 * bb)) km rfl dL_law_1378 yk_X11_advance im_X11_advance se_X11_advance ml_L_179 rfl (co_338 (by repeat (first | with_reducible exact hw | with_reducible exact hwc | with_reducible assumption | with_reducible apply Wf.sI | with_reducible apply Wf.sL | with_reducible apply Wf.cpI | with_reducible apply Wf.cpL | with_reducible apply Wf.cp2 | with_reducible apply Wf.sIs | with_reducible apply Wf.sLs | with_reducible apply Wf.cpU | with_reducible apply Wf.fillI | with_reducible apply Wf.clU | with_reducible apply Wf.dnF | with_reducible apply Wf.gbW))) (by decide) hc_X11 (by decide) ⟨by show 0 + 60 * bb ≤ 60 * bb; omega, by show 0 + 300 * bb ≤ 300 * bb; omega⟩ (Nat.le_of_ble_eq_true rfl)) ?_
      refine lf (a_istore dL_law_1381 (by decide)) ?_
      refine lf (a_aload_n dL_law_1383 rfl) ?_
      refine lf (a_inv (b2 := (60 * bb, 300 * bb)) (m_thrown (by repeat (first | with_reducible exact hw | with_reducible exact hwc | with_reducible assumption | with_reducible apply Wf.sI | with_reducible apply Wf.sL | with_reducible apply Wf.cpI | with_reducible apply Wf.cpL | with_reducible apply Wf.cp2 | with_reducible apply Wf.sIs | with_reducible apply Wf.sLs | with_reducible apply Wf.cpU | with_reducible apply Wf.fillI | with_reducible apply Wf.clU | with_reducible apply Wf.dnF | with_reducible apply Wf.gbW))) rfl dL_law_1384 yk_X11_thrown im_X11_thrown se_X11_thrown ml_L_114 rfl (co_338 (by repeat (first | with_reducible exact hw | with_reducible exact hwc | with_reducible assumption | with_reducible apply Wf.sI | with_reducible apply Wf.sL | with_reducible apply Wf.cpI | with_reducible apply Wf.cpL | with_reducible apply Wf.cp2 | with_reducible apply Wf.sIs | with_reducible apply Wf.sLs | with_reducible apply Wf.cpU | with_reducible apply Wf.fillI | with_reducible apply Wf.clU | with_reducible apply Wf.dnF | with_reducible apply Wf.gbW))) (by decide) hc_X11 (by decide) ⟨by show 0 + 60 * bb ≤ 60 * bb; omega, by show 0 + 300 * bb ≤ 300 * bb; omega⟩ (Nat.le_of_ble_eq_true rfl)) ?_
      refine lf (a_iload dL_law_1387 rfl) ?_
      refine lf2 (a_icmp_eq (tgt := 1394) dL_law_1389 (by decide)) (fun h1389 => ?_) (fun h1389 => absurd h1389 (fun z => z k0))
      refine lf (a_iload dL_law_1394 rfl) ?_
      refine lfn (a_if_ne (tgt := 1411) dL_law_1396 (by decide)) (fun h1396 => ?_) (fun h1396 => absurd h1396 (by decide))
      refine lf (a_goto (tgt := 1976) dL_law_1411 (by decide)) ?_
      exact lf (a_loc (LAw i) rfl) (kx V hr hX2)
end STEPS
