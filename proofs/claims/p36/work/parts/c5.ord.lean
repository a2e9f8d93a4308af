section ORD
variable {μ : Wd} {p p0 N : Nat} {q : PDt} {d : FDt} {H : Hst} {S : Nat → Option FDt}
abbrev R_L_order : Room := { frames := 14, cells := 0, slots := 0, locals := 500 }
theorem QX.shp {q : PDt} (h : QX q) : ShP q := h.2.2.2.2.2.2
theorem spQ_eq (q : PDt) (d : FDt) (k : Nat) : (dF d 1 k = 0 → spQ q d k = 0) ∧ (pM q ≤ 12 → ¬ dF d 1 k = 0 → pgV q d k 5 < 0 → spQ q d k = 0) ∧ (pM q ≤ 12 → ¬ dF d 1 k = 0 → ¬ pgV q d k 5 < 0 → spQ q d k = 1) := by
  refine ⟨fun h => if_pos h, fun hM h1 h2 => ?_, fun hM h1 h2 => ?_⟩ <;> unfold spQ <;> rw [if_neg h1]
  · have h2 : oI (chD q (fitD q (dF d 0 k) (dF d 1 k)) (pM q)) < 0 := h2
    cases e : chD q (fitD q (dF d 0 k) (dF d 1 k)) (pM q) with
    | none => rfl
    | some b =>
      rw [e] at h2
      exact absurd ((nI_ltI (a := b) (b := 0) (by have := chD_lt e; omega) (by decide)).mp h2) (Nat.not_lt_zero _)
  · have h2 : ¬ oI (chD q (fitD q (dF d 0 k) (dF d 1 k)) (pM q)) < 0 := h2
    cases e : chD q (fitD q (dF d 0 k) (dF d 1 k)) (pM q) with
    | none =>
      rw [e] at h2
      exact absurd (by decide) h2
    | some b => rfl
theorem l_L_order_9  {Q : Oc → Wd → Prop} (kx : ∀ W, LwA p p0 q d H S N μ W → WP Y_L_order R_L_order (0, 0) W 53 [(0, .ref 0), (1, .int 1), (2, .int 0), (3, .int (smI (spQ q d) (dP d))), (4, .int (nI (dP d)))] [] Q) : ∀ dd m (W : Wd), m + dd = dP d → LwA p p0 q d H S N μ W → WP Y_L_order R_L_order (0, 0) W 9 [(0, .ref 0), (1, .int 1), (2, .int 0), (3, .int (smI (spQ q d) m)), (4, .int (nI m))] [] Q := by
  intro dd
  induction dd with
  | zero =>
    intro m W hm hI
    obtain rfl : dP d = m := by omega
    have hw := hI.1.wf
    have hwo := hw
    have hq := hI.1.gp
    have hg := hI.1.gd
    have hC4 := hq.C4
    have hM4 := hq.M4
    have hT4 := hq.T4
    have hP4 := hg.P4
    have hU4 := hg.U4
    refine lf (a_iload dL_order_9 rfl) ?_
    refine lf (a_aload_n dL_order_11 rfl) ?_
    refine lf (a_iconst (3 : Int32) dL_order_12 (by decide)) ?_
    obtain ⟨v_, W13, k13, rfl, h13⟩ := (w_count hI.1 (k := 3) (by decide))
    have hwo := hw
    have hI := hI.tr h13
    have hw := hI.1.wf
    refine lf (a_inv (b2 := (0, 0)) k13 rfl dL_order_13 yk_X10_count im_X10_count se_X10_count ml_L_131 rfl (co_0 hwo) (by decide) hc_X10 (by decide) (by decide) (Nat.le_of_ble_eq_true rfl)) ?_
    rw [show cnV q d H.1 3 = nI (dP d) from rfl]
    refine lf2 (a_icmp_ge (tgt := 53) dL_order_16 (by decide)) (fun h16 => ?_) (fun h16 => absurd h16 (fun z => z (nI_le (Nat.le_refl _) (by omega))))
    exact lf (a_loc _ rfl) (kx _ hI)
  | succ dd ih =>
    intro m W hm hI
    have hw := hI.1.wf
    have hwo := hw
    have hq := hI.1.gp
    have hg := hI.1.gd
    have hC4 := hq.C4
    have hM4 := hq.M4
    have hT4 := hq.T4
    have hP4 := hg.P4
    have hU4 := hg.U4
    refine lf (a_iload dL_order_9 rfl) ?_
    refine lf (a_aload_n dL_order_11 rfl) ?_
    refine lf (a_iconst (3 : Int32) dL_order_12 (by decide)) ?_
    obtain ⟨v_, W13, k13, rfl, h13⟩ := (w_count hI.1 (k := 3) (by decide))
    have hwo := hw
    have hI := hI.tr h13
    have hw := hI.1.wf
    refine lf (a_inv (b2 := (0, 0)) k13 rfl dL_order_13 yk_X10_count im_X10_count se_X10_count ml_L_131 rfl (co_0 hwo) (by decide) hc_X10 (by decide) (by decide) (Nat.le_of_ble_eq_true rfl)) ?_
    rw [show cnV q d H.1 3 = nI (dP d) from rfl]
    refine lf2 (a_icmp_ge (tgt := 53) dL_order_16 (by decide)) (fun h16 => absurd h16 (nI_ge (a := m) (b := dP d) (by omega) (by omega))) (fun h16 => ?_)
    refine lf (a_iload_n dL_order_19 rfl) ?_
    refine lf (a_aload_n dL_order_20 rfl) ?_
    refine lf (a_iload dL_order_21 rfl) ?_
    refine lf (a_iconst (1 : Int32) dL_order_23 (by decide)) ?_
    obtain ⟨v_, W24, k24, rfl, h24⟩ := (w_passenger hI.1 (i := m) (k := 1) (by omega) (by decide))
    have hwo := hw
    have hI := hI.tr h24
    have hw := hI.1.wf
    refine lf (a_inv (b2 := (0, 0)) k24 rfl dL_order_24 yk_X10_passenger im_X10_passenger se_X10_passenger ml_L_149 rfl (co_0 hwo) (by decide) hc_X10 (by decide) (by decide) (Nat.le_of_ble_eq_true rfl)) ?_
    rw [show pgV q d m 1 = dF d 1 m from rfl]
    refine lf2 (a_if_eq (tgt := 44) dL_order_27 (by decide)) (fun h27 => ?_) (fun h27 => ?_)
    · have hsp := (spQ_eq q d m).1 h27
      refine lf (a_iconst (0 : Int32) dL_order_44 (by decide)) ?_
      refine lf (a_iadd dL_order_45) ?_
      refine lf (a_istore_n dL_order_46 (by decide)) ?_
      refine lf (a_iincN dL_order_47 rfl (by decide)) ?_
      refine lf (a_goto (tgt := 9) dL_order_50 (by decide)) ?_
      have q9 := ih (m + 1) _ (by omega) hI
      rw [smI_succ, hsp] at q9
      exact lf (a_loc _ rfl) q9
    · refine lf (a_aload_n dL_order_30 rfl) ?_
      refine lf (a_iload dL_order_31 rfl) ?_
      refine lf (a_iconst (5 : Int32) dL_order_33 (by decide)) ?_
      obtain ⟨v_, W34, k34, rfl, h34⟩ := (w_passenger hI.1 (i := m) (k := 5) (by omega) (by decide))
      have hwo := hw
      have hI := hI.tr h34
      have hw := hI.1.wf
      refine lf (a_inv (b2 := (0, 0)) k34 rfl dL_order_34 yk_X10_passenger im_X10_passenger se_X10_passenger ml_L_149 rfl (co_0 hwo) (by decide) hc_X10 (by decide) (by decide) (Nat.le_of_ble_eq_true rfl)) ?_
      refine lf2 (a_if_lt (tgt := 44) dL_order_37 (by decide)) (fun h37 => ?_) (fun h37 => ?_)
      · have hsp := (spQ_eq q d m).2.1 hM4 h27 h37
        refine lf (a_iconst (0 : Int32) dL_order_44 (by decide)) ?_
        refine lf (a_iadd dL_order_45) ?_
        refine lf (a_istore_n dL_order_46 (by decide)) ?_
        refine lf (a_iincN dL_order_47 rfl (by decide)) ?_
        refine lf (a_goto (tgt := 9) dL_order_50 (by decide)) ?_
        have q9 := ih (m + 1) _ (by omega) hI
        rw [smI_succ, hsp] at q9
        exact lf (a_loc _ rfl) q9
      · have hsp := (spQ_eq q d m).2.2 hM4 h27 h37
        refine lf (a_iconst (1 : Int32) dL_order_40 (by decide)) ?_
        refine lf (a_goto (tgt := 45) dL_order_41 (by decide)) ?_
        refine lf (a_iadd dL_order_45) ?_
        refine lf (a_istore_n dL_order_46 (by decide)) ?_
        refine lf (a_iincN dL_order_47 rfl (by decide)) ?_
        refine lf (a_goto (tgt := 9) dL_order_50 (by decide)) ?_
        have q9 := ih (m + 1) _ (by omega) hI
        rw [smI_succ, hsp] at q9
        exact lf (a_loc _ rfl) q9
theorem l_L_order_56 {x : Int32} {Q : Oc → Wd → Prop} (kx : ∀ W, LwA p p0 q d H S N μ W → WP Y_L_order R_L_order (0, 0) W 153 [(0, .ref 0), (1, .int 1), (2, .int (smI (caQ q d) (pC q))), (3, .int x), (4, .int (nI (pC q)))] [] Q) : ∀ dd m (W : Wd), m + dd = pC q → LwA p p0 q d H S N μ W → WP Y_L_order R_L_order (0, 0) W 56 [(0, .ref 0), (1, .int 1), (2, .int (smI (caQ q d) m)), (3, .int x), (4, .int (nI m))] [] Q := by
  intro dd
  induction dd with
  | zero =>
    intro m W hm hI
    obtain rfl : pC q = m := by omega
    have hw := hI.1.wf
    have hwo := hw
    have hq := hI.1.gp
    have hg := hI.1.gd
    have hC4 := hq.C4
    have hM4 := hq.M4
    have hT4 := hq.T4
    have hP4 := hg.P4
    have hU4 := hg.U4
    refine lf (a_iload dL_order_56 rfl) ?_
    refine lf (a_aload_n dL_order_58 rfl) ?_
    refine lf (a_iconst (1 : Int32) dL_order_59 (by decide)) ?_
    obtain ⟨v_, W60, k60, rfl, h60⟩ := (w_count hI.1 (k := 1) (by decide))
    have hwo := hw
    have hI := hI.tr h60
    have hw := hI.1.wf
    refine lf (a_inv (b2 := (0, 0)) k60 rfl dL_order_60 yk_X10_count im_X10_count se_X10_count ml_L_131 rfl (co_0 hwo) (by decide) hc_X10 (by decide) (by decide) (Nat.le_of_ble_eq_true rfl)) ?_
    rw [show cnV q d H.1 1 = nI (pC q) from rfl]
    refine lf2 (a_icmp_ge (tgt := 153) dL_order_63 (by decide)) (fun h63 => ?_) (fun h63 => absurd h63 (fun z => z (nI_le (Nat.le_refl _) (by omega))))
    exact lf (a_loc _ rfl) (kx _ hI)
  | succ dd ih =>
    intro m W hm hI
    have hw := hI.1.wf
    have hwo := hw
    have hq := hI.1.gp
    have hg := hI.1.gd
    have hC4 := hq.C4
    have hM4 := hq.M4
    have hT4 := hq.T4
    have hP4 := hg.P4
    have hU4 := hg.U4
    refine lf (a_iload dL_order_56 rfl) ?_
    refine lf (a_aload_n dL_order_58 rfl) ?_
    refine lf (a_iconst (1 : Int32) dL_order_59 (by decide)) ?_
    obtain ⟨v_, W60, k60, rfl, h60⟩ := (w_count hI.1 (k := 1) (by decide))
    have hwo := hw
    have hI := hI.tr h60
    have hw := hI.1.wf
    refine lf (a_inv (b2 := (0, 0)) k60 rfl dL_order_60 yk_X10_count im_X10_count se_X10_count ml_L_131 rfl (co_0 hwo) (by decide) hc_X10 (by decide) (by decide) (Nat.le_of_ble_eq_true rfl)) ?_
    rw [show cnV q d H.1 1 = nI (pC q) from rfl]
    refine lf2 (a_icmp_ge (tgt := 153) dL_order_63 (by decide)) (fun h63 => absurd h63 (nI_ge (a := m) (b := pC q) (by omega) (by omega))) (fun h63 => ?_)
    refine lf (a_aload_n dL_order_66 rfl) ?_
    refine lf (a_iload dL_order_67 rfl) ?_
    refine lf (a_iconst (2 : Int32) dL_order_69 (by decide)) ?_
    obtain ⟨v_, W70, k70, rfl, h70⟩ := (w_cabin hI.1 (c := m) (k := 2) (by omega) (by decide))
    have hwo := hw
    have hI := hI.tr h70
    have hw := hI.1.wf
    obtain ⟨⟨sx, sx1, sx2, sx3⟩, _⟩ := hq.2.1 m (by omega)
    have hse : ¬ pF q 0 m < paD d (nI m) := by
      have h1 := hI.1.2.2.1.2.2.1 m sx (by omega) sx3 sx2
      rw [sx3, paD_N]
      intro z
      have := (nI_ltI (by omega) (by omega)).mp z
      omega
    refine lf (a_inv (b2 := (0, 0)) k70 rfl dL_order_70 yk_X10_cabin im_X10_cabin se_X10_cabin ml_L_143 rfl (co_0 hwo) (by decide) hc_X10 (by decide) (by decide) (Nat.le_of_ble_eq_true rfl)) ?_
    rw [show caV q d m 2 = paD d (nI m) from rfl]
    refine lf (a_aload_n dL_order_73 rfl) ?_
    refine lf (a_iload dL_order_74 rfl) ?_
    refine lf (a_iconst (3 : Int32) dL_order_76 (by decide)) ?_
    obtain ⟨v_, W77, k77, rfl, h77⟩ := (w_cabin hI.1 (c := m) (k := 3) (by omega) (by decide))
    have hwo := hw
    have hI := hI.tr h77
    have hw := hI.1.wf
    refine lf (a_inv (b2 := (0, 0)) k77 rfl dL_order_77 yk_X10_cabin im_X10_cabin se_X10_cabin ml_L_143 rfl (co_0 hwo) (by decide) hc_X10 (by decide) (by decide) (Nat.le_of_ble_eq_true rfl)) ?_
    rw [show caV q d m 3 = spD d (nI m) from rfl]
    refine lf (a_isub dL_order_80) ?_
    refine lf (a_istore dL_order_81 (by decide)) ?_
    refine lf (a_iload_n dL_order_83 rfl) ?_
    refine lf (a_aload_n dL_order_84 rfl) ?_
    refine lf (a_iload dL_order_85 rfl) ?_
    refine lf (a_bipush (6 : Int32) dL_order_87 (by decide)) ?_
    obtain ⟨v_, W89, k89, rfl, h89⟩ := (w_cabin hI.1 (c := m) (k := 6) (by omega) (by decide))
    have hwo := hw
    have hI := hI.tr h89
    have hw := hI.1.wf
    refine lf (a_inv (b2 := (0, 0)) k89 rfl dL_order_89 yk_X10_cabin im_X10_cabin se_X10_cabin ml_L_143 rfl (co_0 hwo) (by decide) hc_X10 (by decide) (by decide) (Nat.le_of_ble_eq_true rfl)) ?_
    rw [show caV q d m 6 = meD q (nI m) from rfl]
    refine lfn (a_if_ne (tgt := 99) dL_order_92 (by decide)) (fun h92 => ?_) (fun h92 => ?_)
    · have hcq : caQ q d m = ((paD d (nI m) - spD d (nI m)) * (100 + pF q 1 m) + 99) / 100 := if_neg h92
      refine lf (a_iload dL_order_99 rfl) ?_
      refine lf (a_bipush (100 : Int32) dL_order_101 (by decide)) ?_
      refine lf (a_aload_n dL_order_103 rfl) ?_
      refine lf (a_iload dL_order_104 rfl) ?_
      refine lf (a_iconst (1 : Int32) dL_order_106 (by decide)) ?_
      obtain ⟨v_, W107, k107, rfl, h107⟩ := (w_cabin hI.1 (c := m) (k := 1) (by omega) (by decide))
      have hwo := hw
      have hI := hI.tr h107
      have hw := hI.1.wf
      refine lf (a_inv (b2 := (0, 0)) k107 rfl dL_order_107 yk_X10_cabin im_X10_cabin se_X10_cabin ml_L_143 rfl (co_0 hwo) (by decide) hc_X10 (by decide) (by decide) (Nat.le_of_ble_eq_true rfl)) ?_
      rw [show caV q d m 1 = pF q 1 m from rfl]
      refine lf (a_iadd dL_order_110) ?_
      refine lf (a_imul dL_order_111) ?_
      refine lf (a_bipush (99 : Int32) dL_order_112 (by decide)) ?_
      refine lf (a_iadd dL_order_114) ?_
      refine lf (a_bipush (100 : Int32) dL_order_115 (by decide)) ?_
      refine lf (a_idiv dL_order_117 (by decide)) ?_
      refine lf (a_iadd dL_order_118) ?_
      refine lf (a_istore_n dL_order_119 (by decide)) ?_
      refine lf (a_iload_n dL_order_120 rfl) ?_
      refine lf2 (a_if_eq (tgt := 145) dL_order_121 (by decide)) (fun h121 => absurd h121 (by decide)) (fun h121 => ?_)
      refine lf (a_aload_n dL_order_124 rfl) ?_
      refine lf (a_iload dL_order_125 rfl) ?_
      refine lf (a_iconst (2 : Int32) dL_order_127 (by decide)) ?_
      obtain ⟨v_, W128, k128, rfl, h128⟩ := (w_cabin hI.1 (c := m) (k := 2) (by omega) (by decide))
      have hwo := hw
      have hI := hI.tr h128
      have hw := hI.1.wf
      refine lf (a_inv (b2 := (0, 0)) k128 rfl dL_order_128 yk_X10_cabin im_X10_cabin se_X10_cabin ml_L_143 rfl (co_0 hwo) (by decide) hc_X10 (by decide) (by decide) (Nat.le_of_ble_eq_true rfl)) ?_
      rw [show caV q d m 2 = paD d (nI m) from rfl]
      refine lf (a_aload_n dL_order_131 rfl) ?_
      refine lf (a_iload dL_order_132 rfl) ?_
      refine lf (a_iconst (0 : Int32) dL_order_134 (by decide)) ?_
      obtain ⟨v_, W135, k135, rfl, h135⟩ := (w_cabin hI.1 (c := m) (k := 0) (by omega) (by decide))
      have hwo := hw
      have hI := hI.tr h135
      have hw := hI.1.wf
      refine lf (a_inv (b2 := (0, 0)) k135 rfl dL_order_135 yk_X10_cabin im_X10_cabin se_X10_cabin ml_L_143 rfl (co_0 hwo) (by decide) hc_X10 (by decide) (by decide) (Nat.le_of_ble_eq_true rfl)) ?_
      rw [show caV q d m 0 = pF q 0 m from rfl]
      refine lf2 (a_icmp_gt (tgt := 145) dL_order_138 (by decide)) (fun h138 => absurd h138 hse) (fun h138 => ?_)
      refine lf (a_iconst (1 : Int32) dL_order_141 (by decide)) ?_
      refine lf (a_goto (tgt := 146) dL_order_142 (by decide)) ?_
      refine lf (a_istore_n dL_order_146 (by decide)) ?_
      refine lf (a_iincN dL_order_147 rfl (by decide)) ?_
      refine lf (a_goto (tgt := 56) dL_order_150 (by decide)) ?_
      have q9 := ih (m + 1) _ (by omega) hI
      rw [smI_succ, hcq] at q9
      exact lf (a_loc _ rfl) q9
    · have hcq : caQ q d m = 0 := if_pos h92
      refine lf (a_iconst (0 : Int32) dL_order_95 (by decide)) ?_
      refine lf (a_goto (tgt := 118) dL_order_96 (by decide)) ?_
      refine lf (a_iadd dL_order_118) ?_
      refine lf (a_istore_n dL_order_119 (by decide)) ?_
      refine lf (a_iload_n dL_order_120 rfl) ?_
      refine lf2 (a_if_eq (tgt := 145) dL_order_121 (by decide)) (fun h121 => absurd h121 (by decide)) (fun h121 => ?_)
      refine lf (a_aload_n dL_order_124 rfl) ?_
      refine lf (a_iload dL_order_125 rfl) ?_
      refine lf (a_iconst (2 : Int32) dL_order_127 (by decide)) ?_
      obtain ⟨v_, W128, k128, rfl, h128⟩ := (w_cabin hI.1 (c := m) (k := 2) (by omega) (by decide))
      have hwo := hw
      have hI := hI.tr h128
      have hw := hI.1.wf
      refine lf (a_inv (b2 := (0, 0)) k128 rfl dL_order_128 yk_X10_cabin im_X10_cabin se_X10_cabin ml_L_143 rfl (co_0 hwo) (by decide) hc_X10 (by decide) (by decide) (Nat.le_of_ble_eq_true rfl)) ?_
      rw [show caV q d m 2 = paD d (nI m) from rfl]
      refine lf (a_aload_n dL_order_131 rfl) ?_
      refine lf (a_iload dL_order_132 rfl) ?_
      refine lf (a_iconst (0 : Int32) dL_order_134 (by decide)) ?_
      obtain ⟨v_, W135, k135, rfl, h135⟩ := (w_cabin hI.1 (c := m) (k := 0) (by omega) (by decide))
      have hwo := hw
      have hI := hI.tr h135
      have hw := hI.1.wf
      refine lf (a_inv (b2 := (0, 0)) k135 rfl dL_order_135 yk_X10_cabin im_X10_cabin se_X10_cabin ml_L_143 rfl (co_0 hwo) (by decide) hc_X10 (by decide) (by decide) (Nat.le_of_ble_eq_true rfl)) ?_
      rw [show caV q d m 0 = pF q 0 m from rfl]
      refine lf2 (a_icmp_gt (tgt := 145) dL_order_138 (by decide)) (fun h138 => absurd h138 hse) (fun h138 => ?_)
      refine lf (a_iconst (1 : Int32) dL_order_141 (by decide)) ?_
      refine lf (a_goto (tgt := 146) dL_order_142 (by decide)) ?_
      refine lf (a_istore_n dL_order_146 (by decide)) ?_
      refine lf (a_iincN dL_order_147 rfl (by decide)) ?_
      refine lf (a_goto (tgt := 56) dL_order_150 (by decide)) ?_
      have q9 := ih (m + 1) _ (by omega) hI
      rw [smI_succ, hcq] at q9
      exact lf (a_loc _ rfl) q9
theorem l_L_order_162 {x x2 : Int32} {Q : Oc → Wd → Prop} (kx : ∀ W, LwA p p0 q d H S N μ W → WP Y_L_order R_L_order (0, 0) W 254 [(0, .ref 0), (1, .int 1), (2, .int x), (3, .int x2), (4, .int (smI (orD q d) (pM q))), (5, .int (smI (owP d (dU d)) (pM q))), (6, .int (nI (pM q)))] [] Q) : ∀ dd m (W : Wd), m + dd = pM q → LwA p p0 q d H S N μ W → WP Y_L_order R_L_order (0, 0) W 162 [(0, .ref 0), (1, .int 1), (2, .int x), (3, .int x2), (4, .int (smI (orD q d) m)), (5, .int (smI (owP d (dU d)) m)), (6, .int (nI m))] [] Q := by
  intro dd
  induction dd with
  | zero =>
    intro m W hm hI
    obtain rfl : pM q = m := by omega
    have hw := hI.1.wf
    have hwo := hw
    have hq := hI.1.gp
    have hg := hI.1.gd
    have hC4 := hq.C4
    have hM4 := hq.M4
    have hT4 := hq.T4
    have hP4 := hg.P4
    have hU4 := hg.U4
    refine lf (a_iload dL_order_162 rfl) ?_
    refine lf (a_aload_n dL_order_164 rfl) ?_
    refine lf (a_iconst (2 : Int32) dL_order_165 (by decide)) ?_
    obtain ⟨v_, W166, k166, rfl, h166⟩ := (w_count hI.1 (k := 2) (by decide))
    have hwo := hw
    have hI := hI.tr h166
    have hw := hI.1.wf
    refine lf (a_inv (b2 := (0, 0)) k166 rfl dL_order_166 yk_X10_count im_X10_count se_X10_count ml_L_131 rfl (co_0 hwo) (by decide) hc_X10 (by decide) (by decide) (Nat.le_of_ble_eq_true rfl)) ?_
    rw [show cnV q d H.1 2 = nI (pM q) from rfl]
    refine lf2 (a_icmp_ge (tgt := 254) dL_order_169 (by decide)) (fun h169 => ?_) (fun h169 => absurd h169 (fun z => z (nI_le (Nat.le_refl _) (by omega))))
    exact lf (a_loc _ rfl) (kx _ hI)
  | succ dd ih =>
    intro m W hm hI
    have hw := hI.1.wf
    have hwo := hw
    have hq := hI.1.gp
    have hg := hI.1.gd
    have hC4 := hq.C4
    have hM4 := hq.M4
    have hT4 := hq.T4
    have hP4 := hg.P4
    have hU4 := hg.U4
    refine lf (a_iload dL_order_162 rfl) ?_
    refine lf (a_aload_n dL_order_164 rfl) ?_
    refine lf (a_iconst (2 : Int32) dL_order_165 (by decide)) ?_
    obtain ⟨v_, W166, k166, rfl, h166⟩ := (w_count hI.1 (k := 2) (by decide))
    have hwo := hw
    have hI := hI.tr h166
    have hw := hI.1.wf
    refine lf (a_inv (b2 := (0, 0)) k166 rfl dL_order_166 yk_X10_count im_X10_count se_X10_count ml_L_131 rfl (co_0 hwo) (by decide) hc_X10 (by decide) (by decide) (Nat.le_of_ble_eq_true rfl)) ?_
    rw [show cnV q d H.1 2 = nI (pM q) from rfl]
    refine lf2 (a_icmp_ge (tgt := 254) dL_order_169 (by decide)) (fun h169 => absurd h169 (nI_ge (a := m) (b := pM q) (by omega) (by omega))) (fun h169 => ?_)
    refine lf (a_iload dL_order_172 rfl) ?_
    refine lf (a_aload_n dL_order_174 rfl) ?_
    refine lf (a_iload dL_order_175 rfl) ?_
    refine lf (a_bipush (6 : Int32) dL_order_177 (by decide)) ?_
    obtain ⟨v_, W179, k179, rfl, h179⟩ := (w_meal hI.1 (m := m) (k := 6) (by omega) (by decide))
    have hwo := hw
    have hI := hI.tr h179
    have hw := hI.1.wf
    refine lf (a_inv (b2 := (0, 0)) k179 rfl dL_order_179 yk_X10_meal im_X10_meal se_X10_meal ml_L_146 rfl (co_0 hwo) (by decide) hc_X10 (by decide) (by decide) (Nat.le_of_ble_eq_true rfl)) ?_
    rw [show mlV q d m 6 = orD q d m from rfl]
    refine lf (a_iadd dL_order_182) ?_
    refine lf (a_istore dL_order_183 (by decide)) ?_
    refine lf (a_iload dL_order_185 rfl) ?_
    refine lf (a_aload_n dL_order_187 rfl) ?_
    refine lf (a_iload dL_order_188 rfl) ?_
    refine lf (a_bipush (7 : Int32) dL_order_190 (by decide)) ?_
    obtain ⟨v_, W192, k192, rfl, h192⟩ := (w_meal hI.1 (m := m) (k := 7) (by omega) (by decide))
    have hwo := hw
    have hI := hI.tr h192
    have hw := hI.1.wf
    refine lf (a_inv (b2 := (0, 0)) k192 rfl dL_order_192 yk_X10_meal im_X10_meal se_X10_meal ml_L_146 rfl (co_0 hwo) (by decide) hc_X10 (by decide) (by decide) (Nat.le_of_ble_eq_true rfl)) ?_
    rw [show mlV q d m 7 = owP d (dU d) m from rfl]
    refine lf (a_iadd dL_order_195) ?_
    refine lf (a_istore dL_order_196 (by decide)) ?_
    refine lf (a_iload_n dL_order_198 rfl) ?_
    refine lf2 (a_if_eq (tgt := 246) dL_order_199 (by decide)) (fun h199 => absurd h199 (by decide)) (fun h199 => ?_)
    refine lf (a_aload_n dL_order_202 rfl) ?_
    refine lf (a_iload dL_order_203 rfl) ?_
    refine lf (a_bipush (9 : Int32) dL_order_205 (by decide)) ?_
    obtain ⟨v_, W207, k207, rfl, h207⟩ := (w_meal hI.1 (m := m) (k := 9) (by omega) (by decide))
    have hwo := hw
    have hI := hI.tr h207
    have hw := hI.1.wf
    refine lf (a_inv (b2 := (0, 0)) k207 rfl dL_order_207 yk_X10_meal im_X10_meal se_X10_meal ml_L_146 rfl (co_0 hwo) (by decide) hc_X10 (by decide) (by decide) (Nat.le_of_ble_eq_true rfl)) ?_
    rw [show mlV q d m 9 = msD q d m (orD q d m) from rfl]
    refine lf (a_iconst (0 : Int32) dL_order_210 (by decide)) ?_
    refine lf (a_aload_n dL_order_211 rfl) ?_
    refine lf (a_iload dL_order_212 rfl) ?_
    refine lf (a_bipush (6 : Int32) dL_order_214 (by decide)) ?_
    obtain ⟨v_, W216, k216, rfl, h216⟩ := (w_meal hI.1 (m := m) (k := 6) (by omega) (by decide))
    have hwo := hw
    have hI := hI.tr h216
    have hw := hI.1.wf
    refine lf (a_inv (b2 := (0, 0)) k216 rfl dL_order_216 yk_X10_meal im_X10_meal se_X10_meal ml_L_146 rfl (co_0 hwo) (by decide) hc_X10 (by decide) (by decide) (Nat.le_of_ble_eq_true rfl)) ?_
    rw [show mlV q d m 6 = orD q d m from rfl]
    refine lf (a_aload_n dL_order_219 rfl) ?_
    refine lf (a_iload dL_order_220 rfl) ?_
    refine lf (a_iconst (5 : Int32) dL_order_222 (by decide)) ?_
    obtain ⟨v_, W223, k223, rfl, h223⟩ := (w_meal hI.1 (m := m) (k := 5) (by omega) (by decide))
    have hwo := hw
    have hI := hI.tr h223
    have hw := hI.1.wf
    refine lf (a_inv (b2 := (0, 0)) k223 rfl dL_order_223 yk_X10_meal im_X10_meal se_X10_meal ml_L_146 rfl (co_0 hwo) (by decide) hc_X10 (by decide) (by decide) (Nat.le_of_ble_eq_true rfl)) ?_
    rw [show mlV q d m 5 = ldD q d m from rfl]
    refine lf (a_isub dL_order_226) ?_
    refine lf (a_aload_n dL_order_227 rfl) ?_
    refine lf (a_iload dL_order_228 rfl) ?_
    refine lf (a_bipush (7 : Int32) dL_order_230 (by decide)) ?_
    obtain ⟨v_, W232, k232, rfl, h232⟩ := (w_meal hI.1 (m := m) (k := 7) (by omega) (by decide))
    have hwo := hw
    have hI := hI.tr h232
    have hw := hI.1.wf
    refine lf (a_inv (b2 := (0, 0)) k232 rfl dL_order_232 yk_X10_meal im_X10_meal se_X10_meal ml_L_146 rfl (co_0 hwo) (by decide) hc_X10 (by decide) (by decide) (Nat.le_of_ble_eq_true rfl)) ?_
    rw [show mlV q d m 7 = owP d (dU d) m from rfl]
    refine lf (a_isub dL_order_235) ?_
    refine lf (a_mmax dL_order_236 ml_L_163 (Nat.le_of_ble_eq_true rfl) (Nat.le_of_ble_eq_true rfl) (Nat.le_of_ble_eq_true rfl)) ?_
    refine lfn (a_icmp_ne (tgt := 246) dL_order_239 (by decide)) (fun h239 => absurd h239 (fun z => z rfl)) (fun h239 => ?_)
    refine lf (a_iconst (1 : Int32) dL_order_242 (by decide)) ?_
    refine lf (a_goto (tgt := 247) dL_order_243 (by decide)) ?_
    refine lf (a_istore_n dL_order_247 (by decide)) ?_
    refine lf (a_iincN dL_order_248 rfl (by decide)) ?_
    refine lf (a_goto (tgt := 162) dL_order_251 (by decide)) ?_
    have q9 := ih (m + 1) _ (by omega) hI
    rw [smI_succ, smI_succ] at q9
    exact lf (a_loc _ rfl) q9
theorem l_L_order_260 {x x2 x3 x4 : Int32} {Q : Oc → Wd → Prop} (kx : ∀ W, LwA p p0 q d H S N μ W → WP Y_L_order R_L_order (0, 0) W 338 [(0, .ref 0), (1, .int 1), (2, .int x), (3, .int x2), (4, .int x3), (5, .int x4), (6, .int (smI (fun i => dF d 4 i) (dU d))), (7, .int (nI (dU d)))] [] Q) : ∀ dd m (W : Wd), m + dd = dU d → LwA p p0 q d H S N μ W → WP Y_L_order R_L_order (0, 0) W 260 [(0, .ref 0), (1, .int 1), (2, .int x), (3, .int x2), (4, .int x3), (5, .int x4), (6, .int (smI (fun i => dF d 4 i) m)), (7, .int (nI m))] [] Q := by
  intro dd
  induction dd with
  | zero =>
    intro m W hm hI
    obtain rfl : dU d = m := by omega
    have hw := hI.1.wf
    have hwo := hw
    have hq := hI.1.gp
    have hg := hI.1.gd
    have hC4 := hq.C4
    have hM4 := hq.M4
    have hT4 := hq.T4
    have hP4 := hg.P4
    have hU4 := hg.U4
    refine lf (a_iload dL_order_260 rfl) ?_
    refine lf (a_aload_n dL_order_262 rfl) ?_
    refine lf (a_bipush (6 : Int32) dL_order_263 (by decide)) ?_
    obtain ⟨v_, W265, k265, rfl, h265⟩ := (w_count hI.1 (k := 6) (by decide))
    have hwo := hw
    have hI := hI.tr h265
    have hw := hI.1.wf
    refine lf (a_inv (b2 := (0, 0)) k265 rfl dL_order_265 yk_X10_count im_X10_count se_X10_count ml_L_131 rfl (co_0 hwo) (by decide) hc_X10 (by decide) (by decide) (Nat.le_of_ble_eq_true rfl)) ?_
    rw [show cnV q d H.1 6 = nI (dU d) from rfl]
    refine lf2 (a_icmp_ge (tgt := 338) dL_order_268 (by decide)) (fun h268 => ?_) (fun h268 => absurd h268 (fun z => z (nI_le (Nat.le_refl _) (by omega))))
    exact lf (a_loc _ rfl) (kx _ hI)
  | succ dd ih =>
    intro m W hm hI
    have hw := hI.1.wf
    have hwo := hw
    have hq := hI.1.gp
    have hg := hI.1.gd
    have hC4 := hq.C4
    have hM4 := hq.M4
    have hT4 := hq.T4
    have hP4 := hg.P4
    have hU4 := hg.U4
    refine lf (a_iload dL_order_260 rfl) ?_
    refine lf (a_aload_n dL_order_262 rfl) ?_
    refine lf (a_bipush (6 : Int32) dL_order_263 (by decide)) ?_
    obtain ⟨v_, W265, k265, rfl, h265⟩ := (w_count hI.1 (k := 6) (by decide))
    have hwo := hw
    have hI := hI.tr h265
    have hw := hI.1.wf
    refine lf (a_inv (b2 := (0, 0)) k265 rfl dL_order_265 yk_X10_count im_X10_count se_X10_count ml_L_131 rfl (co_0 hwo) (by decide) hc_X10 (by decide) (by decide) (Nat.le_of_ble_eq_true rfl)) ?_
    rw [show cnV q d H.1 6 = nI (dU d) from rfl]
    refine lf2 (a_icmp_ge (tgt := 338) dL_order_268 (by decide)) (fun h268 => absurd h268 (nI_ge (a := m) (b := dU d) (by omega) (by omega))) (fun h268 => ?_)
    refine lf (a_iload dL_order_271 rfl) ?_
    refine lf (a_aload_n dL_order_273 rfl) ?_
    refine lf (a_iload dL_order_274 rfl) ?_
    refine lf (a_iconst (1 : Int32) dL_order_276 (by decide)) ?_
    refine lf (a_inv (b2 := (0, 0)) (w_topUpAt hI.1 (i := m) (by omega) (k := 1) (by decide)) rfl dL_order_277 yk_X10_topUpAt im_X10_topUpAt se_X10_topUpAt ml_L_155 rfl (co_0 hw) (by decide) hc_X10 (by decide) (by decide) (Nat.le_of_ble_eq_true rfl)) ?_
    rw [show tpV d m 1 = dF d 4 m from rfl]
    refine lf (a_iadd dL_order_280) ?_
    refine lf (a_istore dL_order_281 (by decide)) ?_
    refine lf (a_iload_n dL_order_283 rfl) ?_
    refine lf2 (a_if_eq (tgt := 330) dL_order_284 (by decide)) (fun h284 => absurd h284 (by decide)) (fun h284 => ?_)
    refine lf (a_aload_n dL_order_287 rfl) ?_
    refine lf (a_iload dL_order_288 rfl) ?_
    refine lf (a_iconst (2 : Int32) dL_order_290 (by decide)) ?_
    refine lf (a_inv (b2 := (0, 0)) (w_topUpAt hI.1 (i := m) (by omega) (k := 2) (by decide)) rfl dL_order_291 yk_X10_topUpAt im_X10_topUpAt se_X10_topUpAt ml_L_155 rfl (co_0 hw) (by decide) hc_X10 (by decide) (by decide) (Nat.le_of_ble_eq_true rfl)) ?_
    rw [show tpV d m 2 = dF d 5 m from rfl]
    refine lf (a_aload_n dL_order_294 rfl) ?_
    refine lf (a_iconst (5 : Int32) dL_order_295 (by decide)) ?_
    obtain ⟨v_, W296, k296, rfl, h296⟩ := (w_count hI.1 (k := 5) (by decide))
    have hwo := hw
    have hI := hI.tr h296
    have hw := hI.1.wf
    obtain ⟨lt, mt, et, t1, t2, t3, t4, t5, t6⟩ := hI.1.2.2.1.1.2.1
    obtain ⟨t7, t8, t9⟩ := t5 m (by omega)
    have htu : ¬ dF d 6 1 ≤ dF d 5 m := by
      rw [t7, t2]
      intro z
      have := (nI_leI (by omega) (by omega)).mp z
      omega
    refine lf (a_inv (b2 := (0, 0)) k296 rfl dL_order_296 yk_X10_count im_X10_count se_X10_count ml_L_131 rfl (co_0 hwo) (by decide) hc_X10 (by decide) (by decide) (Nat.le_of_ble_eq_true rfl)) ?_
    rw [show cnV q d H.1 5 = dF d 6 1 from rfl]
    refine lf2 (a_icmp_ge (tgt := 330) dL_order_299 (by decide)) (fun h299 => absurd h299 htu) (fun h299 => ?_)
    refine lf (a_iload dL_order_302 rfl) ?_
    refine lf2 (a_if_eq (tgt := 326) dL_order_304 (by decide)) (fun h304 => ?_) (fun h304 => ?_)
    · refine lf (a_iconst (1 : Int32) dL_order_326 (by decide)) ?_
      refine lf (a_goto (tgt := 331) dL_order_327 (by decide)) ?_
      refine lf (a_istore_n dL_order_331 (by decide)) ?_
      refine lf (a_iincN dL_order_332 rfl (by decide)) ?_
      refine lf (a_goto (tgt := 260) dL_order_335 (by decide)) ?_
      have q9 := ih (m + 1) _ (by omega) hI
      rw [smI_succ] at q9
      exact lf (a_loc _ rfl) q9
    · have hm0 : 0 < m := Nat.pos_of_ne_zero fun z => h304 (by rw [z]; rfl)
      have htv : ¬ dF d 5 (m - 1) < dF d 5 m := by
        have h1 := t6 (m - 1) m (by omega) (by omega)
        obtain ⟨u7, u8, u9⟩ := t5 (m - 1) (by omega)
        rw [t7, u7]
        intro z
        have := (nI_ltI (by omega) (by omega)).mp z
        omega
      refine lf (a_aload_n dL_order_307 rfl) ?_
      refine lf (a_iload dL_order_308 rfl) ?_
      refine lf (a_iconst (2 : Int32) dL_order_310 (by decide)) ?_
      refine lf (a_inv (b2 := (0, 0)) (w_topUpAt hI.1 (i := m) (by omega) (k := 2) (by decide)) rfl dL_order_311 yk_X10_topUpAt im_X10_topUpAt se_X10_topUpAt ml_L_155 rfl (co_0 hw) (by decide) hc_X10 (by decide) (by decide) (Nat.le_of_ble_eq_true rfl)) ?_
      rw [show tpV d m 2 = dF d 5 m from rfl]
      refine lf (a_aload_n dL_order_314 rfl) ?_
      refine lf (a_iload dL_order_315 rfl) ?_
      refine lf (a_iconst (1 : Int32) dL_order_317 (by decide)) ?_
      refine lf (a_isub dL_order_318) ?_
      rw [show nI m - (1 : Int32) = nI (m - 1) from nI_subI (b := 1) (by omega)]
      refine lf (a_iconst (2 : Int32) dL_order_319 (by decide)) ?_
      refine lf (a_inv (b2 := (0, 0)) (w_topUpAt hI.1 (i := m - 1) (by omega) (k := 2) (by decide)) rfl dL_order_320 yk_X10_topUpAt im_X10_topUpAt se_X10_topUpAt ml_L_155 rfl (co_0 hw) (by decide) hc_X10 (by decide) (by decide) (Nat.le_of_ble_eq_true rfl)) ?_
      rw [show tpV d (m - 1) 2 = dF d 5 (m - 1) from rfl]
      refine lf2 (a_icmp_gt (tgt := 330) dL_order_323 (by decide)) (fun h323 => absurd h323 htv) (fun h323 => ?_)
      refine lf (a_iconst (1 : Int32) dL_order_326 (by decide)) ?_
      refine lf (a_goto (tgt := 331) dL_order_327 (by decide)) ?_
      refine lf (a_istore_n dL_order_331 (by decide)) ?_
      refine lf (a_iincN dL_order_332 rfl (by decide)) ?_
      refine lf (a_goto (tgt := 260) dL_order_335 (by decide)) ?_
      have q9 := ih (m + 1) _ (by omega) hI
      rw [smI_succ] at q9
      exact lf (a_loc _ rfl) q9
theorem t_L_order (hI : LwV p p0 q d H S N μ) : CV Y_L_order R_L_order [.ref 0] μ (fun v V => v = some (.int 1) ∧ LwA p p0 q d H S N μ V) := by
  refine CV.ent yk_L_order (Nat.le_of_ble_eq_true rfl) ?_
  have hw := hI.wf
  have hq := hI.gp
  have hg := hI.gd
  have hM0 : 0 < pM q := by have := hI.2.1.2.2.2.1.1; omega
  have e1 : smI (orD q d) (pM q) = smI (caQ q d) (pC q) + smI (spQ q d) (dP d) := or_sum hq hg hI.2.1.shp hM0
  have e2 : cnV q d H.1 8 = smI (orD q d) (pM q) := or_12 hM0 hq.M4
  have e3 : smI (owP d (dU d)) (pM q) = smI (fun i => dF d 4 i) (dU d) := ow_sum hg hq.M4 _ (Nat.le_refl _)
  refine lf (a_iconst (1 : Int32) dL_order_0 (by decide)) ?_
  refine lf (a_istore_n dL_order_1 (by decide)) ?_
  refine lf (a_iconst (0 : Int32) dL_order_2 (by decide)) ?_
  refine lf (a_istore_n dL_order_3 (by decide)) ?_
  refine lf (a_iconst (0 : Int32) dL_order_4 (by decide)) ?_
  refine lf (a_istore_n dL_order_5 (by decide)) ?_
  refine lf (a_iconst (0 : Int32) dL_order_6 (by decide)) ?_
  refine lf (a_istore dL_order_7 (by decide)) ?_
  refine lf (a_loc [(0, .ref 0), (1, .int 1), (2, .int 0), (3, .int (smI (spQ q d) 0)), (4, .int (nI 0))] rfl) (l_L_order_9 (fun W1 hI => ?_) (dP d) 0 μ (by omega) (LwA.rfl' hI))
  refine lf (a_iconst (0 : Int32) dL_order_53 (by decide)) ?_
  refine lf (a_istore dL_order_54 (by decide)) ?_
  refine lf (a_loc [(0, .ref 0), (1, .int 1), (2, .int (smI (caQ q d) 0)), (3, .int (smI (spQ q d) (dP d))), (4, .int (nI 0))] rfl) (l_L_order_56 (fun W2 hI => ?_) (pC q) 0 W1 (by omega) hI)
  refine lf (a_iconst (0 : Int32) dL_order_153 (by decide)) ?_
  refine lf (a_istore dL_order_154 (by decide)) ?_
  refine lf (a_iconst (0 : Int32) dL_order_156 (by decide)) ?_
  refine lf (a_istore dL_order_157 (by decide)) ?_
  refine lf (a_iconst (0 : Int32) dL_order_159 (by decide)) ?_
  refine lf (a_istore dL_order_160 (by decide)) ?_
  refine lf (a_loc [(0, .ref 0), (1, .int 1), (2, .int (smI (caQ q d) (pC q))), (3, .int (smI (spQ q d) (dP d))), (4, .int (smI (orD q d) 0)), (5, .int (smI (owP d (dU d)) 0)), (6, .int (nI 0))] rfl) (l_L_order_162 (fun W3 hI => ?_) (pM q) 0 W2 (by omega) hI)
  refine lf (a_iconst (0 : Int32) dL_order_254 (by decide)) ?_
  refine lf (a_istore dL_order_255 (by decide)) ?_
  refine lf (a_iconst (0 : Int32) dL_order_257 (by decide)) ?_
  refine lf (a_istore dL_order_258 (by decide)) ?_
  refine lf (a_loc [(0, .ref 0), (1, .int 1), (2, .int (smI (caQ q d) (pC q))), (3, .int (smI (spQ q d) (dP d))), (4, .int (smI (orD q d) (pM q))), (5, .int (smI (owP d (dU d)) (pM q))), (6, .int (smI (fun i => dF d 4 i) 0)), (7, .int (nI 0))] rfl) (l_L_order_260 (fun W4 hI => ?_) (dU d) 0 W3 (by omega) hI)
  have hw := hI.1.wf
  have hwo := hw
  refine lf (a_iload_n dL_order_338 rfl) ?_
  refine lf2 (a_if_eq (tgt := 372) dL_order_339 (by decide)) (fun h339 => absurd h339 (by decide)) (fun h339 => ?_)
  refine lf (a_iload dL_order_342 rfl) ?_
  refine lf (a_iload_n dL_order_344 rfl) ?_
  refine lf (a_iload_n dL_order_345 rfl) ?_
  refine lf (a_iadd dL_order_346) ?_
  refine lfn (a_icmp_ne (tgt := 372) dL_order_347 (by decide)) (fun h347 => absurd h347 (fun z => z e1)) (fun h347 => ?_)
  refine lf (a_aload_n dL_order_350 rfl) ?_
  refine lf (a_bipush (8 : Int32) dL_order_351 (by decide)) ?_
  obtain ⟨v_, W353, k353, rfl, h353⟩ := (w_count hI.1 (k := 8) (by decide))
  have hwo := hw
  have hI := hI.tr h353
  have hw := hI.1.wf
  refine lf (a_inv (b2 := (0, 0)) k353 rfl dL_order_353 yk_X10_count im_X10_count se_X10_count ml_L_131 rfl (co_0 hwo) (by decide) hc_X10 (by decide) (by decide) (Nat.le_of_ble_eq_true rfl)) ?_
  rw [e2]
  refine lf (a_iload dL_order_356 rfl) ?_
  refine lfn (a_icmp_ne (tgt := 372) dL_order_358 (by decide)) (fun h358 => absurd h358 (fun z => z rfl)) (fun h358 => ?_)
  refine lf (a_iload dL_order_361 rfl) ?_
  refine lf (a_iload dL_order_363 rfl) ?_
  refine lfn (a_icmp_ne (tgt := 372) dL_order_365 (by decide)) (fun h365 => absurd h365 (fun z => z e3)) (fun h365 => ?_)
  refine lf (a_iconst (1 : Int32) dL_order_368 (by decide)) ?_
  refine lf (a_goto (tgt := 373) dL_order_369 (by decide)) ?_
  refine ⟨_, _, (a_ireturn dL_order_373 rfl rfl), ?_⟩
  exact ⟨_, rfl, rfl, hI⟩
end ORD
