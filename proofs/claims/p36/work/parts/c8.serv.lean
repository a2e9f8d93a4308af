section SERV
variable {μ : Wd} {p p0 N : Nat} {q : PDt} {d : FDt} {H : Hst} {S : Nat → Option FDt} {G : Nat → Option Nat} {rs : Nat → Nat} {n : Nat}
abbrev R_L_service : Room := { frames := 14, cells := 1, slots := 12, locals := 500 }
theorem l_L_service_18  {Q : Oc → Wd → Prop} (kx : ∀ W, SvL p p0 q d H S N μ (cntG (svR q d).1 (dP d)) W → WP Y_L_service R_L_service (0, 0) W 168 [(0, .ref 0), (1, .ref (wn μ)), (2, .int (nI (spC d (svR q d).1 (dP d)))), (3, .int (nI (szG (svR q d).1 (dP d)))), (4, .int (nI (wmG d (svR q d).1 (dP d)))), (5, .int 1), (6, .int (nI (dP d)))] [] Q) : ∀ dd m (W : Wd), m + dd = dP d → SvL p p0 q d H S N μ (cntG (svR q d).1 m) W → WP Y_L_service R_L_service (0, 0) W 18 [(0, .ref 0), (1, .ref (wn μ)), (2, .int (nI (spC d (svR q d).1 m))), (3, .int (nI (szG (svR q d).1 m))), (4, .int (nI (wmG d (svR q d).1 m))), (5, .int 1), (6, .int (nI m))] [] Q := by
  intro dd
  induction dd with
  | zero =>
    intro m W hm hI
    obtain rfl : dP d = m := by omega
    have hw := hI.1.wf
    have hwo := hw
    have hq := hI.1.gp
    have hg := hI.1.gd
    have hC4 := hq.C4
    have hM4 := hq.M4
    have hT4 := hq.T4
    have hP4 := hg.P4
    have hwc := hI.1.2.2.1.2.2.2.1
    have hS := hI.1.svs
    refine lf (a_iload dL_service_18 rfl) ?_
    refine lf (a_aload_n dL_service_20 rfl) ?_
    refine lf (a_iconst (3 : Int32) dL_service_21 (by decide)) ?_
    obtain ⟨v_, W22, k22, rfl, h22⟩ := (w_count hI.1 (k := 3) (by decide))
    have hwo := hw
    have hI := hI.tr h22
    have hw := hI.1.wf
    refine lf (a_inv (b2 := (0, 0)) k22 rfl dL_service_22 yk_X10_count im_X10_count se_X10_count ml_L_131 rfl (co_0 hwo) (by decide) hc_X10 (by decide) (by decide) (Nat.le_of_ble_eq_true rfl)) ?_
    rw [show cnV q d H.1 3 = nI (dP d) from rfl]
    refine lf2 (a_icmp_ge (tgt := 168) dL_service_25 (by decide)) (fun h25 => ?_) (fun h25 => absurd h25 (fun z => z (nI_le (Nat.le_refl _) (by omega))))
    exact lf (a_loc _ rfl) (kx _ hI)
  | succ dd ih =>
    intro m W hm hI
    have hw := hI.1.wf
    have hwo := hw
    have hq := hI.1.gp
    have hg := hI.1.gd
    have hC4 := hq.C4
    have hM4 := hq.M4
    have hT4 := hq.T4
    have hP4 := hg.P4
    have hwc := hI.1.2.2.1.2.2.2.1
    have hS := hI.1.svs
    refine lf (a_iload dL_service_18 rfl) ?_
    refine lf (a_aload_n dL_service_20 rfl) ?_
    refine lf (a_iconst (3 : Int32) dL_service_21 (by decide)) ?_
    obtain ⟨v_, W22, k22, rfl, h22⟩ := (w_count hI.1 (k := 3) (by decide))
    have hwo := hw
    have hI := hI.tr h22
    have hw := hI.1.wf
    refine lf (a_inv (b2 := (0, 0)) k22 rfl dL_service_22 yk_X10_count im_X10_count se_X10_count ml_L_131 rfl (co_0 hwo) (by decide) hc_X10 (by decide) (by decide) (Nat.le_of_ble_eq_true rfl)) ?_
    rw [show cnV q d H.1 3 = nI (dP d) from rfl]
    refine lf2 (a_icmp_ge (tgt := 168) dL_service_25 (by decide)) (fun h25 => absurd h25 (nI_ge (a := m) (b := dP d) (by omega) (by omega))) (fun h25 => ?_)
    refine lf (a_iload dL_service_28 rfl) ?_
    refine lf2 (a_if_eq (tgt := 168) dL_service_30 (by decide)) (fun h30 => absurd h30 (by decide)) (fun h30 => ?_)
    refine lf (a_aload_n dL_service_33 rfl) ?_
    refine lf (a_iload dL_service_34 rfl) ?_
    obtain ⟨v_, W36, k36, rfl, h36⟩ := (w_mealFor hI.1 (i := m) (by omega))
    have hwo := hw
    have hI := hI.tr h36
    have hw := hI.1.wf
    refine lf (a_inv (b2 := (0, 0)) k36 rfl dL_service_36 yk_X10_mealFor im_X10_mealFor se_X10_mealFor ml_L_168 rfl (co_0 hwo) (by decide) hc_X10 (by decide) (by decide) (Nat.le_of_ble_eq_true rfl)) ?_
    refine lf (a_istore dL_service_39 (by decide)) ?_
    refine lf (a_iload dL_service_41 rfl) ?_
    refine lf2 (a_if_ge (tgt := 49) dL_service_43 (by decide)) (fun h43 => ?_) (fun h43 => ?_)
    · obtain ⟨x, e⟩ : ∃ x, (svR q d).1 m = some x := by
        cases e : (svR q d).1 m with
        | none => rw [e] at h43; exact absurd h43 (by decide)
        | some x => exact ⟨x, rfl⟩
      rw [show oI ((svR q d).1 m) = nI x from by rw [e]; rfl]
      obtain ⟨hx, hfit, hpl⟩ := SvS.fit hq hg hwc hS (by omega) e
      obtain ⟨c1, c2, c3, c4⟩ := C_some (d := d) e
      have htest : (suD q (dF d 0 m) (dF d 1 m) >>> (nI x &&& 31)) &&& 1 = 1 := (suD_test hI.1.1.2.1 _ _ hx).mpr hfit
      refine lf (a_iincN dL_service_49 rfl (by decide)) ?_
      refine lf (a_aload_n dL_service_52 rfl) ?_
      refine lf (a_iload dL_service_53 rfl) ?_
      refine lf (a_dup2 dL_service_55 rfl rfl) ?_
      refine lf (a_ild dL_service_56 hI.2.2.1 (ixn (m := x) (by omega) (by decide))) ?_
      rw [hI.2.2.2.2 x (by omega)]
      refine lf (a_iconst (1 : Int32) dL_service_57 (by decide)) ?_
      refine lf (a_iadd dL_service_58) ?_
      refine lf (a_ist dL_service_59 hI.2.2.1 (ixn (m := x) (by omega) (by decide))) ?_
      have hI := (SvL.inc (x := x) hI).cg (ec2 := cntG (svR q d).1 (m + 1)) (fun j => (c4 j).symm)
      have hd2 : nI (szG (svR q d).1 (m + 1)) = nI (szG (svR q d).1 m + 1) := by rw [c2]
      have hw := hI.1.wf
      have hwo := hw
      refine lf (a_aload_n dL_service_60 rfl) ?_
      refine lf (a_iload dL_service_61 rfl) ?_
      refine lf (a_iconst (1 : Int32) dL_service_63 (by decide)) ?_
      obtain ⟨v_, W64, k64, rfl, h64⟩ := (w_passenger hI.1 (i := m) (k := 1) (by omega) (by decide))
      have hwo := hw
      have hI := hI.tr h64
      have hw := hI.1.wf
      refine lf (a_inv (b2 := (0, 0)) k64 rfl dL_service_64 yk_X10_passenger im_X10_passenger se_X10_passenger ml_L_149 rfl (co_0 hwo) (by decide) hc_X10 (by decide) (by decide) (Nat.le_of_ble_eq_true rfl)) ?_
      rw [show pgV q d m 1 = dF d 1 m from rfl]
      refine lfn (a_if_ne (tgt := 74) dL_service_67 (by decide)) (fun h67 => ?_) (fun h67 => ?_)
      · have hd1 : nI (spC d (svR q d).1 (m + 1)) = nI (spC d (svR q d).1 m) + 1 := by rw [c1, if_neg h67, ← nI_add]; rfl
        have hd3 : nI (wmG d (svR q d).1 (m + 1)) = nI (wmG d (svR q d).1 m) + 0 := by rw [c3, if_neg (fun z => h67 z.1), Int32.add_zero]; rfl
        refine lf (a_iconst (0 : Int32) dL_service_74 (by decide)) ?_
        refine lf (a_istore dL_service_75 (by decide)) ?_
        refine lf (a_iload_n dL_service_77 rfl) ?_
        refine lf (a_iload dL_service_78 rfl) ?_
        refine lf2 (a_if_eq (tgt := 87) dL_service_80 (by decide)) (fun h80 => ?_) (fun h80 => absurd h80 (by decide))
        refine lf (a_iconst (1 : Int32) dL_service_87 (by decide)) ?_
        refine lf (a_iadd dL_service_88) ?_
        refine lf (a_istore_n dL_service_89 (by decide)) ?_
        refine lf (a_iload dL_service_90 rfl) ?_
        refine lf (a_iload dL_service_92 rfl) ?_
        refine lf2 (a_if_eq (tgt := 113) dL_service_94 (by decide)) (fun h94 => ?_) (fun h94 => absurd h94 (by decide))
        refine lf (a_iconst (0 : Int32) dL_service_113 (by decide)) ?_
        refine lf (a_iadd dL_service_114) ?_
        refine lf (a_istore dL_service_115 (by decide)) ?_
        refine lf (a_aload_n dL_service_117 rfl) ?_
        refine lf (a_iload dL_service_118 rfl) ?_
        refine lf (a_iconst (4 : Int32) dL_service_120 (by decide)) ?_
        obtain ⟨v_, W121, k121, rfl, h121⟩ := (w_passenger hI.1 (i := m) (k := 4) (by omega) (by decide))
        have hwo := hw
        have hI := hI.tr h121
        have hw := hI.1.wf
        refine lf (a_inv (b2 := (0, 0)) k121 rfl dL_service_121 yk_X10_passenger im_X10_passenger se_X10_passenger ml_L_149 rfl (co_0 hwo) (by decide) hc_X10 (by decide) (by decide) (Nat.le_of_ble_eq_true rfl)) ?_
        rw [show pgV q d m 4 = suD q (dF d 0 m) (dF d 1 m) from rfl]
        refine lf (a_iload dL_service_124 rfl) ?_
        refine lf (a_ishr dL_service_126) ?_
        refine lf (a_iconst (1 : Int32) dL_service_127 (by decide)) ?_
        refine lf (a_iand dL_service_128) ?_
        refine lf (a_iconst (1 : Int32) dL_service_129 (by decide)) ?_
        refine lfn (a_icmp_ne (tgt := 159) dL_service_130 (by decide)) (fun h130 => absurd h130 (fun z => z htest)) (fun h130 => ?_)
        refine lf (a_iload dL_service_133 rfl) ?_
        refine lf2 (a_if_eq (tgt := 155) dL_service_135 (by decide)) (fun h135 => ?_) (fun h135 => absurd h135 (by decide))
        refine lf (a_iconst (1 : Int32) dL_service_155 (by decide)) ?_
        refine lf (a_goto (tgt := 160) dL_service_156 (by decide)) ?_
        refine lf (a_istore dL_service_160 (by decide)) ?_
        refine lf (a_iincN dL_service_162 rfl (by decide)) ?_
        refine lf (a_goto (tgt := 18) dL_service_165 (by decide)) ?_
        have q9 := ih (m + 1) _ (by omega) hI
        rw [hd1, hd2, hd3] at q9
        exact lf (a_loc _ rfl) q9
      · have hd1 : nI (spC d (svR q d).1 (m + 1)) = nI (spC d (svR q d).1 m) + 0 := by rw [c1, if_pos h67, Int32.add_zero]; rfl
        refine lf (a_iconst (1 : Int32) dL_service_70 (by decide)) ?_
        refine lf (a_goto (tgt := 75) dL_service_71 (by decide)) ?_
        refine lf (a_istore dL_service_75 (by decide)) ?_
        refine lf (a_iload_n dL_service_77 rfl) ?_
        refine lf (a_iload dL_service_78 rfl) ?_
        refine lf2 (a_if_eq (tgt := 87) dL_service_80 (by decide)) (fun h80 => absurd h80 (by decide)) (fun h80 => ?_)
        refine lf (a_iconst (0 : Int32) dL_service_83 (by decide)) ?_
        refine lf (a_goto (tgt := 88) dL_service_84 (by decide)) ?_
        refine lf (a_iadd dL_service_88) ?_
        refine lf (a_istore_n dL_service_89 (by decide)) ?_
        refine lf (a_iload dL_service_90 rfl) ?_
        refine lf (a_iload dL_service_92 rfl) ?_
        refine lf2 (a_if_eq (tgt := 113) dL_service_94 (by decide)) (fun h94 => absurd h94 (by decide)) (fun h94 => ?_)
        refine lf (a_aload_n dL_service_97 rfl) ?_
        refine lf (a_iload dL_service_98 rfl) ?_
        refine lf (a_iconst (2 : Int32) dL_service_100 (by decide)) ?_
        obtain ⟨v_, W101, k101, rfl, h101⟩ := (w_passenger hI.1 (i := m) (k := 2) (by omega) (by decide))
        have hwo := hw
        have hI := hI.tr h101
        have hw := hI.1.wf
        refine lf (a_inv (b2 := (0, 0)) k101 rfl dL_service_101 yk_X10_passenger im_X10_passenger se_X10_passenger ml_L_149 rfl (co_0 hwo) (by decide) hc_X10 (by decide) (by decide) (Nat.le_of_ble_eq_true rfl)) ?_
        rw [show pgV q d m 2 = dF d 2 m from rfl]
        refine lf (a_iload dL_service_104 rfl) ?_
        refine lfn (a_icmp_ne (tgt := 113) dL_service_106 (by decide)) (fun h106 => ?_) (fun h106 => ?_)
        · have hd3 : nI (wmG d (svR q d).1 (m + 1)) = nI (wmG d (svR q d).1 m) + 0 := by rw [c3, if_neg (fun z => h106 z.2.symm), Int32.add_zero]; rfl
          refine lf (a_iconst (0 : Int32) dL_service_113 (by decide)) ?_
          refine lf (a_iadd dL_service_114) ?_
          refine lf (a_istore dL_service_115 (by decide)) ?_
          refine lf (a_aload_n dL_service_117 rfl) ?_
          refine lf (a_iload dL_service_118 rfl) ?_
          refine lf (a_iconst (4 : Int32) dL_service_120 (by decide)) ?_
          obtain ⟨v_, W121, k121, rfl, h121⟩ := (w_passenger hI.1 (i := m) (k := 4) (by omega) (by decide))
          have hwo := hw
          have hI := hI.tr h121
          have hw := hI.1.wf
          refine lf (a_inv (b2 := (0, 0)) k121 rfl dL_service_121 yk_X10_passenger im_X10_passenger se_X10_passenger ml_L_149 rfl (co_0 hwo) (by decide) hc_X10 (by decide) (by decide) (Nat.le_of_ble_eq_true rfl)) ?_
          rw [show pgV q d m 4 = suD q (dF d 0 m) (dF d 1 m) from rfl]
          refine lf (a_iload dL_service_124 rfl) ?_
          refine lf (a_ishr dL_service_126) ?_
          refine lf (a_iconst (1 : Int32) dL_service_127 (by decide)) ?_
          refine lf (a_iand dL_service_128) ?_
          refine lf (a_iconst (1 : Int32) dL_service_129 (by decide)) ?_
          refine lfn (a_icmp_ne (tgt := 159) dL_service_130 (by decide)) (fun h130 => absurd h130 (fun z => z htest)) (fun h130 => ?_)
          refine lf (a_iload dL_service_133 rfl) ?_
          refine lf2 (a_if_eq (tgt := 155) dL_service_135 (by decide)) (fun h135 => absurd h135 (by decide)) (fun h135 => ?_)
          refine lf (a_aload_n dL_service_138 rfl) ?_
          refine lf (a_iload dL_service_139 rfl) ?_
          refine lf (a_iconst (0 : Int32) dL_service_141 (by decide)) ?_
          obtain ⟨v_, W142, k142, rfl, h142⟩ := (w_meal hI.1 (m := x) (k := 0) hx (by decide))
          have hwo := hw
          have hI := hI.tr h142
          have hw := hI.1.wf
          refine lf (a_inv (b2 := (0, 0)) k142 rfl dL_service_142 yk_X10_meal im_X10_meal se_X10_meal ml_L_146 rfl (co_0 hwo) (by decide) hc_X10 (by decide) (by decide) (Nat.le_of_ble_eq_true rfl)) ?_
          rw [show mlV q d x 0 = pF q 2 x from rfl]
          refine lf (a_aload_n dL_service_145 rfl) ?_
          refine lf (a_iload dL_service_146 rfl) ?_
          refine lf (a_iconst (0 : Int32) dL_service_148 (by decide)) ?_
          obtain ⟨v_, W149, k149, rfl, h149⟩ := (w_passenger hI.1 (i := m) (k := 0) (by omega) (by decide))
          have hwo := hw
          have hI := hI.tr h149
          have hw := hI.1.wf
          refine lf (a_inv (b2 := (0, 0)) k149 rfl dL_service_149 yk_X10_passenger im_X10_passenger se_X10_passenger ml_L_149 rfl (co_0 hwo) (by decide) hc_X10 (by decide) (by decide) (Nat.le_of_ble_eq_true rfl)) ?_
          rw [show pgV q d m 0 = dF d 0 m from rfl]
          refine lfn (a_icmp_ne (tgt := 159) dL_service_152 (by decide)) (fun h152 => absurd h152 (fun z => z (hpl h67))) (fun h152 => ?_)
          refine lf (a_iconst (1 : Int32) dL_service_155 (by decide)) ?_
          refine lf (a_goto (tgt := 160) dL_service_156 (by decide)) ?_
          refine lf (a_istore dL_service_160 (by decide)) ?_
          refine lf (a_iincN dL_service_162 rfl (by decide)) ?_
          refine lf (a_goto (tgt := 18) dL_service_165 (by decide)) ?_
          have q9 := ih (m + 1) _ (by omega) hI
          rw [hd1, hd2, hd3] at q9
          exact lf (a_loc _ rfl) q9
        · have hd3 : nI (wmG d (svR q d).1 (m + 1)) = nI (wmG d (svR q d).1 m) + 1 := by rw [c3, if_pos ⟨h67, h106.symm⟩, ← nI_add]; rfl
          refine lf (a_iconst (1 : Int32) dL_service_109 (by decide)) ?_
          refine lf (a_goto (tgt := 114) dL_service_110 (by decide)) ?_
          refine lf (a_iadd dL_service_114) ?_
          refine lf (a_istore dL_service_115 (by decide)) ?_
          refine lf (a_aload_n dL_service_117 rfl) ?_
          refine lf (a_iload dL_service_118 rfl) ?_
          refine lf (a_iconst (4 : Int32) dL_service_120 (by decide)) ?_
          obtain ⟨v_, W121, k121, rfl, h121⟩ := (w_passenger hI.1 (i := m) (k := 4) (by omega) (by decide))
          have hwo := hw
          have hI := hI.tr h121
          have hw := hI.1.wf
          refine lf (a_inv (b2 := (0, 0)) k121 rfl dL_service_121 yk_X10_passenger im_X10_passenger se_X10_passenger ml_L_149 rfl (co_0 hwo) (by decide) hc_X10 (by decide) (by decide) (Nat.le_of_ble_eq_true rfl)) ?_
          rw [show pgV q d m 4 = suD q (dF d 0 m) (dF d 1 m) from rfl]
          refine lf (a_iload dL_service_124 rfl) ?_
          refine lf (a_ishr dL_service_126) ?_
          refine lf (a_iconst (1 : Int32) dL_service_127 (by decide)) ?_
          refine lf (a_iand dL_service_128) ?_
          refine lf (a_iconst (1 : Int32) dL_service_129 (by decide)) ?_
          refine lfn (a_icmp_ne (tgt := 159) dL_service_130 (by decide)) (fun h130 => absurd h130 (fun z => z htest)) (fun h130 => ?_)
          refine lf (a_iload dL_service_133 rfl) ?_
          refine lf2 (a_if_eq (tgt := 155) dL_service_135 (by decide)) (fun h135 => absurd h135 (by decide)) (fun h135 => ?_)
          refine lf (a_aload_n dL_service_138 rfl) ?_
          refine lf (a_iload dL_service_139 rfl) ?_
          refine lf (a_iconst (0 : Int32) dL_service_141 (by decide)) ?_
          obtain ⟨v_, W142, k142, rfl, h142⟩ := (w_meal hI.1 (m := x) (k := 0) hx (by decide))
          have hwo := hw
          have hI := hI.tr h142
          have hw := hI.1.wf
          refine lf (a_inv (b2 := (0, 0)) k142 rfl dL_service_142 yk_X10_meal im_X10_meal se_X10_meal ml_L_146 rfl (co_0 hwo) (by decide) hc_X10 (by decide) (by decide) (Nat.le_of_ble_eq_true rfl)) ?_
          rw [show mlV q d x 0 = pF q 2 x from rfl]
          refine lf (a_aload_n dL_service_145 rfl) ?_
          refine lf (a_iload dL_service_146 rfl) ?_
          refine lf (a_iconst (0 : Int32) dL_service_148 (by decide)) ?_
          obtain ⟨v_, W149, k149, rfl, h149⟩ := (w_passenger hI.1 (i := m) (k := 0) (by omega) (by decide))
          have hwo := hw
          have hI := hI.tr h149
          have hw := hI.1.wf
          refine lf (a_inv (b2 := (0, 0)) k149 rfl dL_service_149 yk_X10_passenger im_X10_passenger se_X10_passenger ml_L_149 rfl (co_0 hwo) (by decide) hc_X10 (by decide) (by decide) (Nat.le_of_ble_eq_true rfl)) ?_
          rw [show pgV q d m 0 = dF d 0 m from rfl]
          refine lfn (a_icmp_ne (tgt := 159) dL_service_152 (by decide)) (fun h152 => absurd h152 (fun z => z (hpl h67))) (fun h152 => ?_)
          refine lf (a_iconst (1 : Int32) dL_service_155 (by decide)) ?_
          refine lf (a_goto (tgt := 160) dL_service_156 (by decide)) ?_
          refine lf (a_istore dL_service_160 (by decide)) ?_
          refine lf (a_iincN dL_service_162 rfl (by decide)) ?_
          refine lf (a_goto (tgt := 18) dL_service_165 (by decide)) ?_
          have q9 := ih (m + 1) _ (by omega) hI
          rw [hd1, hd2, hd3] at q9
          exact lf (a_loc _ rfl) q9
    · have e : (svR q d).1 m = none := by
        cases e : (svR q d).1 m with
        | none => rfl
        | some x =>
          obtain ⟨hx, _, _⟩ := SvS.fit hq hg hwc hS (by omega) e
          rw [e] at h43
          exact absurd (nI_ge0 (n := x) (by omega)) h43
      obtain ⟨c1, c2, c3, c4⟩ := C_none (d := d) e
      have hI := hI.cg (ec2 := cntG (svR q d).1 (m + 1)) (fun j => (c4 j).symm)
      have hd1 : nI (spC d (svR q d).1 (m + 1)) = nI (spC d (svR q d).1 m) := by rw [c1]
      have hd2 : nI (szG (svR q d).1 (m + 1)) = nI (szG (svR q d).1 m) := by rw [c2]
      have hd3 : nI (wmG d (svR q d).1 (m + 1)) = nI (wmG d (svR q d).1 m) := by rw [c3]
      refine lf (a_goto (tgt := 162) dL_service_46 (by decide)) ?_
      refine lf (a_iincN dL_service_162 rfl (by decide)) ?_
      refine lf (a_goto (tgt := 18) dL_service_165 (by decide)) ?_
      have q9 := ih (m + 1) _ (by omega) hI
      rw [hd1, hd2, hd3] at q9
      exact lf (a_loc _ rfl) q9
theorem waS_s (rs : Nat → Nat) (m : Nat) : waS rs (m + 1) = waS rs m + nI (rs m) := rfl
theorem wcS_s (q : PDt) (rs : Nat → Nat) (m : Nat) : wcS q rs (m + 1) = wcS q rs m + nI (rs m) * pF q 5 m := rfl
theorem l_L_service_180  {Q : Oc → Wd → Prop} (kx : ∀ W, SvL p p0 q d H S N μ (cntG (svR q d).1 (dP d)) W → WP Y_L_service R_L_service (0, 0) W 249 [(0, .ref 0), (1, .ref (wn μ)), (2, .int (nI (spC d (svR q d).1 (dP d)))), (3, .int (nI (szG (svR q d).1 (dP d)))), (4, .int (nI (wmG d (svR q d).1 (dP d)))), (5, .int 1), (6, .int (waS (svR q d).2.1 (pM q))), (7, .int (wcS q (svR q d).2.1 (pM q))), (8, .int 0), (9, .int (nI (pM q)))] [] Q) : ∀ dd m (W : Wd), m + dd = pM q → SvL p p0 q d H S N μ (cntG (svR q d).1 (dP d)) W → WP Y_L_service R_L_service (0, 0) W 180 [(0, .ref 0), (1, .ref (wn μ)), (2, .int (nI (spC d (svR q d).1 (dP d)))), (3, .int (nI (szG (svR q d).1 (dP d)))), (4, .int (nI (wmG d (svR q d).1 (dP d)))), (5, .int 1), (6, .int (waS (svR q d).2.1 m)), (7, .int (wcS q (svR q d).2.1 m)), (8, .int 0), (9, .int (nI m))] [] Q := by
  intro dd
  induction dd with
  | zero =>
    intro m W hm hI
    obtain rfl : pM q = m := by omega
    have hw := hI.1.wf
    have hwo := hw
    have hq := hI.1.gp
    have hg := hI.1.gd
    have hC4 := hq.C4
    have hM4 := hq.M4
    have hT4 := hq.T4
    have hP4 := hg.P4
    have hwc := hI.1.2.2.1.2.2.2.1
    have hS := hI.1.svs
    refine lf (a_iload dL_service_180 rfl) ?_
    refine lf (a_aload_n dL_service_182 rfl) ?_
    refine lf (a_iconst (2 : Int32) dL_service_183 (by decide)) ?_
    obtain ⟨v_, W184, k184, rfl, h184⟩ := (w_count hI.1 (k := 2) (by decide))
    have hwo := hw
    have hI := hI.tr h184
    have hw := hI.1.wf
    refine lf (a_inv (b2 := (0, 0)) k184 rfl dL_service_184 yk_X10_count im_X10_count se_X10_count ml_L_131 rfl (co_0 hwo) (by decide) hc_X10 (by decide) (by decide) (Nat.le_of_ble_eq_true rfl)) ?_
    rw [show cnV q d H.1 2 = nI (pM q) from rfl]
    refine lf2 (a_icmp_ge (tgt := 249) dL_service_187 (by decide)) (fun h187 => ?_) (fun h187 => absurd h187 (fun z => z (nI_le (Nat.le_refl _) (by omega))))
    exact lf (a_loc _ rfl) (kx _ hI)
  | succ dd ih =>
    intro m W hm hI
    have hw := hI.1.wf
    have hwo := hw
    have hq := hI.1.gp
    have hg := hI.1.gd
    have hC4 := hq.C4
    have hM4 := hq.M4
    have hT4 := hq.T4
    have hP4 := hg.P4
    have hwc := hI.1.2.2.1.2.2.2.1
    have hS := hI.1.svs
    refine lf (a_iload dL_service_180 rfl) ?_
    refine lf (a_aload_n dL_service_182 rfl) ?_
    refine lf (a_iconst (2 : Int32) dL_service_183 (by decide)) ?_
    obtain ⟨v_, W184, k184, rfl, h184⟩ := (w_count hI.1 (k := 2) (by decide))
    have hwo := hw
    have hI := hI.tr h184
    have hw := hI.1.wf
    refine lf (a_inv (b2 := (0, 0)) k184 rfl dL_service_184 yk_X10_count im_X10_count se_X10_count ml_L_131 rfl (co_0 hwo) (by decide) hc_X10 (by decide) (by decide) (Nat.le_of_ble_eq_true rfl)) ?_
    rw [show cnV q d H.1 2 = nI (pM q) from rfl]
    refine lf2 (a_icmp_ge (tgt := 249) dL_service_187 (by decide)) (fun h187 => absurd h187 (nI_ge (a := m) (b := pM q) (by omega) (by omega))) (fun h187 => ?_)
    refine lf (a_aload_n dL_service_190 rfl) ?_
    refine lf (a_iload dL_service_191 rfl) ?_
    refine lf (a_iconst (5 : Int32) dL_service_193 (by decide)) ?_
    obtain ⟨v_, W194, k194, rfl, h194⟩ := (w_meal hI.1 (m := m) (k := 5) (by omega) (by decide))
    have hwo := hw
    have hI := hI.tr h194
    have hw := hI.1.wf
    refine lf (a_inv (b2 := (0, 0)) k194 rfl dL_service_194 yk_X10_meal im_X10_meal se_X10_meal ml_L_146 rfl (co_0 hwo) (by decide) hc_X10 (by decide) (by decide) (Nat.le_of_ble_eq_true rfl)) ?_
    rw [show mlV q d m 5 = ldD q d m from rfl]
    refine lf (a_aload_n dL_service_197 rfl) ?_
    refine lf (a_iload dL_service_198 rfl) ?_
    refine lf (a_ild dL_service_200 hI.2.2.1 (ixn (m := m) (by omega) (by decide))) ?_
    rw [hI.2.2.2.2 m (by omega)]
    refine lf (a_isub dL_service_201) ?_
    have hf := (SvS.facts hM4 (WiD.of hg) hS).1 m (by omega)
    obtain ⟨el, hl⟩ := ldD_N hq hg (k := m) (by omega)
    have hr2 : (svR q d).2.1 m < 2 ^ 31 := by omega
    rw [show ldD q d m - nI (cntG (svR q d).1 (dP d) m) = nI ((svR q d).2.1 m) from by rw [el, nI_subI (by omega)]; exact congrArg nI (by omega)]
    have hn0 : ¬ nI ((svR q d).2.1 m) < 0 := fun z => absurd ((nI_ltI (b := 0) hr2 (by decide)).mp z) (Nat.not_lt_zero _)
    refine lf (a_istore dL_service_202 (by decide)) ?_
    refine lf (a_iload dL_service_204 rfl) ?_
    refine lf2 (a_if_eq (tgt := 218) dL_service_206 (by decide)) (fun h206 => absurd h206 (by decide)) (fun h206 => ?_)
    refine lf (a_iload dL_service_209 rfl) ?_
    refine lf2 (a_if_lt (tgt := 218) dL_service_211 (by decide)) (fun h211 => absurd h211 hn0) (fun h211 => ?_)
    refine lf (a_iconst (1 : Int32) dL_service_214 (by decide)) ?_
    refine lf (a_goto (tgt := 219) dL_service_215 (by decide)) ?_
    refine lf (a_istore dL_service_219 (by decide)) ?_
    refine lf (a_iload dL_service_221 rfl) ?_
    refine lf (a_iload dL_service_223 rfl) ?_
    refine lf (a_iadd dL_service_225) ?_
    refine lf (a_istore dL_service_226 (by decide)) ?_
    refine lf (a_iload dL_service_228 rfl) ?_
    refine lf (a_iload dL_service_230 rfl) ?_
    refine lf (a_aload_n dL_service_232 rfl) ?_
    refine lf (a_iload dL_service_233 rfl) ?_
    refine lf (a_iconst (3 : Int32) dL_service_235 (by decide)) ?_
    obtain ⟨v_, W236, k236, rfl, h236⟩ := (w_meal hI.1 (m := m) (k := 3) (by omega) (by decide))
    have hwo := hw
    have hI := hI.tr h236
    have hw := hI.1.wf
    refine lf (a_inv (b2 := (0, 0)) k236 rfl dL_service_236 yk_X10_meal im_X10_meal se_X10_meal ml_L_146 rfl (co_0 hwo) (by decide) hc_X10 (by decide) (by decide) (Nat.le_of_ble_eq_true rfl)) ?_
    rw [show mlV q d m 3 = pF q 5 m from rfl]
    refine lf (a_imul dL_service_239) ?_
    refine lf (a_iadd dL_service_240) ?_
    refine lf (a_istore dL_service_241 (by decide)) ?_
    refine lf (a_iincN dL_service_243 rfl (by decide)) ?_
    refine lf (a_goto (tgt := 180) dL_service_246 (by decide)) ?_
    have q9 := ih (m + 1) _ (by omega) hI
    rw [waS_s, wcS_s] at q9
    exact lf (a_loc _ rfl) q9
theorem l_L_service_287 {k : Nat} {y9 : Int32} (hk : k < dP d) (hy : ((svR q d).1 k = none ∧ y9 = suD q (dF d 0 k) (dF d 1 k)) ∨ y9 = 0) {Q : Oc → Wd → Prop} (kx : ∀ W, SvL p p0 q d H S N μ (cntG (svR q d).1 (dP d)) W → WP Y_L_service R_L_service (0, 0) W 382 [(0, .ref 0), (1, .ref (wn μ)), (2, .int (nI (spC d (svR q d).1 (dP d)))), (3, .int (nI (szG (svR q d).1 (dP d)))), (4, .int (nI (wmG d (svR q d).1 (dP d)))), (5, .int 1), (6, .int (waS (svR q d).2.1 (pM q))), (7, .int (wcS q (svR q d).2.1 (pM q))), (8, .int 0), (9, .int (nI k)), (10, .int y9), (11, .int (nI (pM q)))] [] Q) : ∀ dd m (W : Wd), m + dd = pM q → SvL p p0 q d H S N μ (cntG (svR q d).1 (dP d)) W → WP Y_L_service R_L_service (0, 0) W 287 [(0, .ref 0), (1, .ref (wn μ)), (2, .int (nI (spC d (svR q d).1 (dP d)))), (3, .int (nI (szG (svR q d).1 (dP d)))), (4, .int (nI (wmG d (svR q d).1 (dP d)))), (5, .int 1), (6, .int (waS (svR q d).2.1 (pM q))), (7, .int (wcS q (svR q d).2.1 (pM q))), (8, .int 0), (9, .int (nI k)), (10, .int y9), (11, .int (nI m))] [] Q := by
  intro dd
  induction dd with
  | zero =>
    intro m W hm hI
    obtain rfl : pM q = m := by omega
    have hw := hI.1.wf
    have hwo := hw
    have hq := hI.1.gp
    have hg := hI.1.gd
    have hC4 := hq.C4
    have hM4 := hq.M4
    have hT4 := hq.T4
    have hP4 := hg.P4
    have hwc := hI.1.2.2.1.2.2.2.1
    have hS := hI.1.svs
    refine lf (a_iload dL_service_287 rfl) ?_
    refine lf (a_aload_n dL_service_289 rfl) ?_
    refine lf (a_iconst (2 : Int32) dL_service_290 (by decide)) ?_
    obtain ⟨v_, W291, k291, rfl, h291⟩ := (w_count hI.1 (k := 2) (by decide))
    have hwo := hw
    have hI := hI.tr h291
    have hw := hI.1.wf
    refine lf (a_inv (b2 := (0, 0)) k291 rfl dL_service_291 yk_X10_count im_X10_count se_X10_count ml_L_131 rfl (co_0 hwo) (by decide) hc_X10 (by decide) (by decide) (Nat.le_of_ble_eq_true rfl)) ?_
    rw [show cnV q d H.1 2 = nI (pM q) from rfl]
    refine lf2 (a_icmp_ge (tgt := 382) dL_service_294 (by decide)) (fun h294 => ?_) (fun h294 => absurd h294 (fun z => z (nI_le (Nat.le_refl _) (by omega))))
    exact lf (a_loc _ rfl) (kx _ hI)
  | succ dd ih =>
    intro m W hm hI
    have hw := hI.1.wf
    have hwo := hw
    have hq := hI.1.gp
    have hg := hI.1.gd
    have hC4 := hq.C4
    have hM4 := hq.M4
    have hT4 := hq.T4
    have hP4 := hg.P4
    have hwc := hI.1.2.2.1.2.2.2.1
    have hS := hI.1.svs
    refine lf (a_iload dL_service_287 rfl) ?_
    refine lf (a_aload_n dL_service_289 rfl) ?_
    refine lf (a_iconst (2 : Int32) dL_service_290 (by decide)) ?_
    obtain ⟨v_, W291, k291, rfl, h291⟩ := (w_count hI.1 (k := 2) (by decide))
    have hwo := hw
    have hI := hI.tr h291
    have hw := hI.1.wf
    refine lf (a_inv (b2 := (0, 0)) k291 rfl dL_service_291 yk_X10_count im_X10_count se_X10_count ml_L_131 rfl (co_0 hwo) (by decide) hc_X10 (by decide) (by decide) (Nat.le_of_ble_eq_true rfl)) ?_
    rw [show cnV q d H.1 2 = nI (pM q) from rfl]
    refine lf2 (a_icmp_ge (tgt := 382) dL_service_294 (by decide)) (fun h294 => absurd h294 (nI_ge (a := m) (b := pM q) (by omega) (by omega))) (fun h294 => ?_)
    refine lf (a_iload dL_service_297 rfl) ?_
    refine lf (a_iload dL_service_299 rfl) ?_
    refine lf (a_ishr dL_service_301) ?_
    refine lf (a_iconst (1 : Int32) dL_service_302 (by decide)) ?_
    refine lf (a_iand dL_service_303) ?_
    refine lf (a_iconst (1 : Int32) dL_service_304 (by decide)) ?_
    refine lfn (a_icmp_ne (tgt := 332) dL_service_305 (by decide)) (fun h305 => ?_) (fun h305 => ?_)
    · refine lf (a_iconst (0 : Int32) dL_service_332 (by decide)) ?_
      refine lf (a_istore dL_service_333 (by decide)) ?_
      refine lf (a_iload dL_service_335 rfl) ?_
      refine lfn (a_if_ne (tgt := 369) dL_service_337 (by decide)) (fun h337 => absurd h337 (fun z => z rfl)) (fun h337 => ?_)
      refine lf (a_iload dL_service_340 rfl) ?_
      refine lf2 (a_if_eq (tgt := 373) dL_service_342 (by decide)) (fun h342 => ?_) (fun h342 => absurd h342 (by decide))
      refine lf (a_iconst (0 : Int32) dL_service_373 (by decide)) ?_
      refine lf (a_istore dL_service_374 (by decide)) ?_
      refine lf (a_iincN dL_service_376 rfl (by decide)) ?_
      refine lf (a_goto (tgt := 287) dL_service_379 (by decide)) ?_
      have q9 := ih (m + 1) _ (by omega) hI
      exact lf (a_loc _ rfl) q9
    · have hyk : (svR q d).1 k = none ∧ y9 = suD q (dF d 0 k) (dF d 1 k) := by
        rcases hy with z | z
        · exact z
        · rw [z] at h305
          exact absurd h305 (by rw [b_test _ (show m < 32 by omega), b_0]; decide)
      have hfit : fitD q (dF d 0 k) (dF d 1 k) m = true := (suD_test hI.1.1.2.1 _ _ (by omega)).mp (by rw [← hyk.2]; exact h305)
      refine lf (a_aload_n dL_service_308 rfl) ?_
      refine lf (a_iload dL_service_309 rfl) ?_
      refine lf (a_iconst (1 : Int32) dL_service_311 (by decide)) ?_
      obtain ⟨v_, W312, k312, rfl, h312⟩ := (w_passenger hI.1 (i := k) (k := 1) hk (by decide))
      have hwo := hw
      have hI := hI.tr h312
      have hw := hI.1.wf
      refine lf (a_inv (b2 := (0, 0)) k312 rfl dL_service_312 yk_X10_passenger im_X10_passenger se_X10_passenger ml_L_149 rfl (co_0 hwo) (by decide) hc_X10 (by decide) (by decide) (Nat.le_of_ble_eq_true rfl)) ?_
      rw [show pgV q d k 1 = dF d 1 k from rfl]
      refine lfn (a_if_ne (tgt := 328) dL_service_315 (by decide)) (fun h315 => ?_) (fun h315 => ?_)
      · refine lf (a_iconst (1 : Int32) dL_service_328 (by decide)) ?_
        refine lf (a_goto (tgt := 333) dL_service_329 (by decide)) ?_
        refine lf (a_istore dL_service_333 (by decide)) ?_
        refine lf (a_iload dL_service_335 rfl) ?_
        refine lfn (a_if_ne (tgt := 369) dL_service_337 (by decide)) (fun h337 => absurd h337 (fun z => z rfl)) (fun h337 => ?_)
        refine lf (a_iload dL_service_340 rfl) ?_
        refine lf2 (a_if_eq (tgt := 373) dL_service_342 (by decide)) (fun h342 => absurd h342 (by decide)) (fun h342 => ?_)
        refine lf (a_aload_n dL_service_345 rfl) ?_
        refine lf (a_iload dL_service_346 rfl) ?_
        refine lf (a_iconst (5 : Int32) dL_service_348 (by decide)) ?_
        obtain ⟨v_, W349, k349, rfl, h349⟩ := (w_meal hI.1 (m := m) (k := 5) (by omega) (by decide))
        have hwo := hw
        have hI := hI.tr h349
        have hw := hI.1.wf
        refine lf (a_inv (b2 := (0, 0)) k349 rfl dL_service_349 yk_X10_meal im_X10_meal se_X10_meal ml_L_146 rfl (co_0 hwo) (by decide) hc_X10 (by decide) (by decide) (Nat.le_of_ble_eq_true rfl)) ?_
        rw [show mlV q d m 5 = ldD q d m from rfl]
        refine lf (a_aload_n dL_service_352 rfl) ?_
        refine lf (a_iload dL_service_353 rfl) ?_
        refine lf (a_ild dL_service_355 hI.2.2.1 (ixn (m := m) (by omega) (by decide))) ?_
        rw [hI.2.2.2.2 m (by omega)]
        refine lf2 (a_icmp_le (tgt := 373) dL_service_356 (by decide)) (fun h356 => ?_) (fun h356 => ?_)
        · refine lf (a_iconst (0 : Int32) dL_service_373 (by decide)) ?_
          refine lf (a_istore dL_service_374 (by decide)) ?_
          refine lf (a_iincN dL_service_376 rfl (by decide)) ?_
          refine lf (a_goto (tgt := 287) dL_service_379 (by decide)) ?_
          have q9 := ih (m + 1) _ (by omega) hI
          exact lf (a_loc _ rfl) q9
        · refine lf (a_aload_n dL_service_359 rfl) ?_
          refine lf (a_iload dL_service_360 rfl) ?_
          refine lf (a_iconst (1 : Int32) dL_service_362 (by decide)) ?_
          obtain ⟨v_, W363, k363, rfl, h363⟩ := (w_passenger hI.1 (i := k) (k := 1) hk (by decide))
          have hwo := hw
          have hI := hI.tr h363
          have hw := hI.1.wf
          refine lf (a_inv (b2 := (0, 0)) k363 rfl dL_service_363 yk_X10_passenger im_X10_passenger se_X10_passenger ml_L_149 rfl (co_0 hwo) (by decide) hc_X10 (by decide) (by decide) (Nat.le_of_ble_eq_true rfl)) ?_
          rw [show pgV q d k 1 = dF d 1 k from rfl]
          refine lfn (a_if_ne (tgt := 373) dL_service_366 (by decide)) (fun h366 => ?_) (fun h366 => absurd h366 (by first | exact h315 | exact fun _ => h356 hle))
          refine lf (a_iconst (0 : Int32) dL_service_373 (by decide)) ?_
          refine lf (a_istore dL_service_374 (by decide)) ?_
          refine lf (a_iincN dL_service_376 rfl (by decide)) ?_
          refine lf (a_goto (tgt := 287) dL_service_379 (by decide)) ?_
          have q9 := ih (m + 1) _ (by omega) hI
          exact lf (a_loc _ rfl) q9
      · refine lf (a_aload_n dL_service_318 rfl) ?_
        refine lf (a_iload dL_service_319 rfl) ?_
        refine lf (a_iconst (0 : Int32) dL_service_321 (by decide)) ?_
        obtain ⟨v_, W322, k322, rfl, h322⟩ := (w_meal hI.1 (m := m) (k := 0) (by omega) (by decide))
        have hwo := hw
        have hI := hI.tr h322
        have hw := hI.1.wf
        refine lf (a_inv (b2 := (0, 0)) k322 rfl dL_service_322 yk_X10_meal im_X10_meal se_X10_meal ml_L_146 rfl (co_0 hwo) (by decide) hc_X10 (by decide) (by decide) (Nat.le_of_ble_eq_true rfl)) ?_
        rw [show mlV q d m 0 = pF q 2 m from rfl]
        refine lf2 (a_if_lt (tgt := 332) dL_service_325 (by decide)) (fun h325 => ?_) (fun h325 => ?_)
        · refine lf (a_iconst (0 : Int32) dL_service_332 (by decide)) ?_
          refine lf (a_istore dL_service_333 (by decide)) ?_
          refine lf (a_iload dL_service_335 rfl) ?_
          refine lfn (a_if_ne (tgt := 369) dL_service_337 (by decide)) (fun h337 => absurd h337 (fun z => z rfl)) (fun h337 => ?_)
          refine lf (a_iload dL_service_340 rfl) ?_
          refine lf2 (a_if_eq (tgt := 373) dL_service_342 (by decide)) (fun h342 => ?_) (fun h342 => absurd h342 (by decide))
          refine lf (a_iconst (0 : Int32) dL_service_373 (by decide)) ?_
          refine lf (a_istore dL_service_374 (by decide)) ?_
          refine lf (a_iincN dL_service_376 rfl (by decide)) ?_
          refine lf (a_goto (tgt := 287) dL_service_379 (by decide)) ?_
          have q9 := ih (m + 1) _ (by omega) hI
          exact lf (a_loc _ rfl) q9
        · have hp2 : pF q 2 m = dF d 0 k := by
            have h1 := (of_decide_eq_true hfit).1
            unfold adI at h1
            by_cases z : pF q 2 m = -1
            · rw [z] at h325
              exact absurd (by decide) h325
            · rw [if_neg z] at h1
              by_cases z2 : pF q 2 m = dF d 0 k
              · exact z2
              · rw [if_neg z2] at h1
                exact absurd rfl h1
          have hr0 := SvS.no hS hk h315 hyk.1 (show m < pM q by omega) hp2
          have hf := (SvS.facts hM4 (WiD.of hg) hS).1 m (by omega)
          obtain ⟨el, hl⟩ := ldD_N hq hg (k := m) (by omega)
          have hle : ldD q d m ≤ nI (cntG (svR q d).1 (dP d) m) := by
            rw [el, show ldN q d m = cntG (svR q d).1 (dP d) m by omega]
            exact Int32.le_refl _
          refine lf (a_iconst (1 : Int32) dL_service_328 (by decide)) ?_
          refine lf (a_goto (tgt := 333) dL_service_329 (by decide)) ?_
          refine lf (a_istore dL_service_333 (by decide)) ?_
          refine lf (a_iload dL_service_335 rfl) ?_
          refine lfn (a_if_ne (tgt := 369) dL_service_337 (by decide)) (fun h337 => absurd h337 (fun z => z rfl)) (fun h337 => ?_)
          refine lf (a_iload dL_service_340 rfl) ?_
          refine lf2 (a_if_eq (tgt := 373) dL_service_342 (by decide)) (fun h342 => absurd h342 (by decide)) (fun h342 => ?_)
          refine lf (a_aload_n dL_service_345 rfl) ?_
          refine lf (a_iload dL_service_346 rfl) ?_
          refine lf (a_iconst (5 : Int32) dL_service_348 (by decide)) ?_
          obtain ⟨v_, W349, k349, rfl, h349⟩ := (w_meal hI.1 (m := m) (k := 5) (by omega) (by decide))
          have hwo := hw
          have hI := hI.tr h349
          have hw := hI.1.wf
          refine lf (a_inv (b2 := (0, 0)) k349 rfl dL_service_349 yk_X10_meal im_X10_meal se_X10_meal ml_L_146 rfl (co_0 hwo) (by decide) hc_X10 (by decide) (by decide) (Nat.le_of_ble_eq_true rfl)) ?_
          rw [show mlV q d m 5 = ldD q d m from rfl]
          refine lf (a_aload_n dL_service_352 rfl) ?_
          refine lf (a_iload dL_service_353 rfl) ?_
          refine lf (a_ild dL_service_355 hI.2.2.1 (ixn (m := m) (by omega) (by decide))) ?_
          rw [hI.2.2.2.2 m (by omega)]
          refine lf2 (a_icmp_le (tgt := 373) dL_service_356 (by decide)) (fun h356 => ?_) (fun h356 => ?_)
          · refine lf (a_iconst (0 : Int32) dL_service_373 (by decide)) ?_
            refine lf (a_istore dL_service_374 (by decide)) ?_
            refine lf (a_iincN dL_service_376 rfl (by decide)) ?_
            refine lf (a_goto (tgt := 287) dL_service_379 (by decide)) ?_
            have q9 := ih (m + 1) _ (by omega) hI
            exact lf (a_loc _ rfl) q9
          · refine lf (a_aload_n dL_service_359 rfl) ?_
            refine lf (a_iload dL_service_360 rfl) ?_
            refine lf (a_iconst (1 : Int32) dL_service_362 (by decide)) ?_
            obtain ⟨v_, W363, k363, rfl, h363⟩ := (w_passenger hI.1 (i := k) (k := 1) hk (by decide))
            have hwo := hw
            have hI := hI.tr h363
            have hw := hI.1.wf
            refine lf (a_inv (b2 := (0, 0)) k363 rfl dL_service_363 yk_X10_passenger im_X10_passenger se_X10_passenger ml_L_149 rfl (co_0 hwo) (by decide) hc_X10 (by decide) (by decide) (Nat.le_of_ble_eq_true rfl)) ?_
            rw [show pgV q d k 1 = dF d 1 k from rfl]
            refine lfn (a_if_ne (tgt := 373) dL_service_366 (by decide)) (fun h366 => ?_) (fun h366 => absurd h366 (by first | exact h315 | exact fun _ => h356 hle))
            refine lf (a_iconst (0 : Int32) dL_service_373 (by decide)) ?_
            refine lf (a_istore dL_service_374 (by decide)) ?_
            refine lf (a_iincN dL_service_376 rfl (by decide)) ?_
            refine lf (a_goto (tgt := 287) dL_service_379 (by decide)) ?_
            have q9 := ih (m + 1) _ (by omega) hI
            exact lf (a_loc _ rfl) q9
theorem l_L_service_252  {Q : Oc → Wd → Prop} (kx : ∀ W, SvL p p0 q d H S N μ (cntG (svR q d).1 (dP d)) W → WP Y_L_service R_L_service (0, 0) W 388 [(0, .ref 0), (1, .ref (wn μ)), (2, .int (nI (spC d (svR q d).1 (dP d)))), (3, .int (nI (szG (svR q d).1 (dP d)))), (4, .int (nI (wmG d (svR q d).1 (dP d)))), (5, .int 1), (6, .int (waS (svR q d).2.1 (pM q))), (7, .int (wcS q (svR q d).2.1 (pM q))), (8, .int 0), (9, .int (nI (dP d)))] [] Q) : ∀ dd m (W : Wd), m + dd = dP d → SvL p p0 q d H S N μ (cntG (svR q d).1 (dP d)) W → WP Y_L_service R_L_service (0, 0) W 252 [(0, .ref 0), (1, .ref (wn μ)), (2, .int (nI (spC d (svR q d).1 (dP d)))), (3, .int (nI (szG (svR q d).1 (dP d)))), (4, .int (nI (wmG d (svR q d).1 (dP d)))), (5, .int 1), (6, .int (waS (svR q d).2.1 (pM q))), (7, .int (wcS q (svR q d).2.1 (pM q))), (8, .int 0), (9, .int (nI m))] [] Q := by
  intro dd
  induction dd with
  | zero =>
    intro m W hm hI
    obtain rfl : dP d = m := by omega
    have hw := hI.1.wf
    have hwo := hw
    have hq := hI.1.gp
    have hg := hI.1.gd
    have hC4 := hq.C4
    have hM4 := hq.M4
    have hT4 := hq.T4
    have hP4 := hg.P4
    have hwc := hI.1.2.2.1.2.2.2.1
    have hS := hI.1.svs
    refine lf (a_iload dL_service_252 rfl) ?_
    refine lf (a_aload_n dL_service_254 rfl) ?_
    refine lf (a_iconst (3 : Int32) dL_service_255 (by decide)) ?_
    obtain ⟨v_, W256, k256, rfl, h256⟩ := (w_count hI.1 (k := 3) (by decide))
    have hwo := hw
    have hI := hI.tr h256
    have hw := hI.1.wf
    refine lf (a_inv (b2 := (0, 0)) k256 rfl dL_service_256 yk_X10_count im_X10_count se_X10_count ml_L_131 rfl (co_0 hwo) (by decide) hc_X10 (by decide) (by decide) (Nat.le_of_ble_eq_true rfl)) ?_
    rw [show cnV q d H.1 3 = nI (dP d) from rfl]
    refine lf2 (a_icmp_ge (tgt := 388) dL_service_259 (by decide)) (fun h259 => ?_) (fun h259 => absurd h259 (fun z => z (nI_le (Nat.le_refl _) (by omega))))
    exact lf (a_loc _ rfl) (kx _ hI)
  | succ dd ih =>
    intro m W hm hI
    have hw := hI.1.wf
    have hwo := hw
    have hq := hI.1.gp
    have hg := hI.1.gd
    have hC4 := hq.C4
    have hM4 := hq.M4
    have hT4 := hq.T4
    have hP4 := hg.P4
    have hwc := hI.1.2.2.1.2.2.2.1
    have hS := hI.1.svs
    refine lf (a_iload dL_service_252 rfl) ?_
    refine lf (a_aload_n dL_service_254 rfl) ?_
    refine lf (a_iconst (3 : Int32) dL_service_255 (by decide)) ?_
    obtain ⟨v_, W256, k256, rfl, h256⟩ := (w_count hI.1 (k := 3) (by decide))
    have hwo := hw
    have hI := hI.tr h256
    have hw := hI.1.wf
    refine lf (a_inv (b2 := (0, 0)) k256 rfl dL_service_256 yk_X10_count im_X10_count se_X10_count ml_L_131 rfl (co_0 hwo) (by decide) hc_X10 (by decide) (by decide) (Nat.le_of_ble_eq_true rfl)) ?_
    rw [show cnV q d H.1 3 = nI (dP d) from rfl]
    refine lf2 (a_icmp_ge (tgt := 388) dL_service_259 (by decide)) (fun h259 => absurd h259 (nI_ge (a := m) (b := dP d) (by omega) (by omega))) (fun h259 => ?_)
    refine lf (a_aload_n dL_service_262 rfl) ?_
    refine lf (a_iload dL_service_263 rfl) ?_
    obtain ⟨v_, W265, k265, rfl, h265⟩ := (w_mealFor hI.1 (i := m) (by omega))
    have hwo := hw
    have hI := hI.tr h265
    have hw := hI.1.wf
    refine lf (a_inv (b2 := (0, 0)) k265 rfl dL_service_265 yk_X10_mealFor im_X10_mealFor se_X10_mealFor ml_L_168 rfl (co_0 hwo) (by decide) hc_X10 (by decide) (by decide) (Nat.le_of_ble_eq_true rfl)) ?_
    refine lf2 (a_if_ge (tgt := 281) dL_service_268 (by decide)) (fun h268 => ?_) (fun h268 => ?_)
    · have hy0 : ((svR q d).1 m = none ∧ (0 : Int32) = suD q (dF d 0 m) (dF d 1 m)) ∨ (0 : Int32) = 0 := Or.inr rfl
      refine lf (a_iconst (0 : Int32) dL_service_281 (by decide)) ?_
      refine lf (a_istore dL_service_282 (by decide)) ?_
      refine lf (a_iconst (0 : Int32) dL_service_284 (by decide)) ?_
      refine lf (a_istore dL_service_285 (by decide)) ?_
      first
      | (refine lf (a_loc [(0, .ref 0), (1, .ref (wn μ)), (2, .int (nI (spC d (svR q d).1 (dP d)))), (3, .int (nI (szG (svR q d).1 (dP d)))), (4, .int (nI (wmG d (svR q d).1 (dP d)))), (5, .int 1), (6, .int (waS (svR q d).2.1 (pM q))), (7, .int (wcS q (svR q d).2.1 (pM q))), (8, .int 0), (9, .int (nI m)), (10, .int (suD q (dF d 0 m) (dF d 1 m))), (11, .int (nI 0))] rfl) (l_L_service_287 (k := m) (by omega) hy0 (fun V hI => ?_) (pM q) 0 _ (by omega) hI)
         refine lf (a_iincN dL_service_382 rfl (by decide)) (lf (a_goto (tgt := 252) dL_service_385 (by decide)) ?_)
         exact lf (a_loc _ rfl) (ih (m + 1) _ (by omega) hI))
      | (refine lf (a_loc [(0, .ref 0), (1, .ref (wn μ)), (2, .int (nI (spC d (svR q d).1 (dP d)))), (3, .int (nI (szG (svR q d).1 (dP d)))), (4, .int (nI (wmG d (svR q d).1 (dP d)))), (5, .int 1), (6, .int (waS (svR q d).2.1 (pM q))), (7, .int (wcS q (svR q d).2.1 (pM q))), (8, .int 0), (9, .int (nI m)), (10, .int 0), (11, .int (nI 0))] rfl) (l_L_service_287 (k := m) (by omega) hy0 (fun V hI => ?_) (pM q) 0 _ (by omega) hI)
         refine lf (a_iincN dL_service_382 rfl (by decide)) (lf (a_goto (tgt := 252) dL_service_385 (by decide)) ?_)
         exact lf (a_loc _ rfl) (ih (m + 1) _ (by omega) hI))
    · have e : (svR q d).1 m = none := by
        cases e : (svR q d).1 m with
        | none => rfl
        | some x =>
          obtain ⟨hx, _, _⟩ := SvS.fit hq hg hwc hS (by omega) e
          rw [e] at h268
          exact absurd (nI_ge0 (n := x) (by omega)) h268
      have hy0 : ((svR q d).1 m = none ∧ suD q (dF d 0 m) (dF d 1 m) = suD q (dF d 0 m) (dF d 1 m)) ∨ suD q (dF d 0 m) (dF d 1 m) = 0 := Or.inl ⟨e, rfl⟩
      refine lf (a_aload_n dL_service_271 rfl) ?_
      refine lf (a_iload dL_service_272 rfl) ?_
      refine lf (a_iconst (4 : Int32) dL_service_274 (by decide)) ?_
      obtain ⟨v_, W275, k275, rfl, h275⟩ := (w_passenger hI.1 (i := m) (k := 4) (by omega) (by decide))
      have hwo := hw
      have hI := hI.tr h275
      have hw := hI.1.wf
      refine lf (a_inv (b2 := (0, 0)) k275 rfl dL_service_275 yk_X10_passenger im_X10_passenger se_X10_passenger ml_L_149 rfl (co_0 hwo) (by decide) hc_X10 (by decide) (by decide) (Nat.le_of_ble_eq_true rfl)) ?_
      rw [show pgV q d m 4 = suD q (dF d 0 m) (dF d 1 m) from rfl]
      refine lf (a_goto (tgt := 282) dL_service_278 (by decide)) ?_
      refine lf (a_istore dL_service_282 (by decide)) ?_
      refine lf (a_iconst (0 : Int32) dL_service_284 (by decide)) ?_
      refine lf (a_istore dL_service_285 (by decide)) ?_
      first
      | (refine lf (a_loc [(0, .ref 0), (1, .ref (wn μ)), (2, .int (nI (spC d (svR q d).1 (dP d)))), (3, .int (nI (szG (svR q d).1 (dP d)))), (4, .int (nI (wmG d (svR q d).1 (dP d)))), (5, .int 1), (6, .int (waS (svR q d).2.1 (pM q))), (7, .int (wcS q (svR q d).2.1 (pM q))), (8, .int 0), (9, .int (nI m)), (10, .int (suD q (dF d 0 m) (dF d 1 m))), (11, .int (nI 0))] rfl) (l_L_service_287 (k := m) (by omega) hy0 (fun V hI => ?_) (pM q) 0 _ (by omega) hI)
         refine lf (a_iincN dL_service_382 rfl (by decide)) (lf (a_goto (tgt := 252) dL_service_385 (by decide)) ?_)
         exact lf (a_loc _ rfl) (ih (m + 1) _ (by omega) hI))
      | (refine lf (a_loc [(0, .ref 0), (1, .ref (wn μ)), (2, .int (nI (spC d (svR q d).1 (dP d)))), (3, .int (nI (szG (svR q d).1 (dP d)))), (4, .int (nI (wmG d (svR q d).1 (dP d)))), (5, .int 1), (6, .int (waS (svR q d).2.1 (pM q))), (7, .int (wcS q (svR q d).2.1 (pM q))), (8, .int 0), (9, .int (nI m)), (10, .int 0), (11, .int (nI 0))] rfl) (l_L_service_287 (k := m) (by omega) hy0 (fun V hI => ?_) (pM q) 0 _ (by omega) hI)
         refine lf (a_iincN dL_service_382 rfl (by decide)) (lf (a_goto (tgt := 252) dL_service_385 (by decide)) ?_)
         exact lf (a_loc _ rfl) (ih (m + 1) _ (by omega) hI))
theorem t_L_service (hI0 : LwV p p0 q d H S N μ) (hμ : wn μ + 1 < 1000000) : CV Y_L_service R_L_service [.ref 0] μ (fun v V => v = some (.int 1) ∧ LwB p p0 q d H S N μ V) := by
  refine CV.ent yk_L_service (Nat.le_of_ble_eq_true rfl) ?_
  have hw := hI0.wf
  have hS := hI0.svs
  have hI := SvL.new hI0
  have e0 : (svR q d).2.2 = spC d (svR q d).1 (dP d) := ((SvS.facts hI0.gp.M4 (WiD.of hI0.gd) hS).2.2).symm
  refine lf (a_bipush (12 : Int32) dL_service_0 (by decide)) ?_
  refine lf (a_newI (Y := Y_L_service) (c9 := 12 * 32 + 20) (len := 12) (t := 20) (aty := .int) (ty := .int) dL_service_2 rfl ac_int ⟨rfl, by decide, by decide, by decide⟩ rfl (by decide) (by decide) (km_new hw.1 (by decide)) (al_new hw.1 (by decide)) (by omega) (b' := (0, 0)) rfl) ?_
  refine lf (a_astore_n dL_service_4 (by decide)) ?_
  refine lf (a_iconst (0 : Int32) dL_service_5 (by decide)) ?_
  refine lf (a_istore_n dL_service_6 (by decide)) ?_
  refine lf (a_iconst (0 : Int32) dL_service_7 (by decide)) ?_
  refine lf (a_istore_n dL_service_8 (by decide)) ?_
  refine lf (a_iconst (0 : Int32) dL_service_9 (by decide)) ?_
  refine lf (a_istore dL_service_10 (by decide)) ?_
  refine lf (a_iconst (1 : Int32) dL_service_12 (by decide)) ?_
  refine lf (a_istore dL_service_13 (by decide)) ?_
  refine lf (a_iconst (0 : Int32) dL_service_15 (by decide)) ?_
  refine lf (a_istore dL_service_16 (by decide)) ?_
  refine lf (a_loc [(0, .ref 0), (1, .ref (wn μ)), (2, .int (nI (spC d (svR q d).1 0))), (3, .int (nI (szG (svR q d).1 0))), (4, .int (nI (wmG d (svR q d).1 0))), (5, .int 1), (6, .int (nI 0))] rfl) (l_L_service_18 (fun W1 hI => ?_) (dP d) 0 _ (by omega) (hI.cg (fun j => rfl)))
  refine lf (a_iconst (0 : Int32) dL_service_168 (by decide)) ?_
  refine lf (a_istore dL_service_169 (by decide)) ?_
  refine lf (a_iconst (0 : Int32) dL_service_171 (by decide)) ?_
  refine lf (a_istore dL_service_172 (by decide)) ?_
  refine lf (a_iconst (0 : Int32) dL_service_174 (by decide)) ?_
  refine lf (a_istore dL_service_175 (by decide)) ?_
  refine lf (a_iconst (0 : Int32) dL_service_177 (by decide)) ?_
  refine lf (a_istore dL_service_178 (by decide)) ?_
  refine lf (a_loc [(0, .ref 0), (1, .ref (wn μ)), (2, .int (nI (spC d (svR q d).1 (dP d)))), (3, .int (nI (szG (svR q d).1 (dP d)))), (4, .int (nI (wmG d (svR q d).1 (dP d)))), (5, .int 1), (6, .int (waS (svR q d).2.1 0)), (7, .int (wcS q (svR q d).2.1 0)), (8, .int 0), (9, .int (nI 0))] rfl) (l_L_service_180 (fun W2 hI => ?_) (pM q) 0 _ (by omega) hI)
  refine lf (a_iconst (0 : Int32) dL_service_249 (by decide)) ?_
  refine lf (a_istore dL_service_250 (by decide)) ?_
  refine lf (a_loc [(0, .ref 0), (1, .ref (wn μ)), (2, .int (nI (spC d (svR q d).1 (dP d)))), (3, .int (nI (szG (svR q d).1 (dP d)))), (4, .int (nI (wmG d (svR q d).1 (dP d)))), (5, .int 1), (6, .int (waS (svR q d).2.1 (pM q))), (7, .int (wcS q (svR q d).2.1 (pM q))), (8, .int 0), (9, .int (nI 0))] rfl) (l_L_service_252 (fun W3 hI => ?_) (dP d) 0 _ (by omega) hI)
  have hw := hI.1.wf
  have hwo := hw
  refine lf (a_iload dL_service_388 rfl) ?_
  refine lf2 (a_if_eq (tgt := 465) dL_service_390 (by decide)) (fun h390 => absurd h390 (by decide)) (fun h390 => ?_)
  refine lf (a_iload dL_service_393 rfl) ?_
  refine lfn (a_if_ne (tgt := 465) dL_service_395 (by decide)) (fun h395 => absurd h395 (fun z => z rfl)) (fun h395 => ?_)
  refine lf (a_aload_n dL_service_398 rfl) ?_
  refine lf (a_iconst (0 : Int32) dL_service_399 (by decide)) ?_
  obtain ⟨v_, W400, k400, rfl, h400⟩ := (w_outlook hI.1 (k := 0) (by decide))
  have hwo := hw
  have hI := hI.tr h400
  have hw := hI.1.wf
  refine lf (a_inv (b2 := (0, 0)) k400 rfl dL_service_400 yk_X10_outlook im_X10_outlook se_X10_outlook ml_L_136 rfl (co_0 hwo) (by decide) hc_X10 (by decide) (by decide) (Nat.le_of_ble_eq_true rfl)) ?_
  refine lf (a_iload_n dL_service_403 rfl) ?_
  refine lfn (a_icmp_ne (tgt := 465) dL_service_404 (by decide)) (fun h404 => absurd h404 (fun z => z (congrArg nI e0))) (fun h404 => ?_)
  refine lf (a_aload_n dL_service_407 rfl) ?_
  refine lf (a_iconst (1 : Int32) dL_service_408 (by decide)) ?_
  obtain ⟨v_, W409, k409, rfl, h409⟩ := (w_outlook hI.1 (k := 1) (by decide))
  have hwo := hw
  have hI := hI.tr h409
  have hw := hI.1.wf
  refine lf (a_inv (b2 := (0, 0)) k409 rfl dL_service_409 yk_X10_outlook im_X10_outlook se_X10_outlook ml_L_136 rfl (co_0 hwo) (by decide) hc_X10 (by decide) (by decide) (Nat.le_of_ble_eq_true rfl)) ?_
  refine lf (a_iload_n dL_service_412 rfl) ?_
  refine lfn (a_icmp_ne (tgt := 465) dL_service_413 (by decide)) (fun h413 => absurd h413 (fun z => z rfl)) (fun h413 => ?_)
  refine lf (a_aload_n dL_service_416 rfl) ?_
  refine lf (a_iconst (2 : Int32) dL_service_417 (by decide)) ?_
  obtain ⟨v_, W418, k418, rfl, h418⟩ := (w_outlook hI.1 (k := 2) (by decide))
  have hwo := hw
  have hI := hI.tr h418
  have hw := hI.1.wf
  refine lf (a_inv (b2 := (0, 0)) k418 rfl dL_service_418 yk_X10_outlook im_X10_outlook se_X10_outlook ml_L_136 rfl (co_0 hwo) (by decide) hc_X10 (by decide) (by decide) (Nat.le_of_ble_eq_true rfl)) ?_
  refine lf (a_aload_n dL_service_421 rfl) ?_
  refine lf (a_iconst (3 : Int32) dL_service_422 (by decide)) ?_
  obtain ⟨v_, W423, k423, rfl, h423⟩ := (w_count hI.1 (k := 3) (by decide))
  have hwo := hw
  have hI := hI.tr h423
  have hw := hI.1.wf
  refine lf (a_inv (b2 := (0, 0)) k423 rfl dL_service_423 yk_X10_count im_X10_count se_X10_count ml_L_131 rfl (co_0 hwo) (by decide) hc_X10 (by decide) (by decide) (Nat.le_of_ble_eq_true rfl)) ?_
  refine lf (a_iload_n dL_service_426 rfl) ?_
  refine lf (a_isub dL_service_427) ?_
  refine lfn (a_icmp_ne (tgt := 465) dL_service_428 (by decide)) (fun h428 => absurd h428 (fun z => z rfl)) (fun h428 => ?_)
  refine lf (a_aload_n dL_service_431 rfl) ?_
  refine lf (a_iconst (3 : Int32) dL_service_432 (by decide)) ?_
  obtain ⟨v_, W433, k433, rfl, h433⟩ := (w_outlook hI.1 (k := 3) (by decide))
  have hwo := hw
  have hI := hI.tr h433
  have hw := hI.1.wf
  refine lf (a_inv (b2 := (0, 0)) k433 rfl dL_service_433 yk_X10_outlook im_X10_outlook se_X10_outlook ml_L_136 rfl (co_0 hwo) (by decide) hc_X10 (by decide) (by decide) (Nat.le_of_ble_eq_true rfl)) ?_
  refine lf (a_iload dL_service_436 rfl) ?_
  refine lfn (a_icmp_ne (tgt := 465) dL_service_438 (by decide)) (fun h438 => absurd h438 (fun z => z rfl)) (fun h438 => ?_)
  refine lf (a_aload_n dL_service_441 rfl) ?_
  refine lf (a_iconst (4 : Int32) dL_service_442 (by decide)) ?_
  obtain ⟨v_, W443, k443, rfl, h443⟩ := (w_outlook hI.1 (k := 4) (by decide))
  have hwo := hw
  have hI := hI.tr h443
  have hw := hI.1.wf
  refine lf (a_inv (b2 := (0, 0)) k443 rfl dL_service_443 yk_X10_outlook im_X10_outlook se_X10_outlook ml_L_136 rfl (co_0 hwo) (by decide) hc_X10 (by decide) (by decide) (Nat.le_of_ble_eq_true rfl)) ?_
  refine lf (a_iload dL_service_446 rfl) ?_
  refine lfn (a_icmp_ne (tgt := 465) dL_service_448 (by decide)) (fun h448 => absurd h448 (fun z => z rfl)) (fun h448 => ?_)
  refine lf (a_aload_n dL_service_451 rfl) ?_
  refine lf (a_iconst (5 : Int32) dL_service_452 (by decide)) ?_
  obtain ⟨v_, W453, k453, rfl, h453⟩ := (w_outlook hI.1 (k := 5) (by decide))
  have hwo := hw
  have hI := hI.tr h453
  have hw := hI.1.wf
  refine lf (a_inv (b2 := (0, 0)) k453 rfl dL_service_453 yk_X10_outlook im_X10_outlook se_X10_outlook ml_L_136 rfl (co_0 hwo) (by decide) hc_X10 (by decide) (by decide) (Nat.le_of_ble_eq_true rfl)) ?_
  refine lf (a_iload dL_service_456 rfl) ?_
  refine lfn (a_icmp_ne (tgt := 465) dL_service_458 (by decide)) (fun h458 => absurd h458 (fun z => z rfl)) (fun h458 => ?_)
  refine lf (a_iconst (1 : Int32) dL_service_461 (by decide)) ?_
  refine lf (a_goto (tgt := 466) dL_service_462 (by decide)) ?_
  refine ⟨_, _, (a_ireturn dL_service_466 rfl rfl), ?_⟩
  exact ⟨_, rfl, rfl, hI.1, hI.2.1, Nat.le_of_eq hI.2.2.2.1.2⟩
end SERV
