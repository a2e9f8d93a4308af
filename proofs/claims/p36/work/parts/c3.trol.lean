section TROL
variable {μ : Wd} {p p0 N : Nat} {q : PDt} {d : FDt} {H : Hst} {S : Nat → Option FDt}
abbrev R_L_trolleys : Room := { frames := 14, cells := 0, slots := 0, locals := 500 }
/-- slots and units of a trolley, up to a meal -/
def tS (q : PDt) (d : FDt) (t m : Nat) : Int32 := itN (fun i a => a + dF d (7 + t) i * pF q 4 i) 0 m
def tU (d : FDt) (t m : Nat) : Int32 := itN (fun i a => a + dF d (7 + t) i) 0 m
def tA (q : PDt) (d : FDt) (t : Nat) : Int32 := itN (fun t a => a + uiD q d t) 0 t
theorem tS_s (q : PDt) (d : FDt) (t m : Nat) : tS q d t (m + 1) = tS q d t m + dF d (7 + t) m * pF q 4 m := rfl
theorem tU_s (d : FDt) (t m : Nat) : tU d t (m + 1) = tU d t m + dF d (7 + t) m := rfl
theorem tA_s (q : PDt) (d : FDt) (t : Nat) : tA q d (t + 1) = tA q d t + tU d t (pM q) := rfl
theorem tS_N {q : PDt} {d : FDt} (hq : GdP q) (hd : GdD q d) {t : Nat} (ht : t < 8) : ∀ m, m ≤ pM q → tS q d t m = nI (usN q d t m) := by
  intro m
  induction m with
  | zero => intro _; rfl
  | succ m ih =>
    intro hm
    have hM := hq.M4
    obtain ⟨z, z1, z3, ez⟩ := hq.size (show m < pM q by omega)
    obtain ⟨e, hu⟩ := GdD_unN hd ht (show m < 12 by omega)
    have hz : nN (pF q 4 m) = z := by rw [ez, nN_nI (by omega)]
    have hs : usN q d t (m + 1) = usN q d t m + unN d t m * z := by unfold usN; rw [fb_sm_succ, hz]
    rw [tS_s, ih (by omega), hs, ez, e, nI_mulI, nI_add]
/-- what a trolley holds and what is free make its slots -/
theorem trol_eq {q : PDt} {d : FDt} (hq : GdP q) (hd : GdD q d) {t : Nat} (ht : t < pT q) : fsD q d t = pF q 8 t - tS q d t (pM q) ∧ ¬ pF q 8 t < tS q d t (pM q) := by
  obtain ⟨s, f, h1, h2, h3, h4⟩ := fs_sum hq hd ht
  have hT := hq.T4
  rw [tS_N hq hd (by omega) _ (Nat.le_refl _), h2, h3, nI_subI (by omega)]
  refine ⟨congrArg nI (by omega), fun z => ?_⟩
  have := (nI_ltI (by omega) (by omega)).mp z
  omega
theorem l_L_trolleys_28 {t : Nat} {a : Int32} (ht : t < pT q) {Q : Oc → Wd → Prop} (kx : ∀ W, LwA p p0 q d H S N μ W → WP Y_L_trolleys R_L_trolleys (0, 0) W 115 [(0, .ref 0), (1, .int 1), (2, .int a), (3, .int (nI t)), (4, .int (tS q d t (pM q))), (5, .int (tU d t (pM q))), (6, .int (nI (pM q)))] [] Q) : ∀ dd m (W : Wd), m + dd = pM q → LwA p p0 q d H S N μ W → WP Y_L_trolleys R_L_trolleys (0, 0) W 28 [(0, .ref 0), (1, .int 1), (2, .int a), (3, .int (nI t)), (4, .int (tS q d t m)), (5, .int (tU d t m)), (6, .int (nI m))] [] Q := by
  intro dd
  induction dd with
  | zero =>
    intro m W hm hI
    obtain rfl : pM q = m := by omega
    have hw := hI.1.wf
    have hwo := hw
    have hq := hI.1.gp
    have hg := hI.1.gd
    have hC4 := hq.C4
    have hM4 := hq.M4
    have hT4 := hq.T4
    have hAd := hI.1.2.2.1.2.1
    refine lf (a_iload dL_trolleys_28 rfl) ?_
    refine lf (a_aload_n dL_trolleys_30 rfl) ?_
    refine lf (a_iconst (2 : Int32) dL_trolleys_31 (by decide)) ?_
    obtain ⟨v_, W32, k32, rfl, h32⟩ := (w_count hI.1 (k := 2) (by decide))
    have hwo := hw
    have hI := hI.tr h32
    have hw := hI.1.wf
    refine lf (a_inv (b2 := (0, 0)) k32 rfl dL_trolleys_32 yk_X10_count im_X10_count se_X10_count ml_L_131 rfl (co_0 hwo) (by decide) hc_X10 (by decide) (by decide) (Nat.le_of_ble_eq_true rfl)) ?_
    rw [show cnV q d H.1 2 = nI (pM q) from rfl]
    refine lf2 (a_icmp_ge (tgt := 115) dL_trolleys_35 (by decide)) (fun h35 => ?_) (fun h35 => absurd h35 (fun z => z (nI_le (Nat.le_refl _) (by omega))))
    exact lf (a_loc _ rfl) (kx _ hI)
  | succ dd ih =>
    intro m W hm hI
    have hw := hI.1.wf
    have hwo := hw
    have hq := hI.1.gp
    have hg := hI.1.gd
    have hC4 := hq.C4
    have hM4 := hq.M4
    have hT4 := hq.T4
    have hAd := hI.1.2.2.1.2.1
    refine lf (a_iload dL_trolleys_28 rfl) ?_
    refine lf (a_aload_n dL_trolleys_30 rfl) ?_
    refine lf (a_iconst (2 : Int32) dL_trolleys_31 (by decide)) ?_
    obtain ⟨v_, W32, k32, rfl, h32⟩ := (w_count hI.1 (k := 2) (by decide))
    have hwo := hw
    have hI := hI.tr h32
    have hw := hI.1.wf
    refine lf (a_inv (b2 := (0, 0)) k32 rfl dL_trolleys_32 yk_X10_count im_X10_count se_X10_count ml_L_131 rfl (co_0 hwo) (by decide) hc_X10 (by decide) (by decide) (Nat.le_of_ble_eq_true rfl)) ?_
    rw [show cnV q d H.1 2 = nI (pM q) from rfl]
    refine lf2 (a_icmp_ge (tgt := 115) dL_trolleys_35 (by decide)) (fun h35 => absurd h35 (nI_ge (a := m) (b := pM q) (by omega) (by omega))) (fun h35 => ?_)
    refine lf (a_aload_n dL_trolleys_38 rfl) ?_
    refine lf (a_iload_n dL_trolleys_39 rfl) ?_
    refine lf (a_iload dL_trolleys_40 rfl) ?_
    refine lf (a_inv (b2 := (0, 0)) (w_held hI.1 ht (m := m) (by omega)) rfl dL_trolleys_42 yk_X10_held im_X10_held se_X10_held ml_L_152 rfl (co_0 hw) (by decide) hc_X10 (by decide) (by decide) (Nat.le_of_ble_eq_true rfl)) ?_
    refine lf (a_istore dL_trolleys_45 (by decide)) ?_
    refine lf (a_aload_n dL_trolleys_47 rfl) ?_
    refine lf (a_iload dL_trolleys_48 rfl) ?_
    refine lf (a_iconst (0 : Int32) dL_trolleys_50 (by decide)) ?_
    obtain ⟨v_, W51, k51, rfl, h51⟩ := (w_meal hI.1 (m := m) (k := 0) (by omega) (by decide))
    have hwo := hw
    have hI := hI.tr h51
    have hw := hI.1.wf
    refine lf (a_inv (b2 := (0, 0)) k51 rfl dL_trolleys_51 yk_X10_meal im_X10_meal se_X10_meal ml_L_146 rfl (co_0 hwo) (by decide) hc_X10 (by decide) (by decide) (Nat.le_of_ble_eq_true rfl)) ?_
    rw [show mlV q d m 0 = pF q 2 m from rfl]
    refine lf (a_istore dL_trolleys_54 (by decide)) ?_
    refine lf (a_iload dL_trolleys_56 rfl) ?_
    refine lf (a_iload dL_trolleys_58 rfl) ?_
    refine lf (a_aload_n dL_trolleys_60 rfl) ?_
    refine lf (a_iload dL_trolleys_61 rfl) ?_
    refine lf (a_iconst (2 : Int32) dL_trolleys_63 (by decide)) ?_
    obtain ⟨v_, W64, k64, rfl, h64⟩ := (w_meal hI.1 (m := m) (k := 2) (by omega) (by decide))
    have hwo := hw
    have hI := hI.tr h64
    have hw := hI.1.wf
    refine lf (a_inv (b2 := (0, 0)) k64 rfl dL_trolleys_64 yk_X10_meal im_X10_meal se_X10_meal ml_L_146 rfl (co_0 hwo) (by decide) hc_X10 (by decide) (by decide) (Nat.le_of_ble_eq_true rfl)) ?_
    rw [show mlV q d m 2 = pF q 4 m from rfl]
    refine lf (a_imul dL_trolleys_67) ?_
    refine lf (a_iadd dL_trolleys_68) ?_
    refine lf (a_istore dL_trolleys_69 (by decide)) ?_
    refine lf (a_iload dL_trolleys_71 rfl) ?_
    refine lf (a_iload dL_trolleys_73 rfl) ?_
    refine lf (a_iadd dL_trolleys_75) ?_
    refine lf (a_istore dL_trolleys_76 (by decide)) ?_
    refine lf (a_iload_n dL_trolleys_78 rfl) ?_
    refine lf2 (a_if_eq (tgt := 107) dL_trolleys_79 (by decide)) (fun h79 => absurd h79 (by decide)) (fun h79 => ?_)
    refine lf (a_iload dL_trolleys_82 rfl) ?_
    refine lf2 (a_if_eq (tgt := 103) dL_trolleys_84 (by decide)) (fun h84 => ?_) (fun h84 => ?_)
    · refine lf (a_iconst (1 : Int32) dL_trolleys_103 (by decide)) ?_
      refine lf (a_goto (tgt := 108) dL_trolleys_104 (by decide)) ?_
      refine lf (a_istore_n dL_trolleys_108 (by decide)) ?_
      refine lf (a_iincN dL_trolleys_109 rfl (by decide)) ?_
      refine lf (a_goto (tgt := 28) dL_trolleys_112 (by decide)) ?_
      have q9 := ih (m + 1) _ (by omega) hI
      rw [tS_s, tU_s] at q9
      exact lf (a_loc _ rfl) q9
    · refine lf (a_iload dL_trolleys_87 rfl) ?_
      refine lf2 (a_if_lt (tgt := 103) dL_trolleys_89 (by decide)) (fun h89 => ?_) (fun h89 => ?_)
      · refine lf (a_iconst (1 : Int32) dL_trolleys_103 (by decide)) ?_
        refine lf (a_goto (tgt := 108) dL_trolleys_104 (by decide)) ?_
        refine lf (a_istore_n dL_trolleys_108 (by decide)) ?_
        refine lf (a_iincN dL_trolleys_109 rfl (by decide)) ?_
        refine lf (a_goto (tgt := 28) dL_trolleys_112 (by decide)) ?_
        have q9 := ih (m + 1) _ (by omega) hI
        rw [tS_s, tU_s] at q9
        exact lf (a_loc _ rfl) q9
      · have heq : pF q 2 m = pF q 7 t := by
          rcases hAd t m ht (by omega) with z | z
          · exact absurd z h84
          · unfold adI at z
            by_cases e1 : pF q 2 m = -1
            · rw [e1] at h89
              exact absurd (by decide) h89
            · rw [if_neg e1] at z
              by_cases e2 : pF q 2 m = pF q 7 t
              · exact e2
              · rw [if_neg e2] at z
                exact absurd rfl z
        refine lf (a_iload dL_trolleys_92 rfl) ?_
        refine lf (a_aload_n dL_trolleys_94 rfl) ?_
        refine lf (a_iload_n dL_trolleys_95 rfl) ?_
        refine lf (a_iconst (0 : Int32) dL_trolleys_96 (by decide)) ?_
        obtain ⟨v_, W97, k97, rfl, h97⟩ := (w_trolley hI.1 ht (k := 0) (by decide))
        have hwo := hw
        have hI := hI.tr h97
        have hw := hI.1.wf
        refine lf (a_inv (b2 := (0, 0)) k97 rfl dL_trolleys_97 yk_X10_trolley im_X10_trolley se_X10_trolley ml_L_160 rfl (co_0 hwo) (by decide) hc_X10 (by decide) (by decide) (Nat.le_of_ble_eq_true rfl)) ?_
        rw [show tyV q d t 0 = pF q 7 t from rfl]
        refine lfn (a_icmp_ne (tgt := 107) dL_trolleys_100 (by decide)) (fun h100 => absurd h100 (fun z => z heq)) (fun h100 => ?_)
        refine lf (a_iconst (1 : Int32) dL_trolleys_103 (by decide)) ?_
        refine lf (a_goto (tgt := 108) dL_trolleys_104 (by decide)) ?_
        refine lf (a_istore_n dL_trolleys_108 (by decide)) ?_
        refine lf (a_iincN dL_trolleys_109 rfl (by decide)) ?_
        refine lf (a_goto (tgt := 28) dL_trolleys_112 (by decide)) ?_
        have q9 := ih (m + 1) _ (by omega) hI
        rw [tS_s, tU_s] at q9
        exact lf (a_loc _ rfl) q9
theorem l_L_trolleys_115 {m : Nat} (hm : m < pT q) {Q : Oc → Wd → Prop} (kx : ∀ W, LwA p p0 q d H S N μ W → WP Y_L_trolleys R_L_trolleys (0, 0) W 6 [(0, .ref 0), (1, .int 1), (2, .int (tA q d (m + 1))), (3, .int (nI (m + 1)))] [] Q) {W : Wd} (hI : LwA p p0 q d H S N μ W) : WP Y_L_trolleys R_L_trolleys (0, 0) W 115 [(0, .ref 0), (1, .int 1), (2, .int (tA q d m)), (3, .int (nI m)), (4, .int (tS q d m (pM q))), (5, .int (tU d m (pM q))), (6, .int (nI (pM q)))] [] Q := by
  have hw := hI.1.wf
  have hwo := hw
  have hq := hI.1.gp
  have hg := hI.1.gd
  obtain ⟨e1, e2⟩ := trol_eq hq hg hm
  refine lf (a_iload_n dL_trolleys_115 rfl) ?_
  refine lf (a_iload dL_trolleys_116 rfl) ?_
  refine lf (a_iadd dL_trolleys_118) ?_
  refine lf (a_istore_n dL_trolleys_119 (by decide)) ?_
  refine lf (a_iload_n dL_trolleys_120 rfl) ?_
  refine lf2 (a_if_eq (tgt := 168) dL_trolleys_121 (by decide)) (fun h121 => absurd h121 (by decide)) (fun h121 => ?_)
  refine lf (a_aload_n dL_trolleys_124 rfl) ?_
  refine lf (a_iload_n dL_trolleys_125 rfl) ?_
  refine lf (a_iconst (2 : Int32) dL_trolleys_126 (by decide)) ?_
  obtain ⟨v_, W127, k127, rfl, h127⟩ := (w_trolley hI.1 hm (k := 2) (by decide))
  have hwo := hw
  have hI := hI.tr h127
  have hw := hI.1.wf
  refine lf (a_inv (b2 := (0, 0)) k127 rfl dL_trolleys_127 yk_X10_trolley im_X10_trolley se_X10_trolley ml_L_160 rfl (co_0 hwo) (by decide) hc_X10 (by decide) (by decide) (Nat.le_of_ble_eq_true rfl)) ?_
  rw [show tyV q d m 2 = fsD q d m from rfl]
  refine lf (a_aload_n dL_trolleys_130 rfl) ?_
  refine lf (a_iload_n dL_trolleys_131 rfl) ?_
  refine lf (a_iconst (1 : Int32) dL_trolleys_132 (by decide)) ?_
  obtain ⟨v_, W133, k133, rfl, h133⟩ := (w_trolley hI.1 hm (k := 1) (by decide))
  have hwo := hw
  have hI := hI.tr h133
  have hw := hI.1.wf
  refine lf (a_inv (b2 := (0, 0)) k133 rfl dL_trolleys_133 yk_X10_trolley im_X10_trolley se_X10_trolley ml_L_160 rfl (co_0 hwo) (by decide) hc_X10 (by decide) (by decide) (Nat.le_of_ble_eq_true rfl)) ?_
  rw [show tyV q d m 1 = pF q 8 m from rfl]
  refine lf (a_iload dL_trolleys_136 rfl) ?_
  refine lf (a_isub dL_trolleys_138) ?_
  refine lfn (a_icmp_ne (tgt := 168) dL_trolleys_139 (by decide)) (fun h139 => absurd h139 (fun z => z e1)) (fun h139 => ?_)
  refine lf (a_iload dL_trolleys_142 rfl) ?_
  refine lf (a_aload_n dL_trolleys_144 rfl) ?_
  refine lf (a_iload_n dL_trolleys_145 rfl) ?_
  refine lf (a_iconst (1 : Int32) dL_trolleys_146 (by decide)) ?_
  obtain ⟨v_, W147, k147, rfl, h147⟩ := (w_trolley hI.1 hm (k := 1) (by decide))
  have hwo := hw
  have hI := hI.tr h147
  have hw := hI.1.wf
  refine lf (a_inv (b2 := (0, 0)) k147 rfl dL_trolleys_147 yk_X10_trolley im_X10_trolley se_X10_trolley ml_L_160 rfl (co_0 hwo) (by decide) hc_X10 (by decide) (by decide) (Nat.le_of_ble_eq_true rfl)) ?_
  rw [show tyV q d m 1 = pF q 8 m from rfl]
  refine lf2 (a_icmp_gt (tgt := 168) dL_trolleys_150 (by decide)) (fun h150 => absurd h150 e2) (fun h150 => ?_)
  refine lf (a_aload_n dL_trolleys_153 rfl) ?_
  refine lf (a_iload_n dL_trolleys_154 rfl) ?_
  refine lf (a_iconst (3 : Int32) dL_trolleys_155 (by decide)) ?_
  obtain ⟨v_, W156, k156, rfl, h156⟩ := (w_trolley hI.1 hm (k := 3) (by decide))
  have hwo := hw
  have hI := hI.tr h156
  have hw := hI.1.wf
  refine lf (a_inv (b2 := (0, 0)) k156 rfl dL_trolleys_156 yk_X10_trolley im_X10_trolley se_X10_trolley ml_L_160 rfl (co_0 hwo) (by decide) hc_X10 (by decide) (by decide) (Nat.le_of_ble_eq_true rfl)) ?_
  rw [show tyV q d m 3 = uiD q d m from rfl]
  refine lf (a_iload dL_trolleys_159 rfl) ?_
  refine lfn (a_icmp_ne (tgt := 168) dL_trolleys_161 (by decide)) (fun h161 => absurd h161 (fun z => z rfl)) (fun h161 => ?_)
  refine lf (a_iconst (1 : Int32) dL_trolleys_164 (by decide)) ?_
  refine lf (a_goto (tgt := 169) dL_trolleys_165 (by decide)) ?_
  refine lf (a_istore_n dL_trolleys_169 (by decide)) ?_
  refine lf (a_iincN dL_trolleys_170 rfl (by decide)) ?_
  refine lf (a_goto (tgt := 6) dL_trolleys_173 (by decide)) ?_
  have q9 := kx _ hI
  rw [tA_s] at q9
  exact lf (a_loc _ rfl) q9
theorem l_L_trolleys_6  {Q : Oc → Wd → Prop} (kx : ∀ W, LwA p p0 q d H S N μ W → WP Y_L_trolleys R_L_trolleys (0, 0) W 176 [(0, .ref 0), (1, .int 1), (2, .int (tA q d (pT q))), (3, .int (nI (pT q)))] [] Q) : ∀ dd m (W : Wd), m + dd = pT q → LwA p p0 q d H S N μ W → WP Y_L_trolleys R_L_trolleys (0, 0) W 6 [(0, .ref 0), (1, .int 1), (2, .int (tA q d m)), (3, .int (nI m))] [] Q := by
  intro dd
  induction dd with
  | zero =>
    intro m W hm hI
    obtain rfl : pT q = m := by omega
    have hw := hI.1.wf
    have hwo := hw
    have hq := hI.1.gp
    have hg := hI.1.gd
    have hC4 := hq.C4
    have hM4 := hq.M4
    have hT4 := hq.T4
    have hAd := hI.1.2.2.1.2.1
    refine lf (a_iload_n dL_trolleys_6 rfl) ?_
    refine lf (a_aload_n dL_trolleys_7 rfl) ?_
    refine lf (a_iconst (4 : Int32) dL_trolleys_8 (by decide)) ?_
    obtain ⟨v_, W9, k9, rfl, h9⟩ := (w_count hI.1 (k := 4) (by decide))
    have hwo := hw
    have hI := hI.tr h9
    have hw := hI.1.wf
    refine lf (a_inv (b2 := (0, 0)) k9 rfl dL_trolleys_9 yk_X10_count im_X10_count se_X10_count ml_L_131 rfl (co_0 hwo) (by decide) hc_X10 (by decide) (by decide) (Nat.le_of_ble_eq_true rfl)) ?_
    rw [show cnV q d H.1 4 = nI (pT q) from rfl]
    refine lf2 (a_icmp_ge (tgt := 176) dL_trolleys_12 (by decide)) (fun h12 => ?_) (fun h12 => absurd h12 (fun z => z (nI_le (Nat.le_refl _) (by omega))))
    exact lf (a_loc _ rfl) (kx _ hI)
  | succ dd ih =>
    intro m W hm hI
    have hw := hI.1.wf
    have hwo := hw
    have hq := hI.1.gp
    have hg := hI.1.gd
    have hC4 := hq.C4
    have hM4 := hq.M4
    have hT4 := hq.T4
    have hAd := hI.1.2.2.1.2.1
    refine lf (a_iload_n dL_trolleys_6 rfl) ?_
    refine lf (a_aload_n dL_trolleys_7 rfl) ?_
    refine lf (a_iconst (4 : Int32) dL_trolleys_8 (by decide)) ?_
    obtain ⟨v_, W9, k9, rfl, h9⟩ := (w_count hI.1 (k := 4) (by decide))
    have hwo := hw
    have hI := hI.tr h9
    have hw := hI.1.wf
    refine lf (a_inv (b2 := (0, 0)) k9 rfl dL_trolleys_9 yk_X10_count im_X10_count se_X10_count ml_L_131 rfl (co_0 hwo) (by decide) hc_X10 (by decide) (by decide) (Nat.le_of_ble_eq_true rfl)) ?_
    rw [show cnV q d H.1 4 = nI (pT q) from rfl]
    refine lf2 (a_icmp_ge (tgt := 176) dL_trolleys_12 (by decide)) (fun h12 => absurd h12 (nI_ge (a := m) (b := pT q) (by omega) (by omega))) (fun h12 => ?_)
    refine lf (a_iload_n dL_trolleys_15 rfl) ?_
    refine lf2 (a_if_eq (tgt := 176) dL_trolleys_16 (by decide)) (fun h16 => absurd h16 (by decide)) (fun h16 => ?_)
    refine lf (a_iconst (0 : Int32) dL_trolleys_19 (by decide)) ?_
    refine lf (a_istore dL_trolleys_20 (by decide)) ?_
    refine lf (a_iconst (0 : Int32) dL_trolleys_22 (by decide)) ?_
    refine lf (a_istore dL_trolleys_23 (by decide)) ?_
    refine lf (a_iconst (0 : Int32) dL_trolleys_25 (by decide)) ?_
    refine lf (a_istore dL_trolleys_26 (by decide)) ?_
    refine lf (a_loc [(0, .ref 0), (1, .int 1), (2, .int (tA q d m)), (3, .int (nI m)), (4, .int (tS q d m 0)), (5, .int (tU d m 0)), (6, .int (nI 0))] rfl) (l_L_trolleys_28 (μ := W9) (t := m) (by omega) (fun V hV => ?_) (pM q) 0 _ (by omega) (LwA.rfl' hI.1))
    exact l_L_trolleys_115 (by omega) (fun V2 h2 => ih (m + 1) _ (by omega) h2) (hI.tr hV)
theorem t_L_trolleys (hI : LwV p p0 q d H S N μ) : CV Y_L_trolleys R_L_trolleys [.ref 0] μ (fun v V => v = some (.int 1) ∧ LwA p p0 q d H S N μ V) := by
  refine CV.ent yk_L_trolleys (Nat.le_of_ble_eq_true rfl) ?_
  have hw := hI.wf
  refine lf (a_iconst (1 : Int32) dL_trolleys_0 (by decide)) ?_
  refine lf (a_istore_n dL_trolleys_1 (by decide)) ?_
  refine lf (a_iconst (0 : Int32) dL_trolleys_2 (by decide)) ?_
  refine lf (a_istore_n dL_trolleys_3 (by decide)) ?_
  refine lf (a_iconst (0 : Int32) dL_trolleys_4 (by decide)) ?_
  refine lf (a_istore_n dL_trolleys_5 (by decide)) ?_
  refine lf (a_loc [(0, .ref 0), (1, .int 1), (2, .int (tA q d 0)), (3, .int (nI 0))] rfl) (l_L_trolleys_6 (fun W1 hI => ?_) (pT q) 0 μ (by omega) (LwA.rfl' hI))
  have hw := hI.1.wf
  have hwo := hw
  refine lf (a_iload_n dL_trolleys_176 rfl) ?_
  refine lf2 (a_if_eq (tgt := 194) dL_trolleys_177 (by decide)) (fun h177 => absurd h177 (by decide)) (fun h177 => ?_)
  refine lf (a_aload_n dL_trolleys_180 rfl) ?_
  refine lf (a_bipush (7 : Int32) dL_trolleys_181 (by decide)) ?_
  obtain ⟨v_, W183, k183, rfl, h183⟩ := (w_count hI.1 (k := 7) (by decide))
  have hwo := hw
  have hI := hI.tr h183
  have hw := hI.1.wf
  refine lf (a_inv (b2 := (0, 0)) k183 rfl dL_trolleys_183 yk_X10_count im_X10_count se_X10_count ml_L_131 rfl (co_0 hwo) (by decide) hc_X10 (by decide) (by decide) (Nat.le_of_ble_eq_true rfl)) ?_
  rw [show cnV q d H.1 7 = tA q d (pT q) from rfl]
  refine lf (a_iload_n dL_trolleys_186 rfl) ?_
  refine lfn (a_icmp_ne (tgt := 194) dL_trolleys_187 (by decide)) (fun h187 => absurd h187 (fun z => z rfl)) (fun h187 => ?_)
  refine lf (a_iconst (1 : Int32) dL_trolleys_190 (by decide)) ?_
  refine lf (a_goto (tgt := 195) dL_trolleys_191 (by decide)) ?_
  refine ⟨_, _, (a_ireturn dL_trolleys_195 rfl rfl), ?_⟩
  exact ⟨_, rfl, rfl, hI⟩
end TROL
