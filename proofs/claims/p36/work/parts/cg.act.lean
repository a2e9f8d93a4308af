section ACT
variable {μ : Wd} {p p0 N : Nat} {q : PDt} {d : FDt} {H : Hst} {S : Nat → Option FDt} {W V : Wd} {d2 : FDt}
theorem LwV.nx (h : LwV p p0 q d H S N μ) (ho : Out s338 μ W) : LwV p p0 q d H S N W := by
  obtain ⟨h1, h2, h3, h4, h5, h6⟩ := h.1
  have e0 : ¬ s338 0 := by decide
  refine ⟨⟨ho.1, h2.out ho (fun i a b y => ?_), h3.out ho (fun i a b y => by have y : i = 338 := y; omega), h4.out ho (fun i y => by have y : i = 338 := y; omega), h5.out ho (fun i y => by have y : i = 338 := y; omega), h6.out ho (fun i a b y => by have y : i = 338 := y; omega) (ho.i e0 17)⟩, h.2.1, h.2.2.1, h.2.2.2.1, ⟨(ho.r e0 9).trans h.2.2.2.2.1.1, h.2.2.2.2.1.2⟩, (ho.i e0 1).trans h.2.2.2.2.2⟩
  have y : i = 338 := y
  rcases h2.pl with e | e <;> omega
/-- the law's state, no new cells since μ -/
def LwN (p p0 : Nat) (q : PDt) (d : FDt) (H : Hst) (S : Nat → Option FDt) (N : Nat) (μ V : Wd) : Prop := LwV p p0 q d H S N V ∧ wn V = wn μ ∧ gX V = gX μ
theorem LwN.rfl' (h : LwV p p0 q d H S N μ) : LwN p p0 q d H S N μ μ := ⟨h, rfl, rfl⟩
theorem LwN.tr (h : LwN p p0 q d H S N μ W) (a : LwA p p0 q d H S N W V) : LwN p p0 q d H S N μ V := ⟨a.1, a.2.2.1.trans h.2.1, a.2.2.2.2.1.trans h.2.2⟩
theorem w_next (h : LwN p p0 q d H S N μ W) : CV Y_L_next R_L_next [.ref 338] W (fun v V => ∃ n, n < 8388608 ∧ v = some (.int (nI n)) ∧ LwN p p0 q d H S N μ V) := by
  obtain ⟨v, V, hc, n, hn, e, ho⟩ := t_L_next h.1.wf
  exact ⟨v, V, hc, n, hn, e, h.1.nx ho, ho.2.1.trans h.2.1, ho.2.2.2.1.trans h.2.2⟩
/-- what an act leaves: done or not -/
def ActX (p p0 : Nat) (q : PDt) (d : FDt) (H : Hst) (S : Nat → Option FDt) (N : Nat) (μ : Wd) (v : Option Value) (V : Wd) : Prop :=
  (wn V = wn μ ∧ gX V = gX μ) ∧ ((v = some (.int 1) ∧ ∃ d2, LwV p p0 q d2 (pushH H d) S N V ∧ goD q d2 ∧ dA d2 = dA d) ∨ (v = some (.int 0) ∧ LwV p p0 q d H S N V))
theorem ActX.n (h : LwN p p0 q d H S N μ W) : ActX p p0 q d H S N μ (some (.int 0)) W := ⟨h.2, Or.inr ⟨rfl, h.1⟩⟩
theorem ActX.f {x : Int32} (h : LwN p p0 q d H S N μ W) (hO : Out sAct W V) (hA : (0 ≤ x ∧ ∃ d2, LwV p p0 q d2 (pushH H d) S N V ∧ goD q d2 ∧ dA d2 = dA d) ∨ (x < 0 ∧ LwV p p0 q d H S N V)) (hx : x < 0) : ActX p p0 q d H S N μ (some (.int 0)) V :=
  ⟨⟨hO.2.1.trans h.2.1, hO.2.2.2.1.trans h.2.2⟩, Or.inr ⟨rfl, hA.elim (fun z => absurd hx (Int32.not_lt.mpr z.1)) (fun z => z.2)⟩⟩
theorem ActX.t {x : Int32} (h : LwN p p0 q d H S N μ W) (hO : Out sAct W V) (hA : (0 ≤ x ∧ ∃ d2, LwV p p0 q d2 (pushH H d) S N V ∧ goD q d2 ∧ dA d2 = dA d) ∨ (x < 0 ∧ LwV p p0 q d H S N V)) (hx : ¬ x < 0) : ActX p p0 q d H S N μ (some (.int 1)) V :=
  ⟨⟨hO.2.1.trans h.2.1, hO.2.2.2.1.trans h.2.2⟩, Or.inl ⟨rfl, hA.elim (fun z => z.2) (fun z => absurd z.1 hx)⟩⟩
abbrev R_L_act : Room := { frames := 24, cells := 1, slots := 6, locals := 800 }
theorem t_L_act (hI0 : LwV p p0 q d H S N μ) (hgo : goD q d) : CV Y_L_act R_L_act [.ref 0, .ref 338] μ (ActX p p0 q d H S N μ) := by
  refine CV.ent yk_L_act (Nat.le_of_ble_eq_true rfl) ?_
  have hI := LwN.rfl' hI0
  have hw := hI.1.wf
  have hwo := hw
  have hC2 : pC q = 2 := hI0.2.1.2.1
  obtain ⟨hM0, hM7⟩ := hI0.2.1.2.2.2.1
  have hM0 : 0 < pM q := by omega
  have hP4 := hI0.gd.P4
  refine lf (a_aload_n dL_act_0 rfl) ?_
  obtain ⟨v_, W1, k1, n1, hn1, rfl, hI⟩ := w_next hI
  refine lf (a_invS (b2 := (1, 6)) k1 rfl dL_act_1 yk_L_next sm_L_next ml_L_39 rfl (by decide) (by decide) (Nat.le_of_ble_eq_true rfl)) ?_
  have hwo := hw
  have hw := hI.1.wf
  refine lf (a_aload_n dL_act_4 rfl) ?_
  refine lf (a_iconst (2 : Int32) dL_act_5 (by decide)) ?_
  obtain ⟨v_, W6, k6, rfl, h6⟩ := (w_count hI.1 (k := 2) (by decide))
  have hwo := hw
  have hI := hI.tr h6
  have hw := hI.1.wf
  refine lf (a_inv (b2 := (1, 6)) k6 rfl dL_act_6 yk_X10_count im_X10_count se_X10_count ml_L_131 rfl (co_0 hwo) (by decide) hc_X10 (by decide) (by decide) (Nat.le_of_ble_eq_true rfl)) ?_
  rw [show cnV q d H.1 2 = nI (pM q) from rfl]
  refine lf (a_irem dL_act_9 (fun z => by have := (nI_eqI (a := pM q) (b := 0) (by omega) (by decide)).mp z; omega)) ?_
  rw [show nI n1 - nI n1 / nI (pM q) * nI (pM q) = nI (n1 % pM q) from pk_rem (by omega) hM0 (by omega)]
  have hm : n1 % pM q < pM q := Nat.mod_lt _ hM0
  refine lf (a_istore_n dL_act_10 (by decide)) ?_
  refine lf (a_aload_n dL_act_11 rfl) ?_
  refine lf (a_iconst (3 : Int32) dL_act_12 (by decide)) ?_
  obtain ⟨v_, W13, k13, rfl, h13⟩ := (w_count hI.1 (k := 3) (by decide))
  have hwo := hw
  have hI := hI.tr h13
  have hw := hI.1.wf
  refine lf (a_inv (b2 := (1, 6)) k13 rfl dL_act_13 yk_X10_count im_X10_count se_X10_count ml_L_131 rfl (co_0 hwo) (by decide) hc_X10 (by decide) (by decide) (Nat.le_of_ble_eq_true rfl)) ?_
  rw [show cnV q d H.1 3 = nI (dP d) from rfl]
  refine lf (a_istore_n dL_act_16 (by decide)) ?_
  refine lf (a_aload_n dL_act_17 rfl) ?_
  obtain ⟨v_, W18, k18, n18, hn18, rfl, hI⟩ := w_next hI
  refine lf (a_invS (b2 := (1, 6)) k18 rfl dL_act_18 yk_L_next sm_L_next ml_L_39 rfl (by decide) (by decide) (Nat.le_of_ble_eq_true rfl)) ?_
  have hwo := hw
  have hw := hI.1.wf
  refine lf (a_bipush (9 : Int32) dL_act_21 (by decide)) ?_
  refine lf (a_irem dL_act_23 (by decide)) ?_
  rw [show nI n18 - nI n18 / 9 * 9 = nI (n18 % 9) from pk_rem (d := 9) (by omega) (by decide) (by decide)]
  rcases (by omega : n18 % 9 = 0 ∨ n18 % 9 = 1 ∨ n18 % 9 = 2 ∨ n18 % 9 = 3 ∨ n18 % 9 = 4 ∨ n18 % 9 = 5 ∨ n18 % 9 = 6 ∨ n18 % 9 = 7 ∨ n18 % 9 = 8) with e18 | e18 | e18 | e18 | e18 | e18 | e18 | e18 | e18
  · rw [e18, show nI 0 = (0 : Int32) from rfl]
    refine lf (a_tsIn (tgt := 72) dL_act_24 (by decide) (by decide) rfl (by decide)) ?_
    refine lf (a_aload_n dL_act_72 rfl) ?_
    refine lf (a_aload_n dL_act_73 rfl) ?_
    obtain ⟨v_, W74, k74, n74, hn74, rfl, hI⟩ := w_next hI
    refine lf (a_invS (b2 := (1, 6)) k74 rfl dL_act_74 yk_L_next sm_L_next ml_L_39 rfl (by decide) (by decide) (Nat.le_of_ble_eq_true rfl)) ?_
    have hwo := hw
    have hw := hI.1.wf
    refine lf (a_iconst (2 : Int32) dL_act_77 (by decide)) ?_
    refine lf (a_irem dL_act_78 (by decide)) ?_
    rw [show nI n74 - nI n74 / 2 * 2 = nI (n74 % 2) from pk_rem (d := 2) (by omega) (by decide) (by decide)]
    refine lf (a_aload_n dL_act_79 rfl) ?_
    obtain ⟨v_, W80, k80, n80, hn80, rfl, hI⟩ := w_next hI
    refine lf (a_invS (b2 := (1, 6)) k80 rfl dL_act_80 yk_L_next sm_L_next ml_L_39 rfl (by decide) (by decide) (Nat.le_of_ble_eq_true rfl)) ?_
    have hwo := hw
    have hw := hI.1.wf
    refine lf (a_iconst (3 : Int32) dL_act_83 (by decide)) ?_
    refine lf (a_irem dL_act_84 (by decide)) ?_
    rw [show nI n80 - nI n80 / 3 * 3 = nI (n80 % 3) from pk_rem (d := 3) (by omega) (by decide) (by decide)]
    refine lfn (a_if_ne (tgt := 100) dL_act_85 (by decide)) (fun h85 => ?_) (fun h85 => ?_)
    · have hnd : 0 < 256 := by decide
      refine lf (a_iconst (0 : Int32) dL_act_100 (by decide)) ?_
      refine lf (a_aload_n dL_act_101 rfl) ?_
      obtain ⟨v_, W102, k102, n102, hn102, rfl, hI⟩ := w_next hI
      refine lf (a_invS (b2 := (1, 6)) k102 rfl dL_act_102 yk_L_next sm_L_next ml_L_39 rfl (by decide) (by decide) (Nat.le_of_ble_eq_true rfl)) ?_
      have hwo := hw
      have hw := hI.1.wf
      refine lf (a_iconst (2 : Int32) dL_act_105 (by decide)) ?_
      refine lf (a_irem dL_act_106 (by decide)) ?_
      rw [show nI n102 - nI n102 / 2 * 2 = nI (n102 % 2) from pk_rem (d := 2) (by omega) (by decide) (by decide)]
      refine lfn (a_if_ne (tgt := 114) dL_act_107 (by decide)) (fun h107 => ?_) (fun h107 => ?_)
      · have hx9 : nI (n1 % pM q) = -1 ∨ ∃ m, m < pM q ∧ nI (n1 % pM q) = nI m := Or.inr ⟨_, hm, rfl⟩
        refine lf (a_iload_n dL_act_114 rfl) ?_
        obtain ⟨v_, W115, k115, x9, rfl, hO9, hA9⟩ := w_boarded hI.1 hgo (c := n74 % 2) (by omega) hnd hx9
        refine lf (a_invSH (b2 := (0, 0)) k115 rfl dL_act_115 yh_L_boarded sm_L_boarded ml_L_209 rfl (by decide) (by decide) (Nat.le_of_ble_eq_true rfl)) ?_
        refine lf2 (a_if_lt (tgt := 125) dL_act_118 (by decide)) (fun h118 => ?_) (fun h118 => ?_)
        · refine lf (a_iconst (0 : Int32) dL_act_125 (by decide)) ?_
          refine ⟨_, _, (a_ireturn dL_act_126 rfl rfl), ?_⟩
          exact ⟨_, rfl, by first | exact ActX.n hI | exact ActX.f hI hO9 hA9 (by assumption) | exact ActX.t hI hO9 hA9 (by assumption) | exact ActX.t hI hO9 hA9 (Int32.not_lt.mpr (nI_ge0 (by omega)))⟩
        · refine lf (a_iconst (1 : Int32) dL_act_121 (by decide)) ?_
          refine lf (a_goto (tgt := 126) dL_act_122 (by decide)) ?_
          refine ⟨_, _, (a_ireturn dL_act_126 rfl rfl), ?_⟩
          exact ⟨_, rfl, by first | exact ActX.n hI | exact ActX.f hI hO9 hA9 (by assumption) | exact ActX.t hI hO9 hA9 (by assumption) | exact ActX.t hI hO9 hA9 (Int32.not_lt.mpr (nI_ge0 (by omega)))⟩
      · have hx9 : (-1 : Int32) = -1 ∨ ∃ m, m < pM q ∧ (-1 : Int32) = nI m := Or.inl rfl
        refine lf (a_iconst (-1 : Int32) dL_act_110 (by decide)) ?_
        refine lf (a_goto (tgt := 115) dL_act_111 (by decide)) ?_
        obtain ⟨v_, W115, k115, x9, rfl, hO9, hA9⟩ := w_boarded hI.1 hgo (c := n74 % 2) (by omega) hnd hx9
        refine lf (a_invSH (b2 := (0, 0)) k115 rfl dL_act_115 yh_L_boarded sm_L_boarded ml_L_209 rfl (by decide) (by decide) (Nat.le_of_ble_eq_true rfl)) ?_
        refine lf2 (a_if_lt (tgt := 125) dL_act_118 (by decide)) (fun h118 => ?_) (fun h118 => ?_)
        · refine lf (a_iconst (0 : Int32) dL_act_125 (by decide)) ?_
          refine ⟨_, _, (a_ireturn dL_act_126 rfl rfl), ?_⟩
          exact ⟨_, rfl, by first | exact ActX.n hI | exact ActX.f hI hO9 hA9 (by assumption) | exact ActX.t hI hO9 hA9 (by assumption) | exact ActX.t hI hO9 hA9 (Int32.not_lt.mpr (nI_ge0 (by omega)))⟩
        · refine lf (a_iconst (1 : Int32) dL_act_121 (by decide)) ?_
          refine lf (a_goto (tgt := 126) dL_act_122 (by decide)) ?_
          refine ⟨_, _, (a_ireturn dL_act_126 rfl rfl), ?_⟩
          exact ⟨_, rfl, by first | exact ActX.n hI | exact ActX.f hI hO9 hA9 (by assumption) | exact ActX.t hI hO9 hA9 (by assumption) | exact ActX.t hI hO9 hA9 (Int32.not_lt.mpr (nI_ge0 (by omega)))⟩
    · refine lf (a_iconst (1 : Int32) dL_act_88 (by decide)) ?_
      refine lf (a_aload_n dL_act_89 rfl) ?_
      obtain ⟨v_, W90, k90, n90, hn90, rfl, hI⟩ := w_next hI
      refine lf (a_invS (b2 := (1, 6)) k90 rfl dL_act_90 yk_L_next sm_L_next ml_L_39 rfl (by decide) (by decide) (Nat.le_of_ble_eq_true rfl)) ?_
      have hwo := hw
      have hw := hI.1.wf
      have hnd : 1 + n90 % 7 < 256 := by omega
      refine lf (a_bipush (7 : Int32) dL_act_93 (by decide)) ?_
      refine lf (a_irem dL_act_95 (by decide)) ?_
      rw [show nI n90 - nI n90 / 7 * 7 = nI (n90 % 7) from pk_rem (d := 7) (by omega) (by decide) (by decide)]
      refine lf (a_iadd dL_act_96) ?_
      rw [show (1 : Int32) + nI (n90 % 7) = nI (1 + n90 % 7) from nI_add 1 (n90 % 7)]
      refine lf (a_goto (tgt := 101) dL_act_97 (by decide)) ?_
      refine lf (a_aload_n dL_act_101 rfl) ?_
      obtain ⟨v_, W102, k102, n102, hn102, rfl, hI⟩ := w_next hI
      refine lf (a_invS (b2 := (1, 6)) k102 rfl dL_act_102 yk_L_next sm_L_next ml_L_39 rfl (by decide) (by decide) (Nat.le_of_ble_eq_true rfl)) ?_
      have hwo := hw
      have hw := hI.1.wf
      refine lf (a_iconst (2 : Int32) dL_act_105 (by decide)) ?_
      refine lf (a_irem dL_act_106 (by decide)) ?_
      rw [show nI n102 - nI n102 / 2 * 2 = nI (n102 % 2) from pk_rem (d := 2) (by omega) (by decide) (by decide)]
      refine lfn (a_if_ne (tgt := 114) dL_act_107 (by decide)) (fun h107 => ?_) (fun h107 => ?_)
      · have hx9 : nI (n1 % pM q) = -1 ∨ ∃ m, m < pM q ∧ nI (n1 % pM q) = nI m := Or.inr ⟨_, hm, rfl⟩
        refine lf (a_iload_n dL_act_114 rfl) ?_
        obtain ⟨v_, W115, k115, x9, rfl, hO9, hA9⟩ := w_boarded hI.1 hgo (c := n74 % 2) (by omega) hnd hx9
        refine lf (a_invSH (b2 := (0, 0)) k115 rfl dL_act_115 yh_L_boarded sm_L_boarded ml_L_209 rfl (by decide) (by decide) (Nat.le_of_ble_eq_true rfl)) ?_
        refine lf2 (a_if_lt (tgt := 125) dL_act_118 (by decide)) (fun h118 => ?_) (fun h118 => ?_)
        · refine lf (a_iconst (0 : Int32) dL_act_125 (by decide)) ?_
          refine ⟨_, _, (a_ireturn dL_act_126 rfl rfl), ?_⟩
          exact ⟨_, rfl, by first | exact ActX.n hI | exact ActX.f hI hO9 hA9 (by assumption) | exact ActX.t hI hO9 hA9 (by assumption) | exact ActX.t hI hO9 hA9 (Int32.not_lt.mpr (nI_ge0 (by omega)))⟩
        · refine lf (a_iconst (1 : Int32) dL_act_121 (by decide)) ?_
          refine lf (a_goto (tgt := 126) dL_act_122 (by decide)) ?_
          refine ⟨_, _, (a_ireturn dL_act_126 rfl rfl), ?_⟩
          exact ⟨_, rfl, by first | exact ActX.n hI | exact ActX.f hI hO9 hA9 (by assumption) | exact ActX.t hI hO9 hA9 (by assumption) | exact ActX.t hI hO9 hA9 (Int32.not_lt.mpr (nI_ge0 (by omega)))⟩
      · have hx9 : (-1 : Int32) = -1 ∨ ∃ m, m < pM q ∧ (-1 : Int32) = nI m := Or.inl rfl
        refine lf (a_iconst (-1 : Int32) dL_act_110 (by decide)) ?_
        refine lf (a_goto (tgt := 115) dL_act_111 (by decide)) ?_
        obtain ⟨v_, W115, k115, x9, rfl, hO9, hA9⟩ := w_boarded hI.1 hgo (c := n74 % 2) (by omega) hnd hx9
        refine lf (a_invSH (b2 := (0, 0)) k115 rfl dL_act_115 yh_L_boarded sm_L_boarded ml_L_209 rfl (by decide) (by decide) (Nat.le_of_ble_eq_true rfl)) ?_
        refine lf2 (a_if_lt (tgt := 125) dL_act_118 (by decide)) (fun h118 => ?_) (fun h118 => ?_)
        · refine lf (a_iconst (0 : Int32) dL_act_125 (by decide)) ?_
          refine ⟨_, _, (a_ireturn dL_act_126 rfl rfl), ?_⟩
          exact ⟨_, rfl, by first | exact ActX.n hI | exact ActX.f hI hO9 hA9 (by assumption) | exact ActX.t hI hO9 hA9 (by assumption) | exact ActX.t hI hO9 hA9 (Int32.not_lt.mpr (nI_ge0 (by omega)))⟩
        · refine lf (a_iconst (1 : Int32) dL_act_121 (by decide)) ?_
          refine lf (a_goto (tgt := 126) dL_act_122 (by decide)) ?_
          refine ⟨_, _, (a_ireturn dL_act_126 rfl rfl), ?_⟩
          exact ⟨_, rfl, by first | exact ActX.n hI | exact ActX.f hI hO9 hA9 (by assumption) | exact ActX.t hI hO9 hA9 (by assumption) | exact ActX.t hI hO9 hA9 (Int32.not_lt.mpr (nI_ge0 (by omega)))⟩
  · rw [e18, show nI 1 = (1 : Int32) from rfl]
    refine lf (a_tsIn (tgt := 127) dL_act_24 (by decide) (by decide) rfl (by decide)) ?_
    refine lf (a_iload_n dL_act_127 rfl) ?_
    refine lf2 (a_if_le (tgt := 154) dL_act_128 (by decide)) (fun h128 => ?_) (fun h128 => ?_)
    · refine lf (a_iconst (0 : Int32) dL_act_154 (by decide)) ?_
      refine ⟨_, _, (a_ireturn dL_act_155 rfl rfl), ?_⟩
      exact ⟨_, rfl, by first | exact ActX.n hI | exact ActX.f hI hO9 hA9 (by assumption) | exact ActX.t hI hO9 hA9 (by assumption) | exact ActX.t hI hO9 hA9 (Int32.not_lt.mpr (nI_ge0 (by omega)))⟩
    · have hP0 : 0 < dP d := Nat.pos_of_ne_zero fun z => h128 (by rw [z]; exact Int32.le_refl _)
      refine lf (a_aload_n dL_act_131 rfl) ?_
      refine lf (a_aload_n dL_act_132 rfl) ?_
      obtain ⟨v_, W133, k133, n133, hn133, rfl, hI⟩ := w_next hI
      refine lf (a_invS (b2 := (1, 6)) k133 rfl dL_act_133 yk_L_next sm_L_next ml_L_39 rfl (by decide) (by decide) (Nat.le_of_ble_eq_true rfl)) ?_
      have hwo := hw
      have hw := hI.1.wf
      refine lf (a_iload_n dL_act_136 rfl) ?_
      refine lf (a_irem dL_act_137 (fun z => by have := (nI_eqI (a := dP d) (b := 0) (by omega) (by decide)).mp z; omega)) ?_
      rw [show nI n133 - nI n133 / nI (dP d) * nI (dP d) = nI (n133 % dP d) from pk_rem (by omega) hP0 (by omega)]
      have hrn133 : n133 % dP d < dP d := Nat.mod_lt _ hP0
      refine lf (a_aload_n dL_act_138 rfl) ?_
      obtain ⟨v_, W139, k139, n139, hn139, rfl, hI⟩ := w_next hI
      refine lf (a_invS (b2 := (1, 6)) k139 rfl dL_act_139 yk_L_next sm_L_next ml_L_39 rfl (by decide) (by decide) (Nat.le_of_ble_eq_true rfl)) ?_
      have hwo := hw
      have hw := hI.1.wf
      refine lf (a_iconst (2 : Int32) dL_act_142 (by decide)) ?_
      refine lf (a_irem dL_act_143 (by decide)) ?_
      rw [show nI n139 - nI n139 / 2 * 2 = nI (n139 % 2) from pk_rem (d := 2) (by omega) (by decide) (by decide)]
      obtain ⟨v_, W144, k144, x9, rfl, hO9, hA9⟩ := w_changed hI.1 hgo (i := n133 % dP d) (c := n139 % 2) hrn133 (by omega)
      refine lf (a_invSH (b2 := (0, 0)) k144 rfl dL_act_144 yh_L_changed sm_L_changed ml_L_213 rfl (by decide) (by decide) (Nat.le_of_ble_eq_true rfl)) ?_
      refine lf2 (a_if_lt (tgt := 154) dL_act_147 (by decide)) (fun h147 => ?_) (fun h147 => ?_)
      · refine lf (a_iconst (0 : Int32) dL_act_154 (by decide)) ?_
        refine ⟨_, _, (a_ireturn dL_act_155 rfl rfl), ?_⟩
        exact ⟨_, rfl, by first | exact ActX.n hI | exact ActX.f hI hO9 hA9 (by assumption) | exact ActX.t hI hO9 hA9 (by assumption) | exact ActX.t hI hO9 hA9 (Int32.not_lt.mpr (nI_ge0 (by omega)))⟩
      · refine lf (a_iconst (1 : Int32) dL_act_150 (by decide)) ?_
        refine lf (a_goto (tgt := 155) dL_act_151 (by decide)) ?_
        refine ⟨_, _, (a_ireturn dL_act_155 rfl rfl), ?_⟩
        exact ⟨_, rfl, by first | exact ActX.n hI | exact ActX.f hI hO9 hA9 (by assumption) | exact ActX.t hI hO9 hA9 (by assumption) | exact ActX.t hI hO9 hA9 (Int32.not_lt.mpr (nI_ge0 (by omega)))⟩
  · rw [e18, show nI 2 = (2 : Int32) from rfl]
    refine lf (a_tsIn (tgt := 156) dL_act_24 (by decide) (by decide) rfl (by decide)) ?_
    refine lf (a_iload_n dL_act_156 rfl) ?_
    refine lf2 (a_if_le (tgt := 180) dL_act_157 (by decide)) (fun h157 => ?_) (fun h157 => ?_)
    · refine lf (a_iconst (0 : Int32) dL_act_180 (by decide)) ?_
      refine ⟨_, _, (a_ireturn dL_act_181 rfl rfl), ?_⟩
      exact ⟨_, rfl, by first | exact ActX.n hI | exact ActX.f hI hO9 hA9 (by assumption) | exact ActX.t hI hO9 hA9 (by assumption) | exact ActX.t hI hO9 hA9 (Int32.not_lt.mpr (nI_ge0 (by omega)))⟩
    · have hP0 : 0 < dP d := Nat.pos_of_ne_zero fun z => h157 (by rw [z]; exact Int32.le_refl _)
      refine lf (a_aload_n dL_act_160 rfl) ?_
      refine lf (a_aload_n dL_act_161 rfl) ?_
      obtain ⟨v_, W162, k162, n162, hn162, rfl, hI⟩ := w_next hI
      refine lf (a_invS (b2 := (1, 6)) k162 rfl dL_act_162 yk_L_next sm_L_next ml_L_39 rfl (by decide) (by decide) (Nat.le_of_ble_eq_true rfl)) ?_
      have hwo := hw
      have hw := hI.1.wf
      refine lf (a_iload_n dL_act_165 rfl) ?_
      refine lf (a_irem dL_act_166 (fun z => by have := (nI_eqI (a := dP d) (b := 0) (by omega) (by decide)).mp z; omega)) ?_
      rw [show nI n162 - nI n162 / nI (dP d) * nI (dP d) = nI (n162 % dP d) from pk_rem (by omega) hP0 (by omega)]
      have hrn162 : n162 % dP d < dP d := Nat.mod_lt _ hP0
      obtain ⟨v_, W167, k167, rfl, x9, hx9, hO9, hA9⟩ := w_leave hI.1 hgo (i := n162 % dP d) hrn162
      obtain rfl : nI (dP d - 1) = x9 := by injection hx9 with z; injection z
      refine lf (a_inv (b2 := (1, 6)) k167 rfl dL_act_167 yk_X10_leave im_X10_leave se_X10_leave ml_L_217 rfl (co_0 hw) (by decide) hc_X10 (by decide) (by decide) (Nat.le_of_ble_eq_true rfl)) ?_
      refine lf (a_iload_n dL_act_170 rfl) ?_
      refine lf (a_iconst (1 : Int32) dL_act_171 (by decide)) ?_
      refine lf (a_isub dL_act_172) ?_
      rw [show nI (dP d) - (1 : Int32) = nI (dP d - 1) from nI_subI (b := 1) (by omega)]
      refine lfn (a_icmp_ne (tgt := 180) dL_act_173 (by decide)) (fun h173 => absurd h173 (fun z => z rfl)) (fun h173 => ?_)
      refine lf (a_iconst (1 : Int32) dL_act_176 (by decide)) ?_
      refine lf (a_goto (tgt := 181) dL_act_177 (by decide)) ?_
      refine ⟨_, _, (a_ireturn dL_act_181 rfl rfl), ?_⟩
      exact ⟨_, rfl, by first | exact ActX.n hI | exact ActX.f hI hO9 hA9 (by assumption) | exact ActX.t hI hO9 hA9 (by assumption) | exact ActX.t hI hO9 hA9 (Int32.not_lt.mpr (nI_ge0 (by omega)))⟩
  · rw [e18, show nI 3 = (3 : Int32) from rfl]
    refine lf (a_tsIn (tgt := 182) dL_act_24 (by decide) (by decide) rfl (by decide)) ?_
    refine lf (a_iload_n dL_act_182 rfl) ?_
    refine lf2 (a_if_le (tgt := 210) dL_act_183 (by decide)) (fun h183 => ?_) (fun h183 => ?_)
    · refine lf (a_iconst (0 : Int32) dL_act_210 (by decide)) ?_
      refine ⟨_, _, (a_ireturn dL_act_211 rfl rfl), ?_⟩
      exact ⟨_, rfl, by first | exact ActX.n hI | exact ActX.f hI hO9 hA9 (by assumption) | exact ActX.t hI hO9 hA9 (by assumption) | exact ActX.t hI hO9 hA9 (Int32.not_lt.mpr (nI_ge0 (by omega)))⟩
    · have hP0 : 0 < dP d := Nat.pos_of_ne_zero fun z => h183 (by rw [z]; exact Int32.le_refl _)
      refine lf (a_aload_n dL_act_186 rfl) ?_
      refine lf (a_aload_n dL_act_187 rfl) ?_
      obtain ⟨v_, W188, k188, n188, hn188, rfl, hI⟩ := w_next hI
      refine lf (a_invS (b2 := (1, 6)) k188 rfl dL_act_188 yk_L_next sm_L_next ml_L_39 rfl (by decide) (by decide) (Nat.le_of_ble_eq_true rfl)) ?_
      have hwo := hw
      have hw := hI.1.wf
      refine lf (a_iload_n dL_act_191 rfl) ?_
      refine lf (a_irem dL_act_192 (fun z => by have := (nI_eqI (a := dP d) (b := 0) (by omega) (by decide)).mp z; omega)) ?_
      rw [show nI n188 - nI n188 / nI (dP d) * nI (dP d) = nI (n188 % dP d) from pk_rem (by omega) hP0 (by omega)]
      have hrn188 : n188 % dP d < dP d := Nat.mod_lt _ hP0
      refine lf (a_aload_n dL_act_193 rfl) ?_
      obtain ⟨v_, W194, k194, n194, hn194, rfl, hI⟩ := w_next hI
      refine lf (a_invS (b2 := (1, 6)) k194 rfl dL_act_194 yk_L_next sm_L_next ml_L_39 rfl (by decide) (by decide) (Nat.le_of_ble_eq_true rfl)) ?_
      have hwo := hw
      have hw := hI.1.wf
      refine lf (a_bipush (8 : Int32) dL_act_197 (by decide)) ?_
      refine lf (a_irem dL_act_199 (by decide)) ?_
      rw [show nI n194 - nI n194 / 8 * 8 = nI (n194 % 8) from pk_rem (d := 8) (by omega) (by decide) (by decide)]
      obtain ⟨v_, W200, k200, x9, rfl, hO9, hA9⟩ := w_setNeeds hI.1 hgo (i := n188 % dP d) (n := n194 % 8) hrn188 (by omega)
      refine lf (a_inv (b2 := (1, 6)) k200 rfl dL_act_200 yk_X10_setNeeds im_X10_setNeeds se_X10_setNeeds ml_L_220 rfl (co_0 hw) (by decide) hc_X10 (by decide) (by decide) (Nat.le_of_ble_eq_true rfl)) ?_
      refine lf2 (a_if_lt (tgt := 210) dL_act_203 (by decide)) (fun h203 => ?_) (fun h203 => ?_)
      · refine lf (a_iconst (0 : Int32) dL_act_210 (by decide)) ?_
        refine ⟨_, _, (a_ireturn dL_act_211 rfl rfl), ?_⟩
        exact ⟨_, rfl, by first | exact ActX.n hI | exact ActX.f hI hO9 hA9 (by assumption) | exact ActX.t hI hO9 hA9 (by assumption) | exact ActX.t hI hO9 hA9 (Int32.not_lt.mpr (nI_ge0 (by omega)))⟩
      · refine lf (a_iconst (1 : Int32) dL_act_206 (by decide)) ?_
        refine lf (a_goto (tgt := 211) dL_act_207 (by decide)) ?_
        refine ⟨_, _, (a_ireturn dL_act_211 rfl rfl), ?_⟩
        exact ⟨_, rfl, by first | exact ActX.n hI | exact ActX.f hI hO9 hA9 (by assumption) | exact ActX.t hI hO9 hA9 (by assumption) | exact ActX.t hI hO9 hA9 (Int32.not_lt.mpr (nI_ge0 (by omega)))⟩
  · rw [e18, show nI 4 = (4 : Int32) from rfl]
    refine lf (a_tsIn (tgt := 212) dL_act_24 (by decide) (by decide) rfl (by decide)) ?_
    refine lf (a_aload_n dL_act_212 rfl) ?_
    obtain ⟨v_, W213, k213, x9, rfl, hO9, hA9⟩ := w_ordered hI.1 hgo 
    refine lf (a_invSH (b2 := (0, 0)) k213 rfl dL_act_213 yh_L_ordered sm_L_ordered ml_L_223 rfl (by decide) (by decide) (Nat.le_of_ble_eq_true rfl)) ?_
    refine lf2 (a_if_lt (tgt := 223) dL_act_216 (by decide)) (fun h216 => ?_) (fun h216 => ?_)
    · refine lf (a_iconst (0 : Int32) dL_act_223 (by decide)) ?_
      refine ⟨_, _, (a_ireturn dL_act_224 rfl rfl), ?_⟩
      exact ⟨_, rfl, by first | exact ActX.n hI | exact ActX.f hI hO9 hA9 (by assumption) | exact ActX.t hI hO9 hA9 (by assumption) | exact ActX.t hI hO9 hA9 (Int32.not_lt.mpr (nI_ge0 (by omega)))⟩
    · refine lf (a_iconst (1 : Int32) dL_act_219 (by decide)) ?_
      refine lf (a_goto (tgt := 224) dL_act_220 (by decide)) ?_
      refine ⟨_, _, (a_ireturn dL_act_224 rfl rfl), ?_⟩
      exact ⟨_, rfl, by first | exact ActX.n hI | exact ActX.f hI hO9 hA9 (by assumption) | exact ActX.t hI hO9 hA9 (by assumption) | exact ActX.t hI hO9 hA9 (Int32.not_lt.mpr (nI_ge0 (by omega)))⟩
  · rw [e18, show nI 5 = (5 : Int32) from rfl]
    refine lf (a_tsIn (tgt := 225) dL_act_24 (by decide) (by decide) rfl (by decide)) ?_
    refine lf (a_aload_n dL_act_225 rfl) ?_
    refine lf (a_iload_n dL_act_226 rfl) ?_
    refine lf (a_iconst (1 : Int32) dL_act_227 (by decide)) ?_
    refine lf (a_aload_n dL_act_228 rfl) ?_
    obtain ⟨v_, W229, k229, n229, hn229, rfl, hI⟩ := w_next hI
    refine lf (a_invS (b2 := (1, 6)) k229 rfl dL_act_229 yk_L_next sm_L_next ml_L_39 rfl (by decide) (by decide) (Nat.le_of_ble_eq_true rfl)) ?_
    have hwo := hw
    have hw := hI.1.wf
    refine lf (a_iconst (4 : Int32) dL_act_232 (by decide)) ?_
    refine lf (a_irem dL_act_233 (by decide)) ?_
    rw [show nI n229 - nI n229 / 4 * 4 = nI (n229 % 4) from pk_rem (d := 4) (by omega) (by decide) (by decide)]
    refine lf (a_iadd dL_act_234) ?_
    rw [show (1 : Int32) + nI (n229 % 4) = nI (1 + n229 % 4) from nI_add 1 (n229 % 4)]
    obtain ⟨v_, W235, k235, x9, rfl, hO9, hA9⟩ := w_stored hI.1 hgo (m := n1 % pM q) (n := 1 + n229 % 4) hm (by omega) (by omega)
    refine lf (a_invSH (b2 := (0, 0)) k235 rfl dL_act_235 yh_L_stored sm_L_stored ml_L_226 rfl (by decide) (by decide) (Nat.le_of_ble_eq_true rfl)) ?_
    refine lf2 (a_if_lt (tgt := 245) dL_act_238 (by decide)) (fun h238 => ?_) (fun h238 => ?_)
    · refine lf (a_iconst (0 : Int32) dL_act_245 (by decide)) ?_
      refine ⟨_, _, (a_ireturn dL_act_246 rfl rfl), ?_⟩
      exact ⟨_, rfl, by first | exact ActX.n hI | exact ActX.f hI hO9 hA9 (by assumption) | exact ActX.t hI hO9 hA9 (by assumption) | exact ActX.t hI hO9 hA9 (Int32.not_lt.mpr (nI_ge0 (by omega)))⟩
    · refine lf (a_iconst (1 : Int32) dL_act_241 (by decide)) ?_
      refine lf (a_goto (tgt := 246) dL_act_242 (by decide)) ?_
      refine ⟨_, _, (a_ireturn dL_act_246 rfl rfl), ?_⟩
      exact ⟨_, rfl, by first | exact ActX.n hI | exact ActX.f hI hO9 hA9 (by assumption) | exact ActX.t hI hO9 hA9 (by assumption) | exact ActX.t hI hO9 hA9 (Int32.not_lt.mpr (nI_ge0 (by omega)))⟩
  · rw [e18, show nI 6 = (6 : Int32) from rfl]
    refine lf (a_tsIn (tgt := 247) dL_act_24 (by decide) (by decide) rfl (by decide)) ?_
    refine lf (a_aload_n dL_act_247 rfl) ?_
    refine lf (a_iload_n dL_act_248 rfl) ?_
    refine lf (a_iconst (1 : Int32) dL_act_249 (by decide)) ?_
    refine lf (a_aload_n dL_act_250 rfl) ?_
    obtain ⟨v_, W251, k251, n251, hn251, rfl, hI⟩ := w_next hI
    refine lf (a_invS (b2 := (1, 6)) k251 rfl dL_act_251 yk_L_next sm_L_next ml_L_39 rfl (by decide) (by decide) (Nat.le_of_ble_eq_true rfl)) ?_
    have hwo := hw
    have hw := hI.1.wf
    refine lf (a_iconst (3 : Int32) dL_act_254 (by decide)) ?_
    refine lf (a_irem dL_act_255 (by decide)) ?_
    rw [show nI n251 - nI n251 / 3 * 3 = nI (n251 % 3) from pk_rem (d := 3) (by omega) (by decide) (by decide)]
    refine lf (a_iadd dL_act_256) ?_
    rw [show (1 : Int32) + nI (n251 % 3) = nI (1 + n251 % 3) from nI_add 1 (n251 % 3)]
    obtain ⟨v_, W257, k257, x9, rfl, hO9, hA9⟩ := w_unloaded hI.1 hgo (m := n1 % pM q) (n := 1 + n251 % 3) hm (by omega) (by omega)
    refine lf (a_invSH (b2 := (0, 0)) k257 rfl dL_act_257 yh_L_unloaded sm_L_unloaded ml_L_229 rfl (by decide) (by decide) (Nat.le_of_ble_eq_true rfl)) ?_
    refine lf2 (a_if_lt (tgt := 267) dL_act_260 (by decide)) (fun h260 => ?_) (fun h260 => ?_)
    · refine lf (a_iconst (0 : Int32) dL_act_267 (by decide)) ?_
      refine ⟨_, _, (a_ireturn dL_act_268 rfl rfl), ?_⟩
      exact ⟨_, rfl, by first | exact ActX.n hI | exact ActX.f hI hO9 hA9 (by assumption) | exact ActX.t hI hO9 hA9 (by assumption) | exact ActX.t hI hO9 hA9 (Int32.not_lt.mpr (nI_ge0 (by omega)))⟩
    · refine lf (a_iconst (1 : Int32) dL_act_263 (by decide)) ?_
      refine lf (a_goto (tgt := 268) dL_act_264 (by decide)) ?_
      refine ⟨_, _, (a_ireturn dL_act_268 rfl rfl), ?_⟩
      exact ⟨_, rfl, by first | exact ActX.n hI | exact ActX.f hI hO9 hA9 (by assumption) | exact ActX.t hI hO9 hA9 (by assumption) | exact ActX.t hI hO9 hA9 (Int32.not_lt.mpr (nI_ge0 (by omega)))⟩
  · rw [e18, show nI 7 = (7 : Int32) from rfl]
    refine lf (a_tsIn (tgt := 269) dL_act_24 (by decide) (by decide) rfl (by decide)) ?_
    refine lf (a_aload_n dL_act_269 rfl) ?_
    refine lf (a_iload_n dL_act_270 rfl) ?_
    refine lf (a_iconst (1 : Int32) dL_act_271 (by decide)) ?_
    refine lf (a_aload_n dL_act_272 rfl) ?_
    obtain ⟨v_, W273, k273, n273, hn273, rfl, hI⟩ := w_next hI
    refine lf (a_invS (b2 := (1, 6)) k273 rfl dL_act_273 yk_L_next sm_L_next ml_L_39 rfl (by decide) (by decide) (Nat.le_of_ble_eq_true rfl)) ?_
    have hwo := hw
    have hw := hI.1.wf
    refine lf (a_iconst (4 : Int32) dL_act_276 (by decide)) ?_
    refine lf (a_irem dL_act_277 (by decide)) ?_
    rw [show nI n273 - nI n273 / 4 * 4 = nI (n273 % 4) from pk_rem (d := 4) (by omega) (by decide) (by decide)]
    refine lf (a_iadd dL_act_278) ?_
    rw [show (1 : Int32) + nI (n273 % 4) = nI (1 + n273 % 4) from nI_add 1 (n273 % 4)]
    obtain ⟨v_, W279, k279, x9, rfl, hO9, hA9⟩ := w_topped hI.1 hgo (m := n1 % pM q) (n := 1 + n273 % 4) hm (by omega) (by omega)
    refine lf (a_invSH (b2 := (0, 0)) k279 rfl dL_act_279 yh_L_topped sm_L_topped ml_L_232 rfl (by decide) (by decide) (Nat.le_of_ble_eq_true rfl)) ?_
    refine lf2 (a_if_lt (tgt := 289) dL_act_282 (by decide)) (fun h282 => ?_) (fun h282 => ?_)
    · refine lf (a_iconst (0 : Int32) dL_act_289 (by decide)) ?_
      refine ⟨_, _, (a_ireturn dL_act_290 rfl rfl), ?_⟩
      exact ⟨_, rfl, by first | exact ActX.n hI | exact ActX.f hI hO9 hA9 (by assumption) | exact ActX.t hI hO9 hA9 (by assumption) | exact ActX.t hI hO9 hA9 (Int32.not_lt.mpr (nI_ge0 (by omega)))⟩
    · refine lf (a_iconst (1 : Int32) dL_act_285 (by decide)) ?_
      refine lf (a_goto (tgt := 290) dL_act_286 (by decide)) ?_
      refine ⟨_, _, (a_ireturn dL_act_290 rfl rfl), ?_⟩
      exact ⟨_, rfl, by first | exact ActX.n hI | exact ActX.f hI hO9 hA9 (by assumption) | exact ActX.t hI hO9 hA9 (by assumption) | exact ActX.t hI hO9 hA9 (Int32.not_lt.mpr (nI_ge0 (by omega)))⟩
  · rw [e18, show nI 8 = (8 : Int32) from rfl]
    refine lf (a_tsOut (tgt := 291) dL_act_24 (Or.inr (by decide)) (by decide)) ?_
    refine lf (a_aload_n dL_act_291 rfl) ?_
    refine lf (a_iconst (1 : Int32) dL_act_292 (by decide)) ?_
    refine lf (a_aload_n dL_act_293 rfl) ?_
    obtain ⟨v_, W294, k294, n294, hn294, rfl, hI⟩ := w_next hI
    refine lf (a_invS (b2 := (1, 6)) k294 rfl dL_act_294 yk_L_next sm_L_next ml_L_39 rfl (by decide) (by decide) (Nat.le_of_ble_eq_true rfl)) ?_
    have hwo := hw
    have hw := hI.1.wf
    refine lf (a_bipush (12 : Int32) dL_act_297 (by decide)) ?_
    refine lf (a_irem dL_act_299 (by decide)) ?_
    rw [show nI n294 - nI n294 / 12 * 12 = nI (n294 % 12) from pk_rem (d := 12) (by omega) (by decide) (by decide)]
    refine lf (a_iadd dL_act_300) ?_
    rw [show (1 : Int32) + nI (n294 % 12) = nI (1 + n294 % 12) from nI_add 1 (n294 % 12)]
    obtain ⟨v_, W301, k301, x9, rfl, hO9, hA9⟩ := w_passed hI.1 hgo (n := 1 + n294 % 12) (by omega) (by omega)
    refine lf (a_invSH (b2 := (0, 0)) k301 rfl dL_act_301 yh_L_passed sm_L_passed ml_L_235 rfl (by decide) (by decide) (Nat.le_of_ble_eq_true rfl)) ?_
    refine lf2 (a_if_lt (tgt := 311) dL_act_304 (by decide)) (fun h304 => ?_) (fun h304 => ?_)
    · refine lf (a_iconst (0 : Int32) dL_act_311 (by decide)) ?_
      refine ⟨_, _, (a_ireturn dL_act_312 rfl rfl), ?_⟩
      exact ⟨_, rfl, by first | exact ActX.n hI | exact ActX.f hI hO9 hA9 (by assumption) | exact ActX.t hI hO9 hA9 (by assumption) | exact ActX.t hI hO9 hA9 (Int32.not_lt.mpr (nI_ge0 (by omega)))⟩
    · refine lf (a_iconst (1 : Int32) dL_act_307 (by decide)) ?_
      refine lf (a_goto (tgt := 312) dL_act_308 (by decide)) ?_
      refine ⟨_, _, (a_ireturn dL_act_312 rfl rfl), ?_⟩
      exact ⟨_, rfl, by first | exact ActX.n hI | exact ActX.f hI hO9 hA9 (by assumption) | exact ActX.t hI hO9 hA9 (by assumption) | exact ActX.t hI hO9 hA9 (Int32.not_lt.mpr (nI_ge0 (by omega)))⟩
  
end ACT
