section SUM
variable {μ : Wd} {p p0 N : Nat} {q : PDt} {d : FDt} {H : Hst} {S : Nat → Option FDt}
abbrev R_L_sum : Room := { frames := 14, cells := 0, slots := 0, locals := 500 }
noncomputable def sA (q : PDt) (d : FDt) (k : Nat) (s : Int64) : Int64 := (31 * s + (if k = 9 then (0 : Int32) else cnV q d 0 k).toInt64) + (if k < 6 then 7 * (olV q d k).toInt64 + dA d k else 0)
noncomputable def sBi (q : PDt) (d : FDt) (c k : Nat) (s : Int64) : Int64 := 31 * s + (caV q d c k).toInt64
noncomputable def sCi (q : PDt) (d : FDt) (m k : Nat) (s : Int64) : Int64 := 31 * s + (mlV q d m k).toInt64
noncomputable def sDi (q : PDt) (d : FDt) (i k : Nat) (s : Int64) : Int64 := 31 * s + (pgV q d i k).toInt64
def sEi (d : FDt) (t m : Nat) (s : Int64) : Int64 := 31 * s + (dF d (7 + t) m).toInt64
def sF (d : FDt) (i : Nat) (s : Int64) : Int64 := ((31 * s + 7 * (tpV d i 0).toInt64) + 3 * (tpV d i 1).toInt64) + (tpV d i 2).toInt64
noncomputable def sB (q : PDt) (d : FDt) (c : Nat) (s : Int64) : Int64 := itN (sBi q d c) s 8
noncomputable def sC (q : PDt) (d : FDt) (m : Nat) (s : Int64) : Int64 := itN (sCi q d m) s 10
noncomputable def sD (q : PDt) (d : FDt) (i : Nat) (s : Int64) : Int64 := itN (sDi q d i) s 6
def sE (q : PDt) (d : FDt) (t : Nat) (s : Int64) : Int64 := itN (sEi d t) s (pM q)
noncomputable def sS1 (q : PDt) (d : FDt) : Int64 := itN (sA q d) 0 12
noncomputable def sS2 (q : PDt) (d : FDt) : Int64 := itN (sB q d) (sS1 q d) (pC q)
noncomputable def sS3 (q : PDt) (d : FDt) : Int64 := itN (sC q d) (sS2 q d) (pM q)
noncomputable def sS4 (q : PDt) (d : FDt) : Int64 := itN (sD q d) (sS3 q d) (dP d)
noncomputable def sS5 (q : PDt) (d : FDt) : Int64 := itN (sE q d) (sS4 q d) (pT q)
/-- the law's sum over all that is shown, but for the history -/
noncomputable def sumF (q : PDt) (d : FDt) : Int64 := itN (sF d) (sS5 q d) (dU d)
theorem cn_9 {k n : Nat} (h : k ≠ 9) (hk : k < 12) : cnV q d n k = cnV q d 0 k := by
  rcases (by omega : k = 0 ∨ k = 1 ∨ k = 2 ∨ k = 3 ∨ k = 4 ∨ k = 5 ∨ k = 6 ∨ k = 7 ∨ k = 8 ∨ k = 10 ∨ k = 11) with e | e | e | e | e | e | e | e | e | e | e <;> subst e <;> rfl
theorem ck_L_129 : Cond.constantLong RL 129 31 ∈ lwa := lwa_in 1353 (by decide +kernel) rfl
theorem ck_L_134 : Cond.constantLong RL 134 7 ∈ lwa := lwa_in 1354 (by decide +kernel) rfl
theorem ck_L_158 : Cond.constantLong RL 158 3 ∈ lwa := lwa_in 1439 (by decide +kernel) rfl
theorem l_L_sum_4  {Q : Oc → Wd → Prop} (kx : ∀ W, LwA p p0 q d H S N μ W → WP Y_L_sum R_L_sum (0, 0) W 66 [(0, .ref 0), (1, .long (itN (sA q d) 0 12)), (3, .int (nI 12))] [] Q) : ∀ dd m (W : Wd), m + dd = 12 → LwA p p0 q d H S N μ W → WP Y_L_sum R_L_sum (0, 0) W 4 [(0, .ref 0), (1, .long (itN (sA q d) 0 m)), (3, .int (nI m))] [] Q := by
  intro dd
  induction dd with
  | zero =>
    intro m W hm hI
    obtain rfl : 12 = m := by omega
    have hw := hI.1.wf
    have hwo := hw
    refine lf (a_iload_n dL_sum_4 rfl) ?_
    refine lf (a_bipush (12 : Int32) dL_sum_5 (by decide)) ?_
    refine lf2 (a_icmp_ge (tgt := 66) dL_sum_7 (by decide)) (fun h7 => ?_) (fun h7 => absurd h7 (fun z => z (nI_le (Nat.le_refl _) (by decide))))
    exact lf (a_loc _ rfl) (kx _ hI)
  | succ dd ih =>
    intro m W hm hI
    have hw := hI.1.wf
    have hwo := hw
    refine lf (a_iload_n dL_sum_4 rfl) ?_
    refine lf (a_bipush (12 : Int32) dL_sum_5 (by decide)) ?_
    refine lf2 (a_icmp_ge (tgt := 66) dL_sum_7 (by decide)) (fun h7 => absurd h7 (nI_ge (a := m) (b := 12) (by omega) (by decide))) (fun h7 => ?_)
    refine lf (a_ldc2 dL_sum_10 ck_L_129) ?_
    refine lf (a_lload_n dL_sum_13 rfl) ?_
    refine lf (a_lmul dL_sum_14) ?_
    refine lf (a_iload_n dL_sum_15 rfl) ?_
    refine lf (a_bipush (9 : Int32) dL_sum_16 (by decide)) ?_
    refine lfn (a_icmp_ne (tgt := 25) dL_sum_18 (by decide)) (fun h18 => ?_) (fun h18 => ?_)
    · have h18n : m ≠ 9 := fun z => h18 (by rw [z]; rfl)
      have e9 : (if m = 9 then (0 : Int32) else cnV q d 0 m) = cnV q d 0 m := if_neg h18n
      refine lf (a_aload_n dL_sum_25 rfl) ?_
      refine lf (a_iload_n dL_sum_26 rfl) ?_
      obtain ⟨v_, W27, k27, rfl, h27⟩ := (w_count hI.1 (k := m) (by omega))
      have hwo := hw
      have hI := hI.tr h27
      have hw := hI.1.wf
      refine lf (a_inv (b2 := (0, 0)) k27 rfl dL_sum_27 yk_X10_count im_X10_count se_X10_count ml_L_131 rfl (co_0 hwo) (by decide) hc_X10 (by decide) (by decide) (Nat.le_of_ble_eq_true rfl)) ?_
      rw [cn_9 h18n (by omega)]
      refine lf (a_i2l dL_sum_30) ?_
      refine lf (a_ladd dL_sum_31) ?_
      refine lf (a_iload_n dL_sum_32 rfl) ?_
      refine lf (a_bipush (6 : Int32) dL_sum_33 (by decide)) ?_
      refine lf2 (a_icmp_ge (tgt := 57) dL_sum_35 (by decide)) (fun h35 => ?_) (fun h35 => ?_)
      · have hge6 : ¬ m < 6 := fun z => absurd h35 (nI_ge (a := m) (b := 6) z (by decide))
        refine lf (a_lconst (0 : Int64) dL_sum_57 (by decide)) ?_
        refine lf (a_ladd dL_sum_58) ?_
        refine lf (a_lstore_n dL_sum_59 (by decide)) ?_
        refine lf (a_iincN dL_sum_60 rfl (by decide)) ?_
        refine lf (a_goto (tgt := 4) dL_sum_63 (by decide)) ?_
        have q9 := ih (m + 1) _ (by omega) hI
        simp only [itN_succ] at q9
        unfold sA at q9
        rw [e9] at q9
        first
        | (rw [if_pos hlt6] at q9; exact lf (a_loc _ rfl) q9)
        | (rw [if_neg hge6] at q9; exact lf (a_loc _ rfl) q9)
      · have hlt6 : m < 6 := by
          have : ¬ 6 ≤ m := fun z => h35 (nI_le (a := 6) (b := m) z (by omega))
          omega
        refine lf (a_ldc2 dL_sum_38 ck_L_134) ?_
        refine lf (a_aload_n dL_sum_41 rfl) ?_
        refine lf (a_iload_n dL_sum_42 rfl) ?_
        obtain ⟨v_, W43, k43, rfl, h43⟩ := (w_outlook hI.1 (k := m) hlt6)
        have hwo := hw
        have hI := hI.tr h43
        have hw := hI.1.wf
        refine lf (a_inv (b2 := (0, 0)) k43 rfl dL_sum_43 yk_X10_outlook im_X10_outlook se_X10_outlook ml_L_136 rfl (co_0 hwo) (by decide) hc_X10 (by decide) (by decide) (Nat.le_of_ble_eq_true rfl)) ?_
        refine lf (a_i2l dL_sum_46) ?_
        refine lf (a_lmul dL_sum_47) ?_
        refine lf (a_aload_n dL_sum_48 rfl) ?_
        refine lf (a_iload_n dL_sum_49 rfl) ?_
        refine lf (a_inv (b2 := (0, 0)) (w_account hI.1 (k := m) hlt6) rfl dL_sum_50 yk_X10_account im_X10_account se_X10_account ml_L_139 rfl (co_0 hw) (by decide) hc_X10 (by decide) (by decide) (Nat.le_of_ble_eq_true rfl)) ?_
        refine lf (a_ladd dL_sum_53) ?_
        refine lf (a_goto (tgt := 58) dL_sum_54 (by decide)) ?_
        refine lf (a_ladd dL_sum_58) ?_
        refine lf (a_lstore_n dL_sum_59 (by decide)) ?_
        refine lf (a_iincN dL_sum_60 rfl (by decide)) ?_
        refine lf (a_goto (tgt := 4) dL_sum_63 (by decide)) ?_
        have q9 := ih (m + 1) _ (by omega) hI
        simp only [itN_succ] at q9
        unfold sA at q9
        rw [e9] at q9
        first
        | (rw [if_pos hlt6] at q9; exact lf (a_loc _ rfl) q9)
        | (rw [if_neg hge6] at q9; exact lf (a_loc _ rfl) q9)
    · have h18e : m = 9 := (nI_eq (a := m) (b := 9) (by omega) (by decide)).mp h18
      have e9 : (if m = 9 then (0 : Int32) else cnV q d 0 m) = 0 := if_pos h18e
      refine lf (a_iconst (0 : Int32) dL_sum_21 (by decide)) ?_
      refine lf (a_goto (tgt := 30) dL_sum_22 (by decide)) ?_
      refine lf (a_i2l dL_sum_30) ?_
      refine lf (a_ladd dL_sum_31) ?_
      refine lf (a_iload_n dL_sum_32 rfl) ?_
      refine lf (a_bipush (6 : Int32) dL_sum_33 (by decide)) ?_
      refine lf2 (a_icmp_ge (tgt := 57) dL_sum_35 (by decide)) (fun h35 => ?_) (fun h35 => ?_)
      · have hge6 : ¬ m < 6 := fun z => absurd h35 (nI_ge (a := m) (b := 6) z (by decide))
        refine lf (a_lconst (0 : Int64) dL_sum_57 (by decide)) ?_
        refine lf (a_ladd dL_sum_58) ?_
        refine lf (a_lstore_n dL_sum_59 (by decide)) ?_
        refine lf (a_iincN dL_sum_60 rfl (by decide)) ?_
        refine lf (a_goto (tgt := 4) dL_sum_63 (by decide)) ?_
        have q9 := ih (m + 1) _ (by omega) hI
        simp only [itN_succ] at q9
        unfold sA at q9
        rw [e9] at q9
        first
        | (rw [if_pos hlt6] at q9; exact lf (a_loc _ rfl) q9)
        | (rw [if_neg hge6] at q9; exact lf (a_loc _ rfl) q9)
      · have hlt6 : m < 6 := by
          have : ¬ 6 ≤ m := fun z => h35 (nI_le (a := 6) (b := m) z (by omega))
          omega
        refine lf (a_ldc2 dL_sum_38 ck_L_134) ?_
        refine lf (a_aload_n dL_sum_41 rfl) ?_
        refine lf (a_iload_n dL_sum_42 rfl) ?_
        obtain ⟨v_, W43, k43, rfl, h43⟩ := (w_outlook hI.1 (k := m) hlt6)
        have hwo := hw
        have hI := hI.tr h43
        have hw := hI.1.wf
        refine lf (a_inv (b2 := (0, 0)) k43 rfl dL_sum_43 yk_X10_outlook im_X10_outlook se_X10_outlook ml_L_136 rfl (co_0 hwo) (by decide) hc_X10 (by decide) (by decide) (Nat.le_of_ble_eq_true rfl)) ?_
        refine lf (a_i2l dL_sum_46) ?_
        refine lf (a_lmul dL_sum_47) ?_
        refine lf (a_aload_n dL_sum_48 rfl) ?_
        refine lf (a_iload_n dL_sum_49 rfl) ?_
        refine lf (a_inv (b2 := (0, 0)) (w_account hI.1 (k := m) hlt6) rfl dL_sum_50 yk_X10_account im_X10_account se_X10_account ml_L_139 rfl (co_0 hw) (by decide) hc_X10 (by decide) (by decide) (Nat.le_of_ble_eq_true rfl)) ?_
        refine lf (a_ladd dL_sum_53) ?_
        refine lf (a_goto (tgt := 58) dL_sum_54 (by decide)) ?_
        refine lf (a_ladd dL_sum_58) ?_
        refine lf (a_lstore_n dL_sum_59 (by decide)) ?_
        refine lf (a_iincN dL_sum_60 rfl (by decide)) ?_
        refine lf (a_goto (tgt := 4) dL_sum_63 (by decide)) ?_
        have q9 := ih (m + 1) _ (by omega) hI
        simp only [itN_succ] at q9
        unfold sA at q9
        rw [e9] at q9
        first
        | (rw [if_pos hlt6] at q9; exact lf (a_loc _ rfl) q9)
        | (rw [if_neg hge6] at q9; exact lf (a_loc _ rfl) q9)
theorem l_L_sum_80 {c : Nat} {s : Int64} (hc : c < pC q) {Q : Oc → Wd → Prop} (kx : ∀ W, LwA p p0 q d H S N μ W → WP Y_L_sum R_L_sum (0, 0) W 108 [(0, .ref 0), (1, .long (itN (sBi q d c) s 8)), (3, .int (nI c)), (4, .int (nI 8))] [] Q) : ∀ dd m (W : Wd), m + dd = 8 → LwA p p0 q d H S N μ W → WP Y_L_sum R_L_sum (0, 0) W 80 [(0, .ref 0), (1, .long (itN (sBi q d c) s m)), (3, .int (nI c)), (4, .int (nI m))] [] Q := by
  intro dd
  induction dd with
  | zero =>
    intro m W hm hI
    obtain rfl : 8 = m := by omega
    have hw := hI.1.wf
    have hwo := hw
    refine lf (a_iload dL_sum_80 rfl) ?_
    refine lf (a_bipush (8 : Int32) dL_sum_82 (by decide)) ?_
    refine lf2 (a_icmp_ge (tgt := 108) dL_sum_84 (by decide)) (fun h84 => ?_) (fun h84 => absurd h84 (fun z => z (nI_le (Nat.le_refl _) (by decide))))
    exact lf (a_loc _ rfl) (kx _ hI)
  | succ dd ih =>
    intro m W hm hI
    have hw := hI.1.wf
    have hwo := hw
    refine lf (a_iload dL_sum_80 rfl) ?_
    refine lf (a_bipush (8 : Int32) dL_sum_82 (by decide)) ?_
    refine lf2 (a_icmp_ge (tgt := 108) dL_sum_84 (by decide)) (fun h84 => absurd h84 (nI_ge (a := m) (b := 8) (by omega) (by decide))) (fun h84 => ?_)
    refine lf (a_ldc2 dL_sum_87 ck_L_129) ?_
    refine lf (a_lload_n dL_sum_90 rfl) ?_
    refine lf (a_lmul dL_sum_91) ?_
    refine lf (a_aload_n dL_sum_92 rfl) ?_
    refine lf (a_iload_n dL_sum_93 rfl) ?_
    refine lf (a_iload dL_sum_94 rfl) ?_
    obtain ⟨v_, W96, k96, rfl, h96⟩ := (w_cabin hI.1 hc (k := m) (by omega))
    have hwo := hw
    have hI := hI.tr h96
    have hw := hI.1.wf
    refine lf (a_inv (b2 := (0, 0)) k96 rfl dL_sum_96 yk_X10_cabin im_X10_cabin se_X10_cabin ml_L_143 rfl (co_0 hwo) (by decide) hc_X10 (by decide) (by decide) (Nat.le_of_ble_eq_true rfl)) ?_
    refine lf (a_i2l dL_sum_99) ?_
    refine lf (a_ladd dL_sum_100) ?_
    refine lf (a_lstore_n dL_sum_101 (by decide)) ?_
    refine lf (a_iincN dL_sum_102 rfl (by decide)) ?_
    refine lf (a_goto (tgt := 80) dL_sum_105 (by decide)) ?_
    have q9 := ih (m + 1) _ (by omega) hI
    simp only [itN_succ] at q9
    exact lf (a_loc _ rfl) q9
theorem l_L_sum_128 {c : Nat} {s : Int64} (hc : c < pM q) {Q : Oc → Wd → Prop} (kx : ∀ W, LwA p p0 q d H S N μ W → WP Y_L_sum R_L_sum (0, 0) W 156 [(0, .ref 0), (1, .long (itN (sCi q d c) s 10)), (3, .int (nI c)), (4, .int (nI 10))] [] Q) : ∀ dd m (W : Wd), m + dd = 10 → LwA p p0 q d H S N μ W → WP Y_L_sum R_L_sum (0, 0) W 128 [(0, .ref 0), (1, .long (itN (sCi q d c) s m)), (3, .int (nI c)), (4, .int (nI m))] [] Q := by
  intro dd
  induction dd with
  | zero =>
    intro m W hm hI
    obtain rfl : 10 = m := by omega
    have hw := hI.1.wf
    have hwo := hw
    refine lf (a_iload dL_sum_128 rfl) ?_
    refine lf (a_bipush (10 : Int32) dL_sum_130 (by decide)) ?_
    refine lf2 (a_icmp_ge (tgt := 156) dL_sum_132 (by decide)) (fun h132 => ?_) (fun h132 => absurd h132 (fun z => z (nI_le (Nat.le_refl _) (by decide))))
    exact lf (a_loc _ rfl) (kx _ hI)
  | succ dd ih =>
    intro m W hm hI
    have hw := hI.1.wf
    have hwo := hw
    refine lf (a_iload dL_sum_128 rfl) ?_
    refine lf (a_bipush (10 : Int32) dL_sum_130 (by decide)) ?_
    refine lf2 (a_icmp_ge (tgt := 156) dL_sum_132 (by decide)) (fun h132 => absurd h132 (nI_ge (a := m) (b := 10) (by omega) (by decide))) (fun h132 => ?_)
    refine lf (a_ldc2 dL_sum_135 ck_L_129) ?_
    refine lf (a_lload_n dL_sum_138 rfl) ?_
    refine lf (a_lmul dL_sum_139) ?_
    refine lf (a_aload_n dL_sum_140 rfl) ?_
    refine lf (a_iload_n dL_sum_141 rfl) ?_
    refine lf (a_iload dL_sum_142 rfl) ?_
    obtain ⟨v_, W144, k144, rfl, h144⟩ := (w_meal hI.1 hc (k := m) (by omega))
    have hwo := hw
    have hI := hI.tr h144
    have hw := hI.1.wf
    refine lf (a_inv (b2 := (0, 0)) k144 rfl dL_sum_144 yk_X10_meal im_X10_meal se_X10_meal ml_L_146 rfl (co_0 hwo) (by decide) hc_X10 (by decide) (by decide) (Nat.le_of_ble_eq_true rfl)) ?_
    refine lf (a_i2l dL_sum_147) ?_
    refine lf (a_ladd dL_sum_148) ?_
    refine lf (a_lstore_n dL_sum_149 (by decide)) ?_
    refine lf (a_iincN dL_sum_150 rfl (by decide)) ?_
    refine lf (a_goto (tgt := 128) dL_sum_153 (by decide)) ?_
    have q9 := ih (m + 1) _ (by omega) hI
    simp only [itN_succ] at q9
    exact lf (a_loc _ rfl) q9
theorem l_L_sum_176 {c : Nat} {s : Int64} (hc : c < dP d) {Q : Oc → Wd → Prop} (kx : ∀ W, LwA p p0 q d H S N μ W → WP Y_L_sum R_L_sum (0, 0) W 204 [(0, .ref 0), (1, .long (itN (sDi q d c) s 6)), (3, .int (nI c)), (4, .int (nI 6))] [] Q) : ∀ dd m (W : Wd), m + dd = 6 → LwA p p0 q d H S N μ W → WP Y_L_sum R_L_sum (0, 0) W 176 [(0, .ref 0), (1, .long (itN (sDi q d c) s m)), (3, .int (nI c)), (4, .int (nI m))] [] Q := by
  intro dd
  induction dd with
  | zero =>
    intro m W hm hI
    obtain rfl : 6 = m := by omega
    have hw := hI.1.wf
    have hwo := hw
    refine lf (a_iload dL_sum_176 rfl) ?_
    refine lf (a_bipush (6 : Int32) dL_sum_178 (by decide)) ?_
    refine lf2 (a_icmp_ge (tgt := 204) dL_sum_180 (by decide)) (fun h180 => ?_) (fun h180 => absurd h180 (fun z => z (nI_le (Nat.le_refl _) (by decide))))
    exact lf (a_loc _ rfl) (kx _ hI)
  | succ dd ih =>
    intro m W hm hI
    have hw := hI.1.wf
    have hwo := hw
    refine lf (a_iload dL_sum_176 rfl) ?_
    refine lf (a_bipush (6 : Int32) dL_sum_178 (by decide)) ?_
    refine lf2 (a_icmp_ge (tgt := 204) dL_sum_180 (by decide)) (fun h180 => absurd h180 (nI_ge (a := m) (b := 6) (by omega) (by decide))) (fun h180 => ?_)
    refine lf (a_ldc2 dL_sum_183 ck_L_129) ?_
    refine lf (a_lload_n dL_sum_186 rfl) ?_
    refine lf (a_lmul dL_sum_187) ?_
    refine lf (a_aload_n dL_sum_188 rfl) ?_
    refine lf (a_iload_n dL_sum_189 rfl) ?_
    refine lf (a_iload dL_sum_190 rfl) ?_
    obtain ⟨v_, W192, k192, rfl, h192⟩ := (w_passenger hI.1 hc (k := m) (by omega))
    have hwo := hw
    have hI := hI.tr h192
    have hw := hI.1.wf
    refine lf (a_inv (b2 := (0, 0)) k192 rfl dL_sum_192 yk_X10_passenger im_X10_passenger se_X10_passenger ml_L_149 rfl (co_0 hwo) (by decide) hc_X10 (by decide) (by decide) (Nat.le_of_ble_eq_true rfl)) ?_
    refine lf (a_i2l dL_sum_195) ?_
    refine lf (a_ladd dL_sum_196) ?_
    refine lf (a_lstore_n dL_sum_197 (by decide)) ?_
    refine lf (a_iincN dL_sum_198 rfl (by decide)) ?_
    refine lf (a_goto (tgt := 176) dL_sum_201 (by decide)) ?_
    have q9 := ih (m + 1) _ (by omega) hI
    simp only [itN_succ] at q9
    exact lf (a_loc _ rfl) q9
theorem l_L_sum_224 {c : Nat} {s : Int64} (hc : c < pT q) {Q : Oc → Wd → Prop} (kx : ∀ W, LwA p p0 q d H S N μ W → WP Y_L_sum R_L_sum (0, 0) W 255 [(0, .ref 0), (1, .long (itN (sEi d c) s (pM q))), (3, .int (nI c)), (4, .int (nI (pM q)))] [] Q) : ∀ dd m (W : Wd), m + dd = pM q → LwA p p0 q d H S N μ W → WP Y_L_sum R_L_sum (0, 0) W 224 [(0, .ref 0), (1, .long (itN (sEi d c) s m)), (3, .int (nI c)), (4, .int (nI m))] [] Q := by
  intro dd
  induction dd with
  | zero =>
    intro m W hm hI
    obtain rfl : pM q = m := by omega
    have hw := hI.1.wf
    have hwo := hw
    have hq := hI.1.gp
    have hg := hI.1.gd
    have hC4 := hq.C4
    have hM4 := hq.M4
    have hT4 := hq.T4
    have hP4 := hg.P4
    have hU4 := hg.U4
    refine lf (a_iload dL_sum_224 rfl) ?_
    refine lf (a_aload_n dL_sum_226 rfl) ?_
    refine lf (a_iconst (2 : Int32) dL_sum_227 (by decide)) ?_
    obtain ⟨v_, W228, k228, rfl, h228⟩ := (w_count hI.1 (k := 2) (by decide))
    have hwo := hw
    have hI := hI.tr h228
    have hw := hI.1.wf
    refine lf (a_inv (b2 := (0, 0)) k228 rfl dL_sum_228 yk_X10_count im_X10_count se_X10_count ml_L_131 rfl (co_0 hwo) (by decide) hc_X10 (by decide) (by decide) (Nat.le_of_ble_eq_true rfl)) ?_
    rw [show cnV q d H.1 2 = nI (pM q) from rfl]
    refine lf2 (a_icmp_ge (tgt := 255) dL_sum_231 (by decide)) (fun h231 => ?_) (fun h231 => absurd h231 (fun z => z (nI_le (Nat.le_refl _) (by omega))))
    exact lf (a_loc _ rfl) (kx _ hI)
  | succ dd ih =>
    intro m W hm hI
    have hw := hI.1.wf
    have hwo := hw
    have hq := hI.1.gp
    have hg := hI.1.gd
    have hC4 := hq.C4
    have hM4 := hq.M4
    have hT4 := hq.T4
    have hP4 := hg.P4
    have hU4 := hg.U4
    refine lf (a_iload dL_sum_224 rfl) ?_
    refine lf (a_aload_n dL_sum_226 rfl) ?_
    refine lf (a_iconst (2 : Int32) dL_sum_227 (by decide)) ?_
    obtain ⟨v_, W228, k228, rfl, h228⟩ := (w_count hI.1 (k := 2) (by decide))
    have hwo := hw
    have hI := hI.tr h228
    have hw := hI.1.wf
    refine lf (a_inv (b2 := (0, 0)) k228 rfl dL_sum_228 yk_X10_count im_X10_count se_X10_count ml_L_131 rfl (co_0 hwo) (by decide) hc_X10 (by decide) (by decide) (Nat.le_of_ble_eq_true rfl)) ?_
    rw [show cnV q d H.1 2 = nI (pM q) from rfl]
    refine lf2 (a_icmp_ge (tgt := 255) dL_sum_231 (by decide)) (fun h231 => absurd h231 (nI_ge (a := m) (b := pM q) (by omega) (by omega))) (fun h231 => ?_)
    refine lf (a_ldc2 dL_sum_234 ck_L_129) ?_
    refine lf (a_lload_n dL_sum_237 rfl) ?_
    refine lf (a_lmul dL_sum_238) ?_
    refine lf (a_aload_n dL_sum_239 rfl) ?_
    refine lf (a_iload_n dL_sum_240 rfl) ?_
    refine lf (a_iload dL_sum_241 rfl) ?_
    refine lf (a_inv (b2 := (0, 0)) (w_held hI.1 hc (m := m) (by omega)) rfl dL_sum_243 yk_X10_held im_X10_held se_X10_held ml_L_152 rfl (co_0 hw) (by decide) hc_X10 (by decide) (by decide) (Nat.le_of_ble_eq_true rfl)) ?_
    refine lf (a_i2l dL_sum_246) ?_
    refine lf (a_ladd dL_sum_247) ?_
    refine lf (a_lstore_n dL_sum_248 (by decide)) ?_
    refine lf (a_iincN dL_sum_249 rfl (by decide)) ?_
    refine lf (a_goto (tgt := 224) dL_sum_252 (by decide)) ?_
    have q9 := ih (m + 1) _ (by omega) hI
    simp only [itN_succ] at q9
    exact lf (a_loc _ rfl) q9
theorem l_L_sum_68  {Q : Oc → Wd → Prop} (kx : ∀ W, LwA p p0 q d H S N μ W → WP Y_L_sum R_L_sum (0, 0) W 114 [(0, .ref 0), (1, .long (itN (sB q d) (sS1 q d) (pC q))), (3, .int (nI (pC q)))] [] Q) : ∀ dd m (W : Wd), m + dd = pC q → LwA p p0 q d H S N μ W → WP Y_L_sum R_L_sum (0, 0) W 68 [(0, .ref 0), (1, .long (itN (sB q d) (sS1 q d) m)), (3, .int (nI m))] [] Q := by
  intro dd
  induction dd with
  | zero =>
    intro m W hm hI
    obtain rfl : pC q = m := by omega
    have hw := hI.1.wf
    have hwo := hw
    have hq := hI.1.gp
    have hg := hI.1.gd
    have hC4 := hq.C4
    have hM4 := hq.M4
    have hT4 := hq.T4
    have hP4 := hg.P4
    have hU4 := hg.U4
    refine lf (a_iload_n dL_sum_68 rfl) ?_
    refine lf (a_aload_n dL_sum_69 rfl) ?_
    refine lf (a_iconst (1 : Int32) dL_sum_70 (by decide)) ?_
    obtain ⟨v_, W71, k71, rfl, h71⟩ := (w_count hI.1 (k := 1) (by decide))
    have hwo := hw
    have hI := hI.tr h71
    have hw := hI.1.wf
    refine lf (a_inv (b2 := (0, 0)) k71 rfl dL_sum_71 yk_X10_count im_X10_count se_X10_count ml_L_131 rfl (co_0 hwo) (by decide) hc_X10 (by decide) (by decide) (Nat.le_of_ble_eq_true rfl)) ?_
    rw [show cnV q d H.1 1 = nI (pC q) from rfl]
    refine lf2 (a_icmp_ge (tgt := 114) dL_sum_74 (by decide)) (fun h74 => ?_) (fun h74 => absurd h74 (fun z => z (nI_le (Nat.le_refl _) (by omega))))
    exact lf (a_loc _ rfl) (kx _ hI)
  | succ dd ih =>
    intro m W hm hI
    have hw := hI.1.wf
    have hwo := hw
    have hq := hI.1.gp
    have hg := hI.1.gd
    have hC4 := hq.C4
    have hM4 := hq.M4
    have hT4 := hq.T4
    have hP4 := hg.P4
    have hU4 := hg.U4
    refine lf (a_iload_n dL_sum_68 rfl) ?_
    refine lf (a_aload_n dL_sum_69 rfl) ?_
    refine lf (a_iconst (1 : Int32) dL_sum_70 (by decide)) ?_
    obtain ⟨v_, W71, k71, rfl, h71⟩ := (w_count hI.1 (k := 1) (by decide))
    have hwo := hw
    have hI := hI.tr h71
    have hw := hI.1.wf
    refine lf (a_inv (b2 := (0, 0)) k71 rfl dL_sum_71 yk_X10_count im_X10_count se_X10_count ml_L_131 rfl (co_0 hwo) (by decide) hc_X10 (by decide) (by decide) (Nat.le_of_ble_eq_true rfl)) ?_
    rw [show cnV q d H.1 1 = nI (pC q) from rfl]
    refine lf2 (a_icmp_ge (tgt := 114) dL_sum_74 (by decide)) (fun h74 => absurd h74 (nI_ge (a := m) (b := pC q) (by omega) (by omega))) (fun h74 => ?_)
    refine lf (a_iconst (0 : Int32) dL_sum_77 (by decide)) ?_
    refine lf (a_istore dL_sum_78 (by decide)) ?_
    refine lf (a_loc [(0, .ref 0), (1, .long (itN (sBi q d m) (itN (sB q d) (sS1 q d) m) 0)), (3, .int (nI m)), (4, .int (nI 0))] rfl) (l_L_sum_80 (μ := W71) (c := m) (s := itN (sB q d) (sS1 q d) m) (by omega) (fun V hV => ?_) 8 0 _ (by omega) (LwA.rfl' hI.1))
    have hI := hI.tr hV
    have hw := hI.1.wf
    refine lf (a_iincN dL_sum_108 rfl (by decide)) (lf (a_goto (tgt := 68) dL_sum_111 (by decide)) ?_)
    have q9 := ih (m + 1) _ (by omega) hI
    simp only [itN_succ] at q9
    exact lf (a_loc _ rfl) q9
theorem l_L_sum_116  {Q : Oc → Wd → Prop} (kx : ∀ W, LwA p p0 q d H S N μ W → WP Y_L_sum R_L_sum (0, 0) W 162 [(0, .ref 0), (1, .long (itN (sC q d) (sS2 q d) (pM q))), (3, .int (nI (pM q)))] [] Q) : ∀ dd m (W : Wd), m + dd = pM q → LwA p p0 q d H S N μ W → WP Y_L_sum R_L_sum (0, 0) W 116 [(0, .ref 0), (1, .long (itN (sC q d) (sS2 q d) m)), (3, .int (nI m))] [] Q := by
  intro dd
  induction dd with
  | zero =>
    intro m W hm hI
    obtain rfl : pM q = m := by omega
    have hw := hI.1.wf
    have hwo := hw
    have hq := hI.1.gp
    have hg := hI.1.gd
    have hC4 := hq.C4
    have hM4 := hq.M4
    have hT4 := hq.T4
    have hP4 := hg.P4
    have hU4 := hg.U4
    refine lf (a_iload_n dL_sum_116 rfl) ?_
    refine lf (a_aload_n dL_sum_117 rfl) ?_
    refine lf (a_iconst (2 : Int32) dL_sum_118 (by decide)) ?_
    obtain ⟨v_, W119, k119, rfl, h119⟩ := (w_count hI.1 (k := 2) (by decide))
    have hwo := hw
    have hI := hI.tr h119
    have hw := hI.1.wf
    refine lf (a_inv (b2 := (0, 0)) k119 rfl dL_sum_119 yk_X10_count im_X10_count se_X10_count ml_L_131 rfl (co_0 hwo) (by decide) hc_X10 (by decide) (by decide) (Nat.le_of_ble_eq_true rfl)) ?_
    rw [show cnV q d H.1 2 = nI (pM q) from rfl]
    refine lf2 (a_icmp_ge (tgt := 162) dL_sum_122 (by decide)) (fun h122 => ?_) (fun h122 => absurd h122 (fun z => z (nI_le (Nat.le_refl _) (by omega))))
    exact lf (a_loc _ rfl) (kx _ hI)
  | succ dd ih =>
    intro m W hm hI
    have hw := hI.1.wf
    have hwo := hw
    have hq := hI.1.gp
    have hg := hI.1.gd
    have hC4 := hq.C4
    have hM4 := hq.M4
    have hT4 := hq.T4
    have hP4 := hg.P4
    have hU4 := hg.U4
    refine lf (a_iload_n dL_sum_116 rfl) ?_
    refine lf (a_aload_n dL_sum_117 rfl) ?_
    refine lf (a_iconst (2 : Int32) dL_sum_118 (by decide)) ?_
    obtain ⟨v_, W119, k119, rfl, h119⟩ := (w_count hI.1 (k := 2) (by decide))
    have hwo := hw
    have hI := hI.tr h119
    have hw := hI.1.wf
    refine lf (a_inv (b2 := (0, 0)) k119 rfl dL_sum_119 yk_X10_count im_X10_count se_X10_count ml_L_131 rfl (co_0 hwo) (by decide) hc_X10 (by decide) (by decide) (Nat.le_of_ble_eq_true rfl)) ?_
    rw [show cnV q d H.1 2 = nI (pM q) from rfl]
    refine lf2 (a_icmp_ge (tgt := 162) dL_sum_122 (by decide)) (fun h122 => absurd h122 (nI_ge (a := m) (b := pM q) (by omega) (by omega))) (fun h122 => ?_)
    refine lf (a_iconst (0 : Int32) dL_sum_125 (by decide)) ?_
    refine lf (a_istore dL_sum_126 (by decide)) ?_
    refine lf (a_loc [(0, .ref 0), (1, .long (itN (sCi q d m) (itN (sC q d) (sS2 q d) m) 0)), (3, .int (nI m)), (4, .int (nI 0))] rfl) (l_L_sum_128 (μ := W119) (c := m) (s := itN (sC q d) (sS2 q d) m) (by omega) (fun V hV => ?_) 10 0 _ (by omega) (LwA.rfl' hI.1))
    have hI := hI.tr hV
    have hw := hI.1.wf
    refine lf (a_iincN dL_sum_156 rfl (by decide)) (lf (a_goto (tgt := 116) dL_sum_159 (by decide)) ?_)
    have q9 := ih (m + 1) _ (by omega) hI
    simp only [itN_succ] at q9
    exact lf (a_loc _ rfl) q9
theorem l_L_sum_164  {Q : Oc → Wd → Prop} (kx : ∀ W, LwA p p0 q d H S N μ W → WP Y_L_sum R_L_sum (0, 0) W 210 [(0, .ref 0), (1, .long (itN (sD q d) (sS3 q d) (dP d))), (3, .int (nI (dP d)))] [] Q) : ∀ dd m (W : Wd), m + dd = dP d → LwA p p0 q d H S N μ W → WP Y_L_sum R_L_sum (0, 0) W 164 [(0, .ref 0), (1, .long (itN (sD q d) (sS3 q d) m)), (3, .int (nI m))] [] Q := by
  intro dd
  induction dd with
  | zero =>
    intro m W hm hI
    obtain rfl : dP d = m := by omega
    have hw := hI.1.wf
    have hwo := hw
    have hq := hI.1.gp
    have hg := hI.1.gd
    have hC4 := hq.C4
    have hM4 := hq.M4
    have hT4 := hq.T4
    have hP4 := hg.P4
    have hU4 := hg.U4
    refine lf (a_iload_n dL_sum_164 rfl) ?_
    refine lf (a_aload_n dL_sum_165 rfl) ?_
    refine lf (a_iconst (3 : Int32) dL_sum_166 (by decide)) ?_
    obtain ⟨v_, W167, k167, rfl, h167⟩ := (w_count hI.1 (k := 3) (by decide))
    have hwo := hw
    have hI := hI.tr h167
    have hw := hI.1.wf
    refine lf (a_inv (b2 := (0, 0)) k167 rfl dL_sum_167 yk_X10_count im_X10_count se_X10_count ml_L_131 rfl (co_0 hwo) (by decide) hc_X10 (by decide) (by decide) (Nat.le_of_ble_eq_true rfl)) ?_
    rw [show cnV q d H.1 3 = nI (dP d) from rfl]
    refine lf2 (a_icmp_ge (tgt := 210) dL_sum_170 (by decide)) (fun h170 => ?_) (fun h170 => absurd h170 (fun z => z (nI_le (Nat.le_refl _) (by omega))))
    exact lf (a_loc _ rfl) (kx _ hI)
  | succ dd ih =>
    intro m W hm hI
    have hw := hI.1.wf
    have hwo := hw
    have hq := hI.1.gp
    have hg := hI.1.gd
    have hC4 := hq.C4
    have hM4 := hq.M4
    have hT4 := hq.T4
    have hP4 := hg.P4
    have hU4 := hg.U4
    refine lf (a_iload_n dL_sum_164 rfl) ?_
    refine lf (a_aload_n dL_sum_165 rfl) ?_
    refine lf (a_iconst (3 : Int32) dL_sum_166 (by decide)) ?_
    obtain ⟨v_, W167, k167, rfl, h167⟩ := (w_count hI.1 (k := 3) (by decide))
    have hwo := hw
    have hI := hI.tr h167
    have hw := hI.1.wf
    refine lf (a_inv (b2 := (0, 0)) k167 rfl dL_sum_167 yk_X10_count im_X10_count se_X10_count ml_L_131 rfl (co_0 hwo) (by decide) hc_X10 (by decide) (by decide) (Nat.le_of_ble_eq_true rfl)) ?_
    rw [show cnV q d H.1 3 = nI (dP d) from rfl]
    refine lf2 (a_icmp_ge (tgt := 210) dL_sum_170 (by decide)) (fun h170 => absurd h170 (nI_ge (a := m) (b := dP d) (by omega) (by omega))) (fun h170 => ?_)
    refine lf (a_iconst (0 : Int32) dL_sum_173 (by decide)) ?_
    refine lf (a_istore dL_sum_174 (by decide)) ?_
    refine lf (a_loc [(0, .ref 0), (1, .long (itN (sDi q d m) (itN (sD q d) (sS3 q d) m) 0)), (3, .int (nI m)), (4, .int (nI 0))] rfl) (l_L_sum_176 (μ := W167) (c := m) (s := itN (sD q d) (sS3 q d) m) (by omega) (fun V hV => ?_) 6 0 _ (by omega) (LwA.rfl' hI.1))
    have hI := hI.tr hV
    have hw := hI.1.wf
    refine lf (a_iincN dL_sum_204 rfl (by decide)) (lf (a_goto (tgt := 164) dL_sum_207 (by decide)) ?_)
    have q9 := ih (m + 1) _ (by omega) hI
    simp only [itN_succ] at q9
    exact lf (a_loc _ rfl) q9
theorem l_L_sum_212  {Q : Oc → Wd → Prop} (kx : ∀ W, LwA p p0 q d H S N μ W → WP Y_L_sum R_L_sum (0, 0) W 261 [(0, .ref 0), (1, .long (itN (sE q d) (sS4 q d) (pT q))), (3, .int (nI (pT q)))] [] Q) : ∀ dd m (W : Wd), m + dd = pT q → LwA p p0 q d H S N μ W → WP Y_L_sum R_L_sum (0, 0) W 212 [(0, .ref 0), (1, .long (itN (sE q d) (sS4 q d) m)), (3, .int (nI m))] [] Q := by
  intro dd
  induction dd with
  | zero =>
    intro m W hm hI
    obtain rfl : pT q = m := by omega
    have hw := hI.1.wf
    have hwo := hw
    have hq := hI.1.gp
    have hg := hI.1.gd
    have hC4 := hq.C4
    have hM4 := hq.M4
    have hT4 := hq.T4
    have hP4 := hg.P4
    have hU4 := hg.U4
    refine lf (a_iload_n dL_sum_212 rfl) ?_
    refine lf (a_aload_n dL_sum_213 rfl) ?_
    refine lf (a_iconst (4 : Int32) dL_sum_214 (by decide)) ?_
    obtain ⟨v_, W215, k215, rfl, h215⟩ := (w_count hI.1 (k := 4) (by decide))
    have hwo := hw
    have hI := hI.tr h215
    have hw := hI.1.wf
    refine lf (a_inv (b2 := (0, 0)) k215 rfl dL_sum_215 yk_X10_count im_X10_count se_X10_count ml_L_131 rfl (co_0 hwo) (by decide) hc_X10 (by decide) (by decide) (Nat.le_of_ble_eq_true rfl)) ?_
    rw [show cnV q d H.1 4 = nI (pT q) from rfl]
    refine lf2 (a_icmp_ge (tgt := 261) dL_sum_218 (by decide)) (fun h218 => ?_) (fun h218 => absurd h218 (fun z => z (nI_le (Nat.le_refl _) (by omega))))
    exact lf (a_loc _ rfl) (kx _ hI)
  | succ dd ih =>
    intro m W hm hI
    have hw := hI.1.wf
    have hwo := hw
    have hq := hI.1.gp
    have hg := hI.1.gd
    have hC4 := hq.C4
    have hM4 := hq.M4
    have hT4 := hq.T4
    have hP4 := hg.P4
    have hU4 := hg.U4
    refine lf (a_iload_n dL_sum_212 rfl) ?_
    refine lf (a_aload_n dL_sum_213 rfl) ?_
    refine lf (a_iconst (4 : Int32) dL_sum_214 (by decide)) ?_
    obtain ⟨v_, W215, k215, rfl, h215⟩ := (w_count hI.1 (k := 4) (by decide))
    have hwo := hw
    have hI := hI.tr h215
    have hw := hI.1.wf
    refine lf (a_inv (b2 := (0, 0)) k215 rfl dL_sum_215 yk_X10_count im_X10_count se_X10_count ml_L_131 rfl (co_0 hwo) (by decide) hc_X10 (by decide) (by decide) (Nat.le_of_ble_eq_true rfl)) ?_
    rw [show cnV q d H.1 4 = nI (pT q) from rfl]
    refine lf2 (a_icmp_ge (tgt := 261) dL_sum_218 (by decide)) (fun h218 => absurd h218 (nI_ge (a := m) (b := pT q) (by omega) (by omega))) (fun h218 => ?_)
    refine lf (a_iconst (0 : Int32) dL_sum_221 (by decide)) ?_
    refine lf (a_istore dL_sum_222 (by decide)) ?_
    refine lf (a_loc [(0, .ref 0), (1, .long (itN (sEi d m) (itN (sE q d) (sS4 q d) m) 0)), (3, .int (nI m)), (4, .int (nI 0))] rfl) (l_L_sum_224 (μ := W215) (c := m) (s := itN (sE q d) (sS4 q d) m) (by omega) (fun V hV => ?_) (pM q) 0 _ (by omega) (LwA.rfl' hI.1))
    have hI := hI.tr hV
    have hw := hI.1.wf
    refine lf (a_iincN dL_sum_255 rfl (by decide)) (lf (a_goto (tgt := 212) dL_sum_258 (by decide)) ?_)
    have q9 := ih (m + 1) _ (by omega) hI
    simp only [itN_succ] at q9
    exact lf (a_loc _ rfl) q9
theorem l_L_sum_263  {Q : Oc → Wd → Prop} (kx : ∀ W, LwA p p0 q d H S N μ W → WP Y_L_sum R_L_sum (0, 0) W 317 [(0, .ref 0), (1, .long (itN (sF d) (sS5 q d) (dU d))), (3, .int (nI (dU d)))] [] Q) : ∀ dd m (W : Wd), m + dd = dU d → LwA p p0 q d H S N μ W → WP Y_L_sum R_L_sum (0, 0) W 263 [(0, .ref 0), (1, .long (itN (sF d) (sS5 q d) m)), (3, .int (nI m))] [] Q := by
  intro dd
  induction dd with
  | zero =>
    intro m W hm hI
    obtain rfl : dU d = m := by omega
    have hw := hI.1.wf
    have hwo := hw
    have hq := hI.1.gp
    have hg := hI.1.gd
    have hC4 := hq.C4
    have hM4 := hq.M4
    have hT4 := hq.T4
    have hP4 := hg.P4
    have hU4 := hg.U4
    refine lf (a_iload_n dL_sum_263 rfl) ?_
    refine lf (a_aload_n dL_sum_264 rfl) ?_
    refine lf (a_bipush (6 : Int32) dL_sum_265 (by decide)) ?_
    obtain ⟨v_, W267, k267, rfl, h267⟩ := (w_count hI.1 (k := 6) (by decide))
    have hwo := hw
    have hI := hI.tr h267
    have hw := hI.1.wf
    refine lf (a_inv (b2 := (0, 0)) k267 rfl dL_sum_267 yk_X10_count im_X10_count se_X10_count ml_L_131 rfl (co_0 hwo) (by decide) hc_X10 (by decide) (by decide) (Nat.le_of_ble_eq_true rfl)) ?_
    rw [show cnV q d H.1 6 = nI (dU d) from rfl]
    refine lf2 (a_icmp_ge (tgt := 317) dL_sum_270 (by decide)) (fun h270 => ?_) (fun h270 => absurd h270 (fun z => z (nI_le (Nat.le_refl _) (by omega))))
    exact lf (a_loc _ rfl) (kx _ hI)
  | succ dd ih =>
    intro m W hm hI
    have hw := hI.1.wf
    have hwo := hw
    have hq := hI.1.gp
    have hg := hI.1.gd
    have hC4 := hq.C4
    have hM4 := hq.M4
    have hT4 := hq.T4
    have hP4 := hg.P4
    have hU4 := hg.U4
    refine lf (a_iload_n dL_sum_263 rfl) ?_
    refine lf (a_aload_n dL_sum_264 rfl) ?_
    refine lf (a_bipush (6 : Int32) dL_sum_265 (by decide)) ?_
    obtain ⟨v_, W267, k267, rfl, h267⟩ := (w_count hI.1 (k := 6) (by decide))
    have hwo := hw
    have hI := hI.tr h267
    have hw := hI.1.wf
    refine lf (a_inv (b2 := (0, 0)) k267 rfl dL_sum_267 yk_X10_count im_X10_count se_X10_count ml_L_131 rfl (co_0 hwo) (by decide) hc_X10 (by decide) (by decide) (Nat.le_of_ble_eq_true rfl)) ?_
    rw [show cnV q d H.1 6 = nI (dU d) from rfl]
    refine lf2 (a_icmp_ge (tgt := 317) dL_sum_270 (by decide)) (fun h270 => absurd h270 (nI_ge (a := m) (b := dU d) (by omega) (by omega))) (fun h270 => ?_)
    refine lf (a_ldc2 dL_sum_273 ck_L_129) ?_
    refine lf (a_lload_n dL_sum_276 rfl) ?_
    refine lf (a_lmul dL_sum_277) ?_
    refine lf (a_ldc2 dL_sum_278 ck_L_134) ?_
    refine lf (a_aload_n dL_sum_281 rfl) ?_
    refine lf (a_iload_n dL_sum_282 rfl) ?_
    refine lf (a_iconst (0 : Int32) dL_sum_283 (by decide)) ?_
    refine lf (a_inv (b2 := (0, 0)) (w_topUpAt hI.1 (i := m) (by omega) (k := 0) (by decide)) rfl dL_sum_284 yk_X10_topUpAt im_X10_topUpAt se_X10_topUpAt ml_L_155 rfl (co_0 hw) (by decide) hc_X10 (by decide) (by decide) (Nat.le_of_ble_eq_true rfl)) ?_
    refine lf (a_i2l dL_sum_287) ?_
    refine lf (a_lmul dL_sum_288) ?_
    refine lf (a_ladd dL_sum_289) ?_
    refine lf (a_ldc2 dL_sum_290 ck_L_158) ?_
    refine lf (a_aload_n dL_sum_293 rfl) ?_
    refine lf (a_iload_n dL_sum_294 rfl) ?_
    refine lf (a_iconst (1 : Int32) dL_sum_295 (by decide)) ?_
    refine lf (a_inv (b2 := (0, 0)) (w_topUpAt hI.1 (i := m) (by omega) (k := 1) (by decide)) rfl dL_sum_296 yk_X10_topUpAt im_X10_topUpAt se_X10_topUpAt ml_L_155 rfl (co_0 hw) (by decide) hc_X10 (by decide) (by decide) (Nat.le_of_ble_eq_true rfl)) ?_
    refine lf (a_i2l dL_sum_299) ?_
    refine lf (a_lmul dL_sum_300) ?_
    refine lf (a_ladd dL_sum_301) ?_
    refine lf (a_aload_n dL_sum_302 rfl) ?_
    refine lf (a_iload_n dL_sum_303 rfl) ?_
    refine lf (a_iconst (2 : Int32) dL_sum_304 (by decide)) ?_
    refine lf (a_inv (b2 := (0, 0)) (w_topUpAt hI.1 (i := m) (by omega) (k := 2) (by decide)) rfl dL_sum_305 yk_X10_topUpAt im_X10_topUpAt se_X10_topUpAt ml_L_155 rfl (co_0 hw) (by decide) hc_X10 (by decide) (by decide) (Nat.le_of_ble_eq_true rfl)) ?_
    refine lf (a_i2l dL_sum_308) ?_
    refine lf (a_ladd dL_sum_309) ?_
    refine lf (a_lstore_n dL_sum_310 (by decide)) ?_
    refine lf (a_iincN dL_sum_311 rfl (by decide)) ?_
    refine lf (a_goto (tgt := 263) dL_sum_314 (by decide)) ?_
    have q9 := ih (m + 1) _ (by omega) hI
    simp only [itN_succ] at q9
    exact lf (a_loc _ rfl) q9
theorem t_L_sum (hI : LwV p p0 q d H S N μ) : CV Y_L_sum R_L_sum [.ref 0] μ (fun v V => v = some (.long (sumF q d)) ∧ LwA p p0 q d H S N μ V) := by
  refine CV.ent yk_L_sum (Nat.le_of_ble_eq_true rfl) ?_
  refine lf (a_lconst (0 : Int64) dL_sum_0 (by decide)) (lf (a_lstore_n dL_sum_1 (by decide)) (lf (a_iconst (0 : Int32) dL_sum_2 (by decide)) (lf (a_istore_n dL_sum_3 (by decide)) ?_)))
  refine lf (a_loc [(0, .ref 0), (1, .long (itN (sA q d) 0 0)), (3, .int (nI 0))] rfl) (l_L_sum_4 (fun W1 h1 => ?_) 12 0 μ rfl (LwA.rfl' hI))
  have e0 : itN (sA q d) 0 12 = itN (sB q d) (sS1 q d) 0 := by
    rw [itN_zero (sB q d) (sS1 q d)]
    unfold sS1
    rfl
  rw [e0]
  refine lf (a_iconst (0 : Int32) dL_sum_66 (by decide)) (lf (a_istore_n dL_sum_67 (by decide)) ?_)
  refine lf (a_loc [(0, .ref 0), (1, .long (itN (sB q d) (sS1 q d) 0)), (3, .int (nI 0))] rfl) (l_L_sum_68 (μ := W1) (fun W2 h2 => ?_) (pC q) 0 _ (by omega) (LwA.rfl' h1.1))
  have h2 := h1.tr h2
  have e1 : itN (sB q d) (sS1 q d) (pC q) = itN (sC q d) (sS2 q d) 0 := by
    rw [itN_zero (sC q d) (sS2 q d)]
    unfold sS2
    rfl
  rw [e1]
  refine lf (a_iconst (0 : Int32) dL_sum_114 (by decide)) (lf (a_istore_n dL_sum_115 (by decide)) ?_)
  refine lf (a_loc [(0, .ref 0), (1, .long (itN (sC q d) (sS2 q d) 0)), (3, .int (nI 0))] rfl) (l_L_sum_116 (μ := W2) (fun W3 h3 => ?_) (pM q) 0 _ (by omega) (LwA.rfl' h2.1))
  have h3 := h2.tr h3
  have e2 : itN (sC q d) (sS2 q d) (pM q) = itN (sD q d) (sS3 q d) 0 := by
    rw [itN_zero (sD q d) (sS3 q d)]
    unfold sS3
    rfl
  rw [e2]
  refine lf (a_iconst (0 : Int32) dL_sum_162 (by decide)) (lf (a_istore_n dL_sum_163 (by decide)) ?_)
  refine lf (a_loc [(0, .ref 0), (1, .long (itN (sD q d) (sS3 q d) 0)), (3, .int (nI 0))] rfl) (l_L_sum_164 (μ := W3) (fun W4 h4 => ?_) (dP d) 0 _ (by omega) (LwA.rfl' h3.1))
  have h4 := h3.tr h4
  have e3 : itN (sD q d) (sS3 q d) (dP d) = itN (sE q d) (sS4 q d) 0 := by
    rw [itN_zero (sE q d) (sS4 q d)]
    unfold sS4
    rfl
  rw [e3]
  refine lf (a_iconst (0 : Int32) dL_sum_210 (by decide)) (lf (a_istore_n dL_sum_211 (by decide)) ?_)
  refine lf (a_loc [(0, .ref 0), (1, .long (itN (sE q d) (sS4 q d) 0)), (3, .int (nI 0))] rfl) (l_L_sum_212 (μ := W4) (fun W5 h5 => ?_) (pT q) 0 _ (by omega) (LwA.rfl' h4.1))
  have h5 := h4.tr h5
  have e4 : itN (sE q d) (sS4 q d) (pT q) = itN (sF d) (sS5 q d) 0 := by
    rw [itN_zero (sF d) (sS5 q d)]
    unfold sS5
    rfl
  rw [e4]
  refine lf (a_iconst (0 : Int32) dL_sum_261 (by decide)) (lf (a_istore_n dL_sum_262 (by decide)) ?_)
  refine lf (a_loc [(0, .ref 0), (1, .long (itN (sF d) (sS5 q d) 0)), (3, .int (nI 0))] rfl) (l_L_sum_263 (μ := W5) (fun W6 h6 => ?_) (dU d) 0 _ (by omega) (LwA.rfl' h5.1))
  have h6 := h5.tr h6
  refine lf (a_lload_n dL_sum_317 rfl) ?_
  have e9 : itN (sF d) (sS5 q d) (dU d) = sumF q d := by
    unfold sumF
    rfl
  rw [e9]
  exact ⟨_, _, a_lreturn dL_sum_318 rfl, _, rfl, rfl, h6⟩
end SUM
