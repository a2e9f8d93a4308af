section ORDER3
variable {μ : Wd} {p f : Nat} {q : PDt} {d : FDt}
abbrev R_X6_divide : Room := { frames := 1, cells := 0, slots := 0, locals := 23 }
abbrev RX_X6_divide : Room := { frames := 1, cells := 1, slots := 6, locals := 23 }

theorem shD_def (q : PDt) (c : Int32) : shD q c = itN (fun i a => a + if pF q 2 i = c then pF q 3 i else 0) 0 (pM q) := rfl
theorem l_X6_divide_6 (hw : Wf μ) (hq : PV μ p q) (c w : Int32) {Q : Oc → Wd → Prop} (kx : WP Y_X6_divide R_X6_divide (0, 0) μ 54 [(0, .ref 324), (1, .ref p), (2, .int c), (3, .int w), (4, .int (itN (fun i a => a + if pF q 2 i = c then pF q 3 i else 0) 0 (pM q))), (5, .int (nI (pM q)))] [] Q) : ∀ d m, m + d = pM q → WP Y_X6_divide R_X6_divide (0, 0) μ 6 [(0, .ref 324), (1, .ref p), (2, .int c), (3, .int w), (4, .int (itN (fun i a => a + if pF q 2 i = c then pF q 3 i else 0) 0 m)), (5, .int (nI m))] [] Q := by
  have hM4 := hq.M4
  have hp := hq.pl
  intro d
  induction d with
  | zero =>
    intro m hm
    obtain rfl : m = pM q := by omega
    refine lf (a_iload dX6_divide_6 rfl) ?_
    refine lf (a_aload_n dX6_divide_8 rfl) ?_
    refine lf (a_getI dX6_divide_9 fs_X6_65 rfl (pl_o hw hp)) ?_
    rw [hq.hM]
    refine lf2 (a_icmp_ge (tgt := 54) dX6_divide_12 (by decide)) (fun h12 => ?_) (fun h12 => absurd h12 (fun z => z (nI_le (Nat.le_refl _) (by omega))))
    exact lf (a_loc _ rfl) kx
  | succ d ih =>
    intro m hm
    have z := ih (m + 1) (by omega)
    rw [itN_succ] at z
    refine lf (a_iload dX6_divide_6 rfl) ?_
    refine lf (a_aload_n dX6_divide_8 rfl) ?_
    refine lf (a_getI dX6_divide_9 fs_X6_65 rfl (pl_o hw hp)) ?_
    rw [hq.hM]
    refine lf2 (a_icmp_ge (tgt := 54) dX6_divide_12 (by decide)) (fun h12 => absurd h12 (nI_ge (by omega) (by omega))) (fun h12 => ?_)
    refine lf (a_iload dX6_divide_15 rfl) ?_
    refine lf (a_aload_n dX6_divide_17 rfl) ?_
    refine lf (a_getR (pl_r4 hw hp) dX6_divide_18 fs_X6_68 rfl (pl_o hw hp)) ?_
    refine lf (a_iload dX6_divide_21 rfl) ?_
    refine lf (a_aald (j := m) dX6_divide_23 (pl_a6 hw hp) (by decide) (ixn (by omega) (by decide)) (pl_rm hw hp (by omega))) ?_
    refine lf (a_getI dX6_divide_24 fs_X6_72 rfl (pl_m hw hp (by omega))) ?_
    rw [hq.m1 (by omega)]
    refine lf (a_iload_n dX6_divide_27 rfl) ?_
    refine lfn (a_icmp_ne (tgt := 44) dX6_divide_28 (by decide)) (fun h28 => ?_) (fun h28 => ?_)
    · rw [if_neg h28] at z
      refine lf (a_iconst (0 : Int32) dX6_divide_44 (by decide)) ?_
      refine lf (a_iadd dX6_divide_45) ?_
      refine lf (a_istore dX6_divide_46 (by decide)) ?_
      refine lf (a_iincN dX6_divide_48 rfl (by decide)) ?_
      refine lf (a_goto (tgt := 6) dX6_divide_51 (by decide)) ?_
      exact lf (a_loc _ rfl) z
    · rw [if_pos h28] at z
      refine lf (a_aload_n dX6_divide_31 rfl) ?_
      refine lf (a_getR (pl_r4 hw hp) dX6_divide_32 fs_X6_68 rfl (pl_o hw hp)) ?_
      refine lf (a_iload dX6_divide_35 rfl) ?_
      refine lf (a_aald (j := m) dX6_divide_37 (pl_a6 hw hp) (by decide) (ixn (by omega) (by decide)) (pl_rm hw hp (by omega))) ?_
      refine lf (a_getI dX6_divide_38 fs_X6_76 rfl (pl_m hw hp (by omega))) ?_
      rw [hq.m2 (by omega)]
      refine lf (a_goto (tgt := 45) dX6_divide_41 (by decide)) ?_
      refine lf (a_iadd dX6_divide_45) ?_
      refine lf (a_istore dX6_divide_46 (by decide)) ?_
      refine lf (a_iincN dX6_divide_48 rfl (by decide)) ?_
      refine lf (a_goto (tgt := 6) dX6_divide_51 (by decide)) ?_
      exact lf (a_loc _ rfl) z
theorem l_X6_divide_67 (hq0 : PV μ p q) {u : Nat → Int32} {c w : Int32} (hs : ¬ shD q c < 1) {Q : Oc → Wd → Prop} (kx : ∀ W : Wd, (Out sO μ W ∧ (∀ i, i < 12 → gI W 325 i = if i < (pM q) then u i + fuD q c w i else u i) ∧ ∀ i, i < (pM q) → gI W 326 i = reD q c w i) → WP Y_X6_divide R_X6_divide (0, 0) W 162 [(0, .ref 324), (1, .ref p), (2, .int c), (3, .int w), (4, .int (shD q c)), (5, .int (rsD q c w (pM q))), (6, .int (nI (pM q)))] [] Q) : ∀ dd m (W : Wd), m + dd = (pM q) → (Out sO μ W ∧ (∀ i, i < 12 → gI W 325 i = if i < m then u i + fuD q c w i else u i) ∧ ∀ i, i < m → gI W 326 i = reD q c w i) → WP Y_X6_divide R_X6_divide (0, 0) W 67 [(0, .ref 324), (1, .ref p), (2, .int c), (3, .int w), (4, .int (shD q c)), (5, .int (rsD q c w m)), (6, .int (nI m))] [] Q := by
  have hM4 := hq0.M4
  have hp := hq0.pl
  intro dd
  induction dd with
  | zero =>
    intro m W hm hI
    obtain rfl : (pM q) = m := by omega
    have hw := hI.1.1
    have hq := hq0.hi hI.1 sO_hi
    refine lf (a_iload dX6_divide_67 rfl) ?_
    refine lf (a_aload_n dX6_divide_69 rfl) ?_
    refine lf (a_getI dX6_divide_70 fs_X6_65 rfl (pl_o hw hp)) ?_
    rw [hq.hM]
    refine lf2 (a_icmp_ge (tgt := 162) dX6_divide_73 (by decide)) (fun h73 => ?_) (fun h73 => absurd h73 (fun z => z (nI_le (Nat.le_refl _) (by omega))))
    exact lf (a_loc _ rfl) (kx W hI)
  | succ dd ih =>
    intro m W hm hI
    have hw := hI.1.1
    have hq := hq0.hi hI.1 sO_hi
    have hm12 : m < 12 := by omega
    have z := ih (m + 1)
    unfold rsD at z
    rw [itN_succ] at z
    have hs0 : ¬ shD q c = 0 := fun e => hs (e ▸ by decide)
    have h3 := hI.2.2
    have e5 : gI W 325 m = u m := by rw [hI.2.1 m hm12, if_neg (Nat.lt_irrefl m)]
    refine lf (a_iload dX6_divide_67 rfl) ?_
    refine lf (a_aload_n dX6_divide_69 rfl) ?_
    refine lf (a_getI dX6_divide_70 fs_X6_65 rfl (pl_o (by repeat (first | with_reducible exact hw | with_reducible exact hwc | with_reducible assumption | with_reducible apply Wf.sI | with_reducible apply Wf.sL | with_reducible apply Wf.cpI | with_reducible apply Wf.cpL | with_reducible apply Wf.cp2 | with_reducible apply Wf.sIs | with_reducible apply Wf.sLs | with_reducible apply Wf.cpU | with_reducible apply Wf.fillI | with_reducible apply Wf.clU | with_reducible apply Wf.dnF | with_reducible apply Wf.gbW)) hp)) ?_
    rw [hq.hM]
    refine lf2 (a_icmp_ge (tgt := 162) dX6_divide_73 (by decide)) (fun h73 => absurd h73 (nI_ge (by omega) (by omega))) (fun h73 => ?_)
    refine lf (a_aload_n dX6_divide_76 rfl) ?_
    refine lf (a_getR (cr_324_1 (by repeat (first | with_reducible exact hw | with_reducible exact hwc | with_reducible assumption | with_reducible apply Wf.sI | with_reducible apply Wf.sL | with_reducible apply Wf.cpI | with_reducible apply Wf.cpL | with_reducible apply Wf.cp2 | with_reducible apply Wf.sIs | with_reducible apply Wf.sLs | with_reducible apply Wf.cpU | with_reducible apply Wf.fillI | with_reducible apply Wf.clU | with_reducible apply Wf.dnF | with_reducible apply Wf.gbW))) dX6_divide_77 fs_X6_15 rfl (co_324 (by repeat (first | with_reducible exact hw | with_reducible exact hwc | with_reducible assumption | with_reducible apply Wf.sI | with_reducible apply Wf.sL | with_reducible apply Wf.cpI | with_reducible apply Wf.cpL | with_reducible apply Wf.cp2 | with_reducible apply Wf.sIs | with_reducible apply Wf.sLs | with_reducible apply Wf.cpU | with_reducible apply Wf.fillI | with_reducible apply Wf.clU | with_reducible apply Wf.dnF | with_reducible apply Wf.gbW)))) ?_
    refine lf (a_iload dX6_divide_80 rfl) ?_
    refine lf (a_iconst (-1 : Int32) dX6_divide_82 (by decide)) ?_
    refine lf (a_ist dX6_divide_83 (ca_326 (by repeat (first | with_reducible exact hw | with_reducible exact hwc | with_reducible assumption | with_reducible apply Wf.sI | with_reducible apply Wf.sL | with_reducible apply Wf.cpI | with_reducible apply Wf.cpL | with_reducible apply Wf.cp2 | with_reducible apply Wf.sIs | with_reducible apply Wf.sLs | with_reducible apply Wf.cpU | with_reducible apply Wf.fillI | with_reducible apply Wf.clU | with_reducible apply Wf.dnF | with_reducible apply Wf.gbW))) (ixn (by omega) (by decide))) ?_
    refine lf (a_aload_n dX6_divide_84 rfl) ?_
    refine lf (a_getR (pl_r4 (by repeat (first | with_reducible exact hw | with_reducible exact hwc | with_reducible assumption | with_reducible apply Wf.sI | with_reducible apply Wf.sL | with_reducible apply Wf.cpI | with_reducible apply Wf.cpL | with_reducible apply Wf.cp2 | with_reducible apply Wf.sIs | with_reducible apply Wf.sLs | with_reducible apply Wf.cpU | with_reducible apply Wf.fillI | with_reducible apply Wf.clU | with_reducible apply Wf.dnF | with_reducible apply Wf.gbW)) hp) dX6_divide_85 fs_X6_68 rfl (pl_o (by repeat (first | with_reducible exact hw | with_reducible exact hwc | with_reducible assumption | with_reducible apply Wf.sI | with_reducible apply Wf.sL | with_reducible apply Wf.cpI | with_reducible apply Wf.cpL | with_reducible apply Wf.cp2 | with_reducible apply Wf.sIs | with_reducible apply Wf.sLs | with_reducible apply Wf.cpU | with_reducible apply Wf.fillI | with_reducible apply Wf.clU | with_reducible apply Wf.dnF | with_reducible apply Wf.gbW)) hp)) ?_
    refine lf (a_iload dX6_divide_88 rfl) ?_
    refine lf (a_aald (j := m) dX6_divide_90 (pl_a6 (by repeat (first | with_reducible exact hw | with_reducible exact hwc | with_reducible assumption | with_reducible apply Wf.sI | with_reducible apply Wf.sL | with_reducible apply Wf.cpI | with_reducible apply Wf.cpL | with_reducible apply Wf.cp2 | with_reducible apply Wf.sIs | with_reducible apply Wf.sLs | with_reducible apply Wf.cpU | with_reducible apply Wf.fillI | with_reducible apply Wf.clU | with_reducible apply Wf.dnF | with_reducible apply Wf.gbW)) hp) (by decide) (ixn (by omega) (by decide)) (pl_rm (by repeat (first | with_reducible exact hw | with_reducible exact hwc | with_reducible assumption | with_reducible apply Wf.sI | with_reducible apply Wf.sL | with_reducible apply Wf.cpI | with_reducible apply Wf.cpL | with_reducible apply Wf.cp2 | with_reducible apply Wf.sIs | with_reducible apply Wf.sLs | with_reducible apply Wf.cpU | with_reducible apply Wf.fillI | with_reducible apply Wf.clU | with_reducible apply Wf.dnF | with_reducible apply Wf.gbW)) hp (by omega))) ?_
    refine lf (a_getI dX6_divide_91 fs_X6_72 rfl (pl_m (by repeat (first | with_reducible exact hw | with_reducible exact hwc | with_reducible assumption | with_reducible apply Wf.sI | with_reducible apply Wf.sL | with_reducible apply Wf.cpI | with_reducible apply Wf.cpL | with_reducible apply Wf.cp2 | with_reducible apply Wf.sIs | with_reducible apply Wf.sLs | with_reducible apply Wf.cpU | with_reducible apply Wf.fillI | with_reducible apply Wf.clU | with_reducible apply Wf.dnF | with_reducible apply Wf.gbW)) hp (by omega))) ?_
    rw [gI_sI, if_neg (by have := hq.pl; rcases this with e | e <;> omega), hq.m1 (by omega)]
    refine lf (a_iload_n dX6_divide_94 rfl) ?_
    refine lfn (a_icmp_ne (tgt := 156) dX6_divide_95 (by decide)) (fun h95 => ?_) (fun h95 => ?_)
    · have e6 : fuD q c w m = 0 := if_neg h95
      have e7 : reD q c w m = -1 := if_neg h95
      rw [e6, Int32.sub_zero] at z
      refine lf (a_iincN dX6_divide_156 rfl (by decide)) ?_
      refine lf (a_goto (tgt := 67) dX6_divide_159 (by decide)) ?_
      refine lf (a_loc _ rfl) (z _ (by omega) ⟨?_, fun i hi => ?_, fun i hi => ?_⟩)
      · repeat (first | with_reducible exact hI.1 | with_reducible exact sO5 | with_reducible exact sO6 | with_reducible refine Out.sI ?_ ?_ _ _)
      · simp only [gI_sI]
        by_cases hx : i = m
        · subst hx; simp_all
        · have h6 := hI.2.1 i hi
          simp only [hx, and_false, if_false, h6]
          by_cases h7 : i < m
          · rw [if_pos h7, if_pos (by omega)]
          · rw [if_neg h7, if_neg (by omega)]
      · simp only [gI_sI]
        by_cases hx : i = m
        · subst hx; simp_all
        · simp only [hx, and_false, if_false]
          exact h3 i (by omega)
    · have e6 : fuD q c w m = w * pF q 3 m / shD q c := if_pos h95
      have e7 : reD q c w m = w * pF q 3 m - (w * pF q 3 m / shD q c) * shD q c := if_pos h95
      rw [e6] at z
      refine lf (a_iload_n dX6_divide_98 rfl) ?_
      refine lf (a_aload_n dX6_divide_99 rfl) ?_
      refine lf (a_getR (pl_r4 (by repeat (first | with_reducible exact hw | with_reducible exact hwc | with_reducible assumption | with_reducible apply Wf.sI | with_reducible apply Wf.sL | with_reducible apply Wf.cpI | with_reducible apply Wf.cpL | with_reducible apply Wf.cp2 | with_reducible apply Wf.sIs | with_reducible apply Wf.sLs | with_reducible apply Wf.cpU | with_reducible apply Wf.fillI | with_reducible apply Wf.clU | with_reducible apply Wf.dnF | with_reducible apply Wf.gbW)) hp) dX6_divide_100 fs_X6_68 rfl (pl_o (by repeat (first | with_reducible exact hw | with_reducible exact hwc | with_reducible assumption | with_reducible apply Wf.sI | with_reducible apply Wf.sL | with_reducible apply Wf.cpI | with_reducible apply Wf.cpL | with_reducible apply Wf.cp2 | with_reducible apply Wf.sIs | with_reducible apply Wf.sLs | with_reducible apply Wf.cpU | with_reducible apply Wf.fillI | with_reducible apply Wf.clU | with_reducible apply Wf.dnF | with_reducible apply Wf.gbW)) hp)) ?_
      refine lf (a_iload dX6_divide_103 rfl) ?_
      refine lf (a_aald (j := m) dX6_divide_105 (pl_a6 (by repeat (first | with_reducible exact hw | with_reducible exact hwc | with_reducible assumption | with_reducible apply Wf.sI | with_reducible apply Wf.sL | with_reducible apply Wf.cpI | with_reducible apply Wf.cpL | with_reducible apply Wf.cp2 | with_reducible apply Wf.sIs | with_reducible apply Wf.sLs | with_reducible apply Wf.cpU | with_reducible apply Wf.fillI | with_reducible apply Wf.clU | with_reducible apply Wf.dnF | with_reducible apply Wf.gbW)) hp) (by decide) (ixn (by omega) (by decide)) (pl_rm (by repeat (first | with_reducible exact hw | with_reducible exact hwc | with_reducible assumption | with_reducible apply Wf.sI | with_reducible apply Wf.sL | with_reducible apply Wf.cpI | with_reducible apply Wf.cpL | with_reducible apply Wf.cp2 | with_reducible apply Wf.sIs | with_reducible apply Wf.sLs | with_reducible apply Wf.cpU | with_reducible apply Wf.fillI | with_reducible apply Wf.clU | with_reducible apply Wf.dnF | with_reducible apply Wf.gbW)) hp (by omega))) ?_
      refine lf (a_getI dX6_divide_106 fs_X6_76 rfl (pl_m (by repeat (first | with_reducible exact hw | with_reducible exact hwc | with_reducible assumption | with_reducible apply Wf.sI | with_reducible apply Wf.sL | with_reducible apply Wf.cpI | with_reducible apply Wf.cpL | with_reducible apply Wf.cp2 | with_reducible apply Wf.sIs | with_reducible apply Wf.sLs | with_reducible apply Wf.cpU | with_reducible apply Wf.fillI | with_reducible apply Wf.clU | with_reducible apply Wf.dnF | with_reducible apply Wf.gbW)) hp (by omega))) ?_
      rw [gI_sI, if_neg (by have := hq.pl; rcases this with e | e <;> omega), hq.m2 (by omega)]
      refine lf (a_imul dX6_divide_109) ?_
      refine lf (a_iload dX6_divide_110 rfl) ?_
      refine lf (a_idiv dX6_divide_112 hs0) ?_
      refine lf (a_istore dX6_divide_113 (by decide)) ?_
      refine lf (a_aload_n dX6_divide_115 rfl) ?_
      refine lf (a_getR (cr_324_1 (by repeat (first | with_reducible exact hw | with_reducible exact hwc | with_reducible assumption | with_reducible apply Wf.sI | with_reducible apply Wf.sL | with_reducible apply Wf.cpI | with_reducible apply Wf.cpL | with_reducible apply Wf.cp2 | with_reducible apply Wf.sIs | with_reducible apply Wf.sLs | with_reducible apply Wf.cpU | with_reducible apply Wf.fillI | with_reducible apply Wf.clU | with_reducible apply Wf.dnF | with_reducible apply Wf.gbW))) dX6_divide_116 fs_X6_15 rfl (co_324 (by repeat (first | with_reducible exact hw | with_reducible exact hwc | with_reducible assumption | with_reducible apply Wf.sI | with_reducible apply Wf.sL | with_reducible apply Wf.cpI | with_reducible apply Wf.cpL | with_reducible apply Wf.cp2 | with_reducible apply Wf.sIs | with_reducible apply Wf.sLs | with_reducible apply Wf.cpU | with_reducible apply Wf.fillI | with_reducible apply Wf.clU | with_reducible apply Wf.dnF | with_reducible apply Wf.gbW)))) ?_
      refine lf (a_iload dX6_divide_119 rfl) ?_
      refine lf (a_iload_n dX6_divide_121 rfl) ?_
      refine lf (a_aload_n dX6_divide_122 rfl) ?_
      refine lf (a_getR (pl_r4 (by repeat (first | with_reducible exact hw | with_reducible exact hwc | with_reducible assumption | with_reducible apply Wf.sI | with_reducible apply Wf.sL | with_reducible apply Wf.cpI | with_reducible apply Wf.cpL | with_reducible apply Wf.cp2 | with_reducible apply Wf.sIs | with_reducible apply Wf.sLs | with_reducible apply Wf.cpU | with_reducible apply Wf.fillI | with_reducible apply Wf.clU | with_reducible apply Wf.dnF | with_reducible apply Wf.gbW)) hp) dX6_divide_123 fs_X6_68 rfl (pl_o (by repeat (first | with_reducible exact hw | with_reducible exact hwc | with_reducible assumption | with_reducible apply Wf.sI | with_reducible apply Wf.sL | with_reducible apply Wf.cpI | with_reducible apply Wf.cpL | with_reducible apply Wf.cp2 | with_reducible apply Wf.sIs | with_reducible apply Wf.sLs | with_reducible apply Wf.cpU | with_reducible apply Wf.fillI | with_reducible apply Wf.clU | with_reducible apply Wf.dnF | with_reducible apply Wf.gbW)) hp)) ?_
      refine lf (a_iload dX6_divide_126 rfl) ?_
      refine lf (a_aald (j := m) dX6_divide_128 (pl_a6 (by repeat (first | with_reducible exact hw | with_reducible exact hwc | with_reducible assumption | with_reducible apply Wf.sI | with_reducible apply Wf.sL | with_reducible apply Wf.cpI | with_reducible apply Wf.cpL | with_reducible apply Wf.cp2 | with_reducible apply Wf.sIs | with_reducible apply Wf.sLs | with_reducible apply Wf.cpU | with_reducible apply Wf.fillI | with_reducible apply Wf.clU | with_reducible apply Wf.dnF | with_reducible apply Wf.gbW)) hp) (by decide) (ixn (by omega) (by decide)) (pl_rm (by repeat (first | with_reducible exact hw | with_reducible exact hwc | with_reducible assumption | with_reducible apply Wf.sI | with_reducible apply Wf.sL | with_reducible apply Wf.cpI | with_reducible apply Wf.cpL | with_reducible apply Wf.cp2 | with_reducible apply Wf.sIs | with_reducible apply Wf.sLs | with_reducible apply Wf.cpU | with_reducible apply Wf.fillI | with_reducible apply Wf.clU | with_reducible apply Wf.dnF | with_reducible apply Wf.gbW)) hp (by omega))) ?_
      refine lf (a_getI dX6_divide_129 fs_X6_76 rfl (pl_m (by repeat (first | with_reducible exact hw | with_reducible exact hwc | with_reducible assumption | with_reducible apply Wf.sI | with_reducible apply Wf.sL | with_reducible apply Wf.cpI | with_reducible apply Wf.cpL | with_reducible apply Wf.cp2 | with_reducible apply Wf.sIs | with_reducible apply Wf.sLs | with_reducible apply Wf.cpU | with_reducible apply Wf.fillI | with_reducible apply Wf.clU | with_reducible apply Wf.dnF | with_reducible apply Wf.gbW)) hp (by omega))) ?_
      rw [gI_sI, if_neg (by have := hq.pl; rcases this with e | e <;> omega), hq.m2 (by omega)]
      refine lf (a_imul dX6_divide_132) ?_
      refine lf (a_iload dX6_divide_133 rfl) ?_
      refine lf (a_irem dX6_divide_135 hs0) ?_
      refine lf (a_ist dX6_divide_136 (ca_326 (by repeat (first | with_reducible exact hw | with_reducible exact hwc | with_reducible assumption | with_reducible apply Wf.sI | with_reducible apply Wf.sL | with_reducible apply Wf.cpI | with_reducible apply Wf.cpL | with_reducible apply Wf.cp2 | with_reducible apply Wf.sIs | with_reducible apply Wf.sLs | with_reducible apply Wf.cpU | with_reducible apply Wf.fillI | with_reducible apply Wf.clU | with_reducible apply Wf.dnF | with_reducible apply Wf.gbW))) (ixn (by omega) (by decide))) ?_
      refine lf (a_aload_n dX6_divide_137 rfl) ?_
      refine lf (a_getR (cr_324_0 (by repeat (first | with_reducible exact hw | with_reducible exact hwc | with_reducible assumption | with_reducible apply Wf.sI | with_reducible apply Wf.sL | with_reducible apply Wf.cpI | with_reducible apply Wf.cpL | with_reducible apply Wf.cp2 | with_reducible apply Wf.sIs | with_reducible apply Wf.sLs | with_reducible apply Wf.cpU | with_reducible apply Wf.fillI | with_reducible apply Wf.clU | with_reducible apply Wf.dnF | with_reducible apply Wf.gbW))) dX6_divide_138 fs_X6_9 rfl (co_324 (by repeat (first | with_reducible exact hw | with_reducible exact hwc | with_reducible assumption | with_reducible apply Wf.sI | with_reducible apply Wf.sL | with_reducible apply Wf.cpI | with_reducible apply Wf.cpL | with_reducible apply Wf.cp2 | with_reducible apply Wf.sIs | with_reducible apply Wf.sLs | with_reducible apply Wf.cpU | with_reducible apply Wf.fillI | with_reducible apply Wf.clU | with_reducible apply Wf.dnF | with_reducible apply Wf.gbW)))) ?_
      refine lf (a_iload dX6_divide_141 rfl) ?_
      refine lf (a_dup2 dX6_divide_143 rfl rfl) ?_
      refine lf (a_ild dX6_divide_144 (ca_325 (by repeat (first | with_reducible exact hw | with_reducible exact hwc | with_reducible assumption | with_reducible apply Wf.sI | with_reducible apply Wf.sL | with_reducible apply Wf.cpI | with_reducible apply Wf.cpL | with_reducible apply Wf.cp2 | with_reducible apply Wf.sIs | with_reducible apply Wf.sLs | with_reducible apply Wf.cpU | with_reducible apply Wf.fillI | with_reducible apply Wf.clU | with_reducible apply Wf.dnF | with_reducible apply Wf.gbW))) (ixn (by omega) (by decide))) ?_
      rw [gI_sI, if_neg (by omega), gI_sI, if_neg (by omega), e5]
      refine lf (a_iload dX6_divide_145 rfl) ?_
      refine lf (a_iadd dX6_divide_147) ?_
      refine lf (a_ist dX6_divide_148 (ca_325 (by repeat (first | with_reducible exact hw | with_reducible exact hwc | with_reducible assumption | with_reducible apply Wf.sI | with_reducible apply Wf.sL | with_reducible apply Wf.cpI | with_reducible apply Wf.cpL | with_reducible apply Wf.cp2 | with_reducible apply Wf.sIs | with_reducible apply Wf.sLs | with_reducible apply Wf.cpU | with_reducible apply Wf.fillI | with_reducible apply Wf.clU | with_reducible apply Wf.dnF | with_reducible apply Wf.gbW))) (ixn (by omega) (by decide))) ?_
      refine lf (a_iload dX6_divide_149 rfl) ?_
      refine lf (a_iload dX6_divide_151 rfl) ?_
      refine lf (a_isub dX6_divide_153) ?_
      refine lf (a_istore dX6_divide_154 (by decide)) ?_
      refine lf (a_iincN dX6_divide_156 rfl (by decide)) ?_
      refine lf (a_goto (tgt := 67) dX6_divide_159 (by decide)) ?_
      refine lf (a_loc _ rfl) (z _ (by omega) ⟨?_, fun i hi => ?_, fun i hi => ?_⟩)
      · repeat (first | with_reducible exact hI.1 | with_reducible exact sO5 | with_reducible exact sO6 | with_reducible refine Out.sI ?_ ?_ _ _)
      · simp only [gI_sI]
        by_cases hx : i = m
        · subst hx; simp_all
        · have h6 := hI.2.1 i hi
          simp only [hx, and_false, if_false, h6]
          by_cases h7 : i < m
          · rw [if_pos h7, if_pos (by omega)]
          · rw [if_neg h7, if_neg (by omega)]
      · simp only [gI_sI]
        by_cases hx : i = m
        · subst hx; simp_all
        · simp only [hx, and_false, if_false]
          exact h3 i (by omega)
theorem l_X6_divide_162 (hq0 : PV μ p q) (h0 : 0 < pM q) {c w s : Int32} : ∀ (n : Nat) (x : Int32) (u r : Nat → Int32) (W : Wd), nN x = n → Out sO μ W → (∀ i, i < 12 → gI W 325 i = u i) → (∀ i, i < pM q → gI W 326 i = r i) →
    WP Y_X6_divide R_X6_divide (0, 0) W 162 [(0, .ref 324), (1, .ref p), (2, .int c), (3, .int w), (4, .int s), (5, .int x)] [] (fun o V => ∃ v, o = .inl v ∧ v = none ∧ Out sO μ V ∧ ∀ i, i < 12 → gI V 325 i = dlD (pM q - 1) n u r i) := by
  have hM4 := hq0.M4
  have hp := hq0.pl
  intro n
  induction n with
  | zero =>
    intro x u r W hx hO hu hr
    have hx0 : x ≤ 0 := Classical.byContradiction fun z => by
      obtain ⟨n, h1, _⟩ := nN_pos z
      omega
    refine lf (a_iload dX6_divide_162 rfl) ?_
    refine lf2 (a_if_le (tgt := 202) dX6_divide_164 (by decide)) (fun h164 => ?_) (fun h164 => absurd h164 (fun z => z hx0))
    refine ⟨_, _, (a_return dX6_divide_202 rfl), ?_⟩
    exact ⟨_, rfl, rfl, hO, hu⟩
  | succ n ih =>
    intro x u r W hx hO hu hr
    have hx0 : ¬ x ≤ 0 := fun z => by rw [nN_neg z] at hx; omega
    have hw := hO.1
    have hq := hq0.hi hO sO_hi
    obtain ⟨k, h1, h2, h3⟩ := nN_pos hx0
    obtain rfl : k = n := by omega
    have hg : grD (gI W 326) (pM q - 1) = grD r (pM q - 1) := grD_congr fun i hi => hr i (by omega)
    have hl := grD_le r (pM q - 1)
    refine lf (a_iload dX6_divide_162 rfl) ?_
    refine lf2 (a_if_le (tgt := 202) dX6_divide_164 (by decide)) (fun h164 => absurd h164 hx0) (fun h164 => ?_)
    refine lf (a_aload_n dX6_divide_167 rfl) ?_
    refine lf (a_aload_n dX6_divide_168 rfl) ?_
    refine lf (a_getI dX6_divide_169 fs_X6_65 rfl (pl_o (by repeat (first | with_reducible exact hw | with_reducible exact hwc | with_reducible assumption | with_reducible apply Wf.sI | with_reducible apply Wf.sL | with_reducible apply Wf.cpI | with_reducible apply Wf.cpL | with_reducible apply Wf.cp2 | with_reducible apply Wf.sIs | with_reducible apply Wf.sLs | with_reducible apply Wf.cpU | with_reducible apply Wf.fillI | with_reducible apply Wf.clU | with_reducible apply Wf.dnF | with_reducible apply Wf.gbW)) hp)) ?_
    rw [hq.hM]
    refine lf (a_inv (b2 := (0, 0)) (t_X6_greatestRemainder (by repeat (first | with_reducible exact hw | with_reducible exact hwc | with_reducible assumption | with_reducible apply Wf.sI | with_reducible apply Wf.sL | with_reducible apply Wf.cpI | with_reducible apply Wf.cpL | with_reducible apply Wf.cp2 | with_reducible apply Wf.sIs | with_reducible apply Wf.sLs | with_reducible apply Wf.cpU | with_reducible apply Wf.fillI | with_reducible apply Wf.clU | with_reducible apply Wf.dnF | with_reducible apply Wf.gbW)) hM4 (r := gI W 326) (fun i _ => rfl)) rfl dX6_divide_172 yk_X6_greatestRemainder im_X6_greatestRemainder se_X6_greatestRemainder ml_X6_79 rfl (co_324 (by repeat (first | with_reducible exact hw | with_reducible exact hwc | with_reducible assumption | with_reducible apply Wf.sI | with_reducible apply Wf.sL | with_reducible apply Wf.cpI | with_reducible apply Wf.cpL | with_reducible apply Wf.cp2 | with_reducible apply Wf.sIs | with_reducible apply Wf.sLs | with_reducible apply Wf.cpU | with_reducible apply Wf.fillI | with_reducible apply Wf.clU | with_reducible apply Wf.dnF | with_reducible apply Wf.gbW))) (by decide) hc_X6 (by decide) (by decide) (Nat.le_of_ble_eq_true rfl)) ?_
    rw [hg]
    refine lf (a_istore dX6_divide_175 (by decide)) ?_
    refine lf (a_aload_n dX6_divide_177 rfl) ?_
    refine lf (a_getR (cr_324_0 (by repeat (first | with_reducible exact hw | with_reducible exact hwc | with_reducible assumption | with_reducible apply Wf.sI | with_reducible apply Wf.sL | with_reducible apply Wf.cpI | with_reducible apply Wf.cpL | with_reducible apply Wf.cp2 | with_reducible apply Wf.sIs | with_reducible apply Wf.sLs | with_reducible apply Wf.cpU | with_reducible apply Wf.fillI | with_reducible apply Wf.clU | with_reducible apply Wf.dnF | with_reducible apply Wf.gbW))) dX6_divide_178 fs_X6_9 rfl (co_324 (by repeat (first | with_reducible exact hw | with_reducible exact hwc | with_reducible assumption | with_reducible apply Wf.sI | with_reducible apply Wf.sL | with_reducible apply Wf.cpI | with_reducible apply Wf.cpL | with_reducible apply Wf.cp2 | with_reducible apply Wf.sIs | with_reducible apply Wf.sLs | with_reducible apply Wf.cpU | with_reducible apply Wf.fillI | with_reducible apply Wf.clU | with_reducible apply Wf.dnF | with_reducible apply Wf.gbW)))) ?_
    refine lf (a_iload dX6_divide_181 rfl) ?_
    refine lf (a_dup2 dX6_divide_183 rfl rfl) ?_
    refine lf (a_ild dX6_divide_184 (ca_325 (by repeat (first | with_reducible exact hw | with_reducible exact hwc | with_reducible assumption | with_reducible apply Wf.sI | with_reducible apply Wf.sL | with_reducible apply Wf.cpI | with_reducible apply Wf.cpL | with_reducible apply Wf.cp2 | with_reducible apply Wf.sIs | with_reducible apply Wf.sLs | with_reducible apply Wf.cpU | with_reducible apply Wf.fillI | with_reducible apply Wf.clU | with_reducible apply Wf.dnF | with_reducible apply Wf.gbW))) (ixn (show grD r (pM q - 1) < 12 by omega) (by decide))) ?_
    rw [hu _ (by omega)]
    refine lf (a_iconst (1 : Int32) dX6_divide_185 (by decide)) ?_
    refine lf (a_iadd dX6_divide_186) ?_
    refine lf (a_ist dX6_divide_187 (ca_325 (by repeat (first | with_reducible exact hw | with_reducible exact hwc | with_reducible assumption | with_reducible apply Wf.sI | with_reducible apply Wf.sL | with_reducible apply Wf.cpI | with_reducible apply Wf.cpL | with_reducible apply Wf.cp2 | with_reducible apply Wf.sIs | with_reducible apply Wf.sLs | with_reducible apply Wf.cpU | with_reducible apply Wf.fillI | with_reducible apply Wf.clU | with_reducible apply Wf.dnF | with_reducible apply Wf.gbW))) (ixn (show grD r (pM q - 1) < 12 by omega) (by decide))) ?_
    refine lf (a_aload_n dX6_divide_188 rfl) ?_
    refine lf (a_getR (cr_324_1 (by repeat (first | with_reducible exact hw | with_reducible exact hwc | with_reducible assumption | with_reducible apply Wf.sI | with_reducible apply Wf.sL | with_reducible apply Wf.cpI | with_reducible apply Wf.cpL | with_reducible apply Wf.cp2 | with_reducible apply Wf.sIs | with_reducible apply Wf.sLs | with_reducible apply Wf.cpU | with_reducible apply Wf.fillI | with_reducible apply Wf.clU | with_reducible apply Wf.dnF | with_reducible apply Wf.gbW))) dX6_divide_189 fs_X6_15 rfl (co_324 (by repeat (first | with_reducible exact hw | with_reducible exact hwc | with_reducible assumption | with_reducible apply Wf.sI | with_reducible apply Wf.sL | with_reducible apply Wf.cpI | with_reducible apply Wf.cpL | with_reducible apply Wf.cp2 | with_reducible apply Wf.sIs | with_reducible apply Wf.sLs | with_reducible apply Wf.cpU | with_reducible apply Wf.fillI | with_reducible apply Wf.clU | with_reducible apply Wf.dnF | with_reducible apply Wf.gbW)))) ?_
    refine lf (a_iload dX6_divide_192 rfl) ?_
    refine lf (a_iconst (-1 : Int32) dX6_divide_194 (by decide)) ?_
    refine lf (a_ist dX6_divide_195 (ca_326 (by repeat (first | with_reducible exact hw | with_reducible exact hwc | with_reducible assumption | with_reducible apply Wf.sI | with_reducible apply Wf.sL | with_reducible apply Wf.cpI | with_reducible apply Wf.cpL | with_reducible apply Wf.cp2 | with_reducible apply Wf.sIs | with_reducible apply Wf.sLs | with_reducible apply Wf.cpU | with_reducible apply Wf.fillI | with_reducible apply Wf.clU | with_reducible apply Wf.dnF | with_reducible apply Wf.gbW))) (ixn (show grD r (pM q - 1) < 12 by omega) (by decide))) ?_
    refine lf (a_iinc (-1 : Int32) dX6_divide_196 (by decide) rfl (by decide)) ?_
    refine lf (a_goto (tgt := 162) dX6_divide_199 (by decide)) ?_
    refine lf (a_loc _ rfl) (ih _ (up1 u (grD r (pM q - 1)) (u (grD r (pM q - 1)) + 1)) (up1 r (grD r (pM q - 1)) (-1)) _ ?_ ?_ (fun i hi => ?_) (fun i hi => ?_))
    · rw [h2, pk_m1]; exact nN_nI (by omega)
    · repeat (first | with_reducible exact hO | with_reducible exact sO5 | with_reducible exact sO6 | with_reducible refine Out.sI ?_ ?_ _ _)
    · simp only [gI_sI]
      unfold up1
      by_cases hx : i = grD r (pM q - 1)
      · simp [hx]
      · simp only [hx, and_false, if_false]; exact hu i hi
    · simp only [gI_sI]
      unfold up1
      by_cases hx : i = grD r (pM q - 1)
      · simp [hx]
      · simp only [hx, and_false, if_false]; exact hr i hi
theorem t_X6_divide (hw : Wf μ) (hq : PV μ p q) {u : Nat → Int32} (hu : ∀ i, i < 12 → gI μ 325 i = u i) (c w : Int32) : CV Y_X6_divide R_X6_divide [.ref 324, .ref p, .int c, .int w] μ (fun v V => v = none ∧ Out sO μ V ∧ ∀ i, i < 12 → gI V 325 i = diD q c w u i) := by
  refine CV.ent yk_X6_divide (Nat.le_of_ble_eq_true rfl) ?_
  refine lf (a_iconst (0 : Int32) dX6_divide_0 (by decide)) ?_
  refine lf (a_istore dX6_divide_1 (by decide)) ?_
  refine lf (a_iconst (0 : Int32) dX6_divide_3 (by decide)) ?_
  refine lf (a_istore dX6_divide_4 (by decide)) ?_
  refine lf (a_loc [(0, .ref 324), (1, .ref p), (2, .int c), (3, .int w), (4, .int (itN (fun i a => a + if pF q 2 i = c then pF q 3 i else 0) 0 0)), (5, .int (nI 0))] rfl) (l_X6_divide_6 hw hq c w ?_ (pM q) 0 (by omega))
  rw [← shD_def]
  have hM4 := hq.M4
  refine lf (a_iload dX6_divide_54 rfl) ?_
  refine lf (a_iconst (1 : Int32) dX6_divide_56 (by decide)) ?_
  refine lf2 (a_icmp_ge (tgt := 61) dX6_divide_57 (by decide)) (fun h57 => ?_) (fun h57 => ?_)
  · have hs : ¬ shD q c < 1 := fun z => Int32.not_le.mpr z h57
    refine lf (a_iload_n dX6_divide_61 rfl) ?_
    refine lf (a_istore dX6_divide_62 (by decide)) ?_
    refine lf (a_iconst (0 : Int32) dX6_divide_64 (by decide)) ?_
    refine lf (a_istore dX6_divide_65 (by decide)) ?_
    have h0 : 0 < pM q := Nat.pos_of_ne_zero fun z => hs (by rw [shD, z, itN_zero]; decide)
    refine lf (a_loc [(0, .ref 324), (1, .ref p), (2, .int c), (3, .int w), (4, .int (shD q c)), (5, .int (rsD q c w 0)), (6, .int (nI 0))] rfl) (l_X6_divide_67 hq hs (u := u) (fun W hI => ?_) (pM q) 0 μ (by omega) ⟨Out.rfl' hw, fun i hi => by rw [if_neg (Nat.not_lt_zero i)]; exact hu i hi, fun i hi => absurd hi (Nat.not_lt_zero i)⟩)
    refine lf (a_loc [(0, .ref 324), (1, .ref p), (2, .int c), (3, .int w), (4, .int (shD q c)), (5, .int (rsD q c w (pM q)))] rfl) ((l_X6_divide_162 hq h0 (nN (rsD q c w (pM q))) _ _ _ W rfl hI.1 hI.2.1 hI.2.2).mono ?_)
    rintro o V ⟨v, h1, h2, h3, h4⟩
    exact ⟨v, h1, h2, h3, fun i hi => by rw [h4 i hi, diD, if_neg hs]⟩
  · have hs : shD q c < 1 := Int32.not_le.mp h57
    refine ⟨_, _, (a_return dX6_divide_60 rfl), ?_⟩
    exact ⟨_, rfl, rfl, Out.rfl' hw, fun i hi => by rw [diD, if_pos hs]; exact hu i hi⟩
abbrev R_X6_reckon : Room := { frames := 4, cells := 0, slots := 0, locals := 88 }
abbrev RX_X6_reckon : Room := { frames := 4, cells := 1, slots := 6, locals := 88 }

theorem l_X6_reckon_10 (hv0 : FV μ f p d) (hq0 : PV μ p q) {Q : Oc → Wd → Prop} (kx : ∀ W : Wd, (Out sO μ W ∧ ∀ i, i < 12 → gI W 325 i = itN (o1D q d) (fun _ => 0) (dP d) i) → WP Y_X6_reckon R_X6_reckon (0, 0) W 54 [(0, .ref 324), (1, .ref f), (2, .int (nI (dP d)))] [] Q) : ∀ dd m (W : Wd), m + dd = (dP d) → (Out sO μ W ∧ ∀ i, i < 12 → gI W 325 i = itN (o1D q d) (fun _ => 0) m i) → WP Y_X6_reckon R_X6_reckon (0, 0) W 10 [(0, .ref 324), (1, .ref f), (2, .int (nI m))] [] Q := by
  have hM4 := hq0.M4
  have hP4 := hv0.P4
  have hC4 := hq0.C4
  have hf := hv0.fl
  have hpl := hq0.pl
  intro dd
  induction dd with
  | zero =>
    intro m W hm hI
    obtain rfl : (dP d) = m := by omega
    have hw := hI.1.1
    have hv := hv0.hi hI.1 sO_hi
    have hq := hq0.hi hI.1 sO_hi
    have hp := hv.rp
    refine lf (a_iload_n dX6_reckon_10 rfl) ?_
    refine lf (a_aload_n dX6_reckon_11 rfl) ?_
    refine lf (a_getI dX6_reckon_12 fs_X6_24 rfl (fl_o hw hf)) ?_
    rw [hv.hP]
    refine lf2 (a_icmp_ge (tgt := 54) dX6_reckon_15 (by decide)) (fun h15 => ?_) (fun h15 => absurd h15 (fun z => z (nI_le (Nat.le_refl _) (by omega))))
    exact lf (a_loc _ rfl) (kx W hI)
  | succ dd ih =>
    intro m W hm hI
    have hw := hI.1.1
    have hv := hv0.hi hI.1 sO_hi
    have hq := hq0.hi hI.1 sO_hi
    have hp := hv.rp
    have z := ih (m + 1)
    rw [itN_succ] at z
    generalize itN (o1D q d) (fun _ => 0) m = um at z hI
    unfold o1D at z
    have hlt : ∀ b, chD q (fitD q (dF d 0 m) (dF d 1 m)) (pM q) = some b → b < pM q := fun b => chD_lt
    refine lf (a_iload_n dX6_reckon_10 rfl) ?_
    refine lf (a_aload_n dX6_reckon_11 rfl) ?_
    refine lf (a_getI dX6_reckon_12 fs_X6_24 rfl (fl_o (by repeat (first | with_reducible exact hw | with_reducible exact hwc | with_reducible assumption | with_reducible apply Wf.sI | with_reducible apply Wf.sL | with_reducible apply Wf.cpI | with_reducible apply Wf.cpL | with_reducible apply Wf.cp2 | with_reducible apply Wf.sIs | with_reducible apply Wf.sLs | with_reducible apply Wf.cpU | with_reducible apply Wf.fillI | with_reducible apply Wf.clU | with_reducible apply Wf.dnF | with_reducible apply Wf.gbW)) hf)) ?_
    rw [hv.hP]
    refine lf2 (a_icmp_ge (tgt := 54) dX6_reckon_15 (by decide)) (fun h15 => absurd h15 (nI_ge (by omega) (by omega))) (fun h15 => ?_)
    refine lf (a_aload_n dX6_reckon_18 rfl) ?_
    refine lf (a_getR (fl_r5 (by repeat (first | with_reducible exact hw | with_reducible exact hwc | with_reducible assumption | with_reducible apply Wf.sI | with_reducible apply Wf.sL | with_reducible apply Wf.cpI | with_reducible apply Wf.cpL | with_reducible apply Wf.cp2 | with_reducible apply Wf.sIs | with_reducible apply Wf.sLs | with_reducible apply Wf.cpU | with_reducible apply Wf.fillI | with_reducible apply Wf.clU | with_reducible apply Wf.dnF | with_reducible apply Wf.gbW)) hf) dX6_reckon_19 fs_X6_30 rfl (fl_o (by repeat (first | with_reducible exact hw | with_reducible exact hwc | with_reducible assumption | with_reducible apply Wf.sI | with_reducible apply Wf.sL | with_reducible apply Wf.cpI | with_reducible apply Wf.cpL | with_reducible apply Wf.cp2 | with_reducible apply Wf.sIs | with_reducible apply Wf.sLs | with_reducible apply Wf.cpU | with_reducible apply Wf.fillI | with_reducible apply Wf.clU | with_reducible apply Wf.dnF | with_reducible apply Wf.gbW)) hf)) ?_
    refine lf (a_iload_n dX6_reckon_22 rfl) ?_
    refine lf (a_ild dX6_reckon_23 (fl_a2 (by repeat (first | with_reducible exact hw | with_reducible exact hwc | with_reducible assumption | with_reducible apply Wf.sI | with_reducible apply Wf.sL | with_reducible apply Wf.cpI | with_reducible apply Wf.cpL | with_reducible apply Wf.cp2 | with_reducible apply Wf.sIs | with_reducible apply Wf.sLs | with_reducible apply Wf.cpU | with_reducible apply Wf.fillI | with_reducible apply Wf.clU | with_reducible apply Wf.dnF | with_reducible apply Wf.gbW)) hf) (ixn (by omega) (by decide))) ?_
    rw [hv.nee (by omega)]
    refine lf2 (a_if_eq (tgt := 48) dX6_reckon_24 (by decide)) (fun h24 => ?_) (fun h24 => ?_)
    · rw [if_pos h24] at z
      refine lf (a_iincN dX6_reckon_48 rfl (by decide)) ?_
      refine lf (a_goto (tgt := 10) dX6_reckon_51 (by decide)) ?_
      refine lf (a_loc _ rfl) (z _ (by omega) ⟨?_, fun i hi => ?_⟩)
      · repeat (first | with_reducible exact hI.1 | with_reducible exact sO5 | with_reducible refine Out.sI ?_ ?_ _ _)
      · first
        | exact hI.2 i hi
        | (rw [gI_sI, hI.2 b (by omega)]
           unfold up1
           by_cases hx : i = b
           · simp [hx]
           · simp only [hx, and_false, if_false]; exact hI.2 i hi)
    · rw [if_neg h24] at z
      refine lf (a_aload_n dX6_reckon_27 rfl) ?_
      refine lf (a_iload_n dX6_reckon_28 rfl) ?_
      refine lf (a_inv (b2 := (0, 0)) (v_X1_cheapestFor (by repeat (first | with_reducible exact hw | with_reducible exact hwc | with_reducible assumption | with_reducible apply Wf.sI | with_reducible apply Wf.sL | with_reducible apply Wf.cpI | with_reducible apply Wf.cpL | with_reducible apply Wf.cp2 | with_reducible apply Wf.sIs | with_reducible apply Wf.sLs | with_reducible apply Wf.cpU | with_reducible apply Wf.fillI | with_reducible apply Wf.clU | with_reducible apply Wf.dnF | with_reducible apply Wf.gbW)) hv hq (show m < dP d by omega)) rfl dX6_reckon_29 yk_X1_cheapestFor im_X1_cheapestFor se_X1_cheapestFor ml_X6_33 rfl (fl_o (by repeat (first | with_reducible exact hw | with_reducible exact hwc | with_reducible assumption | with_reducible apply Wf.sI | with_reducible apply Wf.sL | with_reducible apply Wf.cpI | with_reducible apply Wf.cpL | with_reducible apply Wf.cp2 | with_reducible apply Wf.sIs | with_reducible apply Wf.sLs | with_reducible apply Wf.cpU | with_reducible apply Wf.fillI | with_reducible apply Wf.clU | with_reducible apply Wf.dnF | with_reducible apply Wf.gbW)) hf) (by decide) hc_X1 (by decide) (by decide) (Nat.le_of_ble_eq_true rfl)) ?_
      generalize chD q (fitD q (dF d 0 m) (dF d 1 m)) (pM q) = a at hlt z ⊢
      refine lf (a_istore_n dX6_reckon_32 (by decide)) ?_
      refine lf (a_iload_n dX6_reckon_33 rfl) ?_
      refine lf (a_iconst (-1 : Int32) dX6_reckon_34 (by decide)) ?_
      refine lf2 (a_icmp_eq (tgt := 48) dX6_reckon_35 (by decide)) (fun h35 => ?_) (fun h35 => ?_)
      · have ha : a = none := by
          cases a with
          | none => rfl
          | some b => exact absurd h35 (nI_ne1 (by have := hlt b rfl; omega))
        subst ha
        refine lf (a_iincN dX6_reckon_48 rfl (by decide)) ?_
        refine lf (a_goto (tgt := 10) dX6_reckon_51 (by decide)) ?_
        refine lf (a_loc _ rfl) (z _ (by omega) ⟨?_, fun i hi => ?_⟩)
        · repeat (first | with_reducible exact hI.1 | with_reducible exact sO5 | with_reducible refine Out.sI ?_ ?_ _ _)
        · first
          | exact hI.2 i hi
          | (rw [gI_sI, hI.2 b (by omega)]
             unfold up1
             by_cases hx : i = b
             · simp [hx]
             · simp only [hx, and_false, if_false]; exact hI.2 i hi)
      · obtain ⟨b, rfl⟩ : ∃ b, a = some b := by
          cases a with
          | none => exact absurd rfl h35
          | some b => exact ⟨b, rfl⟩
        have hb := hlt b rfl
        refine lf (a_aload_n dX6_reckon_38 rfl) ?_
        refine lf (a_getR (cr_324_0 (by repeat (first | with_reducible exact hw | with_reducible exact hwc | with_reducible assumption | with_reducible apply Wf.sI | with_reducible apply Wf.sL | with_reducible apply Wf.cpI | with_reducible apply Wf.cpL | with_reducible apply Wf.cp2 | with_reducible apply Wf.sIs | with_reducible apply Wf.sLs | with_reducible apply Wf.cpU | with_reducible apply Wf.fillI | with_reducible apply Wf.clU | with_reducible apply Wf.dnF | with_reducible apply Wf.gbW))) dX6_reckon_39 fs_X6_9 rfl (co_324 (by repeat (first | with_reducible exact hw | with_reducible exact hwc | with_reducible assumption | with_reducible apply Wf.sI | with_reducible apply Wf.sL | with_reducible apply Wf.cpI | with_reducible apply Wf.cpL | with_reducible apply Wf.cp2 | with_reducible apply Wf.sIs | with_reducible apply Wf.sLs | with_reducible apply Wf.cpU | with_reducible apply Wf.fillI | with_reducible apply Wf.clU | with_reducible apply Wf.dnF | with_reducible apply Wf.gbW)))) ?_
        refine lf (a_iload_n dX6_reckon_42 rfl) ?_
        refine lf (a_dup2 dX6_reckon_43 rfl rfl) ?_
        refine lf (a_ild dX6_reckon_44 (ca_325 (by repeat (first | with_reducible exact hw | with_reducible exact hwc | with_reducible assumption | with_reducible apply Wf.sI | with_reducible apply Wf.sL | with_reducible apply Wf.cpI | with_reducible apply Wf.cpL | with_reducible apply Wf.cp2 | with_reducible apply Wf.sIs | with_reducible apply Wf.sLs | with_reducible apply Wf.cpU | with_reducible apply Wf.fillI | with_reducible apply Wf.clU | with_reducible apply Wf.dnF | with_reducible apply Wf.gbW))) (ixn (show b < 12 by omega) (by decide))) ?_
        refine lf (a_iconst (1 : Int32) dX6_reckon_45 (by decide)) ?_
        refine lf (a_iadd dX6_reckon_46) ?_
        refine lf (a_ist dX6_reckon_47 (ca_325 (by repeat (first | with_reducible exact hw | with_reducible exact hwc | with_reducible assumption | with_reducible apply Wf.sI | with_reducible apply Wf.sL | with_reducible apply Wf.cpI | with_reducible apply Wf.cpL | with_reducible apply Wf.cp2 | with_reducible apply Wf.sIs | with_reducible apply Wf.sLs | with_reducible apply Wf.cpU | with_reducible apply Wf.fillI | with_reducible apply Wf.clU | with_reducible apply Wf.dnF | with_reducible apply Wf.gbW))) (ixn (show b < 12 by omega) (by decide))) ?_
        refine lf (a_iincN dX6_reckon_48 rfl (by decide)) ?_
        refine lf (a_goto (tgt := 10) dX6_reckon_51 (by decide)) ?_
        refine lf (a_loc _ rfl) (z _ (by omega) ⟨?_, fun i hi => ?_⟩)
        · repeat (first | with_reducible exact hI.1 | with_reducible exact sO5 | with_reducible refine Out.sI ?_ ?_ _ _)
        · first
          | exact hI.2 i hi
          | (rw [gI_sI, hI.2 b (by omega)]
             unfold up1
             by_cases hx : i = b
             · simp [hx]
             · simp only [hx, and_false, if_false]; exact hI.2 i hi)
theorem l_X6_reckon_56 (hv0 : FV μ f p d) (hq0 : PV μ p q) {u0 : Nat → Int32} {Q : Oc → Wd → Prop} (kx : ∀ W : Wd, (Out sO μ W ∧ ∀ i, i < 12 → gI W 325 i = itN (o2D q d) u0 (pC q) i) → WP Y_X6_reckon R_X6_reckon (0, 0) W 125 [(0, .ref 324), (1, .ref f), (2, .int (nI (pC q)))] [] Q) : ∀ dd m (W : Wd), m + dd = (pC q) → (Out sO μ W ∧ ∀ i, i < 12 → gI W 325 i = itN (o2D q d) u0 m i) → WP Y_X6_reckon R_X6_reckon (0, 0) W 56 [(0, .ref 324), (1, .ref f), (2, .int (nI m))] [] Q := by
  have hM4 := hq0.M4
  have hP4 := hv0.P4
  have hC4 := hq0.C4
  have hf := hv0.fl
  have hpl := hq0.pl
  intro dd
  induction dd with
  | zero =>
    intro m W hm hI
    obtain rfl : (pC q) = m := by omega
    have hw := hI.1.1
    have hv := hv0.hi hI.1 sO_hi
    have hq := hq0.hi hI.1 sO_hi
    have hp := hv.rp
    refine lf (a_iload_n dX6_reckon_56 rfl) ?_
    refine lf (a_aload_n dX6_reckon_57 rfl) ?_
    refine lf (a_getR hp dX6_reckon_58 fs_X6_37 rfl (fl_o hw hf)) ?_
    refine lf (a_getI dX6_reckon_61 fs_X6_41 rfl (pl_o hw hpl)) ?_
    rw [hq.hC]
    refine lf2 (a_icmp_ge (tgt := 125) dX6_reckon_64 (by decide)) (fun h64 => ?_) (fun h64 => absurd h64 (fun z => z (nI_le (Nat.le_refl _) (by omega))))
    exact lf (a_loc _ rfl) (kx W hI)
  | succ dd ih =>
    intro m W hm hI
    have hw := hI.1.1
    have hv := hv0.hi hI.1 sO_hi
    have hq := hq0.hi hI.1 sO_hi
    have hp := hv.rp
    have z := ih (m + 1)
    rw [itN_succ] at z
    generalize itN (o2D q d) u0 m = um at z hI
    unfold o2D at z
    have hc : m < 4 := by omega
    refine lf (a_iload_n dX6_reckon_56 rfl) ?_
    refine lf (a_aload_n dX6_reckon_57 rfl) ?_
    refine lf (a_getR hp dX6_reckon_58 fs_X6_37 rfl (fl_o hw hf)) ?_
    refine lf (a_getI dX6_reckon_61 fs_X6_41 rfl (pl_o hw hpl)) ?_
    rw [hq.hC]
    refine lf2 (a_icmp_ge (tgt := 125) dX6_reckon_64 (by decide)) (fun h64 => absurd h64 (nI_ge (by omega) (by omega))) (fun h64 => ?_)
    refine lf (a_aload_n dX6_reckon_67 rfl) ?_
    refine lf (a_iload_n dX6_reckon_68 rfl) ?_
    refine lf (a_inv (b2 := (0, 0)) (v_X1_passengersIn hw hv (nI m)) rfl dX6_reckon_69 yk_X1_passengersIn im_X1_passengersIn se_X1_passengersIn ml_X6_46 rfl (fl_o hw hf) (by decide) hc_X1 (by decide) (by decide) (Nat.le_of_ble_eq_true rfl)) ?_
    refine lf (a_aload_n dX6_reckon_72 rfl) ?_
    refine lf (a_iload_n dX6_reckon_73 rfl) ?_
    refine lf (a_inv (b2 := (0, 0)) (v_X1_specialsIn hw hv (nI m)) rfl dX6_reckon_74 yk_X1_specialsIn im_X1_specialsIn se_X1_specialsIn ml_X6_49 rfl (fl_o hw hf) (by decide) hc_X1 (by decide) (by decide) (Nat.le_of_ble_eq_true rfl)) ?_
    refine lf (a_isub dX6_reckon_77) ?_
    refine lf (a_istore_n dX6_reckon_78 (by decide)) ?_
    refine lf (a_iload_n dX6_reckon_79 rfl) ?_
    refine lf (a_bipush (100 : Int32) dX6_reckon_80 (by decide)) ?_
    refine lf (a_aload_n dX6_reckon_82 rfl) ?_
    refine lf (a_getR hp dX6_reckon_83 fs_X6_37 rfl (fl_o hw hf)) ?_
    refine lf (a_getR (pl_r2 hw hpl) dX6_reckon_86 fs_X6_52 rfl (pl_o hw hpl)) ?_
    refine lf (a_iload_n dX6_reckon_89 rfl) ?_
    refine lf (a_aald (j := m) dX6_reckon_90 (pl_a1 hw hpl) (by decide) (ixn (by omega) (by decide)) (pl_rc hw hpl (by omega))) ?_
    refine lf (a_getI dX6_reckon_91 fs_X6_56 rfl (pl_c hw hpl (by omega))) ?_
    rw [hq.spare (by omega)]
    refine lf (a_iadd dX6_reckon_94) ?_
    refine lf (a_imul dX6_reckon_95) ?_
    refine lf (a_bipush (99 : Int32) dX6_reckon_96 (by decide)) ?_
    refine lf (a_iadd dX6_reckon_98) ?_
    refine lf (a_bipush (100 : Int32) dX6_reckon_99 (by decide)) ?_
    refine lf (a_idiv dX6_reckon_101 (by decide)) ?_
    refine lf (a_istore dX6_reckon_102 (by decide)) ?_
    refine lf (a_iload_n dX6_reckon_104 rfl) ?_
    refine lf2 (a_if_le (tgt := 119) dX6_reckon_105 (by decide)) (fun h105 => ?_) (fun h105 => ?_)
    · rw [if_pos h105] at z
      refine lf (a_iincN dX6_reckon_119 rfl (by decide)) ?_
      refine lf (a_goto (tgt := 56) dX6_reckon_122 (by decide)) ?_
      first
      | exact lf (a_loc _ rfl) (z _ (by omega) hI)
      | exact lf (a_loc _ rfl) (z _ (by omega) ⟨hI.1.trans hO, hu⟩)
    · rw [if_neg h105] at z
      refine lf (a_aload_n dX6_reckon_108 rfl) ?_
      refine lf (a_aload_n dX6_reckon_109 rfl) ?_
      refine lf (a_getR hp dX6_reckon_110 fs_X6_37 rfl (fl_o hw hf)) ?_
      refine lf (a_iload_n dX6_reckon_113 rfl) ?_
      refine lf (a_iload dX6_reckon_114 rfl) ?_
      obtain ⟨v_, W116, k116, rfl, hO, hu⟩ := (t_X6_divide hw hq hI.2 (nI m) (waD q d m))
      refine lf (a_inv (b2 := (0, 0)) k116 rfl dX6_reckon_116 yk_X6_divide im_X6_divide se_X6_divide ml_X6_61 rfl (co_324 hw) (by decide) hc_X6 (by decide) (by decide) (Nat.le_of_ble_eq_true rfl)) ?_
      refine lf (a_iincN dX6_reckon_119 rfl (by decide)) ?_
      refine lf (a_goto (tgt := 56) dX6_reckon_122 (by decide)) ?_
      first
      | exact lf (a_loc _ rfl) (z _ (by omega) hI)
      | exact lf (a_loc _ rfl) (z _ (by omega) ⟨hI.1.trans hO, hu⟩)
theorem t_X6_reckon (hw : Wf μ) (hv : FV μ f p d) (hq : PV μ p q) : CV Y_X6_reckon R_X6_reckon [.ref 324, .ref f] μ (fun v V => v = none ∧ Out sO μ V ∧ ∀ i, i < 12 → gI V 325 i = orD q d i) := by
  refine CV.ent yk_X6_reckon (Nat.le_of_ble_eq_true rfl) ?_
  have hf := hv.fl
  have hpl := hq.pl
  have hp := hv.rp
  have hO0 : Out sO μ (fillI μ 325 12 0) := (Out.rfl' hw).sIs fun i hi k => if_neg (show ¬ (i = 325 ∧ k < 12) from fun z => hi (by rw [z.1]; exact sO5))
  refine lf (a_aload_n dX6_reckon_0 rfl) ?_
  refine lf (a_getR (cr_324_0 hw) dX6_reckon_1 fs_X6_9 rfl (co_324 hw)) ?_
  refine lf (a_iconst (0 : Int32) dX6_reckon_4 (by decide)) ?_
  refine lf (a_invS (b2 := (0, 0)) (t_J7_fill_53178 (ca_325 hw) (by decide) 0) rfl dX6_reckon_5 yk_J7_fill_53178 sm_J7_fill_53178 ml_X6_18 rfl (by decide) (by decide) (Nat.le_of_ble_eq_true rfl)) ?_
  refine lf (a_iconst (0 : Int32) dX6_reckon_8 (by decide)) ?_
  refine lf (a_istore_n dX6_reckon_9 (by decide)) ?_
  refine lf (a_loc [(0, .ref 324), (1, .ref f), (2, .int (nI 0))] rfl) (l_X6_reckon_10 hv hq (fun W hI => ?_) (dP d) 0 _ (by omega) ⟨hO0, fun i hi => if_pos ⟨rfl, hi⟩⟩)
  refine lf (a_iconst (0 : Int32) dX6_reckon_54 (by decide)) ?_
  refine lf (a_istore_n dX6_reckon_55 (by decide)) ?_
  refine lf (a_loc [(0, .ref 324), (1, .ref f), (2, .int (nI 0))] rfl) (l_X6_reckon_56 hv hq (u0 := itN (o1D q d) (fun _ => 0) (dP d)) (fun W2 hI2 => ?_) (pC q) 0 W (by omega) hI)
  refine ⟨_, _, (a_return dX6_reckon_125 rfl), _, rfl, rfl, hI2.1, hI2.2⟩
end ORDER3
