section TOKENT
variable {Y : Yd} {rm : Room} {b : Nat × Nat} {μ μ1 W : Wd} {pc : Nat} {la : List (Nat × Value)} {st : List Value} {o : Oc} {B : Nat → Nat} {n : Nat}
theorem a_invT {Y2 : Yd} {rm2 : Room} {as sk : List Value} {v : Option Value} {μ2 : Wd} {i a n : Nat} {l : List Nat} {b2 : Nat × Nat} (hs : StrV μ a l)
    (hct : Ct Y2 rm2 (.ref a :: as) μ (.inl v) μ2) (hsk : sk = as.reverse ++ .ref a :: st) (hd : decode Y.2.1 pc = .ok (.invokevirtual i, 3)) (hy : YOK Y2 n) (hin : Cond.instanceMethod Y2.1 ∈ lwa) (hse : Cond.selects Y2.1.cls Y2.1 Y2.1 ∈ lwa) (hl : Cond.methodLink Y.1.cls i Y2.1 ∈ lwa) (ha : as.length = n) (hcl : Y2.1.cls = "java/lang/String") (hR : rm2.frames + 1 ≤ rm.frames ∧ 8 + (Y2.2.2.1 + 11) + rm2.locals ≤ rm.locals) (hb : rm2.cells + b2.1 ≤ b.1 ∧ rm2.slots + b2.2 ≤ b.2) (hst : (st.map fun v => v.category).sum ≤ 8)
    (kk : AW Y rm b2 μ2 (pc + 3) la (v.toList ++ st) o μ1) : AW Y rm b μ pc la sk o μ1 := by
  obtain ⟨-, -, ⟨c, q, rfl, hq, -⟩ | ⟨-, ho, -⟩⟩ := hs
  · exact a_invK hq hct hsk hd hy hin hse hl ha hcl hR hb hst kk
  · exact a_inv hct hsk hd hy hin hse hl ha ho (by decide) (fun r hr => by cases hr; exact hcl.symm) hR hb hst kk
/-- only the tokens' own numbers have changed -/
def OutT (μ V : Wd) : Prop := Out s80 μ V ∧ gR V 80 0 = gR μ 80 0 ∧ gI V 80 1 = gI μ 80 1
theorem OutT.rfl' (hw : Wf μ) : OutT μ μ := ⟨Out.rfl' hw, rfl, rfl⟩
theorem OutT.trans {V : Wd} (h1 : OutT μ W) (h2 : OutT W V) : OutT μ V := ⟨h1.1.trans h2.1, h2.2.1.trans h1.2.1, h2.2.2.trans h1.2.2⟩
theorem OutT.sI (h : OutT μ W) {k : Nat} (hk : k ≠ 1) (v : Int32) : OutT μ (sI W 80 k v) := ⟨h.1.sI (S := s80) rfl _ _, h.2.1, by rw [gI_sI, if_neg (fun z => hk z.2.symm)]; exact h.2.2⟩
theorem Tk.out (h : Tk B n μ) (ho : OutT μ W) : Tk B n W := ⟨ho.2.1.trans h.1, ho.2.2.trans h.2.1, h.2.2.1, fun k hk => ⟨(h.2.2.2 k hk).1, (ho.1.i (by simp only [s80]; omega) k).trans (h.2.2.2 k hk).2⟩⟩

abbrev R_X9_next : Room := { frames := 1, cells := 0, slots := 0, locals := 21 }
abbrev RX_X9_next : Room := { frames := 1, cells := 1, slots := 6, locals := 21 }

theorem l_X9_next_0 (hT0 : Tk B n μ) {s : Nat} {Q : Oc → Wd → Prop} (kx : ∀ W : Wd, OutT μ W → gI W 80 3 = nI s → WP Y_X9_next R_X9_next (0, 0) W 52 [(0, .ref 80)] [] Q) : ∀ (dd m : Nat) (W : Wd), m + dd = n → OutT μ W → gI W 80 3 = nI m → skW B (n - m) m = s → WP Y_X9_next R_X9_next (0, 0) W 0 [(0, .ref 80)] [] Q := by
  intro dd
  induction dd with
  | zero =>
    intro m W hm hO h3 hs
    obtain rfl : n = m := by omega
    rw [Nat.sub_self] at hs
    have hw := hO.1.1
    have hT := hT0.out hO
    have htx := hT.1
    have h900 := hT.2.2.1
    refine lf (a_aload_n dX9_next_0 rfl) ?_
    refine lf (a_getI dX9_next_1 fs_X9_23 rfl (co_80 hw)) ?_
    rw [h3]
    refine lf (a_aload_n dX9_next_4 rfl) ?_
    refine lf (a_getI dX9_next_5 fs_X9_19 rfl (co_80 hw)) ?_
    rw [hT.2.1]
    refine lf2 (a_icmp_ge (tgt := 52) dX9_next_8 (by decide)) (fun h8 => ?_) (fun h8 => absurd h8 (fun z => z (nI_le (Nat.le_refl _) (by omega))))
    exact lf (a_loc _ rfl) (kx W hO (by rw [h3, ← hs]; rfl))
  | succ dd ih =>
    intro m W hm hO h3 hs
    rw [show n - m = (n - (m + 1)) + 1 by omega] at hs
    unfold skW at hs
    have hw := hO.1.1
    have hT := hT0.out hO
    have htx := hT.1
    have h900 := hT.2.2.1
    obtain ⟨hB, hb1⟩ := hT.2.2.2 m (by omega)
    refine lf (a_aload_n dX9_next_0 rfl) ?_
    refine lf (a_getI dX9_next_1 fs_X9_23 rfl (co_80 (by repeat (first | with_reducible exact hw | with_reducible exact hwc | with_reducible assumption | with_reducible apply Wf.sI | with_reducible apply Wf.sL | with_reducible apply Wf.cpI | with_reducible apply Wf.cpL | with_reducible apply Wf.cp2 | with_reducible apply Wf.sIs | with_reducible apply Wf.sLs | with_reducible apply Wf.cpU | with_reducible apply Wf.fillI | with_reducible apply Wf.clU | with_reducible apply Wf.dnF | with_reducible apply Wf.gbW)))) ?_
    rw [h3]
    refine lf (a_aload_n dX9_next_4 rfl) ?_
    refine lf (a_getI dX9_next_5 fs_X9_19 rfl (co_80 (by repeat (first | with_reducible exact hw | with_reducible exact hwc | with_reducible assumption | with_reducible apply Wf.sI | with_reducible apply Wf.sL | with_reducible apply Wf.cpI | with_reducible apply Wf.cpL | with_reducible apply Wf.cp2 | with_reducible apply Wf.sIs | with_reducible apply Wf.sLs | with_reducible apply Wf.cpU | with_reducible apply Wf.fillI | with_reducible apply Wf.clU | with_reducible apply Wf.dnF | with_reducible apply Wf.gbW)))) ?_
    rw [hT.2.1]
    refine lf2 (a_icmp_ge (tgt := 52) dX9_next_8 (by decide)) (fun h8 => absurd h8 (nI_ge (show m < n by omega) (by omega))) (fun h8 => ?_)
    refine lf (a_aload_n dX9_next_11 rfl) ?_
    refine lf (a_getR htx dX9_next_12 fs_X9_7 rfl (co_80 (by repeat (first | with_reducible exact hw | with_reducible exact hwc | with_reducible assumption | with_reducible apply Wf.sI | with_reducible apply Wf.sL | with_reducible apply Wf.cpI | with_reducible apply Wf.cpL | with_reducible apply Wf.cp2 | with_reducible apply Wf.sIs | with_reducible apply Wf.sLs | with_reducible apply Wf.cpU | with_reducible apply Wf.fillI | with_reducible apply Wf.clU | with_reducible apply Wf.dnF | with_reducible apply Wf.gbW)))) ?_
    refine lf (a_aload_n dX9_next_15 rfl) ?_
    refine lf (a_getI dX9_next_16 fs_X9_23 rfl (co_80 (by repeat (first | with_reducible exact hw | with_reducible exact hwc | with_reducible assumption | with_reducible apply Wf.sI | with_reducible apply Wf.sL | with_reducible apply Wf.cpI | with_reducible apply Wf.cpL | with_reducible apply Wf.cp2 | with_reducible apply Wf.sIs | with_reducible apply Wf.sLs | with_reducible apply Wf.cpU | with_reducible apply Wf.fillI | with_reducible apply Wf.clU | with_reducible apply Wf.dnF | with_reducible apply Wf.gbW)))) ?_
    rw [h3]
    refine lf (a_bld dX9_next_19 (ca_1 (by repeat (first | with_reducible exact hw | with_reducible exact hwc | with_reducible assumption | with_reducible apply Wf.sI | with_reducible apply Wf.sL | with_reducible apply Wf.cpI | with_reducible apply Wf.cpL | with_reducible apply Wf.cp2 | with_reducible apply Wf.sIs | with_reducible apply Wf.sLs | with_reducible apply Wf.cpU | with_reducible apply Wf.fillI | with_reducible apply Wf.clU | with_reducible apply Wf.dnF | with_reducible apply Wf.gbW))) (ixn (show m < 900 by omega) (by decide))) ?_
    rw [hb1]
    refine lf (a_bipush (32 : Int32) dX9_next_20 (by decide)) ?_
    refine lf2 (a_icmp_eq (tgt := 39) dX9_next_22 (by decide)) (fun h22 => ?_) (fun h22 => ?_)
    · rw [if_pos ((sby_eq _ hB 32 (by decide)).mp h22)] at hs
      refine lf (a_aload_n dX9_next_39 rfl) ?_
      refine lf (a_dup dX9_next_40 rfl) ?_
      refine lf (a_getI dX9_next_41 fs_X9_23 rfl (co_80 (by repeat (first | with_reducible exact hw | with_reducible exact hwc | with_reducible assumption | with_reducible apply Wf.sI | with_reducible apply Wf.sL | with_reducible apply Wf.cpI | with_reducible apply Wf.cpL | with_reducible apply Wf.cp2 | with_reducible apply Wf.sIs | with_reducible apply Wf.sLs | with_reducible apply Wf.cpU | with_reducible apply Wf.fillI | with_reducible apply Wf.clU | with_reducible apply Wf.dnF | with_reducible apply Wf.gbW)))) ?_
      rw [h3]
      refine lf (a_iconst (1 : Int32) dX9_next_44 (by decide)) ?_
      refine lf (a_iadd dX9_next_45) ?_
      rw [← nI_succ]
      refine lf (a_putI dX9_next_46 fs_X9_23 rfl rfl rfl (co_80 (by repeat (first | with_reducible exact hw | with_reducible exact hwc | with_reducible assumption | with_reducible apply Wf.sI | with_reducible apply Wf.sL | with_reducible apply Wf.cpI | with_reducible apply Wf.cpL | with_reducible apply Wf.cp2 | with_reducible apply Wf.sIs | with_reducible apply Wf.sLs | with_reducible apply Wf.cpU | with_reducible apply Wf.fillI | with_reducible apply Wf.clU | with_reducible apply Wf.dnF | with_reducible apply Wf.gbW)))) ?_
      refine lf (a_goto (tgt := 0) dX9_next_49 (by decide)) ?_
      exact lf (a_loc _ rfl) (ih (m + 1) _ (by omega) (hO.sI (by decide) _) (by rw [gI_sI, if_pos ⟨rfl, rfl⟩]) hs)
    · rw [if_neg (fun z => h22 ((sby_eq _ hB 32 (by decide)).mpr z))] at hs
      refine lf (a_aload_n dX9_next_25 rfl) ?_
      refine lf (a_getR htx dX9_next_26 fs_X9_7 rfl (co_80 (by repeat (first | with_reducible exact hw | with_reducible exact hwc | with_reducible assumption | with_reducible apply Wf.sI | with_reducible apply Wf.sL | with_reducible apply Wf.cpI | with_reducible apply Wf.cpL | with_reducible apply Wf.cp2 | with_reducible apply Wf.sIs | with_reducible apply Wf.sLs | with_reducible apply Wf.cpU | with_reducible apply Wf.fillI | with_reducible apply Wf.clU | with_reducible apply Wf.dnF | with_reducible apply Wf.gbW)))) ?_
      refine lf (a_aload_n dX9_next_29 rfl) ?_
      refine lf (a_getI dX9_next_30 fs_X9_23 rfl (co_80 (by repeat (first | with_reducible exact hw | with_reducible exact hwc | with_reducible assumption | with_reducible apply Wf.sI | with_reducible apply Wf.sL | with_reducible apply Wf.cpI | with_reducible apply Wf.cpL | with_reducible apply Wf.cp2 | with_reducible apply Wf.sIs | with_reducible apply Wf.sLs | with_reducible apply Wf.cpU | with_reducible apply Wf.fillI | with_reducible apply Wf.clU | with_reducible apply Wf.dnF | with_reducible apply Wf.gbW)))) ?_
      rw [h3]
      refine lf (a_bld dX9_next_33 (ca_1 (by repeat (first | with_reducible exact hw | with_reducible exact hwc | with_reducible assumption | with_reducible apply Wf.sI | with_reducible apply Wf.sL | with_reducible apply Wf.cpI | with_reducible apply Wf.cpL | with_reducible apply Wf.cp2 | with_reducible apply Wf.sIs | with_reducible apply Wf.sLs | with_reducible apply Wf.cpU | with_reducible apply Wf.fillI | with_reducible apply Wf.clU | with_reducible apply Wf.dnF | with_reducible apply Wf.gbW))) (ixn (show m < 900 by omega) (by decide))) ?_
      rw [hb1]
      refine lf (a_bipush (10 : Int32) dX9_next_34 (by decide)) ?_
      refine lfn (a_icmp_ne (tgt := 52) dX9_next_36 (by decide)) (fun h36 => ?_) (fun h36 => ?_)
      · rw [if_neg (fun z => h36 ((sby_eq _ hB 10 (by decide)).mpr z))] at hs
        exact lf (a_loc _ rfl) (kx W hO (by rw [h3, hs]))
      · rw [if_pos ((sby_eq _ hB 10 (by decide)).mp h36)] at hs
        refine lf (a_aload_n dX9_next_39 rfl) ?_
        refine lf (a_dup dX9_next_40 rfl) ?_
        refine lf (a_getI dX9_next_41 fs_X9_23 rfl (co_80 (by repeat (first | with_reducible exact hw | with_reducible exact hwc | with_reducible assumption | with_reducible apply Wf.sI | with_reducible apply Wf.sL | with_reducible apply Wf.cpI | with_reducible apply Wf.cpL | with_reducible apply Wf.cp2 | with_reducible apply Wf.sIs | with_reducible apply Wf.sLs | with_reducible apply Wf.cpU | with_reducible apply Wf.fillI | with_reducible apply Wf.clU | with_reducible apply Wf.dnF | with_reducible apply Wf.gbW)))) ?_
        rw [h3]
        refine lf (a_iconst (1 : Int32) dX9_next_44 (by decide)) ?_
        refine lf (a_iadd dX9_next_45) ?_
        rw [← nI_succ]
        refine lf (a_putI dX9_next_46 fs_X9_23 rfl rfl rfl (co_80 (by repeat (first | with_reducible exact hw | with_reducible exact hwc | with_reducible assumption | with_reducible apply Wf.sI | with_reducible apply Wf.sL | with_reducible apply Wf.cpI | with_reducible apply Wf.cpL | with_reducible apply Wf.cp2 | with_reducible apply Wf.sIs | with_reducible apply Wf.sLs | with_reducible apply Wf.cpU | with_reducible apply Wf.fillI | with_reducible apply Wf.clU | with_reducible apply Wf.dnF | with_reducible apply Wf.gbW)))) ?_
        refine lf (a_goto (tgt := 0) dX9_next_49 (by decide)) ?_
        exact lf (a_loc _ rfl) (ih (m + 1) _ (by omega) (hO.sI (by decide) _) (by rw [gI_sI, if_pos ⟨rfl, rfl⟩]) hs)
theorem l_X9_next_119 (hT0 : Tk B n μ) {k e : Nat} (hk0 : gI μ 80 4 = nI k) (hk4 : k ≤ 4) {Q : Oc → Wd → Prop} (kx : ∀ W : Wd, OutT μ W → (∀ j, j ≠ 3 → gI W 80 j = gI μ 80 j) → gI W 80 3 = nI e → WP Y_X9_next R_X9_next (0, 0) W 162 [(0, .ref 80)] [] Q) : ∀ (dd m : Nat) (W : Wd), m + dd = n → OutT μ W → (∀ j, j ≠ 3 → gI W 80 j = gI μ 80 j) → gI W 80 3 = nI m → rnW B k (n - m) m = e → WP Y_X9_next R_X9_next (0, 0) W 119 [(0, .ref 80)] [] Q := by
  intro dd
  induction dd with
  | zero =>
    intro m W hm hO hj h3 hs
    obtain rfl : n = m := by omega
    rw [Nat.sub_self] at hs
    have hw := hO.1.1
    have hT := hT0.out hO
    have htx := hT.1
    have h900 := hT.2.2.1
    refine lf (a_aload_n dX9_next_119 rfl) ?_
    refine lf (a_getI dX9_next_120 fs_X9_23 rfl (co_80 hw)) ?_
    rw [h3]
    refine lf (a_aload_n dX9_next_123 rfl) ?_
    refine lf (a_getI dX9_next_124 fs_X9_19 rfl (co_80 hw)) ?_
    rw [hT.2.1]
    refine lf2 (a_icmp_ge (tgt := 162) dX9_next_127 (by decide)) (fun h127 => ?_) (fun h127 => absurd h127 (fun z => z (nI_le (Nat.le_refl _) (by omega))))
    exact lf (a_loc _ rfl) (kx W hO hj (by rw [h3, ← hs]; rfl))
  | succ dd ih =>
    intro m W hm hO hj h3 hs
    rw [show n - m = (n - (m + 1)) + 1 by omega] at hs
    unfold rnW at hs
    have hw := hO.1.1
    have hT := hT0.out hO
    have htx := hT.1
    have h900 := hT.2.2.1
    obtain ⟨hB, hb1⟩ := hT.2.2.2 m (by omega)
    have hkd := kd_le (B m)
    refine lf (a_aload_n dX9_next_119 rfl) ?_
    refine lf (a_getI dX9_next_120 fs_X9_23 rfl (co_80 (by repeat (first | with_reducible exact hw | with_reducible exact hwc | with_reducible assumption | with_reducible apply Wf.sI | with_reducible apply Wf.sL | with_reducible apply Wf.cpI | with_reducible apply Wf.cpL | with_reducible apply Wf.cp2 | with_reducible apply Wf.sIs | with_reducible apply Wf.sLs | with_reducible apply Wf.cpU | with_reducible apply Wf.fillI | with_reducible apply Wf.clU | with_reducible apply Wf.dnF | with_reducible apply Wf.gbW)))) ?_
    rw [h3]
    refine lf (a_aload_n dX9_next_123 rfl) ?_
    refine lf (a_getI dX9_next_124 fs_X9_19 rfl (co_80 (by repeat (first | with_reducible exact hw | with_reducible exact hwc | with_reducible assumption | with_reducible apply Wf.sI | with_reducible apply Wf.sL | with_reducible apply Wf.cpI | with_reducible apply Wf.cpL | with_reducible apply Wf.cp2 | with_reducible apply Wf.sIs | with_reducible apply Wf.sLs | with_reducible apply Wf.cpU | with_reducible apply Wf.fillI | with_reducible apply Wf.clU | with_reducible apply Wf.dnF | with_reducible apply Wf.gbW)))) ?_
    rw [hT.2.1]
    refine lf2 (a_icmp_ge (tgt := 162) dX9_next_127 (by decide)) (fun h127 => absurd h127 (nI_ge (show m < n by omega) (by omega))) (fun h127 => ?_)
    refine lf (a_aload_n dX9_next_130 rfl) ?_
    refine lf (a_getR htx dX9_next_131 fs_X9_7 rfl (co_80 (by repeat (first | with_reducible exact hw | with_reducible exact hwc | with_reducible assumption | with_reducible apply Wf.sI | with_reducible apply Wf.sL | with_reducible apply Wf.cpI | with_reducible apply Wf.cpL | with_reducible apply Wf.cp2 | with_reducible apply Wf.sIs | with_reducible apply Wf.sLs | with_reducible apply Wf.cpU | with_reducible apply Wf.fillI | with_reducible apply Wf.clU | with_reducible apply Wf.dnF | with_reducible apply Wf.gbW)))) ?_
    refine lf (a_aload_n dX9_next_134 rfl) ?_
    refine lf (a_getI dX9_next_135 fs_X9_23 rfl (co_80 (by repeat (first | with_reducible exact hw | with_reducible exact hwc | with_reducible assumption | with_reducible apply Wf.sI | with_reducible apply Wf.sL | with_reducible apply Wf.cpI | with_reducible apply Wf.cpL | with_reducible apply Wf.cp2 | with_reducible apply Wf.sIs | with_reducible apply Wf.sLs | with_reducible apply Wf.cpU | with_reducible apply Wf.fillI | with_reducible apply Wf.clU | with_reducible apply Wf.dnF | with_reducible apply Wf.gbW)))) ?_
    rw [h3]
    refine lf (a_bld dX9_next_138 (ca_1 (by repeat (first | with_reducible exact hw | with_reducible exact hwc | with_reducible assumption | with_reducible apply Wf.sI | with_reducible apply Wf.sL | with_reducible apply Wf.cpI | with_reducible apply Wf.cpL | with_reducible apply Wf.cp2 | with_reducible apply Wf.sIs | with_reducible apply Wf.sLs | with_reducible apply Wf.cpU | with_reducible apply Wf.fillI | with_reducible apply Wf.clU | with_reducible apply Wf.dnF | with_reducible apply Wf.gbW))) (ixn (show m < 900 by omega) (by decide))) ?_
    rw [hb1]
    refine lf (a_invS (b2 := (0, 0)) (t_X9_kindOf hB) rfl dX9_next_139 yk_X9_kindOf sm_X9_kindOf ml_X9_32 rfl (by decide) (by decide) (Nat.le_of_ble_eq_true rfl)) ?_
    refine lf (a_aload_n dX9_next_142 rfl) ?_
    refine lf (a_getI dX9_next_143 fs_X9_29 rfl (co_80 (by repeat (first | with_reducible exact hw | with_reducible exact hwc | with_reducible assumption | with_reducible apply Wf.sI | with_reducible apply Wf.sL | with_reducible apply Wf.cpI | with_reducible apply Wf.cpL | with_reducible apply Wf.cp2 | with_reducible apply Wf.sIs | with_reducible apply Wf.sLs | with_reducible apply Wf.cpU | with_reducible apply Wf.fillI | with_reducible apply Wf.clU | with_reducible apply Wf.dnF | with_reducible apply Wf.gbW)))) ?_
    rw [hj 4 (by decide), hk0]
    refine lfn (a_icmp_ne (tgt := 162) dX9_next_146 (by decide)) (fun h146 => ?_) (fun h146 => ?_)
    · rw [if_neg (fun z => h146 (congrArg nI z))] at hs
      exact lf (a_loc _ rfl) (kx W hO hj (by rw [h3, hs]))
    · rw [if_pos ((nI_eqI (by omega) (by omega)).mp h146)] at hs
      refine lf (a_aload_n dX9_next_149 rfl) ?_
      refine lf (a_dup dX9_next_150 rfl) ?_
      refine lf (a_getI dX9_next_151 fs_X9_23 rfl (co_80 (by repeat (first | with_reducible exact hw | with_reducible exact hwc | with_reducible assumption | with_reducible apply Wf.sI | with_reducible apply Wf.sL | with_reducible apply Wf.cpI | with_reducible apply Wf.cpL | with_reducible apply Wf.cp2 | with_reducible apply Wf.sIs | with_reducible apply Wf.sLs | with_reducible apply Wf.cpU | with_reducible apply Wf.fillI | with_reducible apply Wf.clU | with_reducible apply Wf.dnF | with_reducible apply Wf.gbW)))) ?_
      rw [h3]
      refine lf (a_iconst (1 : Int32) dX9_next_154 (by decide)) ?_
      refine lf (a_iadd dX9_next_155) ?_
      rw [← nI_succ]
      refine lf (a_putI dX9_next_156 fs_X9_23 rfl rfl rfl (co_80 (by repeat (first | with_reducible exact hw | with_reducible exact hwc | with_reducible assumption | with_reducible apply Wf.sI | with_reducible apply Wf.sL | with_reducible apply Wf.cpI | with_reducible apply Wf.cpL | with_reducible apply Wf.cp2 | with_reducible apply Wf.sIs | with_reducible apply Wf.sLs | with_reducible apply Wf.cpU | with_reducible apply Wf.fillI | with_reducible apply Wf.clU | with_reducible apply Wf.dnF | with_reducible apply Wf.gbW)))) ?_
      refine lf (a_goto (tgt := 119) dX9_next_159 (by decide)) ?_
      exact lf (a_loc _ rfl) (ih (m + 1) _ (by omega) (hO.sI (by decide) _) (fun j hj3 => by rw [gI_sI, if_neg (fun z => hj3 z.2)]; exact hj j hj3) (by rw [gI_sI, if_pos ⟨rfl, rfl⟩]) hs)
theorem X9_next_162 (hT0 : Tk B n μ) {p : Nat} (hp : p ≤ n) (hO : OutT μ W) (f2 : gI W 80 2 = nI (tkS B n p)) (f3 : gI W 80 3 = nI (tkE B n p)) (f4 : gI W 80 4 = nI (kdN (B (tkS B n p)))) (hns : ¬ n ≤ tkS B n p) (hkk : kdN (B (tkS B n p)) = 1 ∨ kdN (B (tkS B n p)) = 2) (eE : tkE B n p = rnW B (kdN (B (tkS B n p))) (n - (tkS B n p + 1)) (tkS B n p + 1)) :
    WP Y_X9_next R_X9_next (0, 0) W 162 [(0, .ref 80)] [] (fun o V => ∃ v, o = .inl v ∧ v = none ∧ OutT μ V ∧ TkA B n p V) := by
  have hw := hO.1.1
  have hT := hT0.out hO
  have hen := tkE_le (B := B) hp
  have hkd := kd_le (B (tkS B n p))
  have h900 := hT.2.2.1
  refine lf (a_aload_n dX9_next_162 rfl) ?_
  refine lf (a_getI dX9_next_163 fs_X9_29 rfl (co_80 hw)) ?_
  rw [f4]
  refine lf (a_iconst (2 : Int32) dX9_next_166 (by decide)) ?_
  refine lfn (a_icmp_ne (tgt := 174) dX9_next_167 (by decide)) (fun h167 => ?_) (fun h167 => ?_)
  · refine ⟨_, _, (a_return dX9_next_174 rfl), ?_⟩
    first
    | exact ⟨_, rfl, rfl, hO, f2, f3, by
        have e1 : kdN (B (tkS B n p)) ≠ 2 := fun z => h167 (by rw [z]; rfl)
        rw [f4]; unfold tkK; rw [if_neg hns, if_neg (fun z => e1 z.1)], fun z => by
        have e1 : kdN (B (tkS B n p)) ≠ 2 := fun z => h167 (by rw [z]; rfl)
        unfold tkK at z
        rw [if_neg hns, if_neg (fun z => e1 z.1)] at z
        exact absurd z e1⟩
    | (refine ⟨_, rfl, rfl, hO.trans ⟨hO3, hr3.trans hT.1.symm, hf3 1 (by decide)⟩, (hf3 2 (by decide)).trans f2, (hf3 3 (by decide)).trans f3, ?_, fun z => ?_⟩
       · rw [hk3]
         unfold tkK
         rw [if_neg hns]
         by_cases q : 4 < tkE B n p - tkS B n p
         · rw [if_pos q, if_pos ⟨e2, q⟩]
         · rw [if_neg q, if_neg (fun z => q z.2), e2]
       · have q : tkE B n p - tkS B n p ≤ 4 := by
           unfold tkK at z
           rw [if_neg hns] at z
           by_cases q : 4 < tkE B n p - tkS B n p
           · rw [if_pos ⟨e2, q⟩] at z; omega
           · omega
         exact hn3 q)
  · have e2 : kdN (B (tkS B n p)) = 2 := (nI_eqI (b := 2) (by omega) (by omega)).mp h167
    have hall : ∀ i, tkS B n p ≤ i → i < tkE B n p → kdN (B i) = 2 := fun i h1 h2 => by
      by_cases z : i = tkS B n p
      · subst z; exact e2
      · rw [eE] at h2
        rw [← e2]
        exact (rnW_ge B (kdN (B (tkS B n p))) (n - (tkS B n p + 1)) (tkS B n p + 1)).2.2 i (by omega) h2
    refine lf (a_aload_n dX9_next_170 rfl) ?_
    obtain ⟨v_, W171, k171, rfl, hO3, hr3, hf3, hk3, hn3⟩ := (t_X9_readNumber hw hT f2 f3 (by rw [f4, e2]; rfl) hen.1 hen.2.1 hall)
    refine lf (a_inv (b2 := (0, 0)) k171 rfl dX9_next_171 yk_X9_readNumber im_X9_readNumber se_X9_readNumber ml_X9_36 rfl (co_80 hw) (by decide) hc_X9 (by decide) (by decide) (Nat.le_of_ble_eq_true rfl)) ?_
    refine ⟨_, _, (a_return dX9_next_174 rfl), ?_⟩
    first
    | exact ⟨_, rfl, rfl, hO, f2, f3, by
        have e1 : kdN (B (tkS B n p)) ≠ 2 := fun z => h167 (by rw [z]; rfl)
        rw [f4]; unfold tkK; rw [if_neg hns, if_neg (fun z => e1 z.1)], fun z => by
        have e1 : kdN (B (tkS B n p)) ≠ 2 := fun z => h167 (by rw [z]; rfl)
        unfold tkK at z
        rw [if_neg hns, if_neg (fun z => e1 z.1)] at z
        exact absurd z e1⟩
    | (refine ⟨_, rfl, rfl, hO.trans ⟨hO3, hr3.trans hT.1.symm, hf3 1 (by decide)⟩, (hf3 2 (by decide)).trans f2, (hf3 3 (by decide)).trans f3, ?_, fun z => ?_⟩
       · rw [hk3]
         unfold tkK
         rw [if_neg hns]
         by_cases q : 4 < tkE B n p - tkS B n p
         · rw [if_pos q, if_pos ⟨e2, q⟩]
         · rw [if_neg q, if_neg (fun z => q z.2), e2]
       · have q : tkE B n p - tkS B n p ≤ 4 := by
           unfold tkK at z
           rw [if_neg hns] at z
           by_cases q : 4 < tkE B n p - tkS B n p
           · rw [if_pos ⟨e2, q⟩] at z; omega
           · omega
         exact hn3 q)
theorem t_X9_next (hw : Wf μ) (hT : Tk B n μ) {p : Nat} (hp : p ≤ n) (h3 : gI μ 80 3 = nI p) : CV Y_X9_next R_X9_next [.ref 80] μ (fun v V => v = none ∧ OutT μ V ∧ TkA B n p V) := by
  refine CV.ent yk_X9_next (Nat.le_of_ble_eq_true rfl) ?_
  refine lf (a_loc [(0, .ref 80)] rfl) (l_X9_next_0 hT (s := tkS B n p) (fun W hO h3 => ?_) (n - p) p μ (by omega) (OutT.rfl' hw) h3 rfl)
  have hT0 := hT
  have hw := hO.1.1
  have hT := hT0.out hO
  have htx := hT.1
  have h900 := hT.2.2.1
  have hsn := tkS_le (B := B) hp
  have hen := tkE_le (B := B) hp
  refine lf (a_aload_n dX9_next_52 rfl) ?_
  refine lf (a_aload_n dX9_next_53 rfl) ?_
  refine lf (a_getI dX9_next_54 fs_X9_23 rfl (co_80 (by repeat (first | with_reducible exact hw | with_reducible exact hwc | with_reducible assumption | with_reducible apply Wf.sI | with_reducible apply Wf.sL | with_reducible apply Wf.cpI | with_reducible apply Wf.cpL | with_reducible apply Wf.cp2 | with_reducible apply Wf.sIs | with_reducible apply Wf.sLs | with_reducible apply Wf.cpU | with_reducible apply Wf.fillI | with_reducible apply Wf.clU | with_reducible apply Wf.dnF | with_reducible apply Wf.gbW)))) ?_
  rw [h3]
  refine lf (a_putI dX9_next_57 fs_X9_26 rfl rfl rfl (co_80 (by repeat (first | with_reducible exact hw | with_reducible exact hwc | with_reducible assumption | with_reducible apply Wf.sI | with_reducible apply Wf.sL | with_reducible apply Wf.cpI | with_reducible apply Wf.cpL | with_reducible apply Wf.cp2 | with_reducible apply Wf.sIs | with_reducible apply Wf.sLs | with_reducible apply Wf.cpU | with_reducible apply Wf.fillI | with_reducible apply Wf.clU | with_reducible apply Wf.dnF | with_reducible apply Wf.gbW)))) ?_
  refine lf (a_aload_n dX9_next_60 rfl) ?_
  refine lf (a_getI dX9_next_61 fs_X9_23 rfl (co_80 (by repeat (first | with_reducible exact hw | with_reducible exact hwc | with_reducible assumption | with_reducible apply Wf.sI | with_reducible apply Wf.sL | with_reducible apply Wf.cpI | with_reducible apply Wf.cpL | with_reducible apply Wf.cp2 | with_reducible apply Wf.sIs | with_reducible apply Wf.sLs | with_reducible apply Wf.cpU | with_reducible apply Wf.fillI | with_reducible apply Wf.clU | with_reducible apply Wf.dnF | with_reducible apply Wf.gbW)))) ?_
  rw [gI_sI, if_neg (by omega), h3]
  refine lf (a_aload_n dX9_next_64 rfl) ?_
  refine lf (a_getI dX9_next_65 fs_X9_19 rfl (co_80 (by repeat (first | with_reducible exact hw | with_reducible exact hwc | with_reducible assumption | with_reducible apply Wf.sI | with_reducible apply Wf.sL | with_reducible apply Wf.cpI | with_reducible apply Wf.cpL | with_reducible apply Wf.cp2 | with_reducible apply Wf.sIs | with_reducible apply Wf.sLs | with_reducible apply Wf.cpU | with_reducible apply Wf.fillI | with_reducible apply Wf.clU | with_reducible apply Wf.dnF | with_reducible apply Wf.gbW)))) ?_
  rw [gI_sI, if_neg (by omega), hT.2.1]
  refine lf2 (a_icmp_lt (tgt := 77) dX9_next_68 (by decide)) (fun h68 => ?_) (fun h68 => ?_)
  · have hns : ¬ n ≤ tkS B n p := fun z => (nI_nlt z (by omega)) h68
    refine lf (a_aload_n dX9_next_77 rfl) ?_
    refine lf (a_aload_n dX9_next_78 rfl) ?_
    refine lf (a_getR htx dX9_next_79 fs_X9_7 rfl (co_80 (by repeat (first | with_reducible exact hw | with_reducible exact hwc | with_reducible assumption | with_reducible apply Wf.sI | with_reducible apply Wf.sL | with_reducible apply Wf.cpI | with_reducible apply Wf.cpL | with_reducible apply Wf.cp2 | with_reducible apply Wf.sIs | with_reducible apply Wf.sLs | with_reducible apply Wf.cpU | with_reducible apply Wf.fillI | with_reducible apply Wf.clU | with_reducible apply Wf.dnF | with_reducible apply Wf.gbW)))) ?_
    refine lf (a_aload_n dX9_next_82 rfl) ?_
    refine lf (a_getI dX9_next_83 fs_X9_23 rfl (co_80 (by repeat (first | with_reducible exact hw | with_reducible exact hwc | with_reducible assumption | with_reducible apply Wf.sI | with_reducible apply Wf.sL | with_reducible apply Wf.cpI | with_reducible apply Wf.cpL | with_reducible apply Wf.cp2 | with_reducible apply Wf.sIs | with_reducible apply Wf.sLs | with_reducible apply Wf.cpU | with_reducible apply Wf.fillI | with_reducible apply Wf.clU | with_reducible apply Wf.dnF | with_reducible apply Wf.gbW)))) ?_
    rw [gI_sI, if_neg (by omega), h3]
    refine lf (a_bld dX9_next_86 (ca_1 (by repeat (first | with_reducible exact hw | with_reducible exact hwc | with_reducible assumption | with_reducible apply Wf.sI | with_reducible apply Wf.sL | with_reducible apply Wf.cpI | with_reducible apply Wf.cpL | with_reducible apply Wf.cp2 | with_reducible apply Wf.sIs | with_reducible apply Wf.sLs | with_reducible apply Wf.cpU | with_reducible apply Wf.fillI | with_reducible apply Wf.clU | with_reducible apply Wf.dnF | with_reducible apply Wf.gbW))) (ixn (show tkS B n p < 900 by omega) (by decide))) ?_
    rw [gI_sI, if_neg (by omega), (hT.2.2.2 _ (show tkS B n p < n by omega)).2]
    refine lf (a_invS (b2 := (0, 0)) (t_X9_kindOf (hT.2.2.2 _ (show tkS B n p < n by omega)).1) rfl dX9_next_87 yk_X9_kindOf sm_X9_kindOf ml_X9_32 rfl (by decide) (by decide) (Nat.le_of_ble_eq_true rfl)) ?_
    refine lf (a_putI dX9_next_90 fs_X9_29 rfl rfl rfl (co_80 (by repeat (first | with_reducible exact hw | with_reducible exact hwc | with_reducible assumption | with_reducible apply Wf.sI | with_reducible apply Wf.sL | with_reducible apply Wf.cpI | with_reducible apply Wf.cpL | with_reducible apply Wf.cp2 | with_reducible apply Wf.sIs | with_reducible apply Wf.sLs | with_reducible apply Wf.cpU | with_reducible apply Wf.fillI | with_reducible apply Wf.clU | with_reducible apply Wf.dnF | with_reducible apply Wf.gbW)))) ?_
    refine lf (a_aload_n dX9_next_93 rfl) ?_
    refine lf (a_dup dX9_next_94 rfl) ?_
    refine lf (a_getI dX9_next_95 fs_X9_23 rfl (co_80 (by repeat (first | with_reducible exact hw | with_reducible exact hwc | with_reducible assumption | with_reducible apply Wf.sI | with_reducible apply Wf.sL | with_reducible apply Wf.cpI | with_reducible apply Wf.cpL | with_reducible apply Wf.cp2 | with_reducible apply Wf.sIs | with_reducible apply Wf.sLs | with_reducible apply Wf.cpU | with_reducible apply Wf.fillI | with_reducible apply Wf.clU | with_reducible apply Wf.dnF | with_reducible apply Wf.gbW)))) ?_
    rw [gI_sI, if_neg (by omega), gI_sI, if_neg (by omega), h3]
    refine lf (a_iconst (1 : Int32) dX9_next_98 (by decide)) ?_
    refine lf (a_iadd dX9_next_99) ?_
    rw [← nI_succ]
    refine lf (a_putI dX9_next_100 fs_X9_23 rfl rfl rfl (co_80 (by repeat (first | with_reducible exact hw | with_reducible exact hwc | with_reducible assumption | with_reducible apply Wf.sI | with_reducible apply Wf.sL | with_reducible apply Wf.cpI | with_reducible apply Wf.cpL | with_reducible apply Wf.cp2 | with_reducible apply Wf.sIs | with_reducible apply Wf.sLs | with_reducible apply Wf.cpU | with_reducible apply Wf.fillI | with_reducible apply Wf.clU | with_reducible apply Wf.dnF | with_reducible apply Wf.gbW)))) ?_
    obtain ⟨W1, hW1⟩ : ∃ W1, W1 = sI (sI (sI W 80 2 (nI (tkS B n p))) 80 4 (nI (kdN (B (tkS B n p))))) 80 3 (nI (tkS B n p + 1)) := ⟨_, rfl⟩
    rw [← hW1]
    have hO1 : OutT μ W1 := by
      rw [hW1]
      exact ((hO.sI (by decide) _).sI (by decide) _).sI (by decide) _
    have f2 : gI W1 80 2 = nI (tkS B n p) := by rw [hW1, gI_sI, if_neg (by omega), gI_sI, if_neg (by omega), gI_sI, if_pos ⟨rfl, rfl⟩]
    have f4 : gI W1 80 4 = nI (kdN (B (tkS B n p))) := by rw [hW1, gI_sI, if_neg (by omega), gI_sI, if_pos ⟨rfl, rfl⟩]
    have f3 : gI W1 80 3 = nI (tkS B n p + 1) := by rw [hW1, gI_sI, if_pos ⟨rfl, rfl⟩]
    clear hW1
    have hw := hO1.1.1
    have hT := hT0.out hO1
    have hkd := kd_le (B (tkS B n p))
    refine lf (a_aload_n dX9_next_103 rfl) ?_
    refine lf (a_getI dX9_next_104 fs_X9_29 rfl (co_80 (by repeat (first | with_reducible exact hw | with_reducible exact hwc | with_reducible assumption | with_reducible apply Wf.sI | with_reducible apply Wf.sL | with_reducible apply Wf.cpI | with_reducible apply Wf.cpL | with_reducible apply Wf.cp2 | with_reducible apply Wf.sIs | with_reducible apply Wf.sLs | with_reducible apply Wf.cpU | with_reducible apply Wf.fillI | with_reducible apply Wf.clU | with_reducible apply Wf.dnF | with_reducible apply Wf.gbW)))) ?_
    rw [f4]
    refine lf (a_iconst (1 : Int32) dX9_next_107 (by decide)) ?_
    refine lf2 (a_icmp_eq (tgt := 119) dX9_next_108 (by decide)) (fun h108 => ?_) (fun h108 => ?_)
    · have hkk : kdN (B (tkS B n p)) = 1 ∨ kdN (B (tkS B n p)) = 2 := by
        first
        | exact Or.inl ((nI_eqI (b := 1) (by omega) (by omega)).mp h108)
        | exact Or.inr ((nI_eqI (b := 2) (by omega) (by omega)).mp h116)
      have eE : tkE B n p = rnW B (kdN (B (tkS B n p))) (n - (tkS B n p + 1)) (tkS B n p + 1) := by unfold tkE; rw [if_neg hns, if_pos hkk]
      refine lf (a_loc [(0, .ref 80)] rfl) (l_X9_next_119 hT f4 (by omega) (fun V hO2 hj h3 => ?_) (n - (tkS B n p + 1)) (tkS B n p + 1) W1 (by omega) (OutT.rfl' hw) (fun _ _ => rfl) f3 eE.symm)
      exact X9_next_162 hT0 hp (hO1.trans hO2) ((hj 2 (by decide)).trans f2) h3 ((hj 4 (by decide)).trans f4) (by omega) hkk eE
    · refine lf (a_aload_n dX9_next_111 rfl) ?_
      refine lf (a_getI dX9_next_112 fs_X9_29 rfl (co_80 (by repeat (first | with_reducible exact hw | with_reducible exact hwc | with_reducible assumption | with_reducible apply Wf.sI | with_reducible apply Wf.sL | with_reducible apply Wf.cpI | with_reducible apply Wf.cpL | with_reducible apply Wf.cp2 | with_reducible apply Wf.sIs | with_reducible apply Wf.sLs | with_reducible apply Wf.cpU | with_reducible apply Wf.fillI | with_reducible apply Wf.clU | with_reducible apply Wf.dnF | with_reducible apply Wf.gbW)))) ?_
      rw [f4]
      refine lf (a_iconst (2 : Int32) dX9_next_115 (by decide)) ?_
      refine lfn (a_icmp_ne (tgt := 162) dX9_next_116 (by decide)) (fun h116 => ?_) (fun h116 => ?_)
      · have h116q := h116
        refine lf (a_aload_n dX9_next_162 rfl) ?_
        refine lf (a_getI dX9_next_163 fs_X9_29 rfl (co_80 (by repeat (first | with_reducible exact hw | with_reducible exact hwc | with_reducible assumption | with_reducible apply Wf.sI | with_reducible apply Wf.sL | with_reducible apply Wf.cpI | with_reducible apply Wf.cpL | with_reducible apply Wf.cp2 | with_reducible apply Wf.sIs | with_reducible apply Wf.sLs | with_reducible apply Wf.cpU | with_reducible apply Wf.fillI | with_reducible apply Wf.clU | with_reducible apply Wf.dnF | with_reducible apply Wf.gbW)))) ?_
        rw [f4]
        refine lf (a_iconst (2 : Int32) dX9_next_166 (by decide)) ?_
        refine lfn (a_icmp_ne (tgt := 174) dX9_next_167 (by decide)) (fun h167 => ?_) (fun h167 => absurd h167 h116)
        refine ⟨_, _, (a_return dX9_next_174 rfl), ?_⟩
        have hkn : ¬ (kdN (B (tkS B n p)) = 1 ∨ kdN (B (tkS B n p)) = 2) := by
          rintro (z | z)
          · exact h108 (by rw [z]; rfl)
          · exact h116 (by rw [z]; rfl)
        have e1 : tkE B n p = tkS B n p + 1 := by unfold tkE; rw [if_neg hns, if_neg hkn]
        have e2 : tkK B n p = kdN (B (tkS B n p)) := by unfold tkK; rw [if_neg hns, if_neg (fun z => hkn (Or.inr z.1))]
        exact ⟨_, rfl, rfl, hO1, f2, by rw [e1]; exact f3, by rw [e2]; exact f4, fun z => absurd (Or.inr (e2 ▸ z)) hkn⟩
      · have hkk : kdN (B (tkS B n p)) = 1 ∨ kdN (B (tkS B n p)) = 2 := by
          first
          | exact Or.inl ((nI_eqI (b := 1) (by omega) (by omega)).mp h108)
          | exact Or.inr ((nI_eqI (b := 2) (by omega) (by omega)).mp h116)
        have eE : tkE B n p = rnW B (kdN (B (tkS B n p))) (n - (tkS B n p + 1)) (tkS B n p + 1) := by unfold tkE; rw [if_neg hns, if_pos hkk]
        refine lf (a_loc [(0, .ref 80)] rfl) (l_X9_next_119 hT f4 (by omega) (fun V hO2 hj h3 => ?_) (n - (tkS B n p + 1)) (tkS B n p + 1) W1 (by omega) (OutT.rfl' hw) (fun _ _ => rfl) f3 eE.symm)
        exact X9_next_162 hT0 hp (hO1.trans hO2) ((hj 2 (by decide)).trans f2) h3 ((hj 4 (by decide)).trans f4) (by omega) hkk eE
  · have hns : n ≤ tkS B n p := Nat.le_of_not_lt fun z => h68 (nI_lt z (by omega))
    refine lf (a_aload_n dX9_next_71 rfl) ?_
    refine lf (a_iconst (0 : Int32) dX9_next_72 (by decide)) ?_
    refine lf (a_putI dX9_next_73 fs_X9_29 rfl rfl rfl (co_80 (by repeat (first | with_reducible exact hw | with_reducible exact hwc | with_reducible assumption | with_reducible apply Wf.sI | with_reducible apply Wf.sL | with_reducible apply Wf.cpI | with_reducible apply Wf.cpL | with_reducible apply Wf.cp2 | with_reducible apply Wf.sIs | with_reducible apply Wf.sLs | with_reducible apply Wf.cpU | with_reducible apply Wf.fillI | with_reducible apply Wf.clU | with_reducible apply Wf.dnF | with_reducible apply Wf.gbW)))) ?_
    refine ⟨_, _, (a_return dX9_next_76 rfl), ?_⟩
    have e1 : tkE B n p = tkS B n p := if_pos hns
    have e2 : tkK B n p = 0 := if_pos hns
    exact ⟨_, rfl, rfl, (hO.sI (by decide) _).sI (by decide) _, by rw [gI_sI, if_neg (by omega), gI_sI, if_pos ⟨rfl, rfl⟩], by rw [gI_sI, if_neg (by omega), gI_sI, if_neg (by omega), e1]; exact h3, by rw [gI_sI, if_pos ⟨rfl, rfl⟩, e2]; rfl, fun z => by rw [e2] at z; omega⟩
end TOKENT
