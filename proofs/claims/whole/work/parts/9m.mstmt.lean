section MSTMT
variable {μ W V : Wd} {B : Nat → Nat} {n p x : Nat} {z : PZ}
abbrev isW (B : Nat → Nat) (n p : Nat) : Prop := wdI B n p 4 = true ∨ wdI B n p 5 = true ∨ wdI B n p 6 = true ∨ wdI B n p 8 = true ∨ wdI B n p 12 = true ∨ wdI B n p 13 = true ∨ wdI B n p 14 = true
abbrev fuS (B : Nat → Nat) (n p : Nat) (z : PZ) : Prop := if wdI B n p 6 = true then 4 ≤ pC z.1 else if wdI B n p 8 = true then 12 ≤ pM z.1 else if wdI B n p 12 = true then 8 ≤ pT z.1 else wdI B n p 14 = true ∧ 40 ≤ dP z.2.1
theorem isW_lt (h : isW B n p) : tkS B n p < n := by
  have q : ∀ c, wdI B n p c = true → tkS B n p < n := fun c hc => (tkK1.mp (of_decide_eq_true hc).1).1
  unfold isW at h
  rcases h with h | h | h | h | h | h | h <;> exact q _ h
theorem StM.v {r : (Nat × Nat) ⊕ (Nat × PZ)} {v : Option Value} (h : StM B n μ r v V) : ∃ x : Int32, v = some (.int x) ∧ (x = 0 ∨ x = 1) := by
  rcases h.2 with h | h
  · exact ⟨1, h.1, Or.inr rfl⟩
  · exact ⟨0, h.1, Or.inl rfl⟩
theorem StM.pre {r : (Nat × Nat) ⊕ (Nat × PZ)} {v : Option Value} (a : PaF μ W) (h : StM B n W r v V) : StM B n μ r v V := ⟨a.trans h.1, h.2⟩
theorem kwv_4 : (664997 : Int64) = lN (wvN (kby 4)) := by decide +kernel
theorem kwl_4 : LtL (kby 4) := by
  unfold LtL
  decide +kernel
theorem ww_4 (hp : p ≤ n) : lg_cmp (lN (wdL B n p)) 664997 = 0 ↔ wdI B n p 4 = true := by
  have h1 := wdL_lt (B := B) (n := n) (p := p)
  have h2 : wvN (kby 4) < 2 ^ 40 := wvN_lt kwl_4 (by decide +kernel)
  rw [kwv_4, lgc_eq, lN_inj (by omega) (by omega), wdL_is hp kwl_4 (by decide +kernel) (by decide +kernel), wdI, decide_eq_true_eq]
theorem kwv_5 : (398372 : Int64) = lN (wvN (kby 5)) := by decide +kernel
theorem kwl_5 : LtL (kby 5) := by
  unfold LtL
  decide +kernel
theorem ww_5 (hp : p ≤ n) : lg_cmp (lN (wdL B n p)) 398372 = 0 ↔ wdI B n p 5 = true := by
  have h1 := wdL_lt (B := B) (n := n) (p := p)
  have h2 : wvN (kby 5) < 2 ^ 40 := wvN_lt kwl_5 (by decide +kernel)
  rw [kwv_5, lgc_eq, lN_inj (by omega) (by omega), wdL_is hp kwl_5 (by decide +kernel) (by decide +kernel), wdI, decide_eq_true_eq]
theorem kwv_6 : (3180846 : Int64) = lN (wvN (kby 6)) := by decide +kernel
theorem kwl_6 : LtL (kby 6) := by
  unfold LtL
  decide +kernel
theorem ww_6 (hp : p ≤ n) : lg_cmp (lN (wdL B n p)) 3180846 = 0 ↔ wdI B n p 6 = true := by
  have h1 := wdL_lt (B := B) (n := n) (p := p)
  have h2 : wvN (kby 6) < 2 ^ 40 := wvN_lt kwl_6 (by decide +kernel)
  rw [kwv_6, lgc_eq, lN_inj (by omega) (by omega), wdL_is hp kwl_6 (by decide +kernel) (by decide +kernel), wdI, decide_eq_true_eq]
theorem kwv_8 : (431148 : Int64) = lN (wvN (kby 8)) := by decide +kernel
theorem kwl_8 : LtL (kby 8) := by
  unfold LtL
  decide +kernel
theorem ww_8 (hp : p ≤ n) : lg_cmp (lN (wdL B n p)) 431148 = 0 ↔ wdI B n p 8 = true := by
  have h1 := wdL_lt (B := B) (n := n) (p := p)
  have h2 : wvN (kby 8) < 2 ^ 40 := wvN_lt kwl_8 (by decide +kernel)
  rw [kwv_8, lgc_eq, lN_inj (by omega) (by omega), wdL_is hp kwl_8 (by decide +kernel) (by decide +kernel), wdI, decide_eq_true_eq]
theorem kwv_12 : (22094950585 : Int64) = lN (wvN (kby 12)) := by decide +kernel
theorem kwl_12 : LtL (kby 12) := by
  unfold LtL
  decide +kernel
theorem ww_12 (hp : p ≤ n) : lg_cmp (lN (wdL B n p)) 22094950585 = 0 ↔ wdI B n p 12 = true := by
  have h1 := wdL_lt (B := B) (n := n) (p := p)
  have h2 : wvN (kby 12) < 2 ^ 40 := wvN_lt kwl_12 (by decide +kernel)
  rw [kwv_12, lgc_eq, lN_inj (by omega) (by omega), wdL_is hp kwl_12 (by decide +kernel) (by decide +kernel), wdI, decide_eq_true_eq]
theorem kwv_13 : (257085075 : Int64) = lN (wvN (kby 13)) := by decide +kernel
theorem kwl_13 : LtL (kby 13) := by
  unfold LtL
  decide +kernel
theorem ww_13 (hp : p ≤ n) : lg_cmp (lN (wdL B n p)) 257085075 = 0 ↔ wdI B n p 13 = true := by
  have h1 := wdL_lt (B := B) (n := n) (p := p)
  have h2 : wvN (kby 13) < 2 ^ 40 := wvN_lt kwl_13 (by decide +kernel)
  rw [kwv_13, lgc_eq, lN_inj (by omega) (by omega), wdL_is hp kwl_13 (by decide +kernel) (by decide +kernel), wdI, decide_eq_true_eq]
theorem kwv_14 : (8033908 : Int64) = lN (wvN (kby 14)) := by decide +kernel
theorem kwl_14 : LtL (kby 14) := by
  unfold LtL
  decide +kernel
theorem ww_14 (hp : p ≤ n) : lg_cmp (lN (wdL B n p)) 8033908 = 0 ↔ wdI B n p 14 = true := by
  have h1 := wdL_lt (B := B) (n := n) (p := p)
  have h2 : wvN (kby 14) < 2 ^ 40 := wvN_lt kwl_14 (by decide +kernel)
  rw [kwv_14, lgc_eq, lN_inj (by omega) (by omega), wdL_is hp kwl_14 (by decide +kernel) (by decide +kernel), wdI, decide_eq_true_eq]
abbrev R_X11_isStatement : Room := { frames := 0, cells := 0, slots := 0, locals := 0 }
abbrev RX_X11_isStatement : Room := { frames := 0, cells := 1, slots := 6, locals := 0 }

theorem m_isStatement (hp : p ≤ n) : Ct Y_X11_isStatement R_X11_isStatement [.long (lN (wdL B n p))] μ (.inl (some (.int (if isW B n p then 1 else 0)))) μ := by
  refine Ct.ent yk_X11_isStatement (Nat.le_of_ble_eq_true rfl) ?_
  refine a_lload_n dX11_isStatement_0 rfl ?_
  refine a_ldc2 (v := 664997) dX11_isStatement_1 (lwa_in 1735 (by decide +kernel) rfl) ?_
  refine a_lcmp dX11_isStatement_4 ?_
  refine a_if_eq (tgt := 56) dX11_isStatement_5 (by decide) (fun h5 => ?_) (fun h5 => ?_)
  · have h5 := (ww_4 hp).mp h5
    refine a_iconst (1 : Int32) dX11_isStatement_56 (by decide) ?_
    refine a_goto (tgt := 61) dX11_isStatement_57 (by decide) ?_
    exact a_out (by first | rw [if_pos (by unfold isW; first | exact Or.inl h5 | exact Or.inr (Or.inl h13) | exact Or.inr (Or.inr (Or.inl h21)) | exact Or.inr (Or.inr (Or.inr (Or.inl h29))) | exact Or.inr (Or.inr (Or.inr (Or.inr (Or.inl h37)))) | exact Or.inr (Or.inr (Or.inr (Or.inr (Or.inr (Or.inl h45))))) | exact Or.inr (Or.inr (Or.inr (Or.inr (Or.inr (Or.inr h53))))))] | rw [if_neg (by unfold isW; rintro (q | q | q | q | q | q | q); exact h5 q; exact h13 q; exact h21 q; exact h29 q; exact h37 q; exact h45 q; exact h53 q)]) rfl (a_ireturn dX11_isStatement_61 rfl rfl)
  · have h5 : ¬ wdI B n p 4 = true := fun q => h5 ((ww_4 hp).mpr q)
    refine a_lload_n dX11_isStatement_8 rfl ?_
    refine a_ldc2 (v := 398372) dX11_isStatement_9 (lwa_in 1736 (by decide +kernel) rfl) ?_
    refine a_lcmp dX11_isStatement_12 ?_
    refine a_if_eq (tgt := 56) dX11_isStatement_13 (by decide) (fun h13 => ?_) (fun h13 => ?_)
    · have h13 := (ww_5 hp).mp h13
      refine a_iconst (1 : Int32) dX11_isStatement_56 (by decide) ?_
      refine a_goto (tgt := 61) dX11_isStatement_57 (by decide) ?_
      exact a_out (by first | rw [if_pos (by unfold isW; first | exact Or.inl h5 | exact Or.inr (Or.inl h13) | exact Or.inr (Or.inr (Or.inl h21)) | exact Or.inr (Or.inr (Or.inr (Or.inl h29))) | exact Or.inr (Or.inr (Or.inr (Or.inr (Or.inl h37)))) | exact Or.inr (Or.inr (Or.inr (Or.inr (Or.inr (Or.inl h45))))) | exact Or.inr (Or.inr (Or.inr (Or.inr (Or.inr (Or.inr h53))))))] | rw [if_neg (by unfold isW; rintro (q | q | q | q | q | q | q); exact h5 q; exact h13 q; exact h21 q; exact h29 q; exact h37 q; exact h45 q; exact h53 q)]) rfl (a_ireturn dX11_isStatement_61 rfl rfl)
    · have h13 : ¬ wdI B n p 5 = true := fun q => h13 ((ww_5 hp).mpr q)
      refine a_lload_n dX11_isStatement_16 rfl ?_
      refine a_ldc2 (v := 3180846) dX11_isStatement_17 (lwa_in 1737 (by decide +kernel) rfl) ?_
      refine a_lcmp dX11_isStatement_20 ?_
      refine a_if_eq (tgt := 56) dX11_isStatement_21 (by decide) (fun h21 => ?_) (fun h21 => ?_)
      · have h21 := (ww_6 hp).mp h21
        refine a_iconst (1 : Int32) dX11_isStatement_56 (by decide) ?_
        refine a_goto (tgt := 61) dX11_isStatement_57 (by decide) ?_
        exact a_out (by first | rw [if_pos (by unfold isW; first | exact Or.inl h5 | exact Or.inr (Or.inl h13) | exact Or.inr (Or.inr (Or.inl h21)) | exact Or.inr (Or.inr (Or.inr (Or.inl h29))) | exact Or.inr (Or.inr (Or.inr (Or.inr (Or.inl h37)))) | exact Or.inr (Or.inr (Or.inr (Or.inr (Or.inr (Or.inl h45))))) | exact Or.inr (Or.inr (Or.inr (Or.inr (Or.inr (Or.inr h53))))))] | rw [if_neg (by unfold isW; rintro (q | q | q | q | q | q | q); exact h5 q; exact h13 q; exact h21 q; exact h29 q; exact h37 q; exact h45 q; exact h53 q)]) rfl (a_ireturn dX11_isStatement_61 rfl rfl)
      · have h21 : ¬ wdI B n p 6 = true := fun q => h21 ((ww_6 hp).mpr q)
        refine a_lload_n dX11_isStatement_24 rfl ?_
        refine a_ldc2 (v := 431148) dX11_isStatement_25 (lwa_in 1738 (by decide +kernel) rfl) ?_
        refine a_lcmp dX11_isStatement_28 ?_
        refine a_if_eq (tgt := 56) dX11_isStatement_29 (by decide) (fun h29 => ?_) (fun h29 => ?_)
        · have h29 := (ww_8 hp).mp h29
          refine a_iconst (1 : Int32) dX11_isStatement_56 (by decide) ?_
          refine a_goto (tgt := 61) dX11_isStatement_57 (by decide) ?_
          exact a_out (by first | rw [if_pos (by unfold isW; first | exact Or.inl h5 | exact Or.inr (Or.inl h13) | exact Or.inr (Or.inr (Or.inl h21)) | exact Or.inr (Or.inr (Or.inr (Or.inl h29))) | exact Or.inr (Or.inr (Or.inr (Or.inr (Or.inl h37)))) | exact Or.inr (Or.inr (Or.inr (Or.inr (Or.inr (Or.inl h45))))) | exact Or.inr (Or.inr (Or.inr (Or.inr (Or.inr (Or.inr h53))))))] | rw [if_neg (by unfold isW; rintro (q | q | q | q | q | q | q); exact h5 q; exact h13 q; exact h21 q; exact h29 q; exact h37 q; exact h45 q; exact h53 q)]) rfl (a_ireturn dX11_isStatement_61 rfl rfl)
        · have h29 : ¬ wdI B n p 8 = true := fun q => h29 ((ww_8 hp).mpr q)
          refine a_lload_n dX11_isStatement_32 rfl ?_
          refine a_ldc2 (v := 22094950585) dX11_isStatement_33 (lwa_in 1739 (by decide +kernel) rfl) ?_
          refine a_lcmp dX11_isStatement_36 ?_
          refine a_if_eq (tgt := 56) dX11_isStatement_37 (by decide) (fun h37 => ?_) (fun h37 => ?_)
          · have h37 := (ww_12 hp).mp h37
            refine a_iconst (1 : Int32) dX11_isStatement_56 (by decide) ?_
            refine a_goto (tgt := 61) dX11_isStatement_57 (by decide) ?_
            exact a_out (by first | rw [if_pos (by unfold isW; first | exact Or.inl h5 | exact Or.inr (Or.inl h13) | exact Or.inr (Or.inr (Or.inl h21)) | exact Or.inr (Or.inr (Or.inr (Or.inl h29))) | exact Or.inr (Or.inr (Or.inr (Or.inr (Or.inl h37)))) | exact Or.inr (Or.inr (Or.inr (Or.inr (Or.inr (Or.inl h45))))) | exact Or.inr (Or.inr (Or.inr (Or.inr (Or.inr (Or.inr h53))))))] | rw [if_neg (by unfold isW; rintro (q | q | q | q | q | q | q); exact h5 q; exact h13 q; exact h21 q; exact h29 q; exact h37 q; exact h45 q; exact h53 q)]) rfl (a_ireturn dX11_isStatement_61 rfl rfl)
          · have h37 : ¬ wdI B n p 12 = true := fun q => h37 ((ww_12 hp).mpr q)
            refine a_lload_n dX11_isStatement_40 rfl ?_
            refine a_ldc2 (v := 257085075) dX11_isStatement_41 (lwa_in 1740 (by decide +kernel) rfl) ?_
            refine a_lcmp dX11_isStatement_44 ?_
            refine a_if_eq (tgt := 56) dX11_isStatement_45 (by decide) (fun h45 => ?_) (fun h45 => ?_)
            · have h45 := (ww_13 hp).mp h45
              refine a_iconst (1 : Int32) dX11_isStatement_56 (by decide) ?_
              refine a_goto (tgt := 61) dX11_isStatement_57 (by decide) ?_
              exact a_out (by first | rw [if_pos (by unfold isW; first | exact Or.inl h5 | exact Or.inr (Or.inl h13) | exact Or.inr (Or.inr (Or.inl h21)) | exact Or.inr (Or.inr (Or.inr (Or.inl h29))) | exact Or.inr (Or.inr (Or.inr (Or.inr (Or.inl h37)))) | exact Or.inr (Or.inr (Or.inr (Or.inr (Or.inr (Or.inl h45))))) | exact Or.inr (Or.inr (Or.inr (Or.inr (Or.inr (Or.inr h53))))))] | rw [if_neg (by unfold isW; rintro (q | q | q | q | q | q | q); exact h5 q; exact h13 q; exact h21 q; exact h29 q; exact h37 q; exact h45 q; exact h53 q)]) rfl (a_ireturn dX11_isStatement_61 rfl rfl)
            · have h45 : ¬ wdI B n p 13 = true := fun q => h45 ((ww_13 hp).mpr q)
              refine a_lload_n dX11_isStatement_48 rfl ?_
              refine a_ldc2 (v := 8033908) dX11_isStatement_49 (lwa_in 1741 (by decide +kernel) rfl) ?_
              refine a_lcmp dX11_isStatement_52 ?_
              refine a_if_ne (tgt := 60) dX11_isStatement_53 (by decide) (fun h53 => ?_) (fun h53 => ?_)
              · have h53 : ¬ wdI B n p 14 = true := fun q => h53 ((ww_14 hp).mpr q)
                refine a_iconst (0 : Int32) dX11_isStatement_60 (by decide) ?_
                exact a_out (by first | rw [if_pos (by unfold isW; first | exact Or.inl h5 | exact Or.inr (Or.inl h13) | exact Or.inr (Or.inr (Or.inl h21)) | exact Or.inr (Or.inr (Or.inr (Or.inl h29))) | exact Or.inr (Or.inr (Or.inr (Or.inr (Or.inl h37)))) | exact Or.inr (Or.inr (Or.inr (Or.inr (Or.inr (Or.inl h45))))) | exact Or.inr (Or.inr (Or.inr (Or.inr (Or.inr (Or.inr h53))))))] | rw [if_neg (by unfold isW; rintro (q | q | q | q | q | q | q); exact h5 q; exact h13 q; exact h21 q; exact h29 q; exact h37 q; exact h45 q; exact h53 q)]) rfl (a_ireturn dX11_isStatement_61 rfl rfl)
              · have h53 := (ww_14 hp).mp h53
                refine a_iconst (1 : Int32) dX11_isStatement_56 (by decide) ?_
                refine a_goto (tgt := 61) dX11_isStatement_57 (by decide) ?_
                exact a_out (by first | rw [if_pos (by unfold isW; first | exact Or.inl h5 | exact Or.inr (Or.inl h13) | exact Or.inr (Or.inr (Or.inl h21)) | exact Or.inr (Or.inr (Or.inr (Or.inl h29))) | exact Or.inr (Or.inr (Or.inr (Or.inr (Or.inl h37)))) | exact Or.inr (Or.inr (Or.inr (Or.inr (Or.inr (Or.inl h45))))) | exact Or.inr (Or.inr (Or.inr (Or.inr (Or.inr (Or.inr h53))))))] | rw [if_neg (by unfold isW; rintro (q | q | q | q | q | q | q); exact h5 q; exact h13 q; exact h21 q; exact h29 q; exact h37 q; exact h45 q; exact h53 q)]) rfl (a_ireturn dX11_isStatement_61 rfl rfl)
abbrev R_X11_isFull : Room := { frames := 0, cells := 0, slots := 0, locals := 0 }
abbrev RX_X11_isFull : Room := { frames := 0, cells := 1, slots := 6, locals := 0 }

theorem m_isFull (hz : MgV B n p z μ) (hg : GzD z) : Ct Y_X11_isFull R_X11_isFull [.ref 338, .long (lN (wdL B n p))] μ (.inl (some (.int (if fuS B n p z then 1 else 0)))) μ := by
  refine Ct.ent yk_X11_isFull (Nat.le_of_ble_eq_true rfl) ?_
  have hp := hz.le
  have hw := hz.wf
  have c1 := hg.q.C4
  have c2 := hg.q.M4
  have c3 := hg.q.T4
  have c4 := hg.P4
  have e0 := hz.dr.1.1.1
  have e1 := hz.dr.1.1.2.1
  have e2 := hz.dr.1.1.2.2.1
  have e3 := hz.dr.2.1.1.2.2.2.1
  refine a_lload_n dX11_isFull_0 rfl ?_
  refine a_ldc2 (v := 3180846) dX11_isFull_1 (lwa_in 1737 (by decide +kernel) rfl) ?_
  refine a_lcmp dX11_isFull_4 ?_
  refine a_if_ne (tgt := 24) dX11_isFull_5 (by decide) (fun h5 => ?_) (fun h5 => ?_)
  · have h5 : ¬ wdI B n p 6 = true := fun q => h5 ((ww_6 hp).mpr q)
    refine a_lload_n dX11_isFull_24 rfl ?_
    refine a_ldc2 (v := 431148) dX11_isFull_25 (lwa_in 1738 (by decide +kernel) rfl) ?_
    refine a_lcmp dX11_isFull_28 ?_
    refine a_if_ne (tgt := 49) dX11_isFull_29 (by decide) (fun h29 => ?_) (fun h29 => ?_)
    · have h29 : ¬ wdI B n p 8 = true := fun q => h29 ((ww_8 hp).mpr q)
      refine a_lload_n dX11_isFull_49 rfl ?_
      refine a_ldc2 (v := 22094950585) dX11_isFull_50 (lwa_in 1739 (by decide +kernel) rfl) ?_
      refine a_lcmp dX11_isFull_53 ?_
      refine a_if_ne (tgt := 74) dX11_isFull_54 (by decide) (fun h54 => ?_) (fun h54 => ?_)
      · have h54 : ¬ wdI B n p 12 = true := fun q => h54 ((ww_12 hp).mpr q)
        refine a_lload_n dX11_isFull_74 rfl ?_
        refine a_ldc2 (v := 8033908) dX11_isFull_75 (lwa_in 1741 (by decide +kernel) rfl) ?_
        refine a_lcmp dX11_isFull_78 ?_
        refine a_if_ne (tgt := 97) dX11_isFull_79 (by decide) (fun h79 => ?_) (fun h79 => ?_)
        · have h79 : ¬ wdI B n p 14 = true := fun q => h79 ((ww_14 hp).mpr q)
          refine a_iconst (0 : Int32) dX11_isFull_97 (by decide) ?_
          exact a_out (congrArg (fun x : Int32 => (Sum.inl (some (Value.int x)) : Oc)) (if_neg (by unfold fuS; simp only [if_neg h5, if_neg h29, if_neg h54]; exact fun q => h79 q.1)).symm) rfl (a_ireturn dX11_isFull_98 rfl rfl)
        · have h79 := (ww_14 hp).mp h79
          refine a_aload_n dX11_isFull_82 rfl ?_
          refine a_getR (cr_338_7 hw) dX11_isFull_83 fs_X11_29 rfl (co_338 hw) ?_
          refine a_iconst (3 : Int32) dX11_isFull_86 (by decide) ?_
          refine a_ild dX11_isFull_87 (ca_345 hw) (ixn (m := 3) (by omega) (by decide)) ?_
          rw [e3]
          refine a_bipush (40 : Int32) dX11_isFull_88 (by decide) ?_
          refine a_icmp_ne (tgt := 97) dX11_isFull_90 (by decide) (fun h90 => ?_) (fun h90 => ?_)
          · have h90 : ¬ dP z.2.1 = 40 := fun q => h90 ((nI_eqI (b := 40) (by omega) (by decide)).mpr q)
            refine a_iconst (0 : Int32) dX11_isFull_97 (by decide) ?_
            exact a_out (congrArg (fun x : Int32 => (Sum.inl (some (Value.int x)) : Oc)) (if_neg (by unfold fuS; simp only [if_neg h5, if_neg h29, if_neg h54]; exact fun q => absurd q.2 (by omega))).symm) rfl (a_ireturn dX11_isFull_98 rfl rfl)
          · have h90 := (nI_eqI (b := 40) (by omega) (by decide)).mp h90
            refine a_iconst (1 : Int32) dX11_isFull_93 (by decide) ?_
            refine a_goto (tgt := 98) dX11_isFull_94 (by decide) ?_
            exact a_out (congrArg (fun x : Int32 => (Sum.inl (some (Value.int x)) : Oc)) (if_pos (by unfold fuS; simp only [if_neg h5, if_neg h29, if_neg h54]; exact ⟨h79, by omega⟩)).symm) rfl (a_ireturn dX11_isFull_98 rfl rfl)
      · have h54 := (ww_12 hp).mp h54
        refine a_aload_n dX11_isFull_57 rfl ?_
        refine a_getR (cr_338_2 hw) dX11_isFull_58 fs_X11_13 rfl (co_338 hw) ?_
        refine a_iconst (2 : Int32) dX11_isFull_61 (by decide) ?_
        refine a_ild dX11_isFull_62 (ca_340 hw) (ixn (m := 2) (by omega) (by decide)) ?_
        rw [e2]
        refine a_bipush (8 : Int32) dX11_isFull_63 (by decide) ?_
        refine a_icmp_ne (tgt := 72) dX11_isFull_65 (by decide) (fun h65 => ?_) (fun h65 => ?_)
        · have h65 : ¬ pT z.1 = 8 := fun q => h65 ((nI_eqI (b := 8) (by omega) (by decide)).mpr q)
          refine a_iconst (0 : Int32) dX11_isFull_72 (by decide) ?_
          exact a_out (congrArg (fun x : Int32 => (Sum.inl (some (Value.int x)) : Oc)) (if_neg (by unfold fuS; simp only [if_neg h5, if_neg h29, if_pos h54]; omega)).symm) rfl (a_ireturn dX11_isFull_73 rfl rfl)
        · have h65 := (nI_eqI (b := 8) (by omega) (by decide)).mp h65
          refine a_iconst (1 : Int32) dX11_isFull_68 (by decide) ?_
          refine a_goto (tgt := 73) dX11_isFull_69 (by decide) ?_
          exact a_out (congrArg (fun x : Int32 => (Sum.inl (some (Value.int x)) : Oc)) (if_pos (by unfold fuS; simp only [if_neg h5, if_neg h29, if_pos h54]; omega)).symm) rfl (a_ireturn dX11_isFull_73 rfl rfl)
    · have h29 := (ww_8 hp).mp h29
      refine a_aload_n dX11_isFull_32 rfl ?_
      refine a_getR (cr_338_2 hw) dX11_isFull_33 fs_X11_13 rfl (co_338 hw) ?_
      refine a_iconst (1 : Int32) dX11_isFull_36 (by decide) ?_
      refine a_ild dX11_isFull_37 (ca_340 hw) (ixn (m := 1) (by omega) (by decide)) ?_
      rw [e1]
      refine a_bipush (12 : Int32) dX11_isFull_38 (by decide) ?_
      refine a_icmp_ne (tgt := 47) dX11_isFull_40 (by decide) (fun h40 => ?_) (fun h40 => ?_)
      · have h40 : ¬ pM z.1 = 12 := fun q => h40 ((nI_eqI (b := 12) (by omega) (by decide)).mpr q)
        refine a_iconst (0 : Int32) dX11_isFull_47 (by decide) ?_
        exact a_out (congrArg (fun x : Int32 => (Sum.inl (some (Value.int x)) : Oc)) (if_neg (by unfold fuS; simp only [if_neg h5, if_pos h29]; omega)).symm) rfl (a_ireturn dX11_isFull_48 rfl rfl)
      · have h40 := (nI_eqI (b := 12) (by omega) (by decide)).mp h40
        refine a_iconst (1 : Int32) dX11_isFull_43 (by decide) ?_
        refine a_goto (tgt := 48) dX11_isFull_44 (by decide) ?_
        exact a_out (congrArg (fun x : Int32 => (Sum.inl (some (Value.int x)) : Oc)) (if_pos (by unfold fuS; simp only [if_neg h5, if_pos h29]; omega)).symm) rfl (a_ireturn dX11_isFull_48 rfl rfl)
  · have h5 := (ww_6 hp).mp h5
    refine a_aload_n dX11_isFull_8 rfl ?_
    refine a_getR (cr_338_2 hw) dX11_isFull_9 fs_X11_13 rfl (co_338 hw) ?_
    refine a_iconst (0 : Int32) dX11_isFull_12 (by decide) ?_
    refine a_ild dX11_isFull_13 (ca_340 hw) (ixn (m := 0) (by omega) (by decide)) ?_
    rw [e0]
    refine a_iconst (4 : Int32) dX11_isFull_14 (by decide) ?_
    refine a_icmp_ne (tgt := 22) dX11_isFull_15 (by decide) (fun h15 => ?_) (fun h15 => ?_)
    · have h15 : ¬ pC z.1 = 4 := fun q => h15 ((nI_eqI (b := 4) (by omega) (by decide)).mpr q)
      refine a_iconst (0 : Int32) dX11_isFull_22 (by decide) ?_
      exact a_out (congrArg (fun x : Int32 => (Sum.inl (some (Value.int x)) : Oc)) (if_neg (by unfold fuS; simp only [if_pos h5]; omega)).symm) rfl (a_ireturn dX11_isFull_23 rfl rfl)
    · have h15 := (nI_eqI (b := 4) (by omega) (by decide)).mp h15
      refine a_iconst (1 : Int32) dX11_isFull_18 (by decide) ?_
      refine a_goto (tgt := 23) dX11_isFull_19 (by decide) ?_
      exact a_out (congrArg (fun x : Int32 => (Sum.inl (some (Value.int x)) : Oc)) (if_pos (by unfold fuS; simp only [if_pos h5]; omega)).symm) rfl (a_ireturn dX11_isFull_23 rfl rfl)
abbrev R_X11_readBehind : Room := { frames := 8, cells := 0, slots := 0, locals := 169 }
abbrev RX_X11_readBehind : Room := { frames := 8, cells := 1, slots := 6, locals := 169 }

theorem m_readBehind (hz : MgV B n (tkE B n p) z μ) (hg : GzD z) (hp : p ≤ n) (hf : ¬ fuS B n p z) (hi : isW B n p) : CV Y_X11_readBehind R_X11_readBehind [.ref 338, .long (lN (wdL B n p))] μ (StM B n μ (stS B n p z)) := by
  refine CV.ent yk_X11_readBehind (Nat.le_of_ble_eq_true rfl) ?_
  have hw := hz.wf
  unfold fuS at hf
  unfold isW at hi
  refine lf (a_lload_n dX11_readBehind_0 rfl) ?_
  refine lf (a_ldc2 (v := 664997) dX11_readBehind_1 (lwa_in 1735 (by decide +kernel) rfl)) ?_
  refine lf (a_lcmp dX11_readBehind_4) ?_
  refine lfn (a_if_ne (tgt := 13) dX11_readBehind_5 (by decide)) (fun h5 => ?_) (fun h5 => ?_)
  · have h5 : ¬ wdI B n p 4 = true := fun q => h5 ((ww_4 hp).mpr q)
    refine lf (a_lload_n dX11_readBehind_13 rfl) ?_
    refine lf (a_ldc2 (v := 398372) dX11_readBehind_14 (lwa_in 1736 (by decide +kernel) rfl)) ?_
    refine lf (a_lcmp dX11_readBehind_17) ?_
    refine lfn (a_if_ne (tgt := 26) dX11_readBehind_18 (by decide)) (fun h18 => ?_) (fun h18 => ?_)
    · have h18 : ¬ wdI B n p 5 = true := fun q => h18 ((ww_5 hp).mpr q)
      refine lf (a_lload_n dX11_readBehind_26 rfl) ?_
      refine lf (a_ldc2 (v := 3180846) dX11_readBehind_27 (lwa_in 1737 (by decide +kernel) rfl)) ?_
      refine lf (a_lcmp dX11_readBehind_30) ?_
      refine lfn (a_if_ne (tgt := 39) dX11_readBehind_31 (by decide)) (fun h31 => ?_) (fun h31 => ?_)
      · have h31 : ¬ wdI B n p 6 = true := fun q => h31 ((ww_6 hp).mpr q)
        refine lf (a_lload_n dX11_readBehind_39 rfl) ?_
        refine lf (a_ldc2 (v := 431148) dX11_readBehind_40 (lwa_in 1738 (by decide +kernel) rfl)) ?_
        refine lf (a_lcmp dX11_readBehind_43) ?_
        refine lfn (a_if_ne (tgt := 52) dX11_readBehind_44 (by decide)) (fun h44 => ?_) (fun h44 => ?_)
        · have h44 : ¬ wdI B n p 8 = true := fun q => h44 ((ww_8 hp).mpr q)
          refine lf (a_lload_n dX11_readBehind_52 rfl) ?_
          refine lf (a_ldc2 (v := 22094950585) dX11_readBehind_53 (lwa_in 1739 (by decide +kernel) rfl)) ?_
          refine lf (a_lcmp dX11_readBehind_56) ?_
          refine lfn (a_if_ne (tgt := 65) dX11_readBehind_57 (by decide)) (fun h57 => ?_) (fun h57 => ?_)
          · have h57 : ¬ wdI B n p 12 = true := fun q => h57 ((ww_12 hp).mpr q)
            refine lf (a_lload_n dX11_readBehind_65 rfl) ?_
            refine lf (a_ldc2 (v := 257085075) dX11_readBehind_66 (lwa_in 1740 (by decide +kernel) rfl)) ?_
            refine lf (a_lcmp dX11_readBehind_69) ?_
            refine lfn (a_if_ne (tgt := 80) dX11_readBehind_70 (by decide)) (fun h70 => ?_) (fun h70 => ?_)
            · have h70 : ¬ wdI B n p 13 = true := fun q => h70 ((ww_13 hp).mpr q)
              have h14 : wdI B n p 14 = true := by
                rcases hi with q | q | q | q | q | q | q
                · exact absurd q h5
                · exact absurd q h18
                · exact absurd q h31
                · exact absurd q h44
                · exact absurd q h57
                · exact absurd q h70
                · exact q
              refine lf (a_aload_n dX11_readBehind_80 rfl) ?_
              obtain ⟨v_, W81, k81, hR81⟩ := (m_readGuest hz hg (fun q => by rw [if_neg h31, if_neg h44, if_neg h57] at hf; exact hf ⟨h14, q⟩))
              obtain ⟨x81, rfl, hx81⟩ := hR81.v
              refine lf (a_inv (b2 := (0, 0)) k81 rfl dX11_readBehind_81 yk_X11_readGuest im_X11_readGuest se_X11_readGuest ml_X11_267 rfl (co_338 hw) (by decide) hc_X11 (by decide) (by decide) (Nat.le_of_ble_eq_true rfl)) ?_
              refine ⟨_, _, (a_ireturn dX11_readBehind_84 rfl (by first | (rcases hx74 with rfl | rfl <;> rfl) | (rcases hx81 with rfl | rfl <;> rfl))), ?_⟩
              first
              | exact ⟨_, rfl, by unfold stS; rw [if_neg h5, if_neg h18, if_neg h31, if_neg h44, if_neg h57, if_pos h70]; exact hR74⟩
              | exact ⟨_, rfl, by unfold stS; rw [if_neg h5, if_neg h18, if_neg h31, if_neg h44, if_neg h57, if_neg h70, if_pos h14]; exact hR81⟩
            · have h70 := (ww_13 hp).mp h70
              refine lf (a_aload_n dX11_readBehind_73 rfl) ?_
              obtain ⟨v_, W74, k74, hR74⟩ := (m_readGuests hz hg)
              obtain ⟨x74, rfl, hx74⟩ := hR74.v
              refine lf (a_inv (b2 := (0, 0)) k74 rfl dX11_readBehind_74 yk_X11_readGuests im_X11_readGuests se_X11_readGuests ml_X11_264 rfl (co_338 hw) (by decide) hc_X11 (by decide) (by decide) (Nat.le_of_ble_eq_true rfl)) ?_
              refine lf (a_goto (tgt := 84) dX11_readBehind_77 (by decide)) ?_
              refine ⟨_, _, (a_ireturn dX11_readBehind_84 rfl (by first | (rcases hx74 with rfl | rfl <;> rfl) | (rcases hx81 with rfl | rfl <;> rfl))), ?_⟩
              first
              | exact ⟨_, rfl, by unfold stS; rw [if_neg h5, if_neg h18, if_neg h31, if_neg h44, if_neg h57, if_pos h70]; exact hR74⟩
              | exact ⟨_, rfl, by unfold stS; rw [if_neg h5, if_neg h18, if_neg h31, if_neg h44, if_neg h57, if_neg h70, if_pos h14]; exact hR81⟩
          · have h57 := (ww_12 hp).mp h57
            refine lf (a_aload_n dX11_readBehind_60 rfl) ?_
            obtain ⟨v_, W61, k61, hR61⟩ := (m_readTrolley hz hg (by rw [if_neg h31, if_neg h44, if_pos h57] at hf; exact hf))
            obtain ⟨x61, rfl, hx61⟩ := hR61.v
            refine lf (a_inv (b2 := (0, 0)) k61 rfl dX11_readBehind_61 yk_X11_readTrolley im_X11_readTrolley se_X11_readTrolley ml_X11_261 rfl (co_338 hw) (by decide) hc_X11 (by decide) (by decide) (Nat.le_of_ble_eq_true rfl)) ?_
            refine ⟨_, _, (a_ireturn dX11_readBehind_64 rfl (by rcases hx61 with rfl | rfl <;> rfl)), ?_⟩
            exact ⟨_, rfl, by unfold stS; rw [if_neg h5, if_neg h18, if_neg h31, if_neg h44, if_pos h57]; exact hR61⟩
        · have h44 := (ww_8 hp).mp h44
          refine lf (a_aload_n dX11_readBehind_47 rfl) ?_
          obtain ⟨v_, W48, k48, hR48⟩ := (m_readMeal hz hg (by rw [if_neg h31, if_pos h44] at hf; exact hf))
          obtain ⟨x48, rfl, hx48⟩ := hR48.v
          refine lf (a_inv (b2 := (0, 0)) k48 rfl dX11_readBehind_48 yk_X11_readMeal im_X11_readMeal se_X11_readMeal ml_X11_258 rfl (co_338 hw) (by decide) hc_X11 (by decide) (by decide) (Nat.le_of_ble_eq_true rfl)) ?_
          refine ⟨_, _, (a_ireturn dX11_readBehind_51 rfl (by rcases hx48 with rfl | rfl <;> rfl)), ?_⟩
          exact ⟨_, rfl, by unfold stS; rw [if_neg h5, if_neg h18, if_neg h31, if_pos h44]; exact hR48⟩
      · have h31 := (ww_6 hp).mp h31
        refine lf (a_aload_n dX11_readBehind_34 rfl) ?_
        obtain ⟨v_, W35, k35, hR35⟩ := (m_readCabin hz hg (by rw [if_pos h31] at hf; exact hf))
        obtain ⟨x35, rfl, hx35⟩ := hR35.v
        refine lf (a_inv (b2 := (0, 0)) k35 rfl dX11_readBehind_35 yk_X11_readCabin im_X11_readCabin se_X11_readCabin ml_X11_255 rfl (co_338 hw) (by decide) hc_X11 (by decide) (by decide) (Nat.le_of_ble_eq_true rfl)) ?_
        refine ⟨_, _, (a_ireturn dX11_readBehind_38 rfl (by rcases hx35 with rfl | rfl <;> rfl)), ?_⟩
        exact ⟨_, rfl, by unfold stS; rw [if_neg h5, if_neg h18, if_pos h31]; exact hR35⟩
    · have h18 := (ww_5 hp).mp h18
      refine lf (a_aload_n dX11_readBehind_21 rfl) ?_
      obtain ⟨v_, W22, k22, hR22⟩ := (m_readLead hz)
      obtain ⟨x22, rfl, hx22⟩ := hR22.v
      refine lf (a_inv (b2 := (0, 0)) k22 rfl dX11_readBehind_22 yk_X11_readLead im_X11_readLead se_X11_readLead ml_X11_252 rfl (co_338 hw) (by decide) hc_X11 (by decide) (by decide) (Nat.le_of_ble_eq_true rfl)) ?_
      refine ⟨_, _, (a_ireturn dX11_readBehind_25 rfl (by rcases hx22 with rfl | rfl <;> rfl)), ?_⟩
      exact ⟨_, rfl, by unfold stS; rw [if_neg h5, if_pos h18]; exact hR22⟩
  · have h5 := (ww_4 hp).mp h5
    refine lf (a_aload_n dX11_readBehind_8 rfl) ?_
    obtain ⟨v_, W9, k9, hR9⟩ := (m_readTime hz)
    obtain ⟨x9, rfl, hx9⟩ := hR9.v
    refine lf (a_inv (b2 := (0, 0)) k9 rfl dX11_readBehind_9 yk_X11_readTime im_X11_readTime se_X11_readTime ml_X11_249 rfl (co_338 hw) (by decide) hc_X11 (by decide) (by decide) (Nat.le_of_ble_eq_true rfl)) ?_
    refine ⟨_, _, (a_ireturn dX11_readBehind_12 rfl (by rcases hx9 with rfl | rfl <;> rfl)), ?_⟩
    exact ⟨_, rfl, by unfold stS; rw [if_pos h5]; exact hR9⟩
abbrev R_X11_readStatement : Room := { frames := 9, cells := 0, slots := 0, locals := 191 }
abbrev RX_X11_readStatement : Room := { frames := 9, cells := 1, slots := 6, locals := 191 }

theorem st_notW (h : ¬ isW B n p) : stS B n p z = .inl (1, tkS B n p) := by
  unfold isW at h
  unfold stS
  rw [if_neg (fun q => h (Or.inl q)), if_neg (fun q => h (Or.inr (Or.inl q))), if_neg (fun q => h (Or.inr (Or.inr (Or.inl q)))), if_neg (fun q => h (Or.inr (Or.inr (Or.inr (Or.inl q))))), if_neg (fun q => h (Or.inr (Or.inr (Or.inr (Or.inr (Or.inl q)))))), if_neg (fun q => h (Or.inr (Or.inr (Or.inr (Or.inr (Or.inr (Or.inl q))))))), if_neg (fun q => h (Or.inr (Or.inr (Or.inr (Or.inr (Or.inr (Or.inr q)))))))]
theorem wd_two {a b : Nat} (h1 : wdI B n p a = true) (h2 : wdI B n p b = true) : kby a = kby b := (of_decide_eq_true h1).2.symm.trans (of_decide_eq_true h2).2
theorem st_full (h : fuS B n p z) : stS B n p z = .inl (4, tkS B n p) := by
  unfold fuS at h
  have h45 : ∀ c, c = 6 ∨ c = 8 ∨ c = 12 ∨ c = 14 → wdI B n p c = true → ¬ wdI B n p 4 = true ∧ ¬ wdI B n p 5 = true ∧ (c = 14 → ¬ wdI B n p 13 = true) := by
    intro c hc hw
    refine ⟨fun q => ?_, fun q => ?_, fun e q => ?_⟩
    · have := wd_two hw q
      rcases hc with rfl | rfl | rfl | rfl <;> exact absurd this (by decide +kernel)
    · have := wd_two hw q
      rcases hc with rfl | rfl | rfl | rfl <;> exact absurd this (by decide +kernel)
    · subst e
      exact absurd (wd_two hw q) (by decide +kernel)
  unfold stS
  by_cases h6 : wdI B n p 6 = true
  · rw [if_pos h6] at h
    obtain ⟨a, b, _⟩ := h45 6 (by decide) h6
    rw [if_neg a, if_neg b, if_pos h6]
    unfold stCabin
    rw [if_pos h]
  · rw [if_neg h6] at h
    by_cases h8 : wdI B n p 8 = true
    · rw [if_pos h8] at h
      obtain ⟨a, b, _⟩ := h45 8 (by decide) h8
      rw [if_neg a, if_neg b, if_neg h6, if_pos h8]
      unfold stMeal
      rw [if_pos h]
    · rw [if_neg h8] at h
      by_cases h12 : wdI B n p 12 = true
      · rw [if_pos h12] at h
        obtain ⟨a, b, _⟩ := h45 12 (by decide) h12
        rw [if_neg a, if_neg b, if_neg h6, if_neg h8, if_pos h12]
        unfold stTrolley
        rw [if_pos h]
      · rw [if_neg h12] at h
        obtain ⟨a, b, c⟩ := h45 14 (by decide) h.1
        rw [if_neg a, if_neg b, if_neg h6, if_neg h8, if_neg h12, if_neg (c rfl), if_pos h.1]
        unfold stGuest
        rw [if_pos h.2]
theorem m_readStatement (hz : MgV B n p z μ) (hg : GzD z) : CV Y_X11_readStatement R_X11_readStatement [.ref 338] μ (StM B n μ (stS B n p z)) := by
  refine CV.ent yk_X11_readStatement (Nat.le_of_ble_eq_true rfl) ?_
  have hw := hz.wf
  refine lf (a_aload_n dX11_readStatement_0 rfl) ?_
  obtain ⟨v_, W1, k1, rfl, hF, hH⟩ := (m_nextWord hw hz.tx)
  have hz1 := hz.hd hF hH
  have hw1 := hz1.wf
  refine lf (a_inv (b2 := (0, 0)) k1 rfl dX11_readStatement_1 yk_X11_nextWord im_X11_nextWord se_X11_nextWord ml_X11_158 rfl (co_338 (by repeat (first | with_reducible exact hw | with_reducible exact hwc | with_reducible assumption | with_reducible apply Wf.sI | with_reducible apply Wf.sL | with_reducible apply Wf.cpI | with_reducible apply Wf.cpL | with_reducible apply Wf.cp2 | with_reducible apply Wf.sIs | with_reducible apply Wf.sLs | with_reducible apply Wf.cpU | with_reducible apply Wf.fillI | with_reducible apply Wf.clU | with_reducible apply Wf.dnF | with_reducible apply Wf.gbW))) (by decide) hc_X11 (by decide) (by decide) (Nat.le_of_ble_eq_true rfl)) ?_
  refine lf (a_lstore_n dX11_readStatement_4 (by decide)) ?_
  refine lf (a_lload_n dX11_readStatement_5 rfl) ?_
  refine lf (a_invS (b2 := (0, 0)) (m_isStatement hz.le) rfl dX11_readStatement_6 yk_X11_isStatement sm_X11_isStatement ml_X11_270 rfl (by decide) (by decide) (Nat.le_of_ble_eq_true rfl)) ?_
  refine lfn (a_if_ne (tgt := 18) dX11_readStatement_9 (by decide)) (fun h9 => ?_) (fun h9 => ?_)
  · have h9 := b01f.mp h9
    refine lf (a_aload_n dX11_readStatement_18 rfl) ?_
    refine lf (a_lload_n dX11_readStatement_19 rfl) ?_
    refine lf (a_inv (b2 := (0, 0)) (m_isFull hz1 hg) rfl dX11_readStatement_20 yk_X11_isFull im_X11_isFull se_X11_isFull ml_X11_273 rfl (co_338 (by repeat (first | with_reducible exact hw | with_reducible exact hwc | with_reducible assumption | with_reducible apply Wf.sI | with_reducible apply Wf.sL | with_reducible apply Wf.cpI | with_reducible apply Wf.cpL | with_reducible apply Wf.cp2 | with_reducible apply Wf.sIs | with_reducible apply Wf.sLs | with_reducible apply Wf.cpU | with_reducible apply Wf.fillI | with_reducible apply Wf.clU | with_reducible apply Wf.dnF | with_reducible apply Wf.gbW))) (by decide) hc_X11 (by decide) (by decide) (Nat.le_of_ble_eq_true rfl)) ?_
    refine lf2 (a_if_eq (tgt := 32) dX11_readStatement_23 (by decide)) (fun h23 => ?_) (fun h23 => ?_)
    · have h23 := b01t.mp h23
      refine lf (a_aload_n dX11_readStatement_32 rfl) ?_
      refine lf (a_inv (b2 := (0, 0)) (m_passes hw1) rfl dX11_readStatement_33 yk_X11_passes im_X11_passes se_X11_passes ml_X11_162 rfl (co_338 (by repeat (first | with_reducible exact hw | with_reducible exact hwc | with_reducible assumption | with_reducible apply Wf.sI | with_reducible apply Wf.sL | with_reducible apply Wf.cpI | with_reducible apply Wf.cpL | with_reducible apply Wf.cp2 | with_reducible apply Wf.sIs | with_reducible apply Wf.sLs | with_reducible apply Wf.cpU | with_reducible apply Wf.fillI | with_reducible apply Wf.clU | with_reducible apply Wf.dnF | with_reducible apply Wf.gbW))) (by decide) hc_X11 (by decide) (by decide) (Nat.le_of_ble_eq_true rfl)) ?_
      have hzp := hz1.pass (hH.e (isW_lt h9))
      have hwp := hzp.wf
      have hFp := hF.fk.pa.s (k := 18) (by decide) (gI W1 338 21)
      refine lf (a_pop dX11_readStatement_36 rfl) ?_
      refine lf (a_aload_n dX11_readStatement_37 rfl) ?_
      refine lf (a_lload_n dX11_readStatement_38 rfl) ?_
      obtain ⟨v_, W39, k39, hR39⟩ := (m_readBehind hzp hg hz.le h23 h9)
      obtain ⟨x39, rfl, hx39⟩ := hR39.v
      refine lf (a_inv (b2 := (0, 0)) k39 rfl dX11_readStatement_39 yk_X11_readBehind im_X11_readBehind se_X11_readBehind ml_X11_276 rfl (co_338 (by repeat (first | with_reducible exact hw | with_reducible exact hwc | with_reducible assumption | with_reducible apply Wf.sI | with_reducible apply Wf.sL | with_reducible apply Wf.cpI | with_reducible apply Wf.cpL | with_reducible apply Wf.cp2 | with_reducible apply Wf.sIs | with_reducible apply Wf.sLs | with_reducible apply Wf.cpU | with_reducible apply Wf.fillI | with_reducible apply Wf.clU | with_reducible apply Wf.dnF | with_reducible apply Wf.gbW))) (by decide) hc_X11 (by decide) (by decide) (Nat.le_of_ble_eq_true rfl)) ?_
      refine ⟨_, _, (a_ireturn dX11_readStatement_42 rfl (by rcases hx39 with rfl | rfl <;> rfl)), ?_⟩
      exact ⟨_, rfl, hR39.pre hFp⟩
    · have h23 := b01f.mp h23
      refine lf (a_aload_n dX11_readStatement_26 rfl) ?_
      refine lf (a_iconst (4 : Int32) dX11_readStatement_27 (by decide)) ?_
      refine lf (a_inv (b2 := (0, 0)) (m_fails hw1 4) rfl dX11_readStatement_28 yk_X11_fails im_X11_fails se_X11_fails ml_X11_166 rfl (co_338 (by repeat (first | with_reducible exact hw | with_reducible exact hwc | with_reducible assumption | with_reducible apply Wf.sI | with_reducible apply Wf.sL | with_reducible apply Wf.cpI | with_reducible apply Wf.cpL | with_reducible apply Wf.cp2 | with_reducible apply Wf.sIs | with_reducible apply Wf.sLs | with_reducible apply Wf.cpU | with_reducible apply Wf.fillI | with_reducible apply Wf.clU | with_reducible apply Wf.dnF | with_reducible apply Wf.gbW))) (by decide) hc_X11 (by decide) (by decide) (Nat.le_of_ble_eq_true rfl)) ?_
      refine ⟨_, _, (a_ireturn dX11_readStatement_31 rfl rfl), ?_⟩
      exact ⟨_, rfl, StM.fail (c := 4) hF.fk.pa hH.2.1 (st_full h23)⟩
  · have h9 := b01t.mp h9
    refine lf (a_aload_n dX11_readStatement_12 rfl) ?_
    refine lf (a_iconst (1 : Int32) dX11_readStatement_13 (by decide)) ?_
    refine lf (a_inv (b2 := (0, 0)) (m_fails hw1 1) rfl dX11_readStatement_14 yk_X11_fails im_X11_fails se_X11_fails ml_X11_166 rfl (co_338 (by repeat (first | with_reducible exact hw | with_reducible exact hwc | with_reducible assumption | with_reducible apply Wf.sI | with_reducible apply Wf.sL | with_reducible apply Wf.cpI | with_reducible apply Wf.cpL | with_reducible apply Wf.cp2 | with_reducible apply Wf.sIs | with_reducible apply Wf.sLs | with_reducible apply Wf.cpU | with_reducible apply Wf.fillI | with_reducible apply Wf.clU | with_reducible apply Wf.dnF | with_reducible apply Wf.gbW))) (by decide) hc_X11 (by decide) (by decide) (Nat.le_of_ble_eq_true rfl)) ?_
    refine ⟨_, _, (a_ireturn dX11_readStatement_17 rfl rfl), ?_⟩
    exact ⟨_, rfl, StM.fail (c := 1) hF.fk.pa hH.2.1 (st_notW h9)⟩
end MSTMT
