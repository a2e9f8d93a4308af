section PARSI
variable {μ W : Wd} {B : Nat → Nat} {n p0 p : Nat} {z : PZ}
/-- diets, letter by letter -/
def dtW (B : Nat → Nat) : Nat → Nat → Nat → Option Nat
  | 0, _, a => some a
  | d + 1, m, a => if 8 ≤ B m - 97 then none else if a.testBit (B m - 97) = true then none else dtW B d (m + 1) (a ||| 2 ^ (B m - 97))
def ndS (B : Nat → Nat) (n p : Nat) : (Nat × Nat) ⊕ Nat := if tkK B n p = 1 then (match dtW B (tkE B n p - tkS B n p) (tkS B n p) 0 with
  | none => .inl (1, tkS B n p)
  | some a => .inr a) else .inl (1, tkS B n p)
theorem dbit : ∀ a, a < 256 → ∀ k, k < 8 → ((((nI a >>> (nI k &&& 31)) &&& 1 = 0) ↔ ¬ a.testBit k = true) ∧ (nI a ||| ((1 : Int32) <<< (nI k &&& 31))) = nI (a ||| 2 ^ k) ∧ a ||| 2 ^ k < 256) := by decide +kernel
theorem dsub : ∀ b, b < 123 → 97 ≤ b → sby b - 97 = nI (b - 97) := by decide +kernel
theorem dtW_lt {B : Nat → Nat} : ∀ {d m a r : Nat}, a < 256 → dtW B d m a = some r → r < 256
  | 0, _, a, r, ha, h => by injection h with h; omega
  | d + 1, m, a, r, ha, h => by
    unfold dtW at h
    split at h
    · exact nomatch h
    · split at h
      · exact nomatch h
      · exact dtW_lt (dbit a ha (B m - 97) (by omega)).2.2 h

abbrev R_X2_nextDiets : Room := { frames := 2, cells := 0, slots := 0, locals := 41 }
abbrev RX_X2_nextDiets : Room := { frames := 2, cells := 1, slots := 6, locals := 41 }

theorem l_X2_nextDiets_32m (hz : PsV B n p0 p z W) {m : Nat} {Q : Oc → Wd → Prop} (kx : WP Y_X2_nextDiets R_X2_nextDiets (0, 0) W 103 [(0, .ref 79), (1, .int (-1))] [] Q) : WP Y_X2_nextDiets R_X2_nextDiets (0, 0) W 32 [(0, .ref 79), (1, .int (-1)), (2, .int (nI m))] [] Q := by
  have hwc := hz.wf
  have hA := hz.at'
  refine lf (a_iload_n dX2_nextDiets_32 rfl) ?_
  refine lf (a_aload_n dX2_nextDiets_33 rfl) ?_
  refine lf (a_getR (cr_79_0 (by repeat (first | with_reducible exact hw | with_reducible exact hwc | with_reducible assumption | with_reducible apply Wf.sI | with_reducible apply Wf.sL | with_reducible apply Wf.cpI | with_reducible apply Wf.cpL | with_reducible apply Wf.cp2 | with_reducible apply Wf.sIs | with_reducible apply Wf.sLs | with_reducible apply Wf.cpU | with_reducible apply Wf.fillI | with_reducible apply Wf.clU | with_reducible apply Wf.dnF | with_reducible apply Wf.gbW))) dX2_nextDiets_34 fs_X2_12 rfl (co_79 (by repeat (first | with_reducible exact hw | with_reducible exact hwc | with_reducible assumption | with_reducible apply Wf.sI | with_reducible apply Wf.sL | with_reducible apply Wf.cpI | with_reducible apply Wf.cpL | with_reducible apply Wf.cp2 | with_reducible apply Wf.sIs | with_reducible apply Wf.sLs | with_reducible apply Wf.cpU | with_reducible apply Wf.fillI | with_reducible apply Wf.clU | with_reducible apply Wf.dnF | with_reducible apply Wf.gbW)))) ?_
  refine lf (a_getI dX2_nextDiets_37 fs_X2_225 rfl (co_80 (by repeat (first | with_reducible exact hw | with_reducible exact hwc | with_reducible assumption | with_reducible apply Wf.sI | with_reducible apply Wf.sL | with_reducible apply Wf.cpI | with_reducible apply Wf.cpL | with_reducible apply Wf.cp2 | with_reducible apply Wf.sIs | with_reducible apply Wf.sLs | with_reducible apply Wf.cpU | with_reducible apply Wf.fillI | with_reducible apply Wf.clU | with_reducible apply Wf.dnF | with_reducible apply Wf.gbW)))) ?_
  rw [hA.2.1]
  refine lf2 (a_icmp_ge (tgt := 103) dX2_nextDiets_40 (by decide)) (fun h40 => ?_) (fun h40 => ?_)
  · exact lf (a_loc _ rfl) kx
  · refine lf (a_iload_n dX2_nextDiets_43 rfl) ?_
    refine lf (a_iconst (-1 : Int32) dX2_nextDiets_44 (by decide)) ?_
    refine lf2 (a_icmp_eq (tgt := 103) dX2_nextDiets_45 (by decide)) (fun h45 => ?_) (fun h45 => absurd h45 (by decide))
    exact lf (a_loc _ rfl) kx
theorem l_X2_nextDiets_32 (hz : PsV B n p0 p z W) (hk : tkK B n p = 1) {r : Option Nat} {Q : Oc → Wd → Prop} (kx : WP Y_X2_nextDiets R_X2_nextDiets (0, 0) W 103 [(0, .ref 79), (1, .int (oI r))] [] Q) : ∀ dd m a, m + dd = tkE B n p → tkS B n p ≤ m → a < 256 → dtW B dd m a = r → WP Y_X2_nextDiets R_X2_nextDiets (0, 0) W 32 [(0, .ref 79), (1, .int (nI a)), (2, .int (nI m))] [] Q := by
  have hwc := hz.wf
  have hA := hz.at'
  have hT := hz.tk
  have htx := hT.1
  have h900 := hz.n900
  have hen := tkE_le (B := B) hz.le
  have hwd := (tk_word hz.le hk).2
  intro dd
  induction dd with
  | zero =>
    intro m a hm hsm ha hr
    obtain rfl : tkE B n p = m := by omega
    subst hr
    refine lf (a_iload_n dX2_nextDiets_32 rfl) ?_
    refine lf (a_aload_n dX2_nextDiets_33 rfl) ?_
    refine lf (a_getR (cr_79_0 (by repeat (first | with_reducible exact hw | with_reducible exact hwc | with_reducible assumption | with_reducible apply Wf.sI | with_reducible apply Wf.sL | with_reducible apply Wf.cpI | with_reducible apply Wf.cpL | with_reducible apply Wf.cp2 | with_reducible apply Wf.sIs | with_reducible apply Wf.sLs | with_reducible apply Wf.cpU | with_reducible apply Wf.fillI | with_reducible apply Wf.clU | with_reducible apply Wf.dnF | with_reducible apply Wf.gbW))) dX2_nextDiets_34 fs_X2_12 rfl (co_79 (by repeat (first | with_reducible exact hw | with_reducible exact hwc | with_reducible assumption | with_reducible apply Wf.sI | with_reducible apply Wf.sL | with_reducible apply Wf.cpI | with_reducible apply Wf.cpL | with_reducible apply Wf.cp2 | with_reducible apply Wf.sIs | with_reducible apply Wf.sLs | with_reducible apply Wf.cpU | with_reducible apply Wf.fillI | with_reducible apply Wf.clU | with_reducible apply Wf.dnF | with_reducible apply Wf.gbW)))) ?_
    refine lf (a_getI dX2_nextDiets_37 fs_X2_225 rfl (co_80 (by repeat (first | with_reducible exact hw | with_reducible exact hwc | with_reducible assumption | with_reducible apply Wf.sI | with_reducible apply Wf.sL | with_reducible apply Wf.cpI | with_reducible apply Wf.cpL | with_reducible apply Wf.cp2 | with_reducible apply Wf.sIs | with_reducible apply Wf.sLs | with_reducible apply Wf.cpU | with_reducible apply Wf.fillI | with_reducible apply Wf.clU | with_reducible apply Wf.dnF | with_reducible apply Wf.gbW)))) ?_
    rw [hA.2.1]
    refine lf2 (a_icmp_ge (tgt := 103) dX2_nextDiets_40 (by decide)) (fun h40 => ?_) (fun h40 => absurd h40 (fun q => q (nI_le (Nat.le_refl _) (by omega))))
    exact lf (a_loc _ rfl) kx
  | succ dd ih =>
    intro m a hm hsm ha hr
    unfold dtW at hr
    have hb := hwd m hsm (by omega)
    obtain ⟨hB, hb1⟩ := hT.2.2.2 m (by omega)
    have hsb := dsub (B m) (by omega) (by omega)
    refine lf (a_iload_n dX2_nextDiets_32 rfl) ?_
    refine lf (a_aload_n dX2_nextDiets_33 rfl) ?_
    refine lf (a_getR (cr_79_0 (by repeat (first | with_reducible exact hw | with_reducible exact hwc | with_reducible assumption | with_reducible apply Wf.sI | with_reducible apply Wf.sL | with_reducible apply Wf.cpI | with_reducible apply Wf.cpL | with_reducible apply Wf.cp2 | with_reducible apply Wf.sIs | with_reducible apply Wf.sLs | with_reducible apply Wf.cpU | with_reducible apply Wf.fillI | with_reducible apply Wf.clU | with_reducible apply Wf.dnF | with_reducible apply Wf.gbW))) dX2_nextDiets_34 fs_X2_12 rfl (co_79 (by repeat (first | with_reducible exact hw | with_reducible exact hwc | with_reducible assumption | with_reducible apply Wf.sI | with_reducible apply Wf.sL | with_reducible apply Wf.cpI | with_reducible apply Wf.cpL | with_reducible apply Wf.cp2 | with_reducible apply Wf.sIs | with_reducible apply Wf.sLs | with_reducible apply Wf.cpU | with_reducible apply Wf.fillI | with_reducible apply Wf.clU | with_reducible apply Wf.dnF | with_reducible apply Wf.gbW)))) ?_
    refine lf (a_getI dX2_nextDiets_37 fs_X2_225 rfl (co_80 (by repeat (first | with_reducible exact hw | with_reducible exact hwc | with_reducible assumption | with_reducible apply Wf.sI | with_reducible apply Wf.sL | with_reducible apply Wf.cpI | with_reducible apply Wf.cpL | with_reducible apply Wf.cp2 | with_reducible apply Wf.sIs | with_reducible apply Wf.sLs | with_reducible apply Wf.cpU | with_reducible apply Wf.fillI | with_reducible apply Wf.clU | with_reducible apply Wf.dnF | with_reducible apply Wf.gbW)))) ?_
    rw [hA.2.1]
    refine lf2 (a_icmp_ge (tgt := 103) dX2_nextDiets_40 (by decide)) (fun h40 => absurd h40 (nI_ge (show m < tkE B n p by omega) (by omega))) (fun h40 => ?_)
    refine lf (a_iload_n dX2_nextDiets_43 rfl) ?_
    refine lf (a_iconst (-1 : Int32) dX2_nextDiets_44 (by decide)) ?_
    refine lf2 (a_icmp_eq (tgt := 103) dX2_nextDiets_45 (by decide)) (fun h45 => absurd h45 (nI_ne1 (by omega))) (fun h45 => ?_)
    refine lf (a_aload_n dX2_nextDiets_48 rfl) ?_
    refine lf (a_getR (cr_79_0 (by repeat (first | with_reducible exact hw | with_reducible exact hwc | with_reducible assumption | with_reducible apply Wf.sI | with_reducible apply Wf.sL | with_reducible apply Wf.cpI | with_reducible apply Wf.cpL | with_reducible apply Wf.cp2 | with_reducible apply Wf.sIs | with_reducible apply Wf.sLs | with_reducible apply Wf.cpU | with_reducible apply Wf.fillI | with_reducible apply Wf.clU | with_reducible apply Wf.dnF | with_reducible apply Wf.gbW))) dX2_nextDiets_49 fs_X2_12 rfl (co_79 (by repeat (first | with_reducible exact hw | with_reducible exact hwc | with_reducible assumption | with_reducible apply Wf.sI | with_reducible apply Wf.sL | with_reducible apply Wf.cpI | with_reducible apply Wf.cpL | with_reducible apply Wf.cp2 | with_reducible apply Wf.sIs | with_reducible apply Wf.sLs | with_reducible apply Wf.cpU | with_reducible apply Wf.fillI | with_reducible apply Wf.clU | with_reducible apply Wf.dnF | with_reducible apply Wf.gbW)))) ?_
    refine lf (a_getR htx dX2_nextDiets_52 fs_X2_228 rfl (co_80 (by repeat (first | with_reducible exact hw | with_reducible exact hwc | with_reducible assumption | with_reducible apply Wf.sI | with_reducible apply Wf.sL | with_reducible apply Wf.cpI | with_reducible apply Wf.cpL | with_reducible apply Wf.cp2 | with_reducible apply Wf.sIs | with_reducible apply Wf.sLs | with_reducible apply Wf.cpU | with_reducible apply Wf.fillI | with_reducible apply Wf.clU | with_reducible apply Wf.dnF | with_reducible apply Wf.gbW)))) ?_
    refine lf (a_iload_n dX2_nextDiets_55 rfl) ?_
    refine lf (a_bld dX2_nextDiets_56 (ca_1 (by repeat (first | with_reducible exact hw | with_reducible exact hwc | with_reducible assumption | with_reducible apply Wf.sI | with_reducible apply Wf.sL | with_reducible apply Wf.cpI | with_reducible apply Wf.cpL | with_reducible apply Wf.cp2 | with_reducible apply Wf.sIs | with_reducible apply Wf.sLs | with_reducible apply Wf.cpU | with_reducible apply Wf.fillI | with_reducible apply Wf.clU | with_reducible apply Wf.dnF | with_reducible apply Wf.gbW))) (ixn (show m < 900 by omega) (by decide))) ?_
    rw [hb1]
    refine lf (a_bipush (97 : Int32) dX2_nextDiets_57 (by decide)) ?_
    refine lf (a_isub dX2_nextDiets_59) ?_
    rw [hsb]
    refine lf (a_istore_n dX2_nextDiets_60 (by decide)) ?_
    refine lf (a_iload_n dX2_nextDiets_61 rfl) ?_
    refine lf (a_bipush (8 : Int32) dX2_nextDiets_62 (by decide)) ?_
    refine lf2 (a_icmp_ge (tgt := 79) dX2_nextDiets_64 (by decide)) (fun h64 => ?_) (fun h64 => ?_)
    · rw [if_pos ((nI_leI (a := 8) (by decide) (by omega)).mp h64)] at hr
      refine lf (a_iconst (0 : Int32) dX2_nextDiets_79 (by decide)) ?_
      refine lf (a_istore dX2_nextDiets_80 (by decide)) ?_
      refine lf (a_iload dX2_nextDiets_82 rfl) ?_
      refine lf2 (a_if_eq (tgt := 95) dX2_nextDiets_84 (by decide)) (fun h84 => ?_) (fun h84 => absurd h84 (by decide))
      refine lf (a_iconst (-1 : Int32) dX2_nextDiets_95 (by decide)) ?_
      refine lf (a_istore_n dX2_nextDiets_96 (by decide)) ?_
      refine lf (a_iincN dX2_nextDiets_97 rfl (by decide)) ?_
      refine lf (a_goto (tgt := 32) dX2_nextDiets_100 (by decide)) ?_
      subst hr
      exact lf (a_loc _ rfl) (l_X2_nextDiets_32m hz kx)
    · have h8 : ¬ 8 ≤ B m - 97 := fun q => h64 ((nI_leI (a := 8) (by decide) (by omega)).mpr q)
      rw [if_neg h8] at hr
      have hdb := dbit a ha (B m - 97) (by omega)
      refine lf (a_iload_n dX2_nextDiets_67 rfl) ?_
      refine lf (a_iload_n dX2_nextDiets_68 rfl) ?_
      refine lf (a_ishr dX2_nextDiets_69) ?_
      refine lf (a_iconst (1 : Int32) dX2_nextDiets_70 (by decide)) ?_
      refine lf (a_iand dX2_nextDiets_71) ?_
      refine lfn (a_if_ne (tgt := 79) dX2_nextDiets_72 (by decide)) (fun h72 => ?_) (fun h72 => ?_)
      · rw [if_pos (Classical.byContradiction fun q => h72 (hdb.1.mpr q))] at hr
        refine lf (a_iconst (0 : Int32) dX2_nextDiets_79 (by decide)) ?_
        refine lf (a_istore dX2_nextDiets_80 (by decide)) ?_
        refine lf (a_iload dX2_nextDiets_82 rfl) ?_
        refine lf2 (a_if_eq (tgt := 95) dX2_nextDiets_84 (by decide)) (fun h84 => ?_) (fun h84 => absurd h84 (by decide))
        refine lf (a_iconst (-1 : Int32) dX2_nextDiets_95 (by decide)) ?_
        refine lf (a_istore_n dX2_nextDiets_96 (by decide)) ?_
        refine lf (a_iincN dX2_nextDiets_97 rfl (by decide)) ?_
        refine lf (a_goto (tgt := 32) dX2_nextDiets_100 (by decide)) ?_
        subst hr
        exact lf (a_loc _ rfl) (l_X2_nextDiets_32m hz kx)
      · rw [if_neg (hdb.1.mp h72)] at hr
        refine lf (a_iconst (1 : Int32) dX2_nextDiets_75 (by decide)) ?_
        refine lf (a_goto (tgt := 80) dX2_nextDiets_76 (by decide)) ?_
        refine lf (a_istore dX2_nextDiets_80 (by decide)) ?_
        refine lf (a_iload dX2_nextDiets_82 rfl) ?_
        refine lf2 (a_if_eq (tgt := 95) dX2_nextDiets_84 (by decide)) (fun h84 => absurd h84 (by decide)) (fun h84 => ?_)
        refine lf (a_iload_n dX2_nextDiets_87 rfl) ?_
        refine lf (a_iconst (1 : Int32) dX2_nextDiets_88 (by decide)) ?_
        refine lf (a_iload_n dX2_nextDiets_89 rfl) ?_
        refine lf (a_ishl dX2_nextDiets_90) ?_
        refine lf (a_ior dX2_nextDiets_91) ?_
        rw [hdb.2.1]
        refine lf (a_goto (tgt := 96) dX2_nextDiets_92 (by decide)) ?_
        refine lf (a_istore_n dX2_nextDiets_96 (by decide)) ?_
        refine lf (a_iincN dX2_nextDiets_97 rfl (by decide)) ?_
        refine lf (a_goto (tgt := 32) dX2_nextDiets_100 (by decide)) ?_
        exact lf (a_loc _ rfl) (ih (m + 1) _ (by omega) (by omega) (hdb.2.2) hr)
theorem t_X2_nextDiets (hz : PsV B n p0 p z μ) : CV Y_X2_nextDiets R_X2_nextDiets [.ref 79] μ (RdQ sT μ (ndS B n (tkE B n p)) (.int (-1)) (fun a v V => v = some (.int (nI a)) ∧ a < 256 ∧ PsV B n p0 (tkE B n p) z V)) := by
  refine CV.ent yk_X2_nextDiets (Nat.le_of_ble_eq_true rfl) ?_
  have hw := hz.wf
  have hX0 : En (sP p0) μ μ := En.rfl' hw
  have hK0 : EkV μ μ := EkV.rfl'
  have hwc := hz.wf
  have hr2 := hz.r2
  have hr1 := hz.r1
  have hA := hz.at'
  have hpn := hz.le
  have hen := tkE_le (B := B) hpn
  have htx := hz.tk.1
  refine lf (a_aload_n dX2_nextDiets_0 rfl) ?_
  refine lf (a_getR (cr_79_0 (by repeat (first | with_reducible exact hw | with_reducible exact hwc | with_reducible assumption | with_reducible apply Wf.sI | with_reducible apply Wf.sL | with_reducible apply Wf.cpI | with_reducible apply Wf.cpL | with_reducible apply Wf.cp2 | with_reducible apply Wf.sIs | with_reducible apply Wf.sLs | with_reducible apply Wf.cpU | with_reducible apply Wf.fillI | with_reducible apply Wf.clU | with_reducible apply Wf.dnF | with_reducible apply Wf.gbW))) dX2_nextDiets_1 fs_X2_12 rfl (co_79 (by repeat (first | with_reducible exact hw | with_reducible exact hwc | with_reducible assumption | with_reducible apply Wf.sI | with_reducible apply Wf.sL | with_reducible apply Wf.cpI | with_reducible apply Wf.cpL | with_reducible apply Wf.cp2 | with_reducible apply Wf.sIs | with_reducible apply Wf.sLs | with_reducible apply Wf.cpU | with_reducible apply Wf.fillI | with_reducible apply Wf.clU | with_reducible apply Wf.dnF | with_reducible apply Wf.gbW)))) ?_
  obtain ⟨v_, W4, k4, rfl, hO4, hA4⟩ := (t_X9_next hz.wf hz.tk hen.2.1 hz.at'.2.1)
  have hz4 := hz.next hO4 hA4 hen.2.1
  have hXc4 := hX0.trans ((ExT hO4).1.mono (fun i _ y => sT_sP p0 i y))
  have hKc4 := hK0.trans (ExT hO4).2
  have hwc := hz4.wf
  have hr2 := hz4.r2
  have hr1 := hz4.r1
  have hA := hz4.at'
  have hpn := hz4.le
  have hen := tkE_le (B := B) hpn
  have htx := hz4.tk.1
  refine lf (a_inv (b2 := (0, 0)) k4 rfl dX2_nextDiets_4 yk_X9_next im_X9_next se_X9_next ml_X2_47 rfl (co_80 (by repeat (first | with_reducible exact hw | with_reducible exact hwc | with_reducible assumption | with_reducible apply Wf.sI | with_reducible apply Wf.sL | with_reducible apply Wf.cpI | with_reducible apply Wf.cpL | with_reducible apply Wf.cp2 | with_reducible apply Wf.sIs | with_reducible apply Wf.sLs | with_reducible apply Wf.cpU | with_reducible apply Wf.fillI | with_reducible apply Wf.clU | with_reducible apply Wf.dnF | with_reducible apply Wf.gbW))) (by decide) hc_X9 (by decide) (by decide) (Nat.le_of_ble_eq_true rfl)) ?_
  refine lf (a_aload_n dX2_nextDiets_7 rfl) ?_
  refine lf (a_getR (cr_79_0 (by repeat (first | with_reducible exact hw | with_reducible exact hwc | with_reducible assumption | with_reducible apply Wf.sI | with_reducible apply Wf.sL | with_reducible apply Wf.cpI | with_reducible apply Wf.cpL | with_reducible apply Wf.cp2 | with_reducible apply Wf.sIs | with_reducible apply Wf.sLs | with_reducible apply Wf.cpU | with_reducible apply Wf.fillI | with_reducible apply Wf.clU | with_reducible apply Wf.dnF | with_reducible apply Wf.gbW))) dX2_nextDiets_8 fs_X2_12 rfl (co_79 (by repeat (first | with_reducible exact hw | with_reducible exact hwc | with_reducible assumption | with_reducible apply Wf.sI | with_reducible apply Wf.sL | with_reducible apply Wf.cpI | with_reducible apply Wf.cpL | with_reducible apply Wf.cp2 | with_reducible apply Wf.sIs | with_reducible apply Wf.sLs | with_reducible apply Wf.cpU | with_reducible apply Wf.fillI | with_reducible apply Wf.clU | with_reducible apply Wf.dnF | with_reducible apply Wf.gbW)))) ?_
  refine lf (a_getI dX2_nextDiets_11 fs_X2_50 rfl (co_80 (by repeat (first | with_reducible exact hw | with_reducible exact hwc | with_reducible assumption | with_reducible apply Wf.sI | with_reducible apply Wf.sL | with_reducible apply Wf.cpI | with_reducible apply Wf.cpL | with_reducible apply Wf.cp2 | with_reducible apply Wf.sIs | with_reducible apply Wf.sLs | with_reducible apply Wf.cpU | with_reducible apply Wf.fillI | with_reducible apply Wf.clU | with_reducible apply Wf.dnF | with_reducible apply Wf.gbW)))) ?_
  rw [hA.2.2.1]
  refine lf (a_iconst (1 : Int32) dX2_nextDiets_14 (by decide)) ?_
  refine lfn (a_icmp_ne (tgt := 22) dX2_nextDiets_15 (by decide)) (fun h15 => ?_) (fun h15 => ?_)
  · refine lf (a_iconst (-1 : Int32) dX2_nextDiets_22 (by decide)) ?_
    refine lf (a_istore_n dX2_nextDiets_23 (by decide)) ?_
    refine lf (a_aload_n dX2_nextDiets_24 rfl) ?_
    refine lf (a_getR (cr_79_0 (by repeat (first | with_reducible exact hw | with_reducible exact hwc | with_reducible assumption | with_reducible apply Wf.sI | with_reducible apply Wf.sL | with_reducible apply Wf.cpI | with_reducible apply Wf.cpL | with_reducible apply Wf.cp2 | with_reducible apply Wf.sIs | with_reducible apply Wf.sLs | with_reducible apply Wf.cpU | with_reducible apply Wf.fillI | with_reducible apply Wf.clU | with_reducible apply Wf.dnF | with_reducible apply Wf.gbW))) dX2_nextDiets_25 fs_X2_12 rfl (co_79 (by repeat (first | with_reducible exact hw | with_reducible exact hwc | with_reducible assumption | with_reducible apply Wf.sI | with_reducible apply Wf.sL | with_reducible apply Wf.cpI | with_reducible apply Wf.cpL | with_reducible apply Wf.cp2 | with_reducible apply Wf.sIs | with_reducible apply Wf.sLs | with_reducible apply Wf.cpU | with_reducible apply Wf.fillI | with_reducible apply Wf.clU | with_reducible apply Wf.dnF | with_reducible apply Wf.gbW)))) ?_
    refine lf (a_getI dX2_nextDiets_28 fs_X2_222 rfl (co_80 (by repeat (first | with_reducible exact hw | with_reducible exact hwc | with_reducible assumption | with_reducible apply Wf.sI | with_reducible apply Wf.sL | with_reducible apply Wf.cpI | with_reducible apply Wf.cpL | with_reducible apply Wf.cp2 | with_reducible apply Wf.sIs | with_reducible apply Wf.sLs | with_reducible apply Wf.cpU | with_reducible apply Wf.fillI | with_reducible apply Wf.clU | with_reducible apply Wf.dnF | with_reducible apply Wf.gbW)))) ?_
    rw [hA.1]
    refine lf (a_istore_n dX2_nextDiets_31 (by decide)) ?_
    refine lf (a_iload_n dX2_nextDiets_32 rfl) ?_
    refine lf (a_aload_n dX2_nextDiets_33 rfl) ?_
    refine lf (a_getR (cr_79_0 (by repeat (first | with_reducible exact hw | with_reducible exact hwc | with_reducible assumption | with_reducible apply Wf.sI | with_reducible apply Wf.sL | with_reducible apply Wf.cpI | with_reducible apply Wf.cpL | with_reducible apply Wf.cp2 | with_reducible apply Wf.sIs | with_reducible apply Wf.sLs | with_reducible apply Wf.cpU | with_reducible apply Wf.fillI | with_reducible apply Wf.clU | with_reducible apply Wf.dnF | with_reducible apply Wf.gbW))) dX2_nextDiets_34 fs_X2_12 rfl (co_79 (by repeat (first | with_reducible exact hw | with_reducible exact hwc | with_reducible assumption | with_reducible apply Wf.sI | with_reducible apply Wf.sL | with_reducible apply Wf.cpI | with_reducible apply Wf.cpL | with_reducible apply Wf.cp2 | with_reducible apply Wf.sIs | with_reducible apply Wf.sLs | with_reducible apply Wf.cpU | with_reducible apply Wf.fillI | with_reducible apply Wf.clU | with_reducible apply Wf.dnF | with_reducible apply Wf.gbW)))) ?_
    refine lf (a_getI dX2_nextDiets_37 fs_X2_225 rfl (co_80 (by repeat (first | with_reducible exact hw | with_reducible exact hwc | with_reducible assumption | with_reducible apply Wf.sI | with_reducible apply Wf.sL | with_reducible apply Wf.cpI | with_reducible apply Wf.cpL | with_reducible apply Wf.cp2 | with_reducible apply Wf.sIs | with_reducible apply Wf.sLs | with_reducible apply Wf.cpU | with_reducible apply Wf.fillI | with_reducible apply Wf.clU | with_reducible apply Wf.dnF | with_reducible apply Wf.gbW)))) ?_
    rw [hA.2.1]
    refine lf2 (a_icmp_ge (tgt := 103) dX2_nextDiets_40 (by decide)) (fun h40 => ?_) (fun h40 => ?_)
    · refine lf (a_iload_n dX2_nextDiets_103 rfl) ?_
      refine lf (a_iconst (-1 : Int32) dX2_nextDiets_104 (by decide)) ?_
      refine lfn (a_icmp_ne (tgt := 114) dX2_nextDiets_105 (by decide)) (fun h105 => absurd h105 (by decide)) (fun h105 => ?_)
      refine lf (a_aload_n dX2_nextDiets_108 rfl) ?_
      refine lf (a_iconst (1 : Int32) dX2_nextDiets_109 (by decide)) ?_
      refine lf (a_inv (b2 := (0, 0)) (t_X2_fail hwc (c := 1) hA.1) rfl dX2_nextDiets_110 yk_X2_fail im_X2_fail se_X2_fail ml_X2_102 rfl (co_79 (by repeat (first | with_reducible exact hw | with_reducible exact hwc | with_reducible assumption | with_reducible apply Wf.sI | with_reducible apply Wf.sL | with_reducible apply Wf.cpI | with_reducible apply Wf.cpL | with_reducible apply Wf.cp2 | with_reducible apply Wf.sIs | with_reducible apply Wf.sLs | with_reducible apply Wf.cpU | with_reducible apply Wf.fillI | with_reducible apply Wf.clU | with_reducible apply Wf.dnF | with_reducible apply Wf.gbW))) (by decide) hc_X2 (by decide) (by decide) (Nat.le_of_ble_eq_true rfl)) ?_
      refine lf (a_pop dX2_nextDiets_113 rfl) ?_
      refine lf (a_iload_n dX2_nextDiets_114 rfl) ?_
      refine ⟨_, _, (a_ireturn dX2_nextDiets_115 rfl rfl), ?_⟩
      exact ⟨_, rfl, (ExT hO4).1.trans (hz4.err 1 _).1, by rw [ndS, if_neg (fun q => h15 ((kEq B n (tkE B n p) (k := 1) (by decide)).mpr q))]; exact ⟨rfl, (hz4.err 1 _).2⟩⟩
    · refine lf (a_iload_n dX2_nextDiets_43 rfl) ?_
      refine lf (a_iconst (-1 : Int32) dX2_nextDiets_44 (by decide)) ?_
      refine lf2 (a_icmp_eq (tgt := 103) dX2_nextDiets_45 (by decide)) (fun h45 => ?_) (fun h45 => absurd h45 (by decide))
      refine lf (a_iload_n dX2_nextDiets_103 rfl) ?_
      refine lf (a_iconst (-1 : Int32) dX2_nextDiets_104 (by decide)) ?_
      refine lfn (a_icmp_ne (tgt := 114) dX2_nextDiets_105 (by decide)) (fun h105 => absurd h105 (by decide)) (fun h105 => ?_)
      refine lf (a_aload_n dX2_nextDiets_108 rfl) ?_
      refine lf (a_iconst (1 : Int32) dX2_nextDiets_109 (by decide)) ?_
      refine lf (a_inv (b2 := (0, 0)) (t_X2_fail hwc (c := 1) hA.1) rfl dX2_nextDiets_110 yk_X2_fail im_X2_fail se_X2_fail ml_X2_102 rfl (co_79 (by repeat (first | with_reducible exact hw | with_reducible exact hwc | with_reducible assumption | with_reducible apply Wf.sI | with_reducible apply Wf.sL | with_reducible apply Wf.cpI | with_reducible apply Wf.cpL | with_reducible apply Wf.cp2 | with_reducible apply Wf.sIs | with_reducible apply Wf.sLs | with_reducible apply Wf.cpU | with_reducible apply Wf.fillI | with_reducible apply Wf.clU | with_reducible apply Wf.dnF | with_reducible apply Wf.gbW))) (by decide) hc_X2 (by decide) (by decide) (Nat.le_of_ble_eq_true rfl)) ?_
      refine lf (a_pop dX2_nextDiets_113 rfl) ?_
      refine lf (a_iload_n dX2_nextDiets_114 rfl) ?_
      refine ⟨_, _, (a_ireturn dX2_nextDiets_115 rfl rfl), ?_⟩
      exact ⟨_, rfl, (ExT hO4).1.trans (hz4.err 1 _).1, by rw [ndS, if_neg (fun q => h15 ((kEq B n (tkE B n p) (k := 1) (by decide)).mpr q))]; exact ⟨rfl, (hz4.err 1 _).2⟩⟩
  · refine lf (a_iconst (0 : Int32) dX2_nextDiets_18 (by decide)) ?_
    refine lf (a_goto (tgt := 23) dX2_nextDiets_19 (by decide)) ?_
    refine lf (a_istore_n dX2_nextDiets_23 (by decide)) ?_
    refine lf (a_aload_n dX2_nextDiets_24 rfl) ?_
    refine lf (a_getR (cr_79_0 (by repeat (first | with_reducible exact hw | with_reducible exact hwc | with_reducible assumption | with_reducible apply Wf.sI | with_reducible apply Wf.sL | with_reducible apply Wf.cpI | with_reducible apply Wf.cpL | with_reducible apply Wf.cp2 | with_reducible apply Wf.sIs | with_reducible apply Wf.sLs | with_reducible apply Wf.cpU | with_reducible apply Wf.fillI | with_reducible apply Wf.clU | with_reducible apply Wf.dnF | with_reducible apply Wf.gbW))) dX2_nextDiets_25 fs_X2_12 rfl (co_79 (by repeat (first | with_reducible exact hw | with_reducible exact hwc | with_reducible assumption | with_reducible apply Wf.sI | with_reducible apply Wf.sL | with_reducible apply Wf.cpI | with_reducible apply Wf.cpL | with_reducible apply Wf.cp2 | with_reducible apply Wf.sIs | with_reducible apply Wf.sLs | with_reducible apply Wf.cpU | with_reducible apply Wf.fillI | with_reducible apply Wf.clU | with_reducible apply Wf.dnF | with_reducible apply Wf.gbW)))) ?_
    refine lf (a_getI dX2_nextDiets_28 fs_X2_222 rfl (co_80 (by repeat (first | with_reducible exact hw | with_reducible exact hwc | with_reducible assumption | with_reducible apply Wf.sI | with_reducible apply Wf.sL | with_reducible apply Wf.cpI | with_reducible apply Wf.cpL | with_reducible apply Wf.cp2 | with_reducible apply Wf.sIs | with_reducible apply Wf.sLs | with_reducible apply Wf.cpU | with_reducible apply Wf.fillI | with_reducible apply Wf.clU | with_reducible apply Wf.dnF | with_reducible apply Wf.gbW)))) ?_
    rw [hA.1]
    refine lf (a_istore_n dX2_nextDiets_31 (by decide)) ?_
    have hk1 : tkK B n (tkE B n p) = 1 := (kEq B n (tkE B n p) (k := 1) (by decide)).mp h15
    have hlt : ∀ r, dtW B (tkE B n (tkE B n p) - tkS B n (tkE B n p)) (tkS B n (tkE B n p)) 0 = some r → r < 256 := fun r h => dtW_lt (by decide) h
    refine lf (a_loc [(0, .ref 79), (1, .int (nI 0)), (2, .int (nI (tkS B n (tkE B n p))))] rfl) (l_X2_nextDiets_32 hz4 hk1 ?_ (tkE B n (tkE B n p) - tkS B n (tkE B n p)) (tkS B n (tkE B n p)) 0 (by omega) (Nat.le_refl _) (by decide) rfl)
    unfold ndS
    rw [if_pos hk1]
    generalize dtW B (tkE B n (tkE B n p) - tkS B n (tkE B n p)) (tkS B n (tkE B n p)) 0 = r at hlt ⊢
    refine lf (a_iload_n dX2_nextDiets_103 rfl) ?_
    refine lf (a_iconst (-1 : Int32) dX2_nextDiets_104 (by decide)) ?_
    refine lfn (a_icmp_ne (tgt := 114) dX2_nextDiets_105 (by decide)) (fun h105 => ?_) (fun h105 => ?_)
    · obtain ⟨a, rfl⟩ : ∃ a, r = some a := by
        cases r with
        | none => exact absurd rfl h105
        | some a => exact ⟨a, rfl⟩
      refine lf (a_iload_n dX2_nextDiets_114 rfl) ?_
      refine ⟨_, _, (a_ireturn dX2_nextDiets_115 rfl rfl), ?_⟩
      first
      | exact ⟨_, rfl, (ExT hO4).1.trans (hz4.err 1 _).1, ⟨rfl, (hz4.err 1 _).2⟩⟩
      | exact ⟨_, rfl, (ExT hO4).1, (ExT hO4).2, rfl, hlt _ rfl, hz4⟩
    · have hrn : r = none := by
        cases r with
        | none => rfl
        | some a => exact absurd h105 (nI_ne1 (by have := hlt a rfl; omega))
      subst hrn
      refine lf (a_aload_n dX2_nextDiets_108 rfl) ?_
      refine lf (a_iconst (1 : Int32) dX2_nextDiets_109 (by decide)) ?_
      refine lf (a_inv (b2 := (0, 0)) (t_X2_fail hwc (c := 1) hA.1) rfl dX2_nextDiets_110 yk_X2_fail im_X2_fail se_X2_fail ml_X2_102 rfl (co_79 (by repeat (first | with_reducible exact hw | with_reducible exact hwc | with_reducible assumption | with_reducible apply Wf.sI | with_reducible apply Wf.sL | with_reducible apply Wf.cpI | with_reducible apply Wf.cpL | with_reducible apply Wf.cp2 | with_reducible apply Wf.sIs | with_reducible apply Wf.sLs | with_reducible apply Wf.cpU | with_reducible apply Wf.fillI | with_reducible apply Wf.clU | with_reducible apply Wf.dnF | with_reducible apply Wf.gbW))) (by decide) hc_X2 (by decide) (by decide) (Nat.le_of_ble_eq_true rfl)) ?_
      refine lf (a_pop dX2_nextDiets_113 rfl) ?_
      refine lf (a_iload_n dX2_nextDiets_114 rfl) ?_
      refine ⟨_, _, (a_ireturn dX2_nextDiets_115 rfl rfl), ?_⟩
      first
      | exact ⟨_, rfl, (ExT hO4).1.trans (hz4.err 1 _).1, ⟨rfl, (hz4.err 1 _).2⟩⟩
      | exact ⟨_, rfl, (ExT hO4).1, (ExT hO4).2, rfl, hlt _ rfl, hz4⟩
end PARSI
