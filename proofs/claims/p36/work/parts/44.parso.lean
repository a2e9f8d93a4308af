section PARSO
variable {μ W Wb : Wd} {B : Nat → Nat} {n p0 p : Nat} {z : PZ}
theorem sW_sP {i : Nat} (h : p0 ≤ i ∧ i ≤ p0 + 20) : ∀ x, sW i x → sP p0 x := fun x y => by
  rcases y with y | y
  · exact sT_sP p0 x y
  · exact Or.inr (Or.inr (Or.inl (by rw [y]; exact h)))
def meZ (z : PZ) (c s sz co og : Int32) (l : List Nat) : PZ := ((pC z.1, pM z.1 + 1, pT z.1, up5 (pF z.1) (pM z.1) c s sz co og), z.2.1, z.2.2.1, up1 z.2.2.2 (pM z.1) l)
def ofS (B : Nat → Nat) (n p : Nat) : (Nat × Nat) ⊕ (Int32 × Nat) := if wdI B n p 11 then bnd (ndS B n (tkE B n p)) fun a => .inr (nI a, tkE B n (tkE B n p)) else .inr (0, p)
def mbS (B : Nat → Nat) (n p : Nat) (z : PZ) (l : List Nat) : (Nat × Nat) ⊕ (Nat × PZ) := bnd (paS B n p z) fun x => bnd (nhS B n (tkE B n x.1) 1 3) fun sz => bnd (nhS B n (tkE B n (tkE B n x.1)) 1 9999) fun co => bnd (ofS B n (tkE B n (tkE B n (tkE B n x.1)))) fun y => sgZ B n y.2 (meZ z x.2.1 x.2.2 (nI sz) (nI co) y.1 l)
def stMeal (B : Nat → Nat) (n p : Nat) (z : PZ) : (Nat × Nat) ⊕ (Nat × PZ) := if 12 ≤ pM z.1 then .inl (4, tkS B n p) else if ¬ (tkK B n (tkE B n p) = 1 ∧ (tkL B n (tkE B n p)).length ≤ 6) then .inl (1, tkS B n (tkE B n p)) else match cfS B n (tkE B n p) (pM z.1) z.2.2.2 with
  | some _ => .inl (3, tkS B n (tkE B n p))
  | none => mbS B n (tkE B n p) z (tkL B n (tkE B n p))
abbrev R_X2_readMeal : Room := { frames := 11, cells := 0, slots := 0, locals := 285 }
abbrev RX_X2_readMeal : Room := { frames := 11, cells := 1, slots := 6, locals := 285 }

abbrev R3_X2_readMeal : Room := { frames := 11, cells := 3, slots := 16, locals := 285 }
theorem tf_X2_readMeal (hz : PsV B n p0 p z μ) (hM : 12 ≤ pM z.1) : CV Y_X2_readMeal R_X2_readMeal [.ref 79] μ (StQ B n p0 μ (stMeal B n p z)) := by
  refine CV.ent yk_X2_readMeal (Nat.le_of_ble_eq_true rfl) ?_
  have hw := hz.wf
  have hp := hz.pv.pl
  have hr2 := hz.r2
  have hA := hz.at'
  have hM4 := hz.pv.M4
  refine lf (a_aload_n dX2_readMeal_0 rfl) ?_
  refine lf (a_getR hr2 dX2_readMeal_1 fs_X2_22 rfl (co_79 (by repeat (first | with_reducible exact hw | with_reducible exact hwc | with_reducible assumption | with_reducible apply Wf.sI | with_reducible apply Wf.sL | with_reducible apply Wf.cpI | with_reducible apply Wf.cpL | with_reducible apply Wf.cp2 | with_reducible apply Wf.sIs | with_reducible apply Wf.sLs | with_reducible apply Wf.cpU | with_reducible apply Wf.fillI | with_reducible apply Wf.clU | with_reducible apply Wf.dnF | with_reducible apply Wf.gbW)))) ?_
  refine lf (a_getI dX2_readMeal_4 fs_X2_150 rfl (pl_o (by repeat (first | with_reducible exact hw | with_reducible exact hwc | with_reducible assumption | with_reducible apply Wf.sI | with_reducible apply Wf.sL | with_reducible apply Wf.cpI | with_reducible apply Wf.cpL | with_reducible apply Wf.cp2 | with_reducible apply Wf.sIs | with_reducible apply Wf.sLs | with_reducible apply Wf.cpU | with_reducible apply Wf.fillI | with_reducible apply Wf.clU | with_reducible apply Wf.dnF | with_reducible apply Wf.gbW)) hp)) ?_
  rw [hz.pv.hM]
  refine lf (a_bipush (12 : Int32) dX2_readMeal_7 (by decide)) ?_
  refine lf2 (a_icmp_lt (tgt := 18) dX2_readMeal_9 (by decide)) (fun h9 => absurd h9 (nI_nlt (a := pM z.1) (b := 12) hM (by omega))) (fun h9 => ?_)
  refine lf (a_aload_n dX2_readMeal_12 rfl) ?_
  refine lf (a_iconst (4 : Int32) dX2_readMeal_13 (by decide)) ?_
  refine lf (a_inv (b2 := (0, 0)) (t_X2_fail (by repeat (first | with_reducible exact hw | with_reducible exact hwc | with_reducible assumption | with_reducible apply Wf.sI | with_reducible apply Wf.sL | with_reducible apply Wf.cpI | with_reducible apply Wf.cpL | with_reducible apply Wf.cp2 | with_reducible apply Wf.sIs | with_reducible apply Wf.sLs | with_reducible apply Wf.cpU | with_reducible apply Wf.fillI | with_reducible apply Wf.clU | with_reducible apply Wf.dnF | with_reducible apply Wf.gbW)) (c := 4) hA.1) rfl dX2_readMeal_14 yk_X2_fail im_X2_fail se_X2_fail ml_X2_102 rfl (co_79 (by repeat (first | with_reducible exact hw | with_reducible exact hwc | with_reducible assumption | with_reducible apply Wf.sI | with_reducible apply Wf.sL | with_reducible apply Wf.cpI | with_reducible apply Wf.cpL | with_reducible apply Wf.cp2 | with_reducible apply Wf.sIs | with_reducible apply Wf.sLs | with_reducible apply Wf.cpU | with_reducible apply Wf.fillI | with_reducible apply Wf.clU | with_reducible apply Wf.dnF | with_reducible apply Wf.gbW))) (by decide) hc_X2 (by decide) (by decide) (Nat.le_of_ble_eq_true rfl)) ?_
  refine ⟨_, _, (a_ireturn dX2_readMeal_17 rfl rfl), ?_⟩
  exact ⟨_, rfl, StQ.bad ((hz.err 4 _).1.mono (fun i _ y => sT_sP p0 i y)) (hz.err 4 _).2 (by rw [stMeal, if_pos hM])⟩
theorem X2_readMeal_180 (hXb : Ex (sP p0) μ Wb) (hnb : wn Wb = wn μ + 3) (hz : PsV B n p0 p z W) (hX : En (sP p0) Wb W) (hK : EkV μ W) (hM : pM z.1 < 12) {l : List Nat} (hnm : NmV W (p0 + 7 + pM z.1) l) {f : Nat → Int32} (hf : RwI W (p0 + 7 + pM z.1) f) {v1 v2 v3 v4 v5 : Int32} (h1 : f 1 = v1) (h2 : f 2 = v2) (h3 : f 3 = v3) (h4 : f 4 = v4) (h5 : f 5 = v5) {r : (Nat × Nat) ⊕ (Nat × PZ)} (hr : r = sgZ B n p (meZ z v1 v2 v3 v4 v5 l)) {u : Value} : WP Y_X2_readMeal R3_X2_readMeal (0, 0) W 180 [(0, .ref 79), (1, u)] [] (fun o V => ∃ v, o = .inl v ∧ StN B n p0 μ r v V) := by
  have hp := hz.pv.pl
  have hpp := pl_le hp
  have hzp := hz.addM hM hnm
  rw [hf 1, hf 2, hf 3, hf 4, hf 5, h1, h2, h3, h4, h5] at hzp
  have hXp := hX.sI (S := sP p0) (i := p0) (Or.inr (Or.inr (Or.inl ⟨Nat.le_refl _, Nat.le_add_right _ _⟩))) 3 (nI (pM z.1 + 1))
  have hKp : EkV μ (sI W p0 3 (nI (pM z.1 + 1))) := hK.sI (by omega)
  have hwc := hz.wf
  have hr2 := hz.r2
  have hr1 := hz.r1
  have hA := hz.at'
  have hpn := hz.le
  have hen := tkE_le (B := B) hpn
  have htx := hz.tk.1
  refine lf (a_aload_n dX2_readMeal_180 rfl) ?_
  refine lf (a_getR hr2 dX2_readMeal_181 fs_X2_22 rfl (co_79 (by repeat (first | with_reducible exact hw | with_reducible exact hwc | with_reducible assumption | with_reducible apply Wf.sI | with_reducible apply Wf.sL | with_reducible apply Wf.cpI | with_reducible apply Wf.cpL | with_reducible apply Wf.cp2 | with_reducible apply Wf.sIs | with_reducible apply Wf.sLs | with_reducible apply Wf.cpU | with_reducible apply Wf.fillI | with_reducible apply Wf.clU | with_reducible apply Wf.dnF | with_reducible apply Wf.gbW)))) ?_
  refine lf (a_dup dX2_readMeal_184 rfl) ?_
  refine lf (a_getI dX2_readMeal_185 fs_X2_150 rfl (pl_o (by repeat (first | with_reducible exact hw | with_reducible exact hwc | with_reducible assumption | with_reducible apply Wf.sI | with_reducible apply Wf.sL | with_reducible apply Wf.cpI | with_reducible apply Wf.cpL | with_reducible apply Wf.cp2 | with_reducible apply Wf.sIs | with_reducible apply Wf.sLs | with_reducible apply Wf.cpU | with_reducible apply Wf.fillI | with_reducible apply Wf.clU | with_reducible apply Wf.dnF | with_reducible apply Wf.gbW)) hp)) ?_
  rw [hz.pv.hM]
  refine lf (a_iconst (1 : Int32) dX2_readMeal_188 (by decide)) ?_
  refine lf (a_iadd dX2_readMeal_189) ?_
  rw [← nI_succ]
  refine lf (a_putI dX2_readMeal_190 fs_X2_150 rfl rfl rfl (pl_o (by repeat (first | with_reducible exact hw | with_reducible exact hwc | with_reducible assumption | with_reducible apply Wf.sI | with_reducible apply Wf.sL | with_reducible apply Wf.cpI | with_reducible apply Wf.cpL | with_reducible apply Wf.cp2 | with_reducible apply Wf.sIs | with_reducible apply Wf.sLs | with_reducible apply Wf.cpU | with_reducible apply Wf.fillI | with_reducible apply Wf.clU | with_reducible apply Wf.dnF | with_reducible apply Wf.gbW)) hp)) ?_
  refine lf (a_aload_n dX2_readMeal_193 rfl) ?_
  obtain ⟨v_, W194, k194, hR194⟩ := (t_X2_signHere hzp)
  obtain ⟨hX194, hR194⟩ := hR194
  generalize hr194 : sgS B n (p) = r194 at hR194
  cases r194 with
  | inl a194 =>
    obtain ⟨rfl, hE194⟩ := hR194
    have hwx := hX194.1.1
    have hXc194 := hXp.trans (hX194.mono (fun i _ y => sT_sP p0 i y))
    refine lf (a_inv (b2 := (0, 0)) k194 rfl dX2_readMeal_194 yk_X2_signHere im_X2_signHere se_X2_signHere ml_X2_113 rfl (co_79 (by repeat (first | with_reducible exact hw | with_reducible exact hwc | with_reducible assumption | with_reducible apply Wf.sI | with_reducible apply Wf.sL | with_reducible apply Wf.cpI | with_reducible apply Wf.cpL | with_reducible apply Wf.cp2 | with_reducible apply Wf.sIs | with_reducible apply Wf.sLs | with_reducible apply Wf.cpU | with_reducible apply Wf.fillI | with_reducible apply Wf.clU | with_reducible apply Wf.dnF | with_reducible apply Wf.gbW))) (by decide) hc_X2 (by decide) (by decide) (Nat.le_of_ble_eq_true rfl)) ?_
    refine ⟨_, _, (a_ireturn dX2_readMeal_197 rfl rfl), ?_⟩
    first
    | exact ⟨_, rfl, StN.bad (hXb.trans hXc194.1) (Or.inr (hXc194.2.trans hnb)) hE194 (by rw [hr, sgZ, bnd_l hr194])⟩
    | exact ⟨_, rfl, StN.ok (hXb.trans hXc194.1) (hXc194.2.trans hnb) hKc194 hz194 (by rw [hr, sgZ, bnd_r hr194])⟩
  | inr a194 =>
    obtain ⟨hK194, rfl, hz194⟩ := hR194
    have hXc194 := hXp.trans (hX194.mono (fun i _ y => sT_sP p0 i y))
    have hKc194 := hKp.trans hK194
    have hwc := hz194.wf
    have hr2 := hz194.r2
    have hr1 := hz194.r1
    have hA := hz194.at'
    have hpn := hz194.le
    have hen := tkE_le (B := B) hpn
    have htx := hz194.tk.1
    refine lf (a_inv (b2 := (0, 0)) k194 rfl dX2_readMeal_194 yk_X2_signHere im_X2_signHere se_X2_signHere ml_X2_113 rfl (co_79 (by repeat (first | with_reducible exact hw | with_reducible exact hwc | with_reducible assumption | with_reducible apply Wf.sI | with_reducible apply Wf.sL | with_reducible apply Wf.cpI | with_reducible apply Wf.cpL | with_reducible apply Wf.cp2 | with_reducible apply Wf.sIs | with_reducible apply Wf.sLs | with_reducible apply Wf.cpU | with_reducible apply Wf.fillI | with_reducible apply Wf.clU | with_reducible apply Wf.dnF | with_reducible apply Wf.gbW))) (by decide) hc_X2 (by decide) (by decide) (Nat.le_of_ble_eq_true rfl)) ?_
    refine ⟨_, _, (a_ireturn dX2_readMeal_197 rfl rfl), ?_⟩
    first
    | exact ⟨_, rfl, StN.bad (hXb.trans hXc194.1) (Or.inr (hXc194.2.trans hnb)) hE194 (by rw [hr, sgZ, bnd_l hr194])⟩
    | exact ⟨_, rfl, StN.ok (hXb.trans hXc194.1) (hXc194.2.trans hnb) hKc194 hz194 (by rw [hr, sgZ, bnd_r hr194])⟩
theorem t_X2_readMeal (hz : PsV B n p0 p z μ) (hM : pM z.1 < 12) (hkt : KtV μ) : CV Y_X2_readMeal R3_X2_readMeal [.ref 79] μ (StN B n p0 μ (stMeal B n p z)) := by
  refine CV.ent yk_X2_readMeal (Nat.le_of_ble_eq_true rfl) ?_
  have hw := hz.wf
  have hp := hz.pv.pl
  have hpp := pl_le hp
  have hX0 : En (sP p0) μ μ := En.rfl' hw
  have hK0 : EkV μ μ := EkV.rfl'
  have hwc := hz.wf
  have hr2 := hz.r2
  have hr1 := hz.r1
  have hA := hz.at'
  have hpn := hz.le
  have hen := tkE_le (B := B) hpn
  have htx := hz.tk.1
  refine lf (a_aload_n dX2_readMeal_0 rfl) ?_
  refine lf (a_getR hr2 dX2_readMeal_1 fs_X2_22 rfl (co_79 (by repeat (first | with_reducible exact hw | with_reducible exact hwc | with_reducible assumption | with_reducible apply Wf.sI | with_reducible apply Wf.sL | with_reducible apply Wf.cpI | with_reducible apply Wf.cpL | with_reducible apply Wf.cp2 | with_reducible apply Wf.sIs | with_reducible apply Wf.sLs | with_reducible apply Wf.cpU | with_reducible apply Wf.fillI | with_reducible apply Wf.clU | with_reducible apply Wf.dnF | with_reducible apply Wf.gbW)))) ?_
  refine lf (a_getI dX2_readMeal_4 fs_X2_150 rfl (pl_o (by repeat (first | with_reducible exact hw | with_reducible exact hwc | with_reducible assumption | with_reducible apply Wf.sI | with_reducible apply Wf.sL | with_reducible apply Wf.cpI | with_reducible apply Wf.cpL | with_reducible apply Wf.cp2 | with_reducible apply Wf.sIs | with_reducible apply Wf.sLs | with_reducible apply Wf.cpU | with_reducible apply Wf.fillI | with_reducible apply Wf.clU | with_reducible apply Wf.dnF | with_reducible apply Wf.gbW)) hp)) ?_
  rw [hz.pv.hM]
  refine lf (a_bipush (12 : Int32) dX2_readMeal_7 (by decide)) ?_
  refine lf2 (a_icmp_lt (tgt := 18) dX2_readMeal_9 (by decide)) (fun h9 => ?_) (fun h9 => absurd h9 (fun q => q (nI_lt (b := 12) hM (by decide))))
  refine lf (a_aload_n dX2_readMeal_18 rfl) ?_
  refine lf (a_getR (cr_79_0 (by repeat (first | with_reducible exact hw | with_reducible exact hwc | with_reducible assumption | with_reducible apply Wf.sI | with_reducible apply Wf.sL | with_reducible apply Wf.cpI | with_reducible apply Wf.cpL | with_reducible apply Wf.cp2 | with_reducible apply Wf.sIs | with_reducible apply Wf.sLs | with_reducible apply Wf.cpU | with_reducible apply Wf.fillI | with_reducible apply Wf.clU | with_reducible apply Wf.dnF | with_reducible apply Wf.gbW))) dX2_readMeal_19 fs_X2_12 rfl (co_79 (by repeat (first | with_reducible exact hw | with_reducible exact hwc | with_reducible assumption | with_reducible apply Wf.sI | with_reducible apply Wf.sL | with_reducible apply Wf.cpI | with_reducible apply Wf.cpL | with_reducible apply Wf.cp2 | with_reducible apply Wf.sIs | with_reducible apply Wf.sLs | with_reducible apply Wf.cpU | with_reducible apply Wf.fillI | with_reducible apply Wf.clU | with_reducible apply Wf.dnF | with_reducible apply Wf.gbW)))) ?_
  obtain ⟨v_, W22, k22, rfl, hO22, hA22⟩ := (t_X9_next hz.wf hz.tk hen.2.1 hz.at'.2.1)
  have hz22 := hz.next hO22 hA22 hen.2.1
  have hXc22 := hX0.trans ((ExT hO22).1.mono (fun i _ y => sT_sP p0 i y))
  have hKc22 := hK0.trans (ExT hO22).2
  have hwc := hz22.wf
  have hr2 := hz22.r2
  have hr1 := hz22.r1
  have hA := hz22.at'
  have hpn := hz22.le
  have hen := tkE_le (B := B) hpn
  have htx := hz22.tk.1
  refine lf (a_inv (b2 := (3, 16)) k22 rfl dX2_readMeal_22 yk_X9_next im_X9_next se_X9_next ml_X2_47 rfl (co_80 (by repeat (first | with_reducible exact hw | with_reducible exact hwc | with_reducible assumption | with_reducible apply Wf.sI | with_reducible apply Wf.sL | with_reducible apply Wf.cpI | with_reducible apply Wf.cpL | with_reducible apply Wf.cp2 | with_reducible apply Wf.sIs | with_reducible apply Wf.sLs | with_reducible apply Wf.cpU | with_reducible apply Wf.fillI | with_reducible apply Wf.clU | with_reducible apply Wf.dnF | with_reducible apply Wf.gbW))) (by decide) hc_X9 (by decide) (by decide) (Nat.le_of_ble_eq_true rfl)) ?_
  refine lf (a_aload_n dX2_readMeal_25 rfl) ?_
  refine lf (a_inv (b2 := (3, 16)) (t_X2_nameHere hz22) rfl dX2_readMeal_26 yk_X2_nameHere im_X2_nameHere se_X2_nameHere ml_X2_121 rfl (co_79 (by repeat (first | with_reducible exact hw | with_reducible exact hwc | with_reducible assumption | with_reducible apply Wf.sI | with_reducible apply Wf.sL | with_reducible apply Wf.cpI | with_reducible apply Wf.cpL | with_reducible apply Wf.cp2 | with_reducible apply Wf.sIs | with_reducible apply Wf.sLs | with_reducible apply Wf.cpU | with_reducible apply Wf.fillI | with_reducible apply Wf.clU | with_reducible apply Wf.dnF | with_reducible apply Wf.gbW))) (by decide) hc_X2 (by decide) (by decide) (Nat.le_of_ble_eq_true rfl)) ?_
  refine lfn (a_if_ne (tgt := 38) dX2_readMeal_29 (by decide)) (fun h29 => ?_) (fun h29 => ?_)
  · have hnm : tkK B n (tkE B n p) = 1 ∧ (tkL B n (tkE B n p)).length ≤ 6 := Classical.byContradiction fun q => h29 (if_neg q)
    have h0l : 0 < (tkL B n (tkE B n p)).length := by
      have := tk_word hpn hnm.1
      rw [tkL_len]
      have := hen.2.2
      omega
    have hn22 : wn W22 = wn μ := hO22.1.2.1
    refine lf (a_aload_n dX2_readMeal_38 rfl) ?_
    refine lf (a_inv (b2 := (3, 16)) (t_X2_mealHere hz22) rfl dX2_readMeal_39 yk_X2_mealHere im_X2_mealHere se_X2_mealHere ml_X2_153 rfl (co_79 (by repeat (first | with_reducible exact hw | with_reducible exact hwc | with_reducible assumption | with_reducible apply Wf.sI | with_reducible apply Wf.sL | with_reducible apply Wf.cpI | with_reducible apply Wf.cpL | with_reducible apply Wf.cp2 | with_reducible apply Wf.sIs | with_reducible apply Wf.sLs | with_reducible apply Wf.cpU | with_reducible apply Wf.fillI | with_reducible apply Wf.clU | with_reducible apply Wf.dnF | with_reducible apply Wf.gbW))) (by decide) hc_X2 (by decide) (by decide) (Nat.le_of_ble_eq_true rfl)) ?_
    refine lf (a_iconst (-1 : Int32) dX2_readMeal_42 (by decide)) ?_
    refine lf2 (a_icmp_eq (tgt := 52) dX2_readMeal_43 (by decide)) (fun h43 => ?_) (fun h43 => ?_)
    · have hcf : cfS B n (tkE B n p) (pM z.1) z.2.2.2 = none := by
        cases e : cfS B n (tkE B n p) (pM z.1) z.2.2.2 with
        | none => rfl
        | some i => rw [e] at h43; exact absurd h43 (nI_ne1 (by have := (cfS_lt e).1; omega))
      refine lf (a_aload_n dX2_readMeal_52 rfl) ?_
      refine lf (a_getR hr2 dX2_readMeal_53 fs_X2_22 rfl (co_79 (by repeat (first | with_reducible exact hw | with_reducible exact hwc | with_reducible assumption | with_reducible apply Wf.sI | with_reducible apply Wf.sL | with_reducible apply Wf.cpI | with_reducible apply Wf.cpL | with_reducible apply Wf.cp2 | with_reducible apply Wf.sIs | with_reducible apply Wf.sLs | with_reducible apply Wf.cpU | with_reducible apply Wf.fillI | with_reducible apply Wf.clU | with_reducible apply Wf.dnF | with_reducible apply Wf.gbW)))) ?_
      refine lf (a_getR (pl_r4 (by repeat (first | with_reducible exact hw | with_reducible exact hwc | with_reducible assumption | with_reducible apply Wf.sI | with_reducible apply Wf.sL | with_reducible apply Wf.cpI | with_reducible apply Wf.cpL | with_reducible apply Wf.cp2 | with_reducible apply Wf.sIs | with_reducible apply Wf.sLs | with_reducible apply Wf.cpU | with_reducible apply Wf.fillI | with_reducible apply Wf.clU | with_reducible apply Wf.dnF | with_reducible apply Wf.gbW)) hp) dX2_readMeal_56 fs_X2_156 rfl (pl_o (by repeat (first | with_reducible exact hw | with_reducible exact hwc | with_reducible assumption | with_reducible apply Wf.sI | with_reducible apply Wf.sL | with_reducible apply Wf.cpI | with_reducible apply Wf.cpL | with_reducible apply Wf.cp2 | with_reducible apply Wf.sIs | with_reducible apply Wf.sLs | with_reducible apply Wf.cpU | with_reducible apply Wf.fillI | with_reducible apply Wf.clU | with_reducible apply Wf.dnF | with_reducible apply Wf.gbW)) hp)) ?_
      refine lf (a_aload_n dX2_readMeal_59 rfl) ?_
      refine lf (a_getR hr2 dX2_readMeal_60 fs_X2_22 rfl (co_79 (by repeat (first | with_reducible exact hw | with_reducible exact hwc | with_reducible assumption | with_reducible apply Wf.sI | with_reducible apply Wf.sL | with_reducible apply Wf.cpI | with_reducible apply Wf.cpL | with_reducible apply Wf.cp2 | with_reducible apply Wf.sIs | with_reducible apply Wf.sLs | with_reducible apply Wf.cpU | with_reducible apply Wf.fillI | with_reducible apply Wf.clU | with_reducible apply Wf.dnF | with_reducible apply Wf.gbW)))) ?_
      refine lf (a_getI dX2_readMeal_63 fs_X2_150 rfl (pl_o (by repeat (first | with_reducible exact hw | with_reducible exact hwc | with_reducible assumption | with_reducible apply Wf.sI | with_reducible apply Wf.sL | with_reducible apply Wf.cpI | with_reducible apply Wf.cpL | with_reducible apply Wf.cp2 | with_reducible apply Wf.sIs | with_reducible apply Wf.sLs | with_reducible apply Wf.cpU | with_reducible apply Wf.fillI | with_reducible apply Wf.clU | with_reducible apply Wf.dnF | with_reducible apply Wf.gbW)) hp)) ?_
      rw [hz22.pv.hM]
      refine lf (a_aald (j := pM z.1) dX2_readMeal_66 (pl_a6 (by repeat (first | with_reducible exact hw | with_reducible exact hwc | with_reducible assumption | with_reducible apply Wf.sI | with_reducible apply Wf.sL | with_reducible apply Wf.cpI | with_reducible apply Wf.cpL | with_reducible apply Wf.cp2 | with_reducible apply Wf.sIs | with_reducible apply Wf.sLs | with_reducible apply Wf.cpU | with_reducible apply Wf.fillI | with_reducible apply Wf.clU | with_reducible apply Wf.dnF | with_reducible apply Wf.gbW)) hp) (by decide) (ixn (by omega) (by decide)) (pl_rm (by repeat (first | with_reducible exact hw | with_reducible exact hwc | with_reducible assumption | with_reducible apply Wf.sI | with_reducible apply Wf.sL | with_reducible apply Wf.cpI | with_reducible apply Wf.cpL | with_reducible apply Wf.cp2 | with_reducible apply Wf.sIs | with_reducible apply Wf.sLs | with_reducible apply Wf.cpU | with_reducible apply Wf.fillI | with_reducible apply Wf.clU | with_reducible apply Wf.dnF | with_reducible apply Wf.gbW)) hp (by omega))) ?_
      refine lf (a_astore_n dX2_readMeal_67 (by decide)) ?_
      refine lf (a_aload_n dX2_readMeal_68 rfl) ?_
      refine lf (a_aload_n dX2_readMeal_69 rfl) ?_
      refine lf (a_getR (cr_79_0 (by repeat (first | with_reducible exact hw | with_reducible exact hwc | with_reducible assumption | with_reducible apply Wf.sI | with_reducible apply Wf.sL | with_reducible apply Wf.cpI | with_reducible apply Wf.cpL | with_reducible apply Wf.cp2 | with_reducible apply Wf.sIs | with_reducible apply Wf.sLs | with_reducible apply Wf.cpU | with_reducible apply Wf.fillI | with_reducible apply Wf.clU | with_reducible apply Wf.dnF | with_reducible apply Wf.gbW))) dX2_readMeal_70 fs_X2_12 rfl (co_79 (by repeat (first | with_reducible exact hw | with_reducible exact hwc | with_reducible assumption | with_reducible apply Wf.sI | with_reducible apply Wf.sL | with_reducible apply Wf.cpI | with_reducible apply Wf.cpL | with_reducible apply Wf.cp2 | with_reducible apply Wf.sIs | with_reducible apply Wf.sLs | with_reducible apply Wf.cpU | with_reducible apply Wf.fillI | with_reducible apply Wf.clU | with_reducible apply Wf.dnF | with_reducible apply Wf.gbW)))) ?_
      obtain ⟨v_, W73, k73, rfl, hWx, hWn, hWs⟩ := (t_X9_word hwc (Tk.wdh hz22 hnm.1) h0l hnm.2 hkt.1 (by rw [hn22]; exact hkt.2))
      have hwx := hWx.1
      have hzw := (hz22.ex0 hWx).jMR hM (some (wn W22 + 1))
      have hXb : Ex (sP p0) μ (sR W73 (p0 + 7 + pM z.1) 0 (some (wn W22 + 1))) := (hXc22.1.trans (hWx.mono (fun i _ y => y.elim))).sR (Or.inr (Or.inr (Or.inl ⟨by omega, by omega⟩))) ((r0_row hp).2 _ hM) _
      have hnb : wn (sR W73 (p0 + 7 + pM z.1) 0 (some (wn W22 + 1))) = wn μ + 3 := by rw [wn_sR, hWn, hn22]
      have hNm : NmV (sR W73 (p0 + 7 + pM z.1) 0 (some (wn W22 + 1))) (p0 + 7 + pM z.1) (tkL B n (tkE B n p)) := ⟨wn W22 + 1, by rw [gR_sR, if_pos ⟨rfl, rfl⟩], hWs.ex ((Ex.rfl' (S := fun i => i = (p0 + 7 + pM z.1)) hWx.1).sR rfl ((r0_row hp).2 _ hM) _) (fun i y => by omega)⟩
      have hK73 : EkV μ (sR W73 (p0 + 7 + pM z.1) 0 (some (wn W22 + 1))) := hKc22.trans ⟨hWx.i (by have := hwc.1; omega) (fun y => y) 3, hWx.i (by have := hwc.1; omega) (fun y => y) 4⟩
      have hXw := En.rfl' (S := sP p0) hzw.wf
      have hwc := hzw.wf
      have hr2 := hzw.r2
      have hr1 := hzw.r1
      have hA := hzw.at'
      have hpn := hzw.le
      have hen := tkE_le (B := B) hpn
      have htx := hzw.tk.1
      refine lf (a_inv (b2 := (0, 0)) k73 rfl dX2_readMeal_73 yk_X9_word im_X9_word se_X9_word ml_X2_131 rfl (co_80 (by repeat (first | with_reducible exact hw | with_reducible exact hwc | with_reducible assumption | with_reducible apply Wf.sI | with_reducible apply Wf.sL | with_reducible apply Wf.cpI | with_reducible apply Wf.cpL | with_reducible apply Wf.cp2 | with_reducible apply Wf.sIs | with_reducible apply Wf.sLs | with_reducible apply Wf.cpU | with_reducible apply Wf.fillI | with_reducible apply Wf.clU | with_reducible apply Wf.dnF | with_reducible apply Wf.gbW))) (by decide) hc_X9 (by decide) (by decide) (Nat.le_of_ble_eq_true rfl)) ?_
      refine lf (a_putR dX2_readMeal_76 fs_X2_159 rfl rfl (pl_m (by repeat (first | with_reducible exact hw | with_reducible exact hwc | with_reducible assumption | with_reducible apply Wf.sI | with_reducible apply Wf.sL | with_reducible apply Wf.cpI | with_reducible apply Wf.cpL | with_reducible apply Wf.cp2 | with_reducible apply Wf.sIs | with_reducible apply Wf.sLs | with_reducible apply Wf.cpU | with_reducible apply Wf.fillI | with_reducible apply Wf.clU | with_reducible apply Wf.dnF | with_reducible apply Wf.gbW)) hp hM)) ?_
      refine lf (a_aload_n dX2_readMeal_79 rfl) ?_
      refine lf (a_aload_n dX2_readMeal_80 rfl) ?_
      obtain ⟨v_, W81, k81, hR81⟩ := (t_X2_readPlace hzw hM)
      obtain ⟨hX81, hR81⟩ := hR81
      generalize hr81 : paS B n (tkE B n p) z = r81 at hR81
      cases r81 with
      | inl a81 =>
        obtain ⟨rfl, hE81⟩ := hR81
        have hwx := hX81.1.1
        have hXc81 := hXw.trans (hX81.mono (fun i _ y => sW_sP (i := (p0 + 7 + pM z.1)) ⟨by omega, by omega⟩ i y))
        refine lf (a_inv (b2 := (0, 0)) k81 rfl dX2_readMeal_81 yk_X2_readPlace im_X2_readPlace se_X2_readPlace ml_X2_162 rfl (co_79 (by repeat (first | with_reducible exact hw | with_reducible exact hwc | with_reducible assumption | with_reducible apply Wf.sI | with_reducible apply Wf.sL | with_reducible apply Wf.cpI | with_reducible apply Wf.cpL | with_reducible apply Wf.cp2 | with_reducible apply Wf.sIs | with_reducible apply Wf.sLs | with_reducible apply Wf.cpU | with_reducible apply Wf.fillI | with_reducible apply Wf.clU | with_reducible apply Wf.dnF | with_reducible apply Wf.gbW))) (by decide) hc_X2 (by decide) (by decide) (Nat.le_of_ble_eq_true rfl)) ?_
        refine lfn (a_if_ne (tgt := 89) dX2_readMeal_84 (by decide)) (fun h84 => absurd h84 (by decide)) (fun h84 => ?_)
        refine lf (a_iconst (0 : Int32) dX2_readMeal_87 (by decide)) ?_
        refine ⟨_, _, (a_ireturn dX2_readMeal_88 rfl rfl), ?_⟩
        exact ⟨_, rfl, StN.bad (hXb.trans hXc81.1) (Or.inr (hXc81.2.trans hnb)) hE81 (by rw [stMeal, if_neg (by omega), if_neg (fun q => q hnm), hcf]; dsimp only; rw [mbS, bnd_l hr81])⟩
      | inr a81 =>
        obtain ⟨hK81, rfl, hz81, r81, c81, s81⟩ := hR81
        have hXc81 := hXw.trans (hX81.mono (fun i _ y => sW_sP (i := (p0 + 7 + pM z.1)) ⟨by omega, by omega⟩ i y))
        have hKc81 := hK73.trans hK81
        have hwc := hz81.wf
        have hr2 := hz81.r2
        have hr1 := hz81.r1
        have hA := hz81.at'
        have hpn := hz81.le
        have hen := tkE_le (B := B) hpn
        have htx := hz81.tk.1
        have hN81 : NmV W81 (p0 + 7 + pM z.1) (tkL B n (tkE B n p)) := by
          obtain ⟨r, b1, b2⟩ := hNm
          exact ⟨r, r81.trans b1, b2.ex hX81.1 (fun i y => by rcases y with (y | y) | y <;> omega)⟩
        have hR81 : RwI W81 (p0 + 7 + pM z.1) (gI W81 (p0 + 7 + pM z.1)) := fun _ => rfl
        refine lf (a_inv (b2 := (0, 0)) k81 rfl dX2_readMeal_81 yk_X2_readPlace im_X2_readPlace se_X2_readPlace ml_X2_162 rfl (co_79 (by repeat (first | with_reducible exact hw | with_reducible exact hwc | with_reducible assumption | with_reducible apply Wf.sI | with_reducible apply Wf.sL | with_reducible apply Wf.cpI | with_reducible apply Wf.cpL | with_reducible apply Wf.cp2 | with_reducible apply Wf.sIs | with_reducible apply Wf.sLs | with_reducible apply Wf.cpU | with_reducible apply Wf.fillI | with_reducible apply Wf.clU | with_reducible apply Wf.dnF | with_reducible apply Wf.gbW))) (by decide) hc_X2 (by decide) (by decide) (Nat.le_of_ble_eq_true rfl)) ?_
        refine lfn (a_if_ne (tgt := 89) dX2_readMeal_84 (by decide)) (fun h84 => ?_) (fun h84 => absurd h84 (by decide))
        refine lf (a_aload_n dX2_readMeal_89 rfl) ?_
        refine lf (a_aload_n dX2_readMeal_90 rfl) ?_
        refine lf (a_iconst (1 : Int32) dX2_readMeal_91 (by decide)) ?_
        refine lf (a_iconst (3 : Int32) dX2_readMeal_92 (by decide)) ?_
        obtain ⟨v_, W93, k93, hR93⟩ := (t_X2_nextNumber hz81 (lo := 1) (hi := 3) (by decide) (by decide))
        obtain ⟨hX93, hR93⟩ := hR93
        generalize hr93 : nhS B n (tkE B n (a81.1)) 1 3 = r93 at hR93
        cases r93 with
        | inl a93 =>
          obtain ⟨rfl, hE93⟩ := hR93
          have hwx := hX93.1.1
          have hXc93 := hXc81.trans (hX93.mono (fun i _ y => sT_sP p0 i y))
          have hXq93 := hXc93.sI (S := sP p0) (i := (p0 + 7 + pM z.1)) (Or.inr (Or.inr (Or.inl ⟨by omega, by omega⟩))) 3 (-1)
          refine lf (a_inv (b2 := (0, 0)) k93 rfl dX2_readMeal_93 yk_X2_nextNumber im_X2_nextNumber se_X2_nextNumber ml_X2_106 rfl (co_79 (by repeat (first | with_reducible exact hw | with_reducible exact hwc | with_reducible assumption | with_reducible apply Wf.sI | with_reducible apply Wf.sL | with_reducible apply Wf.cpI | with_reducible apply Wf.cpL | with_reducible apply Wf.cp2 | with_reducible apply Wf.sIs | with_reducible apply Wf.sLs | with_reducible apply Wf.cpU | with_reducible apply Wf.fillI | with_reducible apply Wf.clU | with_reducible apply Wf.dnF | with_reducible apply Wf.gbW))) (by decide) hc_X2 (by decide) (by decide) (Nat.le_of_ble_eq_true rfl)) ?_
          refine lf (a_putI dX2_readMeal_96 fs_X2_166 rfl rfl rfl (pl_m (by repeat (first | with_reducible exact hw | with_reducible exact hwc | with_reducible assumption | with_reducible apply Wf.sI | with_reducible apply Wf.sL | with_reducible apply Wf.cpI | with_reducible apply Wf.cpL | with_reducible apply Wf.cp2 | with_reducible apply Wf.sIs | with_reducible apply Wf.sLs | with_reducible apply Wf.cpU | with_reducible apply Wf.fillI | with_reducible apply Wf.clU | with_reducible apply Wf.dnF | with_reducible apply Wf.gbW)) hp (by omega))) ?_
          refine lf (a_aload_n dX2_readMeal_99 rfl) ?_
          refine lf (a_getI dX2_readMeal_100 fs_X2_166 rfl (pl_m (by repeat (first | with_reducible exact hw | with_reducible exact hwc | with_reducible assumption | with_reducible apply Wf.sI | with_reducible apply Wf.sL | with_reducible apply Wf.cpI | with_reducible apply Wf.cpL | with_reducible apply Wf.cp2 | with_reducible apply Wf.sIs | with_reducible apply Wf.sLs | with_reducible apply Wf.cpU | with_reducible apply Wf.fillI | with_reducible apply Wf.clU | with_reducible apply Wf.dnF | with_reducible apply Wf.gbW)) hp (by omega))) ?_
          rw [gI_sI, if_pos ⟨rfl, rfl⟩]
          refine lf (a_iconst (-1 : Int32) dX2_readMeal_103 (by decide)) ?_
          refine lfn (a_icmp_ne (tgt := 109) dX2_readMeal_104 (by decide)) (fun h104 => absurd h104 (fun q => q rfl)) (fun h104 => ?_)
          refine lf (a_iconst (0 : Int32) dX2_readMeal_107 (by decide)) ?_
          refine ⟨_, _, (a_ireturn dX2_readMeal_108 rfl rfl), ?_⟩
          exact ⟨_, rfl, StN.bad (hXb.trans hXq93.1) (Or.inr (hXq93.2.trans hnb)) (by exact ⟨by rw [gI_sI, if_neg (by omega)]; exact hE93.1, by rw [gI_sI, if_neg (by omega)]; exact hE93.2.1, hE93.2.2⟩) (by rw [stMeal, if_neg (by omega), if_neg (fun q => q hnm), hcf]; dsimp only; rw [mbS, bnd_r hr81, bnd_l hr93])⟩
        | inr a93 =>
          obtain ⟨hK93, rfl, hz93⟩ := hR93
          have hXc93 := hXc81.trans (hX93.mono (fun i _ y => sT_sP p0 i y))
          have hKc93 := hKc81.trans hK93
          have hwc := hz93.wf
          have hr2 := hz93.r2
          have hr1 := hz93.r1
          have hA := hz93.at'
          have hpn := hz93.le
          have hen := tkE_le (B := B) hpn
          have htx := hz93.tk.1
          have hNc0 : NmV W93 (p0 + 7 + pM z.1) (tkL B n (tkE B n p)) := hN81.ex hX93.1 (fun i y => by rcases y with y | y <;> omega) (by have := hz81.wf.1; omega) (by rintro (y | y) <;> omega)
          have hRc0 := hR81.ex hX93.1 (by have := hz81.wf.1; omega) (by rintro (y | y) <;> omega)
          have hzc1 := hz93.jM hM 3 (nI a93)
          have hXcc1 := hXc93.sI (S := sP p0) (i := (p0 + 7 + pM z.1)) (Or.inr (Or.inr (Or.inl ⟨by omega, by omega⟩))) 3 (nI a93)
          have hKcc1 : EkV μ (sI W93 (p0 + 7 + pM z.1) 3 (nI a93)) := hKc93.sI (by omega)
          have hNc1 := hNc0.sI (j := (p0 + 7 + pM z.1)) (k := 3) (v := (nI a93)) hwc (by omega)
          have hRc1 := hRc0.set (k := 3) (v := (nI a93))
          refine lf (a_inv (b2 := (0, 0)) k93 rfl dX2_readMeal_93 yk_X2_nextNumber im_X2_nextNumber se_X2_nextNumber ml_X2_106 rfl (co_79 (by repeat (first | with_reducible exact hw | with_reducible exact hwc | with_reducible assumption | with_reducible apply Wf.sI | with_reducible apply Wf.sL | with_reducible apply Wf.cpI | with_reducible apply Wf.cpL | with_reducible apply Wf.cp2 | with_reducible apply Wf.sIs | with_reducible apply Wf.sLs | with_reducible apply Wf.cpU | with_reducible apply Wf.fillI | with_reducible apply Wf.clU | with_reducible apply Wf.dnF | with_reducible apply Wf.gbW))) (by decide) hc_X2 (by decide) (by decide) (Nat.le_of_ble_eq_true rfl)) ?_
          refine lf (a_putI dX2_readMeal_96 fs_X2_166 rfl rfl rfl (pl_m (by repeat (first | with_reducible exact hw | with_reducible exact hwc | with_reducible assumption | with_reducible apply Wf.sI | with_reducible apply Wf.sL | with_reducible apply Wf.cpI | with_reducible apply Wf.cpL | with_reducible apply Wf.cp2 | with_reducible apply Wf.sIs | with_reducible apply Wf.sLs | with_reducible apply Wf.cpU | with_reducible apply Wf.fillI | with_reducible apply Wf.clU | with_reducible apply Wf.dnF | with_reducible apply Wf.gbW)) hp (by omega))) ?_
          refine lf (a_aload_n dX2_readMeal_99 rfl) ?_
          refine lf (a_getI dX2_readMeal_100 fs_X2_166 rfl (pl_m (by repeat (first | with_reducible exact hw | with_reducible exact hwc | with_reducible assumption | with_reducible apply Wf.sI | with_reducible apply Wf.sL | with_reducible apply Wf.cpI | with_reducible apply Wf.cpL | with_reducible apply Wf.cp2 | with_reducible apply Wf.sIs | with_reducible apply Wf.sLs | with_reducible apply Wf.cpU | with_reducible apply Wf.fillI | with_reducible apply Wf.clU | with_reducible apply Wf.dnF | with_reducible apply Wf.gbW)) hp (by omega))) ?_
          rw [gI_sI, if_pos ⟨rfl, rfl⟩]
          refine lf (a_iconst (-1 : Int32) dX2_readMeal_103 (by decide)) ?_
          refine lfn (a_icmp_ne (tgt := 109) dX2_readMeal_104 (by decide)) (fun h104 => ?_) (fun h104 => absurd h104 (nI_ne1 (by have := nhS_lt hr93; omega)))
          refine lf (a_aload_n dX2_readMeal_109 rfl) ?_
          refine lf (a_aload_n dX2_readMeal_110 rfl) ?_
          refine lf (a_iconst (1 : Int32) dX2_readMeal_111 (by decide)) ?_
          refine lf (a_sipush (9999 : Int32) dX2_readMeal_112 (by decide)) ?_
          obtain ⟨v_, W115, k115, hR115⟩ := (t_X2_nextNumber hzc1 (lo := 1) (hi := 9999) (by decide) (by decide))
          obtain ⟨hX115, hR115⟩ := hR115
          generalize hr115 : nhS B n (tkE B n (tkE B n a81.1)) 1 9999 = r115 at hR115
          cases r115 with
          | inl a115 =>
            obtain ⟨rfl, hE115⟩ := hR115
            have hwx := hX115.1.1
            have hXc115 := hXcc1.trans (hX115.mono (fun i _ y => sT_sP p0 i y))
            have hXq115 := hXc115.sI (S := sP p0) (i := (p0 + 7 + pM z.1)) (Or.inr (Or.inr (Or.inl ⟨by omega, by omega⟩))) 4 (-1)
            refine lf (a_inv (b2 := (0, 0)) k115 rfl dX2_readMeal_115 yk_X2_nextNumber im_X2_nextNumber se_X2_nextNumber ml_X2_106 rfl (co_79 (by repeat (first | with_reducible exact hw | with_reducible exact hwc | with_reducible assumption | with_reducible apply Wf.sI | with_reducible apply Wf.sL | with_reducible apply Wf.cpI | with_reducible apply Wf.cpL | with_reducible apply Wf.cp2 | with_reducible apply Wf.sIs | with_reducible apply Wf.sLs | with_reducible apply Wf.cpU | with_reducible apply Wf.fillI | with_reducible apply Wf.clU | with_reducible apply Wf.dnF | with_reducible apply Wf.gbW))) (by decide) hc_X2 (by decide) (by decide) (Nat.le_of_ble_eq_true rfl)) ?_
            refine lf (a_putI dX2_readMeal_118 fs_X2_169 rfl rfl rfl (pl_m (by repeat (first | with_reducible exact hw | with_reducible exact hwc | with_reducible assumption | with_reducible apply Wf.sI | with_reducible apply Wf.sL | with_reducible apply Wf.cpI | with_reducible apply Wf.cpL | with_reducible apply Wf.cp2 | with_reducible apply Wf.sIs | with_reducible apply Wf.sLs | with_reducible apply Wf.cpU | with_reducible apply Wf.fillI | with_reducible apply Wf.clU | with_reducible apply Wf.dnF | with_reducible apply Wf.gbW)) hp (by omega))) ?_
            refine lf (a_aload_n dX2_readMeal_121 rfl) ?_
            refine lf (a_getI dX2_readMeal_122 fs_X2_169 rfl (pl_m (by repeat (first | with_reducible exact hw | with_reducible exact hwc | with_reducible assumption | with_reducible apply Wf.sI | with_reducible apply Wf.sL | with_reducible apply Wf.cpI | with_reducible apply Wf.cpL | with_reducible apply Wf.cp2 | with_reducible apply Wf.sIs | with_reducible apply Wf.sLs | with_reducible apply Wf.cpU | with_reducible apply Wf.fillI | with_reducible apply Wf.clU | with_reducible apply Wf.dnF | with_reducible apply Wf.gbW)) hp (by omega))) ?_
            rw [gI_sI, if_pos ⟨rfl, rfl⟩]
            refine lf (a_iconst (-1 : Int32) dX2_readMeal_125 (by decide)) ?_
            refine lfn (a_icmp_ne (tgt := 131) dX2_readMeal_126 (by decide)) (fun h126 => absurd h126 (fun q => q rfl)) (fun h126 => ?_)
            refine lf (a_iconst (0 : Int32) dX2_readMeal_129 (by decide)) ?_
            refine ⟨_, _, (a_ireturn dX2_readMeal_130 rfl rfl), ?_⟩
            exact ⟨_, rfl, StN.bad (hXb.trans hXq115.1) (Or.inr (hXq115.2.trans hnb)) (by exact ⟨by rw [gI_sI, if_neg (by omega)]; exact hE115.1, by rw [gI_sI, if_neg (by omega)]; exact hE115.2.1, hE115.2.2⟩) (by rw [stMeal, if_neg (by omega), if_neg (fun q => q hnm), hcf]; dsimp only; rw [mbS, bnd_r hr81, bnd_r hr93, bnd_l hr115])⟩
          | inr a115 =>
            obtain ⟨hK115, rfl, hz115⟩ := hR115
            have hXc115 := hXcc1.trans (hX115.mono (fun i _ y => sT_sP p0 i y))
            have hKc115 := hKcc1.trans hK115
            have hwc := hz115.wf
            have hr2 := hz115.r2
            have hr1 := hz115.r1
            have hA := hz115.at'
            have hpn := hz115.le
            have hen := tkE_le (B := B) hpn
            have htx := hz115.tk.1
            have hNd0 : NmV W115 (p0 + 7 + pM z.1) (tkL B n (tkE B n p)) := hNc1.ex hX115.1 (fun i y => by rcases y with y | y <;> omega) (by have := hzc1.wf.1; omega) (by rintro (y | y) <;> omega)
            have hRd0 := hRc1.ex hX115.1 (by have := hzc1.wf.1; omega) (by rintro (y | y) <;> omega)
            have hzd1 := hz115.jM hM 4 (nI a115)
            have hXd1 := hXc115.sI (S := sP p0) (i := (p0 + 7 + pM z.1)) (Or.inr (Or.inr (Or.inl ⟨by omega, by omega⟩))) 4 (nI a115)
            have hKd1 : EkV μ (sI W115 (p0 + 7 + pM z.1) 4 (nI a115)) := hKc115.sI (by omega)
            have hNd1 := hNd0.sI (j := (p0 + 7 + pM z.1)) (k := 4) (v := (nI a115)) hwc (by omega)
            have hRd1 := hRd0.set (k := 4) (v := (nI a115))
            have hzd2 := hzd1.jM hM 5 0
            have hXd2 := hXd1.sI (S := sP p0) (i := (p0 + 7 + pM z.1)) (Or.inr (Or.inr (Or.inl ⟨by omega, by omega⟩))) 5 0
            have hKd2 : EkV μ (sI (sI W115 (p0 + 7 + pM z.1) 4 (nI a115)) (p0 + 7 + pM z.1) 5 0) := hKd1.sI (by omega)
            have hNd2 := hNd1.sI (j := (p0 + 7 + pM z.1)) (k := 5) (v := 0) hzd1.wf (by omega)
            have hRd2 := hRd1.set (k := 5) (v := 0)
            refine lf (a_inv (b2 := (0, 0)) k115 rfl dX2_readMeal_115 yk_X2_nextNumber im_X2_nextNumber se_X2_nextNumber ml_X2_106 rfl (co_79 (by repeat (first | with_reducible exact hw | with_reducible exact hwc | with_reducible assumption | with_reducible apply Wf.sI | with_reducible apply Wf.sL | with_reducible apply Wf.cpI | with_reducible apply Wf.cpL | with_reducible apply Wf.cp2 | with_reducible apply Wf.sIs | with_reducible apply Wf.sLs | with_reducible apply Wf.cpU | with_reducible apply Wf.fillI | with_reducible apply Wf.clU | with_reducible apply Wf.dnF | with_reducible apply Wf.gbW))) (by decide) hc_X2 (by decide) (by decide) (Nat.le_of_ble_eq_true rfl)) ?_
            refine lf (a_putI dX2_readMeal_118 fs_X2_169 rfl rfl rfl (pl_m (by repeat (first | with_reducible exact hw | with_reducible exact hwc | with_reducible assumption | with_reducible apply Wf.sI | with_reducible apply Wf.sL | with_reducible apply Wf.cpI | with_reducible apply Wf.cpL | with_reducible apply Wf.cp2 | with_reducible apply Wf.sIs | with_reducible apply Wf.sLs | with_reducible apply Wf.cpU | with_reducible apply Wf.fillI | with_reducible apply Wf.clU | with_reducible apply Wf.dnF | with_reducible apply Wf.gbW)) hp (by omega))) ?_
            refine lf (a_aload_n dX2_readMeal_121 rfl) ?_
            refine lf (a_getI dX2_readMeal_122 fs_X2_169 rfl (pl_m (by repeat (first | with_reducible exact hw | with_reducible exact hwc | with_reducible assumption | with_reducible apply Wf.sI | with_reducible apply Wf.sL | with_reducible apply Wf.cpI | with_reducible apply Wf.cpL | with_reducible apply Wf.cp2 | with_reducible apply Wf.sIs | with_reducible apply Wf.sLs | with_reducible apply Wf.cpU | with_reducible apply Wf.fillI | with_reducible apply Wf.clU | with_reducible apply Wf.dnF | with_reducible apply Wf.gbW)) hp (by omega))) ?_
            rw [gI_sI, if_pos ⟨rfl, rfl⟩]
            refine lf (a_iconst (-1 : Int32) dX2_readMeal_125 (by decide)) ?_
            refine lfn (a_icmp_ne (tgt := 131) dX2_readMeal_126 (by decide)) (fun h126 => ?_) (fun h126 => absurd h126 (nI_ne1 (by have := nhS_lt hr115; omega)))
            refine lf (a_aload_n dX2_readMeal_131 rfl) ?_
            refine lf (a_iconst (0 : Int32) dX2_readMeal_132 (by decide)) ?_
            refine lf (a_putI dX2_readMeal_133 fs_X2_172 rfl rfl rfl (pl_m (by repeat (first | with_reducible exact hw | with_reducible exact hwc | with_reducible assumption | with_reducible apply Wf.sI | with_reducible apply Wf.sL | with_reducible apply Wf.cpI | with_reducible apply Wf.cpL | with_reducible apply Wf.cp2 | with_reducible apply Wf.sIs | with_reducible apply Wf.sLs | with_reducible apply Wf.cpU | with_reducible apply Wf.fillI | with_reducible apply Wf.clU | with_reducible apply Wf.dnF | with_reducible apply Wf.gbW)) hp (by omega))) ?_
            refine lf (a_aload_n dX2_readMeal_136 rfl) ?_
            refine lf (a_getR (cr_79_0 (by repeat (first | with_reducible exact hw | with_reducible exact hwc | with_reducible assumption | with_reducible apply Wf.sI | with_reducible apply Wf.sL | with_reducible apply Wf.cpI | with_reducible apply Wf.cpL | with_reducible apply Wf.cp2 | with_reducible apply Wf.sIs | with_reducible apply Wf.sLs | with_reducible apply Wf.cpU | with_reducible apply Wf.fillI | with_reducible apply Wf.clU | with_reducible apply Wf.dnF | with_reducible apply Wf.gbW))) dX2_readMeal_137 fs_X2_12 rfl (co_79 (by repeat (first | with_reducible exact hw | with_reducible exact hwc | with_reducible assumption | with_reducible apply Wf.sI | with_reducible apply Wf.sL | with_reducible apply Wf.cpI | with_reducible apply Wf.cpL | with_reducible apply Wf.cp2 | with_reducible apply Wf.sIs | with_reducible apply Wf.sLs | with_reducible apply Wf.cpU | with_reducible apply Wf.fillI | with_reducible apply Wf.clU | with_reducible apply Wf.dnF | with_reducible apply Wf.gbW)))) ?_
            obtain ⟨v_, W140, k140, rfl, hO140, hA140⟩ := (t_X9_next hzd2.wf hzd2.tk hen.2.1 hzd2.at'.2.1)
            have hz140 := hzd2.next hO140 hA140 hen.2.1
            have hXc140 := hXd2.trans ((ExT hO140).1.mono (fun i _ y => sT_sP p0 i y))
            have hKc140 := hKd2.trans (ExT hO140).2
            have hwc := hz140.wf
            have hr2 := hz140.r2
            have hr1 := hz140.r1
            have hA := hz140.at'
            have hpn := hz140.le
            have hen := tkE_le (B := B) hpn
            have htx := hz140.tk.1
            have hN140 := hNd2.ex (En.of hO140.1).1 (fun i y => by have y : i = 80 := y; omega) (by have := hzd2.wf.1; omega) (by intro y; have y : (p0 + 7 + pM z.1) = 80 := y; omega)
            have hR140 := hRd2.ex (En.of hO140.1).1 (by have := hzd2.wf.1; omega) (by intro y; have y : (p0 + 7 + pM z.1) = 80 := y; omega)
            refine lf (a_inv (b2 := (0, 0)) k140 rfl dX2_readMeal_140 yk_X9_next im_X9_next se_X9_next ml_X2_47 rfl (co_80 (by repeat (first | with_reducible exact hw | with_reducible exact hwc | with_reducible assumption | with_reducible apply Wf.sI | with_reducible apply Wf.sL | with_reducible apply Wf.cpI | with_reducible apply Wf.cpL | with_reducible apply Wf.cp2 | with_reducible apply Wf.sIs | with_reducible apply Wf.sLs | with_reducible apply Wf.cpU | with_reducible apply Wf.fillI | with_reducible apply Wf.clU | with_reducible apply Wf.dnF | with_reducible apply Wf.gbW))) (by decide) hc_X9 (by decide) (by decide) (Nat.le_of_ble_eq_true rfl)) ?_
            refine lf (a_aload_n dX2_readMeal_143 rfl) ?_
            refine lf (a_getR (cr_79_0 (by repeat (first | with_reducible exact hw | with_reducible exact hwc | with_reducible assumption | with_reducible apply Wf.sI | with_reducible apply Wf.sL | with_reducible apply Wf.cpI | with_reducible apply Wf.cpL | with_reducible apply Wf.cp2 | with_reducible apply Wf.sIs | with_reducible apply Wf.sLs | with_reducible apply Wf.cpU | with_reducible apply Wf.fillI | with_reducible apply Wf.clU | with_reducible apply Wf.dnF | with_reducible apply Wf.gbW))) dX2_readMeal_144 fs_X2_12 rfl (co_79 (by repeat (first | with_reducible exact hw | with_reducible exact hwc | with_reducible assumption | with_reducible apply Wf.sI | with_reducible apply Wf.sL | with_reducible apply Wf.cpI | with_reducible apply Wf.cpL | with_reducible apply Wf.cp2 | with_reducible apply Wf.sIs | with_reducible apply Wf.sLs | with_reducible apply Wf.cpU | with_reducible apply Wf.fillI | with_reducible apply Wf.clU | with_reducible apply Wf.dnF | with_reducible apply Wf.gbW)))) ?_
            refine lf (a_ldcS (n := 11) (tx := "offers") dX2_readMeal_147 rfl) ?_
            refine lf (a_inv (b2 := (0, 0)) (t_X9_is hz140.wf hz140.tk hz140.le hz140.at' (StrV.const (μ := W140) k_offers)) rfl dX2_readMeal_149 yk_X9_is im_X9_is se_X9_is ml_X2_65 rfl (co_80 (by repeat (first | with_reducible exact hw | with_reducible exact hwc | with_reducible assumption | with_reducible apply Wf.sI | with_reducible apply Wf.sL | with_reducible apply Wf.cpI | with_reducible apply Wf.cpL | with_reducible apply Wf.cp2 | with_reducible apply Wf.sIs | with_reducible apply Wf.sLs | with_reducible apply Wf.cpU | with_reducible apply Wf.fillI | with_reducible apply Wf.clU | with_reducible apply Wf.dnF | with_reducible apply Wf.gbW))) (by decide) hc_X9 (by decide) (by decide) (Nat.le_of_ble_eq_true rfl)) ?_
            refine lf2 (a_if_eq (tgt := 180) dX2_readMeal_152 (by decide)) (fun h152 => ?_) (fun h152 => ?_)
            · have hwd := wd_t h152
              first
              | exact lf (a_loc _ rfl) (X2_readMeal_180 (v3 := nI a93) (v4 := nI a115) (v5 := nI a157) hXb hnb hz177 hXc177 hKc177 hM hN177 hR177 c81 s81 rfl rfl rfl (by rw [stMeal, if_neg (by omega), if_neg (fun q => q hnm), hcf]; dsimp only; rw [mbS, bnd_r hr81, bnd_r hr93, bnd_r hr115, bnd_r (a := (nI a157, tkE B n (tkE B n (tkE B n (tkE B n (tkE B n a81.1)))))) (by rw [ofS, if_pos hwd, bnd_r hr157])]))
              | exact lf (a_loc _ rfl) (X2_readMeal_180 (v3 := nI a93) (v4 := nI a115) (v5 := 0) hXb hnb hz140 hXc140 hKc140 hM hN140 hR140 c81 s81 rfl rfl rfl (by rw [stMeal, if_neg (by omega), if_neg (fun q => q hnm), hcf]; dsimp only; rw [mbS, bnd_r hr81, bnd_r hr93, bnd_r hr115, bnd_r (a := ((0 : Int32), tkE B n (tkE B n (tkE B n a81.1)))) (by rw [ofS, if_neg hwd])]))
            · have hwd := wd_f h152
              refine lf (a_aload_n dX2_readMeal_155 rfl) ?_
              refine lf (a_aload_n dX2_readMeal_156 rfl) ?_
              obtain ⟨v_, W157, k157, hR157⟩ := (t_X2_nextDiets hz140)
              obtain ⟨hX157, hR157⟩ := hR157
              generalize hr157 : ndS B n (tkE B n (tkE B n (tkE B n (tkE B n a81.1)))) = r157 at hR157
              cases r157 with
              | inl a157 =>
                obtain ⟨rfl, hE157⟩ := hR157
                have hwx := hX157.1.1
                have hXc157 := hXc140.trans (hX157.mono (fun i _ y => sT_sP p0 i y))
                have hXq157 := hXc157.sI (S := sP p0) (i := (p0 + 7 + pM z.1)) (Or.inr (Or.inr (Or.inl ⟨by omega, by omega⟩))) 5 (-1)
                refine lf (a_inv (b2 := (0, 0)) k157 rfl dX2_readMeal_157 yk_X2_nextDiets im_X2_nextDiets se_X2_nextDiets ml_X2_176 rfl (co_79 (by repeat (first | with_reducible exact hw | with_reducible exact hwc | with_reducible assumption | with_reducible apply Wf.sI | with_reducible apply Wf.sL | with_reducible apply Wf.cpI | with_reducible apply Wf.cpL | with_reducible apply Wf.cp2 | with_reducible apply Wf.sIs | with_reducible apply Wf.sLs | with_reducible apply Wf.cpU | with_reducible apply Wf.fillI | with_reducible apply Wf.clU | with_reducible apply Wf.dnF | with_reducible apply Wf.gbW))) (by decide) hc_X2 (by decide) (by decide) (Nat.le_of_ble_eq_true rfl)) ?_
                refine lf (a_putI dX2_readMeal_160 fs_X2_172 rfl rfl rfl (pl_m (by repeat (first | with_reducible exact hw | with_reducible exact hwc | with_reducible assumption | with_reducible apply Wf.sI | with_reducible apply Wf.sL | with_reducible apply Wf.cpI | with_reducible apply Wf.cpL | with_reducible apply Wf.cp2 | with_reducible apply Wf.sIs | with_reducible apply Wf.sLs | with_reducible apply Wf.cpU | with_reducible apply Wf.fillI | with_reducible apply Wf.clU | with_reducible apply Wf.dnF | with_reducible apply Wf.gbW)) hp (by omega))) ?_
                refine lf (a_aload_n dX2_readMeal_163 rfl) ?_
                refine lf (a_getI dX2_readMeal_164 fs_X2_172 rfl (pl_m (by repeat (first | with_reducible exact hw | with_reducible exact hwc | with_reducible assumption | with_reducible apply Wf.sI | with_reducible apply Wf.sL | with_reducible apply Wf.cpI | with_reducible apply Wf.cpL | with_reducible apply Wf.cp2 | with_reducible apply Wf.sIs | with_reducible apply Wf.sLs | with_reducible apply Wf.cpU | with_reducible apply Wf.fillI | with_reducible apply Wf.clU | with_reducible apply Wf.dnF | with_reducible apply Wf.gbW)) hp (by omega))) ?_
                rw [gI_sI, if_pos ⟨rfl, rfl⟩]
                refine lf (a_iconst (-1 : Int32) dX2_readMeal_167 (by decide)) ?_
                refine lfn (a_icmp_ne (tgt := 173) dX2_readMeal_168 (by decide)) (fun h168 => absurd h168 (fun q => q rfl)) (fun h168 => ?_)
                refine lf (a_iconst (0 : Int32) dX2_readMeal_171 (by decide)) ?_
                refine ⟨_, _, (a_ireturn dX2_readMeal_172 rfl rfl), ?_⟩
                exact ⟨_, rfl, StN.bad (hXb.trans hXq157.1) (Or.inr (hXq157.2.trans hnb)) (by exact ⟨by rw [gI_sI, if_neg (by omega)]; exact hE157.1, by rw [gI_sI, if_neg (by omega)]; exact hE157.2.1, hE157.2.2⟩) (by rw [stMeal, if_neg (by omega), if_neg (fun q => q hnm), hcf]; dsimp only; rw [mbS, bnd_r hr81, bnd_r hr93, bnd_r hr115, ofS, if_pos hwd, bnd_l (bnd_l hr157)])⟩
              | inr a157 =>
                obtain ⟨hK157, rfl, hlt157, hz157⟩ := hR157
                have hXc157 := hXc140.trans (hX157.mono (fun i _ y => sT_sP p0 i y))
                have hKc157 := hKc140.trans hK157
                have hwc := hz157.wf
                have hr2 := hz157.r2
                have hr1 := hz157.r1
                have hA := hz157.at'
                have hpn := hz157.le
                have hen := tkE_le (B := B) hpn
                have htx := hz157.tk.1
                have hNe0 : NmV W157 (p0 + 7 + pM z.1) (tkL B n (tkE B n p)) := hN140.ex hX157.1 (fun i y => by rcases y with y | y <;> omega) (by have := hz140.wf.1; omega) (by rintro (y | y) <;> omega)
                have hRe0 := hR140.ex hX157.1 (by have := hz140.wf.1; omega) (by rintro (y | y) <;> omega)
                have hze1 := hz157.jM hM 5 (nI a157)
                have hXe1 := hXc157.sI (S := sP p0) (i := (p0 + 7 + pM z.1)) (Or.inr (Or.inr (Or.inl ⟨by omega, by omega⟩))) 5 (nI a157)
                have hKe1 : EkV μ (sI W157 (p0 + 7 + pM z.1) 5 (nI a157)) := hKc157.sI (by omega)
                have hNe1 := hNe0.sI (j := (p0 + 7 + pM z.1)) (k := 5) (v := (nI a157)) hwc (by omega)
                have hRe1 := hRe0.set (k := 5) (v := (nI a157))
                refine lf (a_inv (b2 := (0, 0)) k157 rfl dX2_readMeal_157 yk_X2_nextDiets im_X2_nextDiets se_X2_nextDiets ml_X2_176 rfl (co_79 (by repeat (first | with_reducible exact hw | with_reducible exact hwc | with_reducible assumption | with_reducible apply Wf.sI | with_reducible apply Wf.sL | with_reducible apply Wf.cpI | with_reducible apply Wf.cpL | with_reducible apply Wf.cp2 | with_reducible apply Wf.sIs | with_reducible apply Wf.sLs | with_reducible apply Wf.cpU | with_reducible apply Wf.fillI | with_reducible apply Wf.clU | with_reducible apply Wf.dnF | with_reducible apply Wf.gbW))) (by decide) hc_X2 (by decide) (by decide) (Nat.le_of_ble_eq_true rfl)) ?_
                refine lf (a_putI dX2_readMeal_160 fs_X2_172 rfl rfl rfl (pl_m (by repeat (first | with_reducible exact hw | with_reducible exact hwc | with_reducible assumption | with_reducible apply Wf.sI | with_reducible apply Wf.sL | with_reducible apply Wf.cpI | with_reducible apply Wf.cpL | with_reducible apply Wf.cp2 | with_reducible apply Wf.sIs | with_reducible apply Wf.sLs | with_reducible apply Wf.cpU | with_reducible apply Wf.fillI | with_reducible apply Wf.clU | with_reducible apply Wf.dnF | with_reducible apply Wf.gbW)) hp (by omega))) ?_
                refine lf (a_aload_n dX2_readMeal_163 rfl) ?_
                refine lf (a_getI dX2_readMeal_164 fs_X2_172 rfl (pl_m (by repeat (first | with_reducible exact hw | with_reducible exact hwc | with_reducible assumption | with_reducible apply Wf.sI | with_reducible apply Wf.sL | with_reducible apply Wf.cpI | with_reducible apply Wf.cpL | with_reducible apply Wf.cp2 | with_reducible apply Wf.sIs | with_reducible apply Wf.sLs | with_reducible apply Wf.cpU | with_reducible apply Wf.fillI | with_reducible apply Wf.clU | with_reducible apply Wf.dnF | with_reducible apply Wf.gbW)) hp (by omega))) ?_
                rw [gI_sI, if_pos ⟨rfl, rfl⟩]
                refine lf (a_iconst (-1 : Int32) dX2_readMeal_167 (by decide)) ?_
                refine lfn (a_icmp_ne (tgt := 173) dX2_readMeal_168 (by decide)) (fun h168 => ?_) (fun h168 => absurd h168 (nI_ne1 (by omega)))
                refine lf (a_aload_n dX2_readMeal_173 rfl) ?_
                refine lf (a_getR (cr_79_0 (by repeat (first | with_reducible exact hw | with_reducible exact hwc | with_reducible assumption | with_reducible apply Wf.sI | with_reducible apply Wf.sL | with_reducible apply Wf.cpI | with_reducible apply Wf.cpL | with_reducible apply Wf.cp2 | with_reducible apply Wf.sIs | with_reducible apply Wf.sLs | with_reducible apply Wf.cpU | with_reducible apply Wf.fillI | with_reducible apply Wf.clU | with_reducible apply Wf.dnF | with_reducible apply Wf.gbW))) dX2_readMeal_174 fs_X2_12 rfl (co_79 (by repeat (first | with_reducible exact hw | with_reducible exact hwc | with_reducible assumption | with_reducible apply Wf.sI | with_reducible apply Wf.sL | with_reducible apply Wf.cpI | with_reducible apply Wf.cpL | with_reducible apply Wf.cp2 | with_reducible apply Wf.sIs | with_reducible apply Wf.sLs | with_reducible apply Wf.cpU | with_reducible apply Wf.fillI | with_reducible apply Wf.clU | with_reducible apply Wf.dnF | with_reducible apply Wf.gbW)))) ?_
                obtain ⟨v_, W177, k177, rfl, hO177, hA177⟩ := (t_X9_next hze1.wf hze1.tk hen.2.1 hze1.at'.2.1)
                have hz177 := hze1.next hO177 hA177 hen.2.1
                have hXc177 := hXe1.trans ((ExT hO177).1.mono (fun i _ y => sT_sP p0 i y))
                have hKc177 := hKe1.trans (ExT hO177).2
                have hwc := hz177.wf
                have hr2 := hz177.r2
                have hr1 := hz177.r1
                have hA := hz177.at'
                have hpn := hz177.le
                have hen := tkE_le (B := B) hpn
                have htx := hz177.tk.1
                have hN177 := hNe1.ex (En.of hO177.1).1 (fun i y => by have y : i = 80 := y; omega) (by have := hze1.wf.1; omega) (by intro y; have y : (p0 + 7 + pM z.1) = 80 := y; omega)
                have hR177 := hRe1.ex (En.of hO177.1).1 (by have := hze1.wf.1; omega) (by intro y; have y : (p0 + 7 + pM z.1) = 80 := y; omega)
                refine lf (a_inv (b2 := (0, 0)) k177 rfl dX2_readMeal_177 yk_X9_next im_X9_next se_X9_next ml_X2_47 rfl (co_80 (by repeat (first | with_reducible exact hw | with_reducible exact hwc | with_reducible assumption | with_reducible apply Wf.sI | with_reducible apply Wf.sL | with_reducible apply Wf.cpI | with_reducible apply Wf.cpL | with_reducible apply Wf.cp2 | with_reducible apply Wf.sIs | with_reducible apply Wf.sLs | with_reducible apply Wf.cpU | with_reducible apply Wf.fillI | with_reducible apply Wf.clU | with_reducible apply Wf.dnF | with_reducible apply Wf.gbW))) (by decide) hc_X9 (by decide) (by decide) (Nat.le_of_ble_eq_true rfl)) ?_
                first
                | exact lf (a_loc _ rfl) (X2_readMeal_180 (v3 := nI a93) (v4 := nI a115) (v5 := nI a157) hXb hnb hz177 hXc177 hKc177 hM hN177 hR177 c81 s81 rfl rfl rfl (by rw [stMeal, if_neg (by omega), if_neg (fun q => q hnm), hcf]; dsimp only; rw [mbS, bnd_r hr81, bnd_r hr93, bnd_r hr115, bnd_r (a := (nI a157, tkE B n (tkE B n (tkE B n (tkE B n (tkE B n a81.1)))))) (by rw [ofS, if_pos hwd, bnd_r hr157])]))
                | exact lf (a_loc _ rfl) (X2_readMeal_180 (v3 := nI a93) (v4 := nI a115) (v5 := 0) hXb hnb hz140 hXc140 hKc140 hM hN140 hR140 c81 s81 rfl rfl rfl (by rw [stMeal, if_neg (by omega), if_neg (fun q => q hnm), hcf]; dsimp only; rw [mbS, bnd_r hr81, bnd_r hr93, bnd_r hr115, bnd_r (a := ((0 : Int32), tkE B n (tkE B n (tkE B n a81.1)))) (by rw [ofS, if_neg hwd])]))
    · obtain ⟨i_, hcf⟩ : ∃ i, cfS B n (tkE B n p) (pM z.1) z.2.2.2 = some i := by
        cases e : cfS B n (tkE B n p) (pM z.1) z.2.2.2 with
        | none => rw [e] at h43; exact absurd rfl h43
        | some i => exact ⟨i, rfl⟩
      refine lf (a_aload_n dX2_readMeal_46 rfl) ?_
      refine lf (a_iconst (3 : Int32) dX2_readMeal_47 (by decide)) ?_
      refine lf (a_inv (b2 := (0, 0)) (t_X2_fail hwc (c := 3) hA.1) rfl dX2_readMeal_48 yk_X2_fail im_X2_fail se_X2_fail ml_X2_102 rfl (co_79 (by repeat (first | with_reducible exact hw | with_reducible exact hwc | with_reducible assumption | with_reducible apply Wf.sI | with_reducible apply Wf.sL | with_reducible apply Wf.cpI | with_reducible apply Wf.cpL | with_reducible apply Wf.cp2 | with_reducible apply Wf.sIs | with_reducible apply Wf.sLs | with_reducible apply Wf.cpU | with_reducible apply Wf.fillI | with_reducible apply Wf.clU | with_reducible apply Wf.dnF | with_reducible apply Wf.gbW))) (by decide) hc_X2 (by decide) (by decide) (Nat.le_of_ble_eq_true rfl)) ?_
      refine ⟨_, _, (a_ireturn dX2_readMeal_51 rfl rfl), ?_⟩
      exact ⟨_, rfl, StN.bad ((hXc22.trans ((hz22.err 3 _).1.mono (fun i _ y => sT_sP p0 i y))).1) (Or.inl hO22.1.2.1) (hz22.err 3 _).2 (by rw [stMeal, if_neg (by omega), if_neg (fun q => q hnm), hcf])⟩
  · have hnm : ¬ (tkK B n (tkE B n p) = 1 ∧ (tkL B n (tkE B n p)).length ≤ 6) := fun q => by rw [if_pos q] at h29; exact absurd h29 (by decide)
    refine lf (a_aload_n dX2_readMeal_32 rfl) ?_
    refine lf (a_iconst (1 : Int32) dX2_readMeal_33 (by decide)) ?_
    refine lf (a_inv (b2 := (0, 0)) (t_X2_fail hwc (c := 1) hA.1) rfl dX2_readMeal_34 yk_X2_fail im_X2_fail se_X2_fail ml_X2_102 rfl (co_79 (by repeat (first | with_reducible exact hw | with_reducible exact hwc | with_reducible assumption | with_reducible apply Wf.sI | with_reducible apply Wf.sL | with_reducible apply Wf.cpI | with_reducible apply Wf.cpL | with_reducible apply Wf.cp2 | with_reducible apply Wf.sIs | with_reducible apply Wf.sLs | with_reducible apply Wf.cpU | with_reducible apply Wf.fillI | with_reducible apply Wf.clU | with_reducible apply Wf.dnF | with_reducible apply Wf.gbW))) (by decide) hc_X2 (by decide) (by decide) (Nat.le_of_ble_eq_true rfl)) ?_
    refine ⟨_, _, (a_ireturn dX2_readMeal_37 rfl rfl), ?_⟩
    exact ⟨_, rfl, StN.bad ((hXc22.trans ((hz22.err 1 _).1.mono (fun i _ y => sT_sP p0 i y))).1) (Or.inl hO22.1.2.1) (hz22.err 1 _).2 (by rw [stMeal, if_neg (by omega), if_pos hnm])⟩
end PARSO
