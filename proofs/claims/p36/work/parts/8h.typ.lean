section TYP
variable {μ W : Wd} {r : Nat} {l : List Nat}
/-- the letter at j; behind the text blanks -/
def chT (l : List Nat) (j : Nat) : Nat := if j < l.length then l.getD j 0 else 32
theorem chT_lt (h : ∀ x ∈ l, x < 128) (j : Nat) : chT l j < 128 := by
  unfold chT
  split
  · next q => exact h _ (getD_mem l j q)
  · decide
/-- n letters from the 4 i-th on as a number -/
def vwN (f : Nat → Nat) (i : Nat) : Nat → Nat
  | 0 => 0
  | n + 1 => vwN f i n * 256 + f (4 * i + n)
theorem vwN_lt {f : Nat → Nat} (hf : ∀ j, f j < 128) (i : Nat) : ∀ n, n ≤ 3 → vwN f i n < 8388608 := by
  intro n hn
  have h0 := hf (4 * i + 0)
  have h1 := hf (4 * i + 1)
  have h2 := hf (4 * i + 2)
  rcases (by omega : n = 0 ∨ n = 1 ∨ n = 2 ∨ n = 3) with e | e | e | e <;> subst e
  · exact Nat.succ_pos _
  · show (0 * 256 + f (4 * i + 0)) < _; omega
  · show ((0 * 256 + f (4 * i + 0)) * 256 + f (4 * i + 1)) < _; omega
  · show (((0 * 256 + f (4 * i + 0)) * 256 + f (4 * i + 1)) * 256 + f (4 * i + 2)) < _; omega
theorem tn_nI {n : Nat} (h : n < 2 ^ 32) : (nI n).toBitVec.toNat = n := by
  show (BitVec.ofNat 32 n).toNat = n
  rw [BitVec.toNat_ofNat]
  exact Nat.mod_eq_of_lt h
theorem shor {x y : Nat} (hx : x < 8388608) (hy : y < 256) : (nI x <<< ((8 : Int32) &&& 31)) ||| nI y = nI (x * 256 + y) := by
  rw [pk_shlN ((8 : Int32) &&& 31) 8 (by decide) (by omega)]
  apply Int32.toBitVec_inj.mp
  apply BitVec.eq_of_toNat_eq
  show ((nI (x * 2 ^ 8)).toBitVec ||| (nI y).toBitVec).toNat = _
  rw [BitVec.toNat_or, tn_nI (by omega), tn_nI (by omega), tn_nI (by omega)]
  have h := Nat.shiftLeft_add_eq_or_of_lt (i := 8) (b := y) (by omega) x
  rw [Nat.shiftLeft_eq] at h
  exact h.symm
theorem i8_nI (y : Nat) : (nI y).toInt8 = (nI (y % 256)).toInt8 := by
  apply Int8.toBitVec_inj.mp
  apply BitVec.eq_of_toNat_eq
  show ((BitVec.ofNat 32 y).signExtend 8).toNat = ((BitVec.ofNat 32 (y % 256)).signExtend 8).toNat
  rw [BitVec.signExtend_eq_setWidth_of_le _ (by decide), BitVec.signExtend_eq_setWidth_of_le _ (by decide), BitVec.toNat_setWidth, BitVec.toNat_setWidth, BitVec.toNat_ofNat, BitVec.toNat_ofNat]
  omega
theorem apC_v {f : Nat → Nat} (hf : ∀ j, f j < 128) (i : Nat) {j : Nat} (hj : j < 4) : apC (nI (vwN f i 4)) j = nI (f (4 * i + j)) := by
  have h0 := hf (4 * i + 0)
  have h1 := hf (4 * i + 1)
  have h2 := hf (4 * i + 2)
  have h3 := hf (4 * i + 3)
  have hV : vwN f i 4 = (((0 * 256 + f (4 * i + 0)) * 256 + f (4 * i + 1)) * 256 + f (4 * i + 2)) * 256 + f (4 * i + 3) := rfl
  unfold apC apB
  rcases (by omega : j = 0 ∨ j = 1 ∨ j = 2 ∨ j = 3) with e | e | e | e <;> subst e
  · rw [pk_shrN (by omega) (nI (24 - 8 * 0) &&& 31) 24 (by decide), i8_nI, show vwN f i 4 / 2 ^ 24 % 256 = f (4 * i + 0) by omega, nar7 h0]
  · rw [pk_shrN (by omega) (nI (24 - 8 * 1) &&& 31) 16 (by decide), i8_nI, show vwN f i 4 / 2 ^ 16 % 256 = f (4 * i + 1) by omega, nar7 h1]
  · rw [pk_shrN (by omega) (nI (24 - 8 * 2) &&& 31) 8 (by decide), i8_nI, show vwN f i 4 / 2 ^ 8 % 256 = f (4 * i + 2) by omega, nar7 h2]
  · rw [pk_shrN (by omega) (nI (24 - 8 * 3) &&& 31) 0 (by decide), i8_nI, show vwN f i 4 / 2 ^ 0 % 256 = f (4 * i + 3) by omega, nar7 h3]
theorem fdC_v {f : Nat → Nat} (hf : ∀ j, f j < 128) {j : Nat} (hj : j < 20) : fdC (nI (vwN f 0 4)) (nI (vwN f 1 4)) (nI (vwN f 2 4)) (nI (vwN f 3 4)) (nI (vwN f 4 4)) j = nI (f j) := by
  unfold fdC
  split
  · next h => rw [apC_v hf 0 h, Nat.mul_zero, Nat.zero_add]
  · split
    · next h => rw [apC_v hf 1 (by omega), show 4 * 1 + (j - 4) = j by omega]
    · split
      · next h => rw [apC_v hf 2 (by omega), show 4 * 2 + (j - 8) = j by omega]
      · split
        · next h => rw [apC_v hf 3 (by omega), show 4 * 3 + (j - 12) = j by omega]
        · rw [apC_v hf 4 (by omega), show 4 * 4 + (j - 16) = j by omega]
/-- m pieces have been fed -/
def TyI (μ W : Wd) (l : List Nat) (m : Nat) : Prop := Ex sFd μ W ∧ wn W ≤ wn μ + m ∧ gI W 0 1 = nI (20 * m) ∧ (∀ k, k ≠ 1 → gI W 0 k = gI μ 0 k) ∧ (∀ k, gR W 0 k = gR μ 0 k) ∧ ∀ j, j < 20 * m → gI W 1 j = nI (chT l j)
/-- the array of five as far as q letters are in it -/
def VwI (f : Nat → Nat) (W : Wd) (v q : Nat) : Prop := ∀ i, i < 5 → gI W v i = nI (vwN f i (min 4 (q - 4 * i)))
theorem TyI.str {m : Nat} (h : TyI μ W l m) (hs : StrV μ r l) : StrV W r l := hs.ex h.1 (fun i z => by rcases z with z | z <;> omega)
abbrev R_L_type : Room := { frames := 30, cells := 45, slots := 225, locals := 2000 }
theorem l_L_type_37 {V : Wd} {v m : Nat} {b : Nat × Nat} (hw0 : Wf V) (ha : Ar V v 20 5) (hr3 : r ≠ v) (hs0 : StrV V r l) (hv339 : 339 ≤ v) (hm : m ≤ 45) {Q : Oc → Wd → Prop} (kx : ∀ W, Out (fun i => i = v) V W → VwI (fun j => chT l (20 * m + j)) W v 20 → WP Y_L_type R_L_type b W 90 [(0, .ref 0), (1, .ref r), (2, .int (nI (20 * m))), (3, .ref v), (4, .int (nI 20))] [] Q) : ∀ dd q (W : Wd), q + dd = 20 → Out (fun i => i = v) V W → VwI (fun j => chT l (20 * m + j)) W v q → WP Y_L_type R_L_type b W 37 [(0, .ref 0), (1, .ref r), (2, .int (nI (20 * m))), (3, .ref v), (4, .int (nI q))] [] Q := by
  intro dd
  induction dd with
  | zero =>
    intro q W hq hO hI
    obtain rfl : 20 = q := by omega
    have hw := hO.1
    refine lf (a_iload dL_type_37 rfl) ?_
    refine lf (a_bipush (20 : Int32) dL_type_39 (by decide)) ?_
    refine lf2 (a_icmp_ge (tgt := 90) dL_type_41 (by decide)) (fun h41 => ?_) (fun h41 => absurd h41 (fun z => z (Int32.le_refl _)))
    exact lf (a_loc _ rfl) (kx W hO hI)
  | succ dd ih =>
    intro q W hq hO hI
    have hw := hO.1
    have haW : Ar W v 20 5 := ha.ex (Ex.of hO)
    have hsW : StrV W r l := hs0.ex2 (Ex.of hO) (fun _ => hr3) (fun z e h z9 => by have h2 := h.2.1; rw [z9, ha.2.1] at h2; omega)
    have h900 := hsW.1
    have hf : ∀ j, chT l (20 * m + j) < 128 := fun j => chT_lt hsW.2.1 _
    have hval : gI W v (q / 4) = nI (vwN (fun j => chT l (20 * m + j)) (q / 4) (q % 4)) := by
      rw [hI (q / 4) (by omega), show min 4 (q - 4 * (q / 4)) = q % 4 by omega]
    have hlt := vwN_lt (f := fun j => chT l (20 * m + j)) hf (q / 4) (q % 4) (by omega)
    refine lf (a_iload dL_type_37 rfl) ?_
    refine lf (a_bipush (20 : Int32) dL_type_39 (by decide)) ?_
    refine lf2 (a_icmp_ge (tgt := 90) dL_type_41 (by decide)) (fun h41 => absurd h41 (nI_ge (a := q) (b := 20) (by omega) (by decide))) (fun h41 => ?_)
    refine lf (a_aload_n dL_type_44 rfl) ?_
    refine lf (a_iload dL_type_45 rfl) ?_
    refine lf (a_iconst (4 : Int32) dL_type_47 (by decide)) ?_
    refine lf (a_idiv dL_type_48 (by decide)) ?_
    rw [show nI q / (4 : Int32) = nI (q / 4) from pk_div (d := 4) (by omega) (by decide) (by decide)]
    refine lf (a_aload_n dL_type_49 rfl) ?_
    refine lf (a_iload dL_type_50 rfl) ?_
    refine lf (a_iconst (4 : Int32) dL_type_52 (by decide)) ?_
    refine lf (a_idiv dL_type_53 (by decide)) ?_
    rw [show nI q / (4 : Int32) = nI (q / 4) from pk_div (d := 4) (by omega) (by decide) (by decide)]
    refine lf (a_ild dL_type_54 haW (ixn (show q / 4 < 5 by omega) (by decide))) ?_
    rw [hval]
    refine lf (a_bipush (8 : Int32) dL_type_55 (by decide)) ?_
    refine lf (a_ishl dL_type_57) ?_
    refine lf (a_iload_n dL_type_58 rfl) ?_
    refine lf (a_iload dL_type_59 rfl) ?_
    refine lf (a_iadd dL_type_61) ?_
    rw [nI_add]
    refine lf (a_aload_n dL_type_62 rfl) ?_
    refine lf (a_invT (b2 := b) hsW (t_J0_length_8abf5 hsW) rfl dL_type_63 yk_J0_length_8abf5 im_J0_length_8abf5 se_J0_length_8abf5 ml_L_8 rfl rfl (by decide) ⟨by show 0 + b.1 ≤ b.1; omega, by show 0 + b.2 ≤ b.2; omega⟩ (Nat.le_of_ble_eq_true rfl)) ?_
    refine lf2 (a_icmp_ge (tgt := 80) dL_type_66 (by decide)) (fun h66 => ?_) (fun h66 => ?_)
    · have hgq : ¬ 20 * m + q < l.length := by
        have := (nI_leI (by omega) (by omega)).mp h66
        omega
      refine lf (a_bipush (32 : Int32) dL_type_80 (by decide)) ?_
      rw [show (32 : Int32) = nI (chT l (20 * m + q)) from by rw [show chT l (20 * m + q) = 32 from if_neg hgq]; rfl]
      refine lf (a_ior dL_type_82) ?_
      rw [shor hlt (Nat.lt_trans (hf q) (by decide))]
      refine lf (a_ist dL_type_83 haW (ixn (show q / 4 < 5 by omega) (by decide))) ?_
      refine lf (a_iincN dL_type_84 rfl (by decide)) ?_
      refine lf (a_goto (tgt := 37) dL_type_87 (by decide)) ?_
      refine lf (a_loc _ rfl) (ih (q + 1) _ (by omega) (hO.sI (S := fun i => i = v) rfl _ _) (fun i hi => ?_))
      rw [gI_sI]
      by_cases e : i = q / 4
      · rw [if_pos ⟨rfl, e⟩, e, show min 4 (q + 1 - 4 * (q / 4)) = q % 4 + 1 by omega]
        show _ = nI (vwN _ (q / 4) (q % 4) * 256 + chT l (20 * m + (4 * (q / 4) + q % 4)))
        rw [show 4 * (q / 4) + q % 4 = q by omega]
      · rw [if_neg (fun z => e z.2), hI i hi]
        congr 2
        omega
    · have hlq : 20 * m + q < l.length := by
        have : ¬ l.length ≤ 20 * m + q := fun z => h66 ((nI_leI (by omega) (by omega)).mpr z)
        omega
      refine lf (a_aload_n dL_type_69 rfl) ?_
      refine lf (a_iload_n dL_type_70 rfl) ?_
      refine lf (a_iload dL_type_71 rfl) ?_
      refine lf (a_iadd dL_type_73) ?_
      rw [nI_add]
      refine lf (a_invT (b2 := b) hsW (t_J0_charAt_5068e hsW hlq) rfl dL_type_74 yk_J0_charAt_5068e im_J0_charAt_5068e se_J0_charAt_5068e ml_L_14 rfl rfl (by decide) ⟨by show 0 + b.1 ≤ b.1; omega, by show 0 + b.2 ≤ b.2; omega⟩ (Nat.le_of_ble_eq_true rfl)) ?_
      rw [show l.getD (20 * m + q) 0 = chT l (20 * m + q) from (if_pos hlq).symm]
      refine lf (a_goto (tgt := 82) dL_type_77 (by decide)) ?_
      refine lf (a_ior dL_type_82) ?_
      rw [shor hlt (Nat.lt_trans (hf q) (by decide))]
      refine lf (a_ist dL_type_83 haW (ixn (show q / 4 < 5 by omega) (by decide))) ?_
      refine lf (a_iincN dL_type_84 rfl (by decide)) ?_
      refine lf (a_goto (tgt := 37) dL_type_87 (by decide)) ?_
      refine lf (a_loc _ rfl) (ih (q + 1) _ (by omega) (hO.sI (S := fun i => i = v) rfl _ _) (fun i hi => ?_))
      rw [gI_sI]
      by_cases e : i = q / 4
      · rw [if_pos ⟨rfl, e⟩, e, show min 4 (q + 1 - 4 * (q / 4)) = q % 4 + 1 by omega]
        show _ = nI (vwN _ (q / 4) (q % 4) * 256 + chT l (20 * m + (4 * (q / 4) + q % 4)))
        rw [show 4 * (q / 4) + q % 4 = q by omega]
      · rw [if_neg (fun z => e z.2), hI i hi]
        congr 2
        omega
theorem l_L_type_2 (hμ : wn μ + 100 < 1000000) (hs0 : StrV μ r l) (hl8 : l.length ≤ 800) {Q : Oc → Wd → Prop} (kx : ∀ W m, TyI μ W l m → l.length ≤ 20 * m → m ≤ 45 → Q (.inl (some (.int (nI l.length)))) W) : ∀ dd m (W : Wd), m + dd = 45 → TyI μ W l m → WP Y_L_type R_L_type (dd, 5 * dd) W 2 [(0, .ref 0), (1, .ref r), (2, .int (nI (20 * m)))] [] Q := by
  intro dd
  induction dd with
  | zero =>
    intro m W hm hI
    obtain rfl : 45 = m := by omega
    have hw := hI.1.1
    have hsW := hI.str hs0
    refine lf (a_iload_n dL_type_2 rfl) ?_
    refine lf (a_aload_n dL_type_3 rfl) ?_
    refine lf (a_invT (b2 := (0, 0)) hsW (t_J0_length_8abf5 hsW) rfl dL_type_4 yk_J0_length_8abf5 im_J0_length_8abf5 se_J0_length_8abf5 ml_L_8 rfl rfl (by decide) (by decide) (Nat.le_of_ble_eq_true rfl)) ?_
    refine lf2 (a_icmp_ge (tgt := 116) dL_type_7 (by decide)) (fun h7 => ?_) (fun h7 => absurd h7 (fun z => z (nI_le (a := l.length) (b := 20 * 45) (by omega) (by decide))))
    refine lf (a_aload_n dL_type_116 rfl) ?_
    refine lf (a_invT (b2 := (0, 0)) hsW (t_J0_length_8abf5 hsW) rfl dL_type_117 yk_J0_length_8abf5 im_J0_length_8abf5 se_J0_length_8abf5 ml_L_8 rfl rfl (by decide) (by decide) (Nat.le_of_ble_eq_true rfl)) ?_
    refine ⟨_, _, (a_ireturn dL_type_120 rfl rfl), ?_⟩
    exact kx _ _ hI (by omega) (by decide)
  | succ dd ih =>
    intro m W hm hI
    have hw := hI.1.1
    have hsW := hI.str hs0
    have hwn := hI.2.1
    refine lf (a_iload_n dL_type_2 rfl) ?_
    refine lf (a_aload_n dL_type_3 rfl) ?_
    refine lf (a_invT (b2 := (dd + 1, 5 * (dd + 1))) hsW (t_J0_length_8abf5 hsW) rfl dL_type_4 yk_J0_length_8abf5 im_J0_length_8abf5 se_J0_length_8abf5 ml_L_8 rfl rfl (by decide) ⟨by show 0 + (dd + 1) ≤ _; omega, by show 0 + (5 * (dd + 1)) ≤ _; omega⟩ (Nat.le_of_ble_eq_true rfl)) ?_
    refine lf2 (a_icmp_ge (tgt := 116) dL_type_7 (by decide)) (fun h7 => ?_) (fun h7 => ?_)
    · 
      refine lf (a_aload_n dL_type_116 rfl) ?_
      refine lf (a_invT (b2 := (dd + 1, 5 * (dd + 1))) hsW (t_J0_length_8abf5 hsW) rfl dL_type_117 yk_J0_length_8abf5 im_J0_length_8abf5 se_J0_length_8abf5 ml_L_8 rfl rfl (by decide) ⟨by show 0 + (dd + 1) ≤ _; omega, by show 0 + (5 * (dd + 1)) ≤ _; omega⟩ (Nat.le_of_ble_eq_true rfl)) ?_
      refine ⟨_, _, (a_ireturn dL_type_120 rfl rfl), ?_⟩
      exact kx _ _ hI ((nI_leI (by omega) (by omega)).mp h7) (by omega)
    · have hb1 : Ar (mk W (5 * 32 + 20)) (wn W) 20 5 := ⟨Nat.lt_succ_self _, km_new hw.1 (by decide), al_new hw.1 (by decide)⟩
      refine lf (a_iconst (5 : Int32) dL_type_10 (by decide)) ?_
      refine lf (a_newI (Y := Y_L_type) (c9 := 5 * 32 + 20) (len := 5) (t := 20) (aty := .int) (ty := .int) dL_type_11 rfl ac_int ⟨rfl, by decide, by decide, by decide⟩ rfl (by decide) (by decide) (km_new hw.1 (by decide)) (al_new hw.1 (by decide)) (by omega) (b' := (dd, 5 * dd)) (by show (dd + 1, 5 * (dd + 1)) = (dd + 1, 5 * dd + 5); rfl)) ?_
      refine lf (a_dup dL_type_13 rfl) ?_
      refine lf (a_iconst (0 : Int32) dL_type_14 (by decide)) ?_
      refine lf (a_iconst (0 : Int32) dL_type_15 (by decide)) ?_
      refine lf (a_ist dL_type_16 hb1 (ixn (m := 0) (by decide) (by decide))) ?_
      refine lf (a_dup dL_type_17 rfl) ?_
      refine lf (a_iconst (1 : Int32) dL_type_18 (by decide)) ?_
      refine lf (a_iconst (0 : Int32) dL_type_19 (by decide)) ?_
      refine lf (a_ist dL_type_20 hb1 (ixn (m := 1) (by decide) (by decide))) ?_
      refine lf (a_dup dL_type_21 rfl) ?_
      refine lf (a_iconst (2 : Int32) dL_type_22 (by decide)) ?_
      refine lf (a_iconst (0 : Int32) dL_type_23 (by decide)) ?_
      refine lf (a_ist dL_type_24 hb1 (ixn (m := 2) (by decide) (by decide))) ?_
      refine lf (a_dup dL_type_25 rfl) ?_
      refine lf (a_iconst (3 : Int32) dL_type_26 (by decide)) ?_
      refine lf (a_iconst (0 : Int32) dL_type_27 (by decide)) ?_
      refine lf (a_ist dL_type_28 hb1 (ixn (m := 3) (by decide) (by decide))) ?_
      refine lf (a_dup dL_type_29 rfl) ?_
      refine lf (a_iconst (4 : Int32) dL_type_30 (by decide)) ?_
      refine lf (a_iconst (0 : Int32) dL_type_31 (by decide)) ?_
      refine lf (a_ist dL_type_32 hb1 (ixn (m := 4) (by decide) (by decide))) ?_
      refine lf (a_astore_n dL_type_33 (by decide)) ?_
      refine lf (a_iconst (0 : Int32) dL_type_34 (by decide)) ?_
      refine lf (a_istore dL_type_35 (by decide)) ?_
      have hsM : StrV (mk W (5 * 32 + 20)) r l := hsW.ex (Ex.mk (S := fun _ => False) hw _) (fun i z => z.elim)
      have hv0 : ∀ k, gI (sI (sI (sI (sI (sI (mk W (5 * 32 + 20)) (wn W) 0 0) (wn W) 1 0) (wn W) 2 0) (wn W) 3 0) (wn W) 4 0) (wn W) k = 0 := fun k => by
        simp only [gI_sI, gI_mk, true_and, if_true]
        repeat' split
        all_goals rfl
      have hw34 : Wf (sI (sI (sI (sI (sI (mk W (5 * 32 + 20)) (wn W) 0 0) (wn W) 1 0) (wn W) 2 0) (wn W) 3 0) (wn W) 4 0) := (hw.mk _).sI.sI.sI.sI.sI
      have hE34 : Ex (fun _ => False) W (sI (sI (sI (sI (sI (mk W (5 * 32 + 20)) (wn W) 0 0) (wn W) 1 0) (wn W) 2 0) (wn W) 3 0) (wn W) 4 0) := (((((Ex.mk hw _).sI2 (fun h => absurd h (Nat.lt_irrefl _))).sI2 (fun h => absurd h (Nat.lt_irrefl _))).sI2 (fun h => absurd h (Nat.lt_irrefl _))).sI2 (fun h => absurd h (Nat.lt_irrefl _))).sI2 (fun h => absurd h (Nat.lt_irrefl _))
      have hs34 := hsW.ex hE34 (fun i z => z.elim)
      have hrv : r ≠ wn W := fun e => by
        rcases hsW.2.2 with ⟨c, q, e1, _⟩ | ⟨_, ho, _⟩
        · omega
        · have := ho.1; omega
      revert hv0 hw34 hE34 hs34
      generalize hX : sI (sI (sI (sI (sI (mk W (5 * 32 + 20)) (wn W) 0 0) (wn W) 1 0) (wn W) 2 0) (wn W) 3 0) (wn W) 4 0 = X
      intro hv0 hw34 hE34 hs34
      have haX : Ar X (wn W) 20 5 := by rw [← hX]; exact hb1
      have hwX : wn X = wn W + 1 := by rw [← hX]; rfl
      refine lf (a_loc [(0, .ref 0), (1, .ref r), (2, .int (nI (20 * m))), (3, .ref (wn W)), (4, .int (nI 0))] rfl) (l_L_type_37 hw34 haX hrv hs34 hw.1 (by omega) (fun V hO hV => ?_) 20 0 X rfl (Out.rfl' hw34) (fun i hi => ?_))
      · have hlt20 : 20 * m < l.length := by
          have : ¬ l.length ≤ 20 * m := fun z => h7 ((nI_leI (by omega) (by omega)).mpr z)
          omega
        have hwV := hO.1
        have haV : Ar V (wn W) 20 5 := haX.ex (Ex.of hO)
        have e0 : ∀ i, i < 5 → gI V (wn W) i = nI (vwN (fun j => chT l (20 * m + j)) i 4) := fun i hi => by
          rw [hV i hi, show min 4 (20 - 4 * i) = 4 by omega]
        have hf : ∀ j, chT l (20 * m + j) < 128 := fun j => chT_lt hsW.2.1 _
        have hl0 : gI V 0 1 = nI (20 * m) := (hO.i (show ¬ 0 = wn W by have := hw.1; omega) 1).trans ((hE34.i (by have := hw.1; omega) (fun z => z) 1).trans hI.2.2.1)
        refine lf (a_aload_n dL_type_90 rfl) ?_
        refine lf (a_aload_n dL_type_91 rfl) ?_
        refine lf (a_iconst (0 : Int32) dL_type_92 (by decide)) ?_
        refine lf (a_ild dL_type_93 haV (ixn (m := 0) (by decide) (by decide))) ?_
        rw [e0 0 (by decide)]
        refine lf (a_aload_n dL_type_94 rfl) ?_
        refine lf (a_iconst (1 : Int32) dL_type_95 (by decide)) ?_
        refine lf (a_ild dL_type_96 haV (ixn (m := 1) (by decide) (by decide))) ?_
        rw [e0 1 (by decide)]
        refine lf (a_aload_n dL_type_97 rfl) ?_
        refine lf (a_iconst (2 : Int32) dL_type_98 (by decide)) ?_
        refine lf (a_ild dL_type_99 haV (ixn (m := 2) (by decide) (by decide))) ?_
        rw [e0 2 (by decide)]
        refine lf (a_aload_n dL_type_100 rfl) ?_
        refine lf (a_iconst (3 : Int32) dL_type_101 (by decide)) ?_
        refine lf (a_ild dL_type_102 haV (ixn (m := 3) (by decide) (by decide))) ?_
        rw [e0 3 (by decide)]
        refine lf (a_aload_n dL_type_103 rfl) ?_
        refine lf (a_iconst (4 : Int32) dL_type_104 (by decide)) ?_
        refine lf (a_ild dL_type_105 haV (ixn (m := 4) (by decide) (by decide))) ?_
        rw [e0 4 (by decide)]
        obtain ⟨v_, W106, k106, rfl, hFd⟩ := c_feed hwV (n := 20 * m) (by omega) hl0 (nI (vwN (fun j => chT l (20 * m + j)) 0 4)) (nI (vwN (fun j => chT l (20 * m + j)) 1 4)) (nI (vwN (fun j => chT l (20 * m + j)) 2 4)) (nI (vwN (fun j => chT l (20 * m + j)) 3 4)) (nI (vwN (fun j => chT l (20 * m + j)) 4 4))
        refine lf (a_inv (b2 := (dd, 5 * dd)) k106 rfl dL_type_106 yk_X10_feed im_X10_feed se_X10_feed ml_L_18 rfl (co_0 hwV) (by decide) hc_X10 (by decide) ⟨by show 0 + dd ≤ dd; omega, by show 0 + 5 * dd ≤ 5 * dd; omega⟩ (Nat.le_of_ble_eq_true rfl)) ?_
        refine lf (a_pop dL_type_109 rfl) ?_
        refine lf (a_iinc (20 : Int32) dL_type_110 (by decide) rfl (by decide)) ?_
        refine lf (a_goto (tgt := 2) dL_type_113 (by decide)) ?_
        obtain ⟨g1, g2, g3, g4, g5, g6⟩ := hFd
        have hE : Ex sFd W W106 := (((hE34.mono (S' := fun i => i = wn W) (fun _ _ z => z.elim)).trans (Ex.of hO)).mono (fun i hi z => absurd (show i = wn W from z) (by omega))).trans (Ex.of g1)
        rw [show nI (20 * m) + (20 : Int32) = nI (20 * (m + 1)) from nI_add (20 * m) 20]
        refine lf (a_loc [(0, .ref 0), (1, .ref r), (2, .int (nI (20 * (m + 1))))] rfl) (ih (m + 1) W106 (by omega) ⟨hI.1.trans hE, by rw [g1.2.1, hO.2.1, hwX]; omega, g2, fun k hk => ?_, fun k => ?_, fun j hj => ?_⟩)
        · rw [g3 k hk, hO.i (show ¬ 0 = wn W by have := hw.1; omega) k, hE34.i (by have := hw.1; omega) (fun z => z) k]
          exact hI.2.2.2.1 k hk
        · rw [g6 k, hO.r (show ¬ 0 = wn W by have := hw.1; omega) k, hE34.r (by have := hw.1; omega) (fun z => z) k]
          exact hI.2.2.2.2.1 k
        · by_cases z : j < 20 * m
          · rw [g5 j (Or.inl z), hO.i (show ¬ 1 = wn W by have := hw.1; omega) j, hE34.i (by have := hw.1; omega) (fun z => z) j]
            exact hI.2.2.2.2.2 j z
          · have h9 := g4 (j - 20 * m) (by omega)
            rw [show 20 * m + (j - 20 * m) = j by omega, fdC_v (f := fun j => chT l (20 * m + j)) hf (by omega)] at h9
            rw [h9]
            show nI (chT l (20 * m + (j - 20 * m))) = _
            rw [show 20 * m + (j - 20 * m) = j by omega]
      · rw [hv0 i, show min 4 (0 - 4 * i) = 0 by omega]
        rfl
/-- the text has been fed -/
def TyQ (μ : Wd) (l : List Nat) (v : Option Value) (V : Wd) : Prop := v = some (.int (nI l.length)) ∧ ∃ m, TyI μ V l m ∧ l.length ≤ 20 * m ∧ m ≤ 45
theorem t_L_type (hw : Wf μ) (hμ : wn μ + 100 < 1000000) (hs : StrV μ r l) (hl8 : l.length ≤ 800) (h0 : gI μ 0 1 = 0) : CV Y_L_type R_L_type [.ref 0, .ref r] μ (TyQ μ l) := by
  refine CV.ent yk_L_type (Nat.le_of_ble_eq_true rfl) ?_
  refine lf (a_iconst (0 : Int32) dL_type_0 (by decide)) ?_
  refine lf (a_istore_n dL_type_1 (by decide)) ?_
  exact lf (a_loc [(0, .ref 0), (1, .ref r), (2, .int (nI (20 * 0)))] rfl) (l_L_type_2 hμ hs hl8 (fun W m h1 h2 h3 => ⟨_, rfl, rfl, m, h1, h2, h3⟩) 45 0 μ rfl ⟨Ex.rfl' hw, Nat.le_refl _, h0, fun _ _ => rfl, fun _ => rfl, fun j hj => absurd hj (Nat.not_lt_zero _)⟩)
end TYP
