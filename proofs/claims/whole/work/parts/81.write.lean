section WRITE
variable {μ W V : Wd} {l nm : List Nat} {r : Nat} {os : List Int32}
def wb (x : Int32) : Int32 := vp_nar .byte (x.toInt8.toInt32)
def OuV (μ : Wd) (os : List Int32) : Prop := gI μ 0 3 = nI os.length ∧ os.length ≤ 120 ∧ ∀ k, k < os.length → gI μ 2 k = os.getD k 0
def sgD (os : List Int32) (x : Int32) : List Int32 := if os.length < 120 then os ++ [wb x] else os
abbrev sOw : Nat → Prop := fun i => i = 0 ∨ i = 2
def OwQ (μ V : Wd) : Prop := Out sOw μ V ∧ (∀ k, k ≠ 3 → gI V 0 k = gI μ 0 k) ∧ ∀ k, gR V 0 k = gR μ 0 k
theorem OwQ.rfl' (hw : Wf μ) : OwQ μ μ := ⟨Out.rfl' hw, fun _ _ => rfl, fun _ => rfl⟩
theorem OwQ.trans (h1 : OwQ μ W) (h2 : OwQ W V) : OwQ μ V := ⟨h1.1.trans h2.1, fun k hk => (h2.2.1 k hk).trans (h1.2.1 k hk), fun k => (h2.2.2 k).trans (h1.2.2 k)⟩
theorem OwQ.str (h : OwQ μ V) (hs : StrV μ r nm) : StrV V r nm := hs.ex (Ex.of h.1) (fun i y => by rcases y with y | y <;> omega)
theorem sg_a (hw : Wf μ) (h : OuV μ os) (hl : os.length < 120) {x y : Int32} (hx : y = wb x) : OuV (sI (sI μ 2 os.length y) 0 3 (nI (os.length + 1))) (sgD os x) ∧ OwQ μ (sI (sI μ 2 os.length y) 0 3 (nI (os.length + 1))) := by
  have e : sgD os x = os ++ [wb x] := if_pos hl
  have el : (os ++ [wb x]).length = os.length + 1 := by simp
  refine ⟨?_, ((Out.rfl' hw).sI (S := sOw) (Or.inr rfl) _ _).sI (S := sOw) (Or.inl rfl) _ _, fun k hk => by rw [gI_sI, if_neg (by omega), gI_sI, if_neg (by omega)], fun k => by rw [gR_sI, gR_sI]⟩
  rw [e]
  refine ⟨by rw [gI_sI, if_pos ⟨rfl, rfl⟩, el], by rw [el]; omega, fun k hk => ?_⟩
  rw [el] at hk
  rw [gI_sI, if_neg (by omega), gI_sI]
  by_cases z : k = os.length
  · rw [if_pos ⟨rfl, z⟩, z, hx, List.getD_eq_getElem?_getD, List.getElem?_append_right (Nat.le_refl _), Nat.sub_self]; rfl
  · have hk2 : k < os.length := by omega
    rw [if_neg (fun y => z y.2), h.2.2 k hk2, List.getD_eq_getElem?_getD, List.getD_eq_getElem?_getD, List.getElem?_append_left hk2]
abbrev R_X10_writeSign : Room := { frames := 0, cells := 0, slots := 0, locals := 0 }
abbrev RX_X10_writeSign : Room := { frames := 0, cells := 1, slots := 6, locals := 0 }

theorem c_writeSign (hw : Wf μ) (h : OuV μ os) (x : Int32) : CV Y_X10_writeSign R_X10_writeSign [.ref 0, .int x] μ (fun v V => v = none ∧ OuV V (sgD os x) ∧ OwQ μ V) := by
  have h120 := h.2.1
  refine CV.ent yk_X10_writeSign (Nat.le_of_ble_eq_true rfl) ?_
  by_cases hl : os.length < 120
  · refine lf (a_aload_n dX10_writeSign_0 rfl) ?_
    refine lf (a_getI dX10_writeSign_1 fs_X10_417 rfl (co_0 (by repeat (first | with_reducible exact hw | with_reducible exact hwc | with_reducible assumption | with_reducible apply Wf.sI | with_reducible apply Wf.sL | with_reducible apply Wf.cpI | with_reducible apply Wf.cpL | with_reducible apply Wf.cp2 | with_reducible apply Wf.sIs | with_reducible apply Wf.sLs | with_reducible apply Wf.cpU | with_reducible apply Wf.fillI | with_reducible apply Wf.clU | with_reducible apply Wf.dnF | with_reducible apply Wf.gbW)))) ?_
    rw [h.1]
    refine lf (a_aload_n dX10_writeSign_4 rfl) ?_
    refine lf (a_getR (cr_0_2 (by repeat (first | with_reducible exact hw | with_reducible exact hwc | with_reducible assumption | with_reducible apply Wf.sI | with_reducible apply Wf.sL | with_reducible apply Wf.cpI | with_reducible apply Wf.cpL | with_reducible apply Wf.cp2 | with_reducible apply Wf.sIs | with_reducible apply Wf.sLs | with_reducible apply Wf.cpU | with_reducible apply Wf.fillI | with_reducible apply Wf.clU | with_reducible apply Wf.dnF | with_reducible apply Wf.gbW))) dX10_writeSign_5 fs_X10_13 rfl (co_0 (by repeat (first | with_reducible exact hw | with_reducible exact hwc | with_reducible assumption | with_reducible apply Wf.sI | with_reducible apply Wf.sL | with_reducible apply Wf.cpI | with_reducible apply Wf.cpL | with_reducible apply Wf.cp2 | with_reducible apply Wf.sIs | with_reducible apply Wf.sLs | with_reducible apply Wf.cpU | with_reducible apply Wf.fillI | with_reducible apply Wf.clU | with_reducible apply Wf.dnF | with_reducible apply Wf.gbW)))) ?_
    refine lf (a_alen 120 dX10_writeSign_8 (ca_2 (by repeat (first | with_reducible exact hw | with_reducible exact hwc | with_reducible assumption | with_reducible apply Wf.sI | with_reducible apply Wf.sL | with_reducible apply Wf.cpI | with_reducible apply Wf.cpL | with_reducible apply Wf.cp2 | with_reducible apply Wf.sIs | with_reducible apply Wf.sLs | with_reducible apply Wf.cpU | with_reducible apply Wf.fillI | with_reducible apply Wf.clU | with_reducible apply Wf.dnF | with_reducible apply Wf.gbW))) (by decide) rfl) ?_
    refine lf2 (a_icmp_ge (tgt := 33) dX10_writeSign_9 (by decide)) (fun h9 => absurd h9 (nI_ge (b := 120) hl (by decide))) (fun h9 => ?_)
    refine lf (a_aload_n dX10_writeSign_12 rfl) ?_
    refine lf (a_getR (cr_0_2 (by repeat (first | with_reducible exact hw | with_reducible exact hwc | with_reducible assumption | with_reducible apply Wf.sI | with_reducible apply Wf.sL | with_reducible apply Wf.cpI | with_reducible apply Wf.cpL | with_reducible apply Wf.cp2 | with_reducible apply Wf.sIs | with_reducible apply Wf.sLs | with_reducible apply Wf.cpU | with_reducible apply Wf.fillI | with_reducible apply Wf.clU | with_reducible apply Wf.dnF | with_reducible apply Wf.gbW))) dX10_writeSign_13 fs_X10_13 rfl (co_0 (by repeat (first | with_reducible exact hw | with_reducible exact hwc | with_reducible assumption | with_reducible apply Wf.sI | with_reducible apply Wf.sL | with_reducible apply Wf.cpI | with_reducible apply Wf.cpL | with_reducible apply Wf.cp2 | with_reducible apply Wf.sIs | with_reducible apply Wf.sLs | with_reducible apply Wf.cpU | with_reducible apply Wf.fillI | with_reducible apply Wf.clU | with_reducible apply Wf.dnF | with_reducible apply Wf.gbW)))) ?_
    refine lf (a_aload_n dX10_writeSign_16 rfl) ?_
    refine lf (a_getI dX10_writeSign_17 fs_X10_417 rfl (co_0 (by repeat (first | with_reducible exact hw | with_reducible exact hwc | with_reducible assumption | with_reducible apply Wf.sI | with_reducible apply Wf.sL | with_reducible apply Wf.cpI | with_reducible apply Wf.cpL | with_reducible apply Wf.cp2 | with_reducible apply Wf.sIs | with_reducible apply Wf.sLs | with_reducible apply Wf.cpU | with_reducible apply Wf.fillI | with_reducible apply Wf.clU | with_reducible apply Wf.dnF | with_reducible apply Wf.gbW)))) ?_
    rw [h.1]
    refine lf (a_iload_n dX10_writeSign_20 rfl) ?_
    refine lf (a_i2b dX10_writeSign_21) ?_
    refine lf (a_bst dX10_writeSign_22 (ca_2 (by repeat (first | with_reducible exact hw | with_reducible exact hwc | with_reducible assumption | with_reducible apply Wf.sI | with_reducible apply Wf.sL | with_reducible apply Wf.cpI | with_reducible apply Wf.cpL | with_reducible apply Wf.cp2 | with_reducible apply Wf.sIs | with_reducible apply Wf.sLs | with_reducible apply Wf.cpU | with_reducible apply Wf.fillI | with_reducible apply Wf.clU | with_reducible apply Wf.dnF | with_reducible apply Wf.gbW))) (ixn hl (by decide))) ?_
    refine lf (a_aload_n dX10_writeSign_23 rfl) ?_
    refine lf (a_dup dX10_writeSign_24 rfl) ?_
    refine lf (a_getI dX10_writeSign_25 fs_X10_417 rfl (co_0 (by repeat (first | with_reducible exact hw | with_reducible exact hwc | with_reducible assumption | with_reducible apply Wf.sI | with_reducible apply Wf.sL | with_reducible apply Wf.cpI | with_reducible apply Wf.cpL | with_reducible apply Wf.cp2 | with_reducible apply Wf.sIs | with_reducible apply Wf.sLs | with_reducible apply Wf.cpU | with_reducible apply Wf.fillI | with_reducible apply Wf.clU | with_reducible apply Wf.dnF | with_reducible apply Wf.gbW)))) ?_
    rw [gI_sI, if_neg (by omega), h.1]
    refine lf (a_iconst (1 : Int32) dX10_writeSign_28 (by decide)) ?_
    refine lf (a_iadd dX10_writeSign_29) ?_
    rw [← nI_succ]
    refine lf (a_putI dX10_writeSign_30 fs_X10_417 rfl rfl rfl (co_0 (by repeat (first | with_reducible exact hw | with_reducible exact hwc | with_reducible assumption | with_reducible apply Wf.sI | with_reducible apply Wf.sL | with_reducible apply Wf.cpI | with_reducible apply Wf.cpL | with_reducible apply Wf.cp2 | with_reducible apply Wf.sIs | with_reducible apply Wf.sLs | with_reducible apply Wf.cpU | with_reducible apply Wf.fillI | with_reducible apply Wf.clU | with_reducible apply Wf.dnF | with_reducible apply Wf.gbW)))) ?_
    refine ⟨_, _, (a_return dX10_writeSign_33 rfl), ?_⟩
    exact ⟨_, rfl, rfl, sg_a hw h hl rfl⟩
  · refine lf (a_aload_n dX10_writeSign_0 rfl) ?_
    refine lf (a_getI dX10_writeSign_1 fs_X10_417 rfl (co_0 (by repeat (first | with_reducible exact hw | with_reducible exact hwc | with_reducible assumption | with_reducible apply Wf.sI | with_reducible apply Wf.sL | with_reducible apply Wf.cpI | with_reducible apply Wf.cpL | with_reducible apply Wf.cp2 | with_reducible apply Wf.sIs | with_reducible apply Wf.sLs | with_reducible apply Wf.cpU | with_reducible apply Wf.fillI | with_reducible apply Wf.clU | with_reducible apply Wf.dnF | with_reducible apply Wf.gbW)))) ?_
    rw [h.1]
    refine lf (a_aload_n dX10_writeSign_4 rfl) ?_
    refine lf (a_getR (cr_0_2 (by repeat (first | with_reducible exact hw | with_reducible exact hwc | with_reducible assumption | with_reducible apply Wf.sI | with_reducible apply Wf.sL | with_reducible apply Wf.cpI | with_reducible apply Wf.cpL | with_reducible apply Wf.cp2 | with_reducible apply Wf.sIs | with_reducible apply Wf.sLs | with_reducible apply Wf.cpU | with_reducible apply Wf.fillI | with_reducible apply Wf.clU | with_reducible apply Wf.dnF | with_reducible apply Wf.gbW))) dX10_writeSign_5 fs_X10_13 rfl (co_0 (by repeat (first | with_reducible exact hw | with_reducible exact hwc | with_reducible assumption | with_reducible apply Wf.sI | with_reducible apply Wf.sL | with_reducible apply Wf.cpI | with_reducible apply Wf.cpL | with_reducible apply Wf.cp2 | with_reducible apply Wf.sIs | with_reducible apply Wf.sLs | with_reducible apply Wf.cpU | with_reducible apply Wf.fillI | with_reducible apply Wf.clU | with_reducible apply Wf.dnF | with_reducible apply Wf.gbW)))) ?_
    refine lf (a_alen 120 dX10_writeSign_8 (ca_2 (by repeat (first | with_reducible exact hw | with_reducible exact hwc | with_reducible assumption | with_reducible apply Wf.sI | with_reducible apply Wf.sL | with_reducible apply Wf.cpI | with_reducible apply Wf.cpL | with_reducible apply Wf.cp2 | with_reducible apply Wf.sIs | with_reducible apply Wf.sLs | with_reducible apply Wf.cpU | with_reducible apply Wf.fillI | with_reducible apply Wf.clU | with_reducible apply Wf.dnF | with_reducible apply Wf.gbW))) (by decide) rfl) ?_
    refine lf2 (a_icmp_ge (tgt := 33) dX10_writeSign_9 (by decide)) (fun h9 => ?_) (fun h9 => absurd h9 (fun z => z (nI_le (a := 120) (b := os.length) (by omega) (by omega))))
    refine ⟨_, _, (a_return dX10_writeSign_33 rfl), ?_⟩
    exact ⟨_, rfl, rfl, by rw [show sgD os x = os from if_neg hl]; exact h, OwQ.rfl' hw⟩
/-- a name's signs, the first k of them -/
def wnD (nm : List Nat) (os : List Int32) : Nat → List Int32
  | 0 => os
  | k + 1 => sgD (wnD nm os k) (nI (nm.getD k 0))
def chI (v : Int32) : Int32 := (v.toUInt32 % 65536).toInt32
def wuD (x : Int32) (nm : List Nat) (os : List Int32) : List Int32 := wnD nm (sgD (sgD (if x ≤ 9 then os else sgD os (chI (48 + x / 10))) (chI (48 + (x - (x / 10) * 10)))) 120) nm.length
abbrev R_X10_writeUnits : Room := { frames := 7, cells := 0, slots := 0, locals := 183 }
abbrev RX_X10_writeUnits : Room := { frames := 7, cells := 1, slots := 6, locals := 183 }

theorem l_X10_writeUnits_38 {x : Int32} {Q : Oc → Wd → Prop} (os : List Int32) : ∀ c k (W : Wd), k + c = nm.length → Wf W → OuV W (wnD nm os k) → StrV W r nm → (∀ V : Wd, OuV V (wnD nm os nm.length) → OwQ W V → Q (.inl none) V) →
    WP Y_X10_writeUnits R_X10_writeUnits (0, 0) W 38 [(0, .ref 0), (1, .int x), (2, .ref r), (3, .int (nI k))] [] Q := by
  intro c
  induction c with
  | zero =>
    intro k W hk hw hu hs kx
    have h60 := hs.1
    obtain rfl : k = nm.length := hk
    refine lf (a_iload_n dX10_writeUnits_38 rfl) ?_
    refine lf (a_aload_n dX10_writeUnits_39 rfl) ?_
    refine lf (a_invT (b2 := (0, 0)) hs (t_J0_length_8abf5 hs) rfl dX10_writeUnits_40 yk_J0_length_8abf5 im_J0_length_8abf5 se_J0_length_8abf5 ml_X10_434 rfl rfl (by decide) (by decide) (Nat.le_of_ble_eq_true rfl)) ?_
    refine lf2 (a_icmp_ge (tgt := 61) dX10_writeUnits_43 (by decide)) (fun h43 => ?_) (fun h43 => absurd h43 (fun z => z (nI_le (Nat.le_refl _) (by omega))))
    refine ⟨_, _, (a_return dX10_writeUnits_61 rfl), ?_⟩
    exact kx W hu (OwQ.rfl' hw)
  | succ c ih =>
    intro k W hk hw hu hs kx
    have h60 := hs.1
    refine lf (a_iload_n dX10_writeUnits_38 rfl) ?_
    refine lf (a_aload_n dX10_writeUnits_39 rfl) ?_
    refine lf (a_invT (b2 := (0, 0)) hs (t_J0_length_8abf5 hs) rfl dX10_writeUnits_40 yk_J0_length_8abf5 im_J0_length_8abf5 se_J0_length_8abf5 ml_X10_434 rfl rfl (by decide) (by decide) (Nat.le_of_ble_eq_true rfl)) ?_
    refine lf2 (a_icmp_ge (tgt := 61) dX10_writeUnits_43 (by decide)) (fun h43 => absurd h43 (nI_ge (show k < nm.length by omega) (by omega))) (fun h43 => ?_)
    refine lf (a_aload_n dX10_writeUnits_46 rfl) ?_
    refine lf (a_aload_n dX10_writeUnits_47 rfl) ?_
    refine lf (a_iload_n dX10_writeUnits_48 rfl) ?_
    refine lf (a_invT (b2 := (0, 0)) hs (t_J0_charAt_5068e hs (show k < nm.length by omega)) rfl dX10_writeUnits_49 yk_J0_charAt_5068e im_J0_charAt_5068e se_J0_charAt_5068e ml_X10_439 rfl rfl (by decide) (by decide) (Nat.le_of_ble_eq_true rfl)) ?_
    obtain ⟨v_, W52, k52, rfl, hu52, hw52⟩ := (c_writeSign hw hu (nI (nm.getD k 0)))
    have hwc := hw52.1.1
    refine lf (a_inv (b2 := (0, 0)) k52 rfl dX10_writeUnits_52 yk_X10_writeSign im_X10_writeSign se_X10_writeSign ml_X10_420 rfl (co_0 (by repeat (first | with_reducible exact hw | with_reducible exact hwc | with_reducible assumption | with_reducible apply Wf.sI | with_reducible apply Wf.sL | with_reducible apply Wf.cpI | with_reducible apply Wf.cpL | with_reducible apply Wf.cp2 | with_reducible apply Wf.sIs | with_reducible apply Wf.sLs | with_reducible apply Wf.cpU | with_reducible apply Wf.fillI | with_reducible apply Wf.clU | with_reducible apply Wf.dnF | with_reducible apply Wf.gbW))) (by decide) hc_X10 (by decide) (by decide) (Nat.le_of_ble_eq_true rfl)) ?_
    refine lf (a_iincN dX10_writeUnits_55 rfl (by decide)) ?_
    refine lf (a_goto (tgt := 38) dX10_writeUnits_58 (by decide)) ?_
    exact lf (a_loc _ rfl) (ih (k + 1) W52 (by omega) hwc hu52 (hw52.str hs) fun V k1 k2 => kx V k1 (hw52.trans k2))
theorem l_X10_writeUnits_18 {x : Int32} {Q : Oc → Wd → Prop} (hw : Wf W) (hu : OuV W os) (hs : StrV W r nm) (kx : ∀ V : Wd, OuV V (wnD nm (sgD (sgD os (chI (48 + (x - (x / 10) * 10)))) 120) nm.length) → OwQ W V → Q (.inl none) V) :
    WP Y_X10_writeUnits R_X10_writeUnits (0, 0) W 18 [(0, .ref 0), (1, .int x), (2, .ref r)] [] Q := by
  refine lf (a_aload_n dX10_writeUnits_18 rfl) ?_
  refine lf (a_bipush (48 : Int32) dX10_writeUnits_19 (by decide)) ?_
  refine lf (a_iload_n dX10_writeUnits_21 rfl) ?_
  refine lf (a_bipush (10 : Int32) dX10_writeUnits_22 (by decide)) ?_
  refine lf (a_irem dX10_writeUnits_24 (by decide)) ?_
  refine lf (a_iadd dX10_writeUnits_25) ?_
  refine lf (a_i2c dX10_writeUnits_26) ?_
  obtain ⟨v_, W27, k27, rfl, hu27, hw27⟩ := (c_writeSign hw hu (chI (48 + (x - (x / 10) * 10))))
  have hwc := hw27.1.1
  refine lf (a_inv (b2 := (0, 0)) k27 rfl dX10_writeUnits_27 yk_X10_writeSign im_X10_writeSign se_X10_writeSign ml_X10_420 rfl (co_0 (by repeat (first | with_reducible exact hw | with_reducible exact hwc | with_reducible assumption | with_reducible apply Wf.sI | with_reducible apply Wf.sL | with_reducible apply Wf.cpI | with_reducible apply Wf.cpL | with_reducible apply Wf.cp2 | with_reducible apply Wf.sIs | with_reducible apply Wf.sLs | with_reducible apply Wf.cpU | with_reducible apply Wf.fillI | with_reducible apply Wf.clU | with_reducible apply Wf.dnF | with_reducible apply Wf.gbW))) (by decide) hc_X10 (by decide) (by decide) (Nat.le_of_ble_eq_true rfl)) ?_
  refine lf (a_aload_n dX10_writeUnits_30 rfl) ?_
  refine lf (a_bipush (120 : Int32) dX10_writeUnits_31 (by decide)) ?_
  obtain ⟨v_, W33, k33, rfl, hu33, hw33⟩ := (c_writeSign hwc hu27 120)
  have hwd := hw33.1.1
  refine lf (a_inv (b2 := (0, 0)) k33 rfl dX10_writeUnits_33 yk_X10_writeSign im_X10_writeSign se_X10_writeSign ml_X10_420 rfl (co_0 (by repeat (first | with_reducible exact hw | with_reducible exact hwc | with_reducible assumption | with_reducible apply Wf.sI | with_reducible apply Wf.sL | with_reducible apply Wf.cpI | with_reducible apply Wf.cpL | with_reducible apply Wf.cp2 | with_reducible apply Wf.sIs | with_reducible apply Wf.sLs | with_reducible apply Wf.cpU | with_reducible apply Wf.fillI | with_reducible apply Wf.clU | with_reducible apply Wf.dnF | with_reducible apply Wf.gbW))) (by decide) hc_X10 (by decide) (by decide) (Nat.le_of_ble_eq_true rfl)) ?_
  refine lf (a_iconst (0 : Int32) dX10_writeUnits_36 (by decide)) ?_
  refine lf (a_istore_n dX10_writeUnits_37 (by decide)) ?_
  exact lf (a_loc [(0, .ref 0), (1, .int x), (2, .ref r), (3, .int (nI 0))] rfl) (l_X10_writeUnits_38 _ nm.length 0 W33 (Nat.zero_add _) hwd hu33 (hw33.str (hw27.str hs)) fun V k1 k2 => kx V k1 ((hw27.trans hw33).trans k2))
theorem c_writeUnits (hw : Wf μ) (hu : OuV μ os) (hs : StrV μ r nm) (x : Int32) : CV Y_X10_writeUnits R_X10_writeUnits [.ref 0, .int x, .ref r] μ (fun v V => v = none ∧ OuV V (wuD x nm os) ∧ OwQ μ V) := by
  refine CV.ent yk_X10_writeUnits (Nat.le_of_ble_eq_true rfl) ?_
  unfold wuD
  refine lf (a_iload_n dX10_writeUnits_0 rfl) ?_
  refine lf (a_bipush (9 : Int32) dX10_writeUnits_1 (by decide)) ?_
  refine lf2 (a_icmp_le (tgt := 18) dX10_writeUnits_3 (by decide)) (fun h3 => ?_) (fun h3 => ?_)
  · rw [if_pos h3]
    exact l_X10_writeUnits_18 hw hu hs fun V k1 k2 => ⟨_, rfl, rfl, k1, k2⟩
  · rw [if_neg h3]
    refine lf (a_aload_n dX10_writeUnits_6 rfl) ?_
    refine lf (a_bipush (48 : Int32) dX10_writeUnits_7 (by decide)) ?_
    refine lf (a_iload_n dX10_writeUnits_9 rfl) ?_
    refine lf (a_bipush (10 : Int32) dX10_writeUnits_10 (by decide)) ?_
    refine lf (a_idiv dX10_writeUnits_12 (by decide)) ?_
    refine lf (a_iadd dX10_writeUnits_13) ?_
    refine lf (a_i2c dX10_writeUnits_14) ?_
    obtain ⟨v_, W15, k15, rfl, hu15, hw15⟩ := (c_writeSign hw hu (chI (48 + x / 10)))
    have hwc := hw15.1.1
    refine lf (a_inv (b2 := (0, 0)) k15 rfl dX10_writeUnits_15 yk_X10_writeSign im_X10_writeSign se_X10_writeSign ml_X10_420 rfl (co_0 (by repeat (first | with_reducible exact hw | with_reducible exact hwc | with_reducible assumption | with_reducible apply Wf.sI | with_reducible apply Wf.sL | with_reducible apply Wf.cpI | with_reducible apply Wf.cpL | with_reducible apply Wf.cp2 | with_reducible apply Wf.sIs | with_reducible apply Wf.sLs | with_reducible apply Wf.cpU | with_reducible apply Wf.fillI | with_reducible apply Wf.clU | with_reducible apply Wf.dnF | with_reducible apply Wf.gbW))) (by decide) hc_X10 (by decide) (by decide) (Nat.le_of_ble_eq_true rfl)) ?_
    exact l_X10_writeUnits_18 hwc hu15 (hw15.str hs) fun V k1 k2 => ⟨_, rfl, rfl, k1, hw15.trans k2⟩
end WRITE
