section ORDER2
variable {μ : Wd} {p f : Nat} {q : PDt} {d : FDt} {W : Wd}
def up1 {α : Type} (u : Nat → α) (k : Nat) (v : α) : Nat → α := fun x => if x = k then v else u x
theorem up1_eq {α : Type} (u : Nat → α) (k : Nat) (v : α) : up1 u k v k = v := if_pos rfl
theorem up1_ne {α : Type} {u : Nat → α} {k x : Nat} {v : α} (h : x ≠ k) : up1 u k v x = u x := if_neg h
theorem FV.hi {S : Nat → Prop} (h : FV μ f p d) (ho : Out S μ W) (hs : ∀ i, S i → 323 ≤ i) : FV W f p d := h.out ho fun i a b c => by
  have := fl_ge h.fl
  have := hs i c
  omega
theorem PV.hi {S : Nat → Prop} (h : PV μ p q) (ho : Out S μ W) (hs : ∀ i, S i → 323 ≤ i) : PV W p q := h.out ho fun i a b c => by
  have := hs i c
  rcases h.pl with e | e <;> omega
/-- the units that specials take -/
def o1D (q : PDt) (d : FDt) (i : Nat) (u : Nat → Int32) : Nat → Int32 := if dF d 1 i = 0 then u else match chD q (fitD q (dF d 0 i) (dF d 1 i)) (pM q) with
  | none => u
  | some b => up1 u b (u b + 1)
/-- the shares of a menu -/
def shD (q : PDt) (c : Int32) : Int32 := itN (fun i a => a + if pF q 2 i = c then pF q 3 i else 0) 0 (pM q)
/-- the first units of a meal, its remainder -/
def fuD (q : PDt) (c w : Int32) (i : Nat) : Int32 := if pF q 2 i = c then w * pF q 3 i / shD q c else 0
def reD (q : PDt) (c w : Int32) (i : Nat) : Int32 := if pF q 2 i = c then w * pF q 3 i - (w * pF q 3 i / shD q c) * shD q c else -1
def rsD (q : PDt) (c w : Int32) (m : Nat) : Int32 := itN (fun i a => a - fuD q c w i) w m
def grD (r : Nat → Int32) : Nat → Nat
  | 0 => 0
  | n + 1 => if r (n + 1) ≤ r (grD r n) then grD r n else n + 1
theorem grD_le (r : Nat → Int32) : ∀ n, grD r n ≤ n
  | 0 => Nat.le_refl _
  | n + 1 => by
    unfold grD
    split
    · exact Nat.le_succ_of_le (grD_le r n)
    · exact Nat.le_refl _
theorem grD_congr {r r' : Nat → Int32} : ∀ {n : Nat}, (∀ i, i ≤ n → r i = r' i) → grD r n = grD r' n
  | 0, _ => rfl
  | n + 1, h => by
    have e := grD_congr (n := n) fun i hi => h i (by omega)
    have l := grD_le r' n
    unfold grD
    rw [e, h (n + 1) (by omega), h _ (show grD r' n ≤ n + 1 by omega)]
/-- n units more, by the greatest remainders of m + 1 meals -/
def dlD (m : Nat) : Nat → (Nat → Int32) → (Nat → Int32) → Nat → Int32
  | 0, u, _ => u
  | n + 1, u, r => dlD m n (up1 u (grD r m) (u (grD r m) + 1)) (up1 r (grD r m) (-1))
def diD (q : PDt) (c w : Int32) (u : Nat → Int32) : Nat → Int32 := if shD q c < 1 then u else dlD (pM q - 1) (nN (rsD q c w (pM q))) (fun i => if i < pM q then u i + fuD q c w i else u i) (reD q c w)
def waD (q : PDt) (d : FDt) (c : Nat) : Int32 := ((paD d (nI c) - spD d (nI c)) * (100 + pF q 1 c) + 99) / 100
def o2D (q : PDt) (d : FDt) (c : Nat) (u : Nat → Int32) : Nat → Int32 := if paD d (nI c) - spD d (nI c) ≤ 0 then u else diD q (nI c) (waD q d c) u
/-- the units of the order -/
def orD (q : PDt) (d : FDt) : Nat → Int32 := itN (o2D q d) (itN (o1D q d) (fun _ => 0) (dP d)) (pC q)
theorem dlD_congr {m : Nat} : ∀ {n : Nat} {u u' r r' : Nat → Int32}, m < 12 → (∀ i, i < 12 → u i = u' i) → (∀ i, i ≤ m → r i = r' i) → ∀ i, i < 12 → dlD m n u r i = dlD m n u' r' i
  | 0, _, _, _, _, _, hu, _, i, hi => hu i hi
  | n + 1, u, u', r, r', hm, hu, hr, i, hi => by
    have e := grD_congr hr
    have l := grD_le r' m
    unfold dlD
    rw [e]
    refine dlD_congr hm (fun j hj => ?_) (fun j hj => ?_) i hi
    · unfold up1; split
      · rw [hu _ (by omega)]
      · exact hu j hj
    · unfold up1; split
      · rfl
      · exact hr j hj
abbrev sO : Nat → Prop := fun i => 325 ≤ i ∧ i ≤ 326
theorem sO_hi : ∀ i, sO i → 323 ≤ i := fun i h => Nat.le_trans (by decide) h.1
theorem sO5 : sO 325 := ⟨by decide, by decide⟩
theorem sO6 : sO 326 := ⟨by decide, by decide⟩
theorem nN_pos {x : Int32} (h : ¬ x ≤ 0) : ∃ n, nN x = n + 1 ∧ x = nI (n + 1) ∧ n + 1 < 2 ^ 31 := by
  have h1 : ¬ x < 0 := fun q => h (Int32.le_of_lt q)
  obtain ⟨j, hj, rfl⟩ := nI_of h1
  cases j with
  | zero => exact absurd (Int32.le_refl _) h
  | succ j => exact ⟨j, nN_nI hj, rfl, hj⟩
theorem nN_neg {x : Int32} (h : x ≤ 0) : nN x = 0 := by
  have h2 := Int32.le_iff_toInt_le.mp h
  have h3 : (0 : Int32).toInt = 0 := rfl
  unfold nN
  show x.toInt.toNat = 0
  omega

abbrev R_X6_greatestRemainder : Room := { frames := 0, cells := 0, slots := 0, locals := 0 }
abbrev RX_X6_greatestRemainder : Room := { frames := 0, cells := 1, slots := 6, locals := 0 }

theorem l_X6_greatestRemainder_4 (hw : Wf μ) {r : Nat → Int32} {M : Nat} (hM : M ≤ 12) (hr : ∀ i, i < 12 → gI μ 326 i = r i) {o : Oc} {μ1 : Wd} (kx : AW Y_X6_greatestRemainder R_X6_greatestRemainder (0, 0) μ 32 [(0, .ref 324), (1, .int (nI M)), (2, .int (nI (grD r (M - 1)))), (3, .int (nI (max 1 M)))] [] o μ1) : ∀ d m, (m + 1) + d = max 1 M → AW Y_X6_greatestRemainder R_X6_greatestRemainder (0, 0) μ 4 [(0, .ref 324), (1, .int (nI M)), (2, .int (nI (grD r m))), (3, .int (nI (m + 1)))] [] o μ1 := by
  intro d
  induction d with
  | zero =>
    intro m hm
    obtain rfl : m = M - 1 := by omega
    rw [show max 1 M = M - 1 + 1 by omega] at kx
    refine a_iload_n dX6_greatestRemainder_4 rfl ?_
    refine a_iload_n dX6_greatestRemainder_5 rfl ?_
    refine a_icmp_ge (tgt := 32) dX6_greatestRemainder_6 (by decide) (fun h6 => ?_) (fun h6 => absurd h6 (fun z => z (nI_le (by omega) (by omega))))
    exact a_loc _ rfl kx
  | succ d ih =>
    intro m hm
    have z := ih (m + 1) (by omega)
    have l := grD_le r m
    unfold grD at z
    refine a_iload_n dX6_greatestRemainder_4 rfl ?_
    refine a_iload_n dX6_greatestRemainder_5 rfl ?_
    refine a_icmp_ge (tgt := 32) dX6_greatestRemainder_6 (by decide) (fun h6 => absurd h6 (nI_ge (by omega) (by omega))) (fun h6 => ?_)
    refine a_aload_n dX6_greatestRemainder_9 rfl ?_
    refine a_getR (cr_324_1 hw) dX6_greatestRemainder_10 fs_X6_15 rfl (co_324 hw) ?_
    refine a_iload_n dX6_greatestRemainder_13 rfl ?_
    refine a_ild dX6_greatestRemainder_14 (ca_326 hw) (ixn (show m + 1 < 12 by omega) (by decide)) ?_
    rw [hr _ (by omega)]
    refine a_aload_n dX6_greatestRemainder_15 rfl ?_
    refine a_getR (cr_324_1 hw) dX6_greatestRemainder_16 fs_X6_15 rfl (co_324 hw) ?_
    refine a_iload_n dX6_greatestRemainder_19 rfl ?_
    refine a_ild dX6_greatestRemainder_20 (ca_326 hw) (ixn (by omega) (by decide)) ?_
    rw [hr _ (by omega)]
    refine a_icmp_le (tgt := 26) dX6_greatestRemainder_21 (by decide) (fun h21 => ?_) (fun h21 => ?_)
    · rw [if_pos h21] at z
      refine a_iincN dX6_greatestRemainder_26 rfl (by decide) ?_
      refine a_goto (tgt := 4) dX6_greatestRemainder_29 (by decide) ?_
      exact a_loc _ rfl z
    · rw [if_neg h21] at z
      refine a_iload_n dX6_greatestRemainder_24 rfl ?_
      refine a_istore_n dX6_greatestRemainder_25 (by decide) ?_
      refine a_iincN dX6_greatestRemainder_26 rfl (by decide) ?_
      refine a_goto (tgt := 4) dX6_greatestRemainder_29 (by decide) ?_
      exact a_loc _ rfl z
theorem t_X6_greatestRemainder (hw : Wf μ) {r : Nat → Int32} {M : Nat} (hM : M ≤ 12) (hr : ∀ i, i < 12 → gI μ 326 i = r i) : Ct Y_X6_greatestRemainder R_X6_greatestRemainder [.ref 324, .int (nI M)] μ (.inl (some (.int (nI (grD r (M - 1)))))) μ := by
  refine Ct.ent yk_X6_greatestRemainder (Nat.le_of_ble_eq_true rfl) ?_
  refine a_iconst (0 : Int32) dX6_greatestRemainder_0 (by decide) ?_
  refine a_istore_n dX6_greatestRemainder_1 (by decide) ?_
  refine a_iconst (1 : Int32) dX6_greatestRemainder_2 (by decide) ?_
  refine a_istore_n dX6_greatestRemainder_3 (by decide) ?_
  refine a_loc [(0, .ref 324), (1, .int (nI M)), (2, .int (nI (grD r 0))), (3, .int (nI (0 + 1)))] rfl ?_
  refine l_X6_greatestRemainder_4 hw hM hr ?_ (max 1 M - 1) 0 (by omega)
  exact a_out rfl rfl (a_iload_n dX6_greatestRemainder_32 rfl (a_ireturn dX6_greatestRemainder_33 rfl rfl))
abbrev R_X6_allUnits : Room := { frames := 0, cells := 0, slots := 0, locals := 0 }
abbrev RX_X6_allUnits : Room := { frames := 0, cells := 1, slots := 6, locals := 0 }

theorem l_X6_allUnits_4 (hw : Wf μ) {u : Nat → Int32} (hu : ∀ i, i < 12 → gI μ 325 i = u i) {o : Oc} {μ1 : Wd} (kx : AW Y_X6_allUnits R_X6_allUnits (0, 0) μ 25 [(0, .ref 324), (1, .int (itN (fun i a => a + u i) 0 12)), (2, .int (nI 12))] [] o μ1) : ∀ d m, m + d = 12 → AW Y_X6_allUnits R_X6_allUnits (0, 0) μ 4 [(0, .ref 324), (1, .int (itN (fun i a => a + u i) 0 m)), (2, .int (nI m))] [] o μ1 := by
  intro d
  induction d with
  | zero =>
    intro m hm
    obtain rfl : m = 12 := by omega
    refine a_iload_n dX6_allUnits_4 rfl ?_
    refine a_bipush (12 : Int32) dX6_allUnits_5 (by decide) ?_
    refine a_icmp_ge (tgt := 25) dX6_allUnits_7 (by decide) (fun h7 => ?_) (fun h7 => absurd h7 (fun z => z (nI_le (Nat.le_refl 12) (by decide))))
    exact a_loc _ rfl kx
  | succ d ih =>
    intro m hm
    have z := ih (m + 1) (by omega)
    rw [itN_succ] at z
    refine a_iload_n dX6_allUnits_4 rfl ?_
    refine a_bipush (12 : Int32) dX6_allUnits_5 (by decide) ?_
    refine a_icmp_ge (tgt := 25) dX6_allUnits_7 (by decide) (fun h7 => absurd h7 (nI_ge (show m < 12 by omega) (by decide))) (fun h7 => ?_)
    refine a_iload_n dX6_allUnits_10 rfl ?_
    refine a_aload_n dX6_allUnits_11 rfl ?_
    refine a_getR (cr_324_0 hw) dX6_allUnits_12 fs_X6_9 rfl (co_324 hw) ?_
    refine a_iload_n dX6_allUnits_15 rfl ?_
    refine a_ild dX6_allUnits_16 (ca_325 hw) (ixn (by omega) (by decide)) ?_
    rw [hu _ (by omega)]
    refine a_iadd dX6_allUnits_17 ?_
    refine a_istore_n dX6_allUnits_18 (by decide) ?_
    refine a_iincN dX6_allUnits_19 rfl (by decide) ?_
    refine a_goto (tgt := 4) dX6_allUnits_22 (by decide) ?_
    exact a_loc _ rfl z
theorem t_X6_allUnits (hw : Wf μ) {u : Nat → Int32} (hu : ∀ i, i < 12 → gI μ 325 i = u i) : Ct Y_X6_allUnits R_X6_allUnits [.ref 324] μ (.inl (some (.int (itN (fun i a => a + u i) 0 12)))) μ := by
  refine Ct.ent yk_X6_allUnits (Nat.le_of_ble_eq_true rfl) ?_
  refine a_iconst (0 : Int32) dX6_allUnits_0 (by decide) ?_
  refine a_istore_n dX6_allUnits_1 (by decide) ?_
  refine a_iconst (0 : Int32) dX6_allUnits_2 (by decide) ?_
  refine a_istore_n dX6_allUnits_3 (by decide) ?_
  refine a_loc [(0, .ref 324), (1, .int (itN (fun i a => a + u i) 0 0)), (2, .int (nI 0))] rfl ?_
  refine l_X6_allUnits_4 hw hu ?_ 12 0 (by omega)
  exact a_out rfl rfl (a_iload_n dX6_allUnits_25 rfl (a_ireturn dX6_allUnits_26 rfl rfl))
abbrev R_X6_slotsOfMenu : Room := { frames := 0, cells := 0, slots := 0, locals := 0 }
abbrev RX_X6_slotsOfMenu : Room := { frames := 0, cells := 1, slots := 6, locals := 0 }

theorem l_X6_slotsOfMenu_5 (hw : Wf μ) (hq : PV μ p q) {u : Nat → Int32} (hu : ∀ i, i < 12 → gI μ 325 i = u i) (c : Int32) {o : Oc} {μ1 : Wd} (kx : AW Y_X6_slotsOfMenu R_X6_slotsOfMenu (0, 0) μ 55 [(0, .ref 324), (1, .ref p), (2, .int c), (3, .int (itN (fun i a => if pF q 2 i = c then a + u i * pF q 4 i else a) 0 (pM q))), (4, .int (nI (pM q)))] [] o μ1) : ∀ d m, m + d = pM q → AW Y_X6_slotsOfMenu R_X6_slotsOfMenu (0, 0) μ 5 [(0, .ref 324), (1, .ref p), (2, .int c), (3, .int (itN (fun i a => if pF q 2 i = c then a + u i * pF q 4 i else a) 0 m)), (4, .int (nI m))] [] o μ1 := by
  have hM4 := hq.M4
  have hp := hq.pl
  intro d
  induction d with
  | zero =>
    intro m hm
    obtain rfl : m = pM q := by omega
    refine a_iload dX6_slotsOfMenu_5 rfl ?_
    refine a_aload_n dX6_slotsOfMenu_7 rfl ?_
    refine a_getI dX6_slotsOfMenu_8 fs_X6_65 rfl (pl_o hw hp) ?_
    rw [hq.hM]
    refine a_icmp_ge (tgt := 55) dX6_slotsOfMenu_11 (by decide) (fun h11 => ?_) (fun h11 => absurd h11 (fun z => z (nI_le (Nat.le_refl _) (by omega))))
    exact a_loc _ rfl kx
  | succ d ih =>
    intro m hm
    have z := ih (m + 1) (by omega)
    rw [itN_succ] at z
    refine a_iload dX6_slotsOfMenu_5 rfl ?_
    refine a_aload_n dX6_slotsOfMenu_7 rfl ?_
    refine a_getI dX6_slotsOfMenu_8 fs_X6_65 rfl (pl_o hw hp) ?_
    rw [hq.hM]
    refine a_icmp_ge (tgt := 55) dX6_slotsOfMenu_11 (by decide) (fun h11 => absurd h11 (nI_ge (by omega) (by omega))) (fun h11 => ?_)
    refine a_aload_n dX6_slotsOfMenu_14 rfl ?_
    refine a_getR (pl_r4 hw hp) dX6_slotsOfMenu_15 fs_X6_68 rfl (pl_o hw hp) ?_
    refine a_iload dX6_slotsOfMenu_18 rfl ?_
    refine a_aald (j := m) dX6_slotsOfMenu_20 (pl_a6 hw hp) (by decide) (ixn (by omega) (by decide)) (pl_rm hw hp (by omega)) ?_
    refine a_getI dX6_slotsOfMenu_21 fs_X6_72 rfl (pl_m hw hp (by omega)) ?_
    rw [hq.m1 (by omega)]
    refine a_iload_n dX6_slotsOfMenu_24 rfl ?_
    refine a_icmp_ne (tgt := 49) dX6_slotsOfMenu_25 (by decide) (fun h25 => ?_) (fun h25 => ?_)
    · refine a_iincN dX6_slotsOfMenu_49 rfl (by decide) ?_
      refine a_goto (tgt := 5) dX6_slotsOfMenu_52 (by decide) ?_
      simp_all only [if_true, if_false, not_true_eq_false, not_false_eq_true, ne_eq, Classical.not_not]
      exact a_loc _ rfl z
    · refine a_iload_n dX6_slotsOfMenu_28 rfl ?_
      refine a_aload_n dX6_slotsOfMenu_29 rfl ?_
      refine a_getR (cr_324_0 hw) dX6_slotsOfMenu_30 fs_X6_9 rfl (co_324 hw) ?_
      refine a_iload dX6_slotsOfMenu_33 rfl ?_
      refine a_ild dX6_slotsOfMenu_35 (ca_325 hw) (ixn (by omega) (by decide)) ?_
      rw [hu _ (by omega)]
      refine a_aload_n dX6_slotsOfMenu_36 rfl ?_
      refine a_getR (pl_r4 hw hp) dX6_slotsOfMenu_37 fs_X6_68 rfl (pl_o hw hp) ?_
      refine a_iload dX6_slotsOfMenu_40 rfl ?_
      refine a_aald (j := m) dX6_slotsOfMenu_42 (pl_a6 hw hp) (by decide) (ixn (by omega) (by decide)) (pl_rm hw hp (by omega)) ?_
      refine a_getI dX6_slotsOfMenu_43 fs_X6_82 rfl (pl_m hw hp (by omega)) ?_
      rw [hq.m3 (by omega)]
      refine a_imul dX6_slotsOfMenu_46 ?_
      refine a_iadd dX6_slotsOfMenu_47 ?_
      refine a_istore_n dX6_slotsOfMenu_48 (by decide) ?_
      refine a_iincN dX6_slotsOfMenu_49 rfl (by decide) ?_
      refine a_goto (tgt := 5) dX6_slotsOfMenu_52 (by decide) ?_
      simp_all only [if_true, if_false, not_true_eq_false, not_false_eq_true, ne_eq, Classical.not_not]
      exact a_loc _ rfl z
theorem t_X6_slotsOfMenu (hw : Wf μ) (hq : PV μ p q) {u : Nat → Int32} (hu : ∀ i, i < 12 → gI μ 325 i = u i) (c : Int32) : Ct Y_X6_slotsOfMenu R_X6_slotsOfMenu [.ref 324, .ref p, .int c] μ (.inl (some (.int (itN (fun i a => if pF q 2 i = c then a + u i * pF q 4 i else a) 0 (pM q))))) μ := by
  refine Ct.ent yk_X6_slotsOfMenu (Nat.le_of_ble_eq_true rfl) ?_
  refine a_iconst (0 : Int32) dX6_slotsOfMenu_0 (by decide) ?_
  refine a_istore_n dX6_slotsOfMenu_1 (by decide) ?_
  refine a_iconst (0 : Int32) dX6_slotsOfMenu_2 (by decide) ?_
  refine a_istore dX6_slotsOfMenu_3 (by decide) ?_
  refine a_loc [(0, .ref 324), (1, .ref p), (2, .int c), (3, .int (itN (fun i a => if pF q 2 i = c then a + u i * pF q 4 i else a) 0 0)), (4, .int (nI 0))] rfl ?_
  refine l_X6_slotsOfMenu_5 hw hq hu c ?_ (pM q) 0 (by omega)
  exact a_out rfl rfl (a_iload_n dX6_slotsOfMenu_55 rfl (a_ireturn dX6_slotsOfMenu_56 rfl rfl))
end ORDER2
