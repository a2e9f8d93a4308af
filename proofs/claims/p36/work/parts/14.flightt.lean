section FLIGHTT
variable {μ : Wd}
/-- plans and flights lie apart, flights lie apart -/
theorem pf_apart {p f : Nat} (hp : Pl p) (hf : Fl f) : p + 21 ≤ f ∨ f + 17 ≤ p := by
  have h : ∀ p, p = 3 ∨ p = 58 → ∀ f ∈ flB, p + 21 ≤ f ∨ f + 17 ≤ p := by
    intro p hp
    rcases hp with rfl | rfl <;> decide +kernel
  exact h p hp f hf
theorem ff_apart {f g : Nat} (hf : Fl f) (hg : Fl g) (h : f ≠ g) : g + 17 ≤ f ∨ f + 17 ≤ g := by
  have h2 : ∀ f ∈ flB, ∀ g ∈ flB, f ≠ g → g + 17 ≤ f ∨ f + 17 ≤ g := by decide +kernel
  exact h2 f hf g hg h
theorem fl_rng {f : Nat} (hf : Fl f) : 24 ≤ f ∧ f + 17 ≤ 323 := by
  have h : ∀ f ∈ flB, 24 ≤ f ∧ f + 17 ≤ 323 := by decide +kernel
  exact h f hf
theorem nI_sub1 {n : Nat} : nI (n + 1) - 1 = nI n := by
  rw [nI_succ]
  simp
abbrev R_X1_askFor : Room := { frames := 0, cells := 0, slots := 0, locals := 0 }
abbrev RX_X1_askFor : Room := { frames := 0, cells := 1, slots := 6, locals := 0 }

theorem t_X1_askFor (hw : Wf μ) {f p U : Nat} (hf : Fl f) (hpl : Pl p) (hp : gR μ f 0 = some p) (hU : gI μ f 8 = nI U) (hU4 : U < 6) (k n : Int32) : Ct Y_X1_askFor R_X1_askFor [.ref f, .int k, .int n] μ (.inl (none)) (sI (sI (sI (sI μ (f + 13) U k) (f + 14) U n) (f + 15) U (gI μ f 2 - gI μ p 10)) f 8 (nI (U + 1))) := by
  refine Ct.ent yk_X1_askFor (Nat.le_of_ble_eq_true rfl) ?_
  have hpf := pf_apart hpl hf
  refine a_aload_n dX1_askFor_0 rfl ?_
  refine a_getI dX1_askFor_1 fs_X1_51 rfl (fl_o (by repeat (first | with_reducible exact hw | with_reducible exact hwc | with_reducible assumption | with_reducible apply Wf.sI | with_reducible apply Wf.sL | with_reducible apply Wf.cpI | with_reducible apply Wf.cpL | with_reducible apply Wf.cp2 | with_reducible apply Wf.sIs | with_reducible apply Wf.sLs | with_reducible apply Wf.cpU | with_reducible apply Wf.fillI | with_reducible apply Wf.clU | with_reducible apply Wf.dnF | with_reducible apply Wf.gbW)) hf) ?_
  refine a_bipush (6 : Int32) dX1_askFor_4 (by decide) ?_
  rw [hU]
  refine a_icmp_ge (tgt := 60) dX1_askFor_6 (by decide) (fun h6 => absurd h6 (nI_ge (a := U) (b := 6) hU4 (by decide))) (fun h6 => ?_)
  refine a_aload_n dX1_askFor_9 rfl ?_
  refine a_getR (fl_r9 (by repeat (first | with_reducible exact hw | with_reducible exact hwc | with_reducible assumption | with_reducible apply Wf.sI | with_reducible apply Wf.sL | with_reducible apply Wf.cpI | with_reducible apply Wf.cpL | with_reducible apply Wf.cp2 | with_reducible apply Wf.sIs | with_reducible apply Wf.sLs | with_reducible apply Wf.cpU | with_reducible apply Wf.fillI | with_reducible apply Wf.clU | with_reducible apply Wf.dnF | with_reducible apply Wf.gbW)) hf) dX1_askFor_10 fs_X1_30 rfl (fl_o (by repeat (first | with_reducible exact hw | with_reducible exact hwc | with_reducible assumption | with_reducible apply Wf.sI | with_reducible apply Wf.sL | with_reducible apply Wf.cpI | with_reducible apply Wf.cpL | with_reducible apply Wf.cp2 | with_reducible apply Wf.sIs | with_reducible apply Wf.sLs | with_reducible apply Wf.cpU | with_reducible apply Wf.fillI | with_reducible apply Wf.clU | with_reducible apply Wf.dnF | with_reducible apply Wf.gbW)) hf) ?_
  refine a_aload_n dX1_askFor_13 rfl ?_
  refine a_getI dX1_askFor_14 fs_X1_51 rfl (fl_o (by repeat (first | with_reducible exact hw | with_reducible exact hwc | with_reducible assumption | with_reducible apply Wf.sI | with_reducible apply Wf.sL | with_reducible apply Wf.cpI | with_reducible apply Wf.cpL | with_reducible apply Wf.cp2 | with_reducible apply Wf.sIs | with_reducible apply Wf.sLs | with_reducible apply Wf.cpU | with_reducible apply Wf.fillI | with_reducible apply Wf.clU | with_reducible apply Wf.dnF | with_reducible apply Wf.gbW)) hf) ?_
  rw [hU]
  refine a_iload_n dX1_askFor_17 rfl ?_
  refine a_ist dX1_askFor_18 (fl_a13 (by repeat (first | with_reducible exact hw | with_reducible exact hwc | with_reducible assumption | with_reducible apply Wf.sI | with_reducible apply Wf.sL | with_reducible apply Wf.cpI | with_reducible apply Wf.cpL | with_reducible apply Wf.cp2 | with_reducible apply Wf.sIs | with_reducible apply Wf.sLs | with_reducible apply Wf.cpU | with_reducible apply Wf.fillI | with_reducible apply Wf.clU | with_reducible apply Wf.dnF | with_reducible apply Wf.gbW)) hf) (ixn (by omega) (by decide)) ?_
  refine a_aload_n dX1_askFor_19 rfl ?_
  refine a_getR (fl_r10 (by repeat (first | with_reducible exact hw | with_reducible exact hwc | with_reducible assumption | with_reducible apply Wf.sI | with_reducible apply Wf.sL | with_reducible apply Wf.cpI | with_reducible apply Wf.cpL | with_reducible apply Wf.cp2 | with_reducible apply Wf.sIs | with_reducible apply Wf.sLs | with_reducible apply Wf.cpU | with_reducible apply Wf.fillI | with_reducible apply Wf.clU | with_reducible apply Wf.dnF | with_reducible apply Wf.gbW)) hf) dX1_askFor_20 fs_X1_33 rfl (fl_o (by repeat (first | with_reducible exact hw | with_reducible exact hwc | with_reducible assumption | with_reducible apply Wf.sI | with_reducible apply Wf.sL | with_reducible apply Wf.cpI | with_reducible apply Wf.cpL | with_reducible apply Wf.cp2 | with_reducible apply Wf.sIs | with_reducible apply Wf.sLs | with_reducible apply Wf.cpU | with_reducible apply Wf.fillI | with_reducible apply Wf.clU | with_reducible apply Wf.dnF | with_reducible apply Wf.gbW)) hf) ?_
  refine a_aload_n dX1_askFor_23 rfl ?_
  refine a_getI dX1_askFor_24 fs_X1_51 rfl (fl_o (by repeat (first | with_reducible exact hw | with_reducible exact hwc | with_reducible assumption | with_reducible apply Wf.sI | with_reducible apply Wf.sL | with_reducible apply Wf.cpI | with_reducible apply Wf.cpL | with_reducible apply Wf.cp2 | with_reducible apply Wf.sIs | with_reducible apply Wf.sLs | with_reducible apply Wf.cpU | with_reducible apply Wf.fillI | with_reducible apply Wf.clU | with_reducible apply Wf.dnF | with_reducible apply Wf.gbW)) hf) ?_
  repeat rw [gI_sI, if_neg (by omega)]
  rw [hU]
  refine a_iload_n dX1_askFor_27 rfl ?_
  refine a_ist dX1_askFor_28 (fl_a14 (by repeat (first | with_reducible exact hw | with_reducible exact hwc | with_reducible assumption | with_reducible apply Wf.sI | with_reducible apply Wf.sL | with_reducible apply Wf.cpI | with_reducible apply Wf.cpL | with_reducible apply Wf.cp2 | with_reducible apply Wf.sIs | with_reducible apply Wf.sLs | with_reducible apply Wf.cpU | with_reducible apply Wf.fillI | with_reducible apply Wf.clU | with_reducible apply Wf.dnF | with_reducible apply Wf.gbW)) hf) (ixn (by omega) (by decide)) ?_
  refine a_aload_n dX1_askFor_29 rfl ?_
  refine a_getR (fl_r11 (by repeat (first | with_reducible exact hw | with_reducible exact hwc | with_reducible assumption | with_reducible apply Wf.sI | with_reducible apply Wf.sL | with_reducible apply Wf.cpI | with_reducible apply Wf.cpL | with_reducible apply Wf.cp2 | with_reducible apply Wf.sIs | with_reducible apply Wf.sLs | with_reducible apply Wf.cpU | with_reducible apply Wf.fillI | with_reducible apply Wf.clU | with_reducible apply Wf.dnF | with_reducible apply Wf.gbW)) hf) dX1_askFor_30 fs_X1_36 rfl (fl_o (by repeat (first | with_reducible exact hw | with_reducible exact hwc | with_reducible assumption | with_reducible apply Wf.sI | with_reducible apply Wf.sL | with_reducible apply Wf.cpI | with_reducible apply Wf.cpL | with_reducible apply Wf.cp2 | with_reducible apply Wf.sIs | with_reducible apply Wf.sLs | with_reducible apply Wf.cpU | with_reducible apply Wf.fillI | with_reducible apply Wf.clU | with_reducible apply Wf.dnF | with_reducible apply Wf.gbW)) hf) ?_
  refine a_aload_n dX1_askFor_33 rfl ?_
  refine a_getI dX1_askFor_34 fs_X1_51 rfl (fl_o (by repeat (first | with_reducible exact hw | with_reducible exact hwc | with_reducible assumption | with_reducible apply Wf.sI | with_reducible apply Wf.sL | with_reducible apply Wf.cpI | with_reducible apply Wf.cpL | with_reducible apply Wf.cp2 | with_reducible apply Wf.sIs | with_reducible apply Wf.sLs | with_reducible apply Wf.cpU | with_reducible apply Wf.fillI | with_reducible apply Wf.clU | with_reducible apply Wf.dnF | with_reducible apply Wf.gbW)) hf) ?_
  repeat rw [gI_sI, if_neg (by omega)]
  rw [hU]
  refine a_aload_n dX1_askFor_37 rfl ?_
  refine a_getI dX1_askFor_38 fs_X1_60 rfl (fl_o (by repeat (first | with_reducible exact hw | with_reducible exact hwc | with_reducible assumption | with_reducible apply Wf.sI | with_reducible apply Wf.sL | with_reducible apply Wf.cpI | with_reducible apply Wf.cpL | with_reducible apply Wf.cp2 | with_reducible apply Wf.sIs | with_reducible apply Wf.sLs | with_reducible apply Wf.cpU | with_reducible apply Wf.fillI | with_reducible apply Wf.clU | with_reducible apply Wf.dnF | with_reducible apply Wf.gbW)) hf) ?_
  repeat rw [gI_sI, if_neg (by omega)]
  refine a_aload_n dX1_askFor_41 rfl ?_
  refine a_getR hp dX1_askFor_42 fs_X1_9 rfl (fl_o (by repeat (first | with_reducible exact hw | with_reducible exact hwc | with_reducible assumption | with_reducible apply Wf.sI | with_reducible apply Wf.sL | with_reducible apply Wf.cpI | with_reducible apply Wf.cpL | with_reducible apply Wf.cp2 | with_reducible apply Wf.sIs | with_reducible apply Wf.sLs | with_reducible apply Wf.cpU | with_reducible apply Wf.fillI | with_reducible apply Wf.clU | with_reducible apply Wf.dnF | with_reducible apply Wf.gbW)) hf) ?_
  refine a_getI dX1_askFor_45 fs_X1_148 rfl (pl_o (by repeat (first | with_reducible exact hw | with_reducible exact hwc | with_reducible assumption | with_reducible apply Wf.sI | with_reducible apply Wf.sL | with_reducible apply Wf.cpI | with_reducible apply Wf.cpL | with_reducible apply Wf.cp2 | with_reducible apply Wf.sIs | with_reducible apply Wf.sLs | with_reducible apply Wf.cpU | with_reducible apply Wf.fillI | with_reducible apply Wf.clU | with_reducible apply Wf.dnF | with_reducible apply Wf.gbW)) hpl) ?_
  repeat rw [gI_sI, if_neg (by omega)]
  refine a_isub dX1_askFor_48 ?_
  refine a_ist dX1_askFor_49 (fl_a15 (by repeat (first | with_reducible exact hw | with_reducible exact hwc | with_reducible assumption | with_reducible apply Wf.sI | with_reducible apply Wf.sL | with_reducible apply Wf.cpI | with_reducible apply Wf.cpL | with_reducible apply Wf.cp2 | with_reducible apply Wf.sIs | with_reducible apply Wf.sLs | with_reducible apply Wf.cpU | with_reducible apply Wf.fillI | with_reducible apply Wf.clU | with_reducible apply Wf.dnF | with_reducible apply Wf.gbW)) hf) (ixn (by omega) (by decide)) ?_
  refine a_aload_n dX1_askFor_50 rfl ?_
  refine a_dup dX1_askFor_51 rfl ?_
  refine a_getI dX1_askFor_52 fs_X1_51 rfl (fl_o (by repeat (first | with_reducible exact hw | with_reducible exact hwc | with_reducible assumption | with_reducible apply Wf.sI | with_reducible apply Wf.sL | with_reducible apply Wf.cpI | with_reducible apply Wf.cpL | with_reducible apply Wf.cp2 | with_reducible apply Wf.sIs | with_reducible apply Wf.sLs | with_reducible apply Wf.cpU | with_reducible apply Wf.fillI | with_reducible apply Wf.clU | with_reducible apply Wf.dnF | with_reducible apply Wf.gbW)) hf) ?_
  repeat rw [gI_sI, if_neg (by omega)]
  rw [hU]
  refine a_iconst (1 : Int32) dX1_askFor_55 (by decide) ?_
  refine a_iadd dX1_askFor_56 ?_
  rw [← nI_succ]
  refine a_putI dX1_askFor_57 fs_X1_51 rfl rfl rfl (fl_o (by repeat (first | with_reducible exact hw | with_reducible exact hwc | with_reducible assumption | with_reducible apply Wf.sI | with_reducible apply Wf.sL | with_reducible apply Wf.cpI | with_reducible apply Wf.cpL | with_reducible apply Wf.cp2 | with_reducible apply Wf.sIs | with_reducible apply Wf.sLs | with_reducible apply Wf.cpU | with_reducible apply Wf.fillI | with_reducible apply Wf.clU | with_reducible apply Wf.dnF | with_reducible apply Wf.gbW)) hf) ?_
  exact a_out rfl rfl (a_return dX1_askFor_60 rfl)
abbrev R_X1_takeOut : Room := { frames := 2, cells := 0, slots := 0, locals := 43 }
abbrev RX_X1_takeOut : Room := { frames := 2, cells := 1, slots := 6, locals := 43 }

/-- n units of meal k out of the first r trolleys, from the last on -/
def toF (f k : Nat) : Nat → Int32 → Wd → Wd
  | 0, _, μ => μ
  | r + 1, n, μ => toF f k r (n - (if gI μ (f + 5 + r) k < n then gI μ (f + 5 + r) k else n)) (sI μ (f + 5 + r) k (gI μ (f + 5 + r) k - (if gI μ (f + 5 + r) k < n then gI μ (f + 5 + r) k else n)))
theorem l_X1_takeOut {f k : Nat} (hf : Fl f) (hk : k < 12) (n0 : Int32) : ∀ (r : Nat) (n : Int32) (v5 : Value) (μ : Wd), Wf μ → r ≤ 8 → AW Y_X1_takeOut R_X1_takeOut (0, 0) μ 13 [(0, .ref f), (1, .int (nI k)), (2, .int n0), (3, .int n), (4, .int (nI r - 1))] [] (.inl none) (toF f k r n μ) := by
  intro r
  induction r with
  | zero =>
    intro n v5 μ hw hr
    refine a_iload dX1_takeOut_13 rfl ?_
    refine a_if_lt (tgt := 58) dX1_takeOut_15 (by decide) (fun h15 => ?_) (fun h15 => absurd h15 (by decide))
    exact a_out rfl rfl (a_return dX1_takeOut_58 rfl)
  | succ r ih =>
    intro n v5 μ hw hr
    rw [nI_sub1]
    refine a_iload dX1_takeOut_13 rfl ?_
    refine a_if_lt (tgt := 58) dX1_takeOut_15 (by decide) (fun h15 => absurd h15 (nI_pos (by omega))) (fun h15 => ?_)
    refine a_iload_n dX1_takeOut_18 rfl ?_
    refine a_aload_n dX1_takeOut_19 rfl ?_
    refine a_getR (fl_r7 (by repeat (first | with_reducible exact hw | with_reducible exact hwc | with_reducible assumption | with_reducible apply Wf.sI | with_reducible apply Wf.sL | with_reducible apply Wf.cpI | with_reducible apply Wf.cpL | with_reducible apply Wf.cp2 | with_reducible apply Wf.sIs | with_reducible apply Wf.sLs | with_reducible apply Wf.cpU | with_reducible apply Wf.fillI | with_reducible apply Wf.clU | with_reducible apply Wf.dnF | with_reducible apply Wf.gbW)) hf) dX1_takeOut_20 fs_X1_27 rfl (fl_o (by repeat (first | with_reducible exact hw | with_reducible exact hwc | with_reducible assumption | with_reducible apply Wf.sI | with_reducible apply Wf.sL | with_reducible apply Wf.cpI | with_reducible apply Wf.cpL | with_reducible apply Wf.cp2 | with_reducible apply Wf.sIs | with_reducible apply Wf.sLs | with_reducible apply Wf.cpU | with_reducible apply Wf.fillI | with_reducible apply Wf.clU | with_reducible apply Wf.dnF | with_reducible apply Wf.gbW)) hf) ?_
    refine a_iload dX1_takeOut_23 rfl ?_
    refine a_aald (j := r) dX1_takeOut_25 (fl_a4 (by repeat (first | with_reducible exact hw | with_reducible exact hwc | with_reducible assumption | with_reducible apply Wf.sI | with_reducible apply Wf.sL | with_reducible apply Wf.cpI | with_reducible apply Wf.cpL | with_reducible apply Wf.cp2 | with_reducible apply Wf.sIs | with_reducible apply Wf.sLs | with_reducible apply Wf.cpU | with_reducible apply Wf.fillI | with_reducible apply Wf.clU | with_reducible apply Wf.dnF | with_reducible apply Wf.gbW)) hf) (by decide) (ixn (by omega) (by decide)) (fl_ru (by repeat (first | with_reducible exact hw | with_reducible exact hwc | with_reducible assumption | with_reducible apply Wf.sI | with_reducible apply Wf.sL | with_reducible apply Wf.cpI | with_reducible apply Wf.cpL | with_reducible apply Wf.cp2 | with_reducible apply Wf.sIs | with_reducible apply Wf.sLs | with_reducible apply Wf.cpU | with_reducible apply Wf.fillI | with_reducible apply Wf.clU | with_reducible apply Wf.dnF | with_reducible apply Wf.gbW)) hf (by omega)) ?_
    refine a_iload_n dX1_takeOut_26 rfl ?_
    refine a_ild dX1_takeOut_27 (fl_u (by repeat (first | with_reducible exact hw | with_reducible exact hwc | with_reducible assumption | with_reducible apply Wf.sI | with_reducible apply Wf.sL | with_reducible apply Wf.cpI | with_reducible apply Wf.cpL | with_reducible apply Wf.cp2 | with_reducible apply Wf.sIs | with_reducible apply Wf.sLs | with_reducible apply Wf.cpU | with_reducible apply Wf.fillI | with_reducible apply Wf.clU | with_reducible apply Wf.dnF | with_reducible apply Wf.gbW)) hf (by omega)) (ixn (by omega) (by decide)) ?_
    refine a_mmin dX1_takeOut_28 ml_X1_145 (by decide) (by decide) (Nat.le_of_ble_eq_true rfl) ?_
    refine a_istore dX1_takeOut_31 (by decide) ?_
    refine a_aload_n dX1_takeOut_33 rfl ?_
    refine a_getR (fl_r7 (by repeat (first | with_reducible exact hw | with_reducible exact hwc | with_reducible assumption | with_reducible apply Wf.sI | with_reducible apply Wf.sL | with_reducible apply Wf.cpI | with_reducible apply Wf.cpL | with_reducible apply Wf.cp2 | with_reducible apply Wf.sIs | with_reducible apply Wf.sLs | with_reducible apply Wf.cpU | with_reducible apply Wf.fillI | with_reducible apply Wf.clU | with_reducible apply Wf.dnF | with_reducible apply Wf.gbW)) hf) dX1_takeOut_34 fs_X1_27 rfl (fl_o (by repeat (first | with_reducible exact hw | with_reducible exact hwc | with_reducible assumption | with_reducible apply Wf.sI | with_reducible apply Wf.sL | with_reducible apply Wf.cpI | with_reducible apply Wf.cpL | with_reducible apply Wf.cp2 | with_reducible apply Wf.sIs | with_reducible apply Wf.sLs | with_reducible apply Wf.cpU | with_reducible apply Wf.fillI | with_reducible apply Wf.clU | with_reducible apply Wf.dnF | with_reducible apply Wf.gbW)) hf) ?_
    refine a_iload dX1_takeOut_37 rfl ?_
    refine a_aald (j := r) dX1_takeOut_39 (fl_a4 (by repeat (first | with_reducible exact hw | with_reducible exact hwc | with_reducible assumption | with_reducible apply Wf.sI | with_reducible apply Wf.sL | with_reducible apply Wf.cpI | with_reducible apply Wf.cpL | with_reducible apply Wf.cp2 | with_reducible apply Wf.sIs | with_reducible apply Wf.sLs | with_reducible apply Wf.cpU | with_reducible apply Wf.fillI | with_reducible apply Wf.clU | with_reducible apply Wf.dnF | with_reducible apply Wf.gbW)) hf) (by decide) (ixn (by omega) (by decide)) (fl_ru (by repeat (first | with_reducible exact hw | with_reducible exact hwc | with_reducible assumption | with_reducible apply Wf.sI | with_reducible apply Wf.sL | with_reducible apply Wf.cpI | with_reducible apply Wf.cpL | with_reducible apply Wf.cp2 | with_reducible apply Wf.sIs | with_reducible apply Wf.sLs | with_reducible apply Wf.cpU | with_reducible apply Wf.fillI | with_reducible apply Wf.clU | with_reducible apply Wf.dnF | with_reducible apply Wf.gbW)) hf (by omega)) ?_
    refine a_iload_n dX1_takeOut_40 rfl ?_
    refine a_dup2 dX1_takeOut_41 rfl rfl ?_
    refine a_ild dX1_takeOut_42 (fl_u (by repeat (first | with_reducible exact hw | with_reducible exact hwc | with_reducible assumption | with_reducible apply Wf.sI | with_reducible apply Wf.sL | with_reducible apply Wf.cpI | with_reducible apply Wf.cpL | with_reducible apply Wf.cp2 | with_reducible apply Wf.sIs | with_reducible apply Wf.sLs | with_reducible apply Wf.cpU | with_reducible apply Wf.fillI | with_reducible apply Wf.clU | with_reducible apply Wf.dnF | with_reducible apply Wf.gbW)) hf (by omega)) (ixn (by omega) (by decide)) ?_
    refine a_iload dX1_takeOut_43 rfl ?_
    refine a_isub dX1_takeOut_45 ?_
    refine a_ist dX1_takeOut_46 (fl_u (by repeat (first | with_reducible exact hw | with_reducible exact hwc | with_reducible assumption | with_reducible apply Wf.sI | with_reducible apply Wf.sL | with_reducible apply Wf.cpI | with_reducible apply Wf.cpL | with_reducible apply Wf.cp2 | with_reducible apply Wf.sIs | with_reducible apply Wf.sLs | with_reducible apply Wf.cpU | with_reducible apply Wf.fillI | with_reducible apply Wf.clU | with_reducible apply Wf.dnF | with_reducible apply Wf.gbW)) hf (by omega)) (ixn (by omega) (by decide)) ?_
    refine a_iload_n dX1_takeOut_47 rfl ?_
    refine a_iload dX1_takeOut_48 rfl ?_
    refine a_isub dX1_takeOut_50 ?_
    refine a_istore_n dX1_takeOut_51 (by decide) ?_
    refine a_iinc (-1 : Int32) dX1_takeOut_52 (by decide) rfl (by decide) ?_
    rw [show nI r + (-1 : Int32) = nI r - 1 from (Int32.sub_eq_add_neg (nI r) 1).symm]
    refine a_goto (tgt := 13) dX1_takeOut_55 (by decide) ?_
    exact a_loc _ rfl (ih _ (.int 0) _ (Wf.sI hw) (by omega))
theorem t_X1_takeOut (hw : Wf μ) {f p T k : Nat} (hf : Fl f) (hpl : Pl p) (hp : gR μ f 0 = some p) (hT : gI μ p 5 = nI T) (hT4 : T ≤ 8) (hk : k < 12) (n : Int32) : Ct Y_X1_takeOut R_X1_takeOut [.ref f, .int (nI k), .int n] μ (.inl (none)) (toF f k T n μ) := by
  refine Ct.ent yk_X1_takeOut (Nat.le_of_ble_eq_true rfl) ?_
  refine a_iload_n dX1_takeOut_0 rfl ?_
  refine a_istore_n dX1_takeOut_1 (by decide) ?_
  refine a_aload_n dX1_takeOut_2 rfl ?_
  refine a_getR hp dX1_takeOut_3 fs_X1_9 rfl (fl_o hw hf) ?_
  refine a_getI dX1_takeOut_6 fs_X1_118 rfl (pl_o hw hpl) ?_
  rw [hT]
  refine a_iconst (1 : Int32) dX1_takeOut_9 (by decide) ?_
  refine a_isub dX1_takeOut_10 ?_
  refine a_istore dX1_takeOut_11 (by decide) ?_
  exact a_loc _ rfl (l_X1_takeOut hf hk n T n (.int 0) μ hw (by omega))
/-- W is μ, but the places S of the block at f hold what the block at g held -/
def CpW (μ W : Wd) (f g : Nat) (S : Nat → Nat → Prop) : Prop := ∀ i x, (S i x → (f ≤ i ∧ i ≤ f + 16) ∧ gI W i x = gI μ (g + (i - f)) x) ∧ (¬ S i x → gI W i x = gI μ i x)
theorem CpW.src {μ W : Wd} {f g : Nat} {S : Nat → Nat → Prop} (h : CpW μ W f g S) (hd : g + 17 ≤ f ∨ f + 17 ≤ g) {d : Nat} (hd6 : d ≤ 16) (x : Nat) : gI W (g + d) x = gI μ (g + d) x :=
  (h (g + d) x).2 (fun q => by have := ((h (g + d) x).1 q).1; omega)
theorem CpW.cpI {μ W : Wd} {f g : Nat} {S : Nat → Nat → Prop} (h : CpW μ W f g S) (hd : g + 17 ≤ f ∨ f + 17 ≤ g) {d n : Nat} (hd6 : d ≤ 16) : CpW μ (cpI W (g + d) (f + d) n) f g (fun i x => S i x ∨ (i = f + d ∧ x < n)) := fun i x => by
  rw [gI_cpI, h.src hd hd6]
  by_cases q : i = f + d ∧ x < n
  · rw [if_pos q]
    exact ⟨fun _ => ⟨by omega, by rw [show g + (i - f) = g + d by omega]⟩, fun z => absurd (Or.inr q) z⟩
  · rw [if_neg q]
    exact ⟨fun z => (h i x).1 (z.resolve_right q), fun z => (h i x).2 (fun y => z (Or.inl y))⟩
theorem CpW.cpL {μ W : Wd} {f g a c n : Nat} {S : Nat → Nat → Prop} (h : CpW μ W f g S) : CpW μ (cpL W a c n) f g S := fun i x => by
  rw [gI_cpL]
  exact h i x
theorem gR_cp2 (μ : Wd) (f g k i x : Nat) : gR (cp2 μ f g k) i x = gR μ i x := rfl
theorem gL_cp2 (μ : Wd) (f g k i x : Nat) : gL (cp2 μ f g k) i x = gL μ i x := rfl
theorem CpW.cp2 {μ W : Wd} {f g : Nat} {S : Nat → Nat → Prop} (h : CpW μ W f g S) (hd : g + 17 ≤ f ∨ f + 17 ≤ g) {k : Nat} : CpW μ (cp2 W f g k) f g (fun i x => S i x ∨ (i = f ∧ x = k)) := fun i x => by
  show (_ → _ ∧ gI (sI W f k (gI W g k)) i x = _) ∧ (_ → gI (sI W f k (gI W g k)) i x = _)
  have e2 := h.src hd (d := 0) (by omega) k
  rw [Nat.add_zero] at e2
  rw [gI_sI, e2]
  by_cases q : i = f ∧ x = k
  · rw [if_pos q]
    exact ⟨fun _ => ⟨by omega, by rw [q.1, q.2, Nat.sub_self, Nat.add_zero]⟩, fun z => absurd (Or.inr q) z⟩
  · rw [if_neg q]
    exact ⟨fun z => (h i x).1 (z.resolve_right q), fun z => (h i x).2 (fun y => z (Or.inl y))⟩
theorem CpW.cpU {μ W : Wd} {f g : Nat} {S : Nat → Nat → Prop} (h : CpW μ W f g S) (hd : g + 17 ≤ f ∨ f + 17 ≤ g) : ∀ t, t ≤ 8 → CpW μ (cpU W f g t) f g (fun i x => S i x ∨ ((f + 5 ≤ i ∧ i < f + 5 + t) ∧ x < 12))
  | 0, _ => fun i x => ⟨fun z => (h i x).1 (z.resolve_right (by omega)), fun z => (h i x).2 (fun y => z (Or.inl y))⟩
  | t + 1, ht => fun i x => by
    have q := CpW.cpI (CpW.cpU h hd t (by omega)) hd (d := 5 + t) (n := 12) (by omega)
    rw [← Nat.add_assoc, ← Nat.add_assoc] at q
    refine ⟨fun z => (q i x).1 ?_, fun z => (q i x).2 ?_⟩
    · rcases z with z | z
      · exact Or.inl (Or.inl z)
      · by_cases y : i = f + 5 + t
        · exact Or.inr ⟨y, z.2⟩
        · exact Or.inl (Or.inr (by omega))
    · rintro ((y | y) | y)
      · exact z (Or.inl y)
      · exact z (Or.inr (by omega))
      · exact z (Or.inr (by omega))
/-- the places that a copy of a flight lays -/
def sCp (f i x : Nat) : Prop := (((((((((((False ∨ (i = f ∧ x = 1)) ∨ (i = f ∧ x = 2)) ∨ (i = f ∧ x = 3)) ∨ (i = f + 1 ∧ x < 40)) ∨ (i = f + 2 ∧ x < 40)) ∨ (i = f + 3 ∧ x < 40)) ∨ ((f + 5 ≤ i ∧ i < f + 5 + 8) ∧ x < 12)) ∨ (i = f ∧ x = 8)) ∨ (i = f + 13 ∧ x < 6)) ∨ (i = f + 14 ∧ x < 6)) ∨ (i = f + 15 ∧ x < 6))
theorem CpW.ofF {μ : Wd} {f g p : Nat} (hd : g + 17 ≤ f ∨ f + 17 ≤ g) : CpW μ (cpF μ f g p) f g (sCp f) := by
  have h0 : CpW μ (cp1 μ f g p) f g (fun _ _ => False) := fun i x => ⟨fun z => z.elim, fun _ => rfl⟩
  have h1 := (((((h0.cp2 hd (k := 1)).cp2 hd (k := 2)).cp2 hd (k := 3)).cpI hd (d := 1) (n := 40) (by omega)).cpI hd (d := 2) (n := 40) (by omega)).cpI hd (d := 3) (n := 40) (by omega)
  have h2 := ((((h1.cpU hd 8 (by omega)).cp2 hd (k := 8)).cpI hd (d := 13) (n := 6) (by omega)).cpI hd (d := 14) (n := 6) (by omega)).cpI hd (d := 15) (n := 6) (by omega)
  unfold cpF cpB cpA
  exact h2.cpL
theorem cpF_out {μ : Wd} {f g p i x : Nat} (h : g + 17 ≤ f ∨ f + 17 ≤ g) (hi : i < f ∨ f + 16 < i) : gI (cpF μ f g p) i x = gI μ i x :=
  (CpW.ofF h i x).2 fun z => by
    have := ((CpW.ofF (μ := μ) (p := p) h i x).1 z).1
    omega
theorem cpF_k1 {μ : Wd} {f g p : Nat} (h : g + 17 ≤ f ∨ f + 17 ≤ g) : gI (cpF μ f g p) f 1 = gI μ g 1 := by
  have q := ((CpW.ofF (μ := μ) (p := p) h f 1).1 (Or.inl (Or.inl (Or.inl (Or.inl (Or.inl (Or.inl (Or.inl (Or.inl (Or.inl (Or.inl (Or.inr ⟨rfl, rfl⟩)))))))))))).2
  rwa [Nat.sub_self, Nat.add_zero] at q
theorem cpF_k2 {μ : Wd} {f g p : Nat} (h : g + 17 ≤ f ∨ f + 17 ≤ g) : gI (cpF μ f g p) f 2 = gI μ g 2 := by
  have q := ((CpW.ofF (μ := μ) (p := p) h f 2).1 (Or.inl (Or.inl (Or.inl (Or.inl (Or.inl (Or.inl (Or.inl (Or.inl (Or.inl (Or.inr ⟨rfl, rfl⟩))))))))))).2
  rwa [Nat.sub_self, Nat.add_zero] at q
theorem cpF_k3 {μ : Wd} {f g p : Nat} (h : g + 17 ≤ f ∨ f + 17 ≤ g) : gI (cpF μ f g p) f 3 = gI μ g 3 := by
  have q := ((CpW.ofF (μ := μ) (p := p) h f 3).1 (Or.inl (Or.inl (Or.inl (Or.inl (Or.inl (Or.inl (Or.inl (Or.inl (Or.inr ⟨rfl, rfl⟩)))))))))).2
  rwa [Nat.sub_self, Nat.add_zero] at q
theorem cpF_r1 {μ : Wd} {f g p x : Nat} (h : g + 17 ≤ f ∨ f + 17 ≤ g) (hx : x < 40) : gI (cpF μ f g p) (f + 1) x = gI μ (g + 1) x := by
  have q := ((CpW.ofF (μ := μ) (p := p) h (f + 1) x).1 (Or.inl (Or.inl (Or.inl (Or.inl (Or.inl (Or.inl (Or.inl (Or.inr ⟨rfl, hx⟩))))))))).2
  rwa [Nat.add_sub_cancel_left] at q
theorem cpF_r2 {μ : Wd} {f g p x : Nat} (h : g + 17 ≤ f ∨ f + 17 ≤ g) (hx : x < 40) : gI (cpF μ f g p) (f + 2) x = gI μ (g + 2) x := by
  have q := ((CpW.ofF (μ := μ) (p := p) h (f + 2) x).1 (Or.inl (Or.inl (Or.inl (Or.inl (Or.inl (Or.inl (Or.inr ⟨rfl, hx⟩)))))))).2
  rwa [Nat.add_sub_cancel_left] at q
theorem cpF_r3 {μ : Wd} {f g p x : Nat} (h : g + 17 ≤ f ∨ f + 17 ≤ g) (hx : x < 40) : gI (cpF μ f g p) (f + 3) x = gI μ (g + 3) x := by
  have q := ((CpW.ofF (μ := μ) (p := p) h (f + 3) x).1 (Or.inl (Or.inl (Or.inl (Or.inl (Or.inl (Or.inr ⟨rfl, hx⟩))))))).2
  rwa [Nat.add_sub_cancel_left] at q
theorem cpF_u {μ : Wd} {f g p t x : Nat} (h : g + 17 ≤ f ∨ f + 17 ≤ g) (ht : t < 8) (hx : x < 12) : gI (cpF μ f g p) (f + 5 + t) x = gI μ (g + 5 + t) x := by
  have q := ((CpW.ofF (μ := μ) (p := p) h (f + 5 + t) x).1 (Or.inl (Or.inl (Or.inl (Or.inl (Or.inr ⟨⟨by omega, by omega⟩, hx⟩)))))).2
  rwa [show g + (f + 5 + t - f) = g + 5 + t by omega] at q
theorem cpF_k8 {μ : Wd} {f g p : Nat} (h : g + 17 ≤ f ∨ f + 17 ≤ g) : gI (cpF μ f g p) f 8 = gI μ g 8 := by
  have q := ((CpW.ofF (μ := μ) (p := p) h f 8).1 (Or.inl (Or.inl (Or.inl (Or.inr ⟨rfl, rfl⟩))))).2
  rwa [Nat.sub_self, Nat.add_zero] at q
theorem cpF_r13 {μ : Wd} {f g p x : Nat} (h : g + 17 ≤ f ∨ f + 17 ≤ g) (hx : x < 6) : gI (cpF μ f g p) (f + 13) x = gI μ (g + 13) x := by
  have q := ((CpW.ofF (μ := μ) (p := p) h (f + 13) x).1 (Or.inl (Or.inl (Or.inr ⟨rfl, hx⟩)))).2
  rwa [Nat.add_sub_cancel_left] at q
theorem cpF_r14 {μ : Wd} {f g p x : Nat} (h : g + 17 ≤ f ∨ f + 17 ≤ g) (hx : x < 6) : gI (cpF μ f g p) (f + 14) x = gI μ (g + 14) x := by
  have q := ((CpW.ofF (μ := μ) (p := p) h (f + 14) x).1 (Or.inl (Or.inr ⟨rfl, hx⟩))).2
  rwa [Nat.add_sub_cancel_left] at q
theorem cpF_r15 {μ : Wd} {f g p x : Nat} (h : g + 17 ≤ f ∨ f + 17 ≤ g) (hx : x < 6) : gI (cpF μ f g p) (f + 15) x = gI μ (g + 15) x := by
  have q := ((CpW.ofF (μ := μ) (p := p) h (f + 15) x).1 (Or.inr ⟨rfl, hx⟩)).2
  rwa [Nat.add_sub_cancel_left] at q
theorem gR_cpU {μ : Wd} {f g : Nat} : ∀ (t i x : Nat), gR (cpU μ f g t) i x = gR μ i x
  | 0, _, _ => rfl
  | t + 1, i, x => by
    rw [cpU, gR_cpI]
    exact gR_cpU t i x
theorem gR_cpF (μ : Wd) (f g p i x : Nat) : gR (cpF μ f g p) i x = if i = f ∧ x = 0 then some p else gR μ i x := by
  unfold cpF cpB cpA cp1
  rw [gR_cpL, gR_cpI, gR_cpI, gR_cpI, gR_cp2, gR_cpU, gR_cpI, gR_cpI, gR_cpI, gR_cp2, gR_cp2, gR_cp2, gR_sR]
theorem gL_cpU {μ : Wd} {f g : Nat} : ∀ (t i x : Nat), gL (cpU μ f g t) i x = gL μ i x
  | 0, _, _ => rfl
  | t + 1, i, x => by
    rw [cpU, gL_cpI]
    exact gL_cpU t i x
theorem gL_cpF (μ : Wd) (f g p i x : Nat) : gL (cpF μ f g p) i x = if i = f + 16 ∧ x < 6 then gL μ (g + 16) x else gL μ i x := by
  unfold cpF cpB cpA cp1
  rw [gL_cpL, gL_cpI, gL_cpI, gL_cpI, gL_cp2, gL_cpU, gL_cpI, gL_cpI, gL_cpI, gL_cp2, gL_cp2, gL_cp2, gL_sR, gL_cpI, gL_cpI, gL_cpI, gL_cp2, gL_cpU, gL_cpI, gL_cpI, gL_cpI, gL_cp2, gL_cp2, gL_cp2, gL_sR]
theorem Wf.ofF {μ : Wd} (hw : Wf μ) {f g p : Nat} (hf : Fl f) : Wf (cpF μ f g p) := by
  have h0 := hw.sR hf.r00 (some p)
  unfold cpF cpB cpA cp1
  repeat (first | with_reducible exact h0 | with_reducible apply Wf.cpL | with_reducible apply Wf.cpI | with_reducible apply Wf.cp2 | with_reducible apply Wf.cpU)

abbrev R_X3_add : Room := { frames := 4, cells := 0, slots := 0, locals := 106 }
abbrev RX_X3_add : Room := { frames := 4, cells := 1, slots := 6, locals := 106 }

theorem mod12 {k : Nat} (h : k < 24) : nI k - nI k / 12 * 12 = nI (k % 12) := by
  have q : ∀ k, k < 24 → nI k - nI k / 12 * 12 = nI (k % 12) := by decide +kernel
  exact q k h
theorem min12 {n : Nat} (h : n ≤ 12) : (if (12 : Int32) < nI (n + 1) then (12 : Int32) else nI (n + 1)) = nI (min (n + 1) 12) := by
  have q : ∀ n, n < 13 → (if (12 : Int32) < nI (n + 1) then (12 : Int32) else nI (n + 1)) = nI (min (n + 1) 12) := by decide +kernel
  exact q n (by omega)
theorem cp82 {f p k x : Nat} (hf : Fl f) (hk12 : k < 12) (hfk : 84 + 17 * k ≠ f) : gI (cpF μ (84 + 17 * k) f p) 82 x = gI μ 82 x :=
  cpF_out (ff_apart (hist_fl hk12) hf hfk) (by omega)
theorem t_X3_add (hw : Wf μ) {f p k n : Nat} (hf : Fl f) (hfk : 84 + 17 * k ≠ f) (hp : gR μ f 0 = some p) (hs : gI μ f 1 = 0 ∨ gI μ f 1 = 1) (hk : gI μ 82 1 = nI k) (hk12 : k < 12) (hn : gI μ 82 2 = nI n) (hn12 : n ≤ 12) : Ct Y_X3_add R_X3_add [.ref 82, .ref f] μ (.inl (none)) (sI (sI (cpF μ (84 + 17 * k) f p) 82 1 (nI ((k + 1) % 12))) 82 2 (nI (min (n + 1) 12))) := by
  refine Ct.ent yk_X3_add (Nat.le_of_ble_eq_true rfl) ?_
  have hwc := hw.ofF (g := f) (p := p) (hist_fl hk12)
  refine a_aload_n dX3_add_0 rfl ?_
  refine a_getR (cr_82_0 (by repeat (first | with_reducible exact hw | with_reducible exact hwc | with_reducible assumption | with_reducible apply Wf.sI | with_reducible apply Wf.sL | with_reducible apply Wf.cpI | with_reducible apply Wf.cpL | with_reducible apply Wf.cp2 | with_reducible apply Wf.sIs | with_reducible apply Wf.sLs | with_reducible apply Wf.cpU | with_reducible apply Wf.fillI | with_reducible apply Wf.clU | with_reducible apply Wf.dnF | with_reducible apply Wf.gbW))) dX3_add_1 fs_X3_11 rfl (co_82 (by repeat (first | with_reducible exact hw | with_reducible exact hwc | with_reducible assumption | with_reducible apply Wf.sI | with_reducible apply Wf.sL | with_reducible apply Wf.cpI | with_reducible apply Wf.cpL | with_reducible apply Wf.cp2 | with_reducible apply Wf.sIs | with_reducible apply Wf.sLs | with_reducible apply Wf.cpU | with_reducible apply Wf.fillI | with_reducible apply Wf.clU | with_reducible apply Wf.dnF | with_reducible apply Wf.gbW))) ?_
  refine a_aload_n dX3_add_4 rfl ?_
  refine a_getI dX3_add_5 fs_X3_20 rfl (co_82 (by repeat (first | with_reducible exact hw | with_reducible exact hwc | with_reducible assumption | with_reducible apply Wf.sI | with_reducible apply Wf.sL | with_reducible apply Wf.cpI | with_reducible apply Wf.cpL | with_reducible apply Wf.cp2 | with_reducible apply Wf.sIs | with_reducible apply Wf.sLs | with_reducible apply Wf.cpU | with_reducible apply Wf.fillI | with_reducible apply Wf.clU | with_reducible apply Wf.dnF | with_reducible apply Wf.gbW))) ?_
  rw [hk]
  refine a_aald (j := k) dX3_add_8 (ca_83 (by repeat (first | with_reducible exact hw | with_reducible exact hwc | with_reducible assumption | with_reducible apply Wf.sI | with_reducible apply Wf.sL | with_reducible apply Wf.cpI | with_reducible apply Wf.cpL | with_reducible apply Wf.cp2 | with_reducible apply Wf.sIs | with_reducible apply Wf.sLs | with_reducible apply Wf.cpU | with_reducible apply Wf.fillI | with_reducible apply Wf.clU | with_reducible apply Wf.dnF | with_reducible apply Wf.gbW))) (by decide) (ixn (by omega) (by decide)) (hist_r (by repeat (first | with_reducible exact hw | with_reducible exact hwc | with_reducible assumption | with_reducible apply Wf.sI | with_reducible apply Wf.sL | with_reducible apply Wf.cpI | with_reducible apply Wf.cpL | with_reducible apply Wf.cp2 | with_reducible apply Wf.sIs | with_reducible apply Wf.sLs | with_reducible apply Wf.cpU | with_reducible apply Wf.fillI | with_reducible apply Wf.clU | with_reducible apply Wf.dnF | with_reducible apply Wf.gbW)) (by omega)) ?_
  refine a_aload_n dX3_add_9 rfl ?_
  refine a_inv (b2 := (0, 0)) (t_X1_copy (by repeat (first | with_reducible exact hw | with_reducible exact hwc | with_reducible assumption | with_reducible apply Wf.sI | with_reducible apply Wf.sL | with_reducible apply Wf.cpI | with_reducible apply Wf.cpL | with_reducible apply Wf.cp2 | with_reducible apply Wf.sIs | with_reducible apply Wf.sLs | with_reducible apply Wf.cpU | with_reducible apply Wf.fillI | with_reducible apply Wf.clU | with_reducible apply Wf.dnF | with_reducible apply Wf.gbW)) (hist_fl hk12) hf hfk hp hs) rfl dX3_add_10 yk_X1_copy im_X1_copy se_X1_copy ml_X3_24 rfl (fl_o (by repeat (first | with_reducible exact hw | with_reducible exact hwc | with_reducible assumption | with_reducible apply Wf.sI | with_reducible apply Wf.sL | with_reducible apply Wf.cpI | with_reducible apply Wf.cpL | with_reducible apply Wf.cp2 | with_reducible apply Wf.sIs | with_reducible apply Wf.sLs | with_reducible apply Wf.cpU | with_reducible apply Wf.fillI | with_reducible apply Wf.clU | with_reducible apply Wf.dnF | with_reducible apply Wf.gbW)) (hist_fl (by omega))) (by decide) hc_X1 (by decide) (by decide) (Nat.le_of_ble_eq_true rfl) ?_
  refine a_aload_n dX3_add_13 rfl ?_
  refine a_aload_n dX3_add_14 rfl ?_
  refine a_getI dX3_add_15 fs_X3_20 rfl (co_82 (by repeat (first | with_reducible exact hw | with_reducible exact hwc | with_reducible assumption | with_reducible apply Wf.sI | with_reducible apply Wf.sL | with_reducible apply Wf.cpI | with_reducible apply Wf.cpL | with_reducible apply Wf.cp2 | with_reducible apply Wf.sIs | with_reducible apply Wf.sLs | with_reducible apply Wf.cpU | with_reducible apply Wf.fillI | with_reducible apply Wf.clU | with_reducible apply Wf.dnF | with_reducible apply Wf.gbW))) ?_
  rw [cp82 hf hk12 hfk, hk]
  refine a_iconst (1 : Int32) dX3_add_18 (by decide) ?_
  refine a_iadd dX3_add_19 ?_
  rw [← nI_succ]
  refine a_bipush (12 : Int32) dX3_add_20 (by decide) ?_
  refine a_irem dX3_add_22 (by decide) ?_
  rw [mod12 (by omega)]
  refine a_putI dX3_add_23 fs_X3_20 rfl rfl rfl (co_82 (by repeat (first | with_reducible exact hw | with_reducible exact hwc | with_reducible assumption | with_reducible apply Wf.sI | with_reducible apply Wf.sL | with_reducible apply Wf.cpI | with_reducible apply Wf.cpL | with_reducible apply Wf.cp2 | with_reducible apply Wf.sIs | with_reducible apply Wf.sLs | with_reducible apply Wf.cpU | with_reducible apply Wf.fillI | with_reducible apply Wf.clU | with_reducible apply Wf.dnF | with_reducible apply Wf.gbW))) ?_
  refine a_aload_n dX3_add_26 rfl ?_
  refine a_aload_n dX3_add_27 rfl ?_
  refine a_getI dX3_add_28 fs_X3_28 rfl (co_82 (by repeat (first | with_reducible exact hw | with_reducible exact hwc | with_reducible assumption | with_reducible apply Wf.sI | with_reducible apply Wf.sL | with_reducible apply Wf.cpI | with_reducible apply Wf.cpL | with_reducible apply Wf.cp2 | with_reducible apply Wf.sIs | with_reducible apply Wf.sLs | with_reducible apply Wf.cpU | with_reducible apply Wf.fillI | with_reducible apply Wf.clU | with_reducible apply Wf.dnF | with_reducible apply Wf.gbW))) ?_
  rw [gI_sI, if_neg (by omega), cp82 hf hk12 hfk, hn]
  refine a_iconst (1 : Int32) dX3_add_31 (by decide) ?_
  refine a_iadd dX3_add_32 ?_
  rw [← nI_succ]
  refine a_bipush (12 : Int32) dX3_add_33 (by decide) ?_
  refine a_mmin dX3_add_35 ml_X3_31 (by decide) (by decide) (Nat.le_of_ble_eq_true rfl) ?_
  rw [min12 hn12]
  refine a_putI dX3_add_38 fs_X3_28 rfl rfl rfl (co_82 (by repeat (first | with_reducible exact hw | with_reducible exact hwc | with_reducible assumption | with_reducible apply Wf.sI | with_reducible apply Wf.sL | with_reducible apply Wf.cpI | with_reducible apply Wf.cpL | with_reducible apply Wf.cp2 | with_reducible apply Wf.sIs | with_reducible apply Wf.sLs | with_reducible apply Wf.cpU | with_reducible apply Wf.fillI | with_reducible apply Wf.clU | with_reducible apply Wf.dnF | with_reducible apply Wf.gbW))) ?_
  exact a_out rfl rfl (a_return dX3_add_41 rfl)
abbrev R_X3_takeBack : Room := { frames := 4, cells := 0, slots := 0, locals := 106 }
abbrev RX_X3_takeBack : Room := { frames := 4, cells := 1, slots := 6, locals := 106 }

theorem t_X3_takeBack (hw : Wf μ) {f p k n : Nat} (hf : Fl f) (hfk : f ≠ 84 + 17 * ((k + 11) % 12)) (hp : gR μ (84 + 17 * ((k + 11) % 12)) 0 = some p) (hs : gI μ (84 + 17 * ((k + 11) % 12)) 1 = 0 ∨ gI μ (84 + 17 * ((k + 11) % 12)) 1 = 1) (hk : gI μ 82 1 = nI k) (hk12 : k < 12) (hn : gI μ 82 2 = nI (n + 1)) (hn12 : n < 12) : Ct Y_X3_takeBack R_X3_takeBack [.ref 82, .ref f] μ (.inl (none)) (cpF (sI (sI μ 82 1 (nI ((k + 11) % 12))) 82 2 (nI n)) f (84 + 17 * ((k + 11) % 12)) p) := by
  refine Ct.ent yk_X3_takeBack (Nat.le_of_ble_eq_true rfl) ?_
  refine a_aload_n dX3_takeBack_0 rfl ?_
  refine a_aload_n dX3_takeBack_1 rfl ?_
  refine a_getI dX3_takeBack_2 fs_X3_20 rfl (co_82 (by repeat (first | with_reducible exact hw | with_reducible exact hwc | with_reducible assumption | with_reducible apply Wf.sI | with_reducible apply Wf.sL | with_reducible apply Wf.cpI | with_reducible apply Wf.cpL | with_reducible apply Wf.cp2 | with_reducible apply Wf.sIs | with_reducible apply Wf.sLs | with_reducible apply Wf.cpU | with_reducible apply Wf.fillI | with_reducible apply Wf.clU | with_reducible apply Wf.dnF | with_reducible apply Wf.gbW))) ?_
  rw [hk]
  refine a_bipush (12 : Int32) dX3_takeBack_5 (by decide) ?_
  refine a_iadd dX3_takeBack_7 ?_
  refine a_iconst (1 : Int32) dX3_takeBack_8 (by decide) ?_
  refine a_isub dX3_takeBack_9 ?_
  refine a_bipush (12 : Int32) dX3_takeBack_10 (by decide) ?_
  rw [show (nI k + 12 - 1) = nI (k + 11) by rw [show (12 : Int32) = nI 12 from rfl, nI_add, nI_sub1 (n := k + 11)]]
  refine a_irem dX3_takeBack_12 (by decide) ?_
  rw [mod12 (by omega)]
  refine a_putI dX3_takeBack_13 fs_X3_20 rfl rfl rfl (co_82 (by repeat (first | with_reducible exact hw | with_reducible exact hwc | with_reducible assumption | with_reducible apply Wf.sI | with_reducible apply Wf.sL | with_reducible apply Wf.cpI | with_reducible apply Wf.cpL | with_reducible apply Wf.cp2 | with_reducible apply Wf.sIs | with_reducible apply Wf.sLs | with_reducible apply Wf.cpU | with_reducible apply Wf.fillI | with_reducible apply Wf.clU | with_reducible apply Wf.dnF | with_reducible apply Wf.gbW))) ?_
  refine a_aload_n dX3_takeBack_16 rfl ?_
  refine a_dup dX3_takeBack_17 rfl ?_
  refine a_getI dX3_takeBack_18 fs_X3_28 rfl (co_82 (by repeat (first | with_reducible exact hw | with_reducible exact hwc | with_reducible assumption | with_reducible apply Wf.sI | with_reducible apply Wf.sL | with_reducible apply Wf.cpI | with_reducible apply Wf.cpL | with_reducible apply Wf.cp2 | with_reducible apply Wf.sIs | with_reducible apply Wf.sLs | with_reducible apply Wf.cpU | with_reducible apply Wf.fillI | with_reducible apply Wf.clU | with_reducible apply Wf.dnF | with_reducible apply Wf.gbW))) ?_
  rw [gI_sI, if_neg (by omega), hn]
  refine a_iconst (1 : Int32) dX3_takeBack_21 (by decide) ?_
  refine a_isub dX3_takeBack_22 ?_
  rw [nI_sub1]
  refine a_putI dX3_takeBack_23 fs_X3_28 rfl rfl rfl (co_82 (by repeat (first | with_reducible exact hw | with_reducible exact hwc | with_reducible assumption | with_reducible apply Wf.sI | with_reducible apply Wf.sL | with_reducible apply Wf.cpI | with_reducible apply Wf.cpL | with_reducible apply Wf.cp2 | with_reducible apply Wf.sIs | with_reducible apply Wf.sLs | with_reducible apply Wf.cpU | with_reducible apply Wf.fillI | with_reducible apply Wf.clU | with_reducible apply Wf.dnF | with_reducible apply Wf.gbW))) ?_
  refine a_aload_n dX3_takeBack_26 rfl ?_
  refine a_aload_n dX3_takeBack_27 rfl ?_
  refine a_getR (cr_82_0 (by repeat (first | with_reducible exact hw | with_reducible exact hwc | with_reducible assumption | with_reducible apply Wf.sI | with_reducible apply Wf.sL | with_reducible apply Wf.cpI | with_reducible apply Wf.cpL | with_reducible apply Wf.cp2 | with_reducible apply Wf.sIs | with_reducible apply Wf.sLs | with_reducible apply Wf.cpU | with_reducible apply Wf.fillI | with_reducible apply Wf.clU | with_reducible apply Wf.dnF | with_reducible apply Wf.gbW))) dX3_takeBack_28 fs_X3_11 rfl (co_82 (by repeat (first | with_reducible exact hw | with_reducible exact hwc | with_reducible assumption | with_reducible apply Wf.sI | with_reducible apply Wf.sL | with_reducible apply Wf.cpI | with_reducible apply Wf.cpL | with_reducible apply Wf.cp2 | with_reducible apply Wf.sIs | with_reducible apply Wf.sLs | with_reducible apply Wf.cpU | with_reducible apply Wf.fillI | with_reducible apply Wf.clU | with_reducible apply Wf.dnF | with_reducible apply Wf.gbW))) ?_
  refine a_aload_n dX3_takeBack_31 rfl ?_
  refine a_getI dX3_takeBack_32 fs_X3_20 rfl (co_82 (by repeat (first | with_reducible exact hw | with_reducible exact hwc | with_reducible assumption | with_reducible apply Wf.sI | with_reducible apply Wf.sL | with_reducible apply Wf.cpI | with_reducible apply Wf.cpL | with_reducible apply Wf.cp2 | with_reducible apply Wf.sIs | with_reducible apply Wf.sLs | with_reducible apply Wf.cpU | with_reducible apply Wf.fillI | with_reducible apply Wf.clU | with_reducible apply Wf.dnF | with_reducible apply Wf.gbW))) ?_
  rw [gI_sI, if_neg (by omega), gI_sI, if_pos (by omega)]
  refine a_aald (j := ((k + 11) % 12)) dX3_takeBack_35 (ca_83 (by repeat (first | with_reducible exact hw | with_reducible exact hwc | with_reducible assumption | with_reducible apply Wf.sI | with_reducible apply Wf.sL | with_reducible apply Wf.cpI | with_reducible apply Wf.cpL | with_reducible apply Wf.cp2 | with_reducible apply Wf.sIs | with_reducible apply Wf.sLs | with_reducible apply Wf.cpU | with_reducible apply Wf.fillI | with_reducible apply Wf.clU | with_reducible apply Wf.dnF | with_reducible apply Wf.gbW))) (by decide) (ixn (by omega) (by decide)) (hist_r (by repeat (first | with_reducible exact hw | with_reducible exact hwc | with_reducible assumption | with_reducible apply Wf.sI | with_reducible apply Wf.sL | with_reducible apply Wf.cpI | with_reducible apply Wf.cpL | with_reducible apply Wf.cp2 | with_reducible apply Wf.sIs | with_reducible apply Wf.sLs | with_reducible apply Wf.cpU | with_reducible apply Wf.fillI | with_reducible apply Wf.clU | with_reducible apply Wf.dnF | with_reducible apply Wf.gbW)) (Nat.mod_lt _ (by decide))) ?_
  refine a_inv (b2 := (0, 0)) (t_X1_copy (μ := sI (sI μ 82 1 (nI ((k + 11) % 12))) 82 2 (nI n)) (by repeat (first | with_reducible exact hw | with_reducible exact hwc | with_reducible assumption | with_reducible apply Wf.sI | with_reducible apply Wf.sL | with_reducible apply Wf.cpI | with_reducible apply Wf.cpL | with_reducible apply Wf.cp2 | with_reducible apply Wf.sIs | with_reducible apply Wf.sLs | with_reducible apply Wf.cpU | with_reducible apply Wf.fillI | with_reducible apply Wf.clU | with_reducible apply Wf.dnF | with_reducible apply Wf.gbW)) hf (hist_fl (Nat.mod_lt _ (by decide))) hfk hp (by rw [gI_sI, if_neg (by omega), gI_sI, if_neg (by omega)]; exact hs)) rfl dX3_takeBack_36 yk_X1_copy im_X1_copy se_X1_copy ml_X3_24 rfl (fl_o (by repeat (first | with_reducible exact hw | with_reducible exact hwc | with_reducible assumption | with_reducible apply Wf.sI | with_reducible apply Wf.sL | with_reducible apply Wf.cpI | with_reducible apply Wf.cpL | with_reducible apply Wf.cp2 | with_reducible apply Wf.sIs | with_reducible apply Wf.sLs | with_reducible apply Wf.cpU | with_reducible apply Wf.fillI | with_reducible apply Wf.clU | with_reducible apply Wf.dnF | with_reducible apply Wf.gbW)) hf) (by decide) hc_X1 (by decide) (by decide) (Nat.le_of_ble_eq_true rfl) ?_
  exact a_out rfl rfl (a_return dX3_takeBack_39 rfl)
end FLIGHTT
