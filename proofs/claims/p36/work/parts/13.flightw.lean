section FLIGHTS
variable {μ : Wd}
abbrev R_J7_fill_53178 : Room := { frames := 0, cells := 0, slots := 0, locals := 0 }
abbrev RX_J7_fill_53178 : Room := { frames := 0, cells := 1, slots := 6, locals := 0 }

/-- v in the first n places -/
def fillI (μ : Wd) (a n : Nat) (v : Int32) : Wd := sIs μ (fun i k => if i = a ∧ k < n then v else gI μ i k)
theorem gI_fillI (μ : Wd) (a n : Nat) (v : Int32) (i k : Nat) : gI (fillI μ a n v) i k = if i = a ∧ k < n then v else gI μ i k := rfl
theorem gL_fillI (μ : Wd) (a n : Nat) (v : Int32) (i k : Nat) : gL (fillI μ a n v) i k = gL μ i k := rfl
theorem gR_fillI (μ : Wd) (a n : Nat) (v : Int32) (i k : Nat) : gR (fillI μ a n v) i k = gR μ i k := rfl
theorem Wf.fillI {μ : Wd} (hw : Wf μ) {a n : Nat} {v : Int32} : Wf (fillI μ a n v) := hw
theorem sIs_ext {μ : Wd} {f g : Nat → Nat → Int32} (h : ∀ i k, f i k = g i k) : sIs μ f = sIs μ g := congrArg (sIs μ) (funext fun i => funext fun k => h i k)
theorem fill_zero (μ : Wd) (a : Nat) (v : Int32) : μ = fillI μ a 0 v := by
  have h : sIs μ (gI μ) = fillI μ a 0 v := sIs_ext fun i k => by simp
  exact h
theorem fill_succ (μ : Wd) (a m : Nat) (v : Int32) : sI (fillI μ a m v) a m v = fillI μ a (m + 1) v := by
  have h : sIs μ (up2 (gI (fillI μ a m v)) a m v) = fillI μ a (m + 1) v := sIs_ext fun i k => by
    unfold up2
    rw [gI_fillI]
    by_cases h1 : i = a
    · by_cases h2 : k = m
      · simp [h1, h2]
      · simp only [h1, h2, true_and, and_false, if_false]
        by_cases h3 : k < m
        · rw [if_pos h3, if_pos (by omega)]
        · rw [if_neg h3, if_neg (by omega)]
    · simp [h1]
  exact h
theorem l_J7_fill_53178_5 {a n : Nat} (ho : Ar μ a 20 n) (hn : n ≤ 4096) (v : Int32) {o : Oc} {μ1 : Wd} (kx : AW Y_J7_fill_53178 R_J7_fill_53178 (0, 0) (fillI μ a n v) 20 [(0, .ref a), (1, .int v), (2, .int (nI n)), (3, .int (nI n))] [] o μ1) : ∀ d m, m + d = n → AW Y_J7_fill_53178 R_J7_fill_53178 (0, 0) (fillI μ a m v) 5 [(0, .ref a), (1, .int v), (2, .int (nI m)), (3, .int (nI n))] [] o μ1 := by
  intro d
  induction d with
  | zero =>
    intro m hm
    obtain rfl : n = m := by omega
    refine a_iload_n dJ7_fill_53178_5 rfl ?_
    refine a_iload_n dJ7_fill_53178_6 rfl ?_
    refine a_icmp_ge (tgt := 20) dJ7_fill_53178_7 (by decide) (fun h7 => ?_) (fun h7 => absurd h7 (fun q => q (nI_le (by omega) (by omega))))
    exact a_loc _ rfl kx
  | succ d ih =>
    intro m hm
    refine a_iload_n dJ7_fill_53178_5 rfl ?_
    refine a_iload_n dJ7_fill_53178_6 rfl ?_
    refine a_icmp_ge (tgt := 20) dJ7_fill_53178_7 (by decide) (fun h7 => absurd h7 (nI_ge (by omega) (by omega))) (fun h7 => ?_)
    refine a_aload_n dJ7_fill_53178_10 rfl ?_
    refine a_iload_n dJ7_fill_53178_11 rfl ?_
    refine a_iload_n dJ7_fill_53178_12 rfl ?_
    refine a_ist dJ7_fill_53178_13 ho (ixn (by omega) hn) ?_
    refine a_iincN dJ7_fill_53178_14 rfl (by decide) ?_
    refine a_goto (tgt := 5) dJ7_fill_53178_17 (by decide) ?_
    rw [fill_succ]
    exact a_loc _ rfl (ih (m + 1) (by omega))
theorem t_J7_fill_53178 {a n : Nat} (ho : Ar μ a 20 n) (hn : n ≤ 4096) (v : Int32) : Ct Y_J7_fill_53178 R_J7_fill_53178 [.ref a, .int v] μ (.inl none) (fillI μ a n v) := by
  refine Ct.ent yk_J7_fill_53178 (Nat.le_of_ble_eq_true rfl) ?_
  refine a_iconst (0 : Int32) dJ7_fill_53178_0 (by decide) ?_
  refine a_istore_n dJ7_fill_53178_1 (by decide) ?_
  refine a_aload_n dJ7_fill_53178_2 rfl ?_
  refine a_alen (nI n) dJ7_fill_53178_3 ho (by decide) rfl ?_
  refine a_istore_n dJ7_fill_53178_4 (by decide) ?_
  refine a_wd (fill_zero μ a v) ?_
  refine a_loc [(0, .ref a), (1, .int v), (2, .int (nI 0)), (3, .int (nI n))] rfl ?_
  refine l_J7_fill_53178_5 ho hn v ?_ n 0 (by omega)
  exact a_out rfl rfl (a_return dJ7_fill_53178_20 rfl)
abbrev R_X1_clear : Room := { frames := 1, cells := 0, slots := 0, locals := 23 }
abbrev RX_X1_clear : Room := { frames := 1, cells := 1, slots := 6, locals := 23 }

/-- the first t trolleys emptied -/
def clU (μ : Wd) (f : Nat) : Nat → Wd
  | 0 => μ
  | t + 1 => fillI (clU μ f t) (f + 5 + t) 12 0
theorem Wf.clU {μ : Wd} (hw : Wf μ) {f : Nat} : ∀ {t}, Wf (clU μ f t)
  | 0 => hw
  | t + 1 => Wf.clU (t := t) hw
theorem Ar.fillI {μ : Wd} {a t n c m : Nat} {v : Int32} (h : Ar μ a t n) : Ar (fillI μ c m v) a t n := h
theorem l_X1_clear_22 (hw : Wf μ) {f q : Nat} (hf : Fl f) {o : Oc} {μ1 : Wd} (kx : AW Y_X1_clear R_X1_clear (0, 0) (clU μ f 8) 44 [(0, .ref f), (1, .ref q), (2, .int (nI 8))] [] o μ1) : ∀ d m, m + d = 8 → AW Y_X1_clear R_X1_clear (0, 0) (clU μ f m) 22 [(0, .ref f), (1, .ref q), (2, .int (nI m))] [] o μ1 := by
  intro d
  induction d with
  | zero =>
    intro m hm
    obtain rfl : 8 = m := by omega
    have hw := hw.clU (f := f) (t := 8)
    refine a_iload_n dX1_clear_22 rfl ?_
    refine a_bipush (8 : Int32) dX1_clear_23 (by decide) ?_
    refine a_icmp_ge (tgt := 44) dX1_clear_25 (by decide) (fun h25 => ?_) (fun h25 => absurd h25 (fun q => q (by decide)))
    exact a_loc _ rfl kx
  | succ d ih =>
    intro m hm
    have hw := hw.clU (f := f) (t := m)
    refine a_iload_n dX1_clear_22 rfl ?_
    refine a_bipush (8 : Int32) dX1_clear_23 (by decide) ?_
    refine a_icmp_ge (tgt := 44) dX1_clear_25 (by decide) (fun h25 => absurd h25 (by rw [show (8 : Int32) = nI 8 from rfl]; exact nI_ge (by omega) (by omega))) (fun h25 => ?_)
    refine a_aload_n dX1_clear_28 rfl ?_
    refine a_getR (fl_r7 (by repeat (first | with_reducible exact hw | with_reducible exact hwc | with_reducible assumption | with_reducible apply Wf.sI | with_reducible apply Wf.sL | with_reducible apply Wf.cpI | with_reducible apply Wf.cpL | with_reducible apply Wf.cp2 | with_reducible apply Wf.sIs | with_reducible apply Wf.sLs | with_reducible apply Wf.cpU | with_reducible apply Wf.fillI | with_reducible apply Wf.clU | with_reducible apply Wf.dnF | with_reducible apply Wf.gbW)) hf) dX1_clear_29 fs_X1_27 rfl (fl_o (by repeat (first | with_reducible exact hw | with_reducible exact hwc | with_reducible assumption | with_reducible apply Wf.sI | with_reducible apply Wf.sL | with_reducible apply Wf.cpI | with_reducible apply Wf.cpL | with_reducible apply Wf.cp2 | with_reducible apply Wf.sIs | with_reducible apply Wf.sLs | with_reducible apply Wf.cpU | with_reducible apply Wf.fillI | with_reducible apply Wf.clU | with_reducible apply Wf.dnF | with_reducible apply Wf.gbW)) hf) ?_
    refine a_iload_n dX1_clear_32 rfl ?_
    refine a_aald (j := m) dX1_clear_33 (fl_a4 (by repeat (first | with_reducible exact hw | with_reducible exact hwc | with_reducible assumption | with_reducible apply Wf.sI | with_reducible apply Wf.sL | with_reducible apply Wf.cpI | with_reducible apply Wf.cpL | with_reducible apply Wf.cp2 | with_reducible apply Wf.sIs | with_reducible apply Wf.sLs | with_reducible apply Wf.cpU | with_reducible apply Wf.fillI | with_reducible apply Wf.clU | with_reducible apply Wf.dnF | with_reducible apply Wf.gbW)) hf) (by decide) (ixn (by omega) (by decide)) (fl_ru (by repeat (first | with_reducible exact hw | with_reducible exact hwc | with_reducible assumption | with_reducible apply Wf.sI | with_reducible apply Wf.sL | with_reducible apply Wf.cpI | with_reducible apply Wf.cpL | with_reducible apply Wf.cp2 | with_reducible apply Wf.sIs | with_reducible apply Wf.sLs | with_reducible apply Wf.cpU | with_reducible apply Wf.fillI | with_reducible apply Wf.clU | with_reducible apply Wf.dnF | with_reducible apply Wf.gbW)) hf (by omega)) ?_
    refine a_iconst (0 : Int32) dX1_clear_34 (by decide) ?_
    refine a_invS (b2 := (0, 0)) (t_J7_fill_53178 (fl_u (by repeat (first | with_reducible exact hw | with_reducible exact hwc | with_reducible assumption | with_reducible apply Wf.sI | with_reducible apply Wf.sL | with_reducible apply Wf.cpI | with_reducible apply Wf.cpL | with_reducible apply Wf.cp2 | with_reducible apply Wf.sIs | with_reducible apply Wf.sLs | with_reducible apply Wf.cpU | with_reducible apply Wf.fillI | with_reducible apply Wf.clU | with_reducible apply Wf.dnF | with_reducible apply Wf.gbW)) hf (by omega)) (by decide) 0) rfl dX1_clear_35 yk_J7_fill_53178 sm_J7_fill_53178 ml_X1_54 rfl (by decide) (by decide) (Nat.le_of_ble_eq_true rfl) ?_
    refine a_iincN dX1_clear_38 rfl (by decide) ?_
    refine a_goto (tgt := 22) dX1_clear_41 (by decide) ?_
    exact a_loc _ rfl (ih (m + 1) (by omega))
theorem t_X1_clear (hw : Wf μ) {f q : Nat} (hf : Fl f) : Ct Y_X1_clear R_X1_clear [.ref f, .ref q] μ (.inl (none)) (clU (sI (sI (sI (sR μ f 0 (some q)) f 1 0) f 3 0) f 8 0) f 8) := by
  refine Ct.ent yk_X1_clear (Nat.le_of_ble_eq_true rfl) ?_
  refine a_aload_n dX1_clear_0 rfl ?_
  refine a_aload_n dX1_clear_1 rfl ?_
  refine a_putR dX1_clear_2 fs_X1_9 rfl rfl (fl_o (by repeat (first | with_reducible exact hw | with_reducible exact hwc | with_reducible assumption | with_reducible apply Wf.sI | with_reducible apply Wf.sL | with_reducible apply Wf.cpI | with_reducible apply Wf.cpL | with_reducible apply Wf.cp2 | with_reducible apply Wf.sIs | with_reducible apply Wf.sLs | with_reducible apply Wf.cpU | with_reducible apply Wf.fillI | with_reducible apply Wf.clU | with_reducible apply Wf.dnF | with_reducible apply Wf.gbW)) hf) ?_
  have hw := hw.sR hf.r00 (some q)
  refine a_aload_n dX1_clear_5 rfl ?_
  refine a_iconst (0 : Int32) dX1_clear_6 (by decide) ?_
  refine a_putI dX1_clear_7 fs_X1_43 rfl rfl rfl (fl_o (by repeat (first | with_reducible exact hw | with_reducible exact hwc | with_reducible assumption | with_reducible apply Wf.sI | with_reducible apply Wf.sL | with_reducible apply Wf.cpI | with_reducible apply Wf.cpL | with_reducible apply Wf.cp2 | with_reducible apply Wf.sIs | with_reducible apply Wf.sLs | with_reducible apply Wf.cpU | with_reducible apply Wf.fillI | with_reducible apply Wf.clU | with_reducible apply Wf.dnF | with_reducible apply Wf.gbW)) hf) ?_
  refine a_aload_n dX1_clear_10 rfl ?_
  refine a_iconst (0 : Int32) dX1_clear_11 (by decide) ?_
  refine a_putI dX1_clear_12 fs_X1_47 rfl rfl rfl (fl_o (by repeat (first | with_reducible exact hw | with_reducible exact hwc | with_reducible assumption | with_reducible apply Wf.sI | with_reducible apply Wf.sL | with_reducible apply Wf.cpI | with_reducible apply Wf.cpL | with_reducible apply Wf.cp2 | with_reducible apply Wf.sIs | with_reducible apply Wf.sLs | with_reducible apply Wf.cpU | with_reducible apply Wf.fillI | with_reducible apply Wf.clU | with_reducible apply Wf.dnF | with_reducible apply Wf.gbW)) hf) ?_
  refine a_aload_n dX1_clear_15 rfl ?_
  refine a_iconst (0 : Int32) dX1_clear_16 (by decide) ?_
  refine a_putI dX1_clear_17 fs_X1_51 rfl rfl rfl (fl_o (by repeat (first | with_reducible exact hw | with_reducible exact hwc | with_reducible assumption | with_reducible apply Wf.sI | with_reducible apply Wf.sL | with_reducible apply Wf.cpI | with_reducible apply Wf.cpL | with_reducible apply Wf.cp2 | with_reducible apply Wf.sIs | with_reducible apply Wf.sLs | with_reducible apply Wf.cpU | with_reducible apply Wf.fillI | with_reducible apply Wf.clU | with_reducible apply Wf.dnF | with_reducible apply Wf.gbW)) hf) ?_
  refine a_iconst (0 : Int32) dX1_clear_20 (by decide) ?_
  refine a_istore_n dX1_clear_21 (by decide) ?_
  refine a_wd (μ' := clU (sI (sI (sI (sR μ f 0 (some q)) f 1 0) f 3 0) f 8 0) f 0) rfl ?_
  refine a_loc [(0, .ref f), (1, .ref q), (2, .int (nI 0))] rfl ?_
  refine l_X1_clear_22 (μ := sI (sI (sI (sR μ f 0 (some q)) f 1 0) f 3 0) f 8 0) hw hf ?_ 8 0 (by omega)
  exact a_out rfl rfl (a_return dX1_clear_44 rfl)
abbrev R_X7_clear : Room := { frames := 0, cells := 0, slots := 0, locals := 0 }
abbrev RX_X7_clear : Room := { frames := 0, cells := 1, slots := 6, locals := 0 }

theorem t_X7_clear (hw : Wf μ) {p : Nat} (hp : Pl p) : Ct Y_X7_clear R_X7_clear [.ref p] μ (.inl (none)) (sI (sI (sI (sI (sI (sI (sI μ p 0 1) p 1 0) p 3 0) p 5 0) p 8 120) p 9 30) p 10 10) := by
  refine Ct.ent yk_X7_clear (Nat.le_of_ble_eq_true rfl) ?_
  refine a_aload_n dX7_clear_0 rfl ?_
  refine a_iconst (1 : Int32) dX7_clear_1 (by decide) ?_
  refine a_putI dX7_clear_2 fs_X7_32 rfl rfl rfl (pl_o (by repeat (first | with_reducible exact hw | with_reducible exact hwc | with_reducible assumption | with_reducible apply Wf.sI | with_reducible apply Wf.sL | with_reducible apply Wf.cpI | with_reducible apply Wf.cpL | with_reducible apply Wf.cp2 | with_reducible apply Wf.sIs | with_reducible apply Wf.sLs | with_reducible apply Wf.cpU | with_reducible apply Wf.fillI | with_reducible apply Wf.clU | with_reducible apply Wf.dnF | with_reducible apply Wf.gbW)) hp) ?_
  refine a_aload_n dX7_clear_5 rfl ?_
  refine a_iconst (0 : Int32) dX7_clear_6 (by decide) ?_
  refine a_putI dX7_clear_7 fs_X7_36 rfl rfl rfl (pl_o (by repeat (first | with_reducible exact hw | with_reducible exact hwc | with_reducible assumption | with_reducible apply Wf.sI | with_reducible apply Wf.sL | with_reducible apply Wf.cpI | with_reducible apply Wf.cpL | with_reducible apply Wf.cp2 | with_reducible apply Wf.sIs | with_reducible apply Wf.sLs | with_reducible apply Wf.cpU | with_reducible apply Wf.fillI | with_reducible apply Wf.clU | with_reducible apply Wf.dnF | with_reducible apply Wf.gbW)) hp) ?_
  refine a_aload_n dX7_clear_10 rfl ?_
  refine a_iconst (0 : Int32) dX7_clear_11 (by decide) ?_
  refine a_putI dX7_clear_12 fs_X7_40 rfl rfl rfl (pl_o (by repeat (first | with_reducible exact hw | with_reducible exact hwc | with_reducible assumption | with_reducible apply Wf.sI | with_reducible apply Wf.sL | with_reducible apply Wf.cpI | with_reducible apply Wf.cpL | with_reducible apply Wf.cp2 | with_reducible apply Wf.sIs | with_reducible apply Wf.sLs | with_reducible apply Wf.cpU | with_reducible apply Wf.fillI | with_reducible apply Wf.clU | with_reducible apply Wf.dnF | with_reducible apply Wf.gbW)) hp) ?_
  refine a_aload_n dX7_clear_15 rfl ?_
  refine a_iconst (0 : Int32) dX7_clear_16 (by decide) ?_
  refine a_putI dX7_clear_17 fs_X7_43 rfl rfl rfl (pl_o (by repeat (first | with_reducible exact hw | with_reducible exact hwc | with_reducible assumption | with_reducible apply Wf.sI | with_reducible apply Wf.sL | with_reducible apply Wf.cpI | with_reducible apply Wf.cpL | with_reducible apply Wf.cp2 | with_reducible apply Wf.sIs | with_reducible apply Wf.sLs | with_reducible apply Wf.cpU | with_reducible apply Wf.fillI | with_reducible apply Wf.clU | with_reducible apply Wf.dnF | with_reducible apply Wf.gbW)) hp) ?_
  refine a_aload_n dX7_clear_20 rfl ?_
  refine a_bipush (120 : Int32) dX7_clear_21 (by decide) ?_
  refine a_putI dX7_clear_23 fs_X7_46 rfl rfl rfl (pl_o (by repeat (first | with_reducible exact hw | with_reducible exact hwc | with_reducible assumption | with_reducible apply Wf.sI | with_reducible apply Wf.sL | with_reducible apply Wf.cpI | with_reducible apply Wf.cpL | with_reducible apply Wf.cp2 | with_reducible apply Wf.sIs | with_reducible apply Wf.sLs | with_reducible apply Wf.cpU | with_reducible apply Wf.fillI | with_reducible apply Wf.clU | with_reducible apply Wf.dnF | with_reducible apply Wf.gbW)) hp) ?_
  refine a_aload_n dX7_clear_26 rfl ?_
  refine a_bipush (30 : Int32) dX7_clear_27 (by decide) ?_
  refine a_putI dX7_clear_29 fs_X7_49 rfl rfl rfl (pl_o (by repeat (first | with_reducible exact hw | with_reducible exact hwc | with_reducible assumption | with_reducible apply Wf.sI | with_reducible apply Wf.sL | with_reducible apply Wf.cpI | with_reducible apply Wf.cpL | with_reducible apply Wf.cp2 | with_reducible apply Wf.sIs | with_reducible apply Wf.sLs | with_reducible apply Wf.cpU | with_reducible apply Wf.fillI | with_reducible apply Wf.clU | with_reducible apply Wf.dnF | with_reducible apply Wf.gbW)) hp) ?_
  refine a_aload_n dX7_clear_32 rfl ?_
  refine a_bipush (10 : Int32) dX7_clear_33 (by decide) ?_
  refine a_putI dX7_clear_35 fs_X7_52 rfl rfl rfl (pl_o (by repeat (first | with_reducible exact hw | with_reducible exact hwc | with_reducible assumption | with_reducible apply Wf.sI | with_reducible apply Wf.sL | with_reducible apply Wf.cpI | with_reducible apply Wf.cpL | with_reducible apply Wf.cp2 | with_reducible apply Wf.sIs | with_reducible apply Wf.sLs | with_reducible apply Wf.cpU | with_reducible apply Wf.fillI | with_reducible apply Wf.clU | with_reducible apply Wf.dnF | with_reducible apply Wf.gbW)) hp) ?_
  exact a_out rfl rfl (a_return dX7_clear_38 rfl)
abbrev R_X1_seat : Room := { frames := 0, cells := 0, slots := 0, locals := 0 }
abbrev RX_X1_seat : Room := { frames := 0, cells := 1, slots := 6, locals := 0 }

theorem t_X1_seat (hw : Wf μ) {f P : Nat} (hf : Fl f) (hP : gI μ f 3 = nI P) (hP4 : P < 40) (c n v : Int32) : Ct Y_X1_seat R_X1_seat [.ref f, .int c, .int n, .int v] μ (.inl (none)) (sI (sI (sI (sI μ (f + 1) P c) (f + 2) P n) (f + 3) P v) f 3 (nI (P + 1))) := by
  refine Ct.ent yk_X1_seat (Nat.le_of_ble_eq_true rfl) ?_
  refine a_aload_n dX1_seat_0 rfl ?_
  refine a_getI dX1_seat_1 fs_X1_47 rfl (fl_o (by repeat (first | with_reducible exact hw | with_reducible exact hwc | with_reducible assumption | with_reducible apply Wf.sI | with_reducible apply Wf.sL | with_reducible apply Wf.cpI | with_reducible apply Wf.cpL | with_reducible apply Wf.cp2 | with_reducible apply Wf.sIs | with_reducible apply Wf.sLs | with_reducible apply Wf.cpU | with_reducible apply Wf.fillI | with_reducible apply Wf.clU | with_reducible apply Wf.dnF | with_reducible apply Wf.gbW)) hf) ?_
  refine a_bipush (40 : Int32) dX1_seat_4 (by decide) ?_
  rw [hP]
  refine a_icmp_ge (tgt := 49) dX1_seat_6 (by decide) (fun h6 => absurd h6 (nI_ge (a := P) (b := 40) hP4 (by decide))) (fun h6 => ?_)
  refine a_aload_n dX1_seat_9 rfl ?_
  refine a_getR (fl_r4 (by repeat (first | with_reducible exact hw | with_reducible exact hwc | with_reducible assumption | with_reducible apply Wf.sI | with_reducible apply Wf.sL | with_reducible apply Wf.cpI | with_reducible apply Wf.cpL | with_reducible apply Wf.cp2 | with_reducible apply Wf.sIs | with_reducible apply Wf.sLs | with_reducible apply Wf.cpU | with_reducible apply Wf.fillI | with_reducible apply Wf.clU | with_reducible apply Wf.dnF | with_reducible apply Wf.gbW)) hf) dX1_seat_10 fs_X1_15 rfl (fl_o (by repeat (first | with_reducible exact hw | with_reducible exact hwc | with_reducible assumption | with_reducible apply Wf.sI | with_reducible apply Wf.sL | with_reducible apply Wf.cpI | with_reducible apply Wf.cpL | with_reducible apply Wf.cp2 | with_reducible apply Wf.sIs | with_reducible apply Wf.sLs | with_reducible apply Wf.cpU | with_reducible apply Wf.fillI | with_reducible apply Wf.clU | with_reducible apply Wf.dnF | with_reducible apply Wf.gbW)) hf) ?_
  refine a_aload_n dX1_seat_13 rfl ?_
  refine a_getI dX1_seat_14 fs_X1_47 rfl (fl_o (by repeat (first | with_reducible exact hw | with_reducible exact hwc | with_reducible assumption | with_reducible apply Wf.sI | with_reducible apply Wf.sL | with_reducible apply Wf.cpI | with_reducible apply Wf.cpL | with_reducible apply Wf.cp2 | with_reducible apply Wf.sIs | with_reducible apply Wf.sLs | with_reducible apply Wf.cpU | with_reducible apply Wf.fillI | with_reducible apply Wf.clU | with_reducible apply Wf.dnF | with_reducible apply Wf.gbW)) hf) ?_
  rw [hP]
  refine a_iload_n dX1_seat_17 rfl ?_
  refine a_ist dX1_seat_18 (fl_a1 (by repeat (first | with_reducible exact hw | with_reducible exact hwc | with_reducible assumption | with_reducible apply Wf.sI | with_reducible apply Wf.sL | with_reducible apply Wf.cpI | with_reducible apply Wf.cpL | with_reducible apply Wf.cp2 | with_reducible apply Wf.sIs | with_reducible apply Wf.sLs | with_reducible apply Wf.cpU | with_reducible apply Wf.fillI | with_reducible apply Wf.clU | with_reducible apply Wf.dnF | with_reducible apply Wf.gbW)) hf) (ixn (by omega) (by decide)) ?_
  refine a_aload_n dX1_seat_19 rfl ?_
  refine a_getR (fl_r5 (by repeat (first | with_reducible exact hw | with_reducible exact hwc | with_reducible assumption | with_reducible apply Wf.sI | with_reducible apply Wf.sL | with_reducible apply Wf.cpI | with_reducible apply Wf.cpL | with_reducible apply Wf.cp2 | with_reducible apply Wf.sIs | with_reducible apply Wf.sLs | with_reducible apply Wf.cpU | with_reducible apply Wf.fillI | with_reducible apply Wf.clU | with_reducible apply Wf.dnF | with_reducible apply Wf.gbW)) hf) dX1_seat_20 fs_X1_19 rfl (fl_o (by repeat (first | with_reducible exact hw | with_reducible exact hwc | with_reducible assumption | with_reducible apply Wf.sI | with_reducible apply Wf.sL | with_reducible apply Wf.cpI | with_reducible apply Wf.cpL | with_reducible apply Wf.cp2 | with_reducible apply Wf.sIs | with_reducible apply Wf.sLs | with_reducible apply Wf.cpU | with_reducible apply Wf.fillI | with_reducible apply Wf.clU | with_reducible apply Wf.dnF | with_reducible apply Wf.gbW)) hf) ?_
  refine a_aload_n dX1_seat_23 rfl ?_
  refine a_getI dX1_seat_24 fs_X1_47 rfl (fl_o (by repeat (first | with_reducible exact hw | with_reducible exact hwc | with_reducible assumption | with_reducible apply Wf.sI | with_reducible apply Wf.sL | with_reducible apply Wf.cpI | with_reducible apply Wf.cpL | with_reducible apply Wf.cp2 | with_reducible apply Wf.sIs | with_reducible apply Wf.sLs | with_reducible apply Wf.cpU | with_reducible apply Wf.fillI | with_reducible apply Wf.clU | with_reducible apply Wf.dnF | with_reducible apply Wf.gbW)) hf) ?_
  repeat rw [gI_sI, if_neg (by omega)]
  rw [hP]
  refine a_iload_n dX1_seat_27 rfl ?_
  refine a_ist dX1_seat_28 (fl_a2 (by repeat (first | with_reducible exact hw | with_reducible exact hwc | with_reducible assumption | with_reducible apply Wf.sI | with_reducible apply Wf.sL | with_reducible apply Wf.cpI | with_reducible apply Wf.cpL | with_reducible apply Wf.cp2 | with_reducible apply Wf.sIs | with_reducible apply Wf.sLs | with_reducible apply Wf.cpU | with_reducible apply Wf.fillI | with_reducible apply Wf.clU | with_reducible apply Wf.dnF | with_reducible apply Wf.gbW)) hf) (ixn (by omega) (by decide)) ?_
  refine a_aload_n dX1_seat_29 rfl ?_
  refine a_getR (fl_r6 (by repeat (first | with_reducible exact hw | with_reducible exact hwc | with_reducible assumption | with_reducible apply Wf.sI | with_reducible apply Wf.sL | with_reducible apply Wf.cpI | with_reducible apply Wf.cpL | with_reducible apply Wf.cp2 | with_reducible apply Wf.sIs | with_reducible apply Wf.sLs | with_reducible apply Wf.cpU | with_reducible apply Wf.fillI | with_reducible apply Wf.clU | with_reducible apply Wf.dnF | with_reducible apply Wf.gbW)) hf) dX1_seat_30 fs_X1_22 rfl (fl_o (by repeat (first | with_reducible exact hw | with_reducible exact hwc | with_reducible assumption | with_reducible apply Wf.sI | with_reducible apply Wf.sL | with_reducible apply Wf.cpI | with_reducible apply Wf.cpL | with_reducible apply Wf.cp2 | with_reducible apply Wf.sIs | with_reducible apply Wf.sLs | with_reducible apply Wf.cpU | with_reducible apply Wf.fillI | with_reducible apply Wf.clU | with_reducible apply Wf.dnF | with_reducible apply Wf.gbW)) hf) ?_
  refine a_aload_n dX1_seat_33 rfl ?_
  refine a_getI dX1_seat_34 fs_X1_47 rfl (fl_o (by repeat (first | with_reducible exact hw | with_reducible exact hwc | with_reducible assumption | with_reducible apply Wf.sI | with_reducible apply Wf.sL | with_reducible apply Wf.cpI | with_reducible apply Wf.cpL | with_reducible apply Wf.cp2 | with_reducible apply Wf.sIs | with_reducible apply Wf.sLs | with_reducible apply Wf.cpU | with_reducible apply Wf.fillI | with_reducible apply Wf.clU | with_reducible apply Wf.dnF | with_reducible apply Wf.gbW)) hf) ?_
  repeat rw [gI_sI, if_neg (by omega)]
  rw [hP]
  refine a_iload_n dX1_seat_37 rfl ?_
  refine a_ist dX1_seat_38 (fl_a3 (by repeat (first | with_reducible exact hw | with_reducible exact hwc | with_reducible assumption | with_reducible apply Wf.sI | with_reducible apply Wf.sL | with_reducible apply Wf.cpI | with_reducible apply Wf.cpL | with_reducible apply Wf.cp2 | with_reducible apply Wf.sIs | with_reducible apply Wf.sLs | with_reducible apply Wf.cpU | with_reducible apply Wf.fillI | with_reducible apply Wf.clU | with_reducible apply Wf.dnF | with_reducible apply Wf.gbW)) hf) (ixn (by omega) (by decide)) ?_
  refine a_aload_n dX1_seat_39 rfl ?_
  refine a_dup dX1_seat_40 rfl ?_
  refine a_getI dX1_seat_41 fs_X1_47 rfl (fl_o (by repeat (first | with_reducible exact hw | with_reducible exact hwc | with_reducible assumption | with_reducible apply Wf.sI | with_reducible apply Wf.sL | with_reducible apply Wf.cpI | with_reducible apply Wf.cpL | with_reducible apply Wf.cp2 | with_reducible apply Wf.sIs | with_reducible apply Wf.sLs | with_reducible apply Wf.cpU | with_reducible apply Wf.fillI | with_reducible apply Wf.clU | with_reducible apply Wf.dnF | with_reducible apply Wf.gbW)) hf) ?_
  repeat rw [gI_sI, if_neg (by omega)]
  rw [hP]
  refine a_iconst (1 : Int32) dX1_seat_44 (by decide) ?_
  refine a_iadd dX1_seat_45 ?_
  rw [← nI_succ]
  refine a_putI dX1_seat_46 fs_X1_47 rfl rfl rfl (fl_o (by repeat (first | with_reducible exact hw | with_reducible exact hwc | with_reducible assumption | with_reducible apply Wf.sI | with_reducible apply Wf.sL | with_reducible apply Wf.cpI | with_reducible apply Wf.cpL | with_reducible apply Wf.cp2 | with_reducible apply Wf.sIs | with_reducible apply Wf.sLs | with_reducible apply Wf.cpU | with_reducible apply Wf.fillI | with_reducible apply Wf.clU | with_reducible apply Wf.dnF | with_reducible apply Wf.gbW)) hf) ?_
  exact a_out rfl rfl (a_return dX1_seat_49 rfl)
abbrev R_X1_removePassenger : Room := { frames := 0, cells := 0, slots := 0, locals := 0 }
abbrev RX_X1_removePassenger : Room := { frames := 0, cells := 1, slots := 6, locals := 0 }

/-- the first n places of a row moved down by one from place i on -/
def dnI (μ : Wd) (a i n : Nat) : Nat → Int32 := fun k => if i ≤ k ∧ k < n then gI μ a (k + 1) else gI μ a k
/-- passengers i .. n - 1 moved down -/
def dnF (μ : Wd) (f i n : Nat) : Wd := sIs μ (fun a k => if a = f + 1 ∨ a = f + 2 ∨ a = f + 3 then dnI μ a i n k else gI μ a k)
theorem gI_dnF (μ : Wd) (f i n a k : Nat) : gI (dnF μ f i n) a k = if a = f + 1 ∨ a = f + 2 ∨ a = f + 3 then dnI μ a i n k else gI μ a k := rfl
theorem gL_dnF (μ : Wd) (f i n a k : Nat) : gL (dnF μ f i n) a k = gL μ a k := rfl
theorem gR_dnF (μ : Wd) (f i n a k : Nat) : gR (dnF μ f i n) a k = gR μ a k := rfl
theorem Wf.dnF {μ : Wd} (hw : Wf μ) {f i n : Nat} : Wf (dnF μ f i n) := hw
theorem dn_zero (μ : Wd) (f i : Nat) : μ = dnF μ f i i := by
  have h : sIs μ (gI μ) = dnF μ f i i := sIs_ext fun a k => by
    unfold dnI
    rw [if_neg (show ¬ (i ≤ k ∧ k < i) by omega)]
    split <;> rfl
  exact h
theorem dn_succ (μ : Wd) (f i m : Nat) (him : i ≤ m) : sI (sI (sI (dnF μ f i m) (f + 1) m (gI μ (f + 1) (m + 1))) (f + 2) m (gI μ (f + 2) (m + 1))) (f + 3) m (gI μ (f + 3) (m + 1)) = dnF μ f i (m + 1) := by
  have h : sIs μ (up2 (up2 (up2 (gI (dnF μ f i m)) (f + 1) m (gI μ (f + 1) (m + 1))) (f + 2) m (gI μ (f + 2) (m + 1))) (f + 3) m (gI μ (f + 3) (m + 1))) = dnF μ f i (m + 1) := sIs_ext fun a k => by
    unfold up2
    rw [gI_dnF]
    unfold dnI
    by_cases h2 : k = m
    · subst h2
      by_cases h3 : a = f + 3
      · subst h3; simp [him]
      · by_cases h4 : a = f + 2
        · subst h4; simp [him]
        · by_cases h5 : a = f + 1
          · subst h5; simp [him]
          · simp [h3, h4, h5]
    · simp only [h2, and_false, if_false]
      by_cases h6 : i ≤ k ∧ k < m
      · rw [if_pos h6, if_pos (show i ≤ k ∧ k < m + 1 by omega)]
      · rw [if_neg h6, if_neg (show ¬ (i ≤ k ∧ k < m + 1) by omega)]
  exact h
theorem l_X1_removePassenger_4 (hw : Wf μ) {f P i N : Nat} (hf : Fl f) (hP : gI μ f 3 = nI P) (hP4 : P ≤ 40) (hN : N + 1 = P) {o : Oc} {μ1 : Wd} (kx : AW Y_X1_removePassenger R_X1_removePassenger (0, 0) (dnF μ f i N) 60 [(0, .ref f), (1, .int (nI i)), (2, .int (nI (N + 1)))] [] o μ1) : ∀ d m, m + d = N → i ≤ m → AW Y_X1_removePassenger R_X1_removePassenger (0, 0) (dnF μ f i m) 4 [(0, .ref f), (1, .int (nI i)), (2, .int (nI (m + 1)))] [] o μ1 := by
  intro d
  induction d with
  | zero =>
    intro m hm him
    obtain rfl : N = m := by omega
    refine a_iload_n dX1_removePassenger_4 rfl ?_
    refine a_aload_n dX1_removePassenger_5 rfl ?_
    refine a_getI dX1_removePassenger_6 fs_X1_47 rfl (fl_o (by repeat (first | with_reducible exact hw | with_reducible exact hwc | with_reducible assumption | with_reducible apply Wf.sI | with_reducible apply Wf.sL | with_reducible apply Wf.cpI | with_reducible apply Wf.cpL | with_reducible apply Wf.cp2 | with_reducible apply Wf.sIs | with_reducible apply Wf.sLs | with_reducible apply Wf.cpU | with_reducible apply Wf.fillI | with_reducible apply Wf.clU | with_reducible apply Wf.dnF | with_reducible apply Wf.gbW)) hf) ?_
    rw [gI_dnF, if_neg (by omega), hP]
    refine a_icmp_ge (tgt := 60) dX1_removePassenger_9 (by decide) (fun h9 => ?_) (fun h9 => absurd h9 (fun q => q (nI_le (by omega) (by omega))))
    exact a_loc _ rfl kx
  | succ d ih =>
    intro m hm him
    refine a_iload_n dX1_removePassenger_4 rfl ?_
    refine a_aload_n dX1_removePassenger_5 rfl ?_
    refine a_getI dX1_removePassenger_6 fs_X1_47 rfl (fl_o (by repeat (first | with_reducible exact hw | with_reducible exact hwc | with_reducible assumption | with_reducible apply Wf.sI | with_reducible apply Wf.sL | with_reducible apply Wf.cpI | with_reducible apply Wf.cpL | with_reducible apply Wf.cp2 | with_reducible apply Wf.sIs | with_reducible apply Wf.sLs | with_reducible apply Wf.cpU | with_reducible apply Wf.fillI | with_reducible apply Wf.clU | with_reducible apply Wf.dnF | with_reducible apply Wf.gbW)) hf) ?_
    rw [gI_dnF, if_neg (by omega), hP]
    refine a_icmp_ge (tgt := 60) dX1_removePassenger_9 (by decide) (fun h9 => absurd h9 (nI_ge (by omega) (by omega))) (fun h9 => ?_)
    refine a_aload_n dX1_removePassenger_12 rfl ?_
    refine a_getR (fl_r4 (by repeat (first | with_reducible exact hw | with_reducible exact hwc | with_reducible assumption | with_reducible apply Wf.sI | with_reducible apply Wf.sL | with_reducible apply Wf.cpI | with_reducible apply Wf.cpL | with_reducible apply Wf.cp2 | with_reducible apply Wf.sIs | with_reducible apply Wf.sLs | with_reducible apply Wf.cpU | with_reducible apply Wf.fillI | with_reducible apply Wf.clU | with_reducible apply Wf.dnF | with_reducible apply Wf.gbW)) hf) dX1_removePassenger_13 fs_X1_15 rfl (fl_o (by repeat (first | with_reducible exact hw | with_reducible exact hwc | with_reducible assumption | with_reducible apply Wf.sI | with_reducible apply Wf.sL | with_reducible apply Wf.cpI | with_reducible apply Wf.cpL | with_reducible apply Wf.cp2 | with_reducible apply Wf.sIs | with_reducible apply Wf.sLs | with_reducible apply Wf.cpU | with_reducible apply Wf.fillI | with_reducible apply Wf.clU | with_reducible apply Wf.dnF | with_reducible apply Wf.gbW)) hf) ?_
    refine a_iload_n dX1_removePassenger_16 rfl ?_
    refine a_iconst (1 : Int32) dX1_removePassenger_17 (by decide) ?_
    refine a_isub dX1_removePassenger_18 ?_
    rw [show nI (m + 1) - 1 = nI m by rw [nI_succ]; simp]
    refine a_aload_n dX1_removePassenger_19 rfl ?_
    refine a_getR (fl_r4 (by repeat (first | with_reducible exact hw | with_reducible exact hwc | with_reducible assumption | with_reducible apply Wf.sI | with_reducible apply Wf.sL | with_reducible apply Wf.cpI | with_reducible apply Wf.cpL | with_reducible apply Wf.cp2 | with_reducible apply Wf.sIs | with_reducible apply Wf.sLs | with_reducible apply Wf.cpU | with_reducible apply Wf.fillI | with_reducible apply Wf.clU | with_reducible apply Wf.dnF | with_reducible apply Wf.gbW)) hf) dX1_removePassenger_20 fs_X1_15 rfl (fl_o (by repeat (first | with_reducible exact hw | with_reducible exact hwc | with_reducible assumption | with_reducible apply Wf.sI | with_reducible apply Wf.sL | with_reducible apply Wf.cpI | with_reducible apply Wf.cpL | with_reducible apply Wf.cp2 | with_reducible apply Wf.sIs | with_reducible apply Wf.sLs | with_reducible apply Wf.cpU | with_reducible apply Wf.fillI | with_reducible apply Wf.clU | with_reducible apply Wf.dnF | with_reducible apply Wf.gbW)) hf) ?_
    refine a_iload_n dX1_removePassenger_23 rfl ?_
    refine a_ild dX1_removePassenger_24 (fl_a1 (by repeat (first | with_reducible exact hw | with_reducible exact hwc | with_reducible assumption | with_reducible apply Wf.sI | with_reducible apply Wf.sL | with_reducible apply Wf.cpI | with_reducible apply Wf.cpL | with_reducible apply Wf.cp2 | with_reducible apply Wf.sIs | with_reducible apply Wf.sLs | with_reducible apply Wf.cpU | with_reducible apply Wf.fillI | with_reducible apply Wf.clU | with_reducible apply Wf.dnF | with_reducible apply Wf.gbW)) hf) (ixn (by omega) (by decide)) ?_
    rw [gI_dnF, if_pos (by simp)]
    unfold dnI
    rw [if_neg (by omega)]
    refine a_ist dX1_removePassenger_25 (fl_a1 (by repeat (first | with_reducible exact hw | with_reducible exact hwc | with_reducible assumption | with_reducible apply Wf.sI | with_reducible apply Wf.sL | with_reducible apply Wf.cpI | with_reducible apply Wf.cpL | with_reducible apply Wf.cp2 | with_reducible apply Wf.sIs | with_reducible apply Wf.sLs | with_reducible apply Wf.cpU | with_reducible apply Wf.fillI | with_reducible apply Wf.clU | with_reducible apply Wf.dnF | with_reducible apply Wf.gbW)) hf) (ixn (by omega) (by decide)) ?_
    refine a_aload_n dX1_removePassenger_26 rfl ?_
    refine a_getR (fl_r5 (by repeat (first | with_reducible exact hw | with_reducible exact hwc | with_reducible assumption | with_reducible apply Wf.sI | with_reducible apply Wf.sL | with_reducible apply Wf.cpI | with_reducible apply Wf.cpL | with_reducible apply Wf.cp2 | with_reducible apply Wf.sIs | with_reducible apply Wf.sLs | with_reducible apply Wf.cpU | with_reducible apply Wf.fillI | with_reducible apply Wf.clU | with_reducible apply Wf.dnF | with_reducible apply Wf.gbW)) hf) dX1_removePassenger_27 fs_X1_19 rfl (fl_o (by repeat (first | with_reducible exact hw | with_reducible exact hwc | with_reducible assumption | with_reducible apply Wf.sI | with_reducible apply Wf.sL | with_reducible apply Wf.cpI | with_reducible apply Wf.cpL | with_reducible apply Wf.cp2 | with_reducible apply Wf.sIs | with_reducible apply Wf.sLs | with_reducible apply Wf.cpU | with_reducible apply Wf.fillI | with_reducible apply Wf.clU | with_reducible apply Wf.dnF | with_reducible apply Wf.gbW)) hf) ?_
    refine a_iload_n dX1_removePassenger_30 rfl ?_
    refine a_iconst (1 : Int32) dX1_removePassenger_31 (by decide) ?_
    refine a_isub dX1_removePassenger_32 ?_
    rw [show nI (m + 1) - 1 = nI m by rw [nI_succ]; simp]
    refine a_aload_n dX1_removePassenger_33 rfl ?_
    refine a_getR (fl_r5 (by repeat (first | with_reducible exact hw | with_reducible exact hwc | with_reducible assumption | with_reducible apply Wf.sI | with_reducible apply Wf.sL | with_reducible apply Wf.cpI | with_reducible apply Wf.cpL | with_reducible apply Wf.cp2 | with_reducible apply Wf.sIs | with_reducible apply Wf.sLs | with_reducible apply Wf.cpU | with_reducible apply Wf.fillI | with_reducible apply Wf.clU | with_reducible apply Wf.dnF | with_reducible apply Wf.gbW)) hf) dX1_removePassenger_34 fs_X1_19 rfl (fl_o (by repeat (first | with_reducible exact hw | with_reducible exact hwc | with_reducible assumption | with_reducible apply Wf.sI | with_reducible apply Wf.sL | with_reducible apply Wf.cpI | with_reducible apply Wf.cpL | with_reducible apply Wf.cp2 | with_reducible apply Wf.sIs | with_reducible apply Wf.sLs | with_reducible apply Wf.cpU | with_reducible apply Wf.fillI | with_reducible apply Wf.clU | with_reducible apply Wf.dnF | with_reducible apply Wf.gbW)) hf) ?_
    refine a_iload_n dX1_removePassenger_37 rfl ?_
    refine a_ild dX1_removePassenger_38 (fl_a2 (by repeat (first | with_reducible exact hw | with_reducible exact hwc | with_reducible assumption | with_reducible apply Wf.sI | with_reducible apply Wf.sL | with_reducible apply Wf.cpI | with_reducible apply Wf.cpL | with_reducible apply Wf.cp2 | with_reducible apply Wf.sIs | with_reducible apply Wf.sLs | with_reducible apply Wf.cpU | with_reducible apply Wf.fillI | with_reducible apply Wf.clU | with_reducible apply Wf.dnF | with_reducible apply Wf.gbW)) hf) (ixn (by omega) (by decide)) ?_
    rw [gI_sI, if_neg (by omega)]
    rw [gI_dnF, if_pos (by simp)]
    unfold dnI
    rw [if_neg (by omega)]
    refine a_ist dX1_removePassenger_39 (fl_a2 (by repeat (first | with_reducible exact hw | with_reducible exact hwc | with_reducible assumption | with_reducible apply Wf.sI | with_reducible apply Wf.sL | with_reducible apply Wf.cpI | with_reducible apply Wf.cpL | with_reducible apply Wf.cp2 | with_reducible apply Wf.sIs | with_reducible apply Wf.sLs | with_reducible apply Wf.cpU | with_reducible apply Wf.fillI | with_reducible apply Wf.clU | with_reducible apply Wf.dnF | with_reducible apply Wf.gbW)) hf) (ixn (by omega) (by decide)) ?_
    refine a_aload_n dX1_removePassenger_40 rfl ?_
    refine a_getR (fl_r6 (by repeat (first | with_reducible exact hw | with_reducible exact hwc | with_reducible assumption | with_reducible apply Wf.sI | with_reducible apply Wf.sL | with_reducible apply Wf.cpI | with_reducible apply Wf.cpL | with_reducible apply Wf.cp2 | with_reducible apply Wf.sIs | with_reducible apply Wf.sLs | with_reducible apply Wf.cpU | with_reducible apply Wf.fillI | with_reducible apply Wf.clU | with_reducible apply Wf.dnF | with_reducible apply Wf.gbW)) hf) dX1_removePassenger_41 fs_X1_22 rfl (fl_o (by repeat (first | with_reducible exact hw | with_reducible exact hwc | with_reducible assumption | with_reducible apply Wf.sI | with_reducible apply Wf.sL | with_reducible apply Wf.cpI | with_reducible apply Wf.cpL | with_reducible apply Wf.cp2 | with_reducible apply Wf.sIs | with_reducible apply Wf.sLs | with_reducible apply Wf.cpU | with_reducible apply Wf.fillI | with_reducible apply Wf.clU | with_reducible apply Wf.dnF | with_reducible apply Wf.gbW)) hf) ?_
    refine a_iload_n dX1_removePassenger_44 rfl ?_
    refine a_iconst (1 : Int32) dX1_removePassenger_45 (by decide) ?_
    refine a_isub dX1_removePassenger_46 ?_
    rw [show nI (m + 1) - 1 = nI m by rw [nI_succ]; simp]
    refine a_aload_n dX1_removePassenger_47 rfl ?_
    refine a_getR (fl_r6 (by repeat (first | with_reducible exact hw | with_reducible exact hwc | with_reducible assumption | with_reducible apply Wf.sI | with_reducible apply Wf.sL | with_reducible apply Wf.cpI | with_reducible apply Wf.cpL | with_reducible apply Wf.cp2 | with_reducible apply Wf.sIs | with_reducible apply Wf.sLs | with_reducible apply Wf.cpU | with_reducible apply Wf.fillI | with_reducible apply Wf.clU | with_reducible apply Wf.dnF | with_reducible apply Wf.gbW)) hf) dX1_removePassenger_48 fs_X1_22 rfl (fl_o (by repeat (first | with_reducible exact hw | with_reducible exact hwc | with_reducible assumption | with_reducible apply Wf.sI | with_reducible apply Wf.sL | with_reducible apply Wf.cpI | with_reducible apply Wf.cpL | with_reducible apply Wf.cp2 | with_reducible apply Wf.sIs | with_reducible apply Wf.sLs | with_reducible apply Wf.cpU | with_reducible apply Wf.fillI | with_reducible apply Wf.clU | with_reducible apply Wf.dnF | with_reducible apply Wf.gbW)) hf) ?_
    refine a_iload_n dX1_removePassenger_51 rfl ?_
    refine a_ild dX1_removePassenger_52 (fl_a3 (by repeat (first | with_reducible exact hw | with_reducible exact hwc | with_reducible assumption | with_reducible apply Wf.sI | with_reducible apply Wf.sL | with_reducible apply Wf.cpI | with_reducible apply Wf.cpL | with_reducible apply Wf.cp2 | with_reducible apply Wf.sIs | with_reducible apply Wf.sLs | with_reducible apply Wf.cpU | with_reducible apply Wf.fillI | with_reducible apply Wf.clU | with_reducible apply Wf.dnF | with_reducible apply Wf.gbW)) hf) (ixn (by omega) (by decide)) ?_
    rw [gI_sI, if_neg (by omega), gI_sI, if_neg (by omega)]
    rw [gI_dnF, if_pos (by simp)]
    unfold dnI
    rw [if_neg (by omega)]
    refine a_ist dX1_removePassenger_53 (fl_a3 (by repeat (first | with_reducible exact hw | with_reducible exact hwc | with_reducible assumption | with_reducible apply Wf.sI | with_reducible apply Wf.sL | with_reducible apply Wf.cpI | with_reducible apply Wf.cpL | with_reducible apply Wf.cp2 | with_reducible apply Wf.sIs | with_reducible apply Wf.sLs | with_reducible apply Wf.cpU | with_reducible apply Wf.fillI | with_reducible apply Wf.clU | with_reducible apply Wf.dnF | with_reducible apply Wf.gbW)) hf) (ixn (by omega) (by decide)) ?_
    refine a_iincN dX1_removePassenger_54 rfl (by decide) ?_
    refine a_goto (tgt := 4) dX1_removePassenger_57 (by decide) ?_
    rw [dn_succ _ _ _ _ him]
    exact a_loc _ rfl (ih (m + 1) (by omega) (by omega))
theorem t_X1_removePassenger (hw : Wf μ) {f P i : Nat} (hf : Fl f) (hP : gI μ f 3 = nI P) (hP4 : P ≤ 40) (hi : i < P) : Ct Y_X1_removePassenger R_X1_removePassenger [.ref f, .int (nI i)] μ (.inl (none)) (sI (dnF μ f i (P - 1)) f 3 (nI (P - 1))) := by
  refine Ct.ent yk_X1_removePassenger (Nat.le_of_ble_eq_true rfl) ?_
  refine a_iload_n dX1_removePassenger_0 rfl ?_
  refine a_iconst (1 : Int32) dX1_removePassenger_1 (by decide) ?_
  refine a_iadd dX1_removePassenger_2 ?_
  rw [← nI_succ]
  refine a_istore_n dX1_removePassenger_3 (by decide) ?_
  refine a_wd (dn_zero μ f i) ?_
  refine a_loc [(0, .ref f), (1, .int (nI i)), (2, .int (nI (i + 1)))] rfl ?_
  refine l_X1_removePassenger_4 (N := P - 1) hw hf hP hP4 (by omega) ?_ (P - 1 - i) i (by omega) (by omega)
  refine a_aload_n dX1_removePassenger_60 rfl ?_
  refine a_dup dX1_removePassenger_61 rfl ?_
  refine a_getI dX1_removePassenger_62 fs_X1_47 rfl (fl_o (by repeat (first | with_reducible exact hw | with_reducible exact hwc | with_reducible assumption | with_reducible apply Wf.sI | with_reducible apply Wf.sL | with_reducible apply Wf.cpI | with_reducible apply Wf.cpL | with_reducible apply Wf.cp2 | with_reducible apply Wf.sIs | with_reducible apply Wf.sLs | with_reducible apply Wf.cpU | with_reducible apply Wf.fillI | with_reducible apply Wf.clU | with_reducible apply Wf.dnF | with_reducible apply Wf.gbW)) hf) ?_
  rw [gI_dnF, if_neg (by omega), hP]
  refine a_iconst (1 : Int32) dX1_removePassenger_65 (by decide) ?_
  refine a_isub dX1_removePassenger_66 ?_
  rw [show nI P - 1 = nI (P - 1) by obtain ⟨n, rfl⟩ : ∃ n, P = n + 1 := ⟨P - 1, by omega⟩; rw [nI_succ]; simp]
  refine a_putI dX1_removePassenger_67 fs_X1_47 rfl rfl rfl (fl_o (by repeat (first | with_reducible exact hw | with_reducible exact hwc | with_reducible assumption | with_reducible apply Wf.sI | with_reducible apply Wf.sL | with_reducible apply Wf.cpI | with_reducible apply Wf.cpL | with_reducible apply Wf.cp2 | with_reducible apply Wf.sIs | with_reducible apply Wf.sLs | with_reducible apply Wf.cpU | with_reducible apply Wf.fillI | with_reducible apply Wf.clU | with_reducible apply Wf.dnF | with_reducible apply Wf.gbW)) hf) ?_
  exact a_out rfl rfl (a_return dX1_removePassenger_70 rfl)
end FLIGHTS
