section FLIGHTR
variable {μ : Wd}
/-- n turns of a step, by the counter -/
def itN {α : Type} (s : Nat → α → α) (a : α) : Nat → α
  | 0 => a
  | n + 1 => s n (itN s a n)
theorem itN_succ {α : Type} (s : Nat → α → α) (a : α) (n : Nat) : itN s a (n + 1) = s n (itN s a n) := rfl
theorem itN_zero {α : Type} (s : Nat → α → α) (a : α) : itN s a 0 = a := rfl
theorem itN_congr {α : Type} {s s' : Nat → α → α} {a a' : α} {n : Nat} (ha : a = a') (h : ∀ i x, i < n → s i x = s' i x) : itN s a n = itN s' a' n := by
  subst ha
  induction n with
  | zero => rfl
  | succ n ih => rw [itN_succ, itN_succ, ih (fun i x hi => h i x (Nat.lt_succ_of_lt hi)), h n _ (Nat.lt_succ_self n)]
/-- -1 for none -/
def oI (x : Option Nat) : Int32 := match x with
  | none => -1
  | some j => nI j
theorem sm_J9_max_7cf53 : Cond.static yJ9_max_7cf53 ∈ lwa := lwa_in 1154 (by decide +kernel) rfl
theorem sm_J9_min_7cf53 : Cond.static yJ9_min_7cf53 ∈ lwa := lwa_in 808 (by decide +kernel) rfl
section ROWS
variable {Y : Yd} {rm : Room} {b : Nat × Nat} {μ1 : Wd} {pc : Nat} {la : List (Nat × Value)} {st : List Value} {o : Oc}
theorem a_mmax {i : Nat} {x y : Int32} (hd : decode Y.2.1 pc = .ok (.invokestatic i, 3)) (hl : Cond.methodLink Y.1.cls i yJ9_max_7cf53 ∈ lwa) (hf : 1 ≤ rm.frames) (hr : 21 ≤ rm.locals) (hst : (st.map fun v => v.category).sum ≤ 8) (k : AW Y rm b μ (pc + 3) la (.int (if x < y then y else x) :: st) o μ1) : AW Y rm b μ pc la (.int y :: .int x :: st) o μ1 := by
  intro p l e s m args below meth c H locs cells slots ls D cA base ad0 n0 ad C E h1 h2 h3
  have hts := C.2.2.2.2.2.1
  exact va_mmax C.1 C.2.1 (C.2.2.1.trans h3.1.symm) C.2.2.2.2.1 (hts _ hl) (hts _ sm_J9_max_7cf53) (hts _ ini_RJ9) (hts _ cd_J9_max_7cf53) hf (by rw [cat_tv]; omega) (by have := E.2.2.2.2.2.2.2.1; omega) (by have := E.2.2.2.2.2.2.2.2; omega) hd (k p l e s m args below meth c H locs cells slots ls D cA base ad0 n0 ad C E h1 (by simpa only [okS_cons, okV_int, true_and] using h2) h3)
theorem a_mmin {i : Nat} {x y : Int32} (hd : decode Y.2.1 pc = .ok (.invokestatic i, 3)) (hl : Cond.methodLink Y.1.cls i yJ9_min_7cf53 ∈ lwa) (hf : 1 ≤ rm.frames) (hr : 21 ≤ rm.locals) (hst : (st.map fun v => v.category).sum ≤ 8) (k : AW Y rm b μ (pc + 3) la (.int (if y < x then y else x) :: st) o μ1) : AW Y rm b μ pc la (.int y :: .int x :: st) o μ1 := by
  intro p l e s m args below meth c H locs cells slots ls D cA base ad0 n0 ad C E h1 h2 h3
  have hts := C.2.2.2.2.2.1
  exact va_mmin C.1 C.2.1 (C.2.2.1.trans h3.1.symm) C.2.2.2.2.1 (hts _ hl) (hts _ sm_J9_min_7cf53) (hts _ ini_RJ9) (hts _ cd_J9_min_7cf53) hf (by rw [cat_tv]; omega) (by have := E.2.2.2.2.2.2.2.1; omega) (by have := E.2.2.2.2.2.2.2.2; omega) hd (k p l e s m args below meth c H locs cells slots ls D cA base ad0 n0 ad C E h1 (by simpa only [okS_cons, okV_int, true_and] using h2) h3)
end ROWS
abbrev R_X1_phase : Room := { frames := 0, cells := 0, slots := 0, locals := 0 }
abbrev RX_X1_phase : Room := { frames := 0, cells := 1, slots := 6, locals := 0 }

/-- the phase of a flight -/
def phV (μ : Wd) (f p : Nat) : Int32 := if gI μ p 0 = 0 then 0 else if gI μ f 1 = 0 then (if gI μ f 2 ≤ gI μ p 9 then 2 else 1) else 3
theorem t_X1_phase (hw : Wf μ) {f p : Nat} (hf : Fl f) (hpl : Pl p) (hp : gR μ f 0 = some p) : Ct Y_X1_phase R_X1_phase [.ref f] μ (.inl (some (.int (phV μ f p)))) μ := by
  refine Ct.ent yk_X1_phase (Nat.le_of_ble_eq_true rfl) ?_
  refine a_aload_n dX1_phase_0 rfl ?_
  refine a_getR hp dX1_phase_1 fs_X1_9 rfl (fl_o hw hf) ?_
  refine a_getI dX1_phase_4 fs_X1_73 rfl (pl_o hw hpl) ?_
  refine a_if_ne (tgt := 12) dX1_phase_7 (by decide) (fun h7 => ?_) (fun h7 => ?_)
  · refine a_aload_n dX1_phase_12 rfl ?_
    refine a_getI dX1_phase_13 fs_X1_43 rfl (fl_o hw hf) ?_
    refine a_if_eq (tgt := 21) dX1_phase_16 (by decide) (fun h16 => ?_) (fun h16 => ?_)
    · refine a_aload_n dX1_phase_21 rfl ?_
      refine a_getI dX1_phase_22 fs_X1_60 rfl (fl_o hw hf) ?_
      refine a_aload_n dX1_phase_25 rfl ?_
      refine a_getR hp dX1_phase_26 fs_X1_9 rfl (fl_o hw hf) ?_
      refine a_getI dX1_phase_29 fs_X1_78 rfl (pl_o hw hpl) ?_
      refine a_icmp_le (tgt := 39) dX1_phase_32 (by decide) (fun h32 => ?_) (fun h32 => ?_)
      · refine a_iconst (2 : Int32) dX1_phase_39 (by decide) ?_
        exact a_out (by simp_all [phV]) rfl (a_ireturn dX1_phase_40 rfl rfl)
      · refine a_iconst (1 : Int32) dX1_phase_35 (by decide) ?_
        refine a_goto (tgt := 40) dX1_phase_36 (by decide) ?_
        exact a_out (by simp_all [phV]) rfl (a_ireturn dX1_phase_40 rfl rfl)
    · refine a_iconst (3 : Int32) dX1_phase_19 (by decide) ?_
      exact a_out (by simp_all [phV]) rfl (a_ireturn dX1_phase_20 rfl rfl)
  · refine a_iconst (0 : Int32) dX1_phase_10 (by decide) ?_
    exact a_out (by simp_all [phV]) rfl (a_ireturn dX1_phase_11 rfl rfl)
abbrev R_X1_passengersIn : Room := { frames := 0, cells := 0, slots := 0, locals := 0 }
abbrev RX_X1_passengersIn : Room := { frames := 0, cells := 1, slots := 6, locals := 0 }

theorem l_X1_passengersIn_4 (hw : Wf μ) {f : Nat} (hf : Fl f) {P : Nat} (hP : gI μ f 3 = nI P) (hP4 : P ≤ 40) (c : Int32) {o : Oc} {μ1 : Wd} (kx : AW Y_X1_passengersIn R_X1_passengersIn (0, 0) μ 31 [(0, .ref f), (1, .int c), (2, .int (itN (fun i a => if gI μ (f + 1) i = c then a + 1 else a) 0 P)), (3, .int (nI P))] [] o μ1) : ∀ d m, m + d = P → AW Y_X1_passengersIn R_X1_passengersIn (0, 0) μ 4 [(0, .ref f), (1, .int c), (2, .int (itN (fun i a => if gI μ (f + 1) i = c then a + 1 else a) 0 m)), (3, .int (nI m))] [] o μ1 := by
  intro d
  induction d with
  | zero =>
    intro m hm
    obtain rfl : P = m := by omega
    refine a_iload_n dX1_passengersIn_4 rfl ?_
    refine a_aload_n dX1_passengersIn_5 rfl ?_
    refine a_getI dX1_passengersIn_6 fs_X1_47 rfl (fl_o hw hf) ?_
    rw [hP]
    refine a_icmp_ge (tgt := 31) dX1_passengersIn_9 (by decide) (fun h9 => ?_) (fun h9 => absurd h9 (fun q => q (nI_le (by omega) (by omega))))
    exact a_loc _ rfl kx
  | succ d ih =>
    intro m hm
    refine a_iload_n dX1_passengersIn_4 rfl ?_
    refine a_aload_n dX1_passengersIn_5 rfl ?_
    refine a_getI dX1_passengersIn_6 fs_X1_47 rfl (fl_o hw hf) ?_
    rw [hP]
    refine a_icmp_ge (tgt := 31) dX1_passengersIn_9 (by decide) (fun h9 => absurd h9 (nI_ge (by omega) (by omega))) (fun h9 => ?_)
    refine a_aload_n dX1_passengersIn_12 rfl ?_
    refine a_getR (fl_r4 hw hf) dX1_passengersIn_13 fs_X1_15 rfl (fl_o hw hf) ?_
    refine a_iload_n dX1_passengersIn_16 rfl ?_
    refine a_ild dX1_passengersIn_17 (fl_a1 hw hf) (ixn (by omega) (by decide)) ?_
    refine a_iload_n dX1_passengersIn_18 rfl ?_
    refine a_icmp_ne (tgt := 25) dX1_passengersIn_19 (by decide) (fun h19 => ?_) (fun h19 => ?_)
    · refine a_iincN dX1_passengersIn_25 rfl (by decide) ?_
      refine a_goto (tgt := 4) dX1_passengersIn_28 (by decide) ?_
      have q := ih (m + 1) (by omega)
      simp only [itN_succ] at q
      first | exact a_loc _ rfl q | (simp_all only [if_true, if_false, not_true_eq_false, not_false_eq_true, ne_eq]; exact a_loc _ rfl q)
    · refine a_iinc (1 : Int32) dX1_passengersIn_22 (by decide) rfl (by decide) ?_
      refine a_iincN dX1_passengersIn_25 rfl (by decide) ?_
      refine a_goto (tgt := 4) dX1_passengersIn_28 (by decide) ?_
      have q := ih (m + 1) (by omega)
      simp only [itN_succ] at q
      first | exact a_loc _ rfl q | (simp_all only [if_true, if_false, not_true_eq_false, not_false_eq_true, ne_eq]; exact a_loc _ rfl q)
theorem t_X1_passengersIn (hw : Wf μ) {f : Nat} (hf : Fl f) {P : Nat} (hP : gI μ f 3 = nI P) (hP4 : P ≤ 40) (c : Int32) : Ct Y_X1_passengersIn R_X1_passengersIn [.ref f, .int c] μ (.inl (some (.int (itN (fun i a => if gI μ (f + 1) i = c then a + 1 else a) 0 P)))) μ := by
  refine Ct.ent yk_X1_passengersIn (Nat.le_of_ble_eq_true rfl) ?_
  refine a_iconst (0 : Int32) dX1_passengersIn_0 (by decide) ?_
  refine a_istore_n dX1_passengersIn_1 (by decide) ?_
  refine a_iconst (0 : Int32) dX1_passengersIn_2 (by decide) ?_
  refine a_istore_n dX1_passengersIn_3 (by decide) ?_
  refine a_loc [(0, .ref f), (1, .int c), (2, .int (itN (fun i a => if gI μ (f + 1) i = c then a + 1 else a) 0 0)), (3, .int (nI 0))] rfl ?_
  refine l_X1_passengersIn_4 hw hf hP hP4 c ?_ P 0 (by omega)
  refine a_iload_n dX1_passengersIn_31 rfl ?_
  exact a_out rfl rfl (a_ireturn dX1_passengersIn_32 rfl rfl)
abbrev R_X1_specialsIn : Room := { frames := 0, cells := 0, slots := 0, locals := 0 }
abbrev RX_X1_specialsIn : Room := { frames := 0, cells := 1, slots := 6, locals := 0 }

theorem l_X1_specialsIn_4 (hw : Wf μ) {f : Nat} (hf : Fl f) {P : Nat} (hP : gI μ f 3 = nI P) (hP4 : P ≤ 40) (c : Int32) {o : Oc} {μ1 : Wd} (kx : AW Y_X1_specialsIn R_X1_specialsIn (0, 0) μ 40 [(0, .ref f), (1, .int c), (2, .int (itN (fun i a => if gI μ (f + 1) i = c then (if gI μ (f + 2) i = 0 then a else a + 1) else a) 0 P)), (3, .int (nI P))] [] o μ1) : ∀ d m, m + d = P → AW Y_X1_specialsIn R_X1_specialsIn (0, 0) μ 4 [(0, .ref f), (1, .int c), (2, .int (itN (fun i a => if gI μ (f + 1) i = c then (if gI μ (f + 2) i = 0 then a else a + 1) else a) 0 m)), (3, .int (nI m))] [] o μ1 := by
  intro d
  induction d with
  | zero =>
    intro m hm
    obtain rfl : P = m := by omega
    refine a_iload_n dX1_specialsIn_4 rfl ?_
    refine a_aload_n dX1_specialsIn_5 rfl ?_
    refine a_getI dX1_specialsIn_6 fs_X1_47 rfl (fl_o hw hf) ?_
    rw [hP]
    refine a_icmp_ge (tgt := 40) dX1_specialsIn_9 (by decide) (fun h9 => ?_) (fun h9 => absurd h9 (fun q => q (nI_le (by omega) (by omega))))
    exact a_loc _ rfl kx
  | succ d ih =>
    intro m hm
    refine a_iload_n dX1_specialsIn_4 rfl ?_
    refine a_aload_n dX1_specialsIn_5 rfl ?_
    refine a_getI dX1_specialsIn_6 fs_X1_47 rfl (fl_o hw hf) ?_
    rw [hP]
    refine a_icmp_ge (tgt := 40) dX1_specialsIn_9 (by decide) (fun h9 => absurd h9 (nI_ge (by omega) (by omega))) (fun h9 => ?_)
    refine a_aload_n dX1_specialsIn_12 rfl ?_
    refine a_getR (fl_r4 hw hf) dX1_specialsIn_13 fs_X1_15 rfl (fl_o hw hf) ?_
    refine a_iload_n dX1_specialsIn_16 rfl ?_
    refine a_ild dX1_specialsIn_17 (fl_a1 hw hf) (ixn (by omega) (by decide)) ?_
    refine a_iload_n dX1_specialsIn_18 rfl ?_
    refine a_icmp_ne (tgt := 34) dX1_specialsIn_19 (by decide) (fun h19 => ?_) (fun h19 => ?_)
    · refine a_iincN dX1_specialsIn_34 rfl (by decide) ?_
      refine a_goto (tgt := 4) dX1_specialsIn_37 (by decide) ?_
      have q := ih (m + 1) (by omega)
      simp only [itN_succ] at q
      first | exact a_loc _ rfl q | (simp_all only [if_true, if_false, not_true_eq_false, not_false_eq_true, ne_eq]; exact a_loc _ rfl q)
    · refine a_aload_n dX1_specialsIn_22 rfl ?_
      refine a_getR (fl_r5 hw hf) dX1_specialsIn_23 fs_X1_19 rfl (fl_o hw hf) ?_
      refine a_iload_n dX1_specialsIn_26 rfl ?_
      refine a_ild dX1_specialsIn_27 (fl_a2 hw hf) (ixn (by omega) (by decide)) ?_
      refine a_if_eq (tgt := 34) dX1_specialsIn_28 (by decide) (fun h28 => ?_) (fun h28 => ?_)
      · refine a_iincN dX1_specialsIn_34 rfl (by decide) ?_
        refine a_goto (tgt := 4) dX1_specialsIn_37 (by decide) ?_
        have q := ih (m + 1) (by omega)
        simp only [itN_succ] at q
        first | exact a_loc _ rfl q | (simp_all only [if_true, if_false, not_true_eq_false, not_false_eq_true, ne_eq]; exact a_loc _ rfl q)
      · refine a_iinc (1 : Int32) dX1_specialsIn_31 (by decide) rfl (by decide) ?_
        refine a_iincN dX1_specialsIn_34 rfl (by decide) ?_
        refine a_goto (tgt := 4) dX1_specialsIn_37 (by decide) ?_
        have q := ih (m + 1) (by omega)
        simp only [itN_succ] at q
        first | exact a_loc _ rfl q | (simp_all only [if_true, if_false, not_true_eq_false, not_false_eq_true, ne_eq]; exact a_loc _ rfl q)
theorem t_X1_specialsIn (hw : Wf μ) {f : Nat} (hf : Fl f) {P : Nat} (hP : gI μ f 3 = nI P) (hP4 : P ≤ 40) (c : Int32) : Ct Y_X1_specialsIn R_X1_specialsIn [.ref f, .int c] μ (.inl (some (.int (itN (fun i a => if gI μ (f + 1) i = c then (if gI μ (f + 2) i = 0 then a else a + 1) else a) 0 P)))) μ := by
  refine Ct.ent yk_X1_specialsIn (Nat.le_of_ble_eq_true rfl) ?_
  refine a_iconst (0 : Int32) dX1_specialsIn_0 (by decide) ?_
  refine a_istore_n dX1_specialsIn_1 (by decide) ?_
  refine a_iconst (0 : Int32) dX1_specialsIn_2 (by decide) ?_
  refine a_istore_n dX1_specialsIn_3 (by decide) ?_
  refine a_loc [(0, .ref f), (1, .int c), (2, .int (itN (fun i a => if gI μ (f + 1) i = c then (if gI μ (f + 2) i = 0 then a else a + 1) else a) 0 0)), (3, .int (nI 0))] rfl ?_
  refine l_X1_specialsIn_4 hw hf hP hP4 c ?_ P 0 (by omega)
  refine a_iload_n dX1_specialsIn_40 rfl ?_
  exact a_out rfl rfl (a_ireturn dX1_specialsIn_41 rfl rfl)
abbrev R_X1_freeSeats : Room := { frames := 1, cells := 0, slots := 0, locals := 23 }
abbrev RX_X1_freeSeats : Room := { frames := 1, cells := 1, slots := 6, locals := 23 }

theorem t_X1_freeSeats (hw : Wf μ) {f p : Nat} (hf : Fl f) (hpl : Pl p) (hp : gR μ f 0 = some p) {P : Nat} (hP : gI μ f 3 = nI P) (hP4 : P ≤ 40) {c : Nat} (hc : c < 4) : Ct Y_X1_freeSeats R_X1_freeSeats [.ref f, .int (nI c)] μ (.inl (some (.int (gI μ (p + 2 + c) 1 - itN (fun i a => if gI μ (f + 1) i = nI c then a + 1 else a) 0 P)))) μ := by
  refine Ct.ent yk_X1_freeSeats (Nat.le_of_ble_eq_true rfl) ?_
  refine a_aload_n dX1_freeSeats_0 rfl ?_
  refine a_getR hp dX1_freeSeats_1 fs_X1_9 rfl (fl_o hw hf) ?_
  refine a_getR (pl_r2 hw hpl) dX1_freeSeats_4 fs_X1_81 rfl (pl_o hw hpl) ?_
  refine a_iload_n dX1_freeSeats_7 rfl ?_
  refine a_aald (j := c) dX1_freeSeats_8 (pl_a1 hw hpl) (by decide) (ixn (by omega) (by decide)) (pl_rc hw hpl (by omega)) ?_
  refine a_getI dX1_freeSeats_9 fs_X1_85 rfl (pl_c hw hpl (by omega)) ?_
  refine a_aload_n dX1_freeSeats_12 rfl ?_
  refine a_iload_n dX1_freeSeats_13 rfl ?_
  refine a_inv (b2 := (0, 0)) (t_X1_passengersIn hw hf hP hP4 (nI c)) rfl dX1_freeSeats_14 yk_X1_passengersIn im_X1_passengersIn se_X1_passengersIn ml_X1_90 rfl (fl_o hw hf) (by decide) hc_X1 (by decide) (by decide) (Nat.le_of_ble_eq_true rfl) ?_
  refine a_isub dX1_freeSeats_17 ?_
  exact a_out rfl rfl (a_ireturn dX1_freeSeats_18 rfl rfl)
abbrev R_X7_menuOf : Room := { frames := 0, cells := 0, slots := 0, locals := 0 }
abbrev RX_X7_menuOf : Room := { frames := 0, cells := 1, slots := 6, locals := 0 }

theorem l_X7_menuOf_4 (hw : Wf μ) {p : Nat} (hp : Pl p) {M : Nat} (hM : gI μ p 3 = nI M) (hM4 : M ≤ 12) (c : Int32) {o : Oc} {μ1 : Wd} (kx : AW Y_X7_menuOf R_X7_menuOf (0, 0) μ 37 [(0, .ref p), (1, .int c), (2, .int (itN (fun i a => if gI μ (p + 7 + i) 1 = c then a ||| ((1 : Int32) <<< (nI i &&& 31)) else a) 0 M)), (3, .int (nI M))] [] o μ1) : ∀ d m, m + d = M → AW Y_X7_menuOf R_X7_menuOf (0, 0) μ 4 [(0, .ref p), (1, .int c), (2, .int (itN (fun i a => if gI μ (p + 7 + i) 1 = c then a ||| ((1 : Int32) <<< (nI i &&& 31)) else a) 0 m)), (3, .int (nI m))] [] o μ1 := by
  intro d
  induction d with
  | zero =>
    intro m hm
    obtain rfl : M = m := by omega
    refine a_iload_n dX7_menuOf_4 rfl ?_
    refine a_aload_n dX7_menuOf_5 rfl ?_
    refine a_getI dX7_menuOf_6 fs_X7_40 rfl (pl_o hw hp) ?_
    rw [hM]
    refine a_icmp_ge (tgt := 37) dX7_menuOf_9 (by decide) (fun h9 => ?_) (fun h9 => absurd h9 (fun q => q (nI_le (by omega) (by omega))))
    exact a_loc _ rfl kx
  | succ d ih =>
    intro m hm
    refine a_iload_n dX7_menuOf_4 rfl ?_
    refine a_aload_n dX7_menuOf_5 rfl ?_
    refine a_getI dX7_menuOf_6 fs_X7_40 rfl (pl_o hw hp) ?_
    rw [hM]
    refine a_icmp_ge (tgt := 37) dX7_menuOf_9 (by decide) (fun h9 => absurd h9 (nI_ge (by omega) (by omega))) (fun h9 => ?_)
    refine a_aload_n dX7_menuOf_12 rfl ?_
    refine a_getR (pl_r4 hw hp) dX7_menuOf_13 fs_X7_20 rfl (pl_o hw hp) ?_
    refine a_iload_n dX7_menuOf_16 rfl ?_
    refine a_aald (j := m) dX7_menuOf_17 (pl_a6 hw hp) (by decide) (ixn (by omega) (by decide)) (pl_rm hw hp (by omega)) ?_
    refine a_getI dX7_menuOf_18 fs_X7_55 rfl (pl_m hw hp (by omega)) ?_
    refine a_iload_n dX7_menuOf_21 rfl ?_
    refine a_icmp_ne (tgt := 31) dX7_menuOf_22 (by decide) (fun h22 => ?_) (fun h22 => ?_)
    · refine a_iincN dX7_menuOf_31 rfl (by decide) ?_
      refine a_goto (tgt := 4) dX7_menuOf_34 (by decide) ?_
      have q := ih (m + 1) (by omega)
      simp only [itN_succ] at q
      first | exact a_loc _ rfl q | (simp_all only [if_true, if_false, not_true_eq_false, not_false_eq_true, ne_eq]; exact a_loc _ rfl q)
    · refine a_iload_n dX7_menuOf_25 rfl ?_
      refine a_iconst (1 : Int32) dX7_menuOf_26 (by decide) ?_
      refine a_iload_n dX7_menuOf_27 rfl ?_
      refine a_ishl dX7_menuOf_28 ?_
      refine a_ior dX7_menuOf_29 ?_
      refine a_istore_n dX7_menuOf_30 (by decide) ?_
      refine a_iincN dX7_menuOf_31 rfl (by decide) ?_
      refine a_goto (tgt := 4) dX7_menuOf_34 (by decide) ?_
      have q := ih (m + 1) (by omega)
      simp only [itN_succ] at q
      first | exact a_loc _ rfl q | (simp_all only [if_true, if_false, not_true_eq_false, not_false_eq_true, ne_eq]; exact a_loc _ rfl q)
theorem t_X7_menuOf (hw : Wf μ) {p : Nat} (hp : Pl p) {M : Nat} (hM : gI μ p 3 = nI M) (hM4 : M ≤ 12) (c : Int32) : Ct Y_X7_menuOf R_X7_menuOf [.ref p, .int c] μ (.inl (some (.int (itN (fun i a => if gI μ (p + 7 + i) 1 = c then a ||| ((1 : Int32) <<< (nI i &&& 31)) else a) 0 M)))) μ := by
  refine Ct.ent yk_X7_menuOf (Nat.le_of_ble_eq_true rfl) ?_
  refine a_iconst (0 : Int32) dX7_menuOf_0 (by decide) ?_
  refine a_istore_n dX7_menuOf_1 (by decide) ?_
  refine a_iconst (0 : Int32) dX7_menuOf_2 (by decide) ?_
  refine a_istore_n dX7_menuOf_3 (by decide) ?_
  refine a_loc [(0, .ref p), (1, .int c), (2, .int (itN (fun i a => if gI μ (p + 7 + i) 1 = c then a ||| ((1 : Int32) <<< (nI i &&& 31)) else a) 0 0)), (3, .int (nI 0))] rfl ?_
  refine l_X7_menuOf_4 hw hp hM hM4 c ?_ M 0 (by omega)
  refine a_iload_n dX7_menuOf_37 rfl ?_
  exact a_out rfl rfl (a_ireturn dX7_menuOf_38 rfl rfl)
abbrev R_X7_trolleysOf : Room := { frames := 0, cells := 0, slots := 0, locals := 0 }
abbrev RX_X7_trolleysOf : Room := { frames := 0, cells := 1, slots := 6, locals := 0 }

theorem l_X7_trolleysOf_4 (hw : Wf μ) {p : Nat} (hp : Pl p) {T : Nat} (hT : gI μ p 5 = nI T) (hT4 : T ≤ 8) (c : Int32) {o : Oc} {μ1 : Wd} (kx : AW Y_X7_trolleysOf R_X7_trolleysOf (0, 0) μ 31 [(0, .ref p), (1, .int c), (2, .int (itN (fun i a => if gI μ (p + 19) i = c then a + 1 else a) 0 T)), (3, .int (nI T))] [] o μ1) : ∀ d m, m + d = T → AW Y_X7_trolleysOf R_X7_trolleysOf (0, 0) μ 4 [(0, .ref p), (1, .int c), (2, .int (itN (fun i a => if gI μ (p + 19) i = c then a + 1 else a) 0 m)), (3, .int (nI m))] [] o μ1 := by
  intro d
  induction d with
  | zero =>
    intro m hm
    obtain rfl : T = m := by omega
    refine a_iload_n dX7_trolleysOf_4 rfl ?_
    refine a_aload_n dX7_trolleysOf_5 rfl ?_
    refine a_getI dX7_trolleysOf_6 fs_X7_43 rfl (pl_o hw hp) ?_
    rw [hT]
    refine a_icmp_ge (tgt := 31) dX7_trolleysOf_9 (by decide) (fun h9 => ?_) (fun h9 => absurd h9 (fun q => q (nI_le (by omega) (by omega))))
    exact a_loc _ rfl kx
  | succ d ih =>
    intro m hm
    refine a_iload_n dX7_trolleysOf_4 rfl ?_
    refine a_aload_n dX7_trolleysOf_5 rfl ?_
    refine a_getI dX7_trolleysOf_6 fs_X7_43 rfl (pl_o hw hp) ?_
    rw [hT]
    refine a_icmp_ge (tgt := 31) dX7_trolleysOf_9 (by decide) (fun h9 => absurd h9 (nI_ge (by omega) (by omega))) (fun h9 => ?_)
    refine a_aload_n dX7_trolleysOf_12 rfl ?_
    refine a_getR (pl_r6 hw hp) dX7_trolleysOf_13 fs_X7_25 rfl (pl_o hw hp) ?_
    refine a_iload_n dX7_trolleysOf_16 rfl ?_
    refine a_ild dX7_trolleysOf_17 (pl_a19 hw hp) (ixn (by omega) (by decide)) ?_
    refine a_iload_n dX7_trolleysOf_18 rfl ?_
    refine a_icmp_ne (tgt := 25) dX7_trolleysOf_19 (by decide) (fun h19 => ?_) (fun h19 => ?_)
    · refine a_iincN dX7_trolleysOf_25 rfl (by decide) ?_
      refine a_goto (tgt := 4) dX7_trolleysOf_28 (by decide) ?_
      have q := ih (m + 1) (by omega)
      simp only [itN_succ] at q
      first | exact a_loc _ rfl q | (simp_all only [if_true, if_false, not_true_eq_false, not_false_eq_true, ne_eq]; exact a_loc _ rfl q)
    · refine a_iinc (1 : Int32) dX7_trolleysOf_22 (by decide) rfl (by decide) ?_
      refine a_iincN dX7_trolleysOf_25 rfl (by decide) ?_
      refine a_goto (tgt := 4) dX7_trolleysOf_28 (by decide) ?_
      have q := ih (m + 1) (by omega)
      simp only [itN_succ] at q
      first | exact a_loc _ rfl q | (simp_all only [if_true, if_false, not_true_eq_false, not_false_eq_true, ne_eq]; exact a_loc _ rfl q)
theorem t_X7_trolleysOf (hw : Wf μ) {p : Nat} (hp : Pl p) {T : Nat} (hT : gI μ p 5 = nI T) (hT4 : T ≤ 8) (c : Int32) : Ct Y_X7_trolleysOf R_X7_trolleysOf [.ref p, .int c] μ (.inl (some (.int (itN (fun i a => if gI μ (p + 19) i = c then a + 1 else a) 0 T)))) μ := by
  refine Ct.ent yk_X7_trolleysOf (Nat.le_of_ble_eq_true rfl) ?_
  refine a_iconst (0 : Int32) dX7_trolleysOf_0 (by decide) ?_
  refine a_istore_n dX7_trolleysOf_1 (by decide) ?_
  refine a_iconst (0 : Int32) dX7_trolleysOf_2 (by decide) ?_
  refine a_istore_n dX7_trolleysOf_3 (by decide) ?_
  refine a_loc [(0, .ref p), (1, .int c), (2, .int (itN (fun i a => if gI μ (p + 19) i = c then a + 1 else a) 0 0)), (3, .int (nI 0))] rfl ?_
  refine l_X7_trolleysOf_4 hw hp hT hT4 c ?_ T 0 (by omega)
  refine a_iload_n dX7_trolleysOf_31 rfl ?_
  exact a_out rfl rfl (a_ireturn dX7_trolleysOf_32 rfl rfl)
abbrev R_X7_admits : Room := { frames := 0, cells := 0, slots := 0, locals := 0 }
abbrev RX_X7_admits : Room := { frames := 0, cells := 1, slots := 6, locals := 0 }

/-- whether a meal may be had in a cabin: by the meal's own cabin -/
def adI (k c : Int32) : Int32 := if k = -1 then 1 else if k = c then 1 else 0
theorem t_X7_admits (hw : Wf μ) {p : Nat} (hp : Pl p) (c : Int32) {m : Nat} (hm : m < 12) : Ct Y_X7_admits R_X7_admits [.ref p, .int c, .int (nI m)] μ (.inl (some (.int (adI (gI μ (p + 7 + m) 1) c)))) μ := by
  refine Ct.ent yk_X7_admits (Nat.le_of_ble_eq_true rfl) ?_
  refine a_aload_n dX7_admits_0 rfl ?_
  refine a_getR (pl_r4 hw hp) dX7_admits_1 fs_X7_20 rfl (pl_o hw hp) ?_
  refine a_iload_n dX7_admits_4 rfl ?_
  refine a_aald (j := m) dX7_admits_5 (pl_a6 hw hp) (by decide) (ixn (by omega) (by decide)) (pl_rm hw hp (by omega)) ?_
  refine a_getI dX7_admits_6 fs_X7_55 rfl (pl_m hw hp (by omega)) ?_
  refine a_iconst (-1 : Int32) dX7_admits_9 (by decide) ?_
  refine a_icmp_eq (tgt := 26) dX7_admits_10 (by decide) (fun h10 => ?_) (fun h10 => ?_)
  · refine a_iconst (1 : Int32) dX7_admits_26 (by decide) ?_
    refine a_goto (tgt := 31) dX7_admits_27 (by decide) ?_
    exact a_out (by simp_all [adI]) rfl (a_ireturn dX7_admits_31 rfl rfl)
  · refine a_aload_n dX7_admits_13 rfl ?_
    refine a_getR (pl_r4 hw hp) dX7_admits_14 fs_X7_20 rfl (pl_o hw hp) ?_
    refine a_iload_n dX7_admits_17 rfl ?_
    refine a_aald (j := m) dX7_admits_18 (pl_a6 hw hp) (by decide) (ixn (by omega) (by decide)) (pl_rm hw hp (by omega)) ?_
    refine a_getI dX7_admits_19 fs_X7_55 rfl (pl_m hw hp (by omega)) ?_
    refine a_iload_n dX7_admits_22 rfl ?_
    refine a_icmp_ne (tgt := 30) dX7_admits_23 (by decide) (fun h23 => ?_) (fun h23 => ?_)
    · refine a_iconst (0 : Int32) dX7_admits_30 (by decide) ?_
      exact a_out (by simp_all [adI]) rfl (a_ireturn dX7_admits_31 rfl rfl)
    · refine a_iconst (1 : Int32) dX7_admits_26 (by decide) ?_
      refine a_goto (tgt := 31) dX7_admits_27 (by decide) ?_
      exact a_out (by simp_all [adI]) rfl (a_ireturn dX7_admits_31 rfl rfl)
abbrev R_X7_suiting : Room := { frames := 1, cells := 0, slots := 0, locals := 22 }
abbrev RX_X7_suiting : Room := { frames := 1, cells := 1, slots := 6, locals := 22 }

theorem l_X7_suiting_5 (hw : Wf μ) {p : Nat} (hp : Pl p) {M : Nat} (hM : gI μ p 3 = nI M) (hM4 : M ≤ 12) (c n : Int32) {o : Oc} {μ1 : Wd} (kx : AW Y_X7_suiting R_X7_suiting (0, 0) μ 54 [(0, .ref p), (1, .int c), (2, .int n), (3, .int (itN (fun i a => if adI (gI μ (p + 7 + i) 1) c = 0 then a else if n &&& (gI μ (p + 7 + i) 5 ^^^ -1) = 0 then a ||| ((1 : Int32) <<< (nI i &&& 31)) else a) 0 M)), (4, .int (nI M))] [] o μ1) : ∀ d m, m + d = M → AW Y_X7_suiting R_X7_suiting (0, 0) μ 5 [(0, .ref p), (1, .int c), (2, .int n), (3, .int (itN (fun i a => if adI (gI μ (p + 7 + i) 1) c = 0 then a else if n &&& (gI μ (p + 7 + i) 5 ^^^ -1) = 0 then a ||| ((1 : Int32) <<< (nI i &&& 31)) else a) 0 m)), (4, .int (nI m))] [] o μ1 := by
  intro d
  induction d with
  | zero =>
    intro m hm
    obtain rfl : M = m := by omega
    refine a_iload dX7_suiting_5 rfl ?_
    refine a_aload_n dX7_suiting_7 rfl ?_
    refine a_getI dX7_suiting_8 fs_X7_40 rfl (pl_o hw hp) ?_
    rw [hM]
    refine a_icmp_ge (tgt := 54) dX7_suiting_11 (by decide) (fun h11 => ?_) (fun h11 => absurd h11 (fun q => q (nI_le (by omega) (by omega))))
    exact a_loc _ rfl kx
  | succ d ih =>
    intro m hm
    refine a_iload dX7_suiting_5 rfl ?_
    refine a_aload_n dX7_suiting_7 rfl ?_
    refine a_getI dX7_suiting_8 fs_X7_40 rfl (pl_o hw hp) ?_
    rw [hM]
    refine a_icmp_ge (tgt := 54) dX7_suiting_11 (by decide) (fun h11 => absurd h11 (nI_ge (by omega) (by omega))) (fun h11 => ?_)
    refine a_aload_n dX7_suiting_14 rfl ?_
    refine a_iload_n dX7_suiting_15 rfl ?_
    refine a_iload dX7_suiting_16 rfl ?_
    refine a_inv (b2 := (0, 0)) (t_X7_admits hw hp c (show m < 12 by omega)) rfl dX7_suiting_18 yk_X7_admits im_X7_admits se_X7_admits ml_X7_57 rfl (pl_o hw hp) (by decide) hc_X7 (by decide) (by decide) (Nat.le_of_ble_eq_true rfl) ?_
    refine a_if_eq (tgt := 48) dX7_suiting_21 (by decide) (fun h21 => ?_) (fun h21 => ?_)
    · refine a_iincN dX7_suiting_48 rfl (by decide) ?_
      refine a_goto (tgt := 5) dX7_suiting_51 (by decide) ?_
      have q := ih (m + 1) (by omega)
      simp only [itN_succ] at q
      first | exact a_loc _ rfl q | (simp_all only [if_true, if_false, not_true_eq_false, not_false_eq_true, ne_eq]; exact a_loc _ rfl q)
    · refine a_iload_n dX7_suiting_24 rfl ?_
      refine a_aload_n dX7_suiting_25 rfl ?_
      refine a_getR (pl_r4 hw hp) dX7_suiting_26 fs_X7_20 rfl (pl_o hw hp) ?_
      refine a_iload dX7_suiting_29 rfl ?_
      refine a_aald (j := m) dX7_suiting_31 (pl_a6 hw hp) (by decide) (ixn (by omega) (by decide)) (pl_rm hw hp (by omega)) ?_
      refine a_getI dX7_suiting_32 fs_X7_61 rfl (pl_m hw hp (by omega)) ?_
      refine a_iconst (-1 : Int32) dX7_suiting_35 (by decide) ?_
      refine a_ixor dX7_suiting_36 ?_
      refine a_iand dX7_suiting_37 ?_
      refine a_if_ne (tgt := 48) dX7_suiting_38 (by decide) (fun h38 => ?_) (fun h38 => ?_)
      · refine a_iincN dX7_suiting_48 rfl (by decide) ?_
        refine a_goto (tgt := 5) dX7_suiting_51 (by decide) ?_
        have q := ih (m + 1) (by omega)
        simp only [itN_succ] at q
        first | exact a_loc _ rfl q | (simp_all only [if_true, if_false, not_true_eq_false, not_false_eq_true, ne_eq]; exact a_loc _ rfl q)
      · refine a_iload_n dX7_suiting_41 rfl ?_
        refine a_iconst (1 : Int32) dX7_suiting_42 (by decide) ?_
        refine a_iload dX7_suiting_43 rfl ?_
        refine a_ishl dX7_suiting_45 ?_
        refine a_ior dX7_suiting_46 ?_
        refine a_istore_n dX7_suiting_47 (by decide) ?_
        refine a_iincN dX7_suiting_48 rfl (by decide) ?_
        refine a_goto (tgt := 5) dX7_suiting_51 (by decide) ?_
        have q := ih (m + 1) (by omega)
        simp only [itN_succ] at q
        first | exact a_loc _ rfl q | (simp_all only [if_true, if_false, not_true_eq_false, not_false_eq_true, ne_eq]; exact a_loc _ rfl q)
theorem t_X7_suiting (hw : Wf μ) {p : Nat} (hp : Pl p) {M : Nat} (hM : gI μ p 3 = nI M) (hM4 : M ≤ 12) (c n : Int32) : Ct Y_X7_suiting R_X7_suiting [.ref p, .int c, .int n] μ (.inl (some (.int (itN (fun i a => if adI (gI μ (p + 7 + i) 1) c = 0 then a else if n &&& (gI μ (p + 7 + i) 5 ^^^ -1) = 0 then a ||| ((1 : Int32) <<< (nI i &&& 31)) else a) 0 M)))) μ := by
  refine Ct.ent yk_X7_suiting (Nat.le_of_ble_eq_true rfl) ?_
  refine a_iconst (0 : Int32) dX7_suiting_0 (by decide) ?_
  refine a_istore_n dX7_suiting_1 (by decide) ?_
  refine a_iconst (0 : Int32) dX7_suiting_2 (by decide) ?_
  refine a_istore dX7_suiting_3 (by decide) ?_
  refine a_loc [(0, .ref p), (1, .int c), (2, .int n), (3, .int (itN (fun i a => if adI (gI μ (p + 7 + i) 1) c = 0 then a else if n &&& (gI μ (p + 7 + i) 5 ^^^ -1) = 0 then a ||| ((1 : Int32) <<< (nI i &&& 31)) else a) 0 0)), (4, .int (nI 0))] rfl ?_
  refine l_X7_suiting_5 hw hp hM hM4 c n ?_ M 0 (by omega)
  refine a_iload_n dX7_suiting_54 rfl ?_
  exact a_out rfl rfl (a_ireturn dX7_suiting_55 rfl rfl)
abbrev R_X1_suiting : Room := { frames := 2, cells := 0, slots := 0, locals := 46 }
abbrev RX_X1_suiting : Room := { frames := 2, cells := 1, slots := 6, locals := 46 }

/-- the meals that suit, as a bit set -/
def suB (μ : Wd) (p M : Nat) (c n : Int32) : Int32 := itN (fun i a => if adI (gI μ (p + 7 + i) 1) c = 0 then a else if n &&& (gI μ (p + 7 + i) 5 ^^^ -1) = 0 then a ||| ((1 : Int32) <<< (nI i &&& 31)) else a) 0 M
theorem t_X1_suiting (hw : Wf μ) {f p : Nat} (hf : Fl f) (hpl : Pl p) (hp : gR μ f 0 = some p) {M : Nat} (hM : gI μ p 3 = nI M) (hM4 : M ≤ 12) {i : Nat} (hi : i < 40) : Ct Y_X1_suiting R_X1_suiting [.ref f, .int (nI i)] μ (.inl (some (.int (suB μ p M (gI μ (f + 1) i) (gI μ (f + 2) i))))) μ := by
  refine Ct.ent yk_X1_suiting (Nat.le_of_ble_eq_true rfl) ?_
  refine a_aload_n dX1_suiting_0 rfl ?_
  refine a_getR hp dX1_suiting_1 fs_X1_9 rfl (fl_o hw hf) ?_
  refine a_aload_n dX1_suiting_4 rfl ?_
  refine a_getR (fl_r4 hw hf) dX1_suiting_5 fs_X1_15 rfl (fl_o hw hf) ?_
  refine a_iload_n dX1_suiting_8 rfl ?_
  refine a_ild dX1_suiting_9 (fl_a1 hw hf) (ixn (by omega) (by decide)) ?_
  refine a_aload_n dX1_suiting_10 rfl ?_
  refine a_getR (fl_r5 hw hf) dX1_suiting_11 fs_X1_19 rfl (fl_o hw hf) ?_
  refine a_iload_n dX1_suiting_14 rfl ?_
  refine a_ild dX1_suiting_15 (fl_a2 hw hf) (ixn (by omega) (by decide)) ?_
  refine a_inv (b2 := (0, 0)) (t_X7_suiting hw hpl hM hM4 (gI μ (f + 1) i) (gI μ (f + 2) i)) rfl dX1_suiting_16 yk_X7_suiting im_X7_suiting se_X7_suiting ml_X1_94 rfl (pl_o hw hpl) (by decide) hc_X7 (by decide) (by decide) (Nat.le_of_ble_eq_true rfl) ?_
  exact a_out rfl rfl (a_ireturn dX1_suiting_19 rfl rfl)
abbrev R_X1_freeSlots : Room := { frames := 0, cells := 0, slots := 0, locals := 0 }
abbrev RX_X1_freeSlots : Room := { frames := 0, cells := 1, slots := 6, locals := 0 }

theorem l_X1_freeSlots_12 (hw : Wf μ) {f p : Nat} (hf : Fl f) (hpl : Pl p) (hp : gR μ f 0 = some p) {M : Nat} (hM : gI μ p 3 = nI M) (hM4 : M ≤ 12) {t : Nat} (ht : t < 8) {o : Oc} {μ1 : Wd} (kx : AW Y_X1_freeSlots R_X1_freeSlots (0, 0) μ 53 [(0, .ref f), (1, .int (nI t)), (2, .int (itN (fun i a => a - gI μ (f + 5 + t) i * gI μ (p + 7 + i) 3) (gI μ (p + 20) t) M)), (3, .int (nI M))] [] o μ1) : ∀ d m, m + d = M → AW Y_X1_freeSlots R_X1_freeSlots (0, 0) μ 12 [(0, .ref f), (1, .int (nI t)), (2, .int (itN (fun i a => a - gI μ (f + 5 + t) i * gI μ (p + 7 + i) 3) (gI μ (p + 20) t) m)), (3, .int (nI m))] [] o μ1 := by
  intro d
  induction d with
  | zero =>
    intro m hm
    obtain rfl : M = m := by omega
    refine a_iload_n dX1_freeSlots_12 rfl ?_
    refine a_aload_n dX1_freeSlots_13 rfl ?_
    refine a_getR hp dX1_freeSlots_14 fs_X1_9 rfl (fl_o hw hf) ?_
    refine a_getI dX1_freeSlots_17 fs_X1_106 rfl (pl_o hw hpl) ?_
    rw [hM]
    refine a_icmp_ge (tgt := 53) dX1_freeSlots_20 (by decide) (fun h20 => ?_) (fun h20 => absurd h20 (fun q => q (nI_le (by omega) (by omega))))
    exact a_loc _ rfl kx
  | succ d ih =>
    intro m hm
    refine a_iload_n dX1_freeSlots_12 rfl ?_
    refine a_aload_n dX1_freeSlots_13 rfl ?_
    refine a_getR hp dX1_freeSlots_14 fs_X1_9 rfl (fl_o hw hf) ?_
    refine a_getI dX1_freeSlots_17 fs_X1_106 rfl (pl_o hw hpl) ?_
    rw [hM]
    refine a_icmp_ge (tgt := 53) dX1_freeSlots_20 (by decide) (fun h20 => absurd h20 (nI_ge (by omega) (by omega))) (fun h20 => ?_)
    refine a_iload_n dX1_freeSlots_23 rfl ?_
    refine a_aload_n dX1_freeSlots_24 rfl ?_
    refine a_getR (fl_r7 hw hf) dX1_freeSlots_25 fs_X1_27 rfl (fl_o hw hf) ?_
    refine a_iload_n dX1_freeSlots_28 rfl ?_
    refine a_aald (j := t) dX1_freeSlots_29 (fl_a4 hw hf) (by decide) (ixn (by omega) (by decide)) (fl_ru hw hf (by omega)) ?_
    refine a_iload_n dX1_freeSlots_30 rfl ?_
    refine a_ild dX1_freeSlots_31 (fl_u hw hf (by omega)) (ixn (by omega) (by decide)) ?_
    refine a_aload_n dX1_freeSlots_32 rfl ?_
    refine a_getR hp dX1_freeSlots_33 fs_X1_9 rfl (fl_o hw hf) ?_
    refine a_getR (pl_r4 hw hpl) dX1_freeSlots_36 fs_X1_109 rfl (pl_o hw hpl) ?_
    refine a_iload_n dX1_freeSlots_39 rfl ?_
    refine a_aald (j := m) dX1_freeSlots_40 (pl_a6 hw hpl) (by decide) (ixn (by omega) (by decide)) (pl_rm hw hpl (by omega)) ?_
    refine a_getI dX1_freeSlots_41 fs_X1_113 rfl (pl_m hw hpl (by omega)) ?_
    refine a_imul dX1_freeSlots_44 ?_
    refine a_isub dX1_freeSlots_45 ?_
    refine a_istore_n dX1_freeSlots_46 (by decide) ?_
    refine a_iincN dX1_freeSlots_47 rfl (by decide) ?_
    refine a_goto (tgt := 12) dX1_freeSlots_50 (by decide) ?_
    have q := ih (m + 1) (by omega)
    simp only [itN_succ] at q
    first | exact a_loc _ rfl q | (simp_all only [if_true, if_false, not_true_eq_false, not_false_eq_true, ne_eq]; exact a_loc _ rfl q)
theorem t_X1_freeSlots (hw : Wf μ) {f p : Nat} (hf : Fl f) (hpl : Pl p) (hp : gR μ f 0 = some p) {M : Nat} (hM : gI μ p 3 = nI M) (hM4 : M ≤ 12) {t : Nat} (ht : t < 8) : Ct Y_X1_freeSlots R_X1_freeSlots [.ref f, .int (nI t)] μ (.inl (some (.int (itN (fun i a => a - gI μ (f + 5 + t) i * gI μ (p + 7 + i) 3) (gI μ (p + 20) t) M)))) μ := by
  refine Ct.ent yk_X1_freeSlots (Nat.le_of_ble_eq_true rfl) ?_
  refine a_aload_n dX1_freeSlots_0 rfl ?_
  refine a_getR hp dX1_freeSlots_1 fs_X1_9 rfl (fl_o hw hf) ?_
  refine a_getR (pl_r7 hw hpl) dX1_freeSlots_4 fs_X1_103 rfl (pl_o hw hpl) ?_
  refine a_iload_n dX1_freeSlots_7 rfl ?_
  refine a_ild dX1_freeSlots_8 (pl_a20 hw hpl) (ixn (by omega) (by decide)) ?_
  refine a_istore_n dX1_freeSlots_9 (by decide) ?_
  refine a_iconst (0 : Int32) dX1_freeSlots_10 (by decide) ?_
  refine a_istore_n dX1_freeSlots_11 (by decide) ?_
  refine a_loc [(0, .ref f), (1, .int (nI t)), (2, .int (itN (fun i a => a - gI μ (f + 5 + t) i * gI μ (p + 7 + i) 3) (gI μ (p + 20) t) 0)), (3, .int (nI 0))] rfl ?_
  refine l_X1_freeSlots_12 hw hf hpl hp hM hM4 ht ?_ M 0 (by omega)
  refine a_iload_n dX1_freeSlots_53 rfl ?_
  exact a_out rfl rfl (a_ireturn dX1_freeSlots_54 rfl rfl)
/-- the free slots of a trolley -/
def frV (μ : Wd) (f p M t : Nat) : Int32 := itN (fun i a => a - gI μ (f + 5 + t) i * gI μ (p + 7 + i) 3) (gI μ (p + 20) t) M
abbrev R_X1_freeSlotsIn : Room := { frames := 1, cells := 0, slots := 0, locals := 23 }
abbrev RX_X1_freeSlotsIn : Room := { frames := 1, cells := 1, slots := 6, locals := 23 }

theorem l_X1_freeSlotsIn_4 (hw : Wf μ) {f p : Nat} (hf : Fl f) (hpl : Pl p) (hp : gR μ f 0 = some p) {M : Nat} (hM : gI μ p 3 = nI M) (hM4 : M ≤ 12) {T : Nat} (hT : gI μ p 5 = nI T) (hT4 : T ≤ 8) (c : Int32) {o : Oc} {μ1 : Wd} (kx : AW Y_X1_freeSlotsIn R_X1_freeSlotsIn (0, 0) μ 42 [(0, .ref f), (1, .int c), (2, .int (itN (fun t a => if gI μ (p + 19) t = c then a + frV μ f p M t else a) 0 T)), (3, .int (nI T))] [] o μ1) : ∀ d m, m + d = T → AW Y_X1_freeSlotsIn R_X1_freeSlotsIn (0, 0) μ 4 [(0, .ref f), (1, .int c), (2, .int (itN (fun t a => if gI μ (p + 19) t = c then a + frV μ f p M t else a) 0 m)), (3, .int (nI m))] [] o μ1 := by
  intro d
  induction d with
  | zero =>
    intro m hm
    obtain rfl : T = m := by omega
    refine a_iload_n dX1_freeSlotsIn_4 rfl ?_
    refine a_aload_n dX1_freeSlotsIn_5 rfl ?_
    refine a_getR hp dX1_freeSlotsIn_6 fs_X1_9 rfl (fl_o hw hf) ?_
    refine a_getI dX1_freeSlotsIn_9 fs_X1_118 rfl (pl_o hw hpl) ?_
    rw [hT]
    refine a_icmp_ge (tgt := 42) dX1_freeSlotsIn_12 (by decide) (fun h12 => ?_) (fun h12 => absurd h12 (fun q => q (nI_le (by omega) (by omega))))
    exact a_loc _ rfl kx
  | succ d ih =>
    intro m hm
    refine a_iload_n dX1_freeSlotsIn_4 rfl ?_
    refine a_aload_n dX1_freeSlotsIn_5 rfl ?_
    refine a_getR hp dX1_freeSlotsIn_6 fs_X1_9 rfl (fl_o hw hf) ?_
    refine a_getI dX1_freeSlotsIn_9 fs_X1_118 rfl (pl_o hw hpl) ?_
    rw [hT]
    refine a_icmp_ge (tgt := 42) dX1_freeSlotsIn_12 (by decide) (fun h12 => absurd h12 (nI_ge (by omega) (by omega))) (fun h12 => ?_)
    refine a_aload_n dX1_freeSlotsIn_15 rfl ?_
    refine a_getR hp dX1_freeSlotsIn_16 fs_X1_9 rfl (fl_o hw hf) ?_
    refine a_getR (pl_r6 hw hpl) dX1_freeSlotsIn_19 fs_X1_121 rfl (pl_o hw hpl) ?_
    refine a_iload_n dX1_freeSlotsIn_22 rfl ?_
    refine a_ild dX1_freeSlotsIn_23 (pl_a19 hw hpl) (ixn (by omega) (by decide)) ?_
    refine a_iload_n dX1_freeSlotsIn_24 rfl ?_
    refine a_icmp_ne (tgt := 36) dX1_freeSlotsIn_25 (by decide) (fun h25 => ?_) (fun h25 => ?_)
    · refine a_iincN dX1_freeSlotsIn_36 rfl (by decide) ?_
      refine a_goto (tgt := 4) dX1_freeSlotsIn_39 (by decide) ?_
      have q := ih (m + 1) (by omega)
      simp only [itN_succ, frV] at q
      first | exact a_loc _ rfl q | (simp_all only [if_true, if_false, not_true_eq_false, not_false_eq_true, ne_eq]; exact a_loc _ rfl q)
    · refine a_iload_n dX1_freeSlotsIn_28 rfl ?_
      refine a_aload_n dX1_freeSlotsIn_29 rfl ?_
      refine a_iload_n dX1_freeSlotsIn_30 rfl ?_
      refine a_inv (b2 := (0, 0)) (t_X1_freeSlots hw hf hpl hp hM hM4 (show m < 8 by omega)) rfl dX1_freeSlotsIn_31 yk_X1_freeSlots im_X1_freeSlots se_X1_freeSlots ml_X1_124 rfl (fl_o hw hf) (by decide) hc_X1 (by decide) (by decide) (Nat.le_of_ble_eq_true rfl) ?_
      refine a_iadd dX1_freeSlotsIn_34 ?_
      refine a_istore_n dX1_freeSlotsIn_35 (by decide) ?_
      refine a_iincN dX1_freeSlotsIn_36 rfl (by decide) ?_
      refine a_goto (tgt := 4) dX1_freeSlotsIn_39 (by decide) ?_
      have q := ih (m + 1) (by omega)
      simp only [itN_succ, frV] at q
      first | exact a_loc _ rfl q | (simp_all only [if_true, if_false, not_true_eq_false, not_false_eq_true, ne_eq]; exact a_loc _ rfl q)
theorem t_X1_freeSlotsIn (hw : Wf μ) {f p : Nat} (hf : Fl f) (hpl : Pl p) (hp : gR μ f 0 = some p) {M : Nat} (hM : gI μ p 3 = nI M) (hM4 : M ≤ 12) {T : Nat} (hT : gI μ p 5 = nI T) (hT4 : T ≤ 8) (c : Int32) : Ct Y_X1_freeSlotsIn R_X1_freeSlotsIn [.ref f, .int c] μ (.inl (some (.int (itN (fun t a => if gI μ (p + 19) t = c then a + frV μ f p M t else a) 0 T)))) μ := by
  refine Ct.ent yk_X1_freeSlotsIn (Nat.le_of_ble_eq_true rfl) ?_
  refine a_iconst (0 : Int32) dX1_freeSlotsIn_0 (by decide) ?_
  refine a_istore_n dX1_freeSlotsIn_1 (by decide) ?_
  refine a_iconst (0 : Int32) dX1_freeSlotsIn_2 (by decide) ?_
  refine a_istore_n dX1_freeSlotsIn_3 (by decide) ?_
  refine a_loc [(0, .ref f), (1, .int c), (2, .int (itN (fun t a => if gI μ (p + 19) t = c then a + frV μ f p M t else a) 0 0)), (3, .int (nI 0))] rfl ?_
  refine l_X1_freeSlotsIn_4 hw hf hpl hp hM hM4 hT hT4 c ?_ T 0 (by omega)
  refine a_iload_n dX1_freeSlotsIn_42 rfl ?_
  exact a_out rfl rfl (a_ireturn dX1_freeSlotsIn_43 rfl rfl)
abbrev R_X1_unitsIn : Room := { frames := 0, cells := 0, slots := 0, locals := 0 }
abbrev RX_X1_unitsIn : Room := { frames := 0, cells := 1, slots := 6, locals := 0 }

theorem l_X1_unitsIn_4 (hw : Wf μ) {f p : Nat} (hf : Fl f) (hpl : Pl p) (hp : gR μ f 0 = some p) {M : Nat} (hM : gI μ p 3 = nI M) (hM4 : M ≤ 12) {t : Nat} (ht : t < 8) {o : Oc} {μ1 : Wd} (kx : AW Y_X1_unitsIn R_X1_unitsIn (0, 0) μ 32 [(0, .ref f), (1, .int (nI t)), (2, .int (itN (fun i a => a + gI μ (f + 5 + t) i) 0 M)), (3, .int (nI M))] [] o μ1) : ∀ d m, m + d = M → AW Y_X1_unitsIn R_X1_unitsIn (0, 0) μ 4 [(0, .ref f), (1, .int (nI t)), (2, .int (itN (fun i a => a + gI μ (f + 5 + t) i) 0 m)), (3, .int (nI m))] [] o μ1 := by
  intro d
  induction d with
  | zero =>
    intro m hm
    obtain rfl : M = m := by omega
    refine a_iload_n dX1_unitsIn_4 rfl ?_
    refine a_aload_n dX1_unitsIn_5 rfl ?_
    refine a_getR hp dX1_unitsIn_6 fs_X1_9 rfl (fl_o hw hf) ?_
    refine a_getI dX1_unitsIn_9 fs_X1_106 rfl (pl_o hw hpl) ?_
    rw [hM]
    refine a_icmp_ge (tgt := 32) dX1_unitsIn_12 (by decide) (fun h12 => ?_) (fun h12 => absurd h12 (fun q => q (nI_le (by omega) (by omega))))
    exact a_loc _ rfl kx
  | succ d ih =>
    intro m hm
    refine a_iload_n dX1_unitsIn_4 rfl ?_
    refine a_aload_n dX1_unitsIn_5 rfl ?_
    refine a_getR hp dX1_unitsIn_6 fs_X1_9 rfl (fl_o hw hf) ?_
    refine a_getI dX1_unitsIn_9 fs_X1_106 rfl (pl_o hw hpl) ?_
    rw [hM]
    refine a_icmp_ge (tgt := 32) dX1_unitsIn_12 (by decide) (fun h12 => absurd h12 (nI_ge (by omega) (by omega))) (fun h12 => ?_)
    refine a_iload_n dX1_unitsIn_15 rfl ?_
    refine a_aload_n dX1_unitsIn_16 rfl ?_
    refine a_getR (fl_r7 hw hf) dX1_unitsIn_17 fs_X1_27 rfl (fl_o hw hf) ?_
    refine a_iload_n dX1_unitsIn_20 rfl ?_
    refine a_aald (j := t) dX1_unitsIn_21 (fl_a4 hw hf) (by decide) (ixn (by omega) (by decide)) (fl_ru hw hf (by omega)) ?_
    refine a_iload_n dX1_unitsIn_22 rfl ?_
    refine a_ild dX1_unitsIn_23 (fl_u hw hf (by omega)) (ixn (by omega) (by decide)) ?_
    refine a_iadd dX1_unitsIn_24 ?_
    refine a_istore_n dX1_unitsIn_25 (by decide) ?_
    refine a_iincN dX1_unitsIn_26 rfl (by decide) ?_
    refine a_goto (tgt := 4) dX1_unitsIn_29 (by decide) ?_
    have q := ih (m + 1) (by omega)
    simp only [itN_succ] at q
    first | exact a_loc _ rfl q | (simp_all only [if_true, if_false, not_true_eq_false, not_false_eq_true, ne_eq]; exact a_loc _ rfl q)
theorem t_X1_unitsIn (hw : Wf μ) {f p : Nat} (hf : Fl f) (hpl : Pl p) (hp : gR μ f 0 = some p) {M : Nat} (hM : gI μ p 3 = nI M) (hM4 : M ≤ 12) {t : Nat} (ht : t < 8) : Ct Y_X1_unitsIn R_X1_unitsIn [.ref f, .int (nI t)] μ (.inl (some (.int (itN (fun i a => a + gI μ (f + 5 + t) i) 0 M)))) μ := by
  refine Ct.ent yk_X1_unitsIn (Nat.le_of_ble_eq_true rfl) ?_
  refine a_iconst (0 : Int32) dX1_unitsIn_0 (by decide) ?_
  refine a_istore_n dX1_unitsIn_1 (by decide) ?_
  refine a_iconst (0 : Int32) dX1_unitsIn_2 (by decide) ?_
  refine a_istore_n dX1_unitsIn_3 (by decide) ?_
  refine a_loc [(0, .ref f), (1, .int (nI t)), (2, .int (itN (fun i a => a + gI μ (f + 5 + t) i) 0 0)), (3, .int (nI 0))] rfl ?_
  refine l_X1_unitsIn_4 hw hf hpl hp hM hM4 ht ?_ M 0 (by omega)
  refine a_iload_n dX1_unitsIn_32 rfl ?_
  exact a_out rfl rfl (a_ireturn dX1_unitsIn_33 rfl rfl)
abbrev R_X1_loadedOf : Room := { frames := 0, cells := 0, slots := 0, locals := 0 }
abbrev RX_X1_loadedOf : Room := { frames := 0, cells := 1, slots := 6, locals := 0 }

theorem l_X1_loadedOf_4 (hw : Wf μ) {f p : Nat} (hf : Fl f) (hpl : Pl p) (hp : gR μ f 0 = some p) {T : Nat} (hT : gI μ p 5 = nI T) (hT4 : T ≤ 8) {k : Nat} (hk : k < 12) {o : Oc} {μ1 : Wd} (kx : AW Y_X1_loadedOf R_X1_loadedOf (0, 0) μ 32 [(0, .ref f), (1, .int (nI k)), (2, .int (itN (fun t a => a + gI μ (f + 5 + t) k) 0 T)), (3, .int (nI T))] [] o μ1) : ∀ d m, m + d = T → AW Y_X1_loadedOf R_X1_loadedOf (0, 0) μ 4 [(0, .ref f), (1, .int (nI k)), (2, .int (itN (fun t a => a + gI μ (f + 5 + t) k) 0 m)), (3, .int (nI m))] [] o μ1 := by
  intro d
  induction d with
  | zero =>
    intro m hm
    obtain rfl : T = m := by omega
    refine a_iload_n dX1_loadedOf_4 rfl ?_
    refine a_aload_n dX1_loadedOf_5 rfl ?_
    refine a_getR hp dX1_loadedOf_6 fs_X1_9 rfl (fl_o hw hf) ?_
    refine a_getI dX1_loadedOf_9 fs_X1_118 rfl (pl_o hw hpl) ?_
    rw [hT]
    refine a_icmp_ge (tgt := 32) dX1_loadedOf_12 (by decide) (fun h12 => ?_) (fun h12 => absurd h12 (fun q => q (nI_le (by omega) (by omega))))
    exact a_loc _ rfl kx
  | succ d ih =>
    intro m hm
    refine a_iload_n dX1_loadedOf_4 rfl ?_
    refine a_aload_n dX1_loadedOf_5 rfl ?_
    refine a_getR hp dX1_loadedOf_6 fs_X1_9 rfl (fl_o hw hf) ?_
    refine a_getI dX1_loadedOf_9 fs_X1_118 rfl (pl_o hw hpl) ?_
    rw [hT]
    refine a_icmp_ge (tgt := 32) dX1_loadedOf_12 (by decide) (fun h12 => absurd h12 (nI_ge (by omega) (by omega))) (fun h12 => ?_)
    refine a_iload_n dX1_loadedOf_15 rfl ?_
    refine a_aload_n dX1_loadedOf_16 rfl ?_
    refine a_getR (fl_r7 hw hf) dX1_loadedOf_17 fs_X1_27 rfl (fl_o hw hf) ?_
    refine a_iload_n dX1_loadedOf_20 rfl ?_
    refine a_aald (j := m) dX1_loadedOf_21 (fl_a4 hw hf) (by decide) (ixn (by omega) (by decide)) (fl_ru hw hf (by omega)) ?_
    refine a_iload_n dX1_loadedOf_22 rfl ?_
    refine a_ild dX1_loadedOf_23 (fl_u hw hf (by omega)) (ixn (by omega) (by decide)) ?_
    refine a_iadd dX1_loadedOf_24 ?_
    refine a_istore_n dX1_loadedOf_25 (by decide) ?_
    refine a_iincN dX1_loadedOf_26 rfl (by decide) ?_
    refine a_goto (tgt := 4) dX1_loadedOf_29 (by decide) ?_
    have q := ih (m + 1) (by omega)
    simp only [itN_succ] at q
    first | exact a_loc _ rfl q | (simp_all only [if_true, if_false, not_true_eq_false, not_false_eq_true, ne_eq]; exact a_loc _ rfl q)
theorem t_X1_loadedOf (hw : Wf μ) {f p : Nat} (hf : Fl f) (hpl : Pl p) (hp : gR μ f 0 = some p) {T : Nat} (hT : gI μ p 5 = nI T) (hT4 : T ≤ 8) {k : Nat} (hk : k < 12) : Ct Y_X1_loadedOf R_X1_loadedOf [.ref f, .int (nI k)] μ (.inl (some (.int (itN (fun t a => a + gI μ (f + 5 + t) k) 0 T)))) μ := by
  refine Ct.ent yk_X1_loadedOf (Nat.le_of_ble_eq_true rfl) ?_
  refine a_iconst (0 : Int32) dX1_loadedOf_0 (by decide) ?_
  refine a_istore_n dX1_loadedOf_1 (by decide) ?_
  refine a_iconst (0 : Int32) dX1_loadedOf_2 (by decide) ?_
  refine a_istore_n dX1_loadedOf_3 (by decide) ?_
  refine a_loc [(0, .ref f), (1, .int (nI k)), (2, .int (itN (fun t a => a + gI μ (f + 5 + t) k) 0 0)), (3, .int (nI 0))] rfl ?_
  refine l_X1_loadedOf_4 hw hf hpl hp hT hT4 hk ?_ T 0 (by omega)
  refine a_iload_n dX1_loadedOf_32 rfl ?_
  exact a_out rfl rfl (a_ireturn dX1_loadedOf_33 rfl rfl)
abbrev R_X1_allLoaded : Room := { frames := 1, cells := 0, slots := 0, locals := 23 }
abbrev RX_X1_allLoaded : Room := { frames := 1, cells := 1, slots := 6, locals := 23 }

theorem l_X1_allLoaded_4 (hw : Wf μ) {f p : Nat} (hf : Fl f) (hpl : Pl p) (hp : gR μ f 0 = some p) {M : Nat} (hM : gI μ p 3 = nI M) (hM4 : M ≤ 12) {T : Nat} (hT : gI μ p 5 = nI T) (hT4 : T ≤ 8) {o : Oc} {μ1 : Wd} (kx : AW Y_X1_allLoaded R_X1_allLoaded (0, 0) μ 29 [(0, .ref f), (1, .int (itN (fun t a => a + itN (fun i a => a + gI μ (f + 5 + t) i) 0 M) 0 T)), (2, .int (nI T))] [] o μ1) : ∀ d m, m + d = T → AW Y_X1_allLoaded R_X1_allLoaded (0, 0) μ 4 [(0, .ref f), (1, .int (itN (fun t a => a + itN (fun i a => a + gI μ (f + 5 + t) i) 0 M) 0 m)), (2, .int (nI m))] [] o μ1 := by
  intro d
  induction d with
  | zero =>
    intro m hm
    obtain rfl : T = m := by omega
    refine a_iload_n dX1_allLoaded_4 rfl ?_
    refine a_aload_n dX1_allLoaded_5 rfl ?_
    refine a_getR hp dX1_allLoaded_6 fs_X1_9 rfl (fl_o hw hf) ?_
    refine a_getI dX1_allLoaded_9 fs_X1_118 rfl (pl_o hw hpl) ?_
    rw [hT]
    refine a_icmp_ge (tgt := 29) dX1_allLoaded_12 (by decide) (fun h12 => ?_) (fun h12 => absurd h12 (fun q => q (nI_le (by omega) (by omega))))
    exact a_loc _ rfl kx
  | succ d ih =>
    intro m hm
    refine a_iload_n dX1_allLoaded_4 rfl ?_
    refine a_aload_n dX1_allLoaded_5 rfl ?_
    refine a_getR hp dX1_allLoaded_6 fs_X1_9 rfl (fl_o hw hf) ?_
    refine a_getI dX1_allLoaded_9 fs_X1_118 rfl (pl_o hw hpl) ?_
    rw [hT]
    refine a_icmp_ge (tgt := 29) dX1_allLoaded_12 (by decide) (fun h12 => absurd h12 (nI_ge (by omega) (by omega))) (fun h12 => ?_)
    refine a_iload_n dX1_allLoaded_15 rfl ?_
    refine a_aload_n dX1_allLoaded_16 rfl ?_
    refine a_iload_n dX1_allLoaded_17 rfl ?_
    refine a_inv (b2 := (0, 0)) (t_X1_unitsIn hw hf hpl hp hM hM4 (show m < 8 by omega)) rfl dX1_allLoaded_18 yk_X1_unitsIn im_X1_unitsIn se_X1_unitsIn ml_X1_127 rfl (fl_o hw hf) (by decide) hc_X1 (by decide) (by decide) (Nat.le_of_ble_eq_true rfl) ?_
    refine a_iadd dX1_allLoaded_21 ?_
    refine a_istore_n dX1_allLoaded_22 (by decide) ?_
    refine a_iincN dX1_allLoaded_23 rfl (by decide) ?_
    refine a_goto (tgt := 4) dX1_allLoaded_26 (by decide) ?_
    have q := ih (m + 1) (by omega)
    simp only [itN_succ] at q
    first | exact a_loc _ rfl q | (simp_all only [if_true, if_false, not_true_eq_false, not_false_eq_true, ne_eq]; exact a_loc _ rfl q)
theorem t_X1_allLoaded (hw : Wf μ) {f p : Nat} (hf : Fl f) (hpl : Pl p) (hp : gR μ f 0 = some p) {M : Nat} (hM : gI μ p 3 = nI M) (hM4 : M ≤ 12) {T : Nat} (hT : gI μ p 5 = nI T) (hT4 : T ≤ 8) : Ct Y_X1_allLoaded R_X1_allLoaded [.ref f] μ (.inl (some (.int (itN (fun t a => a + itN (fun i a => a + gI μ (f + 5 + t) i) 0 M) 0 T)))) μ := by
  refine Ct.ent yk_X1_allLoaded (Nat.le_of_ble_eq_true rfl) ?_
  refine a_iconst (0 : Int32) dX1_allLoaded_0 (by decide) ?_
  refine a_istore_n dX1_allLoaded_1 (by decide) ?_
  refine a_iconst (0 : Int32) dX1_allLoaded_2 (by decide) ?_
  refine a_istore_n dX1_allLoaded_3 (by decide) ?_
  refine a_loc [(0, .ref f), (1, .int (itN (fun t a => a + itN (fun i a => a + gI μ (f + 5 + t) i) 0 M) 0 0)), (2, .int (nI 0))] rfl ?_
  refine l_X1_allLoaded_4 hw hf hpl hp hM hM4 hT hT4 ?_ T 0 (by omega)
  refine a_iload_n dX1_allLoaded_29 rfl ?_
  exact a_out rfl rfl (a_ireturn dX1_allLoaded_30 rfl rfl)
abbrev R_X1_onTheWay : Room := { frames := 0, cells := 0, slots := 0, locals := 0 }
abbrev RX_X1_onTheWay : Room := { frames := 0, cells := 1, slots := 6, locals := 0 }

theorem l_X1_onTheWay_4 (hw : Wf μ) {f : Nat} (hf : Fl f) {U : Nat} (hU : gI μ f 8 = nI U) (hU4 : U ≤ 6) (c : Int32) {o : Oc} {μ1 : Wd} (kx : AW Y_X1_onTheWay R_X1_onTheWay (0, 0) μ 37 [(0, .ref f), (1, .int c), (2, .int (itN (fun i a => if gI μ (f + 13) i = c then a + gI μ (f + 14) i else a) 0 U)), (3, .int (nI U))] [] o μ1) : ∀ d m, m + d = U → AW Y_X1_onTheWay R_X1_onTheWay (0, 0) μ 4 [(0, .ref f), (1, .int c), (2, .int (itN (fun i a => if gI μ (f + 13) i = c then a + gI μ (f + 14) i else a) 0 m)), (3, .int (nI m))] [] o μ1 := by
  intro d
  induction d with
  | zero =>
    intro m hm
    obtain rfl : U = m := by omega
    refine a_iload_n dX1_onTheWay_4 rfl ?_
    refine a_aload_n dX1_onTheWay_5 rfl ?_
    refine a_getI dX1_onTheWay_6 fs_X1_51 rfl (fl_o hw hf) ?_
    rw [hU]
    refine a_icmp_ge (tgt := 37) dX1_onTheWay_9 (by decide) (fun h9 => ?_) (fun h9 => absurd h9 (fun q => q (nI_le (by omega) (by omega))))
    exact a_loc _ rfl kx
  | succ d ih =>
    intro m hm
    refine a_iload_n dX1_onTheWay_4 rfl ?_
    refine a_aload_n dX1_onTheWay_5 rfl ?_
    refine a_getI dX1_onTheWay_6 fs_X1_51 rfl (fl_o hw hf) ?_
    rw [hU]
    refine a_icmp_ge (tgt := 37) dX1_onTheWay_9 (by decide) (fun h9 => absurd h9 (nI_ge (by omega) (by omega))) (fun h9 => ?_)
    refine a_aload_n dX1_onTheWay_12 rfl ?_
    refine a_getR (fl_r9 hw hf) dX1_onTheWay_13 fs_X1_30 rfl (fl_o hw hf) ?_
    refine a_iload_n dX1_onTheWay_16 rfl ?_
    refine a_ild dX1_onTheWay_17 (fl_a13 hw hf) (ixn (by omega) (by decide)) ?_
    refine a_iload_n dX1_onTheWay_18 rfl ?_
    refine a_icmp_ne (tgt := 31) dX1_onTheWay_19 (by decide) (fun h19 => ?_) (fun h19 => ?_)
    · refine a_iincN dX1_onTheWay_31 rfl (by decide) ?_
      refine a_goto (tgt := 4) dX1_onTheWay_34 (by decide) ?_
      have q := ih (m + 1) (by omega)
      simp only [itN_succ] at q
      first | exact a_loc _ rfl q | (simp_all only [if_true, if_false, not_true_eq_false, not_false_eq_true, ne_eq]; exact a_loc _ rfl q)
    · refine a_iload_n dX1_onTheWay_22 rfl ?_
      refine a_aload_n dX1_onTheWay_23 rfl ?_
      refine a_getR (fl_r10 hw hf) dX1_onTheWay_24 fs_X1_33 rfl (fl_o hw hf) ?_
      refine a_iload_n dX1_onTheWay_27 rfl ?_
      refine a_ild dX1_onTheWay_28 (fl_a14 hw hf) (ixn (by omega) (by decide)) ?_
      refine a_iadd dX1_onTheWay_29 ?_
      refine a_istore_n dX1_onTheWay_30 (by decide) ?_
      refine a_iincN dX1_onTheWay_31 rfl (by decide) ?_
      refine a_goto (tgt := 4) dX1_onTheWay_34 (by decide) ?_
      have q := ih (m + 1) (by omega)
      simp only [itN_succ] at q
      first | exact a_loc _ rfl q | (simp_all only [if_true, if_false, not_true_eq_false, not_false_eq_true, ne_eq]; exact a_loc _ rfl q)
theorem t_X1_onTheWay (hw : Wf μ) {f : Nat} (hf : Fl f) {U : Nat} (hU : gI μ f 8 = nI U) (hU4 : U ≤ 6) (c : Int32) : Ct Y_X1_onTheWay R_X1_onTheWay [.ref f, .int c] μ (.inl (some (.int (itN (fun i a => if gI μ (f + 13) i = c then a + gI μ (f + 14) i else a) 0 U)))) μ := by
  refine Ct.ent yk_X1_onTheWay (Nat.le_of_ble_eq_true rfl) ?_
  refine a_iconst (0 : Int32) dX1_onTheWay_0 (by decide) ?_
  refine a_istore_n dX1_onTheWay_1 (by decide) ?_
  refine a_iconst (0 : Int32) dX1_onTheWay_2 (by decide) ?_
  refine a_istore_n dX1_onTheWay_3 (by decide) ?_
  refine a_loc [(0, .ref f), (1, .int c), (2, .int (itN (fun i a => if gI μ (f + 13) i = c then a + gI μ (f + 14) i else a) 0 0)), (3, .int (nI 0))] rfl ?_
  refine l_X1_onTheWay_4 hw hf hU hU4 c ?_ U 0 (by omega)
  refine a_iload_n dX1_onTheWay_37 rfl ?_
  exact a_out rfl rfl (a_ireturn dX1_onTheWay_38 rfl rfl)
abbrev R_X1_missing : Room := { frames := 2, cells := 0, slots := 0, locals := 43 }
abbrev RX_X1_missing : Room := { frames := 2, cells := 1, slots := 6, locals := 43 }

/-- the units of a meal that are loaded; that are on their way -/
def ldV (μ : Wd) (f T k : Nat) : Int32 := itN (fun t a => a + gI μ (f + 5 + t) k) 0 T
def owV (μ : Wd) (f U : Nat) (c : Int32) : Int32 := itN (fun i a => if gI μ (f + 13) i = c then a + gI μ (f + 14) i else a) 0 U
theorem t_X1_missing (hw : Wf μ) {f p : Nat} (hf : Fl f) (hpl : Pl p) (hp : gR μ f 0 = some p) {T : Nat} (hT : gI μ p 5 = nI T) (hT4 : T ≤ 8) {U : Nat} (hU : gI μ f 8 = nI U) (hU4 : U ≤ 6) {k : Nat} (hk : k < 12) (n : Int32) : Ct Y_X1_missing R_X1_missing [.ref f, .int (nI k), .int n] μ (.inl (some (.int (if (0 : Int32) < n - ldV μ f T k - owV μ f U (nI k) then n - ldV μ f T k - owV μ f U (nI k) else 0)))) μ := by
  refine Ct.ent yk_X1_missing (Nat.le_of_ble_eq_true rfl) ?_
  refine a_iconst (0 : Int32) dX1_missing_0 (by decide) ?_
  refine a_iload_n dX1_missing_1 rfl ?_
  refine a_aload_n dX1_missing_2 rfl ?_
  refine a_iload_n dX1_missing_3 rfl ?_
  refine a_inv (b2 := (0, 0)) (t_X1_loadedOf hw hf hpl hp hT hT4 hk) rfl dX1_missing_4 yk_X1_loadedOf im_X1_loadedOf se_X1_loadedOf ml_X1_130 rfl (fl_o hw hf) (by decide) hc_X1 (by decide) (by decide) (Nat.le_of_ble_eq_true rfl) ?_
  refine a_isub dX1_missing_7 ?_
  refine a_aload_n dX1_missing_8 rfl ?_
  refine a_iload_n dX1_missing_9 rfl ?_
  refine a_inv (b2 := (0, 0)) (t_X1_onTheWay hw hf hU hU4 (nI k)) rfl dX1_missing_10 yk_X1_onTheWay im_X1_onTheWay se_X1_onTheWay ml_X1_133 rfl (fl_o hw hf) (by decide) hc_X1 (by decide) (by decide) (Nat.le_of_ble_eq_true rfl) ?_
  refine a_isub dX1_missing_13 ?_
  refine a_mmax dX1_missing_14 ml_X1_136 (by decide) (by decide) (Nat.le_of_ble_eq_true rfl) ?_
  exact a_out rfl rfl (a_ireturn dX1_missing_17 rfl rfl)
end FLIGHTR
