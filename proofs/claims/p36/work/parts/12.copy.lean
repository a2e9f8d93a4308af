section FLIGHTW
variable {μ : Wd}
theorem ac_link : Cond.methodLink RX1 63 arraycopyName ∈ lwa := lwa_in 800 (by decide +kernel) rfl
theorem ac_nat : Cond.native arraycopyName ∈ lwa := lwa_in 802 (by decide +kernel) rfl
theorem ac_st : Cond.static arraycopyName ∈ lwa := lwa_in 801 (by decide +kernel) rfl
theorem ac_ini : Cond.initialized "java/lang/System" ∈ lwa := lwa_in 73 (by decide +kernel) rfl
/-- the first n of one array over those of another -/
def cpI (μ : Wd) (a c n : Nat) : Wd := sIs μ (fun i k => if i = c ∧ k < n then gI μ a k else gI μ i k)
def cpL (μ : Wd) (a c n : Nat) : Wd := sLs μ (fun i k => if i = c ∧ k < n then gL μ a k else gL μ i k)
theorem gI_cpI (μ : Wd) (a c n i k : Nat) : gI (cpI μ a c n) i k = if i = c ∧ k < n then gI μ a k else gI μ i k := rfl
theorem gL_cpI (μ : Wd) (a c n i k : Nat) : gL (cpI μ a c n) i k = gL μ i k := rfl
theorem gR_cpI (μ : Wd) (a c n i k : Nat) : gR (cpI μ a c n) i k = gR μ i k := rfl
theorem gI_cpL (μ : Wd) (a c n i k : Nat) : gI (cpL μ a c n) i k = gI μ i k := rfl
theorem gL_cpL (μ : Wd) (a c n i k : Nat) : gL (cpL μ a c n) i k = if i = c ∧ k < n then gL μ a k else gL μ i k := rfl
theorem gR_cpL (μ : Wd) (a c n i k : Nat) : gR (cpL μ a c n) i k = gR μ i k := rfl
section ROWS
variable {Y : Yd} {rm : Room} {b : Nat × Nat} {μ1 : Wd} {pc : Nat} {la : List (Nat × Value)} {st : List Value} {o : Oc}
theorem a_copyi {i a c9 n n0 n1 : Nat} {x : Int32} (hd : decode Y.2.1 pc = .ok (.invokestatic i, 3)) (hl : Cond.methodLink Y.1.cls i arraycopyName ∈ lwa) (ho : Ar μ a 20 n0) (ho1 : Ar μ c9 20 n1) (hx : nI n = x) (hn0 : n ≤ n0) (hn1 : n ≤ n1) (hn : n < 4096) (hf : 1 ≤ rm.frames) (hr : 60 ≤ rm.locals) (hst : (st.map fun v => v.category).sum ≤ 8) (kk : AW Y rm b (cpI μ a c9 n) (pc + 3) la st o μ1) : AW Y rm b μ pc la (.int x :: .int 0 :: .ref c9 :: .int 0 :: .ref a :: st) o μ1 := by
  subst hx
  intro p l e s m args below meth c H locs cells slots ls D cA base ad0 n0_ ad C E h1 h2 h3
  have hts := C.2.2.2.2.2.1
  have he : ∀ (μ' : Wd) (a9 n9 : Nat), Ar μ' a9 20 n9 → (wsO ad cA μ')[a9]? = some (ad a9, .inl (cA 20, n9, .inl (gI μ' a9))) := fun μ' a9 n9 h => by
    rw [wsO_get h.1, ent_arr h.2.1 (by omega) h.2.2]
    unfold ec
    rw [h.2.1]
    rfl
  have hc : (nI n).toNatClampNeg = n := nI_clamp (by omega)
  have h0 : (0 : Int32).toNatClampNeg = 0 := by decide
  have hws : wsO ad cA (cpI μ a c9 n) = (wsO ad cA μ).set c9 (ad c9, .inl (cA 20, n1, .inl (va_cpy (gI μ a) (gI μ c9) (0 : Int32).toNatClampNeg (0 : Int32).toNatClampNeg (nI n).toNatClampNeg))) := by
    have e1 := he (cpI μ a c9 n) c9 n1 ho1
    rw [wsO_get (show c9 < wn (cpI μ a c9 n) from ho1.1)] at e1
    refine (wsO_set (μ := μ) (μ' := cpI μ a c9 n) (a := c9) rfl (fun k9 hk9 => ?_)).trans (by
      rw [Option.some.inj e1]
      refine congrArg (fun z => (wsO ad cA μ).set c9 (ad c9, .inl (cA 20, n1, z))) ?_
      refine congrArg Sum.inl (funext fun k9 => ?_)
      rw [hc, h0]
      simp [gI_cpI, va_cpy])
    · unfold ent fvs
      rw [show km (cpI μ a c9 n) k9 = km μ k9 from rfl]
      have hfv : fv ad (cpI μ a c9 n) k9 (km μ k9) = fv ad μ k9 (km μ k9) := funext fun z => by
        simp only [fv, gI_cpI, gL_cpI, gR_cpI, gI_cpL, gL_cpL, gR_cpL]
        simp [hk9]
      have hec : ec ad (cpI μ a c9 n) k9 = ec ad μ k9 := by
        unfold ec
        rw [show km (cpI μ a c9 n) k9 = km μ k9 from rfl]
        have q1 : gI (cpI μ a c9 n) k9 = gI μ k9 := funext fun z => by first | rfl | (rw [gI_cpI]; simp [hk9])
        have q2 : gL (cpI μ a c9 n) k9 = gL μ k9 := funext fun z => by first | rfl | (rw [gL_cpL]; simp [hk9])
        have q3 : gR (cpI μ a c9 n) k9 = gR μ k9 := funext fun z => rfl
        simp only [q1, q2, q3]
      rw [hfv, hec]
      rfl
  refine va_copyi (D := D) C.1 C.2.1 (C.2.2.1.trans h3.1.symm) C.2.2.2.2.1 (hts _ hl) (hts _ ac_nat) (hts _ ac_st) (hts _ ac_ini) E.2.1 E.2.2.1.1 E.2.2.1.2.1 E.2.2.2.1 a c9 (20 - 20) (20 - 20) (he μ a n0 ho) (he μ c9 n1 ho1) (tyL_get cA (t := 20) (by omega) (by omega)) (tyL_get cA (t := 20) (by omega) (by omega)) rfl (by decide) (by decide) (nI_pos (by omega)) (by rw [hc, h0]; omega) (by rw [hc, h0]; omega) (fun _ _ => rfl) hf (by rw [cat_tv]; exact Nat.le_trans (Nat.add_le_add_right hst _) (Nat.le_trans (by decide) hr)) hd (fun H1 locs1 hP hD hS => ?_)
  have hP : va_P D vwCl (wsO ad cA (cpI μ a c9 n)) H1 := by rw [hws]; exact hP
  have hD : va_D (fun q => base ≤ q) (wsO ad cA (cpI μ a c9 n)) := by rw [hws]; exact hD
  exact kk p l e s m args below meth c H1 locs1 cells slots ls D cA base ad0 n0_ ad C (E.wd hP hD hS rfl E.2.2.1.2.2.1 rfl (fun q => scr_kept E.2.2.2.2.1 E.2.2.2.1 hS q)) h1 (by simp only [okS_cons] at h2; exact h2.2.2.2.2.2) h3
theorem a_copyl {i a c9 n n0 n1 : Nat} {x : Int32} (hd : decode Y.2.1 pc = .ok (.invokestatic i, 3)) (hl : Cond.methodLink Y.1.cls i arraycopyName ∈ lwa) (ho : Ar μ a 21 n0) (ho1 : Ar μ c9 21 n1) (hx : nI n = x) (hn0 : n ≤ n0) (hn1 : n ≤ n1) (hn : n < 4096) (hf : 1 ≤ rm.frames) (hr : 60 ≤ rm.locals) (hst : (st.map fun v => v.category).sum ≤ 8) (kk : AW Y rm b (cpL μ a c9 n) (pc + 3) la st o μ1) : AW Y rm b μ pc la (.int x :: .int 0 :: .ref c9 :: .int 0 :: .ref a :: st) o μ1 := by
  subst hx
  intro p l e s m args below meth c H locs cells slots ls D cA base ad0 n0_ ad C E h1 h2 h3
  have hts := C.2.2.2.2.2.1
  have he : ∀ (μ' : Wd) (a9 n9 : Nat), Ar μ' a9 21 n9 → (wsO ad cA μ')[a9]? = some (ad a9, .inl (cA 21, n9, .inr (.inl (gL μ' a9)))) := fun μ' a9 n9 h => by
    rw [wsO_get h.1, ent_arr h.2.1 (by omega) h.2.2]
    unfold ec
    rw [h.2.1]
    rfl
  have hc : (nI n).toNatClampNeg = n := nI_clamp (by omega)
  have h0 : (0 : Int32).toNatClampNeg = 0 := by decide
  have hws : wsO ad cA (cpL μ a c9 n) = (wsO ad cA μ).set c9 (ad c9, .inl (cA 21, n1, .inr (.inl (va_cpy (gL μ a) (gL μ c9) (0 : Int32).toNatClampNeg (0 : Int32).toNatClampNeg (nI n).toNatClampNeg)))) := by
    have e1 := he (cpL μ a c9 n) c9 n1 ho1
    rw [wsO_get (show c9 < wn (cpL μ a c9 n) from ho1.1)] at e1
    refine (wsO_set (μ := μ) (μ' := cpL μ a c9 n) (a := c9) rfl (fun k9 hk9 => ?_)).trans (by
      rw [Option.some.inj e1]
      refine congrArg (fun z => (wsO ad cA μ).set c9 (ad c9, .inl (cA 21, n1, z))) ?_
      refine congrArg (fun f => Sum.inr (Sum.inl f)) (funext fun k9 => ?_)
      rw [hc, h0]
      simp [gL_cpL, va_cpy])
    · unfold ent fvs
      rw [show km (cpL μ a c9 n) k9 = km μ k9 from rfl]
      have hfv : fv ad (cpL μ a c9 n) k9 (km μ k9) = fv ad μ k9 (km μ k9) := funext fun z => by
        simp only [fv, gI_cpI, gL_cpI, gR_cpI, gI_cpL, gL_cpL, gR_cpL]
        simp [hk9]
      have hec : ec ad (cpL μ a c9 n) k9 = ec ad μ k9 := by
        unfold ec
        rw [show km (cpL μ a c9 n) k9 = km μ k9 from rfl]
        have q1 : gI (cpL μ a c9 n) k9 = gI μ k9 := funext fun z => by first | rfl | (rw [gI_cpI]; simp [hk9])
        have q2 : gL (cpL μ a c9 n) k9 = gL μ k9 := funext fun z => by first | rfl | (rw [gL_cpL]; simp [hk9])
        have q3 : gR (cpL μ a c9 n) k9 = gR μ k9 := funext fun z => rfl
        simp only [q1, q2, q3]
      rw [hfv, hec]
      rfl
  refine va_copyl (D := D) C.1 C.2.1 (C.2.2.1.trans h3.1.symm) C.2.2.2.2.1 (hts _ hl) (hts _ ac_nat) (hts _ ac_st) (hts _ ac_ini) E.2.1 E.2.2.1.1 E.2.2.1.2.1 E.2.2.2.1 a c9 (21 - 20) (21 - 20) (he μ a n0 ho) (he μ c9 n1 ho1) (tyL_get cA (t := 21) (by omega) (by omega)) (tyL_get cA (t := 21) (by omega) (by omega)) rfl (by decide) (by decide) (nI_pos (by omega)) (by rw [hc, h0]; omega) (by rw [hc, h0]; omega) (fun _ _ => rfl) hf (by rw [cat_tv]; exact Nat.le_trans (Nat.add_le_add_right hst _) (Nat.le_trans (by decide) hr)) hd (fun H1 locs1 hP hD hS => ?_)
  have hP : va_P D vwCl (wsO ad cA (cpL μ a c9 n)) H1 := by rw [hws]; exact hP
  have hD : va_D (fun q => base ≤ q) (wsO ad cA (cpL μ a c9 n)) := by rw [hws]; exact hD
  exact kk p l e s m args below meth c H1 locs1 cells slots ls D cA base ad0 n0_ ad C (E.wd hP hD hS rfl E.2.2.1.2.2.1 rfl (fun q => scr_kept E.2.2.2.2.1 E.2.2.2.1 hS q)) h1 (by simp only [okS_cons] at h2; exact h2.2.2.2.2.2) h3
end ROWS
abbrev R_X1_copyAccounts : Room := { frames := 2, cells := 0, slots := 0, locals := 63 }
abbrev RX_X1_copyAccounts : Room := { frames := 2, cells := 1, slots := 6, locals := 63 }

theorem t_X1_copyAccounts (hw : Wf μ) {f g : Nat} (hf : Fl f) (hg : Fl g) : Ct Y_X1_copyAccounts R_X1_copyAccounts [.ref f, .ref g] μ (.inl (none)) (cpL μ (g + 16) (f + 16) 6) := by
  refine Ct.ent yk_X1_copyAccounts (Nat.le_of_ble_eq_true rfl) ?_
  refine a_aload_n dX1_copyAccounts_0 rfl ?_
  refine a_getR (fl_r12 hw hg) dX1_copyAccounts_1 fs_X1_39 rfl (fl_o hw hg) ?_
  refine a_iconst (0 : Int32) dX1_copyAccounts_4 (by decide) ?_
  refine a_aload_n dX1_copyAccounts_5 rfl ?_
  refine a_getR (fl_r12 hw hf) dX1_copyAccounts_6 fs_X1_39 rfl (fl_o hw hf) ?_
  refine a_iconst (0 : Int32) dX1_copyAccounts_9 (by decide) ?_
  refine a_bipush (6 : Int32) dX1_copyAccounts_10 (by decide) ?_
  refine a_copyl (n := 6) dX1_copyAccounts_12 ac_link (fl_a16 hw hg) (fl_a16 hw hf) rfl (by decide) (by decide) (by decide) (by decide) (by decide) (Nat.le_of_ble_eq_true rfl) ?_
  exact a_out rfl rfl (a_return dX1_copyAccounts_15 rfl)
abbrev R_X1_copy : Room := { frames := 3, cells := 0, slots := 0, locals := 84 }
abbrev RX_X1_copy : Room := { frames := 3, cells := 1, slots := 6, locals := 84 }

/-- the units of g's trolleys over those of f, the first t of them -/
def cpU (μ : Wd) (f g : Nat) : Nat → Wd
  | 0 => μ
  | t + 1 => cpI (cpU μ f g t) (g + 5 + t) (f + 5 + t) 12
theorem Wf.sI {μ : Wd} (hw : Wf μ) {i k : Nat} {v : Int32} : Wf (sI μ i k v) := hw
theorem Wf.sL {μ : Wd} (hw : Wf μ) {i k : Nat} {v : Int64} : Wf (sL μ i k v) := hw
theorem Wf.sIs {μ : Wd} (hw : Wf μ) {f : Nat → Nat → Int32} : Wf (sIs μ f) := hw
theorem Wf.sLs {μ : Wd} (hw : Wf μ) {f : Nat → Nat → Int64} : Wf (sLs μ f) := hw
theorem Wf.cpI {μ : Wd} (hw : Wf μ) {a c n : Nat} : Wf (cpI μ a c n) := hw
theorem Wf.cpL {μ : Wd} (hw : Wf μ) {a c n : Nat} : Wf (cpL μ a c n) := hw
theorem Wf.cpU {μ : Wd} (hw : Wf μ) {f g : Nat} : ∀ {t}, Wf (cpU μ f g t)
  | 0 => hw
  | t + 1 => Wf.cpU (t := t) hw
/-- the first half, the second half of a flight's copy -/
def cp1 (μ : Wd) (f g p : Nat) : Wd := sR μ f 0 (some p)
def cp2 (μ : Wd) (f g k : Nat) : Wd := sI μ f k (gI μ g k)
theorem Wf.cp2 {μ : Wd} (hw : Wf μ) {f g k : Nat} : Wf (cp2 μ f g k) := hw
def cpA (μ : Wd) (f g p : Nat) : Wd := cpI (cpI (cpI (cp2 (cp2 (cp2 (cp1 μ f g p) f g 1) f g 2) f g 3) (g + 1) (f + 1) 40) (g + 2) (f + 2) 40) (g + 3) (f + 3) 40
def cpB (μ : Wd) (f g : Nat) : Wd := cpL (cpI (cpI (cpI (cp2 μ f g 8) (g + 13) (f + 13) 6) (g + 14) (f + 14) 6) (g + 15) (f + 15) 6) (g + 16) (f + 16) 6
def cpF (μ : Wd) (f g p : Nat) : Wd := cpB (cpU (cpA μ f g p) f g 8) f g
theorem Fl.r00 {f : Nat} (hf : Fl f) : r0 f 0 = none := by
  have h : ∀ f ∈ flB, r0 f 0 = none := by decide +kernel
  exact h f hf
theorem Wf.sR {μ : Wd} (hw : Wf μ) {i k : Nat} (h : r0 i k = none) (v : Option Nat) : Wf (sR μ i k v) := ⟨hw.1, fun a b j hj => by
  rw [gR_sR]
  split
  · rename_i q
    rw [q.1, q.2, h] at hj
    cases hj
  · exact hw.2 a b j hj⟩
theorem nB {x : Int32} (h : x = 0 ∨ x = 1) : narrow .boolean (.int x) = .int x := by rcases h with rfl | rfl <;> rfl
theorem fB {x : Int32} (h : x = 0 ∨ x = 1) : fits .boolean (.int x) = true := by rcases h with rfl | rfl <;> rfl
theorem l_X1_copy_79 (hw : Wf μ) {f g : Nat} (hf : Fl f) (hg : Fl g) {o : Oc} {μ1 : Wd} (kx : AW Y_X1_copy R_X1_copy (0, 0) (cpU μ f g 8) 110 [(0, .ref f), (1, .ref g), (2, .int (nI 8))] [] o μ1) : ∀ d m, m + d = 8 → AW Y_X1_copy R_X1_copy (0, 0) (cpU μ f g m) 79 [(0, .ref f), (1, .ref g), (2, .int (nI m))] [] o μ1 := by
  intro d
  induction d with
  | zero =>
    intro m hm
    obtain rfl : 8 = m := by omega
    have hw := hw.cpU (f := f) (g := g) (t := 8)
    refine a_iload_n dX1_copy_79 rfl ?_
    refine a_bipush (8 : Int32) dX1_copy_80 (by decide) ?_
    refine a_icmp_ge (tgt := 110) dX1_copy_82 (by decide) (fun h82 => ?_) (fun h82 => absurd h82 (fun q => q (by decide)))
    exact a_loc _ rfl kx
  | succ d ih =>
    intro m hm
    have hw := hw.cpU (f := f) (g := g) (t := m)
    refine a_iload_n dX1_copy_79 rfl ?_
    refine a_bipush (8 : Int32) dX1_copy_80 (by decide) ?_
    refine a_icmp_ge (tgt := 110) dX1_copy_82 (by decide) (fun h82 => absurd h82 (by rw [show (8 : Int32) = nI 8 from rfl]; exact nI_ge (by omega) (by omega))) (fun h82 => ?_)
    refine a_aload_n dX1_copy_85 rfl ?_
    refine a_getR (fl_r7 (by repeat (first | with_reducible exact hw | with_reducible exact hwc | with_reducible assumption | with_reducible apply Wf.sI | with_reducible apply Wf.sL | with_reducible apply Wf.cpI | with_reducible apply Wf.cpL | with_reducible apply Wf.cp2 | with_reducible apply Wf.sIs | with_reducible apply Wf.sLs | with_reducible apply Wf.cpU | with_reducible apply Wf.fillI | with_reducible apply Wf.clU | with_reducible apply Wf.dnF | with_reducible apply Wf.gbW)) hg) dX1_copy_86 fs_X1_27 rfl (fl_o (by repeat (first | with_reducible exact hw | with_reducible exact hwc | with_reducible assumption | with_reducible apply Wf.sI | with_reducible apply Wf.sL | with_reducible apply Wf.cpI | with_reducible apply Wf.cpL | with_reducible apply Wf.cp2 | with_reducible apply Wf.sIs | with_reducible apply Wf.sLs | with_reducible apply Wf.cpU | with_reducible apply Wf.fillI | with_reducible apply Wf.clU | with_reducible apply Wf.dnF | with_reducible apply Wf.gbW)) hg) ?_
    refine a_iload_n dX1_copy_89 rfl ?_
    refine a_aald (j := m) dX1_copy_90 (fl_a4 (by repeat (first | with_reducible exact hw | with_reducible exact hwc | with_reducible assumption | with_reducible apply Wf.sI | with_reducible apply Wf.sL | with_reducible apply Wf.cpI | with_reducible apply Wf.cpL | with_reducible apply Wf.cp2 | with_reducible apply Wf.sIs | with_reducible apply Wf.sLs | with_reducible apply Wf.cpU | with_reducible apply Wf.fillI | with_reducible apply Wf.clU | with_reducible apply Wf.dnF | with_reducible apply Wf.gbW)) hg) (by decide) (ixn (by omega) (by decide)) (fl_ru (by repeat (first | with_reducible exact hw | with_reducible exact hwc | with_reducible assumption | with_reducible apply Wf.sI | with_reducible apply Wf.sL | with_reducible apply Wf.cpI | with_reducible apply Wf.cpL | with_reducible apply Wf.cp2 | with_reducible apply Wf.sIs | with_reducible apply Wf.sLs | with_reducible apply Wf.cpU | with_reducible apply Wf.fillI | with_reducible apply Wf.clU | with_reducible apply Wf.dnF | with_reducible apply Wf.gbW)) hg (by omega)) ?_
    refine a_iconst (0 : Int32) dX1_copy_91 (by decide) ?_
    refine a_aload_n dX1_copy_92 rfl ?_
    refine a_getR (fl_r7 (by repeat (first | with_reducible exact hw | with_reducible exact hwc | with_reducible assumption | with_reducible apply Wf.sI | with_reducible apply Wf.sL | with_reducible apply Wf.cpI | with_reducible apply Wf.cpL | with_reducible apply Wf.cp2 | with_reducible apply Wf.sIs | with_reducible apply Wf.sLs | with_reducible apply Wf.cpU | with_reducible apply Wf.fillI | with_reducible apply Wf.clU | with_reducible apply Wf.dnF | with_reducible apply Wf.gbW)) hf) dX1_copy_93 fs_X1_27 rfl (fl_o (by repeat (first | with_reducible exact hw | with_reducible exact hwc | with_reducible assumption | with_reducible apply Wf.sI | with_reducible apply Wf.sL | with_reducible apply Wf.cpI | with_reducible apply Wf.cpL | with_reducible apply Wf.cp2 | with_reducible apply Wf.sIs | with_reducible apply Wf.sLs | with_reducible apply Wf.cpU | with_reducible apply Wf.fillI | with_reducible apply Wf.clU | with_reducible apply Wf.dnF | with_reducible apply Wf.gbW)) hf) ?_
    refine a_iload_n dX1_copy_96 rfl ?_
    refine a_aald (j := m) dX1_copy_97 (fl_a4 (by repeat (first | with_reducible exact hw | with_reducible exact hwc | with_reducible assumption | with_reducible apply Wf.sI | with_reducible apply Wf.sL | with_reducible apply Wf.cpI | with_reducible apply Wf.cpL | with_reducible apply Wf.cp2 | with_reducible apply Wf.sIs | with_reducible apply Wf.sLs | with_reducible apply Wf.cpU | with_reducible apply Wf.fillI | with_reducible apply Wf.clU | with_reducible apply Wf.dnF | with_reducible apply Wf.gbW)) hf) (by decide) (ixn (by omega) (by decide)) (fl_ru (by repeat (first | with_reducible exact hw | with_reducible exact hwc | with_reducible assumption | with_reducible apply Wf.sI | with_reducible apply Wf.sL | with_reducible apply Wf.cpI | with_reducible apply Wf.cpL | with_reducible apply Wf.cp2 | with_reducible apply Wf.sIs | with_reducible apply Wf.sLs | with_reducible apply Wf.cpU | with_reducible apply Wf.fillI | with_reducible apply Wf.clU | with_reducible apply Wf.dnF | with_reducible apply Wf.gbW)) hf (by omega)) ?_
    refine a_iconst (0 : Int32) dX1_copy_98 (by decide) ?_
    refine a_bipush (12 : Int32) dX1_copy_99 (by decide) ?_
    refine a_copyi (n := 12) dX1_copy_101 ac_link (fl_u (by repeat (first | with_reducible exact hw | with_reducible exact hwc | with_reducible assumption | with_reducible apply Wf.sI | with_reducible apply Wf.sL | with_reducible apply Wf.cpI | with_reducible apply Wf.cpL | with_reducible apply Wf.cp2 | with_reducible apply Wf.sIs | with_reducible apply Wf.sLs | with_reducible apply Wf.cpU | with_reducible apply Wf.fillI | with_reducible apply Wf.clU | with_reducible apply Wf.dnF | with_reducible apply Wf.gbW)) hg (by omega)) (fl_u (by repeat (first | with_reducible exact hw | with_reducible exact hwc | with_reducible assumption | with_reducible apply Wf.sI | with_reducible apply Wf.sL | with_reducible apply Wf.cpI | with_reducible apply Wf.cpL | with_reducible apply Wf.cp2 | with_reducible apply Wf.sIs | with_reducible apply Wf.sLs | with_reducible apply Wf.cpU | with_reducible apply Wf.fillI | with_reducible apply Wf.clU | with_reducible apply Wf.dnF | with_reducible apply Wf.gbW)) hf (by omega)) rfl (by decide) (by decide) (by decide) (by decide) (by decide) (Nat.le_of_ble_eq_true rfl) ?_
    refine a_iincN dX1_copy_104 rfl (by decide) ?_
    refine a_goto (tgt := 79) dX1_copy_107 (by decide) ?_
    exact a_loc _ rfl (ih (m + 1) (by omega))
theorem t_X1_copy (hw : Wf μ) {f g p : Nat} (hf : Fl f) (hg : Fl g) (hfg : f ≠ g) (hp : gR μ g 0 = some p) (hs : gI μ g 1 = 0 ∨ gI μ g 1 = 1) : Ct Y_X1_copy R_X1_copy [.ref f, .ref g] μ (.inl (none)) (cpF μ f g p) := by
  refine Ct.ent yk_X1_copy (Nat.le_of_ble_eq_true rfl) ?_
  refine a_aload_n dX1_copy_0 rfl ?_
  refine a_aload_n dX1_copy_1 rfl ?_
  refine a_getR hp dX1_copy_2 fs_X1_9 rfl (fl_o (by repeat (first | with_reducible exact hw | with_reducible exact hwc | with_reducible assumption | with_reducible apply Wf.sI | with_reducible apply Wf.sL | with_reducible apply Wf.cpI | with_reducible apply Wf.cpL | with_reducible apply Wf.cp2 | with_reducible apply Wf.sIs | with_reducible apply Wf.sLs | with_reducible apply Wf.cpU | with_reducible apply Wf.fillI | with_reducible apply Wf.clU | with_reducible apply Wf.dnF | with_reducible apply Wf.gbW)) hg) ?_
  refine a_putR dX1_copy_5 fs_X1_9 rfl rfl (fl_o (by repeat (first | with_reducible exact hw | with_reducible exact hwc | with_reducible assumption | with_reducible apply Wf.sI | with_reducible apply Wf.sL | with_reducible apply Wf.cpI | with_reducible apply Wf.cpL | with_reducible apply Wf.cp2 | with_reducible apply Wf.sIs | with_reducible apply Wf.sLs | with_reducible apply Wf.cpU | with_reducible apply Wf.fillI | with_reducible apply Wf.clU | with_reducible apply Wf.dnF | with_reducible apply Wf.gbW)) hf) ?_
  have hw := hw.sR hf.r00 (some p)
  refine a_aload_n dX1_copy_8 rfl ?_
  refine a_aload_n dX1_copy_9 rfl ?_
  refine a_getI dX1_copy_10 fs_X1_43 rfl (fl_o (by repeat (first | with_reducible exact hw | with_reducible exact hwc | with_reducible assumption | with_reducible apply Wf.sI | with_reducible apply Wf.sL | with_reducible apply Wf.cpI | with_reducible apply Wf.cpL | with_reducible apply Wf.cp2 | with_reducible apply Wf.sIs | with_reducible apply Wf.sLs | with_reducible apply Wf.cpU | with_reducible apply Wf.fillI | with_reducible apply Wf.clU | with_reducible apply Wf.dnF | with_reducible apply Wf.gbW)) hg) ?_
  refine a_putI dX1_copy_13 fs_X1_43 rfl (nB hs) (fB hs) (fl_o (by repeat (first | with_reducible exact hw | with_reducible exact hwc | with_reducible assumption | with_reducible apply Wf.sI | with_reducible apply Wf.sL | with_reducible apply Wf.cpI | with_reducible apply Wf.cpL | with_reducible apply Wf.cp2 | with_reducible apply Wf.sIs | with_reducible apply Wf.sLs | with_reducible apply Wf.cpU | with_reducible apply Wf.fillI | with_reducible apply Wf.clU | with_reducible apply Wf.dnF | with_reducible apply Wf.gbW)) hf) ?_
  refine a_aload_n dX1_copy_16 rfl ?_
  refine a_aload_n dX1_copy_17 rfl ?_
  refine a_getI dX1_copy_18 fs_X1_60 rfl (fl_o (by repeat (first | with_reducible exact hw | with_reducible exact hwc | with_reducible assumption | with_reducible apply Wf.sI | with_reducible apply Wf.sL | with_reducible apply Wf.cpI | with_reducible apply Wf.cpL | with_reducible apply Wf.cp2 | with_reducible apply Wf.sIs | with_reducible apply Wf.sLs | with_reducible apply Wf.cpU | with_reducible apply Wf.fillI | with_reducible apply Wf.clU | with_reducible apply Wf.dnF | with_reducible apply Wf.gbW)) hg) ?_
  refine a_putI dX1_copy_21 fs_X1_60 rfl rfl rfl (fl_o (by repeat (first | with_reducible exact hw | with_reducible exact hwc | with_reducible assumption | with_reducible apply Wf.sI | with_reducible apply Wf.sL | with_reducible apply Wf.cpI | with_reducible apply Wf.cpL | with_reducible apply Wf.cp2 | with_reducible apply Wf.sIs | with_reducible apply Wf.sLs | with_reducible apply Wf.cpU | with_reducible apply Wf.fillI | with_reducible apply Wf.clU | with_reducible apply Wf.dnF | with_reducible apply Wf.gbW)) hf) ?_
  refine a_aload_n dX1_copy_24 rfl ?_
  refine a_aload_n dX1_copy_25 rfl ?_
  refine a_getI dX1_copy_26 fs_X1_47 rfl (fl_o (by repeat (first | with_reducible exact hw | with_reducible exact hwc | with_reducible assumption | with_reducible apply Wf.sI | with_reducible apply Wf.sL | with_reducible apply Wf.cpI | with_reducible apply Wf.cpL | with_reducible apply Wf.cp2 | with_reducible apply Wf.sIs | with_reducible apply Wf.sLs | with_reducible apply Wf.cpU | with_reducible apply Wf.fillI | with_reducible apply Wf.clU | with_reducible apply Wf.dnF | with_reducible apply Wf.gbW)) hg) ?_
  refine a_putI dX1_copy_29 fs_X1_47 rfl rfl rfl (fl_o (by repeat (first | with_reducible exact hw | with_reducible exact hwc | with_reducible assumption | with_reducible apply Wf.sI | with_reducible apply Wf.sL | with_reducible apply Wf.cpI | with_reducible apply Wf.cpL | with_reducible apply Wf.cp2 | with_reducible apply Wf.sIs | with_reducible apply Wf.sLs | with_reducible apply Wf.cpU | with_reducible apply Wf.fillI | with_reducible apply Wf.clU | with_reducible apply Wf.dnF | with_reducible apply Wf.gbW)) hf) ?_
  refine a_aload_n dX1_copy_32 rfl ?_
  refine a_getR (fl_r4 (by repeat (first | with_reducible exact hw | with_reducible exact hwc | with_reducible assumption | with_reducible apply Wf.sI | with_reducible apply Wf.sL | with_reducible apply Wf.cpI | with_reducible apply Wf.cpL | with_reducible apply Wf.cp2 | with_reducible apply Wf.sIs | with_reducible apply Wf.sLs | with_reducible apply Wf.cpU | with_reducible apply Wf.fillI | with_reducible apply Wf.clU | with_reducible apply Wf.dnF | with_reducible apply Wf.gbW)) hg) dX1_copy_33 fs_X1_15 rfl (fl_o (by repeat (first | with_reducible exact hw | with_reducible exact hwc | with_reducible assumption | with_reducible apply Wf.sI | with_reducible apply Wf.sL | with_reducible apply Wf.cpI | with_reducible apply Wf.cpL | with_reducible apply Wf.cp2 | with_reducible apply Wf.sIs | with_reducible apply Wf.sLs | with_reducible apply Wf.cpU | with_reducible apply Wf.fillI | with_reducible apply Wf.clU | with_reducible apply Wf.dnF | with_reducible apply Wf.gbW)) hg) ?_
  refine a_iconst (0 : Int32) dX1_copy_36 (by decide) ?_
  refine a_aload_n dX1_copy_37 rfl ?_
  refine a_getR (fl_r4 (by repeat (first | with_reducible exact hw | with_reducible exact hwc | with_reducible assumption | with_reducible apply Wf.sI | with_reducible apply Wf.sL | with_reducible apply Wf.cpI | with_reducible apply Wf.cpL | with_reducible apply Wf.cp2 | with_reducible apply Wf.sIs | with_reducible apply Wf.sLs | with_reducible apply Wf.cpU | with_reducible apply Wf.fillI | with_reducible apply Wf.clU | with_reducible apply Wf.dnF | with_reducible apply Wf.gbW)) hf) dX1_copy_38 fs_X1_15 rfl (fl_o (by repeat (first | with_reducible exact hw | with_reducible exact hwc | with_reducible assumption | with_reducible apply Wf.sI | with_reducible apply Wf.sL | with_reducible apply Wf.cpI | with_reducible apply Wf.cpL | with_reducible apply Wf.cp2 | with_reducible apply Wf.sIs | with_reducible apply Wf.sLs | with_reducible apply Wf.cpU | with_reducible apply Wf.fillI | with_reducible apply Wf.clU | with_reducible apply Wf.dnF | with_reducible apply Wf.gbW)) hf) ?_
  refine a_iconst (0 : Int32) dX1_copy_41 (by decide) ?_
  refine a_bipush (40 : Int32) dX1_copy_42 (by decide) ?_
  refine a_copyi (n := 40) dX1_copy_44 ac_link (fl_a1 (by repeat (first | with_reducible exact hw | with_reducible exact hwc | with_reducible assumption | with_reducible apply Wf.sI | with_reducible apply Wf.sL | with_reducible apply Wf.cpI | with_reducible apply Wf.cpL | with_reducible apply Wf.cp2 | with_reducible apply Wf.sIs | with_reducible apply Wf.sLs | with_reducible apply Wf.cpU | with_reducible apply Wf.fillI | with_reducible apply Wf.clU | with_reducible apply Wf.dnF | with_reducible apply Wf.gbW)) hg) (fl_a1 (by repeat (first | with_reducible exact hw | with_reducible exact hwc | with_reducible assumption | with_reducible apply Wf.sI | with_reducible apply Wf.sL | with_reducible apply Wf.cpI | with_reducible apply Wf.cpL | with_reducible apply Wf.cp2 | with_reducible apply Wf.sIs | with_reducible apply Wf.sLs | with_reducible apply Wf.cpU | with_reducible apply Wf.fillI | with_reducible apply Wf.clU | with_reducible apply Wf.dnF | with_reducible apply Wf.gbW)) hf) rfl (by decide) (by decide) (by decide) (by decide) (by decide) (Nat.le_of_ble_eq_true rfl) ?_
  refine a_aload_n dX1_copy_47 rfl ?_
  refine a_getR (fl_r5 (by repeat (first | with_reducible exact hw | with_reducible exact hwc | with_reducible assumption | with_reducible apply Wf.sI | with_reducible apply Wf.sL | with_reducible apply Wf.cpI | with_reducible apply Wf.cpL | with_reducible apply Wf.cp2 | with_reducible apply Wf.sIs | with_reducible apply Wf.sLs | with_reducible apply Wf.cpU | with_reducible apply Wf.fillI | with_reducible apply Wf.clU | with_reducible apply Wf.dnF | with_reducible apply Wf.gbW)) hg) dX1_copy_48 fs_X1_19 rfl (fl_o (by repeat (first | with_reducible exact hw | with_reducible exact hwc | with_reducible assumption | with_reducible apply Wf.sI | with_reducible apply Wf.sL | with_reducible apply Wf.cpI | with_reducible apply Wf.cpL | with_reducible apply Wf.cp2 | with_reducible apply Wf.sIs | with_reducible apply Wf.sLs | with_reducible apply Wf.cpU | with_reducible apply Wf.fillI | with_reducible apply Wf.clU | with_reducible apply Wf.dnF | with_reducible apply Wf.gbW)) hg) ?_
  refine a_iconst (0 : Int32) dX1_copy_51 (by decide) ?_
  refine a_aload_n dX1_copy_52 rfl ?_
  refine a_getR (fl_r5 (by repeat (first | with_reducible exact hw | with_reducible exact hwc | with_reducible assumption | with_reducible apply Wf.sI | with_reducible apply Wf.sL | with_reducible apply Wf.cpI | with_reducible apply Wf.cpL | with_reducible apply Wf.cp2 | with_reducible apply Wf.sIs | with_reducible apply Wf.sLs | with_reducible apply Wf.cpU | with_reducible apply Wf.fillI | with_reducible apply Wf.clU | with_reducible apply Wf.dnF | with_reducible apply Wf.gbW)) hf) dX1_copy_53 fs_X1_19 rfl (fl_o (by repeat (first | with_reducible exact hw | with_reducible exact hwc | with_reducible assumption | with_reducible apply Wf.sI | with_reducible apply Wf.sL | with_reducible apply Wf.cpI | with_reducible apply Wf.cpL | with_reducible apply Wf.cp2 | with_reducible apply Wf.sIs | with_reducible apply Wf.sLs | with_reducible apply Wf.cpU | with_reducible apply Wf.fillI | with_reducible apply Wf.clU | with_reducible apply Wf.dnF | with_reducible apply Wf.gbW)) hf) ?_
  refine a_iconst (0 : Int32) dX1_copy_56 (by decide) ?_
  refine a_bipush (40 : Int32) dX1_copy_57 (by decide) ?_
  refine a_copyi (n := 40) dX1_copy_59 ac_link (fl_a2 (by repeat (first | with_reducible exact hw | with_reducible exact hwc | with_reducible assumption | with_reducible apply Wf.sI | with_reducible apply Wf.sL | with_reducible apply Wf.cpI | with_reducible apply Wf.cpL | with_reducible apply Wf.cp2 | with_reducible apply Wf.sIs | with_reducible apply Wf.sLs | with_reducible apply Wf.cpU | with_reducible apply Wf.fillI | with_reducible apply Wf.clU | with_reducible apply Wf.dnF | with_reducible apply Wf.gbW)) hg) (fl_a2 (by repeat (first | with_reducible exact hw | with_reducible exact hwc | with_reducible assumption | with_reducible apply Wf.sI | with_reducible apply Wf.sL | with_reducible apply Wf.cpI | with_reducible apply Wf.cpL | with_reducible apply Wf.cp2 | with_reducible apply Wf.sIs | with_reducible apply Wf.sLs | with_reducible apply Wf.cpU | with_reducible apply Wf.fillI | with_reducible apply Wf.clU | with_reducible apply Wf.dnF | with_reducible apply Wf.gbW)) hf) rfl (by decide) (by decide) (by decide) (by decide) (by decide) (Nat.le_of_ble_eq_true rfl) ?_
  refine a_aload_n dX1_copy_62 rfl ?_
  refine a_getR (fl_r6 (by repeat (first | with_reducible exact hw | with_reducible exact hwc | with_reducible assumption | with_reducible apply Wf.sI | with_reducible apply Wf.sL | with_reducible apply Wf.cpI | with_reducible apply Wf.cpL | with_reducible apply Wf.cp2 | with_reducible apply Wf.sIs | with_reducible apply Wf.sLs | with_reducible apply Wf.cpU | with_reducible apply Wf.fillI | with_reducible apply Wf.clU | with_reducible apply Wf.dnF | with_reducible apply Wf.gbW)) hg) dX1_copy_63 fs_X1_22 rfl (fl_o (by repeat (first | with_reducible exact hw | with_reducible exact hwc | with_reducible assumption | with_reducible apply Wf.sI | with_reducible apply Wf.sL | with_reducible apply Wf.cpI | with_reducible apply Wf.cpL | with_reducible apply Wf.cp2 | with_reducible apply Wf.sIs | with_reducible apply Wf.sLs | with_reducible apply Wf.cpU | with_reducible apply Wf.fillI | with_reducible apply Wf.clU | with_reducible apply Wf.dnF | with_reducible apply Wf.gbW)) hg) ?_
  refine a_iconst (0 : Int32) dX1_copy_66 (by decide) ?_
  refine a_aload_n dX1_copy_67 rfl ?_
  refine a_getR (fl_r6 (by repeat (first | with_reducible exact hw | with_reducible exact hwc | with_reducible assumption | with_reducible apply Wf.sI | with_reducible apply Wf.sL | with_reducible apply Wf.cpI | with_reducible apply Wf.cpL | with_reducible apply Wf.cp2 | with_reducible apply Wf.sIs | with_reducible apply Wf.sLs | with_reducible apply Wf.cpU | with_reducible apply Wf.fillI | with_reducible apply Wf.clU | with_reducible apply Wf.dnF | with_reducible apply Wf.gbW)) hf) dX1_copy_68 fs_X1_22 rfl (fl_o (by repeat (first | with_reducible exact hw | with_reducible exact hwc | with_reducible assumption | with_reducible apply Wf.sI | with_reducible apply Wf.sL | with_reducible apply Wf.cpI | with_reducible apply Wf.cpL | with_reducible apply Wf.cp2 | with_reducible apply Wf.sIs | with_reducible apply Wf.sLs | with_reducible apply Wf.cpU | with_reducible apply Wf.fillI | with_reducible apply Wf.clU | with_reducible apply Wf.dnF | with_reducible apply Wf.gbW)) hf) ?_
  refine a_iconst (0 : Int32) dX1_copy_71 (by decide) ?_
  refine a_bipush (40 : Int32) dX1_copy_72 (by decide) ?_
  refine a_copyi (n := 40) dX1_copy_74 ac_link (fl_a3 (by repeat (first | with_reducible exact hw | with_reducible exact hwc | with_reducible assumption | with_reducible apply Wf.sI | with_reducible apply Wf.sL | with_reducible apply Wf.cpI | with_reducible apply Wf.cpL | with_reducible apply Wf.cp2 | with_reducible apply Wf.sIs | with_reducible apply Wf.sLs | with_reducible apply Wf.cpU | with_reducible apply Wf.fillI | with_reducible apply Wf.clU | with_reducible apply Wf.dnF | with_reducible apply Wf.gbW)) hg) (fl_a3 (by repeat (first | with_reducible exact hw | with_reducible exact hwc | with_reducible assumption | with_reducible apply Wf.sI | with_reducible apply Wf.sL | with_reducible apply Wf.cpI | with_reducible apply Wf.cpL | with_reducible apply Wf.cp2 | with_reducible apply Wf.sIs | with_reducible apply Wf.sLs | with_reducible apply Wf.cpU | with_reducible apply Wf.fillI | with_reducible apply Wf.clU | with_reducible apply Wf.dnF | with_reducible apply Wf.gbW)) hf) rfl (by decide) (by decide) (by decide) (by decide) (by decide) (Nat.le_of_ble_eq_true rfl) ?_
  refine a_iconst (0 : Int32) dX1_copy_77 (by decide) ?_
  refine a_istore_n dX1_copy_78 (by decide) ?_
  refine a_wd (μ' := cpU (cpA μ f g p) f g 0) rfl ?_
  refine a_loc [(0, .ref f), (1, .ref g), (2, .int (nI 0))] rfl ?_
  refine l_X1_copy_79 (μ := cpA μ f g p) hw hf hg ?_ 8 0 (by omega)
  have hw := Wf.cpU (f := f) (g := g) (t := 8) (show Wf (cpA μ f g p) from hw)
  refine a_aload_n dX1_copy_110 rfl ?_
  refine a_aload_n dX1_copy_111 rfl ?_
  refine a_getI dX1_copy_112 fs_X1_51 rfl (fl_o (by repeat (first | with_reducible exact hw | with_reducible exact hwc | with_reducible assumption | with_reducible apply Wf.sI | with_reducible apply Wf.sL | with_reducible apply Wf.cpI | with_reducible apply Wf.cpL | with_reducible apply Wf.cp2 | with_reducible apply Wf.sIs | with_reducible apply Wf.sLs | with_reducible apply Wf.cpU | with_reducible apply Wf.fillI | with_reducible apply Wf.clU | with_reducible apply Wf.dnF | with_reducible apply Wf.gbW)) hg) ?_
  refine a_putI dX1_copy_115 fs_X1_51 rfl rfl rfl (fl_o (by repeat (first | with_reducible exact hw | with_reducible exact hwc | with_reducible assumption | with_reducible apply Wf.sI | with_reducible apply Wf.sL | with_reducible apply Wf.cpI | with_reducible apply Wf.cpL | with_reducible apply Wf.cp2 | with_reducible apply Wf.sIs | with_reducible apply Wf.sLs | with_reducible apply Wf.cpU | with_reducible apply Wf.fillI | with_reducible apply Wf.clU | with_reducible apply Wf.dnF | with_reducible apply Wf.gbW)) hf) ?_
  refine a_aload_n dX1_copy_118 rfl ?_
  refine a_getR (fl_r9 (by repeat (first | with_reducible exact hw | with_reducible exact hwc | with_reducible assumption | with_reducible apply Wf.sI | with_reducible apply Wf.sL | with_reducible apply Wf.cpI | with_reducible apply Wf.cpL | with_reducible apply Wf.cp2 | with_reducible apply Wf.sIs | with_reducible apply Wf.sLs | with_reducible apply Wf.cpU | with_reducible apply Wf.fillI | with_reducible apply Wf.clU | with_reducible apply Wf.dnF | with_reducible apply Wf.gbW)) hg) dX1_copy_119 fs_X1_30 rfl (fl_o (by repeat (first | with_reducible exact hw | with_reducible exact hwc | with_reducible assumption | with_reducible apply Wf.sI | with_reducible apply Wf.sL | with_reducible apply Wf.cpI | with_reducible apply Wf.cpL | with_reducible apply Wf.cp2 | with_reducible apply Wf.sIs | with_reducible apply Wf.sLs | with_reducible apply Wf.cpU | with_reducible apply Wf.fillI | with_reducible apply Wf.clU | with_reducible apply Wf.dnF | with_reducible apply Wf.gbW)) hg) ?_
  refine a_iconst (0 : Int32) dX1_copy_122 (by decide) ?_
  refine a_aload_n dX1_copy_123 rfl ?_
  refine a_getR (fl_r9 (by repeat (first | with_reducible exact hw | with_reducible exact hwc | with_reducible assumption | with_reducible apply Wf.sI | with_reducible apply Wf.sL | with_reducible apply Wf.cpI | with_reducible apply Wf.cpL | with_reducible apply Wf.cp2 | with_reducible apply Wf.sIs | with_reducible apply Wf.sLs | with_reducible apply Wf.cpU | with_reducible apply Wf.fillI | with_reducible apply Wf.clU | with_reducible apply Wf.dnF | with_reducible apply Wf.gbW)) hf) dX1_copy_124 fs_X1_30 rfl (fl_o (by repeat (first | with_reducible exact hw | with_reducible exact hwc | with_reducible assumption | with_reducible apply Wf.sI | with_reducible apply Wf.sL | with_reducible apply Wf.cpI | with_reducible apply Wf.cpL | with_reducible apply Wf.cp2 | with_reducible apply Wf.sIs | with_reducible apply Wf.sLs | with_reducible apply Wf.cpU | with_reducible apply Wf.fillI | with_reducible apply Wf.clU | with_reducible apply Wf.dnF | with_reducible apply Wf.gbW)) hf) ?_
  refine a_iconst (0 : Int32) dX1_copy_127 (by decide) ?_
  refine a_bipush (6 : Int32) dX1_copy_128 (by decide) ?_
  refine a_copyi (n := 6) dX1_copy_130 ac_link (fl_a13 (by repeat (first | with_reducible exact hw | with_reducible exact hwc | with_reducible assumption | with_reducible apply Wf.sI | with_reducible apply Wf.sL | with_reducible apply Wf.cpI | with_reducible apply Wf.cpL | with_reducible apply Wf.cp2 | with_reducible apply Wf.sIs | with_reducible apply Wf.sLs | with_reducible apply Wf.cpU | with_reducible apply Wf.fillI | with_reducible apply Wf.clU | with_reducible apply Wf.dnF | with_reducible apply Wf.gbW)) hg) (fl_a13 (by repeat (first | with_reducible exact hw | with_reducible exact hwc | with_reducible assumption | with_reducible apply Wf.sI | with_reducible apply Wf.sL | with_reducible apply Wf.cpI | with_reducible apply Wf.cpL | with_reducible apply Wf.cp2 | with_reducible apply Wf.sIs | with_reducible apply Wf.sLs | with_reducible apply Wf.cpU | with_reducible apply Wf.fillI | with_reducible apply Wf.clU | with_reducible apply Wf.dnF | with_reducible apply Wf.gbW)) hf) rfl (by decide) (by decide) (by decide) (by decide) (by decide) (Nat.le_of_ble_eq_true rfl) ?_
  refine a_aload_n dX1_copy_133 rfl ?_
  refine a_getR (fl_r10 (by repeat (first | with_reducible exact hw | with_reducible exact hwc | with_reducible assumption | with_reducible apply Wf.sI | with_reducible apply Wf.sL | with_reducible apply Wf.cpI | with_reducible apply Wf.cpL | with_reducible apply Wf.cp2 | with_reducible apply Wf.sIs | with_reducible apply Wf.sLs | with_reducible apply Wf.cpU | with_reducible apply Wf.fillI | with_reducible apply Wf.clU | with_reducible apply Wf.dnF | with_reducible apply Wf.gbW)) hg) dX1_copy_134 fs_X1_33 rfl (fl_o (by repeat (first | with_reducible exact hw | with_reducible exact hwc | with_reducible assumption | with_reducible apply Wf.sI | with_reducible apply Wf.sL | with_reducible apply Wf.cpI | with_reducible apply Wf.cpL | with_reducible apply Wf.cp2 | with_reducible apply Wf.sIs | with_reducible apply Wf.sLs | with_reducible apply Wf.cpU | with_reducible apply Wf.fillI | with_reducible apply Wf.clU | with_reducible apply Wf.dnF | with_reducible apply Wf.gbW)) hg) ?_
  refine a_iconst (0 : Int32) dX1_copy_137 (by decide) ?_
  refine a_aload_n dX1_copy_138 rfl ?_
  refine a_getR (fl_r10 (by repeat (first | with_reducible exact hw | with_reducible exact hwc | with_reducible assumption | with_reducible apply Wf.sI | with_reducible apply Wf.sL | with_reducible apply Wf.cpI | with_reducible apply Wf.cpL | with_reducible apply Wf.cp2 | with_reducible apply Wf.sIs | with_reducible apply Wf.sLs | with_reducible apply Wf.cpU | with_reducible apply Wf.fillI | with_reducible apply Wf.clU | with_reducible apply Wf.dnF | with_reducible apply Wf.gbW)) hf) dX1_copy_139 fs_X1_33 rfl (fl_o (by repeat (first | with_reducible exact hw | with_reducible exact hwc | with_reducible assumption | with_reducible apply Wf.sI | with_reducible apply Wf.sL | with_reducible apply Wf.cpI | with_reducible apply Wf.cpL | with_reducible apply Wf.cp2 | with_reducible apply Wf.sIs | with_reducible apply Wf.sLs | with_reducible apply Wf.cpU | with_reducible apply Wf.fillI | with_reducible apply Wf.clU | with_reducible apply Wf.dnF | with_reducible apply Wf.gbW)) hf) ?_
  refine a_iconst (0 : Int32) dX1_copy_142 (by decide) ?_
  refine a_bipush (6 : Int32) dX1_copy_143 (by decide) ?_
  refine a_copyi (n := 6) dX1_copy_145 ac_link (fl_a14 (by repeat (first | with_reducible exact hw | with_reducible exact hwc | with_reducible assumption | with_reducible apply Wf.sI | with_reducible apply Wf.sL | with_reducible apply Wf.cpI | with_reducible apply Wf.cpL | with_reducible apply Wf.cp2 | with_reducible apply Wf.sIs | with_reducible apply Wf.sLs | with_reducible apply Wf.cpU | with_reducible apply Wf.fillI | with_reducible apply Wf.clU | with_reducible apply Wf.dnF | with_reducible apply Wf.gbW)) hg) (fl_a14 (by repeat (first | with_reducible exact hw | with_reducible exact hwc | with_reducible assumption | with_reducible apply Wf.sI | with_reducible apply Wf.sL | with_reducible apply Wf.cpI | with_reducible apply Wf.cpL | with_reducible apply Wf.cp2 | with_reducible apply Wf.sIs | with_reducible apply Wf.sLs | with_reducible apply Wf.cpU | with_reducible apply Wf.fillI | with_reducible apply Wf.clU | with_reducible apply Wf.dnF | with_reducible apply Wf.gbW)) hf) rfl (by decide) (by decide) (by decide) (by decide) (by decide) (Nat.le_of_ble_eq_true rfl) ?_
  refine a_aload_n dX1_copy_148 rfl ?_
  refine a_getR (fl_r11 (by repeat (first | with_reducible exact hw | with_reducible exact hwc | with_reducible assumption | with_reducible apply Wf.sI | with_reducible apply Wf.sL | with_reducible apply Wf.cpI | with_reducible apply Wf.cpL | with_reducible apply Wf.cp2 | with_reducible apply Wf.sIs | with_reducible apply Wf.sLs | with_reducible apply Wf.cpU | with_reducible apply Wf.fillI | with_reducible apply Wf.clU | with_reducible apply Wf.dnF | with_reducible apply Wf.gbW)) hg) dX1_copy_149 fs_X1_36 rfl (fl_o (by repeat (first | with_reducible exact hw | with_reducible exact hwc | with_reducible assumption | with_reducible apply Wf.sI | with_reducible apply Wf.sL | with_reducible apply Wf.cpI | with_reducible apply Wf.cpL | with_reducible apply Wf.cp2 | with_reducible apply Wf.sIs | with_reducible apply Wf.sLs | with_reducible apply Wf.cpU | with_reducible apply Wf.fillI | with_reducible apply Wf.clU | with_reducible apply Wf.dnF | with_reducible apply Wf.gbW)) hg) ?_
  refine a_iconst (0 : Int32) dX1_copy_152 (by decide) ?_
  refine a_aload_n dX1_copy_153 rfl ?_
  refine a_getR (fl_r11 (by repeat (first | with_reducible exact hw | with_reducible exact hwc | with_reducible assumption | with_reducible apply Wf.sI | with_reducible apply Wf.sL | with_reducible apply Wf.cpI | with_reducible apply Wf.cpL | with_reducible apply Wf.cp2 | with_reducible apply Wf.sIs | with_reducible apply Wf.sLs | with_reducible apply Wf.cpU | with_reducible apply Wf.fillI | with_reducible apply Wf.clU | with_reducible apply Wf.dnF | with_reducible apply Wf.gbW)) hf) dX1_copy_154 fs_X1_36 rfl (fl_o (by repeat (first | with_reducible exact hw | with_reducible exact hwc | with_reducible assumption | with_reducible apply Wf.sI | with_reducible apply Wf.sL | with_reducible apply Wf.cpI | with_reducible apply Wf.cpL | with_reducible apply Wf.cp2 | with_reducible apply Wf.sIs | with_reducible apply Wf.sLs | with_reducible apply Wf.cpU | with_reducible apply Wf.fillI | with_reducible apply Wf.clU | with_reducible apply Wf.dnF | with_reducible apply Wf.gbW)) hf) ?_
  refine a_iconst (0 : Int32) dX1_copy_157 (by decide) ?_
  refine a_bipush (6 : Int32) dX1_copy_158 (by decide) ?_
  refine a_copyi (n := 6) dX1_copy_160 ac_link (fl_a15 (by repeat (first | with_reducible exact hw | with_reducible exact hwc | with_reducible assumption | with_reducible apply Wf.sI | with_reducible apply Wf.sL | with_reducible apply Wf.cpI | with_reducible apply Wf.cpL | with_reducible apply Wf.cp2 | with_reducible apply Wf.sIs | with_reducible apply Wf.sLs | with_reducible apply Wf.cpU | with_reducible apply Wf.fillI | with_reducible apply Wf.clU | with_reducible apply Wf.dnF | with_reducible apply Wf.gbW)) hg) (fl_a15 (by repeat (first | with_reducible exact hw | with_reducible exact hwc | with_reducible assumption | with_reducible apply Wf.sI | with_reducible apply Wf.sL | with_reducible apply Wf.cpI | with_reducible apply Wf.cpL | with_reducible apply Wf.cp2 | with_reducible apply Wf.sIs | with_reducible apply Wf.sLs | with_reducible apply Wf.cpU | with_reducible apply Wf.fillI | with_reducible apply Wf.clU | with_reducible apply Wf.dnF | with_reducible apply Wf.gbW)) hf) rfl (by decide) (by decide) (by decide) (by decide) (by decide) (Nat.le_of_ble_eq_true rfl) ?_
  refine a_aload_n dX1_copy_163 rfl ?_
  refine a_aload_n dX1_copy_164 rfl ?_
  refine a_inv (b2 := (0, 0)) (t_X1_copyAccounts (by repeat (first | with_reducible exact hw | with_reducible exact hwc | with_reducible assumption | with_reducible apply Wf.sI | with_reducible apply Wf.sL | with_reducible apply Wf.cpI | with_reducible apply Wf.cpL | with_reducible apply Wf.cp2 | with_reducible apply Wf.sIs | with_reducible apply Wf.sLs | with_reducible apply Wf.cpU | with_reducible apply Wf.fillI | with_reducible apply Wf.clU | with_reducible apply Wf.dnF | with_reducible apply Wf.gbW)) hf hg) rfl dX1_copy_165 yk_X1_copyAccounts im_X1_copyAccounts se_X1_copyAccounts ml_X1_69 rfl (fl_o (by repeat (first | with_reducible exact hw | with_reducible exact hwc | with_reducible assumption | with_reducible apply Wf.sI | with_reducible apply Wf.sL | with_reducible apply Wf.cpI | with_reducible apply Wf.cpL | with_reducible apply Wf.cp2 | with_reducible apply Wf.sIs | with_reducible apply Wf.sLs | with_reducible apply Wf.cpU | with_reducible apply Wf.fillI | with_reducible apply Wf.clU | with_reducible apply Wf.dnF | with_reducible apply Wf.gbW)) hf) (by decide) hc_X1 (by decide) (by decide) (Nat.le_of_ble_eq_true rfl) ?_
  exact a_out rfl rfl (a_return dX1_copy_168 rfl)
end FLIGHTW
