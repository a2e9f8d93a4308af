section WRITET
variable {μ W V : Wd} {p : Nat} {q : PDt} {d : FDt} {nm : Nat → List Nat} {os : List Int32} {t k : Nat}
/-- the trolley's line, meals before k -/
def twN (d : FDt) (nm : Nat → List Nat) (t : Nat) : Nat → List Int32
  | 0 => []
  | k + 1 => if dF d (7 + t) k ≤ 0 then twN d nm t k else wuD (dF d (7 + t) k) (nm k) (if nI (twN d nm t k).length ≤ 0 then twN d nm t k else sgD (twN d nm t k) 32)
def twD (q : PDt) (d : FDt) (nm : Nat → List Nat) (t : Nat) : List Int32 := sgD (twN d nm t (pM q)) 10
theorem OwQ.fv (h : OwQ μ V) (hv : FV μ 24 p d) : FV V 24 p d := hv.out h.1 fun i a b y => by rcases y with y | y <;> omega
theorem OwQ.pv (h : OwQ μ V) (hq : PV μ p q) : PV V p q := hq.out h.1 fun i a b y => by
  have := hq.pl
  rcases this with e | e <;> (subst e; rcases y with y | y <;> omega)
theorem OwQ.nmv (h : OwQ μ V) (hp : Pl p) {i : Nat} {l : List Nat} (hi : i < 12) (hw : Wf μ) (hn : NmV μ (p + 7 + i) l) : NmV V (p + 7 + i) l :=
  hn.ex (Ex.of h.1) (fun i y => by rcases y with y | y <;> omega) (hw.lt (by have := hp.lt; omega)) (fun y => by rcases hp with e | e <;> (subst e; rcases y with y | y <;> omega))
abbrev R_X10_writeTrolley : Room := { frames := 8, cells := 0, slots := 0, locals := 206 }
abbrev RX_X10_writeTrolley : Room := { frames := 8, cells := 1, slots := 6, locals := 206 }

theorem l_X10_writeTrolley_55 {x : Int32} {Q : Oc → Wd → Prop} (hw : Wf W) (hv : FV W 24 p d) (hq : PV W p q) (hN : ∀ i, i < pM q → NmV W (p + 7 + i) (nm i)) (hk : k < pM q) (hu : OuV W os) (kx : ∀ V : Wd, OuV V (wuD x (nm k) os) → OwQ W V → WP Y_X10_writeTrolley R_X10_writeTrolley (0, 0) V 12 [(0, .ref 0), (1, .int (nI t)), (2, .int (nI (k + 1)))] [] Q) :
    WP Y_X10_writeTrolley R_X10_writeTrolley (0, 0) W 55 [(0, .ref 0), (1, .int (nI t)), (2, .int (nI k)), (3, .int x)] [] Q := by
  have hM4 := hq.M4
  obtain ⟨r, g1, g2⟩ := hN k hk
  refine lf (a_aload_n dX10_writeTrolley_55 rfl) ?_
  refine lf (a_iload_n dX10_writeTrolley_56 rfl) ?_
  refine lf (a_aload_n dX10_writeTrolley_57 rfl) ?_
  refine lf (a_getR (cr_0_7 (by repeat (first | with_reducible exact hw | with_reducible exact hwc | with_reducible assumption | with_reducible apply Wf.sI | with_reducible apply Wf.sL | with_reducible apply Wf.cpI | with_reducible apply Wf.cpL | with_reducible apply Wf.cp2 | with_reducible apply Wf.sIs | with_reducible apply Wf.sLs | with_reducible apply Wf.cpU | with_reducible apply Wf.fillI | with_reducible apply Wf.clU | with_reducible apply Wf.dnF | with_reducible apply Wf.gbW))) dX10_writeTrolley_58 fs_X10_28 rfl (co_0 (by repeat (first | with_reducible exact hw | with_reducible exact hwc | with_reducible assumption | with_reducible apply Wf.sI | with_reducible apply Wf.sL | with_reducible apply Wf.cpI | with_reducible apply Wf.cpL | with_reducible apply Wf.cp2 | with_reducible apply Wf.sIs | with_reducible apply Wf.sLs | with_reducible apply Wf.cpU | with_reducible apply Wf.fillI | with_reducible apply Wf.clU | with_reducible apply Wf.dnF | with_reducible apply Wf.gbW)))) ?_
  refine lf (a_getR hv.rp dX10_writeTrolley_61 fs_X10_116 rfl (fl_o (by repeat (first | with_reducible exact hw | with_reducible exact hwc | with_reducible assumption | with_reducible apply Wf.sI | with_reducible apply Wf.sL | with_reducible apply Wf.cpI | with_reducible apply Wf.cpL | with_reducible apply Wf.cp2 | with_reducible apply Wf.sIs | with_reducible apply Wf.sLs | with_reducible apply Wf.cpU | with_reducible apply Wf.fillI | with_reducible apply Wf.clU | with_reducible apply Wf.dnF | with_reducible apply Wf.gbW)) fl_now)) ?_
  refine lf (a_getR (pl_r4 (by repeat (first | with_reducible exact hw | with_reducible exact hwc | with_reducible assumption | with_reducible apply Wf.sI | with_reducible apply Wf.sL | with_reducible apply Wf.cpI | with_reducible apply Wf.cpL | with_reducible apply Wf.cp2 | with_reducible apply Wf.sIs | with_reducible apply Wf.sLs | with_reducible apply Wf.cpU | with_reducible apply Wf.fillI | with_reducible apply Wf.clU | with_reducible apply Wf.dnF | with_reducible apply Wf.gbW)) hq.pl) dX10_writeTrolley_64 fs_X10_215 rfl (pl_o (by repeat (first | with_reducible exact hw | with_reducible exact hwc | with_reducible assumption | with_reducible apply Wf.sI | with_reducible apply Wf.sL | with_reducible apply Wf.cpI | with_reducible apply Wf.cpL | with_reducible apply Wf.cp2 | with_reducible apply Wf.sIs | with_reducible apply Wf.sLs | with_reducible apply Wf.cpU | with_reducible apply Wf.fillI | with_reducible apply Wf.clU | with_reducible apply Wf.dnF | with_reducible apply Wf.gbW)) hq.pl)) ?_
  refine lf (a_iload_n dX10_writeTrolley_67 rfl) ?_
  refine lf (a_aald (j := k) dX10_writeTrolley_68 (pl_a6 (by repeat (first | with_reducible exact hw | with_reducible exact hwc | with_reducible assumption | with_reducible apply Wf.sI | with_reducible apply Wf.sL | with_reducible apply Wf.cpI | with_reducible apply Wf.cpL | with_reducible apply Wf.cp2 | with_reducible apply Wf.sIs | with_reducible apply Wf.sLs | with_reducible apply Wf.cpU | with_reducible apply Wf.fillI | with_reducible apply Wf.clU | with_reducible apply Wf.dnF | with_reducible apply Wf.gbW)) hq.pl) (by decide) (ixn (show k < 12 by omega) (by decide)) (pl_rm (by repeat (first | with_reducible exact hw | with_reducible exact hwc | with_reducible assumption | with_reducible apply Wf.sI | with_reducible apply Wf.sL | with_reducible apply Wf.cpI | with_reducible apply Wf.cpL | with_reducible apply Wf.cp2 | with_reducible apply Wf.sIs | with_reducible apply Wf.sLs | with_reducible apply Wf.cpU | with_reducible apply Wf.fillI | with_reducible apply Wf.clU | with_reducible apply Wf.dnF | with_reducible apply Wf.gbW)) hq.pl (by omega))) ?_
  refine lf (a_getR g1 dX10_writeTrolley_69 fs_X10_424 rfl (pl_m (by repeat (first | with_reducible exact hw | with_reducible exact hwc | with_reducible assumption | with_reducible apply Wf.sI | with_reducible apply Wf.sL | with_reducible apply Wf.cpI | with_reducible apply Wf.cpL | with_reducible apply Wf.cp2 | with_reducible apply Wf.sIs | with_reducible apply Wf.sLs | with_reducible apply Wf.cpU | with_reducible apply Wf.fillI | with_reducible apply Wf.clU | with_reducible apply Wf.dnF | with_reducible apply Wf.gbW)) hq.pl (by omega))) ?_
  obtain ⟨v_, W72, k72, rfl, hu72, hw72⟩ := (c_writeUnits hw hu g2 x)
  have hwc := hw72.1.1
  refine lf (a_inv (b2 := (0, 0)) k72 rfl dX10_writeTrolley_72 yk_X10_writeUnits im_X10_writeUnits se_X10_writeUnits ml_X10_428 rfl (co_0 (by repeat (first | with_reducible exact hw | with_reducible exact hwc | with_reducible assumption | with_reducible apply Wf.sI | with_reducible apply Wf.sL | with_reducible apply Wf.cpI | with_reducible apply Wf.cpL | with_reducible apply Wf.cp2 | with_reducible apply Wf.sIs | with_reducible apply Wf.sLs | with_reducible apply Wf.cpU | with_reducible apply Wf.fillI | with_reducible apply Wf.clU | with_reducible apply Wf.dnF | with_reducible apply Wf.gbW))) (by decide) hc_X10 (by decide) (by decide) (Nat.le_of_ble_eq_true rfl)) ?_
  refine lf (a_iincN dX10_writeTrolley_75 rfl (by decide)) ?_
  refine lf (a_goto (tgt := 12) dX10_writeTrolley_78 (by decide)) ?_
  exact lf (a_loc _ rfl) (kx W72 hu72 hw72)
theorem l_X10_writeTrolley_12 (ht : t < pT q) {Q : Oc → Wd → Prop} : ∀ c k (W : Wd), k + c = pM q → Wf W → FV W 24 p d → PV W p q → (∀ i, i < pM q → NmV W (p + 7 + i) (nm i)) → OuV W (twN d nm t k) → (∀ V : Wd, OuV V (twN d nm t (pM q)) → OwQ W V → WP Y_X10_writeTrolley R_X10_writeTrolley (0, 0) V 81 [(0, .ref 0)] [] Q) →
    WP Y_X10_writeTrolley R_X10_writeTrolley (0, 0) W 12 [(0, .ref 0), (1, .int (nI t)), (2, .int (nI k))] [] Q := by
  intro c
  induction c with
  | zero =>
    intro k W hk hw hv hq hN hu kx
    have hM4 := hq.M4
    obtain rfl : k = pM q := hk
    refine lf (a_iload_n dX10_writeTrolley_12 rfl) ?_
    refine lf (a_aload_n dX10_writeTrolley_13 rfl) ?_
    refine lf (a_getR (cr_0_7 hw) dX10_writeTrolley_14 fs_X10_28 rfl (co_0 hw)) ?_
    refine lf (a_getR hv.rp dX10_writeTrolley_17 fs_X10_116 rfl (fl_o hw fl_now)) ?_
    refine lf (a_getI dX10_writeTrolley_20 fs_X10_142 rfl (pl_o hw hq.pl)) ?_
    rw [hq.hM]
    refine lf2 (a_icmp_ge (tgt := 81) dX10_writeTrolley_23 (by decide)) (fun h23 => ?_) (fun h23 => absurd h23 (fun z => z (nI_le (Nat.le_refl _) (by omega))))
    exact lf (a_loc _ rfl) (kx W hu (OwQ.rfl' hw))
  | succ c ih =>
    intro k W hk hw hv hq hN hu kx
    have hM4 := hq.M4
    have hT4 := hq.T4
    have hkM : k < pM q := by omega
    have es : twN d nm t (k + 1) = if dF d (7 + t) k ≤ 0 then twN d nm t k else wuD (dF d (7 + t) k) (nm k) (if nI (twN d nm t k).length ≤ 0 then twN d nm t k else sgD (twN d nm t k) 32) := rfl
    refine lf (a_iload_n dX10_writeTrolley_12 rfl) ?_
    refine lf (a_aload_n dX10_writeTrolley_13 rfl) ?_
    refine lf (a_getR (cr_0_7 (by repeat (first | with_reducible exact hw | with_reducible exact hwc | with_reducible assumption | with_reducible apply Wf.sI | with_reducible apply Wf.sL | with_reducible apply Wf.cpI | with_reducible apply Wf.cpL | with_reducible apply Wf.cp2 | with_reducible apply Wf.sIs | with_reducible apply Wf.sLs | with_reducible apply Wf.cpU | with_reducible apply Wf.fillI | with_reducible apply Wf.clU | with_reducible apply Wf.dnF | with_reducible apply Wf.gbW))) dX10_writeTrolley_14 fs_X10_28 rfl (co_0 (by repeat (first | with_reducible exact hw | with_reducible exact hwc | with_reducible assumption | with_reducible apply Wf.sI | with_reducible apply Wf.sL | with_reducible apply Wf.cpI | with_reducible apply Wf.cpL | with_reducible apply Wf.cp2 | with_reducible apply Wf.sIs | with_reducible apply Wf.sLs | with_reducible apply Wf.cpU | with_reducible apply Wf.fillI | with_reducible apply Wf.clU | with_reducible apply Wf.dnF | with_reducible apply Wf.gbW)))) ?_
    refine lf (a_getR hv.rp dX10_writeTrolley_17 fs_X10_116 rfl (fl_o (by repeat (first | with_reducible exact hw | with_reducible exact hwc | with_reducible assumption | with_reducible apply Wf.sI | with_reducible apply Wf.sL | with_reducible apply Wf.cpI | with_reducible apply Wf.cpL | with_reducible apply Wf.cp2 | with_reducible apply Wf.sIs | with_reducible apply Wf.sLs | with_reducible apply Wf.cpU | with_reducible apply Wf.fillI | with_reducible apply Wf.clU | with_reducible apply Wf.dnF | with_reducible apply Wf.gbW)) fl_now)) ?_
    refine lf (a_getI dX10_writeTrolley_20 fs_X10_142 rfl (pl_o (by repeat (first | with_reducible exact hw | with_reducible exact hwc | with_reducible assumption | with_reducible apply Wf.sI | with_reducible apply Wf.sL | with_reducible apply Wf.cpI | with_reducible apply Wf.cpL | with_reducible apply Wf.cp2 | with_reducible apply Wf.sIs | with_reducible apply Wf.sLs | with_reducible apply Wf.cpU | with_reducible apply Wf.fillI | with_reducible apply Wf.clU | with_reducible apply Wf.dnF | with_reducible apply Wf.gbW)) hq.pl)) ?_
    rw [hq.hM]
    refine lf2 (a_icmp_ge (tgt := 81) dX10_writeTrolley_23 (by decide)) (fun h23 => absurd h23 (nI_ge hkM (by omega))) (fun h23 => ?_)
    refine lf (a_aload_n dX10_writeTrolley_26 rfl) ?_
    refine lf (a_getR (cr_0_7 (by repeat (first | with_reducible exact hw | with_reducible exact hwc | with_reducible assumption | with_reducible apply Wf.sI | with_reducible apply Wf.sL | with_reducible apply Wf.cpI | with_reducible apply Wf.cpL | with_reducible apply Wf.cp2 | with_reducible apply Wf.sIs | with_reducible apply Wf.sLs | with_reducible apply Wf.cpU | with_reducible apply Wf.fillI | with_reducible apply Wf.clU | with_reducible apply Wf.dnF | with_reducible apply Wf.gbW))) dX10_writeTrolley_27 fs_X10_28 rfl (co_0 (by repeat (first | with_reducible exact hw | with_reducible exact hwc | with_reducible assumption | with_reducible apply Wf.sI | with_reducible apply Wf.sL | with_reducible apply Wf.cpI | with_reducible apply Wf.cpL | with_reducible apply Wf.cp2 | with_reducible apply Wf.sIs | with_reducible apply Wf.sLs | with_reducible apply Wf.cpU | with_reducible apply Wf.fillI | with_reducible apply Wf.clU | with_reducible apply Wf.dnF | with_reducible apply Wf.gbW)))) ?_
    refine lf (a_getR (fl_r7 (by repeat (first | with_reducible exact hw | with_reducible exact hwc | with_reducible assumption | with_reducible apply Wf.sI | with_reducible apply Wf.sL | with_reducible apply Wf.cpI | with_reducible apply Wf.cpL | with_reducible apply Wf.cp2 | with_reducible apply Wf.sIs | with_reducible apply Wf.sLs | with_reducible apply Wf.cpU | with_reducible apply Wf.fillI | with_reducible apply Wf.clU | with_reducible apply Wf.dnF | with_reducible apply Wf.gbW)) fl_now) dX10_writeTrolley_30 fs_X10_296 rfl (fl_o (by repeat (first | with_reducible exact hw | with_reducible exact hwc | with_reducible assumption | with_reducible apply Wf.sI | with_reducible apply Wf.sL | with_reducible apply Wf.cpI | with_reducible apply Wf.cpL | with_reducible apply Wf.cp2 | with_reducible apply Wf.sIs | with_reducible apply Wf.sLs | with_reducible apply Wf.cpU | with_reducible apply Wf.fillI | with_reducible apply Wf.clU | with_reducible apply Wf.dnF | with_reducible apply Wf.gbW)) fl_now)) ?_
    refine lf (a_iload_n dX10_writeTrolley_33 rfl) ?_
    refine lf (a_aald (j := t) dX10_writeTrolley_34 (fl_a4 (by repeat (first | with_reducible exact hw | with_reducible exact hwc | with_reducible assumption | with_reducible apply Wf.sI | with_reducible apply Wf.sL | with_reducible apply Wf.cpI | with_reducible apply Wf.cpL | with_reducible apply Wf.cp2 | with_reducible apply Wf.sIs | with_reducible apply Wf.sLs | with_reducible apply Wf.cpU | with_reducible apply Wf.fillI | with_reducible apply Wf.clU | with_reducible apply Wf.dnF | with_reducible apply Wf.gbW)) fl_now) (by decide) (ixn (show t < 8 by omega) (by decide)) (fl_ru (by repeat (first | with_reducible exact hw | with_reducible exact hwc | with_reducible assumption | with_reducible apply Wf.sI | with_reducible apply Wf.sL | with_reducible apply Wf.cpI | with_reducible apply Wf.cpL | with_reducible apply Wf.cp2 | with_reducible apply Wf.sIs | with_reducible apply Wf.sLs | with_reducible apply Wf.cpU | with_reducible apply Wf.fillI | with_reducible apply Wf.clU | with_reducible apply Wf.dnF | with_reducible apply Wf.gbW)) fl_now (by omega))) ?_
    refine lf (a_iload_n dX10_writeTrolley_35 rfl) ?_
    refine lf (a_ild dX10_writeTrolley_36 (fl_u (by repeat (first | with_reducible exact hw | with_reducible exact hwc | with_reducible assumption | with_reducible apply Wf.sI | with_reducible apply Wf.sL | with_reducible apply Wf.cpI | with_reducible apply Wf.cpL | with_reducible apply Wf.cp2 | with_reducible apply Wf.sIs | with_reducible apply Wf.sLs | with_reducible apply Wf.cpU | with_reducible apply Wf.fillI | with_reducible apply Wf.clU | with_reducible apply Wf.dnF | with_reducible apply Wf.gbW)) fl_now (by omega)) (ixn (show k < 12 by omega) (by decide))) ?_
    rw [hv.un (show t < 8 by omega) (show k < 12 by omega)]
    refine lf (a_istore_n dX10_writeTrolley_37 (by decide)) ?_
    refine lf (a_iload_n dX10_writeTrolley_38 rfl) ?_
    refine lf2 (a_if_le (tgt := 75) dX10_writeTrolley_39 (by decide)) (fun h39 => ?_) (fun h39 => ?_)
    · refine lf (a_iincN dX10_writeTrolley_75 rfl (by decide)) ?_
      refine lf (a_goto (tgt := 12) dX10_writeTrolley_78 (by decide)) ?_
      exact lf (a_loc _ rfl) (ih (k + 1) W (by omega) hw hv hq hN (by rw [es, if_pos h39]; exact hu) kx)
    · refine lf (a_aload_n dX10_writeTrolley_42 rfl) ?_
      refine lf (a_getI dX10_writeTrolley_43 fs_X10_417 rfl (co_0 (by repeat (first | with_reducible exact hw | with_reducible exact hwc | with_reducible assumption | with_reducible apply Wf.sI | with_reducible apply Wf.sL | with_reducible apply Wf.cpI | with_reducible apply Wf.cpL | with_reducible apply Wf.cp2 | with_reducible apply Wf.sIs | with_reducible apply Wf.sLs | with_reducible apply Wf.cpU | with_reducible apply Wf.fillI | with_reducible apply Wf.clU | with_reducible apply Wf.dnF | with_reducible apply Wf.gbW)))) ?_
      rw [hu.1]
      refine lf2 (a_if_le (tgt := 55) dX10_writeTrolley_46 (by decide)) (fun h46 => ?_) (fun h46 => ?_)
      · refine lf (a_loc [(0, .ref 0), (1, .int (nI t)), (2, .int (nI k)), (3, .int (dF d (7 + t) k))] rfl) ?_
        refine l_X10_writeTrolley_55 hw hv hq hN hkM hu fun V a1 a2 => ?_
        exact ih (k + 1) V (by omega) a2.1.1 (a2.fv hv) (a2.pv hq) (fun i hi => a2.nmv hq.pl (by omega) hw (hN i hi)) (by rw [es, if_neg h39, if_pos h46]; exact a1) (fun V2 b1 b2 => kx V2 b1 (a2.trans b2))
      · refine lf (a_aload_n dX10_writeTrolley_49 rfl) ?_
        refine lf (a_bipush (32 : Int32) dX10_writeTrolley_50 (by decide)) ?_
        obtain ⟨v_, W52, k52, rfl, hu52, hw52⟩ := (c_writeSign hw hu 32)
        refine lf (a_inv (b2 := (0, 0)) k52 rfl dX10_writeTrolley_52 yk_X10_writeSign im_X10_writeSign se_X10_writeSign ml_X10_420 rfl (co_0 (by repeat (first | with_reducible exact hw | with_reducible exact hwc | with_reducible assumption | with_reducible apply Wf.sI | with_reducible apply Wf.sL | with_reducible apply Wf.cpI | with_reducible apply Wf.cpL | with_reducible apply Wf.cp2 | with_reducible apply Wf.sIs | with_reducible apply Wf.sLs | with_reducible apply Wf.cpU | with_reducible apply Wf.fillI | with_reducible apply Wf.clU | with_reducible apply Wf.dnF | with_reducible apply Wf.gbW))) (by decide) hc_X10 (by decide) (by decide) (Nat.le_of_ble_eq_true rfl)) ?_
        refine lf (a_loc [(0, .ref 0), (1, .int (nI t)), (2, .int (nI k)), (3, .int (dF d (7 + t) k))] rfl) ?_
        refine l_X10_writeTrolley_55 hw52.1.1 (hw52.fv hv) (hw52.pv hq) (fun i hi => hw52.nmv hq.pl (by omega) hw (hN i hi)) hkM hu52 fun V a1 a2 => ?_
        have hz := hw52.trans a2
        exact ih (k + 1) V (by omega) hz.1.1 (hz.fv hv) (hz.pv hq) (fun i hi => hz.nmv hq.pl (by omega) hw (hN i hi)) (by rw [es, if_neg h39, if_neg h46]; exact a1) (fun V2 b1 b2 => kx V2 b1 (hz.trans b2))
theorem c_writeTrolley (hw : Wf μ) (hv : FV μ 24 p d) (hq : PV μ p q) (hN : ∀ i, i < pM q → NmV μ (p + 7 + i) (nm i)) (ht : t < pT q) : CV Y_X10_writeTrolley R_X10_writeTrolley [.ref 0, .int (nI t)] μ (fun v V => v = some (.int (nI (twD q d nm t).length)) ∧ OuV V (twD q d nm t) ∧ OwQ μ V) := by
  refine CV.ent yk_X10_writeTrolley (Nat.le_of_ble_eq_true rfl) ?_
  have hC4 := hq.C4
  have hM4 := hq.M4
  have hT4 := hq.T4
  have hP4 := hv.P4
  have hU4 := hv.U4
  have hZ : OwQ μ (sI μ 0 3 0) := ⟨(Out.rfl' hw).sI (S := sOw) (Or.inl rfl) _ _, fun k hk => by rw [gI_sI, if_neg (fun z => hk z.2)], fun k => gR_sI ..⟩
  have hu0 : OuV (sI μ 0 3 0) (twN d nm t 0) := ⟨by rw [gI_sI, if_pos ⟨rfl, rfl⟩]; rfl, Nat.zero_le _, fun k (hk : k < 0) => absurd hk (Nat.not_lt_zero k)⟩
  refine lf (a_aload_n dX10_writeTrolley_0 rfl) ?_
  refine lf (a_iload_n dX10_writeTrolley_1 rfl) ?_
  refine lf (a_inv (b2 := (0, 0)) (c_requireTrolley (by repeat (first | with_reducible exact hw | with_reducible exact hwc | with_reducible assumption | with_reducible apply Wf.sI | with_reducible apply Wf.sL | with_reducible apply Wf.cpI | with_reducible apply Wf.cpL | with_reducible apply Wf.cp2 | with_reducible apply Wf.sIs | with_reducible apply Wf.sLs | with_reducible apply Wf.cpU | with_reducible apply Wf.fillI | with_reducible apply Wf.clU | with_reducible apply Wf.dnF | with_reducible apply Wf.gbW)) hv hq ht) rfl dX10_writeTrolley_2 yk_X10_requireTrolley im_X10_requireTrolley se_X10_requireTrolley ml_X10_279 rfl (co_0 (by repeat (first | with_reducible exact hw | with_reducible exact hwc | with_reducible assumption | with_reducible apply Wf.sI | with_reducible apply Wf.sL | with_reducible apply Wf.cpI | with_reducible apply Wf.cpL | with_reducible apply Wf.cp2 | with_reducible apply Wf.sIs | with_reducible apply Wf.sLs | with_reducible apply Wf.cpU | with_reducible apply Wf.fillI | with_reducible apply Wf.clU | with_reducible apply Wf.dnF | with_reducible apply Wf.gbW))) (by decide) hc_X10 (by decide) (by decide) (Nat.le_of_ble_eq_true rfl)) ?_
  refine lf (a_aload_n dX10_writeTrolley_5 rfl) ?_
  refine lf (a_iconst (0 : Int32) dX10_writeTrolley_6 (by decide)) ?_
  refine lf (a_putI dX10_writeTrolley_7 fs_X10_417 rfl rfl rfl (co_0 (by repeat (first | with_reducible exact hw | with_reducible exact hwc | with_reducible assumption | with_reducible apply Wf.sI | with_reducible apply Wf.sL | with_reducible apply Wf.cpI | with_reducible apply Wf.cpL | with_reducible apply Wf.cp2 | with_reducible apply Wf.sIs | with_reducible apply Wf.sLs | with_reducible apply Wf.cpU | with_reducible apply Wf.fillI | with_reducible apply Wf.clU | with_reducible apply Wf.dnF | with_reducible apply Wf.gbW)))) ?_
  refine lf (a_iconst (0 : Int32) dX10_writeTrolley_10 (by decide)) ?_
  refine lf (a_istore_n dX10_writeTrolley_11 (by decide)) ?_
  refine lf (a_loc [(0, .ref 0), (1, .int (nI t)), (2, .int (nI 0))] rfl) (l_X10_writeTrolley_12 ht (pM q) 0 _ (Nat.zero_add _) hZ.1.1 (hZ.fv hv) (hZ.pv hq) (fun i hi => hZ.nmv hq.pl (by omega) hw (hN i hi)) hu0 fun V hu2 hw2 => ?_)
  have hwc := hw2.1.1
  refine lf (a_aload_n dX10_writeTrolley_81 rfl) ?_
  refine lf (a_bipush (10 : Int32) dX10_writeTrolley_82 (by decide)) ?_
  obtain ⟨v_, W84, k84, rfl, hu3, hw3⟩ := (c_writeSign hwc hu2 10)
  have hwd := hw3.1.1
  refine lf (a_inv (b2 := (0, 0)) k84 rfl dX10_writeTrolley_84 yk_X10_writeSign im_X10_writeSign se_X10_writeSign ml_X10_420 rfl (co_0 (by repeat (first | with_reducible exact hw | with_reducible exact hwc | with_reducible assumption | with_reducible apply Wf.sI | with_reducible apply Wf.sL | with_reducible apply Wf.cpI | with_reducible apply Wf.cpL | with_reducible apply Wf.cp2 | with_reducible apply Wf.sIs | with_reducible apply Wf.sLs | with_reducible apply Wf.cpU | with_reducible apply Wf.fillI | with_reducible apply Wf.clU | with_reducible apply Wf.dnF | with_reducible apply Wf.gbW))) (by decide) hc_X10 (by decide) (by decide) (Nat.le_of_ble_eq_true rfl)) ?_
  refine lf (a_aload_n dX10_writeTrolley_87 rfl) ?_
  refine lf (a_getI dX10_writeTrolley_88 fs_X10_417 rfl (co_0 (by repeat (first | with_reducible exact hw | with_reducible exact hwc | with_reducible assumption | with_reducible apply Wf.sI | with_reducible apply Wf.sL | with_reducible apply Wf.cpI | with_reducible apply Wf.cpL | with_reducible apply Wf.cp2 | with_reducible apply Wf.sIs | with_reducible apply Wf.sLs | with_reducible apply Wf.cpU | with_reducible apply Wf.fillI | with_reducible apply Wf.clU | with_reducible apply Wf.dnF | with_reducible apply Wf.gbW)))) ?_
  rw [hu3.1]
  refine ⟨_, _, (a_ireturn dX10_writeTrolley_91 rfl rfl), ?_⟩
  exact ⟨_, rfl, rfl, hu3, hZ.trans (hw2.trans hw3)⟩

theorem cx_writeTrolley (hw : Wf μ) (hv : FV μ 24 p d) (hq : PV μ p q) {x : Int32} (h : ixO x (pT q) = none) : Ct Y_X10_writeTrolley RX_X10_writeTrolley [.ref 0, .int x] μ (.inr NSE) μ := by
  have hC4 := hq.C4
  have hM4 := hq.M4
  have hT4 := hq.T4
  have hP4 := hv.P4
  have hU4 := hv.U4
  refine Ct.ent yk_X10_writeTrolley (Nat.le_of_ble_eq_true rfl) ?_
  refine a_aload_n dX10_writeTrolley_0 rfl ?_
  refine a_iload_n dX10_writeTrolley_1 rfl ?_
  exact a_out rfl rfl (a_invX (cx_requireTrolley hw hv hq h) rfl dX10_writeTrolley_2 yk_X10_requireTrolley im_X10_requireTrolley se_X10_requireTrolley ml_X10_279 rfl (co_0 hw) (by decide) hc_X10 (by decide) (by decide) (Nat.le_of_ble_eq_true rfl) rfl)
end WRITET
