section READERS
variable {μ W : Wd} {p : Nat} {q : PDt} {d : FDt}
/-- what may have changed where a question has been asked -/
abbrev sAsk : Nat → Prop := fun i => i = 0 ∨ (325 ≤ i ∧ i ≤ 337)
/-- the class after a question: all as it was, but the rows of order, matching and service; a service that is there is right -/
def AskQ (μ : Wd) (q : PDt) (d : FDt) (V : Wd) : Prop := Out sAsk μ V ∧ (∀ k, k ≠ 17 → gI V 0 k = gI μ 0 k) ∧ (∀ k, gR V 0 k = gR μ 0 k) ∧ (gI V 0 17 = 0 ∨ gI V 0 17 = 1 ∧ SvOK V q d)
def SvA (μ : Wd) (q : PDt) (d : FDt) : Prop := gI μ 0 17 = 0 ∨ gI μ 0 17 = 1 ∧ SvOK μ q d
theorem SvOK.out {S : Nat → Prop} (h : SvOK μ q d) (ho : Out S μ W) (hS : ∀ i, 334 ≤ i → i ≤ 337 → ¬ S i) : SvOK W q d := by
  obtain ⟨G, rs, n, h1, ⟨h2, h3, h4, h5⟩, h6, h7, h8⟩ := h
  have e : ∀ i k, 334 ≤ i → i ≤ 337 → gI W i k = gI μ i k := fun i k a b => ho.i (hS i a b) k
  exact ⟨G, rs, n, h1, ⟨fun i hi => by rw [e 335 i (by decide) (by decide)]; exact h2 i hi, fun m hm => by rw [e 336 m (by decide) (by decide), e 337 m (by decide) (by decide)]; exact h3 m hm, by rw [e 334 _ (by decide) (by decide)]; exact h4, by rw [e 334 _ (by decide) (by decide)]; exact h5⟩, by rw [e 334 _ (by decide) (by decide)]; exact h6, by rw [e 334 _ (by decide) (by decide)]; exact h7, by rw [e 334 _ (by decide) (by decide)]; exact h8⟩
theorem SvA.out {S : Nat → Prop} (h : SvA μ q d) (ho : Out S μ W) (hS : ∀ i, 334 ≤ i → i ≤ 337 → ¬ S i) (h0 : gI W 0 17 = gI μ 0 17) : SvA W q d := by
  unfold SvA
  rw [h0]
  exact h.imp (fun z => z) (fun z => ⟨z.1, z.2.out ho hS⟩)
theorem AskQ.rfl' (hw : Wf μ) (hs : SvA μ q d) : AskQ μ q d μ := ⟨Out.rfl' hw, fun _ _ => rfl, fun _ => rfl, hs⟩
theorem AskQ.ord (hs : SvA μ q d) (ho : Out sO μ W) : AskQ μ q d W := ⟨ho.mono (S' := sAsk) (fun i y => Or.inr ⟨y.1, by have := y.2; omega⟩), fun k _ => ho.i (fun y => absurd y.1 (by decide)) k, fun k => ho.r (fun y => absurd y.1 (by decide)) k, hs.out ho (fun i a b y => by have := y.2; omega) (ho.i (fun y => absurd y.1 (by decide)) 17)⟩
theorem AskQ.svc (ho : FrQ μ W) (h17 : gI W 0 17 = 1) (hk : SvOK W q d) : AskQ μ q d W := ⟨ho.1.mono (S' := sAsk) (fun i y => y.imp (fun z => z) (fun z => ⟨by omega, z.2⟩)), ho.2.1, ho.2.2, Or.inr ⟨h17, hk⟩⟩
/-- what count answers -/
def cnV (q : PDt) (d : FDt) (hn : Nat) : Nat → Int32
  | 0 => phD q d
  | 1 => nI (pC q)
  | 2 => nI (pM q)
  | 3 => nI (dP d)
  | 4 => nI (pT q)
  | 5 => dF d 6 1
  | 6 => nI (dU d)
  | 7 => alD q d
  | 8 => itN (fun i a => a + orD q d i) 0 12
  | 9 => nI hn
  | 10 => pF q 9 2
  | _ => pF q 9 3
def caV (q : PDt) (d : FDt) (c : Nat) : Nat → Int32
  | 0 => pF q 0 c
  | 1 => pF q 1 c
  | 2 => paD d (nI c)
  | 3 => spD d (nI c)
  | 4 => trD q (nI c)
  | 5 => fiD q d (nI c)
  | 6 => meD q (nI c)
  | _ => itN (fun i a => if pF q 2 i = nI c then a + orD q d i * pF q 4 i else a) 0 (pM q)
noncomputable def mlV (q : PDt) (d : FDt) (m : Nat) : Nat → Int32
  | 0 => pF q 2 m
  | 1 => pF q 3 m
  | 2 => pF q 4 m
  | 3 => pF q 5 m
  | 4 => pF q 6 m
  | 5 => ldD q d m
  | 6 => orD q d m
  | 7 => owD d (nI m)
  | 8 => if phD q d = 3 then nI (cntG (svR q d).1 (dP d) m) else 0
  | _ => msD q d m (orD q d m)
noncomputable def pgV (q : PDt) (d : FDt) (i : Nat) : Nat → Int32
  | 0 => dF d 0 i
  | 1 => dF d 1 i
  | 2 => dF d 2 i
  | 3 => if phD q d = 3 then oI ((svR q d).1 i) else -1
  | 4 => suD q (dF d 0 i) (dF d 1 i)
  | _ => oI (chD q (fitD q (dF d 0 i) (dF d 1 i)) (pM q))
def tyV (q : PDt) (d : FDt) (t : Nat) : Nat → Int32
  | 0 => pF q 7 t
  | 1 => pF q 8 t
  | 2 => fsD q d t
  | _ => uiD q d t
def tpV (d : FDt) (i : Nat) : Nat → Int32
  | 0 => dF d 3 i
  | 1 => dF d 4 i
  | _ => dF d 5 i
theorem SvOK.got (h : SvOK μ q d) (hM : pM q ≤ 12) (hw : WiD q d) {i : Nat} (hi : i < dP d) : gI μ 335 i = oI ((svR q d).1 i) := by
  obtain ⟨G, rs, n, h1, h2, _⟩ := h
  rw [h2.1 i hi, (SvS.uniq hM hw h1 (svR_of h1)).1 i hi]
theorem SvOK.eat (h : SvOK μ q d) (hM : pM q ≤ 12) (hw : WiD q d) {m : Nat} (hm : m < pM q) : gI μ 337 m = nI (cntG (svR q d).1 (dP d) m) := by
  obtain ⟨G, rs, n, h1, h2, _⟩ := h
  rw [(h2.2.1 m hm).2, cnt_cg (SvS.uniq hM hw h1 (svR_of h1)).1]
abbrev R_X10_count : Room := { frames := 7, cells := 0, slots := 0, locals := 140 }
abbrev RX_X10_count : Room := { frames := 7, cells := 1, slots := 6, locals := 140 }

theorem c_count_0 (hw : Wf μ) (hv : FV μ 24 p d) (hq : PV μ p q) (hq1 : GdP q) (hd : GdD q d) (hs : SvA μ q d) {hn : Nat} (hn9 : gI μ 82 2 = nI hn) : CV Y_X10_count R_X10_count [.ref 0, .int (nI 0)] μ (fun v V => v = some (.int (cnV q d hn 0)) ∧ AskQ μ q d V) := by
  refine CV.ent yk_X10_count (Nat.le_of_ble_eq_true rfl) ?_
  have hC4 := hq.C4
  have hM4 := hq.M4
  have hT4 := hq.T4
  have hP4 := hv.P4
  have hU4 := hv.U4
  refine lf (a_iload_n dX10_count_0 rfl) ?_
  refine lf (a_tsIn (tgt := 64) dX10_count_1 (by decide) (by decide) rfl (by decide)) ?_
  refine lf (a_aload_n dX10_count_64 rfl) ?_
  refine lf (a_getR (cr_0_7 (by repeat (first | with_reducible exact hw | with_reducible exact hwc | with_reducible assumption | with_reducible apply Wf.sI | with_reducible apply Wf.sL | with_reducible apply Wf.cpI | with_reducible apply Wf.cpL | with_reducible apply Wf.cp2 | with_reducible apply Wf.sIs | with_reducible apply Wf.sLs | with_reducible apply Wf.cpU | with_reducible apply Wf.fillI | with_reducible apply Wf.clU | with_reducible apply Wf.dnF | with_reducible apply Wf.gbW))) dX10_count_65 fs_X10_28 rfl (co_0 (by repeat (first | with_reducible exact hw | with_reducible exact hwc | with_reducible assumption | with_reducible apply Wf.sI | with_reducible apply Wf.sL | with_reducible apply Wf.cpI | with_reducible apply Wf.cpL | with_reducible apply Wf.cp2 | with_reducible apply Wf.sIs | with_reducible apply Wf.sLs | with_reducible apply Wf.cpU | with_reducible apply Wf.fillI | with_reducible apply Wf.clU | with_reducible apply Wf.dnF | with_reducible apply Wf.gbW)))) ?_
  refine lf (a_inv (b2 := (0, 0)) (v_X1_phase (by repeat (first | with_reducible exact hw | with_reducible exact hwc | with_reducible assumption | with_reducible apply Wf.sI | with_reducible apply Wf.sL | with_reducible apply Wf.cpI | with_reducible apply Wf.cpL | with_reducible apply Wf.cp2 | with_reducible apply Wf.sIs | with_reducible apply Wf.sLs | with_reducible apply Wf.cpU | with_reducible apply Wf.fillI | with_reducible apply Wf.clU | with_reducible apply Wf.dnF | with_reducible apply Wf.gbW)) hv hq) rfl dX10_count_68 yk_X1_phase im_X1_phase se_X1_phase ml_X10_135 rfl (fl_o (by repeat (first | with_reducible exact hw | with_reducible exact hwc | with_reducible assumption | with_reducible apply Wf.sI | with_reducible apply Wf.sL | with_reducible apply Wf.cpI | with_reducible apply Wf.cpL | with_reducible apply Wf.cp2 | with_reducible apply Wf.sIs | with_reducible apply Wf.sLs | with_reducible apply Wf.cpU | with_reducible apply Wf.fillI | with_reducible apply Wf.clU | with_reducible apply Wf.dnF | with_reducible apply Wf.gbW)) fl_now) (by decide) hc_X1 (by decide) (by decide) (Nat.le_of_ble_eq_true rfl)) ?_
  refine ⟨_, _, (a_ireturn dX10_count_71 rfl rfl), ?_⟩
  exact ⟨_, rfl, rfl, AskQ.rfl' hw hs⟩
theorem c_count_1 (hw : Wf μ) (hv : FV μ 24 p d) (hq : PV μ p q) (hq1 : GdP q) (hd : GdD q d) (hs : SvA μ q d) {hn : Nat} (hn9 : gI μ 82 2 = nI hn) : CV Y_X10_count R_X10_count [.ref 0, .int (nI 1)] μ (fun v V => v = some (.int (cnV q d hn 1)) ∧ AskQ μ q d V) := by
  refine CV.ent yk_X10_count (Nat.le_of_ble_eq_true rfl) ?_
  have hC4 := hq.C4
  have hM4 := hq.M4
  have hT4 := hq.T4
  have hP4 := hv.P4
  have hU4 := hv.U4
  refine lf (a_iload_n dX10_count_0 rfl) ?_
  refine lf (a_tsIn (tgt := 72) dX10_count_1 (by decide) (by decide) rfl (by decide)) ?_
  refine lf (a_aload_n dX10_count_72 rfl) ?_
  refine lf (a_getR (cr_0_7 (by repeat (first | with_reducible exact hw | with_reducible exact hwc | with_reducible assumption | with_reducible apply Wf.sI | with_reducible apply Wf.sL | with_reducible apply Wf.cpI | with_reducible apply Wf.cpL | with_reducible apply Wf.cp2 | with_reducible apply Wf.sIs | with_reducible apply Wf.sLs | with_reducible apply Wf.cpU | with_reducible apply Wf.fillI | with_reducible apply Wf.clU | with_reducible apply Wf.dnF | with_reducible apply Wf.gbW))) dX10_count_73 fs_X10_28 rfl (co_0 (by repeat (first | with_reducible exact hw | with_reducible exact hwc | with_reducible assumption | with_reducible apply Wf.sI | with_reducible apply Wf.sL | with_reducible apply Wf.cpI | with_reducible apply Wf.cpL | with_reducible apply Wf.cp2 | with_reducible apply Wf.sIs | with_reducible apply Wf.sLs | with_reducible apply Wf.cpU | with_reducible apply Wf.fillI | with_reducible apply Wf.clU | with_reducible apply Wf.dnF | with_reducible apply Wf.gbW)))) ?_
  refine lf (a_getR hv.rp dX10_count_76 fs_X10_116 rfl (fl_o (by repeat (first | with_reducible exact hw | with_reducible exact hwc | with_reducible assumption | with_reducible apply Wf.sI | with_reducible apply Wf.sL | with_reducible apply Wf.cpI | with_reducible apply Wf.cpL | with_reducible apply Wf.cp2 | with_reducible apply Wf.sIs | with_reducible apply Wf.sLs | with_reducible apply Wf.cpU | with_reducible apply Wf.fillI | with_reducible apply Wf.clU | with_reducible apply Wf.dnF | with_reducible apply Wf.gbW)) fl_now)) ?_
  refine lf (a_getI dX10_count_79 fs_X10_139 rfl (pl_o (by repeat (first | with_reducible exact hw | with_reducible exact hwc | with_reducible assumption | with_reducible apply Wf.sI | with_reducible apply Wf.sL | with_reducible apply Wf.cpI | with_reducible apply Wf.cpL | with_reducible apply Wf.cp2 | with_reducible apply Wf.sIs | with_reducible apply Wf.sLs | with_reducible apply Wf.cpU | with_reducible apply Wf.fillI | with_reducible apply Wf.clU | with_reducible apply Wf.dnF | with_reducible apply Wf.gbW)) hq.pl)) ?_
  rw [hq.hC]
  refine ⟨_, _, (a_ireturn dX10_count_82 rfl rfl), ?_⟩
  exact ⟨_, rfl, rfl, AskQ.rfl' hw hs⟩
theorem c_count_2 (hw : Wf μ) (hv : FV μ 24 p d) (hq : PV μ p q) (hq1 : GdP q) (hd : GdD q d) (hs : SvA μ q d) {hn : Nat} (hn9 : gI μ 82 2 = nI hn) : CV Y_X10_count R_X10_count [.ref 0, .int (nI 2)] μ (fun v V => v = some (.int (cnV q d hn 2)) ∧ AskQ μ q d V) := by
  refine CV.ent yk_X10_count (Nat.le_of_ble_eq_true rfl) ?_
  have hC4 := hq.C4
  have hM4 := hq.M4
  have hT4 := hq.T4
  have hP4 := hv.P4
  have hU4 := hv.U4
  refine lf (a_iload_n dX10_count_0 rfl) ?_
  refine lf (a_tsIn (tgt := 83) dX10_count_1 (by decide) (by decide) rfl (by decide)) ?_
  refine lf (a_aload_n dX10_count_83 rfl) ?_
  refine lf (a_getR (cr_0_7 (by repeat (first | with_reducible exact hw | with_reducible exact hwc | with_reducible assumption | with_reducible apply Wf.sI | with_reducible apply Wf.sL | with_reducible apply Wf.cpI | with_reducible apply Wf.cpL | with_reducible apply Wf.cp2 | with_reducible apply Wf.sIs | with_reducible apply Wf.sLs | with_reducible apply Wf.cpU | with_reducible apply Wf.fillI | with_reducible apply Wf.clU | with_reducible apply Wf.dnF | with_reducible apply Wf.gbW))) dX10_count_84 fs_X10_28 rfl (co_0 (by repeat (first | with_reducible exact hw | with_reducible exact hwc | with_reducible assumption | with_reducible apply Wf.sI | with_reducible apply Wf.sL | with_reducible apply Wf.cpI | with_reducible apply Wf.cpL | with_reducible apply Wf.cp2 | with_reducible apply Wf.sIs | with_reducible apply Wf.sLs | with_reducible apply Wf.cpU | with_reducible apply Wf.fillI | with_reducible apply Wf.clU | with_reducible apply Wf.dnF | with_reducible apply Wf.gbW)))) ?_
  refine lf (a_getR hv.rp dX10_count_87 fs_X10_116 rfl (fl_o (by repeat (first | with_reducible exact hw | with_reducible exact hwc | with_reducible assumption | with_reducible apply Wf.sI | with_reducible apply Wf.sL | with_reducible apply Wf.cpI | with_reducible apply Wf.cpL | with_reducible apply Wf.cp2 | with_reducible apply Wf.sIs | with_reducible apply Wf.sLs | with_reducible apply Wf.cpU | with_reducible apply Wf.fillI | with_reducible apply Wf.clU | with_reducible apply Wf.dnF | with_reducible apply Wf.gbW)) fl_now)) ?_
  refine lf (a_getI dX10_count_90 fs_X10_142 rfl (pl_o (by repeat (first | with_reducible exact hw | with_reducible exact hwc | with_reducible assumption | with_reducible apply Wf.sI | with_reducible apply Wf.sL | with_reducible apply Wf.cpI | with_reducible apply Wf.cpL | with_reducible apply Wf.cp2 | with_reducible apply Wf.sIs | with_reducible apply Wf.sLs | with_reducible apply Wf.cpU | with_reducible apply Wf.fillI | with_reducible apply Wf.clU | with_reducible apply Wf.dnF | with_reducible apply Wf.gbW)) hq.pl)) ?_
  rw [hq.hM]
  refine ⟨_, _, (a_ireturn dX10_count_93 rfl rfl), ?_⟩
  exact ⟨_, rfl, rfl, AskQ.rfl' hw hs⟩
theorem c_count_3 (hw : Wf μ) (hv : FV μ 24 p d) (hq : PV μ p q) (hq1 : GdP q) (hd : GdD q d) (hs : SvA μ q d) {hn : Nat} (hn9 : gI μ 82 2 = nI hn) : CV Y_X10_count R_X10_count [.ref 0, .int (nI 3)] μ (fun v V => v = some (.int (cnV q d hn 3)) ∧ AskQ μ q d V) := by
  refine CV.ent yk_X10_count (Nat.le_of_ble_eq_true rfl) ?_
  have hC4 := hq.C4
  have hM4 := hq.M4
  have hT4 := hq.T4
  have hP4 := hv.P4
  have hU4 := hv.U4
  refine lf (a_iload_n dX10_count_0 rfl) ?_
  refine lf (a_tsIn (tgt := 94) dX10_count_1 (by decide) (by decide) rfl (by decide)) ?_
  refine lf (a_aload_n dX10_count_94 rfl) ?_
  refine lf (a_getR (cr_0_7 (by repeat (first | with_reducible exact hw | with_reducible exact hwc | with_reducible assumption | with_reducible apply Wf.sI | with_reducible apply Wf.sL | with_reducible apply Wf.cpI | with_reducible apply Wf.cpL | with_reducible apply Wf.cp2 | with_reducible apply Wf.sIs | with_reducible apply Wf.sLs | with_reducible apply Wf.cpU | with_reducible apply Wf.fillI | with_reducible apply Wf.clU | with_reducible apply Wf.dnF | with_reducible apply Wf.gbW))) dX10_count_95 fs_X10_28 rfl (co_0 (by repeat (first | with_reducible exact hw | with_reducible exact hwc | with_reducible assumption | with_reducible apply Wf.sI | with_reducible apply Wf.sL | with_reducible apply Wf.cpI | with_reducible apply Wf.cpL | with_reducible apply Wf.cp2 | with_reducible apply Wf.sIs | with_reducible apply Wf.sLs | with_reducible apply Wf.cpU | with_reducible apply Wf.fillI | with_reducible apply Wf.clU | with_reducible apply Wf.dnF | with_reducible apply Wf.gbW)))) ?_
  refine lf (a_getI dX10_count_98 fs_X10_132 rfl (fl_o (by repeat (first | with_reducible exact hw | with_reducible exact hwc | with_reducible assumption | with_reducible apply Wf.sI | with_reducible apply Wf.sL | with_reducible apply Wf.cpI | with_reducible apply Wf.cpL | with_reducible apply Wf.cp2 | with_reducible apply Wf.sIs | with_reducible apply Wf.sLs | with_reducible apply Wf.cpU | with_reducible apply Wf.fillI | with_reducible apply Wf.clU | with_reducible apply Wf.dnF | with_reducible apply Wf.gbW)) fl_now)) ?_
  rw [hv.hP]
  refine ⟨_, _, (a_ireturn dX10_count_101 rfl rfl), ?_⟩
  exact ⟨_, rfl, rfl, AskQ.rfl' hw hs⟩
theorem c_count_4 (hw : Wf μ) (hv : FV μ 24 p d) (hq : PV μ p q) (hq1 : GdP q) (hd : GdD q d) (hs : SvA μ q d) {hn : Nat} (hn9 : gI μ 82 2 = nI hn) : CV Y_X10_count R_X10_count [.ref 0, .int (nI 4)] μ (fun v V => v = some (.int (cnV q d hn 4)) ∧ AskQ μ q d V) := by
  refine CV.ent yk_X10_count (Nat.le_of_ble_eq_true rfl) ?_
  have hC4 := hq.C4
  have hM4 := hq.M4
  have hT4 := hq.T4
  have hP4 := hv.P4
  have hU4 := hv.U4
  refine lf (a_iload_n dX10_count_0 rfl) ?_
  refine lf (a_tsIn (tgt := 102) dX10_count_1 (by decide) (by decide) rfl (by decide)) ?_
  refine lf (a_aload_n dX10_count_102 rfl) ?_
  refine lf (a_getR (cr_0_7 (by repeat (first | with_reducible exact hw | with_reducible exact hwc | with_reducible assumption | with_reducible apply Wf.sI | with_reducible apply Wf.sL | with_reducible apply Wf.cpI | with_reducible apply Wf.cpL | with_reducible apply Wf.cp2 | with_reducible apply Wf.sIs | with_reducible apply Wf.sLs | with_reducible apply Wf.cpU | with_reducible apply Wf.fillI | with_reducible apply Wf.clU | with_reducible apply Wf.dnF | with_reducible apply Wf.gbW))) dX10_count_103 fs_X10_28 rfl (co_0 (by repeat (first | with_reducible exact hw | with_reducible exact hwc | with_reducible assumption | with_reducible apply Wf.sI | with_reducible apply Wf.sL | with_reducible apply Wf.cpI | with_reducible apply Wf.cpL | with_reducible apply Wf.cp2 | with_reducible apply Wf.sIs | with_reducible apply Wf.sLs | with_reducible apply Wf.cpU | with_reducible apply Wf.fillI | with_reducible apply Wf.clU | with_reducible apply Wf.dnF | with_reducible apply Wf.gbW)))) ?_
  refine lf (a_getR hv.rp dX10_count_106 fs_X10_116 rfl (fl_o (by repeat (first | with_reducible exact hw | with_reducible exact hwc | with_reducible assumption | with_reducible apply Wf.sI | with_reducible apply Wf.sL | with_reducible apply Wf.cpI | with_reducible apply Wf.cpL | with_reducible apply Wf.cp2 | with_reducible apply Wf.sIs | with_reducible apply Wf.sLs | with_reducible apply Wf.cpU | with_reducible apply Wf.fillI | with_reducible apply Wf.clU | with_reducible apply Wf.dnF | with_reducible apply Wf.gbW)) fl_now)) ?_
  refine lf (a_getI dX10_count_109 fs_X10_145 rfl (pl_o (by repeat (first | with_reducible exact hw | with_reducible exact hwc | with_reducible assumption | with_reducible apply Wf.sI | with_reducible apply Wf.sL | with_reducible apply Wf.cpI | with_reducible apply Wf.cpL | with_reducible apply Wf.cp2 | with_reducible apply Wf.sIs | with_reducible apply Wf.sLs | with_reducible apply Wf.cpU | with_reducible apply Wf.fillI | with_reducible apply Wf.clU | with_reducible apply Wf.dnF | with_reducible apply Wf.gbW)) hq.pl)) ?_
  rw [hq.hT]
  refine ⟨_, _, (a_ireturn dX10_count_112 rfl rfl), ?_⟩
  exact ⟨_, rfl, rfl, AskQ.rfl' hw hs⟩
theorem c_count_5 (hw : Wf μ) (hv : FV μ 24 p d) (hq : PV μ p q) (hq1 : GdP q) (hd : GdD q d) (hs : SvA μ q d) {hn : Nat} (hn9 : gI μ 82 2 = nI hn) : CV Y_X10_count R_X10_count [.ref 0, .int (nI 5)] μ (fun v V => v = some (.int (cnV q d hn 5)) ∧ AskQ μ q d V) := by
  refine CV.ent yk_X10_count (Nat.le_of_ble_eq_true rfl) ?_
  have hC4 := hq.C4
  have hM4 := hq.M4
  have hT4 := hq.T4
  have hP4 := hv.P4
  have hU4 := hv.U4
  refine lf (a_iload_n dX10_count_0 rfl) ?_
  refine lf (a_tsIn (tgt := 113) dX10_count_1 (by decide) (by decide) rfl (by decide)) ?_
  refine lf (a_aload_n dX10_count_113 rfl) ?_
  refine lf (a_getR (cr_0_7 (by repeat (first | with_reducible exact hw | with_reducible exact hwc | with_reducible assumption | with_reducible apply Wf.sI | with_reducible apply Wf.sL | with_reducible apply Wf.cpI | with_reducible apply Wf.cpL | with_reducible apply Wf.cp2 | with_reducible apply Wf.sIs | with_reducible apply Wf.sLs | with_reducible apply Wf.cpU | with_reducible apply Wf.fillI | with_reducible apply Wf.clU | with_reducible apply Wf.dnF | with_reducible apply Wf.gbW))) dX10_count_114 fs_X10_28 rfl (co_0 (by repeat (first | with_reducible exact hw | with_reducible exact hwc | with_reducible assumption | with_reducible apply Wf.sI | with_reducible apply Wf.sL | with_reducible apply Wf.cpI | with_reducible apply Wf.cpL | with_reducible apply Wf.cp2 | with_reducible apply Wf.sIs | with_reducible apply Wf.sLs | with_reducible apply Wf.cpU | with_reducible apply Wf.fillI | with_reducible apply Wf.clU | with_reducible apply Wf.dnF | with_reducible apply Wf.gbW)))) ?_
  refine lf (a_getI dX10_count_117 fs_X10_148 rfl (fl_o (by repeat (first | with_reducible exact hw | with_reducible exact hwc | with_reducible assumption | with_reducible apply Wf.sI | with_reducible apply Wf.sL | with_reducible apply Wf.cpI | with_reducible apply Wf.cpL | with_reducible apply Wf.cp2 | with_reducible apply Wf.sIs | with_reducible apply Wf.sLs | with_reducible apply Wf.cpU | with_reducible apply Wf.fillI | with_reducible apply Wf.clU | with_reducible apply Wf.dnF | with_reducible apply Wf.gbW)) fl_now)) ?_
  rw [hv.min]
  refine ⟨_, _, (a_ireturn dX10_count_120 rfl rfl), ?_⟩
  exact ⟨_, rfl, rfl, AskQ.rfl' hw hs⟩
theorem c_count_6 (hw : Wf μ) (hv : FV μ 24 p d) (hq : PV μ p q) (hq1 : GdP q) (hd : GdD q d) (hs : SvA μ q d) {hn : Nat} (hn9 : gI μ 82 2 = nI hn) : CV Y_X10_count R_X10_count [.ref 0, .int (nI 6)] μ (fun v V => v = some (.int (cnV q d hn 6)) ∧ AskQ μ q d V) := by
  refine CV.ent yk_X10_count (Nat.le_of_ble_eq_true rfl) ?_
  have hC4 := hq.C4
  have hM4 := hq.M4
  have hT4 := hq.T4
  have hP4 := hv.P4
  have hU4 := hv.U4
  refine lf (a_iload_n dX10_count_0 rfl) ?_
  refine lf (a_tsIn (tgt := 121) dX10_count_1 (by decide) (by decide) rfl (by decide)) ?_
  refine lf (a_aload_n dX10_count_121 rfl) ?_
  refine lf (a_getR (cr_0_7 (by repeat (first | with_reducible exact hw | with_reducible exact hwc | with_reducible assumption | with_reducible apply Wf.sI | with_reducible apply Wf.sL | with_reducible apply Wf.cpI | with_reducible apply Wf.cpL | with_reducible apply Wf.cp2 | with_reducible apply Wf.sIs | with_reducible apply Wf.sLs | with_reducible apply Wf.cpU | with_reducible apply Wf.fillI | with_reducible apply Wf.clU | with_reducible apply Wf.dnF | with_reducible apply Wf.gbW))) dX10_count_122 fs_X10_28 rfl (co_0 (by repeat (first | with_reducible exact hw | with_reducible exact hwc | with_reducible assumption | with_reducible apply Wf.sI | with_reducible apply Wf.sL | with_reducible apply Wf.cpI | with_reducible apply Wf.cpL | with_reducible apply Wf.cp2 | with_reducible apply Wf.sIs | with_reducible apply Wf.sLs | with_reducible apply Wf.cpU | with_reducible apply Wf.fillI | with_reducible apply Wf.clU | with_reducible apply Wf.dnF | with_reducible apply Wf.gbW)))) ?_
  refine lf (a_getI dX10_count_125 fs_X10_151 rfl (fl_o (by repeat (first | with_reducible exact hw | with_reducible exact hwc | with_reducible assumption | with_reducible apply Wf.sI | with_reducible apply Wf.sL | with_reducible apply Wf.cpI | with_reducible apply Wf.cpL | with_reducible apply Wf.cp2 | with_reducible apply Wf.sIs | with_reducible apply Wf.sLs | with_reducible apply Wf.cpU | with_reducible apply Wf.fillI | with_reducible apply Wf.clU | with_reducible apply Wf.dnF | with_reducible apply Wf.gbW)) fl_now)) ?_
  rw [hv.hU]
  refine ⟨_, _, (a_ireturn dX10_count_128 rfl rfl), ?_⟩
  exact ⟨_, rfl, rfl, AskQ.rfl' hw hs⟩
theorem c_count_7 (hw : Wf μ) (hv : FV μ 24 p d) (hq : PV μ p q) (hq1 : GdP q) (hd : GdD q d) (hs : SvA μ q d) {hn : Nat} (hn9 : gI μ 82 2 = nI hn) : CV Y_X10_count R_X10_count [.ref 0, .int (nI 7)] μ (fun v V => v = some (.int (cnV q d hn 7)) ∧ AskQ μ q d V) := by
  refine CV.ent yk_X10_count (Nat.le_of_ble_eq_true rfl) ?_
  have hC4 := hq.C4
  have hM4 := hq.M4
  have hT4 := hq.T4
  have hP4 := hv.P4
  have hU4 := hv.U4
  refine lf (a_iload_n dX10_count_0 rfl) ?_
  refine lf (a_tsIn (tgt := 129) dX10_count_1 (by decide) (by decide) rfl (by decide)) ?_
  refine lf (a_aload_n dX10_count_129 rfl) ?_
  refine lf (a_getR (cr_0_7 (by repeat (first | with_reducible exact hw | with_reducible exact hwc | with_reducible assumption | with_reducible apply Wf.sI | with_reducible apply Wf.sL | with_reducible apply Wf.cpI | with_reducible apply Wf.cpL | with_reducible apply Wf.cp2 | with_reducible apply Wf.sIs | with_reducible apply Wf.sLs | with_reducible apply Wf.cpU | with_reducible apply Wf.fillI | with_reducible apply Wf.clU | with_reducible apply Wf.dnF | with_reducible apply Wf.gbW))) dX10_count_130 fs_X10_28 rfl (co_0 (by repeat (first | with_reducible exact hw | with_reducible exact hwc | with_reducible assumption | with_reducible apply Wf.sI | with_reducible apply Wf.sL | with_reducible apply Wf.cpI | with_reducible apply Wf.cpL | with_reducible apply Wf.cp2 | with_reducible apply Wf.sIs | with_reducible apply Wf.sLs | with_reducible apply Wf.cpU | with_reducible apply Wf.fillI | with_reducible apply Wf.clU | with_reducible apply Wf.dnF | with_reducible apply Wf.gbW)))) ?_
  refine lf (a_inv (b2 := (0, 0)) (v_X1_allLoaded (by repeat (first | with_reducible exact hw | with_reducible exact hwc | with_reducible assumption | with_reducible apply Wf.sI | with_reducible apply Wf.sL | with_reducible apply Wf.cpI | with_reducible apply Wf.cpL | with_reducible apply Wf.cp2 | with_reducible apply Wf.sIs | with_reducible apply Wf.sLs | with_reducible apply Wf.cpU | with_reducible apply Wf.fillI | with_reducible apply Wf.clU | with_reducible apply Wf.dnF | with_reducible apply Wf.gbW)) hv hq) rfl dX10_count_133 yk_X1_allLoaded im_X1_allLoaded se_X1_allLoaded ml_X10_154 rfl (fl_o (by repeat (first | with_reducible exact hw | with_reducible exact hwc | with_reducible assumption | with_reducible apply Wf.sI | with_reducible apply Wf.sL | with_reducible apply Wf.cpI | with_reducible apply Wf.cpL | with_reducible apply Wf.cp2 | with_reducible apply Wf.sIs | with_reducible apply Wf.sLs | with_reducible apply Wf.cpU | with_reducible apply Wf.fillI | with_reducible apply Wf.clU | with_reducible apply Wf.dnF | with_reducible apply Wf.gbW)) fl_now) (by decide) hc_X1 (by decide) (by decide) (Nat.le_of_ble_eq_true rfl)) ?_
  refine ⟨_, _, (a_ireturn dX10_count_136 rfl rfl), ?_⟩
  exact ⟨_, rfl, rfl, AskQ.rfl' hw hs⟩
theorem c_count_8 (hw : Wf μ) (hv : FV μ 24 p d) (hq : PV μ p q) (hq1 : GdP q) (hd : GdD q d) (hs : SvA μ q d) {hn : Nat} (hn9 : gI μ 82 2 = nI hn) : CV Y_X10_count R_X10_count [.ref 0, .int (nI 8)] μ (fun v V => v = some (.int (cnV q d hn 8)) ∧ AskQ μ q d V) := by
  refine CV.ent yk_X10_count (Nat.le_of_ble_eq_true rfl) ?_
  have hC4 := hq.C4
  have hM4 := hq.M4
  have hT4 := hq.T4
  have hP4 := hv.P4
  have hU4 := hv.U4
  refine lf (a_iload_n dX10_count_0 rfl) ?_
  refine lf (a_tsIn (tgt := 137) dX10_count_1 (by decide) (by decide) rfl (by decide)) ?_
  refine lf (a_aload_n dX10_count_137 rfl) ?_
  obtain ⟨v_, W138, k138, rfl, hO, hu⟩ := (c_freshOrder hw hv hq)
  have hwc := hO.1
  refine lf (a_inv (b2 := (0, 0)) k138 rfl dX10_count_138 yk_X10_freshOrder im_X10_freshOrder se_X10_freshOrder ml_X10_157 rfl (co_0 (by repeat (first | with_reducible exact hw | with_reducible exact hwc | with_reducible assumption | with_reducible apply Wf.sI | with_reducible apply Wf.sL | with_reducible apply Wf.cpI | with_reducible apply Wf.cpL | with_reducible apply Wf.cp2 | with_reducible apply Wf.sIs | with_reducible apply Wf.sLs | with_reducible apply Wf.cpU | with_reducible apply Wf.fillI | with_reducible apply Wf.clU | with_reducible apply Wf.dnF | with_reducible apply Wf.gbW))) (by decide) hc_X10 (by decide) (by decide) (Nat.le_of_ble_eq_true rfl)) ?_
  refine lf (a_inv (b2 := (0, 0)) (t_X6_allUnits hwc hu) rfl dX10_count_141 yk_X6_allUnits im_X6_allUnits se_X6_allUnits ml_X10_161 rfl (co_324 (by repeat (first | with_reducible exact hw | with_reducible exact hwc | with_reducible assumption | with_reducible apply Wf.sI | with_reducible apply Wf.sL | with_reducible apply Wf.cpI | with_reducible apply Wf.cpL | with_reducible apply Wf.cp2 | with_reducible apply Wf.sIs | with_reducible apply Wf.sLs | with_reducible apply Wf.cpU | with_reducible apply Wf.fillI | with_reducible apply Wf.clU | with_reducible apply Wf.dnF | with_reducible apply Wf.gbW))) (by decide) hc_X6 (by decide) (by decide) (Nat.le_of_ble_eq_true rfl)) ?_
  refine ⟨_, _, (a_ireturn dX10_count_144 rfl rfl), ?_⟩
  exact ⟨_, rfl, rfl, AskQ.ord hs hO⟩
theorem c_count_9 (hw : Wf μ) (hv : FV μ 24 p d) (hq : PV μ p q) (hq1 : GdP q) (hd : GdD q d) (hs : SvA μ q d) {hn : Nat} (hn9 : gI μ 82 2 = nI hn) : CV Y_X10_count R_X10_count [.ref 0, .int (nI 9)] μ (fun v V => v = some (.int (cnV q d hn 9)) ∧ AskQ μ q d V) := by
  refine CV.ent yk_X10_count (Nat.le_of_ble_eq_true rfl) ?_
  have hC4 := hq.C4
  have hM4 := hq.M4
  have hT4 := hq.T4
  have hP4 := hv.P4
  have hU4 := hv.U4
  refine lf (a_iload_n dX10_count_0 rfl) ?_
  refine lf (a_tsIn (tgt := 145) dX10_count_1 (by decide) (by decide) rfl (by decide)) ?_
  refine lf (a_aload_n dX10_count_145 rfl) ?_
  refine lf (a_getR (cr_0_11 (by repeat (first | with_reducible exact hw | with_reducible exact hwc | with_reducible assumption | with_reducible apply Wf.sI | with_reducible apply Wf.sL | with_reducible apply Wf.cpI | with_reducible apply Wf.cpL | with_reducible apply Wf.cp2 | with_reducible apply Wf.sIs | with_reducible apply Wf.sLs | with_reducible apply Wf.cpU | with_reducible apply Wf.fillI | with_reducible apply Wf.clU | with_reducible apply Wf.dnF | with_reducible apply Wf.gbW))) dX10_count_146 fs_X10_49 rfl (co_0 (by repeat (first | with_reducible exact hw | with_reducible exact hwc | with_reducible assumption | with_reducible apply Wf.sI | with_reducible apply Wf.sL | with_reducible apply Wf.cpI | with_reducible apply Wf.cpL | with_reducible apply Wf.cp2 | with_reducible apply Wf.sIs | with_reducible apply Wf.sLs | with_reducible apply Wf.cpU | with_reducible apply Wf.fillI | with_reducible apply Wf.clU | with_reducible apply Wf.dnF | with_reducible apply Wf.gbW)))) ?_
  refine lf (a_getI dX10_count_149 fs_X10_164 rfl (co_82 (by repeat (first | with_reducible exact hw | with_reducible exact hwc | with_reducible assumption | with_reducible apply Wf.sI | with_reducible apply Wf.sL | with_reducible apply Wf.cpI | with_reducible apply Wf.cpL | with_reducible apply Wf.cp2 | with_reducible apply Wf.sIs | with_reducible apply Wf.sLs | with_reducible apply Wf.cpU | with_reducible apply Wf.fillI | with_reducible apply Wf.clU | with_reducible apply Wf.dnF | with_reducible apply Wf.gbW)))) ?_
  rw [hn9]
  refine ⟨_, _, (a_ireturn dX10_count_152 rfl rfl), ?_⟩
  exact ⟨_, rfl, rfl, AskQ.rfl' hw hs⟩
theorem c_count_10 (hw : Wf μ) (hv : FV μ 24 p d) (hq : PV μ p q) (hq1 : GdP q) (hd : GdD q d) (hs : SvA μ q d) {hn : Nat} (hn9 : gI μ 82 2 = nI hn) : CV Y_X10_count R_X10_count [.ref 0, .int (nI 10)] μ (fun v V => v = some (.int (cnV q d hn 10)) ∧ AskQ μ q d V) := by
  refine CV.ent yk_X10_count (Nat.le_of_ble_eq_true rfl) ?_
  have hC4 := hq.C4
  have hM4 := hq.M4
  have hT4 := hq.T4
  have hP4 := hv.P4
  have hU4 := hv.U4
  refine lf (a_iload_n dX10_count_0 rfl) ?_
  refine lf (a_tsIn (tgt := 153) dX10_count_1 (by decide) (by decide) rfl (by decide)) ?_
  refine lf (a_aload_n dX10_count_153 rfl) ?_
  refine lf (a_getR (cr_0_7 (by repeat (first | with_reducible exact hw | with_reducible exact hwc | with_reducible assumption | with_reducible apply Wf.sI | with_reducible apply Wf.sL | with_reducible apply Wf.cpI | with_reducible apply Wf.cpL | with_reducible apply Wf.cp2 | with_reducible apply Wf.sIs | with_reducible apply Wf.sLs | with_reducible apply Wf.cpU | with_reducible apply Wf.fillI | with_reducible apply Wf.clU | with_reducible apply Wf.dnF | with_reducible apply Wf.gbW))) dX10_count_154 fs_X10_28 rfl (co_0 (by repeat (first | with_reducible exact hw | with_reducible exact hwc | with_reducible assumption | with_reducible apply Wf.sI | with_reducible apply Wf.sL | with_reducible apply Wf.cpI | with_reducible apply Wf.cpL | with_reducible apply Wf.cp2 | with_reducible apply Wf.sIs | with_reducible apply Wf.sLs | with_reducible apply Wf.cpU | with_reducible apply Wf.fillI | with_reducible apply Wf.clU | with_reducible apply Wf.dnF | with_reducible apply Wf.gbW)))) ?_
  refine lf (a_getR hv.rp dX10_count_157 fs_X10_116 rfl (fl_o (by repeat (first | with_reducible exact hw | with_reducible exact hwc | with_reducible assumption | with_reducible apply Wf.sI | with_reducible apply Wf.sL | with_reducible apply Wf.cpI | with_reducible apply Wf.cpL | with_reducible apply Wf.cp2 | with_reducible apply Wf.sIs | with_reducible apply Wf.sLs | with_reducible apply Wf.cpU | with_reducible apply Wf.fillI | with_reducible apply Wf.clU | with_reducible apply Wf.dnF | with_reducible apply Wf.gbW)) fl_now)) ?_
  refine lf (a_getI dX10_count_160 fs_X10_167 rfl (pl_o (by repeat (first | with_reducible exact hw | with_reducible exact hwc | with_reducible assumption | with_reducible apply Wf.sI | with_reducible apply Wf.sL | with_reducible apply Wf.cpI | with_reducible apply Wf.cpL | with_reducible apply Wf.cp2 | with_reducible apply Wf.sIs | with_reducible apply Wf.sLs | with_reducible apply Wf.cpU | with_reducible apply Wf.fillI | with_reducible apply Wf.clU | with_reducible apply Wf.dnF | with_reducible apply Wf.gbW)) hq.pl)) ?_
  rw [hq.clos]
  refine ⟨_, _, (a_ireturn dX10_count_163 rfl rfl), ?_⟩
  exact ⟨_, rfl, rfl, AskQ.rfl' hw hs⟩
theorem c_count_11 (hw : Wf μ) (hv : FV μ 24 p d) (hq : PV μ p q) (hq1 : GdP q) (hd : GdD q d) (hs : SvA μ q d) {hn : Nat} (hn9 : gI μ 82 2 = nI hn) : CV Y_X10_count R_X10_count [.ref 0, .int (nI 11)] μ (fun v V => v = some (.int (cnV q d hn 11)) ∧ AskQ μ q d V) := by
  refine CV.ent yk_X10_count (Nat.le_of_ble_eq_true rfl) ?_
  have hC4 := hq.C4
  have hM4 := hq.M4
  have hT4 := hq.T4
  have hP4 := hv.P4
  have hU4 := hv.U4
  refine lf (a_iload_n dX10_count_0 rfl) ?_
  refine lf (a_tsIn (tgt := 164) dX10_count_1 (by decide) (by decide) rfl (by decide)) ?_
  refine lf (a_aload_n dX10_count_164 rfl) ?_
  refine lf (a_getR (cr_0_7 (by repeat (first | with_reducible exact hw | with_reducible exact hwc | with_reducible assumption | with_reducible apply Wf.sI | with_reducible apply Wf.sL | with_reducible apply Wf.cpI | with_reducible apply Wf.cpL | with_reducible apply Wf.cp2 | with_reducible apply Wf.sIs | with_reducible apply Wf.sLs | with_reducible apply Wf.cpU | with_reducible apply Wf.fillI | with_reducible apply Wf.clU | with_reducible apply Wf.dnF | with_reducible apply Wf.gbW))) dX10_count_165 fs_X10_28 rfl (co_0 (by repeat (first | with_reducible exact hw | with_reducible exact hwc | with_reducible assumption | with_reducible apply Wf.sI | with_reducible apply Wf.sL | with_reducible apply Wf.cpI | with_reducible apply Wf.cpL | with_reducible apply Wf.cp2 | with_reducible apply Wf.sIs | with_reducible apply Wf.sLs | with_reducible apply Wf.cpU | with_reducible apply Wf.fillI | with_reducible apply Wf.clU | with_reducible apply Wf.dnF | with_reducible apply Wf.gbW)))) ?_
  refine lf (a_getR hv.rp dX10_count_168 fs_X10_116 rfl (fl_o (by repeat (first | with_reducible exact hw | with_reducible exact hwc | with_reducible assumption | with_reducible apply Wf.sI | with_reducible apply Wf.sL | with_reducible apply Wf.cpI | with_reducible apply Wf.cpL | with_reducible apply Wf.cp2 | with_reducible apply Wf.sIs | with_reducible apply Wf.sLs | with_reducible apply Wf.cpU | with_reducible apply Wf.fillI | with_reducible apply Wf.clU | with_reducible apply Wf.dnF | with_reducible apply Wf.gbW)) fl_now)) ?_
  refine lf (a_getI dX10_count_171 fs_X10_170 rfl (pl_o (by repeat (first | with_reducible exact hw | with_reducible exact hwc | with_reducible assumption | with_reducible apply Wf.sI | with_reducible apply Wf.sL | with_reducible apply Wf.cpI | with_reducible apply Wf.cpL | with_reducible apply Wf.cp2 | with_reducible apply Wf.sIs | with_reducible apply Wf.sLs | with_reducible apply Wf.cpU | with_reducible apply Wf.fillI | with_reducible apply Wf.clU | with_reducible apply Wf.dnF | with_reducible apply Wf.gbW)) hq.pl)) ?_
  rw [hq.lead]
  refine ⟨_, _, (a_ireturn dX10_count_174 rfl rfl), ?_⟩
  exact ⟨_, rfl, rfl, AskQ.rfl' hw hs⟩
theorem c_count (hw : Wf μ) (hv : FV μ 24 p d) (hq : PV μ p q) (hq1 : GdP q) (hd : GdD q d) (hs : SvA μ q d) {hn : Nat} (hn9 : gI μ 82 2 = nI hn) {k : Nat} (hk : k < 12) : CV Y_X10_count R_X10_count [.ref 0, .int (nI k)] μ (fun v V => v = some (.int (cnV q d hn k)) ∧ AskQ μ q d V) := by
  rcases (by omega : k = 0 ∨ k = 1 ∨ k = 2 ∨ k = 3 ∨ k = 4 ∨ k = 5 ∨ k = 6 ∨ k = 7 ∨ k = 8 ∨ k = 9 ∨ k = 10 ∨ k = 11) with rfl | rfl | rfl | rfl | rfl | rfl | rfl | rfl | rfl | rfl | rfl | rfl
  · exact c_count_0 hw hv hq hq1 hd hs hn9
  · exact c_count_1 hw hv hq hq1 hd hs hn9
  · exact c_count_2 hw hv hq hq1 hd hs hn9
  · exact c_count_3 hw hv hq hq1 hd hs hn9
  · exact c_count_4 hw hv hq hq1 hd hs hn9
  · exact c_count_5 hw hv hq hq1 hd hs hn9
  · exact c_count_6 hw hv hq hq1 hd hs hn9
  · exact c_count_7 hw hv hq hq1 hd hs hn9
  · exact c_count_8 hw hv hq hq1 hd hs hn9
  · exact c_count_9 hw hv hq hq1 hd hs hn9
  · exact c_count_10 hw hv hq hq1 hd hs hn9
  · exact c_count_11 hw hv hq hq1 hd hs hn9

theorem cx_count (hw : Wf μ) (hv : FV μ 24 p d) (hq : PV μ p q) {x : Int32} (h : ixO x 12 = none) : Ct Y_X10_count RX_X10_count [.ref 0, .int x] μ (.inr IAE) μ := by
  have hC4 := hq.C4
  have hM4 := hq.M4
  have hT4 := hq.T4
  have hP4 := hv.P4
  have hU4 := hv.U4
  have g2 := ix_out h
  refine Ct.ent yk_X10_count (Nat.le_of_ble_eq_true rfl) ?_
  refine a_iload_n dX10_count_0 rfl ?_
  refine a_tsOut (tgt := 175) dX10_count_1 (by omega) (by decide) ?_
  exact a_throwS (n := 18) (tx := "nothing such to count") (by decide) (by decide) xw_IAE rfl rfl dX10_count_175 dX10_count_178 dX10_count_179 dX10_count_181 dX10_count_184 (by decide) (by decide) (by decide) (by decide) (by decide)
abbrev R_X10_cabin : Room := { frames := 8, cells := 0, slots := 0, locals := 161 }
abbrev RX_X10_cabin : Room := { frames := 8, cells := 1, slots := 6, locals := 161 }

theorem c_cabin_0 (hw : Wf μ) (hv : FV μ 24 p d) (hq : PV μ p q) (hq1 : GdP q) (hd : GdD q d) (hs : SvA μ q d) {c : Nat} (hc : c < pC q) : CV Y_X10_cabin R_X10_cabin [.ref 0, .int (nI c), .int (nI 0)] μ (fun v V => v = some (.int (caV q d c 0)) ∧ AskQ μ q d V) := by
  refine CV.ent yk_X10_cabin (Nat.le_of_ble_eq_true rfl) ?_
  have hC4 := hq.C4
  have hM4 := hq.M4
  have hT4 := hq.T4
  have hP4 := hv.P4
  have hU4 := hv.U4
  refine lf (a_aload_n dX10_cabin_0 rfl) ?_
  refine lf (a_iload_n dX10_cabin_1 rfl) ?_
  refine lf (a_inv (b2 := (0, 0)) (c_requireCabin (by repeat (first | with_reducible exact hw | with_reducible exact hwc | with_reducible assumption | with_reducible apply Wf.sI | with_reducible apply Wf.sL | with_reducible apply Wf.cpI | with_reducible apply Wf.cpL | with_reducible apply Wf.cp2 | with_reducible apply Wf.sIs | with_reducible apply Wf.sLs | with_reducible apply Wf.cpU | with_reducible apply Wf.fillI | with_reducible apply Wf.clU | with_reducible apply Wf.dnF | with_reducible apply Wf.gbW)) hv hq hc) rfl dX10_cabin_2 yk_X10_requireCabin im_X10_requireCabin se_X10_requireCabin ml_X10_175 rfl (co_0 (by repeat (first | with_reducible exact hw | with_reducible exact hwc | with_reducible assumption | with_reducible apply Wf.sI | with_reducible apply Wf.sL | with_reducible apply Wf.cpI | with_reducible apply Wf.cpL | with_reducible apply Wf.cp2 | with_reducible apply Wf.sIs | with_reducible apply Wf.sLs | with_reducible apply Wf.cpU | with_reducible apply Wf.fillI | with_reducible apply Wf.clU | with_reducible apply Wf.dnF | with_reducible apply Wf.gbW))) (by decide) hc_X10 (by decide) (by decide) (Nat.le_of_ble_eq_true rfl)) ?_
  refine lf (a_iload_n dX10_cabin_5 rfl) ?_
  refine lf (a_tsIn (tgt := 52) dX10_cabin_6 (by decide) (by decide) rfl (by decide)) ?_
  refine lf (a_aload_n dX10_cabin_52 rfl) ?_
  refine lf (a_getR (cr_0_7 (by repeat (first | with_reducible exact hw | with_reducible exact hwc | with_reducible assumption | with_reducible apply Wf.sI | with_reducible apply Wf.sL | with_reducible apply Wf.cpI | with_reducible apply Wf.cpL | with_reducible apply Wf.cp2 | with_reducible apply Wf.sIs | with_reducible apply Wf.sLs | with_reducible apply Wf.cpU | with_reducible apply Wf.fillI | with_reducible apply Wf.clU | with_reducible apply Wf.dnF | with_reducible apply Wf.gbW))) dX10_cabin_53 fs_X10_28 rfl (co_0 (by repeat (first | with_reducible exact hw | with_reducible exact hwc | with_reducible assumption | with_reducible apply Wf.sI | with_reducible apply Wf.sL | with_reducible apply Wf.cpI | with_reducible apply Wf.cpL | with_reducible apply Wf.cp2 | with_reducible apply Wf.sIs | with_reducible apply Wf.sLs | with_reducible apply Wf.cpU | with_reducible apply Wf.fillI | with_reducible apply Wf.clU | with_reducible apply Wf.dnF | with_reducible apply Wf.gbW)))) ?_
  refine lf (a_getR hv.rp dX10_cabin_56 fs_X10_116 rfl (fl_o (by repeat (first | with_reducible exact hw | with_reducible exact hwc | with_reducible assumption | with_reducible apply Wf.sI | with_reducible apply Wf.sL | with_reducible apply Wf.cpI | with_reducible apply Wf.cpL | with_reducible apply Wf.cp2 | with_reducible apply Wf.sIs | with_reducible apply Wf.sLs | with_reducible apply Wf.cpU | with_reducible apply Wf.fillI | with_reducible apply Wf.clU | with_reducible apply Wf.dnF | with_reducible apply Wf.gbW)) fl_now)) ?_
  refine lf (a_getR (pl_r2 (by repeat (first | with_reducible exact hw | with_reducible exact hwc | with_reducible assumption | with_reducible apply Wf.sI | with_reducible apply Wf.sL | with_reducible apply Wf.cpI | with_reducible apply Wf.cpL | with_reducible apply Wf.cp2 | with_reducible apply Wf.sIs | with_reducible apply Wf.sLs | with_reducible apply Wf.cpU | with_reducible apply Wf.fillI | with_reducible apply Wf.clU | with_reducible apply Wf.dnF | with_reducible apply Wf.gbW)) hq.pl) dX10_cabin_59 fs_X10_178 rfl (pl_o (by repeat (first | with_reducible exact hw | with_reducible exact hwc | with_reducible assumption | with_reducible apply Wf.sI | with_reducible apply Wf.sL | with_reducible apply Wf.cpI | with_reducible apply Wf.cpL | with_reducible apply Wf.cp2 | with_reducible apply Wf.sIs | with_reducible apply Wf.sLs | with_reducible apply Wf.cpU | with_reducible apply Wf.fillI | with_reducible apply Wf.clU | with_reducible apply Wf.dnF | with_reducible apply Wf.gbW)) hq.pl)) ?_
  refine lf (a_iload_n dX10_cabin_62 rfl) ?_
  refine lf (a_aald (j := c) dX10_cabin_63 (pl_a1 (by repeat (first | with_reducible exact hw | with_reducible exact hwc | with_reducible assumption | with_reducible apply Wf.sI | with_reducible apply Wf.sL | with_reducible apply Wf.cpI | with_reducible apply Wf.cpL | with_reducible apply Wf.cp2 | with_reducible apply Wf.sIs | with_reducible apply Wf.sLs | with_reducible apply Wf.cpU | with_reducible apply Wf.fillI | with_reducible apply Wf.clU | with_reducible apply Wf.dnF | with_reducible apply Wf.gbW)) hq.pl) (by decide) (ixn (by omega) (by decide)) (pl_rc (by repeat (first | with_reducible exact hw | with_reducible exact hwc | with_reducible assumption | with_reducible apply Wf.sI | with_reducible apply Wf.sL | with_reducible apply Wf.cpI | with_reducible apply Wf.cpL | with_reducible apply Wf.cp2 | with_reducible apply Wf.sIs | with_reducible apply Wf.sLs | with_reducible apply Wf.cpU | with_reducible apply Wf.fillI | with_reducible apply Wf.clU | with_reducible apply Wf.dnF | with_reducible apply Wf.gbW)) hq.pl (by omega))) ?_
  refine lf (a_getI dX10_cabin_64 fs_X10_182 rfl (pl_c (by repeat (first | with_reducible exact hw | with_reducible exact hwc | with_reducible assumption | with_reducible apply Wf.sI | with_reducible apply Wf.sL | with_reducible apply Wf.cpI | with_reducible apply Wf.cpL | with_reducible apply Wf.cp2 | with_reducible apply Wf.sIs | with_reducible apply Wf.sLs | with_reducible apply Wf.cpU | with_reducible apply Wf.fillI | with_reducible apply Wf.clU | with_reducible apply Wf.dnF | with_reducible apply Wf.gbW)) hq.pl (by omega))) ?_
  rw [hq.seats hc]
  refine ⟨_, _, (a_ireturn dX10_cabin_67 rfl rfl), ?_⟩
  exact ⟨_, rfl, rfl, AskQ.rfl' hw hs⟩
theorem c_cabin_1 (hw : Wf μ) (hv : FV μ 24 p d) (hq : PV μ p q) (hq1 : GdP q) (hd : GdD q d) (hs : SvA μ q d) {c : Nat} (hc : c < pC q) : CV Y_X10_cabin R_X10_cabin [.ref 0, .int (nI c), .int (nI 1)] μ (fun v V => v = some (.int (caV q d c 1)) ∧ AskQ μ q d V) := by
  refine CV.ent yk_X10_cabin (Nat.le_of_ble_eq_true rfl) ?_
  have hC4 := hq.C4
  have hM4 := hq.M4
  have hT4 := hq.T4
  have hP4 := hv.P4
  have hU4 := hv.U4
  refine lf (a_aload_n dX10_cabin_0 rfl) ?_
  refine lf (a_iload_n dX10_cabin_1 rfl) ?_
  refine lf (a_inv (b2 := (0, 0)) (c_requireCabin (by repeat (first | with_reducible exact hw | with_reducible exact hwc | with_reducible assumption | with_reducible apply Wf.sI | with_reducible apply Wf.sL | with_reducible apply Wf.cpI | with_reducible apply Wf.cpL | with_reducible apply Wf.cp2 | with_reducible apply Wf.sIs | with_reducible apply Wf.sLs | with_reducible apply Wf.cpU | with_reducible apply Wf.fillI | with_reducible apply Wf.clU | with_reducible apply Wf.dnF | with_reducible apply Wf.gbW)) hv hq hc) rfl dX10_cabin_2 yk_X10_requireCabin im_X10_requireCabin se_X10_requireCabin ml_X10_175 rfl (co_0 (by repeat (first | with_reducible exact hw | with_reducible exact hwc | with_reducible assumption | with_reducible apply Wf.sI | with_reducible apply Wf.sL | with_reducible apply Wf.cpI | with_reducible apply Wf.cpL | with_reducible apply Wf.cp2 | with_reducible apply Wf.sIs | with_reducible apply Wf.sLs | with_reducible apply Wf.cpU | with_reducible apply Wf.fillI | with_reducible apply Wf.clU | with_reducible apply Wf.dnF | with_reducible apply Wf.gbW))) (by decide) hc_X10 (by decide) (by decide) (Nat.le_of_ble_eq_true rfl)) ?_
  refine lf (a_iload_n dX10_cabin_5 rfl) ?_
  refine lf (a_tsIn (tgt := 68) dX10_cabin_6 (by decide) (by decide) rfl (by decide)) ?_
  refine lf (a_aload_n dX10_cabin_68 rfl) ?_
  refine lf (a_getR (cr_0_7 (by repeat (first | with_reducible exact hw | with_reducible exact hwc | with_reducible assumption | with_reducible apply Wf.sI | with_reducible apply Wf.sL | with_reducible apply Wf.cpI | with_reducible apply Wf.cpL | with_reducible apply Wf.cp2 | with_reducible apply Wf.sIs | with_reducible apply Wf.sLs | with_reducible apply Wf.cpU | with_reducible apply Wf.fillI | with_reducible apply Wf.clU | with_reducible apply Wf.dnF | with_reducible apply Wf.gbW))) dX10_cabin_69 fs_X10_28 rfl (co_0 (by repeat (first | with_reducible exact hw | with_reducible exact hwc | with_reducible assumption | with_reducible apply Wf.sI | with_reducible apply Wf.sL | with_reducible apply Wf.cpI | with_reducible apply Wf.cpL | with_reducible apply Wf.cp2 | with_reducible apply Wf.sIs | with_reducible apply Wf.sLs | with_reducible apply Wf.cpU | with_reducible apply Wf.fillI | with_reducible apply Wf.clU | with_reducible apply Wf.dnF | with_reducible apply Wf.gbW)))) ?_
  refine lf (a_getR hv.rp dX10_cabin_72 fs_X10_116 rfl (fl_o (by repeat (first | with_reducible exact hw | with_reducible exact hwc | with_reducible assumption | with_reducible apply Wf.sI | with_reducible apply Wf.sL | with_reducible apply Wf.cpI | with_reducible apply Wf.cpL | with_reducible apply Wf.cp2 | with_reducible apply Wf.sIs | with_reducible apply Wf.sLs | with_reducible apply Wf.cpU | with_reducible apply Wf.fillI | with_reducible apply Wf.clU | with_reducible apply Wf.dnF | with_reducible apply Wf.gbW)) fl_now)) ?_
  refine lf (a_getR (pl_r2 (by repeat (first | with_reducible exact hw | with_reducible exact hwc | with_reducible assumption | with_reducible apply Wf.sI | with_reducible apply Wf.sL | with_reducible apply Wf.cpI | with_reducible apply Wf.cpL | with_reducible apply Wf.cp2 | with_reducible apply Wf.sIs | with_reducible apply Wf.sLs | with_reducible apply Wf.cpU | with_reducible apply Wf.fillI | with_reducible apply Wf.clU | with_reducible apply Wf.dnF | with_reducible apply Wf.gbW)) hq.pl) dX10_cabin_75 fs_X10_178 rfl (pl_o (by repeat (first | with_reducible exact hw | with_reducible exact hwc | with_reducible assumption | with_reducible apply Wf.sI | with_reducible apply Wf.sL | with_reducible apply Wf.cpI | with_reducible apply Wf.cpL | with_reducible apply Wf.cp2 | with_reducible apply Wf.sIs | with_reducible apply Wf.sLs | with_reducible apply Wf.cpU | with_reducible apply Wf.fillI | with_reducible apply Wf.clU | with_reducible apply Wf.dnF | with_reducible apply Wf.gbW)) hq.pl)) ?_
  refine lf (a_iload_n dX10_cabin_78 rfl) ?_
  refine lf (a_aald (j := c) dX10_cabin_79 (pl_a1 (by repeat (first | with_reducible exact hw | with_reducible exact hwc | with_reducible assumption | with_reducible apply Wf.sI | with_reducible apply Wf.sL | with_reducible apply Wf.cpI | with_reducible apply Wf.cpL | with_reducible apply Wf.cp2 | with_reducible apply Wf.sIs | with_reducible apply Wf.sLs | with_reducible apply Wf.cpU | with_reducible apply Wf.fillI | with_reducible apply Wf.clU | with_reducible apply Wf.dnF | with_reducible apply Wf.gbW)) hq.pl) (by decide) (ixn (by omega) (by decide)) (pl_rc (by repeat (first | with_reducible exact hw | with_reducible exact hwc | with_reducible assumption | with_reducible apply Wf.sI | with_reducible apply Wf.sL | with_reducible apply Wf.cpI | with_reducible apply Wf.cpL | with_reducible apply Wf.cp2 | with_reducible apply Wf.sIs | with_reducible apply Wf.sLs | with_reducible apply Wf.cpU | with_reducible apply Wf.fillI | with_reducible apply Wf.clU | with_reducible apply Wf.dnF | with_reducible apply Wf.gbW)) hq.pl (by omega))) ?_
  refine lf (a_getI dX10_cabin_80 fs_X10_187 rfl (pl_c (by repeat (first | with_reducible exact hw | with_reducible exact hwc | with_reducible assumption | with_reducible apply Wf.sI | with_reducible apply Wf.sL | with_reducible apply Wf.cpI | with_reducible apply Wf.cpL | with_reducible apply Wf.cp2 | with_reducible apply Wf.sIs | with_reducible apply Wf.sLs | with_reducible apply Wf.cpU | with_reducible apply Wf.fillI | with_reducible apply Wf.clU | with_reducible apply Wf.dnF | with_reducible apply Wf.gbW)) hq.pl (by omega))) ?_
  rw [hq.spare hc]
  refine ⟨_, _, (a_ireturn dX10_cabin_83 rfl rfl), ?_⟩
  exact ⟨_, rfl, rfl, AskQ.rfl' hw hs⟩
theorem c_cabin_2 (hw : Wf μ) (hv : FV μ 24 p d) (hq : PV μ p q) (hq1 : GdP q) (hd : GdD q d) (hs : SvA μ q d) {c : Nat} (hc : c < pC q) : CV Y_X10_cabin R_X10_cabin [.ref 0, .int (nI c), .int (nI 2)] μ (fun v V => v = some (.int (caV q d c 2)) ∧ AskQ μ q d V) := by
  refine CV.ent yk_X10_cabin (Nat.le_of_ble_eq_true rfl) ?_
  have hC4 := hq.C4
  have hM4 := hq.M4
  have hT4 := hq.T4
  have hP4 := hv.P4
  have hU4 := hv.U4
  refine lf (a_aload_n dX10_cabin_0 rfl) ?_
  refine lf (a_iload_n dX10_cabin_1 rfl) ?_
  refine lf (a_inv (b2 := (0, 0)) (c_requireCabin (by repeat (first | with_reducible exact hw | with_reducible exact hwc | with_reducible assumption | with_reducible apply Wf.sI | with_reducible apply Wf.sL | with_reducible apply Wf.cpI | with_reducible apply Wf.cpL | with_reducible apply Wf.cp2 | with_reducible apply Wf.sIs | with_reducible apply Wf.sLs | with_reducible apply Wf.cpU | with_reducible apply Wf.fillI | with_reducible apply Wf.clU | with_reducible apply Wf.dnF | with_reducible apply Wf.gbW)) hv hq hc) rfl dX10_cabin_2 yk_X10_requireCabin im_X10_requireCabin se_X10_requireCabin ml_X10_175 rfl (co_0 (by repeat (first | with_reducible exact hw | with_reducible exact hwc | with_reducible assumption | with_reducible apply Wf.sI | with_reducible apply Wf.sL | with_reducible apply Wf.cpI | with_reducible apply Wf.cpL | with_reducible apply Wf.cp2 | with_reducible apply Wf.sIs | with_reducible apply Wf.sLs | with_reducible apply Wf.cpU | with_reducible apply Wf.fillI | with_reducible apply Wf.clU | with_reducible apply Wf.dnF | with_reducible apply Wf.gbW))) (by decide) hc_X10 (by decide) (by decide) (Nat.le_of_ble_eq_true rfl)) ?_
  refine lf (a_iload_n dX10_cabin_5 rfl) ?_
  refine lf (a_tsIn (tgt := 84) dX10_cabin_6 (by decide) (by decide) rfl (by decide)) ?_
  refine lf (a_aload_n dX10_cabin_84 rfl) ?_
  refine lf (a_getR (cr_0_7 (by repeat (first | with_reducible exact hw | with_reducible exact hwc | with_reducible assumption | with_reducible apply Wf.sI | with_reducible apply Wf.sL | with_reducible apply Wf.cpI | with_reducible apply Wf.cpL | with_reducible apply Wf.cp2 | with_reducible apply Wf.sIs | with_reducible apply Wf.sLs | with_reducible apply Wf.cpU | with_reducible apply Wf.fillI | with_reducible apply Wf.clU | with_reducible apply Wf.dnF | with_reducible apply Wf.gbW))) dX10_cabin_85 fs_X10_28 rfl (co_0 (by repeat (first | with_reducible exact hw | with_reducible exact hwc | with_reducible assumption | with_reducible apply Wf.sI | with_reducible apply Wf.sL | with_reducible apply Wf.cpI | with_reducible apply Wf.cpL | with_reducible apply Wf.cp2 | with_reducible apply Wf.sIs | with_reducible apply Wf.sLs | with_reducible apply Wf.cpU | with_reducible apply Wf.fillI | with_reducible apply Wf.clU | with_reducible apply Wf.dnF | with_reducible apply Wf.gbW)))) ?_
  refine lf (a_iload_n dX10_cabin_88 rfl) ?_
  refine lf (a_inv (b2 := (0, 0)) (v_X1_passengersIn (by repeat (first | with_reducible exact hw | with_reducible exact hwc | with_reducible assumption | with_reducible apply Wf.sI | with_reducible apply Wf.sL | with_reducible apply Wf.cpI | with_reducible apply Wf.cpL | with_reducible apply Wf.cp2 | with_reducible apply Wf.sIs | with_reducible apply Wf.sLs | with_reducible apply Wf.cpU | with_reducible apply Wf.fillI | with_reducible apply Wf.clU | with_reducible apply Wf.dnF | with_reducible apply Wf.gbW)) hv (nI c)) rfl dX10_cabin_89 yk_X1_passengersIn im_X1_passengersIn se_X1_passengersIn ml_X10_190 rfl (fl_o (by repeat (first | with_reducible exact hw | with_reducible exact hwc | with_reducible assumption | with_reducible apply Wf.sI | with_reducible apply Wf.sL | with_reducible apply Wf.cpI | with_reducible apply Wf.cpL | with_reducible apply Wf.cp2 | with_reducible apply Wf.sIs | with_reducible apply Wf.sLs | with_reducible apply Wf.cpU | with_reducible apply Wf.fillI | with_reducible apply Wf.clU | with_reducible apply Wf.dnF | with_reducible apply Wf.gbW)) fl_now) (by decide) hc_X1 (by decide) (by decide) (Nat.le_of_ble_eq_true rfl)) ?_
  refine ⟨_, _, (a_ireturn dX10_cabin_92 rfl rfl), ?_⟩
  exact ⟨_, rfl, rfl, AskQ.rfl' hw hs⟩
theorem c_cabin_3 (hw : Wf μ) (hv : FV μ 24 p d) (hq : PV μ p q) (hq1 : GdP q) (hd : GdD q d) (hs : SvA μ q d) {c : Nat} (hc : c < pC q) : CV Y_X10_cabin R_X10_cabin [.ref 0, .int (nI c), .int (nI 3)] μ (fun v V => v = some (.int (caV q d c 3)) ∧ AskQ μ q d V) := by
  refine CV.ent yk_X10_cabin (Nat.le_of_ble_eq_true rfl) ?_
  have hC4 := hq.C4
  have hM4 := hq.M4
  have hT4 := hq.T4
  have hP4 := hv.P4
  have hU4 := hv.U4
  refine lf (a_aload_n dX10_cabin_0 rfl) ?_
  refine lf (a_iload_n dX10_cabin_1 rfl) ?_
  refine lf (a_inv (b2 := (0, 0)) (c_requireCabin (by repeat (first | with_reducible exact hw | with_reducible exact hwc | with_reducible assumption | with_reducible apply Wf.sI | with_reducible apply Wf.sL | with_reducible apply Wf.cpI | with_reducible apply Wf.cpL | with_reducible apply Wf.cp2 | with_reducible apply Wf.sIs | with_reducible apply Wf.sLs | with_reducible apply Wf.cpU | with_reducible apply Wf.fillI | with_reducible apply Wf.clU | with_reducible apply Wf.dnF | with_reducible apply Wf.gbW)) hv hq hc) rfl dX10_cabin_2 yk_X10_requireCabin im_X10_requireCabin se_X10_requireCabin ml_X10_175 rfl (co_0 (by repeat (first | with_reducible exact hw | with_reducible exact hwc | with_reducible assumption | with_reducible apply Wf.sI | with_reducible apply Wf.sL | with_reducible apply Wf.cpI | with_reducible apply Wf.cpL | with_reducible apply Wf.cp2 | with_reducible apply Wf.sIs | with_reducible apply Wf.sLs | with_reducible apply Wf.cpU | with_reducible apply Wf.fillI | with_reducible apply Wf.clU | with_reducible apply Wf.dnF | with_reducible apply Wf.gbW))) (by decide) hc_X10 (by decide) (by decide) (Nat.le_of_ble_eq_true rfl)) ?_
  refine lf (a_iload_n dX10_cabin_5 rfl) ?_
  refine lf (a_tsIn (tgt := 93) dX10_cabin_6 (by decide) (by decide) rfl (by decide)) ?_
  refine lf (a_aload_n dX10_cabin_93 rfl) ?_
  refine lf (a_getR (cr_0_7 (by repeat (first | with_reducible exact hw | with_reducible exact hwc | with_reducible assumption | with_reducible apply Wf.sI | with_reducible apply Wf.sL | with_reducible apply Wf.cpI | with_reducible apply Wf.cpL | with_reducible apply Wf.cp2 | with_reducible apply Wf.sIs | with_reducible apply Wf.sLs | with_reducible apply Wf.cpU | with_reducible apply Wf.fillI | with_reducible apply Wf.clU | with_reducible apply Wf.dnF | with_reducible apply Wf.gbW))) dX10_cabin_94 fs_X10_28 rfl (co_0 (by repeat (first | with_reducible exact hw | with_reducible exact hwc | with_reducible assumption | with_reducible apply Wf.sI | with_reducible apply Wf.sL | with_reducible apply Wf.cpI | with_reducible apply Wf.cpL | with_reducible apply Wf.cp2 | with_reducible apply Wf.sIs | with_reducible apply Wf.sLs | with_reducible apply Wf.cpU | with_reducible apply Wf.fillI | with_reducible apply Wf.clU | with_reducible apply Wf.dnF | with_reducible apply Wf.gbW)))) ?_
  refine lf (a_iload_n dX10_cabin_97 rfl) ?_
  refine lf (a_inv (b2 := (0, 0)) (v_X1_specialsIn (by repeat (first | with_reducible exact hw | with_reducible exact hwc | with_reducible assumption | with_reducible apply Wf.sI | with_reducible apply Wf.sL | with_reducible apply Wf.cpI | with_reducible apply Wf.cpL | with_reducible apply Wf.cp2 | with_reducible apply Wf.sIs | with_reducible apply Wf.sLs | with_reducible apply Wf.cpU | with_reducible apply Wf.fillI | with_reducible apply Wf.clU | with_reducible apply Wf.dnF | with_reducible apply Wf.gbW)) hv (nI c)) rfl dX10_cabin_98 yk_X1_specialsIn im_X1_specialsIn se_X1_specialsIn ml_X10_194 rfl (fl_o (by repeat (first | with_reducible exact hw | with_reducible exact hwc | with_reducible assumption | with_reducible apply Wf.sI | with_reducible apply Wf.sL | with_reducible apply Wf.cpI | with_reducible apply Wf.cpL | with_reducible apply Wf.cp2 | with_reducible apply Wf.sIs | with_reducible apply Wf.sLs | with_reducible apply Wf.cpU | with_reducible apply Wf.fillI | with_reducible apply Wf.clU | with_reducible apply Wf.dnF | with_reducible apply Wf.gbW)) fl_now) (by decide) hc_X1 (by decide) (by decide) (Nat.le_of_ble_eq_true rfl)) ?_
  refine ⟨_, _, (a_ireturn dX10_cabin_101 rfl rfl), ?_⟩
  exact ⟨_, rfl, rfl, AskQ.rfl' hw hs⟩
theorem c_cabin_4 (hw : Wf μ) (hv : FV μ 24 p d) (hq : PV μ p q) (hq1 : GdP q) (hd : GdD q d) (hs : SvA μ q d) {c : Nat} (hc : c < pC q) : CV Y_X10_cabin R_X10_cabin [.ref 0, .int (nI c), .int (nI 4)] μ (fun v V => v = some (.int (caV q d c 4)) ∧ AskQ μ q d V) := by
  refine CV.ent yk_X10_cabin (Nat.le_of_ble_eq_true rfl) ?_
  have hC4 := hq.C4
  have hM4 := hq.M4
  have hT4 := hq.T4
  have hP4 := hv.P4
  have hU4 := hv.U4
  refine lf (a_aload_n dX10_cabin_0 rfl) ?_
  refine lf (a_iload_n dX10_cabin_1 rfl) ?_
  refine lf (a_inv (b2 := (0, 0)) (c_requireCabin (by repeat (first | with_reducible exact hw | with_reducible exact hwc | with_reducible assumption | with_reducible apply Wf.sI | with_reducible apply Wf.sL | with_reducible apply Wf.cpI | with_reducible apply Wf.cpL | with_reducible apply Wf.cp2 | with_reducible apply Wf.sIs | with_reducible apply Wf.sLs | with_reducible apply Wf.cpU | with_reducible apply Wf.fillI | with_reducible apply Wf.clU | with_reducible apply Wf.dnF | with_reducible apply Wf.gbW)) hv hq hc) rfl dX10_cabin_2 yk_X10_requireCabin im_X10_requireCabin se_X10_requireCabin ml_X10_175 rfl (co_0 (by repeat (first | with_reducible exact hw | with_reducible exact hwc | with_reducible assumption | with_reducible apply Wf.sI | with_reducible apply Wf.sL | with_reducible apply Wf.cpI | with_reducible apply Wf.cpL | with_reducible apply Wf.cp2 | with_reducible apply Wf.sIs | with_reducible apply Wf.sLs | with_reducible apply Wf.cpU | with_reducible apply Wf.fillI | with_reducible apply Wf.clU | with_reducible apply Wf.dnF | with_reducible apply Wf.gbW))) (by decide) hc_X10 (by decide) (by decide) (Nat.le_of_ble_eq_true rfl)) ?_
  refine lf (a_iload_n dX10_cabin_5 rfl) ?_
  refine lf (a_tsIn (tgt := 102) dX10_cabin_6 (by decide) (by decide) rfl (by decide)) ?_
  refine lf (a_aload_n dX10_cabin_102 rfl) ?_
  refine lf (a_getR (cr_0_7 (by repeat (first | with_reducible exact hw | with_reducible exact hwc | with_reducible assumption | with_reducible apply Wf.sI | with_reducible apply Wf.sL | with_reducible apply Wf.cpI | with_reducible apply Wf.cpL | with_reducible apply Wf.cp2 | with_reducible apply Wf.sIs | with_reducible apply Wf.sLs | with_reducible apply Wf.cpU | with_reducible apply Wf.fillI | with_reducible apply Wf.clU | with_reducible apply Wf.dnF | with_reducible apply Wf.gbW))) dX10_cabin_103 fs_X10_28 rfl (co_0 (by repeat (first | with_reducible exact hw | with_reducible exact hwc | with_reducible assumption | with_reducible apply Wf.sI | with_reducible apply Wf.sL | with_reducible apply Wf.cpI | with_reducible apply Wf.cpL | with_reducible apply Wf.cp2 | with_reducible apply Wf.sIs | with_reducible apply Wf.sLs | with_reducible apply Wf.cpU | with_reducible apply Wf.fillI | with_reducible apply Wf.clU | with_reducible apply Wf.dnF | with_reducible apply Wf.gbW)))) ?_
  refine lf (a_getR hv.rp dX10_cabin_106 fs_X10_116 rfl (fl_o (by repeat (first | with_reducible exact hw | with_reducible exact hwc | with_reducible assumption | with_reducible apply Wf.sI | with_reducible apply Wf.sL | with_reducible apply Wf.cpI | with_reducible apply Wf.cpL | with_reducible apply Wf.cp2 | with_reducible apply Wf.sIs | with_reducible apply Wf.sLs | with_reducible apply Wf.cpU | with_reducible apply Wf.fillI | with_reducible apply Wf.clU | with_reducible apply Wf.dnF | with_reducible apply Wf.gbW)) fl_now)) ?_
  refine lf (a_iload_n dX10_cabin_109 rfl) ?_
  refine lf (a_inv (b2 := (0, 0)) (v_X7_trolleysOf (by repeat (first | with_reducible exact hw | with_reducible exact hwc | with_reducible assumption | with_reducible apply Wf.sI | with_reducible apply Wf.sL | with_reducible apply Wf.cpI | with_reducible apply Wf.cpL | with_reducible apply Wf.cp2 | with_reducible apply Wf.sIs | with_reducible apply Wf.sLs | with_reducible apply Wf.cpU | with_reducible apply Wf.fillI | with_reducible apply Wf.clU | with_reducible apply Wf.dnF | with_reducible apply Wf.gbW)) hq (nI c)) rfl dX10_cabin_110 yk_X7_trolleysOf im_X7_trolleysOf se_X7_trolleysOf ml_X10_197 rfl (pl_o (by repeat (first | with_reducible exact hw | with_reducible exact hwc | with_reducible assumption | with_reducible apply Wf.sI | with_reducible apply Wf.sL | with_reducible apply Wf.cpI | with_reducible apply Wf.cpL | with_reducible apply Wf.cp2 | with_reducible apply Wf.sIs | with_reducible apply Wf.sLs | with_reducible apply Wf.cpU | with_reducible apply Wf.fillI | with_reducible apply Wf.clU | with_reducible apply Wf.dnF | with_reducible apply Wf.gbW)) hq.pl) (by decide) hc_X7 (by decide) (by decide) (Nat.le_of_ble_eq_true rfl)) ?_
  refine ⟨_, _, (a_ireturn dX10_cabin_113 rfl rfl), ?_⟩
  exact ⟨_, rfl, rfl, AskQ.rfl' hw hs⟩
theorem c_cabin_5 (hw : Wf μ) (hv : FV μ 24 p d) (hq : PV μ p q) (hq1 : GdP q) (hd : GdD q d) (hs : SvA μ q d) {c : Nat} (hc : c < pC q) : CV Y_X10_cabin R_X10_cabin [.ref 0, .int (nI c), .int (nI 5)] μ (fun v V => v = some (.int (caV q d c 5)) ∧ AskQ μ q d V) := by
  refine CV.ent yk_X10_cabin (Nat.le_of_ble_eq_true rfl) ?_
  have hC4 := hq.C4
  have hM4 := hq.M4
  have hT4 := hq.T4
  have hP4 := hv.P4
  have hU4 := hv.U4
  refine lf (a_aload_n dX10_cabin_0 rfl) ?_
  refine lf (a_iload_n dX10_cabin_1 rfl) ?_
  refine lf (a_inv (b2 := (0, 0)) (c_requireCabin (by repeat (first | with_reducible exact hw | with_reducible exact hwc | with_reducible assumption | with_reducible apply Wf.sI | with_reducible apply Wf.sL | with_reducible apply Wf.cpI | with_reducible apply Wf.cpL | with_reducible apply Wf.cp2 | with_reducible apply Wf.sIs | with_reducible apply Wf.sLs | with_reducible apply Wf.cpU | with_reducible apply Wf.fillI | with_reducible apply Wf.clU | with_reducible apply Wf.dnF | with_reducible apply Wf.gbW)) hv hq hc) rfl dX10_cabin_2 yk_X10_requireCabin im_X10_requireCabin se_X10_requireCabin ml_X10_175 rfl (co_0 (by repeat (first | with_reducible exact hw | with_reducible exact hwc | with_reducible assumption | with_reducible apply Wf.sI | with_reducible apply Wf.sL | with_reducible apply Wf.cpI | with_reducible apply Wf.cpL | with_reducible apply Wf.cp2 | with_reducible apply Wf.sIs | with_reducible apply Wf.sLs | with_reducible apply Wf.cpU | with_reducible apply Wf.fillI | with_reducible apply Wf.clU | with_reducible apply Wf.dnF | with_reducible apply Wf.gbW))) (by decide) hc_X10 (by decide) (by decide) (Nat.le_of_ble_eq_true rfl)) ?_
  refine lf (a_iload_n dX10_cabin_5 rfl) ?_
  refine lf (a_tsIn (tgt := 114) dX10_cabin_6 (by decide) (by decide) rfl (by decide)) ?_
  refine lf (a_aload_n dX10_cabin_114 rfl) ?_
  refine lf (a_getR (cr_0_7 (by repeat (first | with_reducible exact hw | with_reducible exact hwc | with_reducible assumption | with_reducible apply Wf.sI | with_reducible apply Wf.sL | with_reducible apply Wf.cpI | with_reducible apply Wf.cpL | with_reducible apply Wf.cp2 | with_reducible apply Wf.sIs | with_reducible apply Wf.sLs | with_reducible apply Wf.cpU | with_reducible apply Wf.fillI | with_reducible apply Wf.clU | with_reducible apply Wf.dnF | with_reducible apply Wf.gbW))) dX10_cabin_115 fs_X10_28 rfl (co_0 (by repeat (first | with_reducible exact hw | with_reducible exact hwc | with_reducible assumption | with_reducible apply Wf.sI | with_reducible apply Wf.sL | with_reducible apply Wf.cpI | with_reducible apply Wf.cpL | with_reducible apply Wf.cp2 | with_reducible apply Wf.sIs | with_reducible apply Wf.sLs | with_reducible apply Wf.cpU | with_reducible apply Wf.fillI | with_reducible apply Wf.clU | with_reducible apply Wf.dnF | with_reducible apply Wf.gbW)))) ?_
  refine lf (a_iload_n dX10_cabin_118 rfl) ?_
  refine lf (a_inv (b2 := (0, 0)) (v_X1_freeSlotsIn (by repeat (first | with_reducible exact hw | with_reducible exact hwc | with_reducible assumption | with_reducible apply Wf.sI | with_reducible apply Wf.sL | with_reducible apply Wf.cpI | with_reducible apply Wf.cpL | with_reducible apply Wf.cp2 | with_reducible apply Wf.sIs | with_reducible apply Wf.sLs | with_reducible apply Wf.cpU | with_reducible apply Wf.fillI | with_reducible apply Wf.clU | with_reducible apply Wf.dnF | with_reducible apply Wf.gbW)) hv hq (nI c)) rfl dX10_cabin_119 yk_X1_freeSlotsIn im_X1_freeSlotsIn se_X1_freeSlotsIn ml_X10_200 rfl (fl_o (by repeat (first | with_reducible exact hw | with_reducible exact hwc | with_reducible assumption | with_reducible apply Wf.sI | with_reducible apply Wf.sL | with_reducible apply Wf.cpI | with_reducible apply Wf.cpL | with_reducible apply Wf.cp2 | with_reducible apply Wf.sIs | with_reducible apply Wf.sLs | with_reducible apply Wf.cpU | with_reducible apply Wf.fillI | with_reducible apply Wf.clU | with_reducible apply Wf.dnF | with_reducible apply Wf.gbW)) fl_now) (by decide) hc_X1 (by decide) (by decide) (Nat.le_of_ble_eq_true rfl)) ?_
  refine ⟨_, _, (a_ireturn dX10_cabin_122 rfl rfl), ?_⟩
  exact ⟨_, rfl, rfl, AskQ.rfl' hw hs⟩
theorem c_cabin_6 (hw : Wf μ) (hv : FV μ 24 p d) (hq : PV μ p q) (hq1 : GdP q) (hd : GdD q d) (hs : SvA μ q d) {c : Nat} (hc : c < pC q) : CV Y_X10_cabin R_X10_cabin [.ref 0, .int (nI c), .int (nI 6)] μ (fun v V => v = some (.int (caV q d c 6)) ∧ AskQ μ q d V) := by
  refine CV.ent yk_X10_cabin (Nat.le_of_ble_eq_true rfl) ?_
  have hC4 := hq.C4
  have hM4 := hq.M4
  have hT4 := hq.T4
  have hP4 := hv.P4
  have hU4 := hv.U4
  refine lf (a_aload_n dX10_cabin_0 rfl) ?_
  refine lf (a_iload_n dX10_cabin_1 rfl) ?_
  refine lf (a_inv (b2 := (0, 0)) (c_requireCabin (by repeat (first | with_reducible exact hw | with_reducible exact hwc | with_reducible assumption | with_reducible apply Wf.sI | with_reducible apply Wf.sL | with_reducible apply Wf.cpI | with_reducible apply Wf.cpL | with_reducible apply Wf.cp2 | with_reducible apply Wf.sIs | with_reducible apply Wf.sLs | with_reducible apply Wf.cpU | with_reducible apply Wf.fillI | with_reducible apply Wf.clU | with_reducible apply Wf.dnF | with_reducible apply Wf.gbW)) hv hq hc) rfl dX10_cabin_2 yk_X10_requireCabin im_X10_requireCabin se_X10_requireCabin ml_X10_175 rfl (co_0 (by repeat (first | with_reducible exact hw | with_reducible exact hwc | with_reducible assumption | with_reducible apply Wf.sI | with_reducible apply Wf.sL | with_reducible apply Wf.cpI | with_reducible apply Wf.cpL | with_reducible apply Wf.cp2 | with_reducible apply Wf.sIs | with_reducible apply Wf.sLs | with_reducible apply Wf.cpU | with_reducible apply Wf.fillI | with_reducible apply Wf.clU | with_reducible apply Wf.dnF | with_reducible apply Wf.gbW))) (by decide) hc_X10 (by decide) (by decide) (Nat.le_of_ble_eq_true rfl)) ?_
  refine lf (a_iload_n dX10_cabin_5 rfl) ?_
  refine lf (a_tsIn (tgt := 123) dX10_cabin_6 (by decide) (by decide) rfl (by decide)) ?_
  refine lf (a_aload_n dX10_cabin_123 rfl) ?_
  refine lf (a_getR (cr_0_7 (by repeat (first | with_reducible exact hw | with_reducible exact hwc | with_reducible assumption | with_reducible apply Wf.sI | with_reducible apply Wf.sL | with_reducible apply Wf.cpI | with_reducible apply Wf.cpL | with_reducible apply Wf.cp2 | with_reducible apply Wf.sIs | with_reducible apply Wf.sLs | with_reducible apply Wf.cpU | with_reducible apply Wf.fillI | with_reducible apply Wf.clU | with_reducible apply Wf.dnF | with_reducible apply Wf.gbW))) dX10_cabin_124 fs_X10_28 rfl (co_0 (by repeat (first | with_reducible exact hw | with_reducible exact hwc | with_reducible assumption | with_reducible apply Wf.sI | with_reducible apply Wf.sL | with_reducible apply Wf.cpI | with_reducible apply Wf.cpL | with_reducible apply Wf.cp2 | with_reducible apply Wf.sIs | with_reducible apply Wf.sLs | with_reducible apply Wf.cpU | with_reducible apply Wf.fillI | with_reducible apply Wf.clU | with_reducible apply Wf.dnF | with_reducible apply Wf.gbW)))) ?_
  refine lf (a_getR hv.rp dX10_cabin_127 fs_X10_116 rfl (fl_o (by repeat (first | with_reducible exact hw | with_reducible exact hwc | with_reducible assumption | with_reducible apply Wf.sI | with_reducible apply Wf.sL | with_reducible apply Wf.cpI | with_reducible apply Wf.cpL | with_reducible apply Wf.cp2 | with_reducible apply Wf.sIs | with_reducible apply Wf.sLs | with_reducible apply Wf.cpU | with_reducible apply Wf.fillI | with_reducible apply Wf.clU | with_reducible apply Wf.dnF | with_reducible apply Wf.gbW)) fl_now)) ?_
  refine lf (a_iload_n dX10_cabin_130 rfl) ?_
  refine lf (a_inv (b2 := (0, 0)) (v_X7_menuOf (by repeat (first | with_reducible exact hw | with_reducible exact hwc | with_reducible assumption | with_reducible apply Wf.sI | with_reducible apply Wf.sL | with_reducible apply Wf.cpI | with_reducible apply Wf.cpL | with_reducible apply Wf.cp2 | with_reducible apply Wf.sIs | with_reducible apply Wf.sLs | with_reducible apply Wf.cpU | with_reducible apply Wf.fillI | with_reducible apply Wf.clU | with_reducible apply Wf.dnF | with_reducible apply Wf.gbW)) hq (nI c)) rfl dX10_cabin_131 yk_X7_menuOf im_X7_menuOf se_X7_menuOf ml_X10_203 rfl (pl_o (by repeat (first | with_reducible exact hw | with_reducible exact hwc | with_reducible assumption | with_reducible apply Wf.sI | with_reducible apply Wf.sL | with_reducible apply Wf.cpI | with_reducible apply Wf.cpL | with_reducible apply Wf.cp2 | with_reducible apply Wf.sIs | with_reducible apply Wf.sLs | with_reducible apply Wf.cpU | with_reducible apply Wf.fillI | with_reducible apply Wf.clU | with_reducible apply Wf.dnF | with_reducible apply Wf.gbW)) hq.pl) (by decide) hc_X7 (by decide) (by decide) (Nat.le_of_ble_eq_true rfl)) ?_
  refine ⟨_, _, (a_ireturn dX10_cabin_134 rfl rfl), ?_⟩
  exact ⟨_, rfl, rfl, AskQ.rfl' hw hs⟩
theorem c_cabin_7 (hw : Wf μ) (hv : FV μ 24 p d) (hq : PV μ p q) (hq1 : GdP q) (hd : GdD q d) (hs : SvA μ q d) {c : Nat} (hc : c < pC q) : CV Y_X10_cabin R_X10_cabin [.ref 0, .int (nI c), .int (nI 7)] μ (fun v V => v = some (.int (caV q d c 7)) ∧ AskQ μ q d V) := by
  refine CV.ent yk_X10_cabin (Nat.le_of_ble_eq_true rfl) ?_
  have hC4 := hq.C4
  have hM4 := hq.M4
  have hT4 := hq.T4
  have hP4 := hv.P4
  have hU4 := hv.U4
  refine lf (a_aload_n dX10_cabin_0 rfl) ?_
  refine lf (a_iload_n dX10_cabin_1 rfl) ?_
  refine lf (a_inv (b2 := (0, 0)) (c_requireCabin (by repeat (first | with_reducible exact hw | with_reducible exact hwc | with_reducible assumption | with_reducible apply Wf.sI | with_reducible apply Wf.sL | with_reducible apply Wf.cpI | with_reducible apply Wf.cpL | with_reducible apply Wf.cp2 | with_reducible apply Wf.sIs | with_reducible apply Wf.sLs | with_reducible apply Wf.cpU | with_reducible apply Wf.fillI | with_reducible apply Wf.clU | with_reducible apply Wf.dnF | with_reducible apply Wf.gbW)) hv hq hc) rfl dX10_cabin_2 yk_X10_requireCabin im_X10_requireCabin se_X10_requireCabin ml_X10_175 rfl (co_0 (by repeat (first | with_reducible exact hw | with_reducible exact hwc | with_reducible assumption | with_reducible apply Wf.sI | with_reducible apply Wf.sL | with_reducible apply Wf.cpI | with_reducible apply Wf.cpL | with_reducible apply Wf.cp2 | with_reducible apply Wf.sIs | with_reducible apply Wf.sLs | with_reducible apply Wf.cpU | with_reducible apply Wf.fillI | with_reducible apply Wf.clU | with_reducible apply Wf.dnF | with_reducible apply Wf.gbW))) (by decide) hc_X10 (by decide) (by decide) (Nat.le_of_ble_eq_true rfl)) ?_
  refine lf (a_iload_n dX10_cabin_5 rfl) ?_
  refine lf (a_tsIn (tgt := 135) dX10_cabin_6 (by decide) (by decide) rfl (by decide)) ?_
  refine lf (a_aload_n dX10_cabin_135 rfl) ?_
  obtain ⟨v_, W136, k136, rfl, hO, hu⟩ := (c_freshOrder hw hv hq)
  have hwc := hO.1
  have hv2 := hv.hi hO sO_hi
  have hq2 := hq.hi hO sO_hi
  refine lf (a_inv (b2 := (0, 0)) k136 rfl dX10_cabin_136 yk_X10_freshOrder im_X10_freshOrder se_X10_freshOrder ml_X10_157 rfl (co_0 (by repeat (first | with_reducible exact hw | with_reducible exact hwc | with_reducible assumption | with_reducible apply Wf.sI | with_reducible apply Wf.sL | with_reducible apply Wf.cpI | with_reducible apply Wf.cpL | with_reducible apply Wf.cp2 | with_reducible apply Wf.sIs | with_reducible apply Wf.sLs | with_reducible apply Wf.cpU | with_reducible apply Wf.fillI | with_reducible apply Wf.clU | with_reducible apply Wf.dnF | with_reducible apply Wf.gbW))) (by decide) hc_X10 (by decide) (by decide) (Nat.le_of_ble_eq_true rfl)) ?_
  refine lf (a_aload_n dX10_cabin_139 rfl) ?_
  refine lf (a_getR (cr_0_7 (by repeat (first | with_reducible exact hw | with_reducible exact hwc | with_reducible assumption | with_reducible apply Wf.sI | with_reducible apply Wf.sL | with_reducible apply Wf.cpI | with_reducible apply Wf.cpL | with_reducible apply Wf.cp2 | with_reducible apply Wf.sIs | with_reducible apply Wf.sLs | with_reducible apply Wf.cpU | with_reducible apply Wf.fillI | with_reducible apply Wf.clU | with_reducible apply Wf.dnF | with_reducible apply Wf.gbW))) dX10_cabin_140 fs_X10_28 rfl (co_0 (by repeat (first | with_reducible exact hw | with_reducible exact hwc | with_reducible assumption | with_reducible apply Wf.sI | with_reducible apply Wf.sL | with_reducible apply Wf.cpI | with_reducible apply Wf.cpL | with_reducible apply Wf.cp2 | with_reducible apply Wf.sIs | with_reducible apply Wf.sLs | with_reducible apply Wf.cpU | with_reducible apply Wf.fillI | with_reducible apply Wf.clU | with_reducible apply Wf.dnF | with_reducible apply Wf.gbW)))) ?_
  refine lf (a_getR (hv2.rp) dX10_cabin_143 fs_X10_116 rfl (fl_o (by repeat (first | with_reducible exact hw | with_reducible exact hwc | with_reducible assumption | with_reducible apply Wf.sI | with_reducible apply Wf.sL | with_reducible apply Wf.cpI | with_reducible apply Wf.cpL | with_reducible apply Wf.cp2 | with_reducible apply Wf.sIs | with_reducible apply Wf.sLs | with_reducible apply Wf.cpU | with_reducible apply Wf.fillI | with_reducible apply Wf.clU | with_reducible apply Wf.dnF | with_reducible apply Wf.gbW)) fl_now)) ?_
  refine lf (a_iload_n dX10_cabin_146 rfl) ?_
  refine lf (a_inv (b2 := (0, 0)) (t_X6_slotsOfMenu hwc hq2 hu (nI c)) rfl dX10_cabin_147 yk_X6_slotsOfMenu im_X6_slotsOfMenu se_X6_slotsOfMenu ml_X10_206 rfl (co_324 (by repeat (first | with_reducible exact hw | with_reducible exact hwc | with_reducible assumption | with_reducible apply Wf.sI | with_reducible apply Wf.sL | with_reducible apply Wf.cpI | with_reducible apply Wf.cpL | with_reducible apply Wf.cp2 | with_reducible apply Wf.sIs | with_reducible apply Wf.sLs | with_reducible apply Wf.cpU | with_reducible apply Wf.fillI | with_reducible apply Wf.clU | with_reducible apply Wf.dnF | with_reducible apply Wf.gbW))) (by decide) hc_X6 (by decide) (by decide) (Nat.le_of_ble_eq_true rfl)) ?_
  refine ⟨_, _, (a_ireturn dX10_cabin_150 rfl rfl), ?_⟩
  exact ⟨_, rfl, rfl, AskQ.ord hs hO⟩
theorem c_cabin (hw : Wf μ) (hv : FV μ 24 p d) (hq : PV μ p q) (hq1 : GdP q) (hd : GdD q d) (hs : SvA μ q d) {c : Nat} (hc : c < pC q) {k : Nat} (hk : k < 8) : CV Y_X10_cabin R_X10_cabin [.ref 0, .int (nI c), .int (nI k)] μ (fun v V => v = some (.int (caV q d c k)) ∧ AskQ μ q d V) := by
  rcases (by omega : k = 0 ∨ k = 1 ∨ k = 2 ∨ k = 3 ∨ k = 4 ∨ k = 5 ∨ k = 6 ∨ k = 7) with rfl | rfl | rfl | rfl | rfl | rfl | rfl | rfl
  · exact c_cabin_0 hw hv hq hq1 hd hs hc
  · exact c_cabin_1 hw hv hq hq1 hd hs hc
  · exact c_cabin_2 hw hv hq hq1 hd hs hc
  · exact c_cabin_3 hw hv hq hq1 hd hs hc
  · exact c_cabin_4 hw hv hq hq1 hd hs hc
  · exact c_cabin_5 hw hv hq hq1 hd hs hc
  · exact c_cabin_6 hw hv hq hq1 hd hs hc
  · exact c_cabin_7 hw hv hq hq1 hd hs hc

theorem cx_cabin (hw : Wf μ) (hv : FV μ 24 p d) (hq : PV μ p q) {x y : Int32} (h : ixO x (pC q) = none) : Ct Y_X10_cabin RX_X10_cabin [.ref 0, .int x, .int y] μ (.inr NSE) μ := by
  have hC4 := hq.C4
  have hM4 := hq.M4
  have hT4 := hq.T4
  have hP4 := hv.P4
  have hU4 := hv.U4
  refine Ct.ent yk_X10_cabin (Nat.le_of_ble_eq_true rfl) ?_
  refine a_aload_n dX10_cabin_0 rfl ?_
  refine a_iload_n dX10_cabin_1 rfl ?_
  exact a_out rfl rfl (a_invX (cx_requireCabin hw hv hq h) rfl dX10_cabin_2 yk_X10_requireCabin im_X10_requireCabin se_X10_requireCabin ml_X10_175 rfl (co_0 hw) (by decide) hc_X10 (by decide) (by decide) (Nat.le_of_ble_eq_true rfl) rfl)

theorem cy_cabin (hw : Wf μ) (hv : FV μ 24 p d) (hq : PV μ p q)  {c : Nat} (hc : c < pC q) {y : Int32} (h : ixO y 8 = none) : Ct Y_X10_cabin RX_X10_cabin [.ref 0, .int (nI c), .int y] μ (.inr IAE) μ := by
  have hC4 := hq.C4
  have hM4 := hq.M4
  have hT4 := hq.T4
  have hP4 := hv.P4
  have hU4 := hv.U4
  have g2 := ix_out h
  refine Ct.ent yk_X10_cabin (Nat.le_of_ble_eq_true rfl) ?_
  refine a_aload_n dX10_cabin_0 rfl ?_
  refine a_iload_n dX10_cabin_1 rfl ?_
  refine a_inv (b2 := (1, 6)) (c_requireCabin hw hv hq hc) rfl dX10_cabin_2 yk_X10_requireCabin im_X10_requireCabin se_X10_requireCabin ml_X10_175 rfl (co_0 hw) (by decide) hc_X10 (by decide) (by decide) (Nat.le_of_ble_eq_true rfl) ?_
  refine a_iload_n dX10_cabin_5 rfl ?_
  refine a_tsOut (tgt := 151) dX10_cabin_6 (by omega) (by decide) ?_
  exact a_throwS (n := 47) (tx := "nothing such of a cabin") (by decide) (by decide) xw_IAE rfl rfl dX10_cabin_151 dX10_cabin_154 dX10_cabin_155 dX10_cabin_157 dX10_cabin_160 (by decide) (by decide) (by decide) (by decide) (by decide)
abbrev R_X10_meal : Room := { frames := 8, cells := 0, slots := 0, locals := 161 }
abbrev RX_X10_meal : Room := { frames := 8, cells := 1, slots := 6, locals := 161 }

theorem c_meal_0 (hw : Wf μ) (hv : FV μ 24 p d) (hq : PV μ p q) (hq1 : GdP q) (hd : GdD q d) (hs : SvA μ q d) {m : Nat} (hm : m < pM q) : CV Y_X10_meal R_X10_meal [.ref 0, .int (nI m), .int (nI 0)] μ (fun v V => v = some (.int (mlV q d m 0)) ∧ AskQ μ q d V) := by
  refine CV.ent yk_X10_meal (Nat.le_of_ble_eq_true rfl) ?_
  have hC4 := hq.C4
  have hM4 := hq.M4
  have hT4 := hq.T4
  have hP4 := hv.P4
  have hU4 := hv.U4
  refine lf (a_aload_n dX10_meal_0 rfl) ?_
  refine lf (a_iload_n dX10_meal_1 rfl) ?_
  refine lf (a_inv (b2 := (0, 0)) (c_requireMeal (by repeat (first | with_reducible exact hw | with_reducible exact hwc | with_reducible assumption | with_reducible apply Wf.sI | with_reducible apply Wf.sL | with_reducible apply Wf.cpI | with_reducible apply Wf.cpL | with_reducible apply Wf.cp2 | with_reducible apply Wf.sIs | with_reducible apply Wf.sLs | with_reducible apply Wf.cpU | with_reducible apply Wf.fillI | with_reducible apply Wf.clU | with_reducible apply Wf.dnF | with_reducible apply Wf.gbW)) hv hq hm) rfl dX10_meal_2 yk_X10_requireMeal im_X10_requireMeal se_X10_requireMeal ml_X10_212 rfl (co_0 (by repeat (first | with_reducible exact hw | with_reducible exact hwc | with_reducible assumption | with_reducible apply Wf.sI | with_reducible apply Wf.sL | with_reducible apply Wf.cpI | with_reducible apply Wf.cpL | with_reducible apply Wf.cp2 | with_reducible apply Wf.sIs | with_reducible apply Wf.sLs | with_reducible apply Wf.cpU | with_reducible apply Wf.fillI | with_reducible apply Wf.clU | with_reducible apply Wf.dnF | with_reducible apply Wf.gbW))) (by decide) hc_X10 (by decide) (by decide) (Nat.le_of_ble_eq_true rfl)) ?_
  refine lf (a_iload_n dX10_meal_5 rfl) ?_
  refine lf (a_tsIn (tgt := 60) dX10_meal_6 (by decide) (by decide) rfl (by decide)) ?_
  refine lf (a_aload_n dX10_meal_60 rfl) ?_
  refine lf (a_getR (cr_0_7 (by repeat (first | with_reducible exact hw | with_reducible exact hwc | with_reducible assumption | with_reducible apply Wf.sI | with_reducible apply Wf.sL | with_reducible apply Wf.cpI | with_reducible apply Wf.cpL | with_reducible apply Wf.cp2 | with_reducible apply Wf.sIs | with_reducible apply Wf.sLs | with_reducible apply Wf.cpU | with_reducible apply Wf.fillI | with_reducible apply Wf.clU | with_reducible apply Wf.dnF | with_reducible apply Wf.gbW))) dX10_meal_61 fs_X10_28 rfl (co_0 (by repeat (first | with_reducible exact hw | with_reducible exact hwc | with_reducible assumption | with_reducible apply Wf.sI | with_reducible apply Wf.sL | with_reducible apply Wf.cpI | with_reducible apply Wf.cpL | with_reducible apply Wf.cp2 | with_reducible apply Wf.sIs | with_reducible apply Wf.sLs | with_reducible apply Wf.cpU | with_reducible apply Wf.fillI | with_reducible apply Wf.clU | with_reducible apply Wf.dnF | with_reducible apply Wf.gbW)))) ?_
  refine lf (a_getR hv.rp dX10_meal_64 fs_X10_116 rfl (fl_o (by repeat (first | with_reducible exact hw | with_reducible exact hwc | with_reducible assumption | with_reducible apply Wf.sI | with_reducible apply Wf.sL | with_reducible apply Wf.cpI | with_reducible apply Wf.cpL | with_reducible apply Wf.cp2 | with_reducible apply Wf.sIs | with_reducible apply Wf.sLs | with_reducible apply Wf.cpU | with_reducible apply Wf.fillI | with_reducible apply Wf.clU | with_reducible apply Wf.dnF | with_reducible apply Wf.gbW)) fl_now)) ?_
  refine lf (a_getR (pl_r4 (by repeat (first | with_reducible exact hw | with_reducible exact hwc | with_reducible assumption | with_reducible apply Wf.sI | with_reducible apply Wf.sL | with_reducible apply Wf.cpI | with_reducible apply Wf.cpL | with_reducible apply Wf.cp2 | with_reducible apply Wf.sIs | with_reducible apply Wf.sLs | with_reducible apply Wf.cpU | with_reducible apply Wf.fillI | with_reducible apply Wf.clU | with_reducible apply Wf.dnF | with_reducible apply Wf.gbW)) hq.pl) dX10_meal_67 fs_X10_215 rfl (pl_o (by repeat (first | with_reducible exact hw | with_reducible exact hwc | with_reducible assumption | with_reducible apply Wf.sI | with_reducible apply Wf.sL | with_reducible apply Wf.cpI | with_reducible apply Wf.cpL | with_reducible apply Wf.cp2 | with_reducible apply Wf.sIs | with_reducible apply Wf.sLs | with_reducible apply Wf.cpU | with_reducible apply Wf.fillI | with_reducible apply Wf.clU | with_reducible apply Wf.dnF | with_reducible apply Wf.gbW)) hq.pl)) ?_
  refine lf (a_iload_n dX10_meal_70 rfl) ?_
  refine lf (a_aald (j := m) dX10_meal_71 (pl_a6 (by repeat (first | with_reducible exact hw | with_reducible exact hwc | with_reducible assumption | with_reducible apply Wf.sI | with_reducible apply Wf.sL | with_reducible apply Wf.cpI | with_reducible apply Wf.cpL | with_reducible apply Wf.cp2 | with_reducible apply Wf.sIs | with_reducible apply Wf.sLs | with_reducible apply Wf.cpU | with_reducible apply Wf.fillI | with_reducible apply Wf.clU | with_reducible apply Wf.dnF | with_reducible apply Wf.gbW)) hq.pl) (by decide) (ixn (by omega) (by decide)) (pl_rm (by repeat (first | with_reducible exact hw | with_reducible exact hwc | with_reducible assumption | with_reducible apply Wf.sI | with_reducible apply Wf.sL | with_reducible apply Wf.cpI | with_reducible apply Wf.cpL | with_reducible apply Wf.cp2 | with_reducible apply Wf.sIs | with_reducible apply Wf.sLs | with_reducible apply Wf.cpU | with_reducible apply Wf.fillI | with_reducible apply Wf.clU | with_reducible apply Wf.dnF | with_reducible apply Wf.gbW)) hq.pl (by omega))) ?_
  refine lf (a_getI dX10_meal_72 fs_X10_219 rfl (pl_m (by repeat (first | with_reducible exact hw | with_reducible exact hwc | with_reducible assumption | with_reducible apply Wf.sI | with_reducible apply Wf.sL | with_reducible apply Wf.cpI | with_reducible apply Wf.cpL | with_reducible apply Wf.cp2 | with_reducible apply Wf.sIs | with_reducible apply Wf.sLs | with_reducible apply Wf.cpU | with_reducible apply Wf.fillI | with_reducible apply Wf.clU | with_reducible apply Wf.dnF | with_reducible apply Wf.gbW)) hq.pl (by omega))) ?_
  rw [hq.m1 hm]
  refine ⟨_, _, (a_ireturn dX10_meal_75 rfl rfl), ?_⟩
  exact ⟨_, rfl, rfl, AskQ.rfl' hw hs⟩
theorem c_meal_1 (hw : Wf μ) (hv : FV μ 24 p d) (hq : PV μ p q) (hq1 : GdP q) (hd : GdD q d) (hs : SvA μ q d) {m : Nat} (hm : m < pM q) : CV Y_X10_meal R_X10_meal [.ref 0, .int (nI m), .int (nI 1)] μ (fun v V => v = some (.int (mlV q d m 1)) ∧ AskQ μ q d V) := by
  refine CV.ent yk_X10_meal (Nat.le_of_ble_eq_true rfl) ?_
  have hC4 := hq.C4
  have hM4 := hq.M4
  have hT4 := hq.T4
  have hP4 := hv.P4
  have hU4 := hv.U4
  refine lf (a_aload_n dX10_meal_0 rfl) ?_
  refine lf (a_iload_n dX10_meal_1 rfl) ?_
  refine lf (a_inv (b2 := (0, 0)) (c_requireMeal (by repeat (first | with_reducible exact hw | with_reducible exact hwc | with_reducible assumption | with_reducible apply Wf.sI | with_reducible apply Wf.sL | with_reducible apply Wf.cpI | with_reducible apply Wf.cpL | with_reducible apply Wf.cp2 | with_reducible apply Wf.sIs | with_reducible apply Wf.sLs | with_reducible apply Wf.cpU | with_reducible apply Wf.fillI | with_reducible apply Wf.clU | with_reducible apply Wf.dnF | with_reducible apply Wf.gbW)) hv hq hm) rfl dX10_meal_2 yk_X10_requireMeal im_X10_requireMeal se_X10_requireMeal ml_X10_212 rfl (co_0 (by repeat (first | with_reducible exact hw | with_reducible exact hwc | with_reducible assumption | with_reducible apply Wf.sI | with_reducible apply Wf.sL | with_reducible apply Wf.cpI | with_reducible apply Wf.cpL | with_reducible apply Wf.cp2 | with_reducible apply Wf.sIs | with_reducible apply Wf.sLs | with_reducible apply Wf.cpU | with_reducible apply Wf.fillI | with_reducible apply Wf.clU | with_reducible apply Wf.dnF | with_reducible apply Wf.gbW))) (by decide) hc_X10 (by decide) (by decide) (Nat.le_of_ble_eq_true rfl)) ?_
  refine lf (a_iload_n dX10_meal_5 rfl) ?_
  refine lf (a_tsIn (tgt := 76) dX10_meal_6 (by decide) (by decide) rfl (by decide)) ?_
  refine lf (a_aload_n dX10_meal_76 rfl) ?_
  refine lf (a_getR (cr_0_7 (by repeat (first | with_reducible exact hw | with_reducible exact hwc | with_reducible assumption | with_reducible apply Wf.sI | with_reducible apply Wf.sL | with_reducible apply Wf.cpI | with_reducible apply Wf.cpL | with_reducible apply Wf.cp2 | with_reducible apply Wf.sIs | with_reducible apply Wf.sLs | with_reducible apply Wf.cpU | with_reducible apply Wf.fillI | with_reducible apply Wf.clU | with_reducible apply Wf.dnF | with_reducible apply Wf.gbW))) dX10_meal_77 fs_X10_28 rfl (co_0 (by repeat (first | with_reducible exact hw | with_reducible exact hwc | with_reducible assumption | with_reducible apply Wf.sI | with_reducible apply Wf.sL | with_reducible apply Wf.cpI | with_reducible apply Wf.cpL | with_reducible apply Wf.cp2 | with_reducible apply Wf.sIs | with_reducible apply Wf.sLs | with_reducible apply Wf.cpU | with_reducible apply Wf.fillI | with_reducible apply Wf.clU | with_reducible apply Wf.dnF | with_reducible apply Wf.gbW)))) ?_
  refine lf (a_getR hv.rp dX10_meal_80 fs_X10_116 rfl (fl_o (by repeat (first | with_reducible exact hw | with_reducible exact hwc | with_reducible assumption | with_reducible apply Wf.sI | with_reducible apply Wf.sL | with_reducible apply Wf.cpI | with_reducible apply Wf.cpL | with_reducible apply Wf.cp2 | with_reducible apply Wf.sIs | with_reducible apply Wf.sLs | with_reducible apply Wf.cpU | with_reducible apply Wf.fillI | with_reducible apply Wf.clU | with_reducible apply Wf.dnF | with_reducible apply Wf.gbW)) fl_now)) ?_
  refine lf (a_getR (pl_r4 (by repeat (first | with_reducible exact hw | with_reducible exact hwc | with_reducible assumption | with_reducible apply Wf.sI | with_reducible apply Wf.sL | with_reducible apply Wf.cpI | with_reducible apply Wf.cpL | with_reducible apply Wf.cp2 | with_reducible apply Wf.sIs | with_reducible apply Wf.sLs | with_reducible apply Wf.cpU | with_reducible apply Wf.fillI | with_reducible apply Wf.clU | with_reducible apply Wf.dnF | with_reducible apply Wf.gbW)) hq.pl) dX10_meal_83 fs_X10_215 rfl (pl_o (by repeat (first | with_reducible exact hw | with_reducible exact hwc | with_reducible assumption | with_reducible apply Wf.sI | with_reducible apply Wf.sL | with_reducible apply Wf.cpI | with_reducible apply Wf.cpL | with_reducible apply Wf.cp2 | with_reducible apply Wf.sIs | with_reducible apply Wf.sLs | with_reducible apply Wf.cpU | with_reducible apply Wf.fillI | with_reducible apply Wf.clU | with_reducible apply Wf.dnF | with_reducible apply Wf.gbW)) hq.pl)) ?_
  refine lf (a_iload_n dX10_meal_86 rfl) ?_
  refine lf (a_aald (j := m) dX10_meal_87 (pl_a6 (by repeat (first | with_reducible exact hw | with_reducible exact hwc | with_reducible assumption | with_reducible apply Wf.sI | with_reducible apply Wf.sL | with_reducible apply Wf.cpI | with_reducible apply Wf.cpL | with_reducible apply Wf.cp2 | with_reducible apply Wf.sIs | with_reducible apply Wf.sLs | with_reducible apply Wf.cpU | with_reducible apply Wf.fillI | with_reducible apply Wf.clU | with_reducible apply Wf.dnF | with_reducible apply Wf.gbW)) hq.pl) (by decide) (ixn (by omega) (by decide)) (pl_rm (by repeat (first | with_reducible exact hw | with_reducible exact hwc | with_reducible assumption | with_reducible apply Wf.sI | with_reducible apply Wf.sL | with_reducible apply Wf.cpI | with_reducible apply Wf.cpL | with_reducible apply Wf.cp2 | with_reducible apply Wf.sIs | with_reducible apply Wf.sLs | with_reducible apply Wf.cpU | with_reducible apply Wf.fillI | with_reducible apply Wf.clU | with_reducible apply Wf.dnF | with_reducible apply Wf.gbW)) hq.pl (by omega))) ?_
  refine lf (a_getI dX10_meal_88 fs_X10_223 rfl (pl_m (by repeat (first | with_reducible exact hw | with_reducible exact hwc | with_reducible assumption | with_reducible apply Wf.sI | with_reducible apply Wf.sL | with_reducible apply Wf.cpI | with_reducible apply Wf.cpL | with_reducible apply Wf.cp2 | with_reducible apply Wf.sIs | with_reducible apply Wf.sLs | with_reducible apply Wf.cpU | with_reducible apply Wf.fillI | with_reducible apply Wf.clU | with_reducible apply Wf.dnF | with_reducible apply Wf.gbW)) hq.pl (by omega))) ?_
  rw [hq.m2 hm]
  refine ⟨_, _, (a_ireturn dX10_meal_91 rfl rfl), ?_⟩
  exact ⟨_, rfl, rfl, AskQ.rfl' hw hs⟩
theorem c_meal_2 (hw : Wf μ) (hv : FV μ 24 p d) (hq : PV μ p q) (hq1 : GdP q) (hd : GdD q d) (hs : SvA μ q d) {m : Nat} (hm : m < pM q) : CV Y_X10_meal R_X10_meal [.ref 0, .int (nI m), .int (nI 2)] μ (fun v V => v = some (.int (mlV q d m 2)) ∧ AskQ μ q d V) := by
  refine CV.ent yk_X10_meal (Nat.le_of_ble_eq_true rfl) ?_
  have hC4 := hq.C4
  have hM4 := hq.M4
  have hT4 := hq.T4
  have hP4 := hv.P4
  have hU4 := hv.U4
  refine lf (a_aload_n dX10_meal_0 rfl) ?_
  refine lf (a_iload_n dX10_meal_1 rfl) ?_
  refine lf (a_inv (b2 := (0, 0)) (c_requireMeal (by repeat (first | with_reducible exact hw | with_reducible exact hwc | with_reducible assumption | with_reducible apply Wf.sI | with_reducible apply Wf.sL | with_reducible apply Wf.cpI | with_reducible apply Wf.cpL | with_reducible apply Wf.cp2 | with_reducible apply Wf.sIs | with_reducible apply Wf.sLs | with_reducible apply Wf.cpU | with_reducible apply Wf.fillI | with_reducible apply Wf.clU | with_reducible apply Wf.dnF | with_reducible apply Wf.gbW)) hv hq hm) rfl dX10_meal_2 yk_X10_requireMeal im_X10_requireMeal se_X10_requireMeal ml_X10_212 rfl (co_0 (by repeat (first | with_reducible exact hw | with_reducible exact hwc | with_reducible assumption | with_reducible apply Wf.sI | with_reducible apply Wf.sL | with_reducible apply Wf.cpI | with_reducible apply Wf.cpL | with_reducible apply Wf.cp2 | with_reducible apply Wf.sIs | with_reducible apply Wf.sLs | with_reducible apply Wf.cpU | with_reducible apply Wf.fillI | with_reducible apply Wf.clU | with_reducible apply Wf.dnF | with_reducible apply Wf.gbW))) (by decide) hc_X10 (by decide) (by decide) (Nat.le_of_ble_eq_true rfl)) ?_
  refine lf (a_iload_n dX10_meal_5 rfl) ?_
  refine lf (a_tsIn (tgt := 92) dX10_meal_6 (by decide) (by decide) rfl (by decide)) ?_
  refine lf (a_aload_n dX10_meal_92 rfl) ?_
  refine lf (a_getR (cr_0_7 (by repeat (first | with_reducible exact hw | with_reducible exact hwc | with_reducible assumption | with_reducible apply Wf.sI | with_reducible apply Wf.sL | with_reducible apply Wf.cpI | with_reducible apply Wf.cpL | with_reducible apply Wf.cp2 | with_reducible apply Wf.sIs | with_reducible apply Wf.sLs | with_reducible apply Wf.cpU | with_reducible apply Wf.fillI | with_reducible apply Wf.clU | with_reducible apply Wf.dnF | with_reducible apply Wf.gbW))) dX10_meal_93 fs_X10_28 rfl (co_0 (by repeat (first | with_reducible exact hw | with_reducible exact hwc | with_reducible assumption | with_reducible apply Wf.sI | with_reducible apply Wf.sL | with_reducible apply Wf.cpI | with_reducible apply Wf.cpL | with_reducible apply Wf.cp2 | with_reducible apply Wf.sIs | with_reducible apply Wf.sLs | with_reducible apply Wf.cpU | with_reducible apply Wf.fillI | with_reducible apply Wf.clU | with_reducible apply Wf.dnF | with_reducible apply Wf.gbW)))) ?_
  refine lf (a_getR hv.rp dX10_meal_96 fs_X10_116 rfl (fl_o (by repeat (first | with_reducible exact hw | with_reducible exact hwc | with_reducible assumption | with_reducible apply Wf.sI | with_reducible apply Wf.sL | with_reducible apply Wf.cpI | with_reducible apply Wf.cpL | with_reducible apply Wf.cp2 | with_reducible apply Wf.sIs | with_reducible apply Wf.sLs | with_reducible apply Wf.cpU | with_reducible apply Wf.fillI | with_reducible apply Wf.clU | with_reducible apply Wf.dnF | with_reducible apply Wf.gbW)) fl_now)) ?_
  refine lf (a_getR (pl_r4 (by repeat (first | with_reducible exact hw | with_reducible exact hwc | with_reducible assumption | with_reducible apply Wf.sI | with_reducible apply Wf.sL | with_reducible apply Wf.cpI | with_reducible apply Wf.cpL | with_reducible apply Wf.cp2 | with_reducible apply Wf.sIs | with_reducible apply Wf.sLs | with_reducible apply Wf.cpU | with_reducible apply Wf.fillI | with_reducible apply Wf.clU | with_reducible apply Wf.dnF | with_reducible apply Wf.gbW)) hq.pl) dX10_meal_99 fs_X10_215 rfl (pl_o (by repeat (first | with_reducible exact hw | with_reducible exact hwc | with_reducible assumption | with_reducible apply Wf.sI | with_reducible apply Wf.sL | with_reducible apply Wf.cpI | with_reducible apply Wf.cpL | with_reducible apply Wf.cp2 | with_reducible apply Wf.sIs | with_reducible apply Wf.sLs | with_reducible apply Wf.cpU | with_reducible apply Wf.fillI | with_reducible apply Wf.clU | with_reducible apply Wf.dnF | with_reducible apply Wf.gbW)) hq.pl)) ?_
  refine lf (a_iload_n dX10_meal_102 rfl) ?_
  refine lf (a_aald (j := m) dX10_meal_103 (pl_a6 (by repeat (first | with_reducible exact hw | with_reducible exact hwc | with_reducible assumption | with_reducible apply Wf.sI | with_reducible apply Wf.sL | with_reducible apply Wf.cpI | with_reducible apply Wf.cpL | with_reducible apply Wf.cp2 | with_reducible apply Wf.sIs | with_reducible apply Wf.sLs | with_reducible apply Wf.cpU | with_reducible apply Wf.fillI | with_reducible apply Wf.clU | with_reducible apply Wf.dnF | with_reducible apply Wf.gbW)) hq.pl) (by decide) (ixn (by omega) (by decide)) (pl_rm (by repeat (first | with_reducible exact hw | with_reducible exact hwc | with_reducible assumption | with_reducible apply Wf.sI | with_reducible apply Wf.sL | with_reducible apply Wf.cpI | with_reducible apply Wf.cpL | with_reducible apply Wf.cp2 | with_reducible apply Wf.sIs | with_reducible apply Wf.sLs | with_reducible apply Wf.cpU | with_reducible apply Wf.fillI | with_reducible apply Wf.clU | with_reducible apply Wf.dnF | with_reducible apply Wf.gbW)) hq.pl (by omega))) ?_
  refine lf (a_getI dX10_meal_104 fs_X10_226 rfl (pl_m (by repeat (first | with_reducible exact hw | with_reducible exact hwc | with_reducible assumption | with_reducible apply Wf.sI | with_reducible apply Wf.sL | with_reducible apply Wf.cpI | with_reducible apply Wf.cpL | with_reducible apply Wf.cp2 | with_reducible apply Wf.sIs | with_reducible apply Wf.sLs | with_reducible apply Wf.cpU | with_reducible apply Wf.fillI | with_reducible apply Wf.clU | with_reducible apply Wf.dnF | with_reducible apply Wf.gbW)) hq.pl (by omega))) ?_
  rw [hq.m3 hm]
  refine ⟨_, _, (a_ireturn dX10_meal_107 rfl rfl), ?_⟩
  exact ⟨_, rfl, rfl, AskQ.rfl' hw hs⟩
theorem c_meal_3 (hw : Wf μ) (hv : FV μ 24 p d) (hq : PV μ p q) (hq1 : GdP q) (hd : GdD q d) (hs : SvA μ q d) {m : Nat} (hm : m < pM q) : CV Y_X10_meal R_X10_meal [.ref 0, .int (nI m), .int (nI 3)] μ (fun v V => v = some (.int (mlV q d m 3)) ∧ AskQ μ q d V) := by
  refine CV.ent yk_X10_meal (Nat.le_of_ble_eq_true rfl) ?_
  have hC4 := hq.C4
  have hM4 := hq.M4
  have hT4 := hq.T4
  have hP4 := hv.P4
  have hU4 := hv.U4
  refine lf (a_aload_n dX10_meal_0 rfl) ?_
  refine lf (a_iload_n dX10_meal_1 rfl) ?_
  refine lf (a_inv (b2 := (0, 0)) (c_requireMeal (by repeat (first | with_reducible exact hw | with_reducible exact hwc | with_reducible assumption | with_reducible apply Wf.sI | with_reducible apply Wf.sL | with_reducible apply Wf.cpI | with_reducible apply Wf.cpL | with_reducible apply Wf.cp2 | with_reducible apply Wf.sIs | with_reducible apply Wf.sLs | with_reducible apply Wf.cpU | with_reducible apply Wf.fillI | with_reducible apply Wf.clU | with_reducible apply Wf.dnF | with_reducible apply Wf.gbW)) hv hq hm) rfl dX10_meal_2 yk_X10_requireMeal im_X10_requireMeal se_X10_requireMeal ml_X10_212 rfl (co_0 (by repeat (first | with_reducible exact hw | with_reducible exact hwc | with_reducible assumption | with_reducible apply Wf.sI | with_reducible apply Wf.sL | with_reducible apply Wf.cpI | with_reducible apply Wf.cpL | with_reducible apply Wf.cp2 | with_reducible apply Wf.sIs | with_reducible apply Wf.sLs | with_reducible apply Wf.cpU | with_reducible apply Wf.fillI | with_reducible apply Wf.clU | with_reducible apply Wf.dnF | with_reducible apply Wf.gbW))) (by decide) hc_X10 (by decide) (by decide) (Nat.le_of_ble_eq_true rfl)) ?_
  refine lf (a_iload_n dX10_meal_5 rfl) ?_
  refine lf (a_tsIn (tgt := 108) dX10_meal_6 (by decide) (by decide) rfl (by decide)) ?_
  refine lf (a_aload_n dX10_meal_108 rfl) ?_
  refine lf (a_getR (cr_0_7 (by repeat (first | with_reducible exact hw | with_reducible exact hwc | with_reducible assumption | with_reducible apply Wf.sI | with_reducible apply Wf.sL | with_reducible apply Wf.cpI | with_reducible apply Wf.cpL | with_reducible apply Wf.cp2 | with_reducible apply Wf.sIs | with_reducible apply Wf.sLs | with_reducible apply Wf.cpU | with_reducible apply Wf.fillI | with_reducible apply Wf.clU | with_reducible apply Wf.dnF | with_reducible apply Wf.gbW))) dX10_meal_109 fs_X10_28 rfl (co_0 (by repeat (first | with_reducible exact hw | with_reducible exact hwc | with_reducible assumption | with_reducible apply Wf.sI | with_reducible apply Wf.sL | with_reducible apply Wf.cpI | with_reducible apply Wf.cpL | with_reducible apply Wf.cp2 | with_reducible apply Wf.sIs | with_reducible apply Wf.sLs | with_reducible apply Wf.cpU | with_reducible apply Wf.fillI | with_reducible apply Wf.clU | with_reducible apply Wf.dnF | with_reducible apply Wf.gbW)))) ?_
  refine lf (a_getR hv.rp dX10_meal_112 fs_X10_116 rfl (fl_o (by repeat (first | with_reducible exact hw | with_reducible exact hwc | with_reducible assumption | with_reducible apply Wf.sI | with_reducible apply Wf.sL | with_reducible apply Wf.cpI | with_reducible apply Wf.cpL | with_reducible apply Wf.cp2 | with_reducible apply Wf.sIs | with_reducible apply Wf.sLs | with_reducible apply Wf.cpU | with_reducible apply Wf.fillI | with_reducible apply Wf.clU | with_reducible apply Wf.dnF | with_reducible apply Wf.gbW)) fl_now)) ?_
  refine lf (a_getR (pl_r4 (by repeat (first | with_reducible exact hw | with_reducible exact hwc | with_reducible assumption | with_reducible apply Wf.sI | with_reducible apply Wf.sL | with_reducible apply Wf.cpI | with_reducible apply Wf.cpL | with_reducible apply Wf.cp2 | with_reducible apply Wf.sIs | with_reducible apply Wf.sLs | with_reducible apply Wf.cpU | with_reducible apply Wf.fillI | with_reducible apply Wf.clU | with_reducible apply Wf.dnF | with_reducible apply Wf.gbW)) hq.pl) dX10_meal_115 fs_X10_215 rfl (pl_o (by repeat (first | with_reducible exact hw | with_reducible exact hwc | with_reducible assumption | with_reducible apply Wf.sI | with_reducible apply Wf.sL | with_reducible apply Wf.cpI | with_reducible apply Wf.cpL | with_reducible apply Wf.cp2 | with_reducible apply Wf.sIs | with_reducible apply Wf.sLs | with_reducible apply Wf.cpU | with_reducible apply Wf.fillI | with_reducible apply Wf.clU | with_reducible apply Wf.dnF | with_reducible apply Wf.gbW)) hq.pl)) ?_
  refine lf (a_iload_n dX10_meal_118 rfl) ?_
  refine lf (a_aald (j := m) dX10_meal_119 (pl_a6 (by repeat (first | with_reducible exact hw | with_reducible exact hwc | with_reducible assumption | with_reducible apply Wf.sI | with_reducible apply Wf.sL | with_reducible apply Wf.cpI | with_reducible apply Wf.cpL | with_reducible apply Wf.cp2 | with_reducible apply Wf.sIs | with_reducible apply Wf.sLs | with_reducible apply Wf.cpU | with_reducible apply Wf.fillI | with_reducible apply Wf.clU | with_reducible apply Wf.dnF | with_reducible apply Wf.gbW)) hq.pl) (by decide) (ixn (by omega) (by decide)) (pl_rm (by repeat (first | with_reducible exact hw | with_reducible exact hwc | with_reducible assumption | with_reducible apply Wf.sI | with_reducible apply Wf.sL | with_reducible apply Wf.cpI | with_reducible apply Wf.cpL | with_reducible apply Wf.cp2 | with_reducible apply Wf.sIs | with_reducible apply Wf.sLs | with_reducible apply Wf.cpU | with_reducible apply Wf.fillI | with_reducible apply Wf.clU | with_reducible apply Wf.dnF | with_reducible apply Wf.gbW)) hq.pl (by omega))) ?_
  refine lf (a_getI dX10_meal_120 fs_X10_227 rfl (pl_m (by repeat (first | with_reducible exact hw | with_reducible exact hwc | with_reducible assumption | with_reducible apply Wf.sI | with_reducible apply Wf.sL | with_reducible apply Wf.cpI | with_reducible apply Wf.cpL | with_reducible apply Wf.cp2 | with_reducible apply Wf.sIs | with_reducible apply Wf.sLs | with_reducible apply Wf.cpU | with_reducible apply Wf.fillI | with_reducible apply Wf.clU | with_reducible apply Wf.dnF | with_reducible apply Wf.gbW)) hq.pl (by omega))) ?_
  rw [hq.m4 hm]
  refine ⟨_, _, (a_ireturn dX10_meal_123 rfl rfl), ?_⟩
  exact ⟨_, rfl, rfl, AskQ.rfl' hw hs⟩
theorem c_meal_4 (hw : Wf μ) (hv : FV μ 24 p d) (hq : PV μ p q) (hq1 : GdP q) (hd : GdD q d) (hs : SvA μ q d) {m : Nat} (hm : m < pM q) : CV Y_X10_meal R_X10_meal [.ref 0, .int (nI m), .int (nI 4)] μ (fun v V => v = some (.int (mlV q d m 4)) ∧ AskQ μ q d V) := by
  refine CV.ent yk_X10_meal (Nat.le_of_ble_eq_true rfl) ?_
  have hC4 := hq.C4
  have hM4 := hq.M4
  have hT4 := hq.T4
  have hP4 := hv.P4
  have hU4 := hv.U4
  refine lf (a_aload_n dX10_meal_0 rfl) ?_
  refine lf (a_iload_n dX10_meal_1 rfl) ?_
  refine lf (a_inv (b2 := (0, 0)) (c_requireMeal (by repeat (first | with_reducible exact hw | with_reducible exact hwc | with_reducible assumption | with_reducible apply Wf.sI | with_reducible apply Wf.sL | with_reducible apply Wf.cpI | with_reducible apply Wf.cpL | with_reducible apply Wf.cp2 | with_reducible apply Wf.sIs | with_reducible apply Wf.sLs | with_reducible apply Wf.cpU | with_reducible apply Wf.fillI | with_reducible apply Wf.clU | with_reducible apply Wf.dnF | with_reducible apply Wf.gbW)) hv hq hm) rfl dX10_meal_2 yk_X10_requireMeal im_X10_requireMeal se_X10_requireMeal ml_X10_212 rfl (co_0 (by repeat (first | with_reducible exact hw | with_reducible exact hwc | with_reducible assumption | with_reducible apply Wf.sI | with_reducible apply Wf.sL | with_reducible apply Wf.cpI | with_reducible apply Wf.cpL | with_reducible apply Wf.cp2 | with_reducible apply Wf.sIs | with_reducible apply Wf.sLs | with_reducible apply Wf.cpU | with_reducible apply Wf.fillI | with_reducible apply Wf.clU | with_reducible apply Wf.dnF | with_reducible apply Wf.gbW))) (by decide) hc_X10 (by decide) (by decide) (Nat.le_of_ble_eq_true rfl)) ?_
  refine lf (a_iload_n dX10_meal_5 rfl) ?_
  refine lf (a_tsIn (tgt := 124) dX10_meal_6 (by decide) (by decide) rfl (by decide)) ?_
  refine lf (a_aload_n dX10_meal_124 rfl) ?_
  refine lf (a_getR (cr_0_7 (by repeat (first | with_reducible exact hw | with_reducible exact hwc | with_reducible assumption | with_reducible apply Wf.sI | with_reducible apply Wf.sL | with_reducible apply Wf.cpI | with_reducible apply Wf.cpL | with_reducible apply Wf.cp2 | with_reducible apply Wf.sIs | with_reducible apply Wf.sLs | with_reducible apply Wf.cpU | with_reducible apply Wf.fillI | with_reducible apply Wf.clU | with_reducible apply Wf.dnF | with_reducible apply Wf.gbW))) dX10_meal_125 fs_X10_28 rfl (co_0 (by repeat (first | with_reducible exact hw | with_reducible exact hwc | with_reducible assumption | with_reducible apply Wf.sI | with_reducible apply Wf.sL | with_reducible apply Wf.cpI | with_reducible apply Wf.cpL | with_reducible apply Wf.cp2 | with_reducible apply Wf.sIs | with_reducible apply Wf.sLs | with_reducible apply Wf.cpU | with_reducible apply Wf.fillI | with_reducible apply Wf.clU | with_reducible apply Wf.dnF | with_reducible apply Wf.gbW)))) ?_
  refine lf (a_getR hv.rp dX10_meal_128 fs_X10_116 rfl (fl_o (by repeat (first | with_reducible exact hw | with_reducible exact hwc | with_reducible assumption | with_reducible apply Wf.sI | with_reducible apply Wf.sL | with_reducible apply Wf.cpI | with_reducible apply Wf.cpL | with_reducible apply Wf.cp2 | with_reducible apply Wf.sIs | with_reducible apply Wf.sLs | with_reducible apply Wf.cpU | with_reducible apply Wf.fillI | with_reducible apply Wf.clU | with_reducible apply Wf.dnF | with_reducible apply Wf.gbW)) fl_now)) ?_
  refine lf (a_getR (pl_r4 (by repeat (first | with_reducible exact hw | with_reducible exact hwc | with_reducible assumption | with_reducible apply Wf.sI | with_reducible apply Wf.sL | with_reducible apply Wf.cpI | with_reducible apply Wf.cpL | with_reducible apply Wf.cp2 | with_reducible apply Wf.sIs | with_reducible apply Wf.sLs | with_reducible apply Wf.cpU | with_reducible apply Wf.fillI | with_reducible apply Wf.clU | with_reducible apply Wf.dnF | with_reducible apply Wf.gbW)) hq.pl) dX10_meal_131 fs_X10_215 rfl (pl_o (by repeat (first | with_reducible exact hw | with_reducible exact hwc | with_reducible assumption | with_reducible apply Wf.sI | with_reducible apply Wf.sL | with_reducible apply Wf.cpI | with_reducible apply Wf.cpL | with_reducible apply Wf.cp2 | with_reducible apply Wf.sIs | with_reducible apply Wf.sLs | with_reducible apply Wf.cpU | with_reducible apply Wf.fillI | with_reducible apply Wf.clU | with_reducible apply Wf.dnF | with_reducible apply Wf.gbW)) hq.pl)) ?_
  refine lf (a_iload_n dX10_meal_134 rfl) ?_
  refine lf (a_aald (j := m) dX10_meal_135 (pl_a6 (by repeat (first | with_reducible exact hw | with_reducible exact hwc | with_reducible assumption | with_reducible apply Wf.sI | with_reducible apply Wf.sL | with_reducible apply Wf.cpI | with_reducible apply Wf.cpL | with_reducible apply Wf.cp2 | with_reducible apply Wf.sIs | with_reducible apply Wf.sLs | with_reducible apply Wf.cpU | with_reducible apply Wf.fillI | with_reducible apply Wf.clU | with_reducible apply Wf.dnF | with_reducible apply Wf.gbW)) hq.pl) (by decide) (ixn (by omega) (by decide)) (pl_rm (by repeat (first | with_reducible exact hw | with_reducible exact hwc | with_reducible assumption | with_reducible apply Wf.sI | with_reducible apply Wf.sL | with_reducible apply Wf.cpI | with_reducible apply Wf.cpL | with_reducible apply Wf.cp2 | with_reducible apply Wf.sIs | with_reducible apply Wf.sLs | with_reducible apply Wf.cpU | with_reducible apply Wf.fillI | with_reducible apply Wf.clU | with_reducible apply Wf.dnF | with_reducible apply Wf.gbW)) hq.pl (by omega))) ?_
  refine lf (a_getI dX10_meal_136 fs_X10_230 rfl (pl_m (by repeat (first | with_reducible exact hw | with_reducible exact hwc | with_reducible assumption | with_reducible apply Wf.sI | with_reducible apply Wf.sL | with_reducible apply Wf.cpI | with_reducible apply Wf.cpL | with_reducible apply Wf.cp2 | with_reducible apply Wf.sIs | with_reducible apply Wf.sLs | with_reducible apply Wf.cpU | with_reducible apply Wf.fillI | with_reducible apply Wf.clU | with_reducible apply Wf.dnF | with_reducible apply Wf.gbW)) hq.pl (by omega))) ?_
  rw [hq.m5 hm]
  refine ⟨_, _, (a_ireturn dX10_meal_139 rfl rfl), ?_⟩
  exact ⟨_, rfl, rfl, AskQ.rfl' hw hs⟩
theorem c_meal_5 (hw : Wf μ) (hv : FV μ 24 p d) (hq : PV μ p q) (hq1 : GdP q) (hd : GdD q d) (hs : SvA μ q d) {m : Nat} (hm : m < pM q) : CV Y_X10_meal R_X10_meal [.ref 0, .int (nI m), .int (nI 5)] μ (fun v V => v = some (.int (mlV q d m 5)) ∧ AskQ μ q d V) := by
  refine CV.ent yk_X10_meal (Nat.le_of_ble_eq_true rfl) ?_
  have hC4 := hq.C4
  have hM4 := hq.M4
  have hT4 := hq.T4
  have hP4 := hv.P4
  have hU4 := hv.U4
  refine lf (a_aload_n dX10_meal_0 rfl) ?_
  refine lf (a_iload_n dX10_meal_1 rfl) ?_
  refine lf (a_inv (b2 := (0, 0)) (c_requireMeal (by repeat (first | with_reducible exact hw | with_reducible exact hwc | with_reducible assumption | with_reducible apply Wf.sI | with_reducible apply Wf.sL | with_reducible apply Wf.cpI | with_reducible apply Wf.cpL | with_reducible apply Wf.cp2 | with_reducible apply Wf.sIs | with_reducible apply Wf.sLs | with_reducible apply Wf.cpU | with_reducible apply Wf.fillI | with_reducible apply Wf.clU | with_reducible apply Wf.dnF | with_reducible apply Wf.gbW)) hv hq hm) rfl dX10_meal_2 yk_X10_requireMeal im_X10_requireMeal se_X10_requireMeal ml_X10_212 rfl (co_0 (by repeat (first | with_reducible exact hw | with_reducible exact hwc | with_reducible assumption | with_reducible apply Wf.sI | with_reducible apply Wf.sL | with_reducible apply Wf.cpI | with_reducible apply Wf.cpL | with_reducible apply Wf.cp2 | with_reducible apply Wf.sIs | with_reducible apply Wf.sLs | with_reducible apply Wf.cpU | with_reducible apply Wf.fillI | with_reducible apply Wf.clU | with_reducible apply Wf.dnF | with_reducible apply Wf.gbW))) (by decide) hc_X10 (by decide) (by decide) (Nat.le_of_ble_eq_true rfl)) ?_
  refine lf (a_iload_n dX10_meal_5 rfl) ?_
  refine lf (a_tsIn (tgt := 140) dX10_meal_6 (by decide) (by decide) rfl (by decide)) ?_
  refine lf (a_aload_n dX10_meal_140 rfl) ?_
  refine lf (a_getR (cr_0_7 (by repeat (first | with_reducible exact hw | with_reducible exact hwc | with_reducible assumption | with_reducible apply Wf.sI | with_reducible apply Wf.sL | with_reducible apply Wf.cpI | with_reducible apply Wf.cpL | with_reducible apply Wf.cp2 | with_reducible apply Wf.sIs | with_reducible apply Wf.sLs | with_reducible apply Wf.cpU | with_reducible apply Wf.fillI | with_reducible apply Wf.clU | with_reducible apply Wf.dnF | with_reducible apply Wf.gbW))) dX10_meal_141 fs_X10_28 rfl (co_0 (by repeat (first | with_reducible exact hw | with_reducible exact hwc | with_reducible assumption | with_reducible apply Wf.sI | with_reducible apply Wf.sL | with_reducible apply Wf.cpI | with_reducible apply Wf.cpL | with_reducible apply Wf.cp2 | with_reducible apply Wf.sIs | with_reducible apply Wf.sLs | with_reducible apply Wf.cpU | with_reducible apply Wf.fillI | with_reducible apply Wf.clU | with_reducible apply Wf.dnF | with_reducible apply Wf.gbW)))) ?_
  refine lf (a_iload_n dX10_meal_144 rfl) ?_
  refine lf (a_inv (b2 := (0, 0)) (v_X1_loadedOf (by repeat (first | with_reducible exact hw | with_reducible exact hwc | with_reducible assumption | with_reducible apply Wf.sI | with_reducible apply Wf.sL | with_reducible apply Wf.cpI | with_reducible apply Wf.cpL | with_reducible apply Wf.cp2 | with_reducible apply Wf.sIs | with_reducible apply Wf.sLs | with_reducible apply Wf.cpU | with_reducible apply Wf.fillI | with_reducible apply Wf.clU | with_reducible apply Wf.dnF | with_reducible apply Wf.gbW)) hv hq (show m < 12 by omega)) rfl dX10_meal_145 yk_X1_loadedOf im_X1_loadedOf se_X1_loadedOf ml_X10_233 rfl (fl_o (by repeat (first | with_reducible exact hw | with_reducible exact hwc | with_reducible assumption | with_reducible apply Wf.sI | with_reducible apply Wf.sL | with_reducible apply Wf.cpI | with_reducible apply Wf.cpL | with_reducible apply Wf.cp2 | with_reducible apply Wf.sIs | with_reducible apply Wf.sLs | with_reducible apply Wf.cpU | with_reducible apply Wf.fillI | with_reducible apply Wf.clU | with_reducible apply Wf.dnF | with_reducible apply Wf.gbW)) fl_now) (by decide) hc_X1 (by decide) (by decide) (Nat.le_of_ble_eq_true rfl)) ?_
  refine ⟨_, _, (a_ireturn dX10_meal_148 rfl rfl), ?_⟩
  exact ⟨_, rfl, rfl, AskQ.rfl' hw hs⟩
theorem c_meal_6 (hw : Wf μ) (hv : FV μ 24 p d) (hq : PV μ p q) (hq1 : GdP q) (hd : GdD q d) (hs : SvA μ q d) {m : Nat} (hm : m < pM q) : CV Y_X10_meal R_X10_meal [.ref 0, .int (nI m), .int (nI 6)] μ (fun v V => v = some (.int (mlV q d m 6)) ∧ AskQ μ q d V) := by
  refine CV.ent yk_X10_meal (Nat.le_of_ble_eq_true rfl) ?_
  have hC4 := hq.C4
  have hM4 := hq.M4
  have hT4 := hq.T4
  have hP4 := hv.P4
  have hU4 := hv.U4
  refine lf (a_aload_n dX10_meal_0 rfl) ?_
  refine lf (a_iload_n dX10_meal_1 rfl) ?_
  refine lf (a_inv (b2 := (0, 0)) (c_requireMeal (by repeat (first | with_reducible exact hw | with_reducible exact hwc | with_reducible assumption | with_reducible apply Wf.sI | with_reducible apply Wf.sL | with_reducible apply Wf.cpI | with_reducible apply Wf.cpL | with_reducible apply Wf.cp2 | with_reducible apply Wf.sIs | with_reducible apply Wf.sLs | with_reducible apply Wf.cpU | with_reducible apply Wf.fillI | with_reducible apply Wf.clU | with_reducible apply Wf.dnF | with_reducible apply Wf.gbW)) hv hq hm) rfl dX10_meal_2 yk_X10_requireMeal im_X10_requireMeal se_X10_requireMeal ml_X10_212 rfl (co_0 (by repeat (first | with_reducible exact hw | with_reducible exact hwc | with_reducible assumption | with_reducible apply Wf.sI | with_reducible apply Wf.sL | with_reducible apply Wf.cpI | with_reducible apply Wf.cpL | with_reducible apply Wf.cp2 | with_reducible apply Wf.sIs | with_reducible apply Wf.sLs | with_reducible apply Wf.cpU | with_reducible apply Wf.fillI | with_reducible apply Wf.clU | with_reducible apply Wf.dnF | with_reducible apply Wf.gbW))) (by decide) hc_X10 (by decide) (by decide) (Nat.le_of_ble_eq_true rfl)) ?_
  refine lf (a_iload_n dX10_meal_5 rfl) ?_
  refine lf (a_tsIn (tgt := 149) dX10_meal_6 (by decide) (by decide) rfl (by decide)) ?_
  refine lf (a_aload_n dX10_meal_149 rfl) ?_
  obtain ⟨v_, W150, k150, rfl, hO, hu⟩ := (c_freshOrder hw hv hq)
  have hwc := hO.1
  refine lf (a_inv (b2 := (0, 0)) k150 rfl dX10_meal_150 yk_X10_freshOrder im_X10_freshOrder se_X10_freshOrder ml_X10_157 rfl (co_0 (by repeat (first | with_reducible exact hw | with_reducible exact hwc | with_reducible assumption | with_reducible apply Wf.sI | with_reducible apply Wf.sL | with_reducible apply Wf.cpI | with_reducible apply Wf.cpL | with_reducible apply Wf.cp2 | with_reducible apply Wf.sIs | with_reducible apply Wf.sLs | with_reducible apply Wf.cpU | with_reducible apply Wf.fillI | with_reducible apply Wf.clU | with_reducible apply Wf.dnF | with_reducible apply Wf.gbW))) (by decide) hc_X10 (by decide) (by decide) (Nat.le_of_ble_eq_true rfl)) ?_
  refine lf (a_getR (cr_324_0 (by repeat (first | with_reducible exact hw | with_reducible exact hwc | with_reducible assumption | with_reducible apply Wf.sI | with_reducible apply Wf.sL | with_reducible apply Wf.cpI | with_reducible apply Wf.cpL | with_reducible apply Wf.cp2 | with_reducible apply Wf.sIs | with_reducible apply Wf.sLs | with_reducible apply Wf.cpU | with_reducible apply Wf.fillI | with_reducible apply Wf.clU | with_reducible apply Wf.dnF | with_reducible apply Wf.gbW))) dX10_meal_153 fs_X10_236 rfl (co_324 (by repeat (first | with_reducible exact hw | with_reducible exact hwc | with_reducible assumption | with_reducible apply Wf.sI | with_reducible apply Wf.sL | with_reducible apply Wf.cpI | with_reducible apply Wf.cpL | with_reducible apply Wf.cp2 | with_reducible apply Wf.sIs | with_reducible apply Wf.sLs | with_reducible apply Wf.cpU | with_reducible apply Wf.fillI | with_reducible apply Wf.clU | with_reducible apply Wf.dnF | with_reducible apply Wf.gbW)))) ?_
  refine lf (a_iload_n dX10_meal_156 rfl) ?_
  refine lf (a_ild dX10_meal_157 (ca_325 (by repeat (first | with_reducible exact hw | with_reducible exact hwc | with_reducible assumption | with_reducible apply Wf.sI | with_reducible apply Wf.sL | with_reducible apply Wf.cpI | with_reducible apply Wf.cpL | with_reducible apply Wf.cp2 | with_reducible apply Wf.sIs | with_reducible apply Wf.sLs | with_reducible apply Wf.cpU | with_reducible apply Wf.fillI | with_reducible apply Wf.clU | with_reducible apply Wf.dnF | with_reducible apply Wf.gbW))) (ixn (show m < 12 by omega) (by decide))) ?_
  rw [hu m (by omega)]
  refine ⟨_, _, (a_ireturn dX10_meal_158 rfl rfl), ?_⟩
  exact ⟨_, rfl, rfl, AskQ.ord hs hO⟩
theorem c_meal_7 (hw : Wf μ) (hv : FV μ 24 p d) (hq : PV μ p q) (hq1 : GdP q) (hd : GdD q d) (hs : SvA μ q d) {m : Nat} (hm : m < pM q) : CV Y_X10_meal R_X10_meal [.ref 0, .int (nI m), .int (nI 7)] μ (fun v V => v = some (.int (mlV q d m 7)) ∧ AskQ μ q d V) := by
  refine CV.ent yk_X10_meal (Nat.le_of_ble_eq_true rfl) ?_
  have hC4 := hq.C4
  have hM4 := hq.M4
  have hT4 := hq.T4
  have hP4 := hv.P4
  have hU4 := hv.U4
  refine lf (a_aload_n dX10_meal_0 rfl) ?_
  refine lf (a_iload_n dX10_meal_1 rfl) ?_
  refine lf (a_inv (b2 := (0, 0)) (c_requireMeal (by repeat (first | with_reducible exact hw | with_reducible exact hwc | with_reducible assumption | with_reducible apply Wf.sI | with_reducible apply Wf.sL | with_reducible apply Wf.cpI | with_reducible apply Wf.cpL | with_reducible apply Wf.cp2 | with_reducible apply Wf.sIs | with_reducible apply Wf.sLs | with_reducible apply Wf.cpU | with_reducible apply Wf.fillI | with_reducible apply Wf.clU | with_reducible apply Wf.dnF | with_reducible apply Wf.gbW)) hv hq hm) rfl dX10_meal_2 yk_X10_requireMeal im_X10_requireMeal se_X10_requireMeal ml_X10_212 rfl (co_0 (by repeat (first | with_reducible exact hw | with_reducible exact hwc | with_reducible assumption | with_reducible apply Wf.sI | with_reducible apply Wf.sL | with_reducible apply Wf.cpI | with_reducible apply Wf.cpL | with_reducible apply Wf.cp2 | with_reducible apply Wf.sIs | with_reducible apply Wf.sLs | with_reducible apply Wf.cpU | with_reducible apply Wf.fillI | with_reducible apply Wf.clU | with_reducible apply Wf.dnF | with_reducible apply Wf.gbW))) (by decide) hc_X10 (by decide) (by decide) (Nat.le_of_ble_eq_true rfl)) ?_
  refine lf (a_iload_n dX10_meal_5 rfl) ?_
  refine lf (a_tsIn (tgt := 159) dX10_meal_6 (by decide) (by decide) rfl (by decide)) ?_
  refine lf (a_aload_n dX10_meal_159 rfl) ?_
  refine lf (a_getR (cr_0_7 (by repeat (first | with_reducible exact hw | with_reducible exact hwc | with_reducible assumption | with_reducible apply Wf.sI | with_reducible apply Wf.sL | with_reducible apply Wf.cpI | with_reducible apply Wf.cpL | with_reducible apply Wf.cp2 | with_reducible apply Wf.sIs | with_reducible apply Wf.sLs | with_reducible apply Wf.cpU | with_reducible apply Wf.fillI | with_reducible apply Wf.clU | with_reducible apply Wf.dnF | with_reducible apply Wf.gbW))) dX10_meal_160 fs_X10_28 rfl (co_0 (by repeat (first | with_reducible exact hw | with_reducible exact hwc | with_reducible assumption | with_reducible apply Wf.sI | with_reducible apply Wf.sL | with_reducible apply Wf.cpI | with_reducible apply Wf.cpL | with_reducible apply Wf.cp2 | with_reducible apply Wf.sIs | with_reducible apply Wf.sLs | with_reducible apply Wf.cpU | with_reducible apply Wf.fillI | with_reducible apply Wf.clU | with_reducible apply Wf.dnF | with_reducible apply Wf.gbW)))) ?_
  refine lf (a_iload_n dX10_meal_163 rfl) ?_
  refine lf (a_inv (b2 := (0, 0)) (v_X1_onTheWay (by repeat (first | with_reducible exact hw | with_reducible exact hwc | with_reducible assumption | with_reducible apply Wf.sI | with_reducible apply Wf.sL | with_reducible apply Wf.cpI | with_reducible apply Wf.cpL | with_reducible apply Wf.cp2 | with_reducible apply Wf.sIs | with_reducible apply Wf.sLs | with_reducible apply Wf.cpU | with_reducible apply Wf.fillI | with_reducible apply Wf.clU | with_reducible apply Wf.dnF | with_reducible apply Wf.gbW)) hv (nI m)) rfl dX10_meal_164 yk_X1_onTheWay im_X1_onTheWay se_X1_onTheWay ml_X10_240 rfl (fl_o (by repeat (first | with_reducible exact hw | with_reducible exact hwc | with_reducible assumption | with_reducible apply Wf.sI | with_reducible apply Wf.sL | with_reducible apply Wf.cpI | with_reducible apply Wf.cpL | with_reducible apply Wf.cp2 | with_reducible apply Wf.sIs | with_reducible apply Wf.sLs | with_reducible apply Wf.cpU | with_reducible apply Wf.fillI | with_reducible apply Wf.clU | with_reducible apply Wf.dnF | with_reducible apply Wf.gbW)) fl_now) (by decide) hc_X1 (by decide) (by decide) (Nat.le_of_ble_eq_true rfl)) ?_
  refine ⟨_, _, (a_ireturn dX10_meal_167 rfl rfl), ?_⟩
  exact ⟨_, rfl, rfl, AskQ.rfl' hw hs⟩
theorem c_meal_8 (hw : Wf μ) (hv : FV μ 24 p d) (hq : PV μ p q) (hq1 : GdP q) (hd : GdD q d) (hs : SvA μ q d) {m : Nat} (hm : m < pM q) : CV Y_X10_meal R_X10_meal [.ref 0, .int (nI m), .int (nI 8)] μ (fun v V => v = some (.int (mlV q d m 8)) ∧ AskQ μ q d V) := by
  refine CV.ent yk_X10_meal (Nat.le_of_ble_eq_true rfl) ?_
  have hC4 := hq.C4
  have hM4 := hq.M4
  have hT4 := hq.T4
  have hP4 := hv.P4
  have hU4 := hv.U4
  refine lf (a_aload_n dX10_meal_0 rfl) ?_
  refine lf (a_iload_n dX10_meal_1 rfl) ?_
  refine lf (a_inv (b2 := (0, 0)) (c_requireMeal (by repeat (first | with_reducible exact hw | with_reducible exact hwc | with_reducible assumption | with_reducible apply Wf.sI | with_reducible apply Wf.sL | with_reducible apply Wf.cpI | with_reducible apply Wf.cpL | with_reducible apply Wf.cp2 | with_reducible apply Wf.sIs | with_reducible apply Wf.sLs | with_reducible apply Wf.cpU | with_reducible apply Wf.fillI | with_reducible apply Wf.clU | with_reducible apply Wf.dnF | with_reducible apply Wf.gbW)) hv hq hm) rfl dX10_meal_2 yk_X10_requireMeal im_X10_requireMeal se_X10_requireMeal ml_X10_212 rfl (co_0 (by repeat (first | with_reducible exact hw | with_reducible exact hwc | with_reducible assumption | with_reducible apply Wf.sI | with_reducible apply Wf.sL | with_reducible apply Wf.cpI | with_reducible apply Wf.cpL | with_reducible apply Wf.cp2 | with_reducible apply Wf.sIs | with_reducible apply Wf.sLs | with_reducible apply Wf.cpU | with_reducible apply Wf.fillI | with_reducible apply Wf.clU | with_reducible apply Wf.dnF | with_reducible apply Wf.gbW))) (by decide) hc_X10 (by decide) (by decide) (Nat.le_of_ble_eq_true rfl)) ?_
  refine lf (a_iload_n dX10_meal_5 rfl) ?_
  refine lf (a_tsIn (tgt := 168) dX10_meal_6 (by decide) (by decide) rfl (by decide)) ?_
  refine lf (a_aload_n dX10_meal_168 rfl) ?_
  refine lf (a_getR (cr_0_7 (by repeat (first | with_reducible exact hw | with_reducible exact hwc | with_reducible assumption | with_reducible apply Wf.sI | with_reducible apply Wf.sL | with_reducible apply Wf.cpI | with_reducible apply Wf.cpL | with_reducible apply Wf.cp2 | with_reducible apply Wf.sIs | with_reducible apply Wf.sLs | with_reducible apply Wf.cpU | with_reducible apply Wf.fillI | with_reducible apply Wf.clU | with_reducible apply Wf.dnF | with_reducible apply Wf.gbW))) dX10_meal_169 fs_X10_28 rfl (co_0 (by repeat (first | with_reducible exact hw | with_reducible exact hwc | with_reducible assumption | with_reducible apply Wf.sI | with_reducible apply Wf.sL | with_reducible apply Wf.cpI | with_reducible apply Wf.cpL | with_reducible apply Wf.cp2 | with_reducible apply Wf.sIs | with_reducible apply Wf.sLs | with_reducible apply Wf.cpU | with_reducible apply Wf.fillI | with_reducible apply Wf.clU | with_reducible apply Wf.dnF | with_reducible apply Wf.gbW)))) ?_
  refine lf (a_inv (b2 := (0, 0)) (v_X1_phase (by repeat (first | with_reducible exact hw | with_reducible exact hwc | with_reducible assumption | with_reducible apply Wf.sI | with_reducible apply Wf.sL | with_reducible apply Wf.cpI | with_reducible apply Wf.cpL | with_reducible apply Wf.cp2 | with_reducible apply Wf.sIs | with_reducible apply Wf.sLs | with_reducible apply Wf.cpU | with_reducible apply Wf.fillI | with_reducible apply Wf.clU | with_reducible apply Wf.dnF | with_reducible apply Wf.gbW)) hv hq) rfl dX10_meal_172 yk_X1_phase im_X1_phase se_X1_phase ml_X10_135 rfl (fl_o (by repeat (first | with_reducible exact hw | with_reducible exact hwc | with_reducible assumption | with_reducible apply Wf.sI | with_reducible apply Wf.sL | with_reducible apply Wf.cpI | with_reducible apply Wf.cpL | with_reducible apply Wf.cp2 | with_reducible apply Wf.sIs | with_reducible apply Wf.sLs | with_reducible apply Wf.cpU | with_reducible apply Wf.fillI | with_reducible apply Wf.clU | with_reducible apply Wf.dnF | with_reducible apply Wf.gbW)) fl_now) (by decide) hc_X1 (by decide) (by decide) (Nat.le_of_ble_eq_true rfl)) ?_
  refine lf (a_iconst (3 : Int32) dX10_meal_175 (by decide)) ?_
  refine lfn (a_icmp_ne (tgt := 191) dX10_meal_176 (by decide)) (fun h176 => ?_) (fun h176 => ?_)
  · refine lf (a_iconst (0 : Int32) dX10_meal_191 (by decide)) ?_
    refine ⟨_, _, (a_ireturn dX10_meal_192 rfl rfl), ?_⟩
    first
    | exact ⟨_, rfl, by rw [show mlV q d m 8 = if phD q d = 3 then nI (cntG (svR q d).1 (dP d) m) else 0 from rfl, if_pos h176], AskQ.svc hF h17 hok⟩
    | exact ⟨_, rfl, by rw [show mlV q d m 8 = if phD q d = 3 then nI (cntG (svR q d).1 (dP d) m) else 0 from rfl, if_neg h176], AskQ.rfl' hw hs⟩
  · refine lf (a_aload_n dX10_meal_179 rfl) ?_
    obtain ⟨v_, W180, k180, rfl, hF, h17, hok⟩ := (c_freshService hw hv hq hq1 hd hs)
    have hwc := hF.1.1
    refine lf (a_inv (b2 := (0, 0)) k180 rfl dX10_meal_180 yk_X10_freshService im_X10_freshService se_X10_freshService ml_X10_243 rfl (co_0 (by repeat (first | with_reducible exact hw | with_reducible exact hwc | with_reducible assumption | with_reducible apply Wf.sI | with_reducible apply Wf.sL | with_reducible apply Wf.cpI | with_reducible apply Wf.cpL | with_reducible apply Wf.cp2 | with_reducible apply Wf.sIs | with_reducible apply Wf.sLs | with_reducible apply Wf.cpU | with_reducible apply Wf.fillI | with_reducible apply Wf.clU | with_reducible apply Wf.dnF | with_reducible apply Wf.gbW))) (by decide) hc_X10 (by decide) (by decide) (Nat.le_of_ble_eq_true rfl)) ?_
    refine lf (a_getR (cr_334_2 (by repeat (first | with_reducible exact hw | with_reducible exact hwc | with_reducible assumption | with_reducible apply Wf.sI | with_reducible apply Wf.sL | with_reducible apply Wf.cpI | with_reducible apply Wf.cpL | with_reducible apply Wf.cp2 | with_reducible apply Wf.sIs | with_reducible apply Wf.sLs | with_reducible apply Wf.cpU | with_reducible apply Wf.fillI | with_reducible apply Wf.clU | with_reducible apply Wf.dnF | with_reducible apply Wf.gbW))) dX10_meal_183 fs_X10_247 rfl (co_334 (by repeat (first | with_reducible exact hw | with_reducible exact hwc | with_reducible assumption | with_reducible apply Wf.sI | with_reducible apply Wf.sL | with_reducible apply Wf.cpI | with_reducible apply Wf.cpL | with_reducible apply Wf.cp2 | with_reducible apply Wf.sIs | with_reducible apply Wf.sLs | with_reducible apply Wf.cpU | with_reducible apply Wf.fillI | with_reducible apply Wf.clU | with_reducible apply Wf.dnF | with_reducible apply Wf.gbW)))) ?_
    refine lf (a_iload_n dX10_meal_186 rfl) ?_
    refine lf (a_ild dX10_meal_187 (ca_337 (by repeat (first | with_reducible exact hw | with_reducible exact hwc | with_reducible assumption | with_reducible apply Wf.sI | with_reducible apply Wf.sL | with_reducible apply Wf.cpI | with_reducible apply Wf.cpL | with_reducible apply Wf.cp2 | with_reducible apply Wf.sIs | with_reducible apply Wf.sLs | with_reducible apply Wf.cpU | with_reducible apply Wf.fillI | with_reducible apply Wf.clU | with_reducible apply Wf.dnF | with_reducible apply Wf.gbW))) (ixn (show m < 12 by omega) (by decide))) ?_
    rw [hok.eat hq.M4 (WiD.of hd) hm]
    refine lf (a_goto (tgt := 192) dX10_meal_188 (by decide)) ?_
    refine ⟨_, _, (a_ireturn dX10_meal_192 rfl rfl), ?_⟩
    first
    | exact ⟨_, rfl, by rw [show mlV q d m 8 = if phD q d = 3 then nI (cntG (svR q d).1 (dP d) m) else 0 from rfl, if_pos h176], AskQ.svc hF h17 hok⟩
    | exact ⟨_, rfl, by rw [show mlV q d m 8 = if phD q d = 3 then nI (cntG (svR q d).1 (dP d) m) else 0 from rfl, if_neg h176], AskQ.rfl' hw hs⟩
theorem c_meal_9 (hw : Wf μ) (hv : FV μ 24 p d) (hq : PV μ p q) (hq1 : GdP q) (hd : GdD q d) (hs : SvA μ q d) {m : Nat} (hm : m < pM q) : CV Y_X10_meal R_X10_meal [.ref 0, .int (nI m), .int (nI 9)] μ (fun v V => v = some (.int (mlV q d m 9)) ∧ AskQ μ q d V) := by
  refine CV.ent yk_X10_meal (Nat.le_of_ble_eq_true rfl) ?_
  have hC4 := hq.C4
  have hM4 := hq.M4
  have hT4 := hq.T4
  have hP4 := hv.P4
  have hU4 := hv.U4
  refine lf (a_aload_n dX10_meal_0 rfl) ?_
  refine lf (a_iload_n dX10_meal_1 rfl) ?_
  refine lf (a_inv (b2 := (0, 0)) (c_requireMeal (by repeat (first | with_reducible exact hw | with_reducible exact hwc | with_reducible assumption | with_reducible apply Wf.sI | with_reducible apply Wf.sL | with_reducible apply Wf.cpI | with_reducible apply Wf.cpL | with_reducible apply Wf.cp2 | with_reducible apply Wf.sIs | with_reducible apply Wf.sLs | with_reducible apply Wf.cpU | with_reducible apply Wf.fillI | with_reducible apply Wf.clU | with_reducible apply Wf.dnF | with_reducible apply Wf.gbW)) hv hq hm) rfl dX10_meal_2 yk_X10_requireMeal im_X10_requireMeal se_X10_requireMeal ml_X10_212 rfl (co_0 (by repeat (first | with_reducible exact hw | with_reducible exact hwc | with_reducible assumption | with_reducible apply Wf.sI | with_reducible apply Wf.sL | with_reducible apply Wf.cpI | with_reducible apply Wf.cpL | with_reducible apply Wf.cp2 | with_reducible apply Wf.sIs | with_reducible apply Wf.sLs | with_reducible apply Wf.cpU | with_reducible apply Wf.fillI | with_reducible apply Wf.clU | with_reducible apply Wf.dnF | with_reducible apply Wf.gbW))) (by decide) hc_X10 (by decide) (by decide) (Nat.le_of_ble_eq_true rfl)) ?_
  refine lf (a_iload_n dX10_meal_5 rfl) ?_
  refine lf (a_tsIn (tgt := 193) dX10_meal_6 (by decide) (by decide) rfl (by decide)) ?_
  refine lf (a_aload_n dX10_meal_193 rfl) ?_
  refine lf (a_getR (cr_0_7 (by repeat (first | with_reducible exact hw | with_reducible exact hwc | with_reducible assumption | with_reducible apply Wf.sI | with_reducible apply Wf.sL | with_reducible apply Wf.cpI | with_reducible apply Wf.cpL | with_reducible apply Wf.cp2 | with_reducible apply Wf.sIs | with_reducible apply Wf.sLs | with_reducible apply Wf.cpU | with_reducible apply Wf.fillI | with_reducible apply Wf.clU | with_reducible apply Wf.dnF | with_reducible apply Wf.gbW))) dX10_meal_194 fs_X10_28 rfl (co_0 (by repeat (first | with_reducible exact hw | with_reducible exact hwc | with_reducible assumption | with_reducible apply Wf.sI | with_reducible apply Wf.sL | with_reducible apply Wf.cpI | with_reducible apply Wf.cpL | with_reducible apply Wf.cp2 | with_reducible apply Wf.sIs | with_reducible apply Wf.sLs | with_reducible apply Wf.cpU | with_reducible apply Wf.fillI | with_reducible apply Wf.clU | with_reducible apply Wf.dnF | with_reducible apply Wf.gbW)))) ?_
  refine lf (a_iload_n dX10_meal_197 rfl) ?_
  refine lf (a_aload_n dX10_meal_198 rfl) ?_
  obtain ⟨v_, W199, k199, rfl, hO, hu⟩ := (c_freshOrder hw hv hq)
  have hwc := hO.1
  have hv2 := hv.hi hO sO_hi
  have hq2 := hq.hi hO sO_hi
  refine lf (a_inv (b2 := (0, 0)) k199 rfl dX10_meal_199 yk_X10_freshOrder im_X10_freshOrder se_X10_freshOrder ml_X10_157 rfl (co_0 (by repeat (first | with_reducible exact hw | with_reducible exact hwc | with_reducible assumption | with_reducible apply Wf.sI | with_reducible apply Wf.sL | with_reducible apply Wf.cpI | with_reducible apply Wf.cpL | with_reducible apply Wf.cp2 | with_reducible apply Wf.sIs | with_reducible apply Wf.sLs | with_reducible apply Wf.cpU | with_reducible apply Wf.fillI | with_reducible apply Wf.clU | with_reducible apply Wf.dnF | with_reducible apply Wf.gbW))) (by decide) hc_X10 (by decide) (by decide) (Nat.le_of_ble_eq_true rfl)) ?_
  refine lf (a_getR (cr_324_0 (by repeat (first | with_reducible exact hw | with_reducible exact hwc | with_reducible assumption | with_reducible apply Wf.sI | with_reducible apply Wf.sL | with_reducible apply Wf.cpI | with_reducible apply Wf.cpL | with_reducible apply Wf.cp2 | with_reducible apply Wf.sIs | with_reducible apply Wf.sLs | with_reducible apply Wf.cpU | with_reducible apply Wf.fillI | with_reducible apply Wf.clU | with_reducible apply Wf.dnF | with_reducible apply Wf.gbW))) dX10_meal_202 fs_X10_236 rfl (co_324 (by repeat (first | with_reducible exact hw | with_reducible exact hwc | with_reducible assumption | with_reducible apply Wf.sI | with_reducible apply Wf.sL | with_reducible apply Wf.cpI | with_reducible apply Wf.cpL | with_reducible apply Wf.cp2 | with_reducible apply Wf.sIs | with_reducible apply Wf.sLs | with_reducible apply Wf.cpU | with_reducible apply Wf.fillI | with_reducible apply Wf.clU | with_reducible apply Wf.dnF | with_reducible apply Wf.gbW)))) ?_
  refine lf (a_iload_n dX10_meal_205 rfl) ?_
  refine lf (a_ild dX10_meal_206 (ca_325 (by repeat (first | with_reducible exact hw | with_reducible exact hwc | with_reducible assumption | with_reducible apply Wf.sI | with_reducible apply Wf.sL | with_reducible apply Wf.cpI | with_reducible apply Wf.cpL | with_reducible apply Wf.cp2 | with_reducible apply Wf.sIs | with_reducible apply Wf.sLs | with_reducible apply Wf.cpU | with_reducible apply Wf.fillI | with_reducible apply Wf.clU | with_reducible apply Wf.dnF | with_reducible apply Wf.gbW))) (ixn (show m < 12 by omega) (by decide))) ?_
  rw [hu m (by omega)]
  refine lf (a_inv (b2 := (0, 0)) (v_X1_missing hwc hv2 hq2 (show m < 12 by omega) (orD q d m)) rfl dX10_meal_207 yk_X1_missing im_X1_missing se_X1_missing ml_X10_250 rfl (fl_o (by repeat (first | with_reducible exact hw | with_reducible exact hwc | with_reducible assumption | with_reducible apply Wf.sI | with_reducible apply Wf.sL | with_reducible apply Wf.cpI | with_reducible apply Wf.cpL | with_reducible apply Wf.cp2 | with_reducible apply Wf.sIs | with_reducible apply Wf.sLs | with_reducible apply Wf.cpU | with_reducible apply Wf.fillI | with_reducible apply Wf.clU | with_reducible apply Wf.dnF | with_reducible apply Wf.gbW)) fl_now) (by decide) hc_X1 (by decide) (by decide) (Nat.le_of_ble_eq_true rfl)) ?_
  refine ⟨_, _, (a_ireturn dX10_meal_210 rfl rfl), ?_⟩
  exact ⟨_, rfl, rfl, AskQ.ord hs hO⟩
theorem c_meal (hw : Wf μ) (hv : FV μ 24 p d) (hq : PV μ p q) (hq1 : GdP q) (hd : GdD q d) (hs : SvA μ q d) {m : Nat} (hm : m < pM q) {k : Nat} (hk : k < 10) : CV Y_X10_meal R_X10_meal [.ref 0, .int (nI m), .int (nI k)] μ (fun v V => v = some (.int (mlV q d m k)) ∧ AskQ μ q d V) := by
  rcases (by omega : k = 0 ∨ k = 1 ∨ k = 2 ∨ k = 3 ∨ k = 4 ∨ k = 5 ∨ k = 6 ∨ k = 7 ∨ k = 8 ∨ k = 9) with rfl | rfl | rfl | rfl | rfl | rfl | rfl | rfl | rfl | rfl
  · exact c_meal_0 hw hv hq hq1 hd hs hm
  · exact c_meal_1 hw hv hq hq1 hd hs hm
  · exact c_meal_2 hw hv hq hq1 hd hs hm
  · exact c_meal_3 hw hv hq hq1 hd hs hm
  · exact c_meal_4 hw hv hq hq1 hd hs hm
  · exact c_meal_5 hw hv hq hq1 hd hs hm
  · exact c_meal_6 hw hv hq hq1 hd hs hm
  · exact c_meal_7 hw hv hq hq1 hd hs hm
  · exact c_meal_8 hw hv hq hq1 hd hs hm
  · exact c_meal_9 hw hv hq hq1 hd hs hm

theorem cx_meal (hw : Wf μ) (hv : FV μ 24 p d) (hq : PV μ p q) {x y : Int32} (h : ixO x (pM q) = none) : Ct Y_X10_meal RX_X10_meal [.ref 0, .int x, .int y] μ (.inr NSE) μ := by
  have hC4 := hq.C4
  have hM4 := hq.M4
  have hT4 := hq.T4
  have hP4 := hv.P4
  have hU4 := hv.U4
  refine Ct.ent yk_X10_meal (Nat.le_of_ble_eq_true rfl) ?_
  refine a_aload_n dX10_meal_0 rfl ?_
  refine a_iload_n dX10_meal_1 rfl ?_
  exact a_out rfl rfl (a_invX (cx_requireMeal hw hv hq h) rfl dX10_meal_2 yk_X10_requireMeal im_X10_requireMeal se_X10_requireMeal ml_X10_212 rfl (co_0 hw) (by decide) hc_X10 (by decide) (by decide) (Nat.le_of_ble_eq_true rfl) rfl)

theorem cy_meal (hw : Wf μ) (hv : FV μ 24 p d) (hq : PV μ p q)  {m : Nat} (hm : m < pM q) {y : Int32} (h : ixO y 10 = none) : Ct Y_X10_meal RX_X10_meal [.ref 0, .int (nI m), .int y] μ (.inr IAE) μ := by
  have hC4 := hq.C4
  have hM4 := hq.M4
  have hT4 := hq.T4
  have hP4 := hv.P4
  have hU4 := hv.U4
  have g2 := ix_out h
  refine Ct.ent yk_X10_meal (Nat.le_of_ble_eq_true rfl) ?_
  refine a_aload_n dX10_meal_0 rfl ?_
  refine a_iload_n dX10_meal_1 rfl ?_
  refine a_inv (b2 := (1, 6)) (c_requireMeal hw hv hq hm) rfl dX10_meal_2 yk_X10_requireMeal im_X10_requireMeal se_X10_requireMeal ml_X10_212 rfl (co_0 hw) (by decide) hc_X10 (by decide) (by decide) (Nat.le_of_ble_eq_true rfl) ?_
  refine a_iload_n dX10_meal_5 rfl ?_
  refine a_tsOut (tgt := 211) dX10_meal_6 (by omega) (by decide) ?_
  exact a_throwS (n := 49) (tx := "nothing such of a meal") (by decide) (by decide) xw_IAE rfl rfl dX10_meal_211 dX10_meal_214 dX10_meal_215 dX10_meal_217 dX10_meal_220 (by decide) (by decide) (by decide) (by decide) (by decide)
abbrev R_X10_passenger : Room := { frames := 8, cells := 0, slots := 0, locals := 161 }
abbrev RX_X10_passenger : Room := { frames := 8, cells := 1, slots := 6, locals := 161 }

theorem c_passenger_0 (hw : Wf μ) (hv : FV μ 24 p d) (hq : PV μ p q) (hq1 : GdP q) (hd : GdD q d) (hs : SvA μ q d) {i : Nat} (hi : i < dP d) : CV Y_X10_passenger R_X10_passenger [.ref 0, .int (nI i), .int (nI 0)] μ (fun v V => v = some (.int (pgV q d i 0)) ∧ AskQ μ q d V) := by
  refine CV.ent yk_X10_passenger (Nat.le_of_ble_eq_true rfl) ?_
  have hC4 := hq.C4
  have hM4 := hq.M4
  have hT4 := hq.T4
  have hP4 := hv.P4
  have hU4 := hv.U4
  refine lf (a_aload_n dX10_passenger_0 rfl) ?_
  refine lf (a_iload_n dX10_passenger_1 rfl) ?_
  refine lf (a_inv (b2 := (0, 0)) (c_requirePassenger (by repeat (first | with_reducible exact hw | with_reducible exact hwc | with_reducible assumption | with_reducible apply Wf.sI | with_reducible apply Wf.sL | with_reducible apply Wf.cpI | with_reducible apply Wf.cpL | with_reducible apply Wf.cp2 | with_reducible apply Wf.sIs | with_reducible apply Wf.sLs | with_reducible apply Wf.cpU | with_reducible apply Wf.fillI | with_reducible apply Wf.clU | with_reducible apply Wf.dnF | with_reducible apply Wf.gbW)) hv hq hi) rfl dX10_passenger_2 yk_X10_requirePassenger im_X10_requirePassenger se_X10_requirePassenger ml_X10_256 rfl (co_0 (by repeat (first | with_reducible exact hw | with_reducible exact hwc | with_reducible assumption | with_reducible apply Wf.sI | with_reducible apply Wf.sL | with_reducible apply Wf.cpI | with_reducible apply Wf.cpL | with_reducible apply Wf.cp2 | with_reducible apply Wf.sIs | with_reducible apply Wf.sLs | with_reducible apply Wf.cpU | with_reducible apply Wf.fillI | with_reducible apply Wf.clU | with_reducible apply Wf.dnF | with_reducible apply Wf.gbW))) (by decide) hc_X10 (by decide) (by decide) (Nat.le_of_ble_eq_true rfl)) ?_
  refine lf (a_iload_n dX10_passenger_5 rfl) ?_
  refine lf (a_tsIn (tgt := 44) dX10_passenger_6 (by decide) (by decide) rfl (by decide)) ?_
  refine lf (a_aload_n dX10_passenger_44 rfl) ?_
  refine lf (a_getR (cr_0_7 (by repeat (first | with_reducible exact hw | with_reducible exact hwc | with_reducible assumption | with_reducible apply Wf.sI | with_reducible apply Wf.sL | with_reducible apply Wf.cpI | with_reducible apply Wf.cpL | with_reducible apply Wf.cp2 | with_reducible apply Wf.sIs | with_reducible apply Wf.sLs | with_reducible apply Wf.cpU | with_reducible apply Wf.fillI | with_reducible apply Wf.clU | with_reducible apply Wf.dnF | with_reducible apply Wf.gbW))) dX10_passenger_45 fs_X10_28 rfl (co_0 (by repeat (first | with_reducible exact hw | with_reducible exact hwc | with_reducible assumption | with_reducible apply Wf.sI | with_reducible apply Wf.sL | with_reducible apply Wf.cpI | with_reducible apply Wf.cpL | with_reducible apply Wf.cp2 | with_reducible apply Wf.sIs | with_reducible apply Wf.sLs | with_reducible apply Wf.cpU | with_reducible apply Wf.fillI | with_reducible apply Wf.clU | with_reducible apply Wf.dnF | with_reducible apply Wf.gbW)))) ?_
  refine lf (a_getR (fl_r4 (by repeat (first | with_reducible exact hw | with_reducible exact hwc | with_reducible assumption | with_reducible apply Wf.sI | with_reducible apply Wf.sL | with_reducible apply Wf.cpI | with_reducible apply Wf.cpL | with_reducible apply Wf.cp2 | with_reducible apply Wf.sIs | with_reducible apply Wf.sLs | with_reducible apply Wf.cpU | with_reducible apply Wf.fillI | with_reducible apply Wf.clU | with_reducible apply Wf.dnF | with_reducible apply Wf.gbW)) fl_now) dX10_passenger_48 fs_X10_259 rfl (fl_o (by repeat (first | with_reducible exact hw | with_reducible exact hwc | with_reducible assumption | with_reducible apply Wf.sI | with_reducible apply Wf.sL | with_reducible apply Wf.cpI | with_reducible apply Wf.cpL | with_reducible apply Wf.cp2 | with_reducible apply Wf.sIs | with_reducible apply Wf.sLs | with_reducible apply Wf.cpU | with_reducible apply Wf.fillI | with_reducible apply Wf.clU | with_reducible apply Wf.dnF | with_reducible apply Wf.gbW)) fl_now)) ?_
  refine lf (a_iload_n dX10_passenger_51 rfl) ?_
  refine lf (a_ild dX10_passenger_52 (fl_a1 (by repeat (first | with_reducible exact hw | with_reducible exact hwc | with_reducible assumption | with_reducible apply Wf.sI | with_reducible apply Wf.sL | with_reducible apply Wf.cpI | with_reducible apply Wf.cpL | with_reducible apply Wf.cp2 | with_reducible apply Wf.sIs | with_reducible apply Wf.sLs | with_reducible apply Wf.cpU | with_reducible apply Wf.fillI | with_reducible apply Wf.clU | with_reducible apply Wf.dnF | with_reducible apply Wf.gbW)) fl_now) (ixn (show i < 40 by omega) (by decide))) ?_
  rw [hv.cab hi]
  refine ⟨_, _, (a_ireturn dX10_passenger_53 rfl rfl), ?_⟩
  exact ⟨_, rfl, rfl, AskQ.rfl' hw hs⟩
theorem c_passenger_1 (hw : Wf μ) (hv : FV μ 24 p d) (hq : PV μ p q) (hq1 : GdP q) (hd : GdD q d) (hs : SvA μ q d) {i : Nat} (hi : i < dP d) : CV Y_X10_passenger R_X10_passenger [.ref 0, .int (nI i), .int (nI 1)] μ (fun v V => v = some (.int (pgV q d i 1)) ∧ AskQ μ q d V) := by
  refine CV.ent yk_X10_passenger (Nat.le_of_ble_eq_true rfl) ?_
  have hC4 := hq.C4
  have hM4 := hq.M4
  have hT4 := hq.T4
  have hP4 := hv.P4
  have hU4 := hv.U4
  refine lf (a_aload_n dX10_passenger_0 rfl) ?_
  refine lf (a_iload_n dX10_passenger_1 rfl) ?_
  refine lf (a_inv (b2 := (0, 0)) (c_requirePassenger (by repeat (first | with_reducible exact hw | with_reducible exact hwc | with_reducible assumption | with_reducible apply Wf.sI | with_reducible apply Wf.sL | with_reducible apply Wf.cpI | with_reducible apply Wf.cpL | with_reducible apply Wf.cp2 | with_reducible apply Wf.sIs | with_reducible apply Wf.sLs | with_reducible apply Wf.cpU | with_reducible apply Wf.fillI | with_reducible apply Wf.clU | with_reducible apply Wf.dnF | with_reducible apply Wf.gbW)) hv hq hi) rfl dX10_passenger_2 yk_X10_requirePassenger im_X10_requirePassenger se_X10_requirePassenger ml_X10_256 rfl (co_0 (by repeat (first | with_reducible exact hw | with_reducible exact hwc | with_reducible assumption | with_reducible apply Wf.sI | with_reducible apply Wf.sL | with_reducible apply Wf.cpI | with_reducible apply Wf.cpL | with_reducible apply Wf.cp2 | with_reducible apply Wf.sIs | with_reducible apply Wf.sLs | with_reducible apply Wf.cpU | with_reducible apply Wf.fillI | with_reducible apply Wf.clU | with_reducible apply Wf.dnF | with_reducible apply Wf.gbW))) (by decide) hc_X10 (by decide) (by decide) (Nat.le_of_ble_eq_true rfl)) ?_
  refine lf (a_iload_n dX10_passenger_5 rfl) ?_
  refine lf (a_tsIn (tgt := 54) dX10_passenger_6 (by decide) (by decide) rfl (by decide)) ?_
  refine lf (a_aload_n dX10_passenger_54 rfl) ?_
  refine lf (a_getR (cr_0_7 (by repeat (first | with_reducible exact hw | with_reducible exact hwc | with_reducible assumption | with_reducible apply Wf.sI | with_reducible apply Wf.sL | with_reducible apply Wf.cpI | with_reducible apply Wf.cpL | with_reducible apply Wf.cp2 | with_reducible apply Wf.sIs | with_reducible apply Wf.sLs | with_reducible apply Wf.cpU | with_reducible apply Wf.fillI | with_reducible apply Wf.clU | with_reducible apply Wf.dnF | with_reducible apply Wf.gbW))) dX10_passenger_55 fs_X10_28 rfl (co_0 (by repeat (first | with_reducible exact hw | with_reducible exact hwc | with_reducible assumption | with_reducible apply Wf.sI | with_reducible apply Wf.sL | with_reducible apply Wf.cpI | with_reducible apply Wf.cpL | with_reducible apply Wf.cp2 | with_reducible apply Wf.sIs | with_reducible apply Wf.sLs | with_reducible apply Wf.cpU | with_reducible apply Wf.fillI | with_reducible apply Wf.clU | with_reducible apply Wf.dnF | with_reducible apply Wf.gbW)))) ?_
  refine lf (a_getR (fl_r5 (by repeat (first | with_reducible exact hw | with_reducible exact hwc | with_reducible assumption | with_reducible apply Wf.sI | with_reducible apply Wf.sL | with_reducible apply Wf.cpI | with_reducible apply Wf.cpL | with_reducible apply Wf.cp2 | with_reducible apply Wf.sIs | with_reducible apply Wf.sLs | with_reducible apply Wf.cpU | with_reducible apply Wf.fillI | with_reducible apply Wf.clU | with_reducible apply Wf.dnF | with_reducible apply Wf.gbW)) fl_now) dX10_passenger_58 fs_X10_262 rfl (fl_o (by repeat (first | with_reducible exact hw | with_reducible exact hwc | with_reducible assumption | with_reducible apply Wf.sI | with_reducible apply Wf.sL | with_reducible apply Wf.cpI | with_reducible apply Wf.cpL | with_reducible apply Wf.cp2 | with_reducible apply Wf.sIs | with_reducible apply Wf.sLs | with_reducible apply Wf.cpU | with_reducible apply Wf.fillI | with_reducible apply Wf.clU | with_reducible apply Wf.dnF | with_reducible apply Wf.gbW)) fl_now)) ?_
  refine lf (a_iload_n dX10_passenger_61 rfl) ?_
  refine lf (a_ild dX10_passenger_62 (fl_a2 (by repeat (first | with_reducible exact hw | with_reducible exact hwc | with_reducible assumption | with_reducible apply Wf.sI | with_reducible apply Wf.sL | with_reducible apply Wf.cpI | with_reducible apply Wf.cpL | with_reducible apply Wf.cp2 | with_reducible apply Wf.sIs | with_reducible apply Wf.sLs | with_reducible apply Wf.cpU | with_reducible apply Wf.fillI | with_reducible apply Wf.clU | with_reducible apply Wf.dnF | with_reducible apply Wf.gbW)) fl_now) (ixn (show i < 40 by omega) (by decide))) ?_
  rw [hv.nee hi]
  refine ⟨_, _, (a_ireturn dX10_passenger_63 rfl rfl), ?_⟩
  exact ⟨_, rfl, rfl, AskQ.rfl' hw hs⟩
theorem c_passenger_2 (hw : Wf μ) (hv : FV μ 24 p d) (hq : PV μ p q) (hq1 : GdP q) (hd : GdD q d) (hs : SvA μ q d) {i : Nat} (hi : i < dP d) : CV Y_X10_passenger R_X10_passenger [.ref 0, .int (nI i), .int (nI 2)] μ (fun v V => v = some (.int (pgV q d i 2)) ∧ AskQ μ q d V) := by
  refine CV.ent yk_X10_passenger (Nat.le_of_ble_eq_true rfl) ?_
  have hC4 := hq.C4
  have hM4 := hq.M4
  have hT4 := hq.T4
  have hP4 := hv.P4
  have hU4 := hv.U4
  refine lf (a_aload_n dX10_passenger_0 rfl) ?_
  refine lf (a_iload_n dX10_passenger_1 rfl) ?_
  refine lf (a_inv (b2 := (0, 0)) (c_requirePassenger (by repeat (first | with_reducible exact hw | with_reducible exact hwc | with_reducible assumption | with_reducible apply Wf.sI | with_reducible apply Wf.sL | with_reducible apply Wf.cpI | with_reducible apply Wf.cpL | with_reducible apply Wf.cp2 | with_reducible apply Wf.sIs | with_reducible apply Wf.sLs | with_reducible apply Wf.cpU | with_reducible apply Wf.fillI | with_reducible apply Wf.clU | with_reducible apply Wf.dnF | with_reducible apply Wf.gbW)) hv hq hi) rfl dX10_passenger_2 yk_X10_requirePassenger im_X10_requirePassenger se_X10_requirePassenger ml_X10_256 rfl (co_0 (by repeat (first | with_reducible exact hw | with_reducible exact hwc | with_reducible assumption | with_reducible apply Wf.sI | with_reducible apply Wf.sL | with_reducible apply Wf.cpI | with_reducible apply Wf.cpL | with_reducible apply Wf.cp2 | with_reducible apply Wf.sIs | with_reducible apply Wf.sLs | with_reducible apply Wf.cpU | with_reducible apply Wf.fillI | with_reducible apply Wf.clU | with_reducible apply Wf.dnF | with_reducible apply Wf.gbW))) (by decide) hc_X10 (by decide) (by decide) (Nat.le_of_ble_eq_true rfl)) ?_
  refine lf (a_iload_n dX10_passenger_5 rfl) ?_
  refine lf (a_tsIn (tgt := 64) dX10_passenger_6 (by decide) (by decide) rfl (by decide)) ?_
  refine lf (a_aload_n dX10_passenger_64 rfl) ?_
  refine lf (a_getR (cr_0_7 (by repeat (first | with_reducible exact hw | with_reducible exact hwc | with_reducible assumption | with_reducible apply Wf.sI | with_reducible apply Wf.sL | with_reducible apply Wf.cpI | with_reducible apply Wf.cpL | with_reducible apply Wf.cp2 | with_reducible apply Wf.sIs | with_reducible apply Wf.sLs | with_reducible apply Wf.cpU | with_reducible apply Wf.fillI | with_reducible apply Wf.clU | with_reducible apply Wf.dnF | with_reducible apply Wf.gbW))) dX10_passenger_65 fs_X10_28 rfl (co_0 (by repeat (first | with_reducible exact hw | with_reducible exact hwc | with_reducible assumption | with_reducible apply Wf.sI | with_reducible apply Wf.sL | with_reducible apply Wf.cpI | with_reducible apply Wf.cpL | with_reducible apply Wf.cp2 | with_reducible apply Wf.sIs | with_reducible apply Wf.sLs | with_reducible apply Wf.cpU | with_reducible apply Wf.fillI | with_reducible apply Wf.clU | with_reducible apply Wf.dnF | with_reducible apply Wf.gbW)))) ?_
  refine lf (a_getR (fl_r6 (by repeat (first | with_reducible exact hw | with_reducible exact hwc | with_reducible assumption | with_reducible apply Wf.sI | with_reducible apply Wf.sL | with_reducible apply Wf.cpI | with_reducible apply Wf.cpL | with_reducible apply Wf.cp2 | with_reducible apply Wf.sIs | with_reducible apply Wf.sLs | with_reducible apply Wf.cpU | with_reducible apply Wf.fillI | with_reducible apply Wf.clU | with_reducible apply Wf.dnF | with_reducible apply Wf.gbW)) fl_now) dX10_passenger_68 fs_X10_265 rfl (fl_o (by repeat (first | with_reducible exact hw | with_reducible exact hwc | with_reducible assumption | with_reducible apply Wf.sI | with_reducible apply Wf.sL | with_reducible apply Wf.cpI | with_reducible apply Wf.cpL | with_reducible apply Wf.cp2 | with_reducible apply Wf.sIs | with_reducible apply Wf.sLs | with_reducible apply Wf.cpU | with_reducible apply Wf.fillI | with_reducible apply Wf.clU | with_reducible apply Wf.dnF | with_reducible apply Wf.gbW)) fl_now)) ?_
  refine lf (a_iload_n dX10_passenger_71 rfl) ?_
  refine lf (a_ild dX10_passenger_72 (fl_a3 (by repeat (first | with_reducible exact hw | with_reducible exact hwc | with_reducible assumption | with_reducible apply Wf.sI | with_reducible apply Wf.sL | with_reducible apply Wf.cpI | with_reducible apply Wf.cpL | with_reducible apply Wf.cp2 | with_reducible apply Wf.sIs | with_reducible apply Wf.sLs | with_reducible apply Wf.cpU | with_reducible apply Wf.fillI | with_reducible apply Wf.clU | with_reducible apply Wf.dnF | with_reducible apply Wf.gbW)) fl_now) (ixn (show i < 40 by omega) (by decide))) ?_
  rw [hv.wis hi]
  refine ⟨_, _, (a_ireturn dX10_passenger_73 rfl rfl), ?_⟩
  exact ⟨_, rfl, rfl, AskQ.rfl' hw hs⟩
theorem c_passenger_3 (hw : Wf μ) (hv : FV μ 24 p d) (hq : PV μ p q) (hq1 : GdP q) (hd : GdD q d) (hs : SvA μ q d) {i : Nat} (hi : i < dP d) : CV Y_X10_passenger R_X10_passenger [.ref 0, .int (nI i), .int (nI 3)] μ (fun v V => v = some (.int (pgV q d i 3)) ∧ AskQ μ q d V) := by
  refine CV.ent yk_X10_passenger (Nat.le_of_ble_eq_true rfl) ?_
  have hC4 := hq.C4
  have hM4 := hq.M4
  have hT4 := hq.T4
  have hP4 := hv.P4
  have hU4 := hv.U4
  refine lf (a_aload_n dX10_passenger_0 rfl) ?_
  refine lf (a_iload_n dX10_passenger_1 rfl) ?_
  refine lf (a_inv (b2 := (0, 0)) (c_requirePassenger (by repeat (first | with_reducible exact hw | with_reducible exact hwc | with_reducible assumption | with_reducible apply Wf.sI | with_reducible apply Wf.sL | with_reducible apply Wf.cpI | with_reducible apply Wf.cpL | with_reducible apply Wf.cp2 | with_reducible apply Wf.sIs | with_reducible apply Wf.sLs | with_reducible apply Wf.cpU | with_reducible apply Wf.fillI | with_reducible apply Wf.clU | with_reducible apply Wf.dnF | with_reducible apply Wf.gbW)) hv hq hi) rfl dX10_passenger_2 yk_X10_requirePassenger im_X10_requirePassenger se_X10_requirePassenger ml_X10_256 rfl (co_0 (by repeat (first | with_reducible exact hw | with_reducible exact hwc | with_reducible assumption | with_reducible apply Wf.sI | with_reducible apply Wf.sL | with_reducible apply Wf.cpI | with_reducible apply Wf.cpL | with_reducible apply Wf.cp2 | with_reducible apply Wf.sIs | with_reducible apply Wf.sLs | with_reducible apply Wf.cpU | with_reducible apply Wf.fillI | with_reducible apply Wf.clU | with_reducible apply Wf.dnF | with_reducible apply Wf.gbW))) (by decide) hc_X10 (by decide) (by decide) (Nat.le_of_ble_eq_true rfl)) ?_
  refine lf (a_iload_n dX10_passenger_5 rfl) ?_
  refine lf (a_tsIn (tgt := 74) dX10_passenger_6 (by decide) (by decide) rfl (by decide)) ?_
  refine lf (a_aload_n dX10_passenger_74 rfl) ?_
  refine lf (a_getR (cr_0_7 (by repeat (first | with_reducible exact hw | with_reducible exact hwc | with_reducible assumption | with_reducible apply Wf.sI | with_reducible apply Wf.sL | with_reducible apply Wf.cpI | with_reducible apply Wf.cpL | with_reducible apply Wf.cp2 | with_reducible apply Wf.sIs | with_reducible apply Wf.sLs | with_reducible apply Wf.cpU | with_reducible apply Wf.fillI | with_reducible apply Wf.clU | with_reducible apply Wf.dnF | with_reducible apply Wf.gbW))) dX10_passenger_75 fs_X10_28 rfl (co_0 (by repeat (first | with_reducible exact hw | with_reducible exact hwc | with_reducible assumption | with_reducible apply Wf.sI | with_reducible apply Wf.sL | with_reducible apply Wf.cpI | with_reducible apply Wf.cpL | with_reducible apply Wf.cp2 | with_reducible apply Wf.sIs | with_reducible apply Wf.sLs | with_reducible apply Wf.cpU | with_reducible apply Wf.fillI | with_reducible apply Wf.clU | with_reducible apply Wf.dnF | with_reducible apply Wf.gbW)))) ?_
  refine lf (a_inv (b2 := (0, 0)) (v_X1_phase (by repeat (first | with_reducible exact hw | with_reducible exact hwc | with_reducible assumption | with_reducible apply Wf.sI | with_reducible apply Wf.sL | with_reducible apply Wf.cpI | with_reducible apply Wf.cpL | with_reducible apply Wf.cp2 | with_reducible apply Wf.sIs | with_reducible apply Wf.sLs | with_reducible apply Wf.cpU | with_reducible apply Wf.fillI | with_reducible apply Wf.clU | with_reducible apply Wf.dnF | with_reducible apply Wf.gbW)) hv hq) rfl dX10_passenger_78 yk_X1_phase im_X1_phase se_X1_phase ml_X10_135 rfl (fl_o (by repeat (first | with_reducible exact hw | with_reducible exact hwc | with_reducible assumption | with_reducible apply Wf.sI | with_reducible apply Wf.sL | with_reducible apply Wf.cpI | with_reducible apply Wf.cpL | with_reducible apply Wf.cp2 | with_reducible apply Wf.sIs | with_reducible apply Wf.sLs | with_reducible apply Wf.cpU | with_reducible apply Wf.fillI | with_reducible apply Wf.clU | with_reducible apply Wf.dnF | with_reducible apply Wf.gbW)) fl_now) (by decide) hc_X1 (by decide) (by decide) (Nat.le_of_ble_eq_true rfl)) ?_
  refine lf (a_iconst (3 : Int32) dX10_passenger_81 (by decide)) ?_
  refine lfn (a_icmp_ne (tgt := 97) dX10_passenger_82 (by decide)) (fun h82 => ?_) (fun h82 => ?_)
  · refine lf (a_iconst (-1 : Int32) dX10_passenger_97 (by decide)) ?_
    refine ⟨_, _, (a_ireturn dX10_passenger_98 rfl rfl), ?_⟩
    first
    | exact ⟨_, rfl, by rw [show pgV q d i 3 = if phD q d = 3 then oI ((svR q d).1 i) else -1 from rfl, if_pos h82], AskQ.svc hF h17 hok⟩
    | exact ⟨_, rfl, by rw [show pgV q d i 3 = if phD q d = 3 then oI ((svR q d).1 i) else -1 from rfl, if_neg h82], AskQ.rfl' hw hs⟩
  · refine lf (a_aload_n dX10_passenger_85 rfl) ?_
    obtain ⟨v_, W86, k86, rfl, hF, h17, hok⟩ := (c_freshService hw hv hq hq1 hd hs)
    have hwc := hF.1.1
    refine lf (a_inv (b2 := (0, 0)) k86 rfl dX10_passenger_86 yk_X10_freshService im_X10_freshService se_X10_freshService ml_X10_243 rfl (co_0 (by repeat (first | with_reducible exact hw | with_reducible exact hwc | with_reducible assumption | with_reducible apply Wf.sI | with_reducible apply Wf.sL | with_reducible apply Wf.cpI | with_reducible apply Wf.cpL | with_reducible apply Wf.cp2 | with_reducible apply Wf.sIs | with_reducible apply Wf.sLs | with_reducible apply Wf.cpU | with_reducible apply Wf.fillI | with_reducible apply Wf.clU | with_reducible apply Wf.dnF | with_reducible apply Wf.gbW))) (by decide) hc_X10 (by decide) (by decide) (Nat.le_of_ble_eq_true rfl)) ?_
    refine lf (a_getR (cr_334_0 (by repeat (first | with_reducible exact hw | with_reducible exact hwc | with_reducible assumption | with_reducible apply Wf.sI | with_reducible apply Wf.sL | with_reducible apply Wf.cpI | with_reducible apply Wf.cpL | with_reducible apply Wf.cp2 | with_reducible apply Wf.sIs | with_reducible apply Wf.sLs | with_reducible apply Wf.cpU | with_reducible apply Wf.fillI | with_reducible apply Wf.clU | with_reducible apply Wf.dnF | with_reducible apply Wf.gbW))) dX10_passenger_89 fs_X10_268 rfl (co_334 (by repeat (first | with_reducible exact hw | with_reducible exact hwc | with_reducible assumption | with_reducible apply Wf.sI | with_reducible apply Wf.sL | with_reducible apply Wf.cpI | with_reducible apply Wf.cpL | with_reducible apply Wf.cp2 | with_reducible apply Wf.sIs | with_reducible apply Wf.sLs | with_reducible apply Wf.cpU | with_reducible apply Wf.fillI | with_reducible apply Wf.clU | with_reducible apply Wf.dnF | with_reducible apply Wf.gbW)))) ?_
    refine lf (a_iload_n dX10_passenger_92 rfl) ?_
    refine lf (a_ild dX10_passenger_93 (ca_335 (by repeat (first | with_reducible exact hw | with_reducible exact hwc | with_reducible assumption | with_reducible apply Wf.sI | with_reducible apply Wf.sL | with_reducible apply Wf.cpI | with_reducible apply Wf.cpL | with_reducible apply Wf.cp2 | with_reducible apply Wf.sIs | with_reducible apply Wf.sLs | with_reducible apply Wf.cpU | with_reducible apply Wf.fillI | with_reducible apply Wf.clU | with_reducible apply Wf.dnF | with_reducible apply Wf.gbW))) (ixn (show i < 40 by omega) (by decide))) ?_
    rw [hok.got hq.M4 (WiD.of hd) hi]
    refine lf (a_goto (tgt := 98) dX10_passenger_94 (by decide)) ?_
    refine ⟨_, _, (a_ireturn dX10_passenger_98 rfl rfl), ?_⟩
    first
    | exact ⟨_, rfl, by rw [show pgV q d i 3 = if phD q d = 3 then oI ((svR q d).1 i) else -1 from rfl, if_pos h82], AskQ.svc hF h17 hok⟩
    | exact ⟨_, rfl, by rw [show pgV q d i 3 = if phD q d = 3 then oI ((svR q d).1 i) else -1 from rfl, if_neg h82], AskQ.rfl' hw hs⟩
theorem c_passenger_4 (hw : Wf μ) (hv : FV μ 24 p d) (hq : PV μ p q) (hq1 : GdP q) (hd : GdD q d) (hs : SvA μ q d) {i : Nat} (hi : i < dP d) : CV Y_X10_passenger R_X10_passenger [.ref 0, .int (nI i), .int (nI 4)] μ (fun v V => v = some (.int (pgV q d i 4)) ∧ AskQ μ q d V) := by
  refine CV.ent yk_X10_passenger (Nat.le_of_ble_eq_true rfl) ?_
  have hC4 := hq.C4
  have hM4 := hq.M4
  have hT4 := hq.T4
  have hP4 := hv.P4
  have hU4 := hv.U4
  refine lf (a_aload_n dX10_passenger_0 rfl) ?_
  refine lf (a_iload_n dX10_passenger_1 rfl) ?_
  refine lf (a_inv (b2 := (0, 0)) (c_requirePassenger (by repeat (first | with_reducible exact hw | with_reducible exact hwc | with_reducible assumption | with_reducible apply Wf.sI | with_reducible apply Wf.sL | with_reducible apply Wf.cpI | with_reducible apply Wf.cpL | with_reducible apply Wf.cp2 | with_reducible apply Wf.sIs | with_reducible apply Wf.sLs | with_reducible apply Wf.cpU | with_reducible apply Wf.fillI | with_reducible apply Wf.clU | with_reducible apply Wf.dnF | with_reducible apply Wf.gbW)) hv hq hi) rfl dX10_passenger_2 yk_X10_requirePassenger im_X10_requirePassenger se_X10_requirePassenger ml_X10_256 rfl (co_0 (by repeat (first | with_reducible exact hw | with_reducible exact hwc | with_reducible assumption | with_reducible apply Wf.sI | with_reducible apply Wf.sL | with_reducible apply Wf.cpI | with_reducible apply Wf.cpL | with_reducible apply Wf.cp2 | with_reducible apply Wf.sIs | with_reducible apply Wf.sLs | with_reducible apply Wf.cpU | with_reducible apply Wf.fillI | with_reducible apply Wf.clU | with_reducible apply Wf.dnF | with_reducible apply Wf.gbW))) (by decide) hc_X10 (by decide) (by decide) (Nat.le_of_ble_eq_true rfl)) ?_
  refine lf (a_iload_n dX10_passenger_5 rfl) ?_
  refine lf (a_tsIn (tgt := 99) dX10_passenger_6 (by decide) (by decide) rfl (by decide)) ?_
  refine lf (a_aload_n dX10_passenger_99 rfl) ?_
  refine lf (a_getR (cr_0_7 (by repeat (first | with_reducible exact hw | with_reducible exact hwc | with_reducible assumption | with_reducible apply Wf.sI | with_reducible apply Wf.sL | with_reducible apply Wf.cpI | with_reducible apply Wf.cpL | with_reducible apply Wf.cp2 | with_reducible apply Wf.sIs | with_reducible apply Wf.sLs | with_reducible apply Wf.cpU | with_reducible apply Wf.fillI | with_reducible apply Wf.clU | with_reducible apply Wf.dnF | with_reducible apply Wf.gbW))) dX10_passenger_100 fs_X10_28 rfl (co_0 (by repeat (first | with_reducible exact hw | with_reducible exact hwc | with_reducible assumption | with_reducible apply Wf.sI | with_reducible apply Wf.sL | with_reducible apply Wf.cpI | with_reducible apply Wf.cpL | with_reducible apply Wf.cp2 | with_reducible apply Wf.sIs | with_reducible apply Wf.sLs | with_reducible apply Wf.cpU | with_reducible apply Wf.fillI | with_reducible apply Wf.clU | with_reducible apply Wf.dnF | with_reducible apply Wf.gbW)))) ?_
  refine lf (a_iload_n dX10_passenger_103 rfl) ?_
  refine lf (a_inv (b2 := (0, 0)) (v_X1_suiting (by repeat (first | with_reducible exact hw | with_reducible exact hwc | with_reducible assumption | with_reducible apply Wf.sI | with_reducible apply Wf.sL | with_reducible apply Wf.cpI | with_reducible apply Wf.cpL | with_reducible apply Wf.cp2 | with_reducible apply Wf.sIs | with_reducible apply Wf.sLs | with_reducible apply Wf.cpU | with_reducible apply Wf.fillI | with_reducible apply Wf.clU | with_reducible apply Wf.dnF | with_reducible apply Wf.gbW)) hv hq hi) rfl dX10_passenger_104 yk_X1_suiting im_X1_suiting se_X1_suiting ml_X10_271 rfl (fl_o (by repeat (first | with_reducible exact hw | with_reducible exact hwc | with_reducible assumption | with_reducible apply Wf.sI | with_reducible apply Wf.sL | with_reducible apply Wf.cpI | with_reducible apply Wf.cpL | with_reducible apply Wf.cp2 | with_reducible apply Wf.sIs | with_reducible apply Wf.sLs | with_reducible apply Wf.cpU | with_reducible apply Wf.fillI | with_reducible apply Wf.clU | with_reducible apply Wf.dnF | with_reducible apply Wf.gbW)) fl_now) (by decide) hc_X1 (by decide) (by decide) (Nat.le_of_ble_eq_true rfl)) ?_
  refine ⟨_, _, (a_ireturn dX10_passenger_107 rfl rfl), ?_⟩
  exact ⟨_, rfl, rfl, AskQ.rfl' hw hs⟩
theorem c_passenger_5 (hw : Wf μ) (hv : FV μ 24 p d) (hq : PV μ p q) (hq1 : GdP q) (hd : GdD q d) (hs : SvA μ q d) {i : Nat} (hi : i < dP d) : CV Y_X10_passenger R_X10_passenger [.ref 0, .int (nI i), .int (nI 5)] μ (fun v V => v = some (.int (pgV q d i 5)) ∧ AskQ μ q d V) := by
  refine CV.ent yk_X10_passenger (Nat.le_of_ble_eq_true rfl) ?_
  have hC4 := hq.C4
  have hM4 := hq.M4
  have hT4 := hq.T4
  have hP4 := hv.P4
  have hU4 := hv.U4
  refine lf (a_aload_n dX10_passenger_0 rfl) ?_
  refine lf (a_iload_n dX10_passenger_1 rfl) ?_
  refine lf (a_inv (b2 := (0, 0)) (c_requirePassenger (by repeat (first | with_reducible exact hw | with_reducible exact hwc | with_reducible assumption | with_reducible apply Wf.sI | with_reducible apply Wf.sL | with_reducible apply Wf.cpI | with_reducible apply Wf.cpL | with_reducible apply Wf.cp2 | with_reducible apply Wf.sIs | with_reducible apply Wf.sLs | with_reducible apply Wf.cpU | with_reducible apply Wf.fillI | with_reducible apply Wf.clU | with_reducible apply Wf.dnF | with_reducible apply Wf.gbW)) hv hq hi) rfl dX10_passenger_2 yk_X10_requirePassenger im_X10_requirePassenger se_X10_requirePassenger ml_X10_256 rfl (co_0 (by repeat (first | with_reducible exact hw | with_reducible exact hwc | with_reducible assumption | with_reducible apply Wf.sI | with_reducible apply Wf.sL | with_reducible apply Wf.cpI | with_reducible apply Wf.cpL | with_reducible apply Wf.cp2 | with_reducible apply Wf.sIs | with_reducible apply Wf.sLs | with_reducible apply Wf.cpU | with_reducible apply Wf.fillI | with_reducible apply Wf.clU | with_reducible apply Wf.dnF | with_reducible apply Wf.gbW))) (by decide) hc_X10 (by decide) (by decide) (Nat.le_of_ble_eq_true rfl)) ?_
  refine lf (a_iload_n dX10_passenger_5 rfl) ?_
  refine lf (a_tsIn (tgt := 108) dX10_passenger_6 (by decide) (by decide) rfl (by decide)) ?_
  refine lf (a_aload_n dX10_passenger_108 rfl) ?_
  refine lf (a_getR (cr_0_7 (by repeat (first | with_reducible exact hw | with_reducible exact hwc | with_reducible assumption | with_reducible apply Wf.sI | with_reducible apply Wf.sL | with_reducible apply Wf.cpI | with_reducible apply Wf.cpL | with_reducible apply Wf.cp2 | with_reducible apply Wf.sIs | with_reducible apply Wf.sLs | with_reducible apply Wf.cpU | with_reducible apply Wf.fillI | with_reducible apply Wf.clU | with_reducible apply Wf.dnF | with_reducible apply Wf.gbW))) dX10_passenger_109 fs_X10_28 rfl (co_0 (by repeat (first | with_reducible exact hw | with_reducible exact hwc | with_reducible assumption | with_reducible apply Wf.sI | with_reducible apply Wf.sL | with_reducible apply Wf.cpI | with_reducible apply Wf.cpL | with_reducible apply Wf.cp2 | with_reducible apply Wf.sIs | with_reducible apply Wf.sLs | with_reducible apply Wf.cpU | with_reducible apply Wf.fillI | with_reducible apply Wf.clU | with_reducible apply Wf.dnF | with_reducible apply Wf.gbW)))) ?_
  refine lf (a_iload_n dX10_passenger_112 rfl) ?_
  refine lf (a_inv (b2 := (0, 0)) (v_X1_cheapestFor (by repeat (first | with_reducible exact hw | with_reducible exact hwc | with_reducible assumption | with_reducible apply Wf.sI | with_reducible apply Wf.sL | with_reducible apply Wf.cpI | with_reducible apply Wf.cpL | with_reducible apply Wf.cp2 | with_reducible apply Wf.sIs | with_reducible apply Wf.sLs | with_reducible apply Wf.cpU | with_reducible apply Wf.fillI | with_reducible apply Wf.clU | with_reducible apply Wf.dnF | with_reducible apply Wf.gbW)) hv hq hi) rfl dX10_passenger_113 yk_X1_cheapestFor im_X1_cheapestFor se_X1_cheapestFor ml_X10_274 rfl (fl_o (by repeat (first | with_reducible exact hw | with_reducible exact hwc | with_reducible assumption | with_reducible apply Wf.sI | with_reducible apply Wf.sL | with_reducible apply Wf.cpI | with_reducible apply Wf.cpL | with_reducible apply Wf.cp2 | with_reducible apply Wf.sIs | with_reducible apply Wf.sLs | with_reducible apply Wf.cpU | with_reducible apply Wf.fillI | with_reducible apply Wf.clU | with_reducible apply Wf.dnF | with_reducible apply Wf.gbW)) fl_now) (by decide) hc_X1 (by decide) (by decide) (Nat.le_of_ble_eq_true rfl)) ?_
  refine ⟨_, _, (a_ireturn dX10_passenger_116 rfl rfl), ?_⟩
  exact ⟨_, rfl, rfl, AskQ.rfl' hw hs⟩
theorem c_passenger (hw : Wf μ) (hv : FV μ 24 p d) (hq : PV μ p q) (hq1 : GdP q) (hd : GdD q d) (hs : SvA μ q d) {i : Nat} (hi : i < dP d) {k : Nat} (hk : k < 6) : CV Y_X10_passenger R_X10_passenger [.ref 0, .int (nI i), .int (nI k)] μ (fun v V => v = some (.int (pgV q d i k)) ∧ AskQ μ q d V) := by
  rcases (by omega : k = 0 ∨ k = 1 ∨ k = 2 ∨ k = 3 ∨ k = 4 ∨ k = 5) with rfl | rfl | rfl | rfl | rfl | rfl
  · exact c_passenger_0 hw hv hq hq1 hd hs hi
  · exact c_passenger_1 hw hv hq hq1 hd hs hi
  · exact c_passenger_2 hw hv hq hq1 hd hs hi
  · exact c_passenger_3 hw hv hq hq1 hd hs hi
  · exact c_passenger_4 hw hv hq hq1 hd hs hi
  · exact c_passenger_5 hw hv hq hq1 hd hs hi

theorem cx_passenger (hw : Wf μ) (hv : FV μ 24 p d) (hq : PV μ p q) {x y : Int32} (h : ixO x (dP d) = none) : Ct Y_X10_passenger RX_X10_passenger [.ref 0, .int x, .int y] μ (.inr NSE) μ := by
  have hC4 := hq.C4
  have hM4 := hq.M4
  have hT4 := hq.T4
  have hP4 := hv.P4
  have hU4 := hv.U4
  refine Ct.ent yk_X10_passenger (Nat.le_of_ble_eq_true rfl) ?_
  refine a_aload_n dX10_passenger_0 rfl ?_
  refine a_iload_n dX10_passenger_1 rfl ?_
  exact a_out rfl rfl (a_invX (cx_requirePassenger hw hv hq h) rfl dX10_passenger_2 yk_X10_requirePassenger im_X10_requirePassenger se_X10_requirePassenger ml_X10_256 rfl (co_0 hw) (by decide) hc_X10 (by decide) (by decide) (Nat.le_of_ble_eq_true rfl) rfl)

theorem cy_passenger (hw : Wf μ) (hv : FV μ 24 p d) (hq : PV μ p q)  {i : Nat} (hi : i < dP d) {y : Int32} (h : ixO y 6 = none) : Ct Y_X10_passenger RX_X10_passenger [.ref 0, .int (nI i), .int y] μ (.inr IAE) μ := by
  have hC4 := hq.C4
  have hM4 := hq.M4
  have hT4 := hq.T4
  have hP4 := hv.P4
  have hU4 := hv.U4
  have g2 := ix_out h
  refine Ct.ent yk_X10_passenger (Nat.le_of_ble_eq_true rfl) ?_
  refine a_aload_n dX10_passenger_0 rfl ?_
  refine a_iload_n dX10_passenger_1 rfl ?_
  refine a_inv (b2 := (1, 6)) (c_requirePassenger hw hv hq hi) rfl dX10_passenger_2 yk_X10_requirePassenger im_X10_requirePassenger se_X10_requirePassenger ml_X10_256 rfl (co_0 hw) (by decide) hc_X10 (by decide) (by decide) (Nat.le_of_ble_eq_true rfl) ?_
  refine a_iload_n dX10_passenger_5 rfl ?_
  refine a_tsOut (tgt := 117) dX10_passenger_6 (by omega) (by decide) ?_
  exact a_throwSW (n := 20) (tx := "nothing such of a passenger") (by decide) (by decide) xw_IAE rfl rfl dX10_passenger_117 dX10_passenger_120 dX10_passenger_121 dX10_passenger_124 dX10_passenger_127 (by decide) (by decide) (by decide) (by decide) (by decide)
abbrev R_X10_trolley : Room := { frames := 8, cells := 0, slots := 0, locals := 161 }
abbrev RX_X10_trolley : Room := { frames := 8, cells := 1, slots := 6, locals := 161 }

theorem c_trolley_0 (hw : Wf μ) (hv : FV μ 24 p d) (hq : PV μ p q) (hq1 : GdP q) (hd : GdD q d) (hs : SvA μ q d) {t : Nat} (ht : t < pT q) : CV Y_X10_trolley R_X10_trolley [.ref 0, .int (nI t), .int (nI 0)] μ (fun v V => v = some (.int (tyV q d t 0)) ∧ AskQ μ q d V) := by
  refine CV.ent yk_X10_trolley (Nat.le_of_ble_eq_true rfl) ?_
  have hC4 := hq.C4
  have hM4 := hq.M4
  have hT4 := hq.T4
  have hP4 := hv.P4
  have hU4 := hv.U4
  refine lf (a_aload_n dX10_trolley_0 rfl) ?_
  refine lf (a_iload_n dX10_trolley_1 rfl) ?_
  refine lf (a_inv (b2 := (0, 0)) (c_requireTrolley (by repeat (first | with_reducible exact hw | with_reducible exact hwc | with_reducible assumption | with_reducible apply Wf.sI | with_reducible apply Wf.sL | with_reducible apply Wf.cpI | with_reducible apply Wf.cpL | with_reducible apply Wf.cp2 | with_reducible apply Wf.sIs | with_reducible apply Wf.sLs | with_reducible apply Wf.cpU | with_reducible apply Wf.fillI | with_reducible apply Wf.clU | with_reducible apply Wf.dnF | with_reducible apply Wf.gbW)) hv hq ht) rfl dX10_trolley_2 yk_X10_requireTrolley im_X10_requireTrolley se_X10_requireTrolley ml_X10_279 rfl (co_0 (by repeat (first | with_reducible exact hw | with_reducible exact hwc | with_reducible assumption | with_reducible apply Wf.sI | with_reducible apply Wf.sL | with_reducible apply Wf.cpI | with_reducible apply Wf.cpL | with_reducible apply Wf.cp2 | with_reducible apply Wf.sIs | with_reducible apply Wf.sLs | with_reducible apply Wf.cpU | with_reducible apply Wf.fillI | with_reducible apply Wf.clU | with_reducible apply Wf.dnF | with_reducible apply Wf.gbW))) (by decide) hc_X10 (by decide) (by decide) (Nat.le_of_ble_eq_true rfl)) ?_
  refine lf (a_iload_n dX10_trolley_5 rfl) ?_
  refine lf (a_tsIn (tgt := 36) dX10_trolley_6 (by decide) (by decide) rfl (by decide)) ?_
  refine lf (a_aload_n dX10_trolley_36 rfl) ?_
  refine lf (a_getR (cr_0_7 (by repeat (first | with_reducible exact hw | with_reducible exact hwc | with_reducible assumption | with_reducible apply Wf.sI | with_reducible apply Wf.sL | with_reducible apply Wf.cpI | with_reducible apply Wf.cpL | with_reducible apply Wf.cp2 | with_reducible apply Wf.sIs | with_reducible apply Wf.sLs | with_reducible apply Wf.cpU | with_reducible apply Wf.fillI | with_reducible apply Wf.clU | with_reducible apply Wf.dnF | with_reducible apply Wf.gbW))) dX10_trolley_37 fs_X10_28 rfl (co_0 (by repeat (first | with_reducible exact hw | with_reducible exact hwc | with_reducible assumption | with_reducible apply Wf.sI | with_reducible apply Wf.sL | with_reducible apply Wf.cpI | with_reducible apply Wf.cpL | with_reducible apply Wf.cp2 | with_reducible apply Wf.sIs | with_reducible apply Wf.sLs | with_reducible apply Wf.cpU | with_reducible apply Wf.fillI | with_reducible apply Wf.clU | with_reducible apply Wf.dnF | with_reducible apply Wf.gbW)))) ?_
  refine lf (a_getR hv.rp dX10_trolley_40 fs_X10_116 rfl (fl_o (by repeat (first | with_reducible exact hw | with_reducible exact hwc | with_reducible assumption | with_reducible apply Wf.sI | with_reducible apply Wf.sL | with_reducible apply Wf.cpI | with_reducible apply Wf.cpL | with_reducible apply Wf.cp2 | with_reducible apply Wf.sIs | with_reducible apply Wf.sLs | with_reducible apply Wf.cpU | with_reducible apply Wf.fillI | with_reducible apply Wf.clU | with_reducible apply Wf.dnF | with_reducible apply Wf.gbW)) fl_now)) ?_
  refine lf (a_getR (pl_r6 (by repeat (first | with_reducible exact hw | with_reducible exact hwc | with_reducible assumption | with_reducible apply Wf.sI | with_reducible apply Wf.sL | with_reducible apply Wf.cpI | with_reducible apply Wf.cpL | with_reducible apply Wf.cp2 | with_reducible apply Wf.sIs | with_reducible apply Wf.sLs | with_reducible apply Wf.cpU | with_reducible apply Wf.fillI | with_reducible apply Wf.clU | with_reducible apply Wf.dnF | with_reducible apply Wf.gbW)) hq.pl) dX10_trolley_43 fs_X10_282 rfl (pl_o (by repeat (first | with_reducible exact hw | with_reducible exact hwc | with_reducible assumption | with_reducible apply Wf.sI | with_reducible apply Wf.sL | with_reducible apply Wf.cpI | with_reducible apply Wf.cpL | with_reducible apply Wf.cp2 | with_reducible apply Wf.sIs | with_reducible apply Wf.sLs | with_reducible apply Wf.cpU | with_reducible apply Wf.fillI | with_reducible apply Wf.clU | with_reducible apply Wf.dnF | with_reducible apply Wf.gbW)) hq.pl)) ?_
  refine lf (a_iload_n dX10_trolley_46 rfl) ?_
  refine lf (a_ild dX10_trolley_47 (pl_a19 (by repeat (first | with_reducible exact hw | with_reducible exact hwc | with_reducible assumption | with_reducible apply Wf.sI | with_reducible apply Wf.sL | with_reducible apply Wf.cpI | with_reducible apply Wf.cpL | with_reducible apply Wf.cp2 | with_reducible apply Wf.sIs | with_reducible apply Wf.sLs | with_reducible apply Wf.cpU | with_reducible apply Wf.fillI | with_reducible apply Wf.clU | with_reducible apply Wf.dnF | with_reducible apply Wf.gbW)) hq.pl) (ixn (show t < 8 by omega) (by decide))) ?_
  rw [hq.tc ht]
  refine ⟨_, _, (a_ireturn dX10_trolley_48 rfl rfl), ?_⟩
  exact ⟨_, rfl, rfl, AskQ.rfl' hw hs⟩
theorem c_trolley_1 (hw : Wf μ) (hv : FV μ 24 p d) (hq : PV μ p q) (hq1 : GdP q) (hd : GdD q d) (hs : SvA μ q d) {t : Nat} (ht : t < pT q) : CV Y_X10_trolley R_X10_trolley [.ref 0, .int (nI t), .int (nI 1)] μ (fun v V => v = some (.int (tyV q d t 1)) ∧ AskQ μ q d V) := by
  refine CV.ent yk_X10_trolley (Nat.le_of_ble_eq_true rfl) ?_
  have hC4 := hq.C4
  have hM4 := hq.M4
  have hT4 := hq.T4
  have hP4 := hv.P4
  have hU4 := hv.U4
  refine lf (a_aload_n dX10_trolley_0 rfl) ?_
  refine lf (a_iload_n dX10_trolley_1 rfl) ?_
  refine lf (a_inv (b2 := (0, 0)) (c_requireTrolley (by repeat (first | with_reducible exact hw | with_reducible exact hwc | with_reducible assumption | with_reducible apply Wf.sI | with_reducible apply Wf.sL | with_reducible apply Wf.cpI | with_reducible apply Wf.cpL | with_reducible apply Wf.cp2 | with_reducible apply Wf.sIs | with_reducible apply Wf.sLs | with_reducible apply Wf.cpU | with_reducible apply Wf.fillI | with_reducible apply Wf.clU | with_reducible apply Wf.dnF | with_reducible apply Wf.gbW)) hv hq ht) rfl dX10_trolley_2 yk_X10_requireTrolley im_X10_requireTrolley se_X10_requireTrolley ml_X10_279 rfl (co_0 (by repeat (first | with_reducible exact hw | with_reducible exact hwc | with_reducible assumption | with_reducible apply Wf.sI | with_reducible apply Wf.sL | with_reducible apply Wf.cpI | with_reducible apply Wf.cpL | with_reducible apply Wf.cp2 | with_reducible apply Wf.sIs | with_reducible apply Wf.sLs | with_reducible apply Wf.cpU | with_reducible apply Wf.fillI | with_reducible apply Wf.clU | with_reducible apply Wf.dnF | with_reducible apply Wf.gbW))) (by decide) hc_X10 (by decide) (by decide) (Nat.le_of_ble_eq_true rfl)) ?_
  refine lf (a_iload_n dX10_trolley_5 rfl) ?_
  refine lf (a_tsIn (tgt := 49) dX10_trolley_6 (by decide) (by decide) rfl (by decide)) ?_
  refine lf (a_aload_n dX10_trolley_49 rfl) ?_
  refine lf (a_getR (cr_0_7 (by repeat (first | with_reducible exact hw | with_reducible exact hwc | with_reducible assumption | with_reducible apply Wf.sI | with_reducible apply Wf.sL | with_reducible apply Wf.cpI | with_reducible apply Wf.cpL | with_reducible apply Wf.cp2 | with_reducible apply Wf.sIs | with_reducible apply Wf.sLs | with_reducible apply Wf.cpU | with_reducible apply Wf.fillI | with_reducible apply Wf.clU | with_reducible apply Wf.dnF | with_reducible apply Wf.gbW))) dX10_trolley_50 fs_X10_28 rfl (co_0 (by repeat (first | with_reducible exact hw | with_reducible exact hwc | with_reducible assumption | with_reducible apply Wf.sI | with_reducible apply Wf.sL | with_reducible apply Wf.cpI | with_reducible apply Wf.cpL | with_reducible apply Wf.cp2 | with_reducible apply Wf.sIs | with_reducible apply Wf.sLs | with_reducible apply Wf.cpU | with_reducible apply Wf.fillI | with_reducible apply Wf.clU | with_reducible apply Wf.dnF | with_reducible apply Wf.gbW)))) ?_
  refine lf (a_getR hv.rp dX10_trolley_53 fs_X10_116 rfl (fl_o (by repeat (first | with_reducible exact hw | with_reducible exact hwc | with_reducible assumption | with_reducible apply Wf.sI | with_reducible apply Wf.sL | with_reducible apply Wf.cpI | with_reducible apply Wf.cpL | with_reducible apply Wf.cp2 | with_reducible apply Wf.sIs | with_reducible apply Wf.sLs | with_reducible apply Wf.cpU | with_reducible apply Wf.fillI | with_reducible apply Wf.clU | with_reducible apply Wf.dnF | with_reducible apply Wf.gbW)) fl_now)) ?_
  refine lf (a_getR (pl_r7 (by repeat (first | with_reducible exact hw | with_reducible exact hwc | with_reducible assumption | with_reducible apply Wf.sI | with_reducible apply Wf.sL | with_reducible apply Wf.cpI | with_reducible apply Wf.cpL | with_reducible apply Wf.cp2 | with_reducible apply Wf.sIs | with_reducible apply Wf.sLs | with_reducible apply Wf.cpU | with_reducible apply Wf.fillI | with_reducible apply Wf.clU | with_reducible apply Wf.dnF | with_reducible apply Wf.gbW)) hq.pl) dX10_trolley_56 fs_X10_285 rfl (pl_o (by repeat (first | with_reducible exact hw | with_reducible exact hwc | with_reducible assumption | with_reducible apply Wf.sI | with_reducible apply Wf.sL | with_reducible apply Wf.cpI | with_reducible apply Wf.cpL | with_reducible apply Wf.cp2 | with_reducible apply Wf.sIs | with_reducible apply Wf.sLs | with_reducible apply Wf.cpU | with_reducible apply Wf.fillI | with_reducible apply Wf.clU | with_reducible apply Wf.dnF | with_reducible apply Wf.gbW)) hq.pl)) ?_
  refine lf (a_iload_n dX10_trolley_59 rfl) ?_
  refine lf (a_ild dX10_trolley_60 (pl_a20 (by repeat (first | with_reducible exact hw | with_reducible exact hwc | with_reducible assumption | with_reducible apply Wf.sI | with_reducible apply Wf.sL | with_reducible apply Wf.cpI | with_reducible apply Wf.cpL | with_reducible apply Wf.cp2 | with_reducible apply Wf.sIs | with_reducible apply Wf.sLs | with_reducible apply Wf.cpU | with_reducible apply Wf.fillI | with_reducible apply Wf.clU | with_reducible apply Wf.dnF | with_reducible apply Wf.gbW)) hq.pl) (ixn (show t < 8 by omega) (by decide))) ?_
  rw [hq.ts ht]
  refine ⟨_, _, (a_ireturn dX10_trolley_61 rfl rfl), ?_⟩
  exact ⟨_, rfl, rfl, AskQ.rfl' hw hs⟩
theorem c_trolley_2 (hw : Wf μ) (hv : FV μ 24 p d) (hq : PV μ p q) (hq1 : GdP q) (hd : GdD q d) (hs : SvA μ q d) {t : Nat} (ht : t < pT q) : CV Y_X10_trolley R_X10_trolley [.ref 0, .int (nI t), .int (nI 2)] μ (fun v V => v = some (.int (tyV q d t 2)) ∧ AskQ μ q d V) := by
  refine CV.ent yk_X10_trolley (Nat.le_of_ble_eq_true rfl) ?_
  have hC4 := hq.C4
  have hM4 := hq.M4
  have hT4 := hq.T4
  have hP4 := hv.P4
  have hU4 := hv.U4
  refine lf (a_aload_n dX10_trolley_0 rfl) ?_
  refine lf (a_iload_n dX10_trolley_1 rfl) ?_
  refine lf (a_inv (b2 := (0, 0)) (c_requireTrolley (by repeat (first | with_reducible exact hw | with_reducible exact hwc | with_reducible assumption | with_reducible apply Wf.sI | with_reducible apply Wf.sL | with_reducible apply Wf.cpI | with_reducible apply Wf.cpL | with_reducible apply Wf.cp2 | with_reducible apply Wf.sIs | with_reducible apply Wf.sLs | with_reducible apply Wf.cpU | with_reducible apply Wf.fillI | with_reducible apply Wf.clU | with_reducible apply Wf.dnF | with_reducible apply Wf.gbW)) hv hq ht) rfl dX10_trolley_2 yk_X10_requireTrolley im_X10_requireTrolley se_X10_requireTrolley ml_X10_279 rfl (co_0 (by repeat (first | with_reducible exact hw | with_reducible exact hwc | with_reducible assumption | with_reducible apply Wf.sI | with_reducible apply Wf.sL | with_reducible apply Wf.cpI | with_reducible apply Wf.cpL | with_reducible apply Wf.cp2 | with_reducible apply Wf.sIs | with_reducible apply Wf.sLs | with_reducible apply Wf.cpU | with_reducible apply Wf.fillI | with_reducible apply Wf.clU | with_reducible apply Wf.dnF | with_reducible apply Wf.gbW))) (by decide) hc_X10 (by decide) (by decide) (Nat.le_of_ble_eq_true rfl)) ?_
  refine lf (a_iload_n dX10_trolley_5 rfl) ?_
  refine lf (a_tsIn (tgt := 62) dX10_trolley_6 (by decide) (by decide) rfl (by decide)) ?_
  refine lf (a_aload_n dX10_trolley_62 rfl) ?_
  refine lf (a_getR (cr_0_7 (by repeat (first | with_reducible exact hw | with_reducible exact hwc | with_reducible assumption | with_reducible apply Wf.sI | with_reducible apply Wf.sL | with_reducible apply Wf.cpI | with_reducible apply Wf.cpL | with_reducible apply Wf.cp2 | with_reducible apply Wf.sIs | with_reducible apply Wf.sLs | with_reducible apply Wf.cpU | with_reducible apply Wf.fillI | with_reducible apply Wf.clU | with_reducible apply Wf.dnF | with_reducible apply Wf.gbW))) dX10_trolley_63 fs_X10_28 rfl (co_0 (by repeat (first | with_reducible exact hw | with_reducible exact hwc | with_reducible assumption | with_reducible apply Wf.sI | with_reducible apply Wf.sL | with_reducible apply Wf.cpI | with_reducible apply Wf.cpL | with_reducible apply Wf.cp2 | with_reducible apply Wf.sIs | with_reducible apply Wf.sLs | with_reducible apply Wf.cpU | with_reducible apply Wf.fillI | with_reducible apply Wf.clU | with_reducible apply Wf.dnF | with_reducible apply Wf.gbW)))) ?_
  refine lf (a_iload_n dX10_trolley_66 rfl) ?_
  refine lf (a_inv (b2 := (0, 0)) (v_X1_freeSlots (by repeat (first | with_reducible exact hw | with_reducible exact hwc | with_reducible assumption | with_reducible apply Wf.sI | with_reducible apply Wf.sL | with_reducible apply Wf.cpI | with_reducible apply Wf.cpL | with_reducible apply Wf.cp2 | with_reducible apply Wf.sIs | with_reducible apply Wf.sLs | with_reducible apply Wf.cpU | with_reducible apply Wf.fillI | with_reducible apply Wf.clU | with_reducible apply Wf.dnF | with_reducible apply Wf.gbW)) hv hq ht) rfl dX10_trolley_67 yk_X1_freeSlots im_X1_freeSlots se_X1_freeSlots ml_X10_288 rfl (fl_o (by repeat (first | with_reducible exact hw | with_reducible exact hwc | with_reducible assumption | with_reducible apply Wf.sI | with_reducible apply Wf.sL | with_reducible apply Wf.cpI | with_reducible apply Wf.cpL | with_reducible apply Wf.cp2 | with_reducible apply Wf.sIs | with_reducible apply Wf.sLs | with_reducible apply Wf.cpU | with_reducible apply Wf.fillI | with_reducible apply Wf.clU | with_reducible apply Wf.dnF | with_reducible apply Wf.gbW)) fl_now) (by decide) hc_X1 (by decide) (by decide) (Nat.le_of_ble_eq_true rfl)) ?_
  refine ⟨_, _, (a_ireturn dX10_trolley_70 rfl rfl), ?_⟩
  exact ⟨_, rfl, rfl, AskQ.rfl' hw hs⟩
theorem c_trolley_3 (hw : Wf μ) (hv : FV μ 24 p d) (hq : PV μ p q) (hq1 : GdP q) (hd : GdD q d) (hs : SvA μ q d) {t : Nat} (ht : t < pT q) : CV Y_X10_trolley R_X10_trolley [.ref 0, .int (nI t), .int (nI 3)] μ (fun v V => v = some (.int (tyV q d t 3)) ∧ AskQ μ q d V) := by
  refine CV.ent yk_X10_trolley (Nat.le_of_ble_eq_true rfl) ?_
  have hC4 := hq.C4
  have hM4 := hq.M4
  have hT4 := hq.T4
  have hP4 := hv.P4
  have hU4 := hv.U4
  refine lf (a_aload_n dX10_trolley_0 rfl) ?_
  refine lf (a_iload_n dX10_trolley_1 rfl) ?_
  refine lf (a_inv (b2 := (0, 0)) (c_requireTrolley (by repeat (first | with_reducible exact hw | with_reducible exact hwc | with_reducible assumption | with_reducible apply Wf.sI | with_reducible apply Wf.sL | with_reducible apply Wf.cpI | with_reducible apply Wf.cpL | with_reducible apply Wf.cp2 | with_reducible apply Wf.sIs | with_reducible apply Wf.sLs | with_reducible apply Wf.cpU | with_reducible apply Wf.fillI | with_reducible apply Wf.clU | with_reducible apply Wf.dnF | with_reducible apply Wf.gbW)) hv hq ht) rfl dX10_trolley_2 yk_X10_requireTrolley im_X10_requireTrolley se_X10_requireTrolley ml_X10_279 rfl (co_0 (by repeat (first | with_reducible exact hw | with_reducible exact hwc | with_reducible assumption | with_reducible apply Wf.sI | with_reducible apply Wf.sL | with_reducible apply Wf.cpI | with_reducible apply Wf.cpL | with_reducible apply Wf.cp2 | with_reducible apply Wf.sIs | with_reducible apply Wf.sLs | with_reducible apply Wf.cpU | with_reducible apply Wf.fillI | with_reducible apply Wf.clU | with_reducible apply Wf.dnF | with_reducible apply Wf.gbW))) (by decide) hc_X10 (by decide) (by decide) (Nat.le_of_ble_eq_true rfl)) ?_
  refine lf (a_iload_n dX10_trolley_5 rfl) ?_
  refine lf (a_tsIn (tgt := 71) dX10_trolley_6 (by decide) (by decide) rfl (by decide)) ?_
  refine lf (a_aload_n dX10_trolley_71 rfl) ?_
  refine lf (a_getR (cr_0_7 (by repeat (first | with_reducible exact hw | with_reducible exact hwc | with_reducible assumption | with_reducible apply Wf.sI | with_reducible apply Wf.sL | with_reducible apply Wf.cpI | with_reducible apply Wf.cpL | with_reducible apply Wf.cp2 | with_reducible apply Wf.sIs | with_reducible apply Wf.sLs | with_reducible apply Wf.cpU | with_reducible apply Wf.fillI | with_reducible apply Wf.clU | with_reducible apply Wf.dnF | with_reducible apply Wf.gbW))) dX10_trolley_72 fs_X10_28 rfl (co_0 (by repeat (first | with_reducible exact hw | with_reducible exact hwc | with_reducible assumption | with_reducible apply Wf.sI | with_reducible apply Wf.sL | with_reducible apply Wf.cpI | with_reducible apply Wf.cpL | with_reducible apply Wf.cp2 | with_reducible apply Wf.sIs | with_reducible apply Wf.sLs | with_reducible apply Wf.cpU | with_reducible apply Wf.fillI | with_reducible apply Wf.clU | with_reducible apply Wf.dnF | with_reducible apply Wf.gbW)))) ?_
  refine lf (a_iload_n dX10_trolley_75 rfl) ?_
  refine lf (a_inv (b2 := (0, 0)) (v_X1_unitsIn (by repeat (first | with_reducible exact hw | with_reducible exact hwc | with_reducible assumption | with_reducible apply Wf.sI | with_reducible apply Wf.sL | with_reducible apply Wf.cpI | with_reducible apply Wf.cpL | with_reducible apply Wf.cp2 | with_reducible apply Wf.sIs | with_reducible apply Wf.sLs | with_reducible apply Wf.cpU | with_reducible apply Wf.fillI | with_reducible apply Wf.clU | with_reducible apply Wf.dnF | with_reducible apply Wf.gbW)) hv hq (show t < 8 by omega)) rfl dX10_trolley_76 yk_X1_unitsIn im_X1_unitsIn se_X1_unitsIn ml_X10_291 rfl (fl_o (by repeat (first | with_reducible exact hw | with_reducible exact hwc | with_reducible assumption | with_reducible apply Wf.sI | with_reducible apply Wf.sL | with_reducible apply Wf.cpI | with_reducible apply Wf.cpL | with_reducible apply Wf.cp2 | with_reducible apply Wf.sIs | with_reducible apply Wf.sLs | with_reducible apply Wf.cpU | with_reducible apply Wf.fillI | with_reducible apply Wf.clU | with_reducible apply Wf.dnF | with_reducible apply Wf.gbW)) fl_now) (by decide) hc_X1 (by decide) (by decide) (Nat.le_of_ble_eq_true rfl)) ?_
  refine ⟨_, _, (a_ireturn dX10_trolley_79 rfl rfl), ?_⟩
  exact ⟨_, rfl, rfl, AskQ.rfl' hw hs⟩
theorem c_trolley (hw : Wf μ) (hv : FV μ 24 p d) (hq : PV μ p q) (hq1 : GdP q) (hd : GdD q d) (hs : SvA μ q d) {t : Nat} (ht : t < pT q) {k : Nat} (hk : k < 4) : CV Y_X10_trolley R_X10_trolley [.ref 0, .int (nI t), .int (nI k)] μ (fun v V => v = some (.int (tyV q d t k)) ∧ AskQ μ q d V) := by
  rcases (by omega : k = 0 ∨ k = 1 ∨ k = 2 ∨ k = 3) with rfl | rfl | rfl | rfl
  · exact c_trolley_0 hw hv hq hq1 hd hs ht
  · exact c_trolley_1 hw hv hq hq1 hd hs ht
  · exact c_trolley_2 hw hv hq hq1 hd hs ht
  · exact c_trolley_3 hw hv hq hq1 hd hs ht

theorem cx_trolley (hw : Wf μ) (hv : FV μ 24 p d) (hq : PV μ p q) {x y : Int32} (h : ixO x (pT q) = none) : Ct Y_X10_trolley RX_X10_trolley [.ref 0, .int x, .int y] μ (.inr NSE) μ := by
  have hC4 := hq.C4
  have hM4 := hq.M4
  have hT4 := hq.T4
  have hP4 := hv.P4
  have hU4 := hv.U4
  refine Ct.ent yk_X10_trolley (Nat.le_of_ble_eq_true rfl) ?_
  refine a_aload_n dX10_trolley_0 rfl ?_
  refine a_iload_n dX10_trolley_1 rfl ?_
  exact a_out rfl rfl (a_invX (cx_requireTrolley hw hv hq h) rfl dX10_trolley_2 yk_X10_requireTrolley im_X10_requireTrolley se_X10_requireTrolley ml_X10_279 rfl (co_0 hw) (by decide) hc_X10 (by decide) (by decide) (Nat.le_of_ble_eq_true rfl) rfl)

theorem cy_trolley (hw : Wf μ) (hv : FV μ 24 p d) (hq : PV μ p q)  {t : Nat} (ht : t < pT q) {y : Int32} (h : ixO y 4 = none) : Ct Y_X10_trolley RX_X10_trolley [.ref 0, .int (nI t), .int y] μ (.inr IAE) μ := by
  have hC4 := hq.C4
  have hM4 := hq.M4
  have hT4 := hq.T4
  have hP4 := hv.P4
  have hU4 := hv.U4
  have g2 := ix_out h
  refine Ct.ent yk_X10_trolley (Nat.le_of_ble_eq_true rfl) ?_
  refine a_aload_n dX10_trolley_0 rfl ?_
  refine a_iload_n dX10_trolley_1 rfl ?_
  refine a_inv (b2 := (1, 6)) (c_requireTrolley hw hv hq ht) rfl dX10_trolley_2 yk_X10_requireTrolley im_X10_requireTrolley se_X10_requireTrolley ml_X10_279 rfl (co_0 hw) (by decide) hc_X10 (by decide) (by decide) (Nat.le_of_ble_eq_true rfl) ?_
  refine a_iload_n dX10_trolley_5 rfl ?_
  refine a_tsOut (tgt := 80) dX10_trolley_6 (by omega) (by decide) ?_
  exact a_throwSW (n := 53) (tx := "nothing such of a trolley") (by decide) (by decide) xw_IAE rfl rfl dX10_trolley_80 dX10_trolley_83 dX10_trolley_84 dX10_trolley_87 dX10_trolley_90 (by decide) (by decide) (by decide) (by decide) (by decide)
abbrev R_X10_held : Room := { frames := 8, cells := 0, slots := 0, locals := 161 }
abbrev RX_X10_held : Room := { frames := 8, cells := 1, slots := 6, locals := 161 }

theorem c_held (hw : Wf μ) (hv : FV μ 24 p d) (hq : PV μ p q)  {t : Nat} (ht : t < pT q) {m : Nat} (hm : m < pM q) : Ct Y_X10_held R_X10_held [.ref 0, .int (nI t), .int (nI m)] μ (.inl (some (.int (dF d (7 + t) m)))) μ := by
  have hC4 := hq.C4
  have hM4 := hq.M4
  have hT4 := hq.T4
  have hP4 := hv.P4
  have hU4 := hv.U4
  refine Ct.ent yk_X10_held (Nat.le_of_ble_eq_true rfl) ?_
  refine a_aload_n dX10_held_0 rfl ?_
  refine a_iload_n dX10_held_1 rfl ?_
  refine a_inv (b2 := (0, 0)) (c_requireTrolley hw hv hq ht) rfl dX10_held_2 yk_X10_requireTrolley im_X10_requireTrolley se_X10_requireTrolley ml_X10_279 rfl (co_0 hw) (by decide) hc_X10 (by decide) (by decide) (Nat.le_of_ble_eq_true rfl) ?_
  refine a_aload_n dX10_held_5 rfl ?_
  refine a_iload_n dX10_held_6 rfl ?_
  refine a_inv (b2 := (0, 0)) (c_requireMeal hw hv hq hm) rfl dX10_held_7 yk_X10_requireMeal im_X10_requireMeal se_X10_requireMeal ml_X10_212 rfl (co_0 hw) (by decide) hc_X10 (by decide) (by decide) (Nat.le_of_ble_eq_true rfl) ?_
  refine a_aload_n dX10_held_10 rfl ?_
  refine a_getR (cr_0_7 hw) dX10_held_11 fs_X10_28 rfl (co_0 hw) ?_
  refine a_getR (fl_r7 hw fl_now) dX10_held_14 fs_X10_296 rfl (fl_o hw fl_now) ?_
  refine a_iload_n dX10_held_17 rfl ?_
  refine a_aald (j := t) dX10_held_18 (fl_a4 hw fl_now) (by decide) (ixn (by omega) (by decide)) (fl_ru hw fl_now (by omega)) ?_
  refine a_iload_n dX10_held_19 rfl ?_
  refine a_ild dX10_held_20 (fl_u hw fl_now (by omega)) (ixn (show m < 12 by omega) (by decide)) ?_
  rw [hv.un (show t < 8 by omega) (show m < 12 by omega)]
  exact a_out rfl rfl (a_ireturn dX10_held_21 rfl rfl)

theorem cx_held (hw : Wf μ) (hv : FV μ 24 p d) (hq : PV μ p q) {x y : Int32} (h : ixO x (pT q) = none) : Ct Y_X10_held RX_X10_held [.ref 0, .int x, .int y] μ (.inr NSE) μ := by
  have hC4 := hq.C4
  have hM4 := hq.M4
  have hT4 := hq.T4
  have hP4 := hv.P4
  have hU4 := hv.U4
  refine Ct.ent yk_X10_held (Nat.le_of_ble_eq_true rfl) ?_
  refine a_aload_n dX10_held_0 rfl ?_
  refine a_iload_n dX10_held_1 rfl ?_
  exact a_out rfl rfl (a_invX (cx_requireTrolley hw hv hq h) rfl dX10_held_2 yk_X10_requireTrolley im_X10_requireTrolley se_X10_requireTrolley ml_X10_279 rfl (co_0 hw) (by decide) hc_X10 (by decide) (by decide) (Nat.le_of_ble_eq_true rfl) rfl)

theorem cy_held (hw : Wf μ) (hv : FV μ 24 p d) (hq : PV μ p q)  {t : Nat} (ht : t < pT q) {y : Int32} (h : ixO y (pM q) = none) : Ct Y_X10_held RX_X10_held [.ref 0, .int (nI t), .int y] μ (.inr NSE) μ := by
  have hC4 := hq.C4
  have hM4 := hq.M4
  have hT4 := hq.T4
  have hP4 := hv.P4
  have hU4 := hv.U4
  refine Ct.ent yk_X10_held (Nat.le_of_ble_eq_true rfl) ?_
  refine a_aload_n dX10_held_0 rfl ?_
  refine a_iload_n dX10_held_1 rfl ?_
  refine a_inv (b2 := (1, 6)) (c_requireTrolley hw hv hq ht) rfl dX10_held_2 yk_X10_requireTrolley im_X10_requireTrolley se_X10_requireTrolley ml_X10_279 rfl (co_0 hw) (by decide) hc_X10 (by decide) (by decide) (Nat.le_of_ble_eq_true rfl) ?_
  refine a_aload_n dX10_held_5 rfl ?_
  refine a_iload_n dX10_held_6 rfl ?_
  exact a_out rfl rfl (a_invX (cx_requireMeal hw hv hq h) rfl dX10_held_7 yk_X10_requireMeal im_X10_requireMeal se_X10_requireMeal ml_X10_212 rfl (co_0 hw) (by decide) hc_X10 (by decide) (by decide) (Nat.le_of_ble_eq_true rfl) rfl)
abbrev R_X10_topUpAt : Room := { frames := 7, cells := 0, slots := 0, locals := 140 }
abbrev RX_X10_topUpAt : Room := { frames := 7, cells := 1, slots := 6, locals := 140 }

theorem c_topUpAt_0 (hw : Wf μ) (hv : FV μ 24 p d) (hq : PV μ p q) {i : Nat} (hi : i < dU d) : Ct Y_X10_topUpAt R_X10_topUpAt [.ref 0, .int (nI i), .int (nI 0)] μ (.inl (some (.int (tpV d i 0)))) μ := by
  have hC4 := hq.C4
  have hM4 := hq.M4
  have hT4 := hq.T4
  have hP4 := hv.P4
  have hU4 := hv.U4
  refine Ct.ent yk_X10_topUpAt (Nat.le_of_ble_eq_true rfl) ?_
  refine a_iload_n dX10_topUpAt_0 rfl ?_
  refine a_if_lt (tgt := 15) dX10_topUpAt_1 (by decide) (fun h1 => absurd h1 (nI_pos (by omega))) (fun h1 => ?_)
  refine a_iload_n dX10_topUpAt_4 rfl ?_
  refine a_aload_n dX10_topUpAt_5 rfl ?_
  refine a_getR (cr_0_7 hw) dX10_topUpAt_6 fs_X10_28 rfl (co_0 hw) ?_
  refine a_getI dX10_topUpAt_9 fs_X10_151 rfl (fl_o hw fl_now) ?_
  rw [hv.hU]
  refine a_icmp_lt (tgt := 26) dX10_topUpAt_12 (by decide) (fun h12 => ?_) (fun h12 => absurd h12 (fun z => z (nI_lt hi (by omega))))
  refine a_iload_n dX10_topUpAt_26 rfl ?_
  refine a_tsIn (tgt := 52) dX10_topUpAt_27 (by decide) (by decide) rfl (by decide) ?_
  refine a_aload_n dX10_topUpAt_52 rfl ?_
  refine a_getR (cr_0_7 hw) dX10_topUpAt_53 fs_X10_28 rfl (co_0 hw) ?_
  refine a_getR (fl_r9 hw fl_now) dX10_topUpAt_56 fs_X10_304 rfl (fl_o hw fl_now) ?_
  refine a_iload_n dX10_topUpAt_59 rfl ?_
  refine a_ild dX10_topUpAt_60 (fl_a13 hw fl_now) (ixn (show i < 6 by omega) (by decide)) ?_
  rw [hv.tm hi]
  exact a_out rfl rfl (a_ireturn dX10_topUpAt_61 rfl rfl)
theorem c_topUpAt_1 (hw : Wf μ) (hv : FV μ 24 p d) (hq : PV μ p q) {i : Nat} (hi : i < dU d) : Ct Y_X10_topUpAt R_X10_topUpAt [.ref 0, .int (nI i), .int (nI 1)] μ (.inl (some (.int (tpV d i 1)))) μ := by
  have hC4 := hq.C4
  have hM4 := hq.M4
  have hT4 := hq.T4
  have hP4 := hv.P4
  have hU4 := hv.U4
  refine Ct.ent yk_X10_topUpAt (Nat.le_of_ble_eq_true rfl) ?_
  refine a_iload_n dX10_topUpAt_0 rfl ?_
  refine a_if_lt (tgt := 15) dX10_topUpAt_1 (by decide) (fun h1 => absurd h1 (nI_pos (by omega))) (fun h1 => ?_)
  refine a_iload_n dX10_topUpAt_4 rfl ?_
  refine a_aload_n dX10_topUpAt_5 rfl ?_
  refine a_getR (cr_0_7 hw) dX10_topUpAt_6 fs_X10_28 rfl (co_0 hw) ?_
  refine a_getI dX10_topUpAt_9 fs_X10_151 rfl (fl_o hw fl_now) ?_
  rw [hv.hU]
  refine a_icmp_lt (tgt := 26) dX10_topUpAt_12 (by decide) (fun h12 => ?_) (fun h12 => absurd h12 (fun z => z (nI_lt hi (by omega))))
  refine a_iload_n dX10_topUpAt_26 rfl ?_
  refine a_tsIn (tgt := 62) dX10_topUpAt_27 (by decide) (by decide) rfl (by decide) ?_
  refine a_aload_n dX10_topUpAt_62 rfl ?_
  refine a_getR (cr_0_7 hw) dX10_topUpAt_63 fs_X10_28 rfl (co_0 hw) ?_
  refine a_getR (fl_r10 hw fl_now) dX10_topUpAt_66 fs_X10_307 rfl (fl_o hw fl_now) ?_
  refine a_iload_n dX10_topUpAt_69 rfl ?_
  refine a_ild dX10_topUpAt_70 (fl_a14 hw fl_now) (ixn (show i < 6 by omega) (by decide)) ?_
  rw [hv.tu hi]
  exact a_out rfl rfl (a_ireturn dX10_topUpAt_71 rfl rfl)
theorem c_topUpAt_2 (hw : Wf μ) (hv : FV μ 24 p d) (hq : PV μ p q) {i : Nat} (hi : i < dU d) : Ct Y_X10_topUpAt R_X10_topUpAt [.ref 0, .int (nI i), .int (nI 2)] μ (.inl (some (.int (tpV d i 2)))) μ := by
  have hC4 := hq.C4
  have hM4 := hq.M4
  have hT4 := hq.T4
  have hP4 := hv.P4
  have hU4 := hv.U4
  refine Ct.ent yk_X10_topUpAt (Nat.le_of_ble_eq_true rfl) ?_
  refine a_iload_n dX10_topUpAt_0 rfl ?_
  refine a_if_lt (tgt := 15) dX10_topUpAt_1 (by decide) (fun h1 => absurd h1 (nI_pos (by omega))) (fun h1 => ?_)
  refine a_iload_n dX10_topUpAt_4 rfl ?_
  refine a_aload_n dX10_topUpAt_5 rfl ?_
  refine a_getR (cr_0_7 hw) dX10_topUpAt_6 fs_X10_28 rfl (co_0 hw) ?_
  refine a_getI dX10_topUpAt_9 fs_X10_151 rfl (fl_o hw fl_now) ?_
  rw [hv.hU]
  refine a_icmp_lt (tgt := 26) dX10_topUpAt_12 (by decide) (fun h12 => ?_) (fun h12 => absurd h12 (fun z => z (nI_lt hi (by omega))))
  refine a_iload_n dX10_topUpAt_26 rfl ?_
  refine a_tsIn (tgt := 72) dX10_topUpAt_27 (by decide) (by decide) rfl (by decide) ?_
  refine a_aload_n dX10_topUpAt_72 rfl ?_
  refine a_getR (cr_0_7 hw) dX10_topUpAt_73 fs_X10_28 rfl (co_0 hw) ?_
  refine a_getR (fl_r11 hw fl_now) dX10_topUpAt_76 fs_X10_310 rfl (fl_o hw fl_now) ?_
  refine a_iload_n dX10_topUpAt_79 rfl ?_
  refine a_ild dX10_topUpAt_80 (fl_a15 hw fl_now) (ixn (show i < 6 by omega) (by decide)) ?_
  rw [hv.td hi]
  exact a_out rfl rfl (a_ireturn dX10_topUpAt_81 rfl rfl)
theorem c_topUpAt (hw : Wf μ) (hv : FV μ 24 p d) (hq : PV μ p q) {i : Nat} (hi : i < dU d) {k : Nat} (hk : k < 3) : Ct Y_X10_topUpAt R_X10_topUpAt [.ref 0, .int (nI i), .int (nI k)] μ (.inl (some (.int (tpV d i k)))) μ := by
  rcases (by omega : k = 0 ∨ k = 1 ∨ k = 2) with rfl | rfl | rfl
  · exact c_topUpAt_0 hw hv hq hi
  · exact c_topUpAt_1 hw hv hq hi
  · exact c_topUpAt_2 hw hv hq hi

theorem cx_topUpAt (hw : Wf μ) (hv : FV μ 24 p d) (hq : PV μ p q) {x y : Int32} (h : ixO x (dU d) = none) : Ct Y_X10_topUpAt RX_X10_topUpAt [.ref 0, .int x, .int y] μ (.inr IOE) μ := by
  have hC4 := hq.C4
  have hM4 := hq.M4
  have hT4 := hq.T4
  have hP4 := hv.P4
  have hU4 := hv.U4
  refine Ct.ent yk_X10_topUpAt (Nat.le_of_ble_eq_true rfl) ?_
  rcases ixO_none h with h0 | ⟨j, g1, g2, rfl⟩
  · refine a_iload_n dX10_topUpAt_0 rfl ?_
    refine a_if_lt (tgt := 15) dX10_topUpAt_1 (by decide) (fun h1 => ?_) (fun h1 => absurd h1 (fun z => z h0))
    exact a_throwSW (n := 51) (tx := "no such top-up") (by decide) (by decide) xw_IOE rfl rfl dX10_topUpAt_15 dX10_topUpAt_18 dX10_topUpAt_19 dX10_topUpAt_22 dX10_topUpAt_25 (by decide) (by decide) (by decide) (by decide) (by decide)
  · refine a_iload_n dX10_topUpAt_0 rfl ?_
    refine a_if_lt (tgt := 15) dX10_topUpAt_1 (by decide) (fun h1 => absurd h1 (nI_pos g2)) (fun h1 => ?_)
    refine a_iload_n dX10_topUpAt_4 rfl ?_
    refine a_aload_n dX10_topUpAt_5 rfl ?_
    refine a_getR (cr_0_7 hw) dX10_topUpAt_6 fs_X10_28 rfl (co_0 hw) ?_
    refine a_getI dX10_topUpAt_9 fs_X10_151 rfl (fl_o hw fl_now) ?_
    rw [hv.hU]
    refine a_icmp_lt (tgt := 26) dX10_topUpAt_12 (by decide) (fun h12 => absurd h12 (nI_nlt g1 g2)) (fun h12 => ?_)
    exact a_throwSW (n := 51) (tx := "no such top-up") (by decide) (by decide) xw_IOE rfl rfl dX10_topUpAt_15 dX10_topUpAt_18 dX10_topUpAt_19 dX10_topUpAt_22 dX10_topUpAt_25 (by decide) (by decide) (by decide) (by decide) (by decide)

theorem cy_topUpAt (hw : Wf μ) (hv : FV μ 24 p d) (hq : PV μ p q)  {i : Nat} (hi : i < dU d) {y : Int32} (h : ixO y 3 = none) : Ct Y_X10_topUpAt RX_X10_topUpAt [.ref 0, .int (nI i), .int y] μ (.inr IAE) μ := by
  have hC4 := hq.C4
  have hM4 := hq.M4
  have hT4 := hq.T4
  have hP4 := hv.P4
  have hU4 := hv.U4
  have g2 := ix_out h
  refine Ct.ent yk_X10_topUpAt (Nat.le_of_ble_eq_true rfl) ?_
  refine a_iload_n dX10_topUpAt_0 rfl ?_
  refine a_if_lt (tgt := 15) dX10_topUpAt_1 (by decide) (fun h1 => absurd h1 (nI_pos (by omega))) (fun h1 => ?_)
  refine a_iload_n dX10_topUpAt_4 rfl ?_
  refine a_aload_n dX10_topUpAt_5 rfl ?_
  refine a_getR (cr_0_7 hw) dX10_topUpAt_6 fs_X10_28 rfl (co_0 hw) ?_
  refine a_getI dX10_topUpAt_9 fs_X10_151 rfl (fl_o hw fl_now) ?_
  rw [hv.hU]
  refine a_icmp_lt (tgt := 26) dX10_topUpAt_12 (by decide) (fun h12 => ?_) (fun h12 => absurd h12 (fun z => z (nI_lt hi (by omega))))
  refine a_iload_n dX10_topUpAt_26 rfl ?_
  refine a_tsOut (tgt := 82) dX10_topUpAt_27 (by omega) (by decide) ?_
  exact a_throwSW (n := 52) (tx := "nothing such of a top-up") (by decide) (by decide) xw_IAE rfl rfl dX10_topUpAt_82 dX10_topUpAt_85 dX10_topUpAt_86 dX10_topUpAt_89 dX10_topUpAt_92 (by decide) (by decide) (by decide) (by decide) (by decide)
end READERS
