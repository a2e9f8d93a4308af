section TXB
variable {Y : Yd} {rm : Room} {b : Nat × Nat} {μ μ1 W : Wd} {pc : Nat} {la : List (Nat × Value)} {st : List Value} {o : Oc} {lo a : Nat} {l s : List Nat}
theorem a_ixor2 {x y : Int32} (hd : decode Y.2.1 pc = .ok (.ixor, 1)) (k : AW Y rm b μ (pc + 1) la (.int (x ^^^ y) :: st) o μ1) : AW Y rm b μ pc la (.int y :: .int x :: st) o μ1 := a_ixor hd k
theorem ush9 (x : Int32) : ∃ n, n < 8388608 ∧ ((x.toUInt32 >>> ((9 : Int32).toUInt32 &&& Int32.toUInt32 31)).toInt32) = nI n := by
  refine ⟨(x.toUInt32 >>> ((9 : Int32).toUInt32 &&& Int32.toUInt32 31)).toNat, ?_, ?_⟩
  · have e : (9 : Int32).toUInt32 &&& Int32.toUInt32 31 = 9 := by decide
    rw [e, UInt32.toNat_shiftRight, Nat.shiftRight_eq_div_pow]
    have h := x.toUInt32.toNat_lt
    have h2 : (9 : UInt32).toNat % 32 = 9 := by decide
    rw [h2]
    omega
  · generalize (x.toUInt32 >>> ((9 : Int32).toUInt32 &&& Int32.toUInt32 31)) = u
    apply Int32.toBitVec_inj.mp
    apply BitVec.eq_of_toNat_eq
    show u.toNat = (BitVec.ofNat 32 u.toNat).toNat
    rw [BitVec.toNat_ofNat]
    exact (Nat.mod_eq_of_lt u.toNat_lt).symm
theorem w_ush9 {x : Int32} {Q : Oc → Wd → Prop} (hd : decode Y.2.1 pc = .ok (.iushr, 1)) (k : ∀ n, n < 8388608 → WP Y rm b μ (pc + 1) la (.int (nI n) :: st) Q) : WP Y rm b μ pc la (.int 9 :: .int x :: st) Q := by
  obtain ⟨n, hn, e⟩ := ush9 x
  exact lf (a_iushr hd) (by rw [e]; exact k n hn)
theorem ck_L_7 : Cond.constant RL 7 1103515245 ∈ lwa := lwa_in 837 (by decide +kernel) rfl
abbrev s338 : Nat → Prop := fun i => i = 338
/-- a number has been drawn -/
def NxQ (μ : Wd) (v : Option Value) (V : Wd) : Prop := ∃ n, n < 8388608 ∧ v = some (.int (nI n)) ∧ Out s338 μ V
abbrev R_L_next : Room := { frames := 2, cells := 0, slots := 0, locals := 100 }
theorem t_L_next (hw : Wf μ) : CV Y_L_next R_L_next [.ref 338] μ (NxQ μ) := by
  refine CV.ent yk_L_next (Nat.le_of_ble_eq_true rfl) ?_
  refine lf (a_aload_n dL_next_0 rfl) ?_
  refine lf (a_iconst (0 : Int32) dL_next_1 (by decide)) ?_
  refine lf (a_aload_n dL_next_2 rfl) ?_
  refine lf (a_iconst (0 : Int32) dL_next_3 (by decide)) ?_
  refine lf (a_ild dL_next_4 (ca_338 (by repeat (first | with_reducible exact hw | with_reducible exact hwc | with_reducible assumption | with_reducible apply Wf.sI | with_reducible apply Wf.sL | with_reducible apply Wf.cpI | with_reducible apply Wf.cpL | with_reducible apply Wf.cp2 | with_reducible apply Wf.sIs | with_reducible apply Wf.sLs | with_reducible apply Wf.cpU | with_reducible apply Wf.fillI | with_reducible apply Wf.clU | with_reducible apply Wf.dnF | with_reducible apply Wf.gbW))) (ixn (m := 0) (by decide) (by decide))) ?_
  refine lf (a_ldc dL_next_5 ck_L_7) ?_
  refine lf (a_imul dL_next_7) ?_
  refine lf (a_sipush (12345 : Int32) dL_next_8 (by decide)) ?_
  refine lf (a_iadd dL_next_11) ?_
  refine lf (a_ist dL_next_12 (ca_338 (by repeat (first | with_reducible exact hw | with_reducible exact hwc | with_reducible assumption | with_reducible apply Wf.sI | with_reducible apply Wf.sL | with_reducible apply Wf.cpI | with_reducible apply Wf.cpL | with_reducible apply Wf.cp2 | with_reducible apply Wf.sIs | with_reducible apply Wf.sLs | with_reducible apply Wf.cpU | with_reducible apply Wf.fillI | with_reducible apply Wf.clU | with_reducible apply Wf.dnF | with_reducible apply Wf.gbW))) (ixn (m := 0) (by decide) (by decide))) ?_
  refine lf (a_aload_n dL_next_13 rfl) ?_
  refine lf (a_iconst (0 : Int32) dL_next_14 (by decide)) ?_
  refine lf (a_dup2 dL_next_15 rfl rfl) ?_
  refine lf (a_ild dL_next_16 (ca_338 (by repeat (first | with_reducible exact hw | with_reducible exact hwc | with_reducible assumption | with_reducible apply Wf.sI | with_reducible apply Wf.sL | with_reducible apply Wf.cpI | with_reducible apply Wf.cpL | with_reducible apply Wf.cp2 | with_reducible apply Wf.sIs | with_reducible apply Wf.sLs | with_reducible apply Wf.cpU | with_reducible apply Wf.fillI | with_reducible apply Wf.clU | with_reducible apply Wf.dnF | with_reducible apply Wf.gbW))) (ixn (m := 0) (by decide) (by decide))) ?_
  refine lf (a_aload_n dL_next_17 rfl) ?_
  refine lf (a_iconst (0 : Int32) dL_next_18 (by decide)) ?_
  refine lf (a_ild dL_next_19 (ca_338 (by repeat (first | with_reducible exact hw | with_reducible exact hwc | with_reducible assumption | with_reducible apply Wf.sI | with_reducible apply Wf.sL | with_reducible apply Wf.cpI | with_reducible apply Wf.cpL | with_reducible apply Wf.cp2 | with_reducible apply Wf.sIs | with_reducible apply Wf.sLs | with_reducible apply Wf.cpU | with_reducible apply Wf.fillI | with_reducible apply Wf.clU | with_reducible apply Wf.dnF | with_reducible apply Wf.gbW))) (ixn (m := 0) (by decide) (by decide))) ?_
  refine lf (a_bipush (15 : Int32) dL_next_20 (by decide)) ?_
  refine lf (a_iushr dL_next_22) ?_
  refine lf (a_ixor dL_next_23) ?_
  refine lf (a_ist dL_next_24 (ca_338 (by repeat (first | with_reducible exact hw | with_reducible exact hwc | with_reducible assumption | with_reducible apply Wf.sI | with_reducible apply Wf.sL | with_reducible apply Wf.cpI | with_reducible apply Wf.cpL | with_reducible apply Wf.cp2 | with_reducible apply Wf.sIs | with_reducible apply Wf.sLs | with_reducible apply Wf.cpU | with_reducible apply Wf.fillI | with_reducible apply Wf.clU | with_reducible apply Wf.dnF | with_reducible apply Wf.gbW))) (ixn (m := 0) (by decide) (by decide))) ?_
  refine lf (a_aload_n dL_next_25 rfl) ?_
  refine lf (a_iconst (0 : Int32) dL_next_26 (by decide)) ?_
  refine lf (a_ild dL_next_27 (ca_338 hw) (ixn (m := 0) (by decide) (by decide))) ?_
  refine lf (a_bipush (9 : Int32) dL_next_28 (by decide)) ?_
  refine w_ush9 dL_next_30 (fun n hn => ?_)
  exact ⟨_, _, a_ireturn dL_next_31 rfl rfl, _, rfl, n, hn, rfl, Out.sI (S := s338) (Out.sI (S := s338) (Out.rfl' hw) rfl _ _) rfl _ _⟩
/-- a text is being built: l, at most L letters, at most k cells since μ -/
def FlI (lo : Nat) (μ W : Wd) (a : Nat) (l : List Nat) (k L : Nat) : Prop := SbV lo W a l 0 ∧ Ex (fun i => lo ≤ i ∨ i = 338) μ W ∧ wn W ≤ wn μ + k ∧ l.length ≤ L
theorem FlI.ob {k L : Nat} (h : FlI lo μ W a l k L) : Ob W a 12 := h.1.ob
theorem FlI.wf {k L : Nat} (h : FlI lo μ W a l k L) : Wf W := h.2.1.1
theorem SbV.of {V : Wd} {q : Nat} {S : Nat → Prop} (h : SbV lo W a l q) (he : Ex S W V) (h1 : ¬ S a) (h2 : ∀ v, gR W a 0 = some v → ¬ S v) : SbV lo V a l q := by
  obtain ⟨p1, p2, p3, p4, ho, hc, hct, v, cap, p5, hr, ha, p6, p7, p8, hb⟩ := h
  exact ⟨p1, p2, p3, p4, ho.ex he, (he.i ho.1 h1 1).trans hc, (he.i ho.1 h1 3).trans hct, v, cap, p5, (he.r ho.1 h1 0).trans hr, ha.ex he, p6, p7, p8, fun j hj => (hb j hj).imp fun x g => ⟨g.1, (he.i ha.1 (h2 v hr) j).trans g.2.1, g.2.2⟩⟩
theorem SbV.late {q : Nat} (h : SbV lo W a l q) : 339 ≤ lo ∧ lo ≤ a ∧ ∀ v, gR W a 0 = some v → lo ≤ v := by
  obtain ⟨p1, p2, p3, p4, ho, hc, hct, v, cap, p5, hr, ha, p6, p7, p8, hb⟩ := h
  exact ⟨p3, p4, fun z e => by rw [hr] at e; injection e with e; omega⟩
theorem FlI.nx {V : Wd} {k L : Nat} (h : FlI lo μ W a l k L) (ho : Out s338 W V) : FlI lo μ V a l k L := by
  have hl := h.1.late
  exact ⟨h.1.of (Ex.of ho) (by show ¬ a = 338; omega) (fun v e => by show ¬ v = 338; have := hl.2.2 v e; omega), h.2.1.trans ((Ex.of ho).mono (fun _ _ z => Or.inr z)), by rw [ho.2.1]; exact h.2.2.1, h.2.2.2⟩
theorem FlI.sb {V : Wd} {k L L2 : Nat} {l2 : List Nat} (h : FlI lo μ W a l k L) (he : Ex (SbS W a) W V) (hn : wn V ≤ wn W + 1) (hs : SbV lo V a l2 0) (hL : l2.length ≤ L2) : FlI lo μ V a l2 (k + 1) L2 := by
  have hl := h.1.late
  refine ⟨hs, h.2.1.trans (he.mono (fun i _ z => Or.inl ?_)), by have := h.2.2.1; omega, hL⟩
  rcases z with z | z
  · omega
  · exact hl.2.2 i z
theorem fs_nx {k L : Nat} (h : FlI lo μ W a l k L) : CV Y_L_next R_L_next [.ref 338] W (fun v V => ∃ n, n < 8388608 ∧ v = some (.int (nI n)) ∧ FlI lo μ V a l k L) := by
  obtain ⟨v, V, hc, n, hn, e, ho⟩ := t_L_next h.wf
  exact ⟨v, V, hc, n, hn, e, h.nx ho⟩
theorem fs_S {r k L m : Nat} (h : FlI lo μ W a l k L) (hs : StrV W r s) (hm : s.length ≤ m) (hL : L + m ≤ 900) (hk : wn μ + k + 1 < 1000000) : CV Y_J4_append_15ec4 R_J4_append_15ec4 [.ref a, .ref r] W (fun v V => v = some (.ref a) ∧ FlI lo μ V a (l ++ s) (k + 1) (L + m)) := by
  have h4 := h.2.2.2
  obtain ⟨v, V, hc, e, he, hn, hs2⟩ := t_J4_append_15ec4 h.wf h.1 hs (by omega) (by have := h.2.2.1; omega)
  exact ⟨v, V, hc, e, h.sb he hn hs2 (by rw [List.length_append]; omega)⟩
theorem fs_C {x k L : Nat} (h : FlI lo μ W a l k L) (hx : x < 128) (hL : L + 1 ≤ 900) (hk : wn μ + k + 1 < 1000000) : CV Y_J4_append_cf468 R_J4_append_cf468 [.ref a, .int (nI x)] W (fun v V => v = some (.ref a) ∧ FlI lo μ V a (l ++ [x]) (k + 1) (L + 1)) := by
  have h4 := h.2.2.2
  obtain ⟨v, V, hc, e, he, hn, hs2⟩ := t_J4_append_cf468 h.wf h.1 hx (by omega) (by have := h.2.2.1; omega)
  exact ⟨v, V, hc, e, h.sb he hn hs2 (by rw [List.length_append]; show l.length + 1 ≤ _; omega)⟩
theorem fs_I {n k L : Nat} (h : FlI lo μ W a l k L) (hn9 : n < 100) (hL : L + 2 ≤ 900) (hk : wn μ + k + 1 < 1000000) : CV Y_J4_append_bf812 R_J4_append_bf812 [.ref a, .int (nI n)] W (fun v V => v = some (.ref a) ∧ FlI lo μ V a (l ++ dgL n) (k + 1) (L + 2)) := by
  have h4 := h.2.2.2
  obtain ⟨v, V, hc, e, he, hn, hs2⟩ := t_J4_append_bf812 h.wf h.1 hn9 (by omega) (by have := h.2.2.1; omega)
  exact ⟨v, V, hc, e, h.sb he hn hs2 (by rw [List.length_append]; have := (dgL_len n).2; omega)⟩
theorem kst_fits : ∀ c, c < 59 → ((kby c).length ≤ 60 ∧ ∀ x ∈ kby c, x < 128) := by decide +kernel
theorem kst_some : ∀ c, c < 59 → (kst[c]?).isSome = true := by decide +kernel
theorem ks (W : Wd) {c : Nat} (h : c < 59) : StrV W (1000000 + c) (kby c) := by
  obtain ⟨h1, h2⟩ := kst_fits c h
  obtain ⟨q, hq⟩ := Option.isSome_iff_exists.mp (kst_some c h)
  exact ⟨Nat.le_trans h1 (by decide), h2, Or.inl ⟨c, q, rfl, hq, rfl⟩⟩
end TXB
