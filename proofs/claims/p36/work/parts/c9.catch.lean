section CATCHROW
variable {Y : Yd} {rm : Room} {b : Nat × Nat} {μ : Wd} {pc : Nat} {la : List (Nat × Value)} {st : List Value}
theorem a_invC {Y2 : Yd} {rm2 : Room} {as sk : List Value} {X : String} {μ2 : Wd} {i a ci n : Nat}
    (hct : Ct Y2 rm2 (.ref a :: as) μ (.inr X) μ2) (hsk : sk = as.reverse ++ .ref a :: st) (hd : decode Y.2.1 pc = .ok (.invokevirtual i, 3)) (hy : YOK Y2 n) (hin : Cond.instanceMethod Y2.1 ∈ lwa) (hse : Cond.selects Y2.1.cls Y2.1 Y2.1 ∈ lwa) (hl : Cond.methodLink Y.1.cls i Y2.1 ∈ lwa) (ha : as.length = n) (ho : Ob μ a ci) (hci : ci < 13) (hc : ∀ r, vwCl[ci]? = some r → r.1 = Y2.1.cls) (hR : rm2.frames + 1 ≤ rm.frames ∧ 8 + (Y2.2.2.1 + 11) + rm2.locals ≤ rm.locals) (hb : rm2.cells ≤ b.1 ∧ rm2.slots ≤ b.2) (hst : (st.map fun v => v.category).sum ≤ 8)
    {pre suf : List (Nat × Nat × Nat × Nat)} {s1 e1x hp ct : Nat} (htab : Y.2.2.2.2 = pre ++ (s1, e1x, hp, ct) :: suf)
    (hpass : ∀ z ∈ pre, z.2.2.2 ≠ 0 ∧ ∃ nm, Cond.classLink Y.1.cls z.2.2.2 nm ∈ lwa ∧ (X, nm) ∈ kNc) (hx : s1 ≤ pc ∧ pc < e1x) (h0 : ct ≠ 0) (hlink : Cond.classLink Y.1.cls ct X ∈ lwa) (hcs : X ∈ kCs)
    {h2 j : Nat} {z : Int} {kk : Int32} (hj : j < Y.2.2.1) (hs : decode Y.2.1 hp = .ok (.astore j, 2) ∧ h2 = hp + 2 ∨ (∃ f : Fin 4, decode Y.2.1 hp = .ok (.astore_n f, 1) ∧ (f : Nat) = j) ∧ h2 = hp + 1) (hd2 : decode Y.2.1 h2 = .ok (.iconst z, 1)) (hz : Int32.ofInt z = kk) (hd3 : decode Y.2.1 (h2 + 1) = .ok (.ireturn, 1)) (hr : Y.2.2.2.1 = some .int) : AW Y rm b μ pc la sk (.inl (some (.int kk))) μ2 := by
  intro p l e s m args below meth c H locs cells slots ls D cA base ad0 n0 ad C E g1 g2 g3
  have hr9 := runV_of (e := e) (below := below) hct hsk hd hy hin hse hl ha ho hci hc hR hb hst C E g2 g3
  intro T hT XX
  rcases hr9 T hT XX with ⟨v9, st0, t, T', L, q1, X', q3, q4, q5, ⟨ad1, v1, e1, -⟩, st9⟩ | ⟨q9, st0, t, T', L, E9, ce, q1, X', q3, q4, q5, ⟨ad1, e1, e3, e4, e5, e7⟩, q6, q7, q8, st9⟩
  · cases e1
  · cases e1
    obtain ⟨k1, k2, k3, k4, k5, k6, k7, k8, k9⟩ := E
    have hal : s.vm.Alike T'.vm := X'.warmed.alike
    have hS1 : va_S (fun q => base ≤ q) s.heap T'.heap (locs ++ L) := by
      refine ⟨Nat.le_trans k4.1 (by rw [q4, ← q1]; exact e7.1), fun q hq hn => ?_, fun q hq => ?_⟩
      · rw [q4, e7.2 q (by rw [q1]; exact Nat.lt_of_lt_of_le hq k4.1) hn, q1]
        exact k4.2.1 q hq hn
      · rcases List.mem_append.mp hq with h | h
        · exact k4.2.2 q h
        · exact q3 q h
    have hRl : Rl D cA base ad1 μ2 s T'.heap := by
      rw [q4]
      have ht : t.vm.Alike s.vm := by rw [← q5]; exact hal.symm
      exact ⟨e5.1, e5.2.1, e5.2.2.1, e5.2.2.2.1, va_X.moved ht e5.2.2.2.2.1, e5.2.2.2.2.2⟩
    have h9 := C.2.2.2.2.2.2.2.2.2
    rw [htab] at h9
    obtain ⟨cp, cr, hsplit, hcp, hcr⟩ := List.map_eq_append_iff.mp h9
    obtain ⟨x, csuf, rfl, hxe, hcs2⟩ := List.map_eq_cons_iff.mp hcr
    have x1 : x.startPc = s1 := congrArg (fun y => y.1) hxe
    have x2 : x.endPc = e1x := congrArg (fun y => y.2.1) hxe
    have x3 : x.handlerPc = hp := congrArg (fun y => y.2.2.1) hxe
    have x4 : x.catchType = ct := congrArg (fun y => y.2.2.2) hxe
    have hcast : (Cond.castable X X).before args s = true := by
      have h1 := k1.2.2.2.2.2.2.2.1.2 X hcs
      have e := Cond.onTables_vm (A := #[]) (A' := args) (U := s) (U' := s) s.vm (Cond.castable X X) rfl
      have hU : s.setVm s.vm = s := rfl
      rw [hU] at e
      rw [← e]
      exact h1
    obtain ⟨t2, a1, b1⟩ := vx_catch (Q := vx_MQ below (qC D cA base ad0 n0 (.inl (some (.int kk))) μ2) (xC D cA base ad0 n0 (.inl (some (.int kk))) μ2) args s rm.cells rm.slots (fun q => base ≤ q)) (pc := pc) (ls := ls) (rest := st.map (tv ad)) (E := X) (name := X) (ce := ce) (q := q9) (H := T'.heap) (locs := locs ++ L) (cells := cells + rm2.cells) (slots := slots + rm2.slots) (below := below) (e := e) (p := p) (l := l) (R := rm) (s := s) (m := m) (args := args) (meth := meth) (c := c) C.2.2.2.2.1 cp x csuf hsplit
      (fun y hy2 => by
        have hm : (y.startPc, y.endPc, y.handlerPc, y.catchType) ∈ pre := by rw [← hcp]; exact List.mem_map_of_mem hy2
        obtain ⟨a1, nm, a2, a3⟩ := hpass _ hm
        exact Or.inr ⟨a1, nm, C.2.2.2.2.2.1 _ a2, k1.2.2.2.2.2.2.1 _ a3⟩)
      (by unfold covers; rw [x1, x2]; simp [hx.1, hx.2]) (by rw [x4]; exact h0) (by rw [x4]; exact C.2.2.2.2.2.1 _ hlink) hcast (by rw [q4]; exact q6) q7 q8
      (by
        rw [x3]
        have fin : ∀ ls1 : Array Slot, W p l e rm s m args below meth c T'.heap (locs ++ L) (cells + rm2.cells) (slots + rm2.slots) (vx_MQ below (qC D cA base ad0 n0 (.inl (some (.int kk))) μ2) (xC D cA base ad0 n0 (.inl (some (.int kk))) μ2) args s rm.cells rm.slots (fun q => base ≤ q)) (F0 m h2 ls1 []) := fun ls1 =>
          lv_iconst C.1 C.2.1 hd2 hz (W.widen (k := rm.cells) (n := rm.slots) (by have := hb.1; omega) (by have := hb.2; omega) (vx_ret (W.zret C.1 C.2.1 (C.2.2.2.1.trans hr) rfl (fun t ht hW => ⟨ad1, some (.int kk), rfl, rfl, k6.tr e3 k7, Nat.le_trans k7 e4, Rl_at ht hW.alike hRl, fun z hz => by cases hz; trivial, va_S.F hS1 ht⟩) hS1.2.2 hd3 C.2.2.2.2.2.2.1)))
        rcases hs with ⟨hs, rfl⟩ | ⟨⟨f, hs, hf⟩, rfl⟩
        · exact lv_astore C.1 C.2.1 hs g3 hj rfl (fun ls1 _ => fin ls1)
        · exact lv_astore_n C.1 C.2.1 hs hf g3 hj rfl (fun ls1 _ => fin ls1)) T' rfl X'
    exact ⟨t2, st9.trans a1, b1⟩
theorem a_invD {Y2 : Yd} {rm2 : Room} {as sk : List Value} {X : String} {μ2 : Wd} {i a ci n : Nat}
    (hct : Ct Y2 rm2 (.ref a :: as) μ (.inr X) μ2) (hsk : sk = as.reverse ++ .ref a :: st) (hd : decode Y.2.1 pc = .ok (.invokevirtual i, 3)) (hy : YOK Y2 n) (hin : Cond.instanceMethod Y2.1 ∈ lwa) (hse : Cond.selects Y2.1.cls Y2.1 Y2.1 ∈ lwa) (hl : Cond.methodLink Y.1.cls i Y2.1 ∈ lwa) (ha : as.length = n) (ho : Ob μ a ci) (hci : ci < 13) (hc : ∀ r, vwCl[ci]? = some r → r.1 = Y2.1.cls) (hR : rm2.frames + 1 ≤ rm.frames ∧ 8 + (Y2.2.2.1 + 11) + rm2.locals ≤ rm.locals) (hb : rm2.cells ≤ b.1 ∧ rm2.slots ≤ b.2) (hst : (st.map fun v => v.category).sum ≤ 8)
    {pre suf : List (Nat × Nat × Nat × Nat)} {s1 e1x hp ct : Nat} (htab : Y.2.2.2.2 = pre ++ (s1, e1x, hp, ct) :: suf)
    (hpass : ∀ z ∈ pre, z.2.2.2 ≠ 0 ∧ ∃ nm, Cond.classLink Y.1.cls z.2.2.2 nm ∈ lwa ∧ (X, nm) ∈ kNc) (hx : s1 ≤ pc ∧ pc < e1x) (h0 : ct ≠ 0) (hlink : Cond.classLink Y.1.cls ct X ∈ lwa) (hcs : X ∈ kCs)
    {h2 j : Nat} {z : Int} {kk : Int32} (hj : j < Y.2.2.1) (hs : decode Y.2.1 hp = .ok (.astore j, 2) ∧ h2 = hp + 2 ∨ (∃ f : Fin 4, decode Y.2.1 hp = .ok (.astore_n f, 1) ∧ (f : Nat) = j) ∧ h2 = hp + 1) (hd2 : decode Y.2.1 h2 = .ok (.bipush z, 2)) (hz : (Int8.ofInt z).toInt32 = kk) (hd3 : decode Y.2.1 (h2 + 2) = .ok (.ireturn, 1)) (hr : Y.2.2.2.1 = some .int) : AW Y rm b μ pc la sk (.inl (some (.int kk))) μ2 := by
  intro p l e s m args below meth c H locs cells slots ls D cA base ad0 n0 ad C E g1 g2 g3
  have hr9 := runV_of (e := e) (below := below) hct hsk hd hy hin hse hl ha ho hci hc hR hb hst C E g2 g3
  intro T hT XX
  rcases hr9 T hT XX with ⟨v9, st0, t, T', L, q1, X', q3, q4, q5, ⟨ad1, v1, e1, -⟩, st9⟩ | ⟨q9, st0, t, T', L, E9, ce, q1, X', q3, q4, q5, ⟨ad1, e1, e3, e4, e5, e7⟩, q6, q7, q8, st9⟩
  · cases e1
  · cases e1
    obtain ⟨k1, k2, k3, k4, k5, k6, k7, k8, k9⟩ := E
    have hal : s.vm.Alike T'.vm := X'.warmed.alike
    have hS1 : va_S (fun q => base ≤ q) s.heap T'.heap (locs ++ L) := by
      refine ⟨Nat.le_trans k4.1 (by rw [q4, ← q1]; exact e7.1), fun q hq hn => ?_, fun q hq => ?_⟩
      · rw [q4, e7.2 q (by rw [q1]; exact Nat.lt_of_lt_of_le hq k4.1) hn, q1]
        exact k4.2.1 q hq hn
      · rcases List.mem_append.mp hq with h | h
        · exact k4.2.2 q h
        · exact q3 q h
    have hRl : Rl D cA base ad1 μ2 s T'.heap := by
      rw [q4]
      have ht : t.vm.Alike s.vm := by rw [← q5]; exact hal.symm
      exact ⟨e5.1, e5.2.1, e5.2.2.1, e5.2.2.2.1, va_X.moved ht e5.2.2.2.2.1, e5.2.2.2.2.2⟩
    have h9 := C.2.2.2.2.2.2.2.2.2
    rw [htab] at h9
    obtain ⟨cp, cr, hsplit, hcp, hcr⟩ := List.map_eq_append_iff.mp h9
    obtain ⟨x, csuf, rfl, hxe, hcs2⟩ := List.map_eq_cons_iff.mp hcr
    have x1 : x.startPc = s1 := congrArg (fun y => y.1) hxe
    have x2 : x.endPc = e1x := congrArg (fun y => y.2.1) hxe
    have x3 : x.handlerPc = hp := congrArg (fun y => y.2.2.1) hxe
    have x4 : x.catchType = ct := congrArg (fun y => y.2.2.2) hxe
    have hcast : (Cond.castable X X).before args s = true := by
      have h1 := k1.2.2.2.2.2.2.2.1.2 X hcs
      have e := Cond.onTables_vm (A := #[]) (A' := args) (U := s) (U' := s) s.vm (Cond.castable X X) rfl
      have hU : s.setVm s.vm = s := rfl
      rw [hU] at e
      rw [← e]
      exact h1
    obtain ⟨t2, a1, b1⟩ := vx_catch (Q := vx_MQ below (qC D cA base ad0 n0 (.inl (some (.int kk))) μ2) (xC D cA base ad0 n0 (.inl (some (.int kk))) μ2) args s rm.cells rm.slots (fun q => base ≤ q)) (pc := pc) (ls := ls) (rest := st.map (tv ad)) (E := X) (name := X) (ce := ce) (q := q9) (H := T'.heap) (locs := locs ++ L) (cells := cells + rm2.cells) (slots := slots + rm2.slots) (below := below) (e := e) (p := p) (l := l) (R := rm) (s := s) (m := m) (args := args) (meth := meth) (c := c) C.2.2.2.2.1 cp x csuf hsplit
      (fun y hy2 => by
        have hm : (y.startPc, y.endPc, y.handlerPc, y.catchType) ∈ pre := by rw [← hcp]; exact List.mem_map_of_mem hy2
        obtain ⟨a1, nm, a2, a3⟩ := hpass _ hm
        exact Or.inr ⟨a1, nm, C.2.2.2.2.2.1 _ a2, k1.2.2.2.2.2.2.1 _ a3⟩)
      (by unfold covers; rw [x1, x2]; simp [hx.1, hx.2]) (by rw [x4]; exact h0) (by rw [x4]; exact C.2.2.2.2.2.1 _ hlink) hcast (by rw [q4]; exact q6) q7 q8
      (by
        rw [x3]
        have fin : ∀ ls1 : Array Slot, W p l e rm s m args below meth c T'.heap (locs ++ L) (cells + rm2.cells) (slots + rm2.slots) (vx_MQ below (qC D cA base ad0 n0 (.inl (some (.int kk))) μ2) (xC D cA base ad0 n0 (.inl (some (.int kk))) μ2) args s rm.cells rm.slots (fun q => base ≤ q)) (F0 m h2 ls1 []) := fun ls1 =>
          lv_bipush C.1 C.2.1 hd2 hz (W.widen (k := rm.cells) (n := rm.slots) (by have := hb.1; omega) (by have := hb.2; omega) (vx_ret (W.zret C.1 C.2.1 (C.2.2.2.1.trans hr) rfl (fun t ht hW => ⟨ad1, some (.int kk), rfl, rfl, k6.tr e3 k7, Nat.le_trans k7 e4, Rl_at ht hW.alike hRl, fun z hz => by cases hz; trivial, va_S.F hS1 ht⟩) hS1.2.2 hd3 C.2.2.2.2.2.2.1)))
        rcases hs with ⟨hs, rfl⟩ | ⟨⟨f, hs, hf⟩, rfl⟩
        · exact lv_astore C.1 C.2.1 hs g3 hj rfl (fun ls1 _ => fin ls1)
        · exact lv_astore_n C.1 C.2.1 hs hf g3 hj rfl (fun ls1 _ => fin ls1)) T' rfl X'
    exact ⟨t2, st9.trans a1, b1⟩
end CATCHROW
section ENTH
variable {Y : Yd} {rm : Room} {μ μ1 : Wd} {o : Oc}
/-- what is said of a method with handlers that is called -/
def YOKH (Y : Yd) (n : Nat) : Prop :=
  Cond.codeWith Y.1 Y.2.1 Y.2.2.1 Y.2.2.2.1 Y.2.2.2.2 ∈ lwa ∧ Cond.initialized Y.1.cls ∈ lwa ∧ (Y.1.cls ≠ "java/lang/invoke/MethodHandle" ∧ Y.1.cls ≠ "java/lang/invoke/VarHandle") ∧ (parseMethodDescriptor Y.1.desc).map (fun d => d.parameters.length) = some n ∧ Y.2.2.2.2 ≠ [] ∧ plainName Y.1.cls = true
theorem hdw_cons (h : Y.2.2.2.2 ≠ []) : hdw Y = Cond.codeWith Y.1 Y.2.1 Y.2.2.1 Y.2.2.2.1 Y.2.2.2.2 := by
  unfold hdw
  split
  · rename_i e; exact absurd e h
  · rfl
theorem Ct.entH {n : Nat} {as : List Value} (hy : YOKH Y n) (hn : (lg_sl as).length ≤ Y.2.2.1) (h : AW Y rm (rm.cells, rm.slots) μ 0 (lv_args 0 as) [] o μ1) : Ct Y rm as μ o μ1 := by
  intro l D cA base ad hst
  obtain ⟨g1, g2, g3, g4, g5, g6⟩ := hy
  refine vx_ofWH (cc := Y.2.1) (maxL := Y.2.2.1) (ret := Y.2.2.2.1) (hh := Y.2.2.2.2) (ws' := lwa) g6 (by rw [hdw_cons g5]) ?_
  intro p e s m args below meth c s₁ B hml hv
  obtain ⟨rfl, hKF, hK, hR, hbase, hok⟩ := hv
  have hts : ∀ w ∈ lwa, w.before ((as.map (tv ad)).toArray) s = true := fun w hw => atoms_spec (ws := hdw Y :: lwa) B.pre w (List.mem_cons_of_mem _ hw)
  have h10 := vx_table (x := Y.1) B (hts _ g1)
  rw [lg_entry_eq]
  have hl := lv_entry (as.map (tv ad)) (n := Y.2.2.1) (by rw [lg_sl_len]; exact hn)
  rw [lv_args_tv] at hl
  refine h p l e s m _ below meth c s.heap [] 0 0 _ D cA base ad (wn μ) ad ⟨B.exec, B.bytes, hml, B.returns, findClass_of_methodNamed B.named, hts, B.notSynchronized, hst, (name_of_methodNamed B.named B.method).1, ?_⟩ ⟨hKF, hK, hR, va_S.rf, hbase, Ext.rfl', Nat.le_refl _, by simp, by simp⟩ (lv_args_ok as 0 hok) okS_nil hl
  rw [h10]
  unfold tableOf
  rw [List.map_map]
  exact List.map_id _
end ENTH
section INVSH
variable {Y : Yd} {rm : Room} {b : Nat × Nat} {μ μ1 : Wd} {pc : Nat} {la : List (Nat × Value)} {st : List Value} {o : Oc}
theorem a_invSH {Y2 : Yd} {rm2 : Room} {as sk : List Value} {v : Option Value} {μ2 : Wd} {i n : Nat} {b2 : Nat × Nat}
    (hct : Ct Y2 rm2 as μ (.inl v) μ2) (hsk : sk = as.reverse ++ st) (hd : decode Y.2.1 pc = .ok (.invokestatic i, 3)) (hy : YOKH Y2 n) (hin : Cond.static Y2.1 ∈ lwa) (hl : Cond.methodLink Y.1.cls i Y2.1 ∈ lwa) (ha : as.length = n) (hR : rm2.frames + 1 ≤ rm.frames ∧ 8 + (Y2.2.2.1 + 11) + rm2.locals ≤ rm.locals) (hb : rm2.cells + b2.1 ≤ b.1 ∧ rm2.slots + b2.2 ≤ b.2) (hst : (st.map fun v => v.category).sum ≤ 8)
    (kk : AW Y rm b2 μ2 (pc + 3) la (v.toList ++ st) o μ1) : AW Y rm b μ pc la sk o μ1 := by
  intro p l e s m args below meth c H locs cells slots ls D cA base ad0 n0 ad C E h1 h2 h3
  subst hsk
  have h4 := okS_app.mp h2
  have hts := C.2.2.2.2.2.1
  obtain ⟨g1, g2, g3, g4, g5, g6⟩ := hy
  have hw9 := hdw_cons g5
  have hG : GoodIn lwa (hdw Y2 :: lwa) := by
    rw [hw9]
    exact lwa_good (List.forall_mem_cons.mpr ⟨g1, fun w h => h⟩)
  have hm9 : Cond.codeWith Y2.1 Y2.2.1 Y2.2.2.1 Y2.2.2.2.1 Y2.2.2.2.2 ∈ hdw Y2 :: lwa := by rw [← hw9]; exact List.mem_cons_self
  have cw9 : vx_CSW rm s args Y.1.cls i Y2.1 Y2.2.1 Y2.2.2.1 Y2.2.2.2.1 Y2.2.2.2.2 (hdw Y2 :: lwa) rm2 rm2.cells rm2.slots n := by
    refine ⟨⟨rfl, rfl, hR.1, hR.2, pay_in hts hG, hm9⟩, hts _ g1, hts _ g2, g3, fun sig h => ?_, hts _ hl, hts _ hin⟩
    rw [h] at g4
    exact (Option.some.inj g4).symm
  refine a_back C E h1 h4.2 h3 hb (A2 := (as.map (tv ad)).toArray) ?_ kk
  refine vx_runSX (n := n) (As := as.map (tv ad)) (rest := st.map (tv ad)) (nL := Y.2.2.1) (own := Y.1.cls) (Ts := lwa) ⟨C.1, C.2.1, C.2.2.1, C.2.2.2.2.1, hts⟩ (hct l D cA base ad C.2.2.2.2.2.2.2.1) cw9 ⟨PcO.blind, PcO.go E (okS_rev.mp h4.1)⟩ rfl (by rw [List.length_map]; exact ha) h3.1 ?_ ?_ hd ⟨?_, ?_⟩
  · exact rev_tvS ad as st
  · exact lv_room (by rw [cat_tv]; exact hst)
  · have h5 := E.2.2.2.2.2.2.2.1
    have h6 := hb.1
    omega
  · have h5 := E.2.2.2.2.2.2.2.2
    have h6 := hb.2
    omega
end INVSH
section LWORDS
theorem kl_34 : Cond.classLink RL 34 "java/lang/IllegalStateException" ∈ lwa := lwa_in 841 (by decide +kernel) rfl
theorem kl_108 : Cond.classLink RL 108 "java/lang/IllegalArgumentException" ∈ lwa := lwa_in 1463 (by decide +kernel) rfl
abbrev Y_L_load : Yd := (yL_load, cL_load, 4, (some .int), [(6, 11, 12, 34)])
theorem cw_L_load : Cond.codeWith yL_load cL_load 4 (some .int) [(6, 11, 12, 34)] ∈ lwa := lwa_in 840 (by decide +kernel) rfl
theorem yh_L_load : YOKH Y_L_load 2 := ⟨cw_L_load, ini_RL, pn_RL.1, by decide +kernel, (by decide), pn_RL.2⟩
theorem sm_L_load : Cond.static yL_load ∈ lwa := lwa_in 839 (by decide +kernel) rfl
abbrev Y_L_undone : Yd := (yL_undone, cL_undone, 2, (some .int), [(0, 4, 5, 34)])
theorem cw_L_undone : Cond.codeWith yL_undone cL_undone 2 (some .int) [(0, 4, 5, 34)] ∈ lwa := lwa_in 1340 (by decide +kernel) rfl
theorem yh_L_undone : YOKH Y_L_undone 1 := ⟨cw_L_undone, ini_RL, pn_RL.1, by decide +kernel, (by decide), pn_RL.2⟩
theorem sm_L_undone : Cond.static yL_undone ∈ lwa := lwa_in 1339 (by decide +kernel) rfl
abbrev Y_L_boarded : Yd := (yL_boarded, cL_boarded, 5, (some .int), [(0, 7, 8, 34), (0, 7, 13, 108)])
theorem cw_L_boarded : Cond.codeWith yL_boarded cL_boarded 5 (some .int) [(0, 7, 8, 34), (0, 7, 13, 108)] ∈ lwa := lwa_in 1462 (by decide +kernel) rfl
theorem yh_L_boarded : YOKH Y_L_boarded 4 := ⟨cw_L_boarded, ini_RL, pn_RL.1, by decide +kernel, (by decide), pn_RL.2⟩
theorem sm_L_boarded : Cond.static yL_boarded ∈ lwa := lwa_in 1461 (by decide +kernel) rfl
abbrev Y_L_changed : Yd := (yL_changed, cL_changed, 4, (some .int), [(0, 6, 7, 34), (0, 6, 11, 108)])
theorem cw_L_changed : Cond.codeWith yL_changed cL_changed 4 (some .int) [(0, 6, 7, 34), (0, 6, 11, 108)] ∈ lwa := lwa_in 1482 (by decide +kernel) rfl
theorem yh_L_changed : YOKH Y_L_changed 3 := ⟨cw_L_changed, ini_RL, pn_RL.1, by decide +kernel, (by decide), pn_RL.2⟩
theorem sm_L_changed : Cond.static yL_changed ∈ lwa := lwa_in 1481 (by decide +kernel) rfl
abbrev Y_L_ordered : Yd := (yL_ordered, cL_ordered, 2, (some .int), [(0, 4, 5, 34)])
theorem cw_L_ordered : Cond.codeWith yL_ordered cL_ordered 2 (some .int) [(0, 4, 5, 34)] ∈ lwa := lwa_in 1502 (by decide +kernel) rfl
theorem yh_L_ordered : YOKH Y_L_ordered 1 := ⟨cw_L_ordered, ini_RL, pn_RL.1, by decide +kernel, (by decide), pn_RL.2⟩
theorem sm_L_ordered : Cond.static yL_ordered ∈ lwa := lwa_in 1501 (by decide +kernel) rfl
abbrev Y_L_stored : Yd := (yL_stored, cL_stored, 4, (some .int), [(0, 6, 7, 34)])
theorem cw_L_stored : Cond.codeWith yL_stored cL_stored 4 (some .int) [(0, 6, 7, 34)] ∈ lwa := lwa_in 1518 (by decide +kernel) rfl
theorem yh_L_stored : YOKH Y_L_stored 3 := ⟨cw_L_stored, ini_RL, pn_RL.1, by decide +kernel, (by decide), pn_RL.2⟩
theorem sm_L_stored : Cond.static yL_stored ∈ lwa := lwa_in 1517 (by decide +kernel) rfl
abbrev Y_L_unloaded : Yd := (yL_unloaded, cL_unloaded, 4, (some .int), [(0, 6, 7, 34)])
theorem cw_L_unloaded : Cond.codeWith yL_unloaded cL_unloaded 4 (some .int) [(0, 6, 7, 34)] ∈ lwa := lwa_in 1530 (by decide +kernel) rfl
theorem yh_L_unloaded : YOKH Y_L_unloaded 3 := ⟨cw_L_unloaded, ini_RL, pn_RL.1, by decide +kernel, (by decide), pn_RL.2⟩
theorem sm_L_unloaded : Cond.static yL_unloaded ∈ lwa := lwa_in 1529 (by decide +kernel) rfl
abbrev Y_L_topped : Yd := (yL_topped, cL_topped, 4, (some .int), [(0, 6, 7, 34)])
theorem cw_L_topped : Cond.codeWith yL_topped cL_topped 4 (some .int) [(0, 6, 7, 34)] ∈ lwa := lwa_in 1542 (by decide +kernel) rfl
theorem yh_L_topped : YOKH Y_L_topped 3 := ⟨cw_L_topped, ini_RL, pn_RL.1, by decide +kernel, (by decide), pn_RL.2⟩
theorem sm_L_topped : Cond.static yL_topped ∈ lwa := lwa_in 1541 (by decide +kernel) rfl
abbrev Y_L_passed : Yd := (yL_passed, cL_passed, 3, (some .int), [(0, 5, 6, 34)])
theorem cw_L_passed : Cond.codeWith yL_passed cL_passed 3 (some .int) [(0, 5, 6, 34)] ∈ lwa := lwa_in 1558 (by decide +kernel) rfl
theorem yh_L_passed : YOKH Y_L_passed 2 := ⟨cw_L_passed, ini_RL, pn_RL.1, by decide +kernel, (by decide), pn_RL.2⟩
theorem sm_L_passed : Cond.static yL_passed ∈ lwa := lwa_in 1557 (by decide +kernel) rfl
end LWORDS
