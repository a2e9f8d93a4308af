section CATCHROW
variable {Y : Yd} {rm : Room} {b : Nat × Nat} {μ : Wd} {pc : Nat} {la : List (Nat × Value)} {st : List Value}
theorem a_invC {Y2 : Yd} {rm2 : Room} {as sk : List Value} {X : String} {μ2 : Wd} {i a ci n : Nat}
    (hct : Ct Y2 rm2 (.ref a :: as) μ (.inr X) μ2) (hsk : sk = as.reverse ++ .ref a :: st) (hd : decode Y.2.1 pc = .ok (.invokevirtual i, 3)) (hy : YOK Y2 n) (hin : Cond.instanceMethod Y2.1 ∈ lwa) (hse : Cond.selects Y2.1.cls Y2.1 Y2.1 ∈ lwa) (hl : Cond.methodLink Y.1.cls i Y2.1 ∈ lwa) (ha : as.length = n) (ho : Ob μ a ci) (hci : ci < 13) (hc : ∀ r, vwCl[ci]? = some r → r.1 = Y2.1.cls) (hR : rm2.frames + 1 ≤ rm.frames ∧ 8 + (Y2.2.2.1 + 11) + rm2.locals ≤ rm.locals) (hb : rm2.cells ≤ b.1 ∧ rm2.slots ≤ b.2) (hst : (st.map fun v => v.category).sum ≤ 8)
    {pre suf : List (Nat × Nat × Nat × Nat)} {s1 e1x hp ct : Nat} (htab : Y.2.2.2.2 = pre ++ (s1, e1x, hp, ct) :: suf)
    (hpass : ∀ z ∈ pre, z.2.2.2 ≠ 0 ∧ ∃ nm, Cond.classLink Y.1.cls z.2.2.2 nm ∈ lwa ∧ (X, nm) ∈ kNc) (hx : s1 ≤ pc ∧ pc < e1x) (h0 : ct ≠ 0) (hlink : Cond.classLink Y.1.cls ct X ∈ lwa) (hcs : X ∈ kCs)
    {h2 j : Nat} {z : Int} {kk : Int32} (hj : j < Y.2.2.1) (hs : decode Y.2.1 hp = .ok (.astore j, 2) ∧ h2 = hp + 2 ∨ (∃ f : Fin 4, decode Y.2.1 hp = .ok (.astore_n f, 1) ∧ (f : Nat) = j) ∧ h2 = hp + 1) (hd2 : decode Y.2.1 h2 = .ok (.iconst z, 1)) (hz : Int32.ofInt z = kk) (hd3 : decode Y.2.1 (h2 + 1) = .ok (.ireturn, 1)) (hr : Y.2.2.2.1 = some .int) : AW Y rm b μ pc la sk (.inl (some (.int kk))) μ2 := by
  intro p l e s m args below meth c H locs cells slots ls D cA base ad0 n0 ad C E g1 g2 g3
  have hr9 := runV_of (e := e) (below := below) hct hsk hd hy hin hse hl ha ho hci hc hR hb hst C E g2 g3
  intro T hT XX
  rcases hr9 T hT XX with ⟨v9, st0, t, T', L, q1, X', q3, q4, q5, ⟨ad1, v1, e1, -⟩, st9⟩ | ⟨q9, st0, t, T', L, E9, ce, q1, X', q3, q4, q5, ⟨ad1, e1, e3, e4, e5, e7⟩, q6, q7, q8, st9⟩
  · cases e1
  · cases e1
    obtain ⟨k1, k2, k3, k4, k5, k6, k7, k8, k9⟩ := E
    have hal : s.vm.Alike T'.vm := X'.warmed.alike
    have hS1 : va_S (fun q => base ≤ q) s.heap T'.heap (locs ++ L) := by
      refine ⟨Nat.le_trans k4.1 (by rw [q4, ← q1]; exact e7.1), fun q hq hn => ?_, fun q hq => ?_⟩
      · rw [q4, e7.2 q (by rw [q1]; exact Nat.lt_of_lt_of_le hq k4.1) hn, q1]
        exact k4.2.1 q hq hn
      · rcases List.mem_append.mp hq with h | h
        · exact k4.2.2 q h
        · exact q3 q h
    have hRl : Rl D cA base ad1 μ2 s T'.heap := by
      rw [q4]
      have ht : t.vm.Alike s.vm := by rw [← q5]; exact hal.symm
      exact ⟨e5.1, e5.2.1, e5.2.2.1, e5.2.2.2.1, va_X.moved ht e5.2.2.2.2.1, e5.2.2.2.2.2⟩
    have h9 := C.2.2.2.2.2.2.2.2.2
    rw [htab] at h9
    obtain ⟨cp, cr, hsplit, hcp, hcr⟩ := List.map_eq_append_iff.mp h9
    obtain ⟨x, csuf, rfl, hxe, hcs2⟩ := List.map_eq_cons_iff.mp hcr
    have x1 : x.startPc = s1 := congrArg (fun y => y.1) hxe
    have x2 : x.endPc = e1x := congrArg (fun y => y.2.1) hxe
    have x3 : x.handlerPc = hp := congrArg (fun y => y.2.2.1) hxe
    have x4 : x.catchType = ct := congrArg (fun y => y.2.2.2) hxe
    have hcast : (Cond.castable X X).before args s = true := by
      have h1 := k1.2.2.2.2.2.2.2.1.2 X hcs
      have e := Cond.onTables_vm (A := #[]) (A' := args) (U := s) (U' := s) s.vm (Cond.castable X X) rfl
      have hU : s.setVm s.vm = s := rfl
      rw [hU] at e
      rw [← e]
      exact h1
    obtain ⟨t2, a1, b1⟩ := vx_catch (Q := vx_MQ below (qC D cA base ad0 n0 (.inl (some (.int kk))) μ2) (xC D cA base ad0 n0 (.inl (some (.int kk))) μ2) args s rm.cells rm.slots (fun q => base ≤ q)) (pc := pc) (ls := ls) (rest := st.map (tv ad)) (E := X) (name := X) (ce := ce) (q := q9) (H := T'.heap) (locs := locs ++ L) (cells := cells + rm2.cells) (slots := slots + rm2.slots) (below := below) (e := e) (p := p) (l := l) (R := rm) (s := s) (m := m) (args := args) (meth := meth) (c := c) C.2.2.2.2.1 cp x csuf hsplit
      (fun y hy2 => by
        have hm : (y.startPc, y.endPc, y.handlerPc, y.catchType) ∈ pre := by rw [← hcp]; exact List.mem_map_of_mem hy2
        obtain ⟨a1, nm, a2, a3⟩ := hpass _ hm
        exact Or.inr ⟨a1, nm, C.2.2.2.2.2.1 _ a2, k1.2.2.2.2.2.2.1 _ a3⟩)
      (by unfold covers; rw [x1, x2]; simp [hx.1, hx.2]) (by rw [x4]; exact h0) (by rw [x4]; exact C.2.2.2.2.2.1 _ hlink) hcast (by rw [q4]; exact q6) q7 q8
      (by
        rw [x3]
        have fin : ∀ ls1 : Array Slot, W p l e rm s m args below meth c T'.heap (locs ++ L) (cells + rm2.cells) (slots + rm2.slots) (vx_MQ below (qC D cA base ad0 n0 (.inl (some (.int kk))) μ2) (xC D cA base ad0 n0 (.inl (some (.int kk))) μ2) args s rm.cells rm.slots (fun q => base ≤ q)) (F0 m h2 ls1 []) := fun ls1 =>
          lv_iconst C.1 C.2.1 hd2 hz (W.widen (k := rm.cells) (n := rm.slots) (by have := hb.1; omega) (by have := hb.2; omega) (vx_ret (W.zret C.1 C.2.1 (C.2.2.2.1.trans hr) rfl (fun t ht hW => ⟨ad1, some (.int kk), rfl, rfl, k6.tr e3 k7, Nat.le_trans k7 e4, Rl_at ht hW.alike hRl, fun z hz => by cases hz; trivial, va_S.F hS1 ht⟩) hS1.2.2 hd3 C.2.2.2.2.2.2.1)))
        rcases hs with ⟨hs, rfl⟩ | ⟨⟨f, hs, hf⟩, rfl⟩
        · exact lv_astore C.1 C.2.1 hs g3 hj rfl (fun ls1 _ => fin ls1)
        · exact lv_astore_n C.1 C.2.1 hs hf g3 hj rfl (fun ls1 _ => fin ls1)) T' rfl X'
    exact ⟨t2, st9.trans a1, b1⟩
end CATCHROW
