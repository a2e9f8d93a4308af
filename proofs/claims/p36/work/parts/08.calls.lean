section CORE3
variable {Y : Yd} {rm : Room} {b : Nat × Nat} {μ μ1 : Wd} {pc : Nat} {la : List (Nat × Value)} {st : List Value} {o : Oc}
theorem KF.go {ad : Nat → Nat} {base : Nat} {s U : State} {H : Heap} {locs : List Loc} (h : KF ad base s) (hS : va_S (fun q => base ≤ q) s.heap H locs) (hU : U.heap = H) (hW : s.WarmedH U.vm) : KF ad base U := by
  subst hU
  obtain ⟨h1, h2, h3, h4, h5, h6, h7, h8⟩ := h
  have hk := hS.2.1
  have hv := hW.alike
  refine ⟨(h1.kept hk).moved hv, (h2.kept hk).moved hv, (h3.kept hk).moved hv, ⟨(h4.1.kept hk).moved hv, fun t ht => ⟨((h4.2.1 t ht).1.kept hk).moved hv, ((h4.2.1 t ht).2.kept hk).moved hv⟩, h4.2.2.warm hW⟩, h5.imp (fun z => (z.kept hk).moved hv) (fun z => (z.kept hk).moved hv), fun c q hq => ?_, fun q hq => (h7 q hq).moved hv, ⟨h8.1.moved hv, h8.2.warm hW⟩⟩
  obtain ⟨g1, g2, g3, g4, g5⟩ := h6 c q hq
  exact ⟨vk_R.warm hW g1, (g2.kept hk).moved hv, (g3.kept hk).moved hv, (g4.kept hk).moved hv, (g5.kept hk).moved hv⟩
theorem KF.blind {ad : Nat → Nat} {base : Nat} {U : State} (h : KF ad base U) (g : JFrame) (mk : MethodId) (a : Array Value) : KF ad base (U.calling g mk a) := by
  obtain ⟨h1, h2, h3, h4, h5, h6, h7, h8⟩ := h
  have hv : U.vm.Alike (U.calling g mk a).vm := Vm.Alike.refl U.vm
  refine ⟨h1.moved hv, h2.moved hv, h3.moved hv, ⟨h4.1.moved hv, fun t ht => ⟨(h4.2.1 t ht).1.moved hv, (h4.2.1 t ht).2.moved hv⟩, h4.2.2.same rfl⟩, h5.imp (fun z => z.moved hv) (fun z => z.moved hv), fun c q hq => ?_, fun q hq => (h7 q hq).moved hv, ⟨h8.1.moved hv, h8.2.same rfl⟩⟩
  obtain ⟨g1, g2, g3, g4, g5⟩ := h6 c q hq
  exact ⟨vk_R.same rfl g1, g2.moved hv, g3.moved hv, g4.moved hv, g5.moved hv⟩
theorem KF.ext {ad ad1 : Nat → Nat} {base n : Nat} {s : State} (h : KF ad base s) (he : Ext ad n ad1) : KF ad1 base s := by
  obtain ⟨h1, h2, h3, h4, h5, h6, h7, h8⟩ := h
  refine ⟨h1, h2, h3, ⟨h4.1, fun t ht => by rw [he (1700001 + t) (Or.inr (by omega))]; exact h4.2.1 t ht, h4.2.2⟩, by rw [he 1700000 (Or.inr (by omega))]; exact h5, fun c q hq => ?_, h7, h8⟩
  rw [he (1000000 + c) (Or.inr (Nat.le_add_right _ _)), he (1500000 + c) (Or.inr (by omega))]
  exact h6 c q hq
theorem Rl.blind {D : va_G} {cA : Nat → ClassId} {base : Nat} {ad : Nat → Nat} {U : State} {H : Heap} (h : Rl D cA base ad μ U H) (g : JFrame) (mk : MethodId) (a : Array Value) : Rl D cA base ad μ (U.calling g mk a) H :=
  ⟨h.1, h.2.1, h.2.2.1, h.2.2.2.1, va_X.moved (Vm.Alike.refl U.vm) h.2.2.2.2.1, h.2.2.2.2.2⟩
abbrev PcO (D : va_G) (cA : Nat → ClassId) (base : Nat) (ad : Nat → Nat) (μ : Wd) (as : List Value) : Array Value → State → Prop :=
  va_Pc (as.map (tv ad)) (fun U => KF ad base U ∧ va_K D vwCl (tyL cA) U ∧ Rl D cA base ad μ U U.heap ∧ base ≤ U.heap.size ∧ okS (wn μ) as)
theorem PcO.blind {D : va_G} {cA : Nat → ClassId} {base : Nat} {ad : Nat → Nat} {as : List Value} : FrameBlind (PcO D cA base ad μ as) := fun a U g mk q =>
  ⟨q.1, q.2.1.blind g mk a, va_K.moved (Vm.Alike.refl U.vm) q.2.2.1, q.2.2.2.1.blind g mk a, q.2.2.2.2.1, q.2.2.2.2.2⟩
theorem PcO.go {b : Nat × Nat} {s : State} {H : Heap} {locs : List Loc} {cells slots : Nat} {D : va_G} {cA : Nat → ClassId} {base : Nat} {ad0 : Nat → Nat} {n0 : Nat} {ad : Nat → Nat} (E : Ev rm b μ s H locs cells slots D cA base ad0 n0 ad) {as : List Value} (has : okS (wn μ) as) : ∀ U : State, U.heap = H → s.WarmedH U.vm → PcO D cA base ad μ as (as.map (tv ad)).toArray U := fun U hU hW =>
  ⟨rfl, E.1.go E.2.2.2.1 hU hW, va_K.moved hW.alike E.2.1, Rl_at hU hW.alike E.2.2.1, by rw [hU]; exact Nat.le_trans E.2.2.2.2.1 E.2.2.2.1.1, has⟩
/-- what is said of a method that is called -/
def YOK (Y : Yd) (n : Nat) : Prop :=
  Cond.code Y.1 Y.2.1 Y.2.2.1 Y.2.2.2.1 ∈ lwa ∧ Cond.initialized Y.1.cls ∈ lwa ∧ (Y.1.cls ≠ "java/lang/invoke/MethodHandle" ∧ Y.1.cls ≠ "java/lang/invoke/VarHandle") ∧ (parseMethodDescriptor Y.1.desc).map (fun d => d.parameters.length) = some n ∧ Y.2.2.2.2 = [] ∧ plainName Y.1.cls = true
theorem hdw_nil (h : Y.2.2.2.2 = []) : hdw Y = Cond.code Y.1 Y.2.1 Y.2.2.1 Y.2.2.2.1 := by
  unfold hdw
  rw [h]
theorem YOK.B {Y2 : Yd} {n i : Nat} (hy : YOK Y2 n) (hl : Cond.methodLink Y.1.cls i Y2.1 ∈ lwa) {s : State} {args : Array Value} (hts : ∀ w ∈ lwa, w.before args s = true) {rm2 : Room} (hR : rm2.frames + 1 ≤ rm.frames ∧ 8 + (Y2.2.2.1 + 11) + rm2.locals ≤ rm.locals) :
    CallB rm s args Y.1.cls i Y2.1 Y2.2.1 Y2.2.2.1 Y2.2.2.2.1 (hdw Y2 :: lwa) rm2 rm2.cells rm2.slots n := by
  obtain ⟨g1, g2, g3, g4, g5, g6⟩ := hy
  have hg : GoodIn lwa (hdw Y2 :: lwa) := by
    rw [hdw_nil g5]
    exact lwa_good (List.forall_mem_cons.mpr ⟨g1, fun w h => h⟩)
  exact callB_of n hts hg (by rw [hdw_nil g5]) rfl rfl (hts _ g2) (hts _ hl) ⟨g3.1, g3.2, g4⟩ hR
/-- a call behind which all goes on -/
theorem a_back {p : Program} {l : Launch} {e : Env} {s : State} {m : MethodId} {args : Array Value} {below : List Frame} {meth : Method} {c : Code} {H : Heap} {locs : List Loc} {cells slots : Nat} {ls : Array Slot} {D : va_G} {cA : Nat → ClassId} {base : Nat} {ad0 : Nat → Nat} {n0 : Nat} {ad : Nat → Nat} {rm2 : Room} {μ2 : Wd} {v : Option Value} {sk : List Value} {A2 : Array Value}
    (C : Cx Y p l s m args meth c) (E : Ev rm b μ s H locs cells slots D cA base ad0 n0 ad) (h1 : okL (wn μ) la) (h2 : okS (wn μ) st) (h3 : lv_has ls Y.2.2.1 (la.map fun q => (q.1, tv ad q.2))) {b2 : Nat × Nat} (hb : rm2.cells + b2.1 ≤ b.1 ∧ rm2.slots + b2.2 ≤ b.2)
    (hr : vx_Run p l e rm s m args below meth c H locs cells slots rm2.cells rm2.slots (F0 m pc ls (sk.map (tv ad))) (st.map (tv ad)) (qC D cA base ad (wn μ) (.inl v) μ2 A2) (xC D cA base ad (wn μ) (.inl v) μ2) (fun q => base ≤ q))
    (kk : AW Y rm b2 μ2 (pc + 3) la (v.toList ++ st) o μ1) :
    W p l e rm s m args below meth c H locs cells slots (vx_MQ below (qC D cA base ad0 n0 o μ1) (xC D cA base ad0 n0 o μ1) args s rm.cells rm.slots (fun q => base ≤ q)) (F0 m pc ls (sk.map (tv ad))) := by
  intro T hT X
  rcases hr T hT X with ⟨v9, st0, t, T', L, q1, X', q3, q4, q5, ⟨ad1, v1, e1, e2, e3, e4, e5, e6, e7⟩, st9⟩ | ⟨q9, st0, t, T', L, E9, ce, q1, X', q3, q4, q5, ⟨ad1, e1, -⟩, -⟩
  · cases e1
    cases e2
    obtain ⟨k1, k2, k3, k4, k5, k6, k7, k8, k9⟩ := E
    have hal : s.vm.Alike T'.vm := X'.warmed.alike
    have hS1 : va_S (fun q => base ≤ q) s.heap T'.heap (locs ++ L) := by
      refine ⟨Nat.le_trans k4.1 (by rw [q4, ← q1]; exact e7.1), fun q hq hn => ?_, fun q hq => ?_⟩
      · rw [q4, e7.2 q (by rw [q1]; exact Nat.lt_of_lt_of_le hq k4.1) hn, q1]
        exact k4.2.1 q hq hn
      · rcases List.mem_append.mp hq with h | h
        · exact k4.2.2 q h
        · exact q3 q h
    have hRl : Rl D cA base ad1 μ2 s T'.heap := by
      rw [q4]
      have ht : t.vm.Alike s.vm := by rw [← q5]; exact hal.symm
      exact ⟨e5.1, e5.2.1, e5.2.2.1, e5.2.2.2.1, va_X.moved ht e5.2.2.2.2.1, e5.2.2.2.2.2⟩
    have hst : (v.map (tv ad1)).toList ++ st.map (tv ad) = (v.toList ++ st).map (tv ad1) := by
      rw [List.map_append, tvs_ext e3 h2]
      cases v <;> rfl
    obtain ⟨t2, a1, b1⟩ := kk p l e s m args below meth c T'.heap (locs ++ L) (cells + rm2.cells) (slots + rm2.slots) ls D cA base ad0 n0 ad1 C
      ⟨k1.ext e3, k2, hRl, hS1, k5, k6.tr e3 k7, Nat.le_trans k7 e4, by have := hb.1; omega, by have := hb.2; omega⟩ (okL_mono e4 h1)
      (fun u hu => by
        rcases List.mem_append.mp hu with h | h
        · exact e6 u (by cases v <;> simp_all)
        · exact okV_mono e4 (h2 u h)) (by rw [tvl_ext e3 h1]; exact h3) T' rfl X'
    rw [← hst] at a1
    exact ⟨t2, st9 t2 a1, b1⟩
  · cases e1
/-- a call that throws, in a method without a table -/
theorem a_backX {p : Program} {l : Launch} {e : Env} {s : State} {m : MethodId} {args : Array Value} {below : List Frame} {meth : Method} {c : Code} {H : Heap} {locs : List Loc} {cells slots : Nat} {ls : Array Slot} {D : va_G} {cA : Nat → ClassId} {base : Nat} {ad0 : Nat → Nat} {n0 : Nat} {ad : Nat → Nat} {rm2 : Room} {μ2 : Wd} {X : String} {sk : List Value} {A2 : Array Value}
    (hY : Y.2.2.2.2 = []) (C : Cx Y p l s m args meth c) (E : Ev rm b μ s H locs cells slots D cA base ad0 n0 ad) (hb : rm2.cells ≤ b.1 ∧ rm2.slots ≤ b.2)
    (hr : vx_Run p l e rm s m args below meth c H locs cells slots rm2.cells rm2.slots (F0 m pc ls (sk.map (tv ad))) (st.map (tv ad)) (qC D cA base ad (wn μ) (.inr X) μ2 A2) (xC D cA base ad (wn μ) (.inr X) μ2) (fun q => base ≤ q)) :
    W p l e rm s m args below meth c H locs cells slots (vx_MQ below (qC D cA base ad0 n0 (.inr X) μ2) (xC D cA base ad0 n0 (.inr X) μ2) args s rm.cells rm.slots (fun q => base ≤ q)) (F0 m pc ls (sk.map (tv ad))) := by
  intro T hT XX
  rcases hr T hT XX with ⟨v9, st0, t, T', L, q1, X', q3, q4, q5, ⟨ad1, v1, e1, -⟩, st9⟩ | ⟨q9, st0, t, T', L, E9, ce, q1, X', q3, q4, q5, ⟨ad1, e1, e3, e4, e5, e7⟩, q6, q7, q8, st9⟩
  · cases e1
  · cases e1
    obtain ⟨k1, k2, k3, k4, k5, k6, k7, k8, k9⟩ := E
    have hal : s.vm.Alike T'.vm := X'.warmed.alike
    have hS1 : va_S (fun q => base ≤ q) s.heap T'.heap (locs ++ L) := by
      refine ⟨Nat.le_trans k4.1 (by rw [q4, ← q1]; exact e7.1), fun q hq hn => ?_, fun q hq => ?_⟩
      · rw [q4, e7.2 q (by rw [q1]; exact Nat.lt_of_lt_of_le hq k4.1) hn, q1]
        exact k4.2.1 q hq hn
      · rcases List.mem_append.mp hq with h | h
        · exact k4.2.2 q h
        · exact q3 q h
    have hRl : Rl D cA base ad1 μ2 s T'.heap := by
      rw [q4]
      have ht : t.vm.Alike s.vm := by rw [← q5]; exact hal.symm
      exact ⟨e5.1, e5.2.1, e5.2.2.1, e5.2.2.2.1, va_X.moved ht e5.2.2.2.2.1, e5.2.2.2.2.2⟩
    have htab : ∀ x ∈ c.exceptionTable.toList, covers x pc = false := by
      have h9 := C.2.2.2.2.2.2.2.2.2
      rw [hY] at h9
      have h10 : c.exceptionTable.toList = [] := List.map_eq_nil_iff.mp h9
      rw [h10]
      exact fun x hx => nomatch hx
    obtain ⟨t2, a1, b1⟩ := vx_out (Qc := qC D cA base ad0 n0 (.inr X) μ2) (XC := xC D cA base ad0 n0 (.inr X) μ2) (free := fun q => base ≤ q) (pc := pc) (ls := ls) (rest := st.map (tv ad)) (E := X) (ce := ce) (q := q9) (mc := rm.cells) (ms := rm.slots) (H := T'.heap) (locs := locs ++ L) (cells := cells + rm2.cells) (slots := slots + rm2.slots) (below := below) (e := e) (p := p) (l := l) (R := rm) (s := s) (m := m) (args := args) (meth := meth) (c := c) htab C.2.2.2.2.2.2.1 (by rw [q4]; exact q6) q7 q8
      (fun t9 ht9 hv9 => ⟨ad1, rfl, k6.tr e3 k7, Nat.le_trans k7 e4, Rl_at ht9 hv9 hRl, va_S.F hS1 ht9⟩) hS1.2.2 (by have := hb.1; omega) (by have := hb.2; omega) T' rfl X'
    exact ⟨t2, st9.trans a1, b1⟩
theorem rev_tv (ad : Nat → Nat) (as : List Value) (a : Nat) (st : List Value) : (as.reverse ++ .ref a :: st).map (tv ad) = (as.map (tv ad)).reverse ++ .ref (ad a) :: st.map (tv ad) := by
  rw [List.map_append, List.map_reverse]
  rfl
theorem rev_tvS (ad : Nat → Nat) (as st : List Value) : (as.reverse ++ st).map (tv ad) = (as.map (tv ad)).reverse ++ st.map (tv ad) := by
  rw [List.map_append, List.map_reverse]
theorem cat_tv (ad : Nat → Nat) (st : List Value) : ((st.map (tv ad)).map fun v => v.category) = st.map fun v => v.category := by
  rw [List.map_map]
  exact List.map_congr_left fun v _ => tv_cat ad v
theorem okS_app {n : Nat} {as bs : List Value} : okS n (as ++ bs) ↔ okS n as ∧ okS n bs := List.forall_mem_append
theorem okS_rev {n : Nat} {as : List Value} : okS n as.reverse ↔ okS n as := by simp [okS]
theorem runV_of {Y2 : Yd} {rm2 : Room} {as sk : List Value} {o2 : Oc} {μ2 : Wd} {i a ci n : Nat} {p : Program} {l : Launch} {e : Env} {s : State} {m : MethodId} {args : Array Value} {below : List Frame} {meth : Method} {c : Code} {H : Heap} {locs : List Loc} {cells slots : Nat} {ls : Array Slot} {D : va_G} {cA : Nat → ClassId} {base : Nat} {ad0 : Nat → Nat} {n0 : Nat} {ad : Nat → Nat}
    (hct : Ct Y2 rm2 (.ref a :: as) μ o2 μ2) (hsk : sk = as.reverse ++ .ref a :: st) (hd : decode Y.2.1 pc = .ok (.invokevirtual i, 3)) (hy : YOK Y2 n) (hin : Cond.instanceMethod Y2.1 ∈ lwa) (hse : Cond.selects Y2.1.cls Y2.1 Y2.1 ∈ lwa) (hl : Cond.methodLink Y.1.cls i Y2.1 ∈ lwa) (ha : as.length = n) (ho : Ob μ a ci) (hci : ci < 13) (hc : ∀ r, vwCl[ci]? = some r → r.1 = Y2.1.cls) (hR : rm2.frames + 1 ≤ rm.frames ∧ 8 + (Y2.2.2.1 + 11) + rm2.locals ≤ rm.locals) (hb : rm2.cells ≤ b.1 ∧ rm2.slots ≤ b.2) (hst : (st.map fun v => v.category).sum ≤ 8)
    (C : Cx Y p l s m args meth c) (E : Ev rm b μ s H locs cells slots D cA base ad0 n0 ad) (h2 : okS (wn μ) sk) (h3 : lv_has ls Y.2.2.1 (la.map fun q => (q.1, tv ad q.2))) :
    vx_Run p l e rm s m args below meth c H locs cells slots rm2.cells rm2.slots (F0 m pc ls (sk.map (tv ad))) (st.map (tv ad)) (qC D cA base ad (wn μ) o2 μ2 ((Value.ref a :: as).map (tv ad)).toArray) (xC D cA base ad (wn μ) o2 μ2) (fun q => base ≤ q) := by
  subst hsk
  have hts := C.2.2.2.2.2.1
  have hB := hy.B (Y := Y) (rm := rm) hl hts hR
  have he : (wsO ad cA μ)[a]? = some (ad a, .inr (ci, fvs ad μ a ci)) := by rw [wsO_get ho.1, ent_obj ho.2 hci]
  obtain ⟨r9, hr9⟩ : ∃ r, vwCl[ci]? = some r := by
    rcases hq : vwCl[ci]? with _ | r
    · exact absurd hq (by rw [List.getElem?_eq_none_iff]; show ¬ 13 ≤ ci; omega)
    · exact ⟨r, rfl⟩
  have hrecv := va_recv (D := D) E.2.1 E.2.2.1.1 hr9 he
  rw [hc r9 hr9] at hrecv
  have hok : okS (wn μ) (.ref a :: as) := by
    have h4 := okS_app.mp h2
    exact okS_cons.mpr ⟨(okS_cons.mp h4.2).1, okS_rev.mp h4.1⟩
  refine vx_runV (n := n) (C := Y2.1.cls) (b := ad a) (As := as.map (tv ad)) (rest := st.map (tv ad)) (nL := Y.2.2.1) (own := Y.1.cls) (Ts := lwa) ⟨C.1, C.2.1, C.2.2.1, C.2.2.2.2.1, hts⟩ (hct l D cA base ad C.2.2.2.2.2.2.2.1) ⟨hB, hts _ hin, hts _ hse⟩ ⟨PcO.blind, hrecv, PcO.go E hok⟩ rfl (by rw [List.length_map]; exact ha) h3.1 ?_ ?_ hd ⟨?_, ?_⟩
  · exact rev_tv ad as a st
  · exact lv_room (by rw [cat_tv]; exact hst)
  · have h5 := E.2.2.2.2.2.2.2.1
    have h6 := hb.1
    omega
  · have h5 := E.2.2.2.2.2.2.2.2
    have h6 := hb.2
    omega
/-- a call of a method of the object a -/
theorem a_inv {Y2 : Yd} {rm2 : Room} {as sk : List Value} {v : Option Value} {μ2 : Wd} {i a ci n : Nat} {b2 : Nat × Nat}
    (hct : Ct Y2 rm2 (.ref a :: as) μ (.inl v) μ2) (hsk : sk = as.reverse ++ .ref a :: st) (hd : decode Y.2.1 pc = .ok (.invokevirtual i, 3)) (hy : YOK Y2 n) (hin : Cond.instanceMethod Y2.1 ∈ lwa) (hse : Cond.selects Y2.1.cls Y2.1 Y2.1 ∈ lwa) (hl : Cond.methodLink Y.1.cls i Y2.1 ∈ lwa) (ha : as.length = n) (ho : Ob μ a ci) (hci : ci < 13) (hc : ∀ r, vwCl[ci]? = some r → r.1 = Y2.1.cls) (hR : rm2.frames + 1 ≤ rm.frames ∧ 8 + (Y2.2.2.1 + 11) + rm2.locals ≤ rm.locals) (hb : rm2.cells + b2.1 ≤ b.1 ∧ rm2.slots + b2.2 ≤ b.2) (hst : (st.map fun v => v.category).sum ≤ 8)
    (kk : AW Y rm b2 μ2 (pc + 3) la (v.toList ++ st) o μ1) : AW Y rm b μ pc la sk o μ1 := by
  intro p l e s m args below meth c H locs cells slots ls D cA base ad0 n0 ad C E h1 h2 h3
  have h4 : okS (wn μ) st := by
    rw [hsk] at h2
    exact (okS_cons.mp (okS_app.mp h2).2).2
  exact a_back C E h1 h4 h3 hb (runV_of hct hsk hd hy hin hse hl ha ho hci hc hR ⟨by have := hb.1; omega, by have := hb.2; omega⟩ hst C E h2 h3) kk
theorem a_invX {Y2 : Yd} {rm2 : Room} {as sk : List Value} {X : String} {μ2 : Wd} {i a ci n : Nat}
    (hct : Ct Y2 rm2 (.ref a :: as) μ (.inr X) μ2) (hsk : sk = as.reverse ++ .ref a :: st) (hd : decode Y.2.1 pc = .ok (.invokevirtual i, 3)) (hy : YOK Y2 n) (hin : Cond.instanceMethod Y2.1 ∈ lwa) (hse : Cond.selects Y2.1.cls Y2.1 Y2.1 ∈ lwa) (hl : Cond.methodLink Y.1.cls i Y2.1 ∈ lwa) (ha : as.length = n) (ho : Ob μ a ci) (hci : ci < 13) (hc : ∀ r, vwCl[ci]? = some r → r.1 = Y2.1.cls) (hR : rm2.frames + 1 ≤ rm.frames ∧ 8 + (Y2.2.2.1 + 11) + rm2.locals ≤ rm.locals) (hb : rm2.cells ≤ b.1 ∧ rm2.slots ≤ b.2) (hst : (st.map fun v => v.category).sum ≤ 8) (hY : Y.2.2.2.2 = []) : AW Y rm b μ pc la sk (.inr X) μ2 := by
  intro p l e s m args below meth c H locs cells slots ls D cA base ad0 n0 ad C E h1 h2 h3
  exact a_backX hY C E hb (runV_of hct hsk hd hy hin hse hl ha ho hci hc hR hb hst C E h2 h3)
theorem a_invS {Y2 : Yd} {rm2 : Room} {as sk : List Value} {v : Option Value} {μ2 : Wd} {i n : Nat} {b2 : Nat × Nat}
    (hct : Ct Y2 rm2 as μ (.inl v) μ2) (hsk : sk = as.reverse ++ st) (hd : decode Y.2.1 pc = .ok (.invokestatic i, 3)) (hy : YOK Y2 n) (hin : Cond.static Y2.1 ∈ lwa) (hl : Cond.methodLink Y.1.cls i Y2.1 ∈ lwa) (ha : as.length = n) (hR : rm2.frames + 1 ≤ rm.frames ∧ 8 + (Y2.2.2.1 + 11) + rm2.locals ≤ rm.locals) (hb : rm2.cells + b2.1 ≤ b.1 ∧ rm2.slots + b2.2 ≤ b.2) (hst : (st.map fun v => v.category).sum ≤ 8)
    (kk : AW Y rm b2 μ2 (pc + 3) la (v.toList ++ st) o μ1) : AW Y rm b μ pc la sk o μ1 := by
  intro p l e s m args below meth c H locs cells slots ls D cA base ad0 n0 ad C E h1 h2 h3
  subst hsk
  have h4 := okS_app.mp h2
  have hts := C.2.2.2.2.2.1
  have hB := hy.B (Y := Y) (rm := rm) hl hts hR
  refine a_back C E h1 h4.2 h3 hb (A2 := (as.map (tv ad)).toArray) ?_ kk
  refine vx_runS (n := n) (As := as.map (tv ad)) (rest := st.map (tv ad)) (nL := Y.2.2.1) (own := Y.1.cls) (Ts := lwa) ⟨C.1, C.2.1, C.2.2.1, C.2.2.2.2.1, hts⟩ (hct l D cA base ad C.2.2.2.2.2.2.2.1) ⟨hB, hts _ hin⟩ ⟨PcO.blind, PcO.go E (okS_rev.mp h4.1)⟩ rfl (by rw [List.length_map]; exact ha) h3.1 ?_ ?_ hd ⟨?_, ?_⟩
  · exact rev_tvS ad as st
  · exact lv_room (by rw [cat_tv]; exact hst)
  · have h5 := E.2.2.2.2.2.2.2.1
    have h6 := hb.1
    omega
  · have h5 := E.2.2.2.2.2.2.2.2
    have h6 := hb.2
    omega
theorem lv_args_tv (ad : Nat → Nat) : ∀ (as : List Value) (i : Nat), lv_args i (as.map (tv ad)) = (lv_args i as).map fun q => (q.1, tv ad q.2)
  | [], _ => rfl
  | v :: as, i => by
    show (i, tv ad v) :: lv_args (if (tv ad v).category = 2 then i + 2 else i + 1) (as.map (tv ad)) = _
    rw [tv_cat, lv_args_tv ad as]
    rfl
theorem lv_args_ok {n : Nat} : ∀ (as : List Value) (i : Nat), okS n as → okL n (lv_args i as)
  | [], _, _ => fun _ h => nomatch h
  | v :: as, i, h => fun q hq => by
    rcases List.mem_cons.mp hq with rfl | hq
    · exact (okS_cons.mp h).1
    · exact lv_args_ok as _ (okS_cons.mp h).2 q hq
theorem lg_sl_len (ad : Nat → Nat) : ∀ as : List Value, (lg_sl (as.map (tv ad))).length = (lg_sl as).length
  | [] => rfl
  | v :: as => by
    have h := lg_sl_len ad as
    unfold lg_sl at h ⊢
    simp only [List.map_cons, List.flatMap_cons, List.length_append, tv_cat, h]
    congr 1
    split <;> rfl
/-- a contract, out of its method's walk -/
theorem Ct.ent {n : Nat} {as : List Value} (hy : YOK Y n) (hn : (lg_sl as).length ≤ Y.2.2.1) (h : AW Y rm (rm.cells, rm.slots) μ 0 (lv_args 0 as) [] o μ1) : Ct Y rm as μ o μ1 := by
  intro l D cA base ad hst
  obtain ⟨g1, g2, g3, g4, g5, g6⟩ := hy
  refine vx_ofW (cc := Y.2.1) (maxL := Y.2.2.1) (ret := Y.2.2.2.1) (ws' := lwa) g6 (by rw [hdw_nil g5]) ?_
  intro p e s m args below meth c s₁ B hml htab hv
  obtain ⟨rfl, hKF, hK, hR, hbase, hok⟩ := hv
  have hts : ∀ w ∈ lwa, w.before ((as.map (tv ad)).toArray) s = true := fun w hw => atoms_spec (ws := hdw Y :: lwa) B.pre w (List.mem_cons_of_mem _ hw)
  rw [lg_entry_eq]
  have hl := lv_entry (as.map (tv ad)) (n := Y.2.2.1) (by rw [lg_sl_len]; exact hn)
  rw [lv_args_tv] at hl
  refine h p l e s m _ below meth c s.heap [] 0 0 _ D cA base ad (wn μ) ad ⟨B.exec, B.bytes, hml, B.returns, findClass_of_methodNamed B.named, hts, B.notSynchronized, hst, (name_of_methodNamed B.named B.method).1, ?_⟩ ⟨hKF, hK, hR, va_S.rf, hbase, Ext.rfl', Nat.le_refl _, by simp, by simp⟩ (lv_args_ok as 0 hok) okS_nil hl
  have h10 : c.exceptionTable.toList = [] := List.eq_nil_iff_forall_not_mem.mpr fun x hx => htab x hx
  rw [h10, g5]
  rfl
/-- the room of a contract may be more -/
theorem Ct.cast {as : List Value} {o' : Oc} {μ1' : Wd} (ho : o' = o) (hm : μ1' = μ1) (h : Ct Y rm as μ o' μ1') : Ct Y rm as μ o μ1 := ho ▸ hm ▸ h
end CORE3
