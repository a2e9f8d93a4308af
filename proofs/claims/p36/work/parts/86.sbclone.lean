section SBCLONE
variable {Y : Yd} {rm : Room} {b : Nat × Nat} {μ μ1 W : Wd} {pc : Nat} {la : List (Nat × Value)} {st : List Value} {o : Oc}
/-- one more cell, with the ints of the cell a -/
def clB (μ : Wd) (c9 a : Nat) : Wd := sIs (mk μ c9) (fun i k => if i = wn μ then gI μ a k else gI μ i k)
theorem gI_clB (μ : Wd) (c9 a i k : Nat) : gI (clB μ c9 a) i k = if i = wn μ then gI μ a k else gI μ i k := rfl
theorem gR_clB (μ : Wd) (c9 a i k : Nat) : gR (clB μ c9 a) i k = gR (mk μ c9) i k := rfl
theorem gL_clB (μ : Wd) (c9 a i k : Nat) : gL (clB μ c9 a) i k = gL (mk μ c9) i k := rfl
theorem wsO_clB {μ : Wd} {c9 a q : Nat} {ad : Nat → Nat} {cA : Nat → ClassId} (hn : wn μ < 1000000) (hr : ∀ i k j, i < wn μ → gR μ i k = some j → okI (wn μ) j) : wsO (upA ad (wn μ) q) cA (clB μ c9 a) = wsO ad cA μ ++ [(q, ent (upA ad (wn μ) q) cA (clB μ c9 a) (wn μ))] := by
  have h1 : wsO (upA ad (wn μ) q) cA (clB μ c9 a) = (wsO (upA ad (wn μ) q) cA (mk μ c9)).set (wn μ) (upA ad (wn μ) q (wn μ), ent (upA ad (wn μ) q) cA (clB μ c9 a) (wn μ)) := wsO_set (μ := mk μ c9) (μ' := clB μ c9 a) (a := wn μ) rfl (fun k9 hk9 => by
    have e1 : gI (clB μ c9 a) k9 = gI (mk μ c9) k9 := funext fun z => by rw [gI_clB, gI_mk, if_neg hk9, if_neg hk9]
    have e2 : gL (clB μ c9 a) k9 = gL (mk μ c9) k9 := rfl
    have e3 : gR (clB μ c9 a) k9 = gR (mk μ c9) k9 := rfl
    unfold ent fvs
    rw [show km (clB μ c9 a) k9 = km (mk μ c9) k9 from rfl]
    have hfv : fv (upA ad (wn μ) q) (clB μ c9 a) k9 (km (mk μ c9) k9) = fv (upA ad (wn μ) q) (mk μ c9) k9 (km (mk μ c9) k9) := funext fun z => by
      unfold fv
      rw [e1, e2, e3]
    have hec : ec (upA ad (wn μ) q) (clB μ c9 a) k9 = ec (upA ad (wn μ) q) (mk μ c9) k9 := by
      unfold ec
      rw [show km (clB μ c9 a) k9 = km (mk μ c9) k9 from rfl, e1, e2, e3]
    rw [hfv, hec]
    rfl)
  rw [h1, wsO_mk hn hr, upA_at, List.set_append_right _ _ (by rw [wsO_len]; exact Nat.le_refl _), wsO_len, Nat.sub_self]
  rfl
theorem Ev.growB {s : State} {H H1 : Heap} {locs : List Loc} {cells slots : Nat} {D : va_G} {cA : Nat → ClassId} {base : Nat} {ad0 : Nat → Nat} {n0 : Nat} {ad : Nat → Nat} (E : Ev rm b μ s H locs cells slots D cA base ad0 n0 ad) (hn : wn μ + 1 < 1000000) {q c9 a x : Nat} {E9 : va_E} (hE : ent (upA ad (wn μ) q) cA (clB μ c9 a) (wn μ) = E9)
    (hP : va_P D vwCl (wsO ad cA μ ++ [(q, E9)]) H1) (hD : va_D (fun q => base ≤ q) (wsO ad cA μ ++ [(q, E9)])) (hS : va_S (fun q => base ≤ q) s.heap H1 locs) {b' : Nat × Nat} (hb : b = (b'.1 + 1, b'.2 + x)) : Ev rm b' (clB μ c9 a) s H1 locs (cells + 1) (slots + x) D cA base ad0 n0 (upA ad (wn μ) q) := by
  obtain ⟨e1, e2, ⟨r1, r2, r3, r4, r5, r6⟩, e4, e5, e6, e7, e8, e9⟩ := E
  have hx : upA ad (wn μ) q 2000000 = ad 2000000 := if_neg (by omega)
  have hr : ∀ i k j, i < wn (clB μ c9 a) → gR (clB μ c9 a) i k = some j → okI (wn (clB μ c9 a)) j := fun i k j hi hj => by
    rw [gR_clB, gR_mk] at hj
    split at hj
    · exact nomatch hj
    · have hi2 : i < wn μ + 1 := hi
      exact okI_mono (Nat.le_succ _) (r3 i k j (by omega) hj)
  rw [hb] at e8 e9
  have hw := wsO_clB (q := q) (c9 := c9) (a := a) (ad := ad) (cA := cA) r4 r3
  rw [hE] at hw
  exact ⟨e1.ext (Ext.up r4), e2, ⟨by rw [hw]; exact hP, by rw [hw]; exact hD, hr, hn, by rw [hx]; exact r5.kept (scr_kept e5 e4 hS r6), by rw [hx]; exact r6⟩, hS, e5, e6.tr (Ext.up r4) e7, Nat.le_succ_of_le e7, by have := e8; omega, by have := e9; omega⟩
theorem cl_ml : Cond.methodLink RJ7 310 ⟨"[B", "clone", "()Ljava/lang/Object;"⟩ ∈ lwa := lwa_in 1163 (by decide +kernel) rfl
theorem cl_sm : Cond.sameMethod "[B" "java/lang/Object" "clone" "()Ljava/lang/Object;" ∈ lwa := lwa_in 1164 (by decide +kernel) rfl
theorem cl_na : Cond.native ⟨"java/lang/Object", "clone", "()Ljava/lang/Object;"⟩ ∈ lwa := lwa_in 1165 (by decide +kernel) rfl
theorem cl_im : Cond.instanceMethod ⟨"java/lang/Object", "clone", "()Ljava/lang/Object;"⟩ ∈ lwa := lwa_in 1166 (by decide +kernel) rfl
theorem cl_se : Cond.selects "[B" ⟨"[B", "clone", "()Ljava/lang/Object;"⟩ ⟨"java/lang/Object", "clone", "()Ljava/lang/Object;"⟩ ∈ lwa := lwa_in 1167 (by decide +kernel) rfl
theorem cl_cl : Cond.classLink RJ7 311 "[B" ∈ lwa := lwa_in 1169 (by decide +kernel) rfl
theorem fc_B {D : va_G} {cA : Nat → ClassId} {s : State} (h : va_K D vwCl (tyL cA) s) : s.vm.findClass "[B" = some (cA 22) := by
  have k := (h.2 (22 - 20) _ (tyL_get cA (t := 22) (by omega) (by omega))).2
  have k2 : s.vm.findClass ("[" ++ FieldType.byte.toString) = some (cA 22) := k
  rw [show "[" ++ FieldType.byte.toString = "[B" by decide +kernel] at k2
  exact k2
/-- bytes.clone() -/
theorem a_cloneB {a n : Nat} (hY : Y.1.cls = RJ7) (hd : decode Y.2.1 pc = .ok (.invokevirtual 310, 3)) (hw : Wf μ) (ho : Ar μ a 22 n) (hx : ∀ j, j < n → ∃ x, x < 128 ∧ gI μ a j = nI x) (hn : wn μ + 1 < 1000000) (hf : 1 ≤ rm.frames) (hr : 40 ≤ rm.locals) (hst : (st.map fun v => v.category).sum ≤ 8) {b' : Nat × Nat} (hb : b = (b'.1 + 1, b'.2 + n)) (kk : AW Y rm b' (clB μ (n * 32 + 22) a) (pc + 3) la (.ref (wn μ) :: st) o μ1) : AW Y rm b μ pc la (.ref a :: st) o μ1 := by
  intro p l e s m args below meth c H locs cells slots ls D cA base ad0 n0 ad C E h1 h2 h3
  have hts := C.2.2.2.2.2.1
  have hown := C.2.2.2.2.1
  rw [hY] at hown
  have he : (wsO ad cA μ)[a]? = some (ad a, .inl (cA 22, n, .inl (gI μ a))) := by
    rw [wsO_get ho.1, ent_arr ho.2.1 (by omega) ho.2.2]
    unfold ec
    rw [ho.2.1]
    rfl
  have h4 := (okS_cons.mp h2).2
  refine va_clone (D := D) C.1 C.2.1 (C.2.2.1.trans h3.1.symm) hown (hts _ cl_ml) (hts _ cl_sm) (hts _ cl_na) (hts _ cl_im) (hts _ cl_se) E.1.2.2.2.1.2.2.1 E.2.1 E.2.2.1.1 E.2.2.1.2.1 E.2.2.2.1 (fun q h => Nat.le_trans E.2.2.2.2.1 h) a (22 - 20) he (tyL_get cA (t := 22) (by omega) (by omega)) (fc_B E.2.1) (fun i v hv => ?_) hf (by rw [cat_tv]; exact Nat.le_trans (Nat.add_le_add_right hst _) (Nat.le_trans (Nat.le_of_ble_eq_true rfl) hr)) (by have := E.2.2.2.2.2.2.2.1; rw [hb] at this; omega) (by have := E.2.2.2.2.2.2.2.2; rw [hb] at this; show slots + n ≤ _; omega) hd (fun q H1 hK hP hD hS => ?_)
  · rw [vp_cell_i] at hv
    unfold arrV at hv
    simp only [Array.getElem?_ofFn] at hv
    split at hv
    · next hi =>
      obtain ⟨x, q1, q2⟩ := hx i hi
      have := Option.some.inj hv
      rw [← this, q2]
      exact fit_b q1
    · exact nomatch hv
  · have hkm : km (clB μ (n * 32 + 22) a) (wn μ) = 22 := km_new hw.1 (by decide)
    have hal : al (clB μ (n * 32 + 22) a) (wn μ) = n := al_new hw.1 (by decide)
    have q1 : gI (clB μ (n * 32 + 22) a) (wn μ) = gI μ a := funext fun k => by rw [gI_clB, if_pos rfl]
    have hx9 := Ext.up (ad := ad) (q := q) E.2.2.1.2.2.2.1
    have k := kk p l e s m args below meth c H1 locs (cells + 1) (slots + n) ls D cA base ad0 n0 (upA ad (wn μ) q) C (E.growB hn (by rw [ent_arr hkm (by omega) hal]; unfold ec; rw [hkm, q1]; rfl) hP hD hS hb) (okL_mono (Nat.le_succ _) h1) (okS_cons.mpr ⟨Or.inl (Nat.lt_succ_self _), okS_mono (Nat.le_succ _) h4⟩) (by rw [tvl_ext hx9 h1]; exact h3)
    have e1 : (Value.ref (wn μ) :: st).map (tv (upA ad (wn μ) q)) = .ref q :: st.map (tv ad) := by
      rw [List.map_cons, tvs_ext hx9 h4]
      show Value.ref (upA ad (wn μ) q (wn μ)) :: _ = _
      rw [upA_at]
    rw [e1] at k
    exact k
theorem a_castB {a n : Nat} (hY : Y.1.cls = RJ7) (hd : decode Y.2.1 pc = .ok (.checkcast 311, 3)) (ho : Ar μ a 22 n) (kk : AW Y rm b μ (pc + 3) la (.ref a :: st) o μ1) : AW Y rm b μ pc la (.ref a :: st) o μ1 := by
  intro p l e s m args below meth c H locs cells slots ls D cA base ad0 n0 ad C E h1 h2 h3
  have hts := C.2.2.2.2.2.1
  have hown := C.2.2.2.2.1
  rw [hY] at hown
  have he : (wsO ad cA μ)[a]? = some (ad a, .inl (cA 22, n, .inl (gI μ a))) := by
    rw [wsO_get ho.1, ent_arr ho.2.1 (by omega) ho.2.2]
    unfold ec
    rw [ho.2.1]
    rfl
  exact va_castA C.1 C.2.1 hown (hts _ cl_cl) E.2.2.1.1 a he (fc_B E.2.1) hd (kk p l e s m args below meth c H locs cells slots ls D cA base ad0 n0 ad C E h1 h2 h3)
theorem clB_ex {S : Nat → Prop} (hw : Wf μ) (c9 a : Nat) : Ex S μ (clB μ c9 a) := by
  have h := Ex.mk (S := S) hw c9
  refine ⟨⟨h.1.1, h.1.2⟩, Nat.le_succ _, rfl, fun i hi => by show gN (mk μ c9) i = _; rw [gN_mk, if_neg (by omega)], fun i hi hs k => ⟨by rw [gI_clB, if_neg (by omega)], (h.2.2.2.2 i hi hs k).2.1, (h.2.2.2.2 i hi hs k).2.2⟩⟩
theorem Out.cpY {S : Nat → Prop} {f : Nat → Int32} {c9 dp n : Nat} (h : Out S μ W) (hc : S c9) : Out S μ (cpY W f c9 dp n) := ⟨⟨h.1.1, h.1.2⟩, h.2.1, h.2.2.1, h.2.2.2.1, fun i hs k => ⟨by
  rw [gI_cpY, if_neg (fun z => hs (by rw [z.1]; exact hc))]
  exact (h.2.2.2.2 i hs k).1, (h.2.2.2.2 i hs k).2.1, (h.2.2.2.2 i hs k).2.2⟩⟩
theorem Ex.cpY {S : Nat → Prop} {f : Nat → Int32} {c9 dp n : Nat} (h : Ex S μ W) (hc : c9 < wn μ → S c9) : Ex S μ (cpY W f c9 dp n) := ⟨⟨h.1.1, h.1.2⟩, h.2.1, h.2.2.1, h.2.2.2.1, fun i hi hs k => ⟨by
  rw [gI_cpY, if_neg (fun z => hs (by rw [z.1]; exact hc (by rw [← z.1]; exact hi)))]
  exact (h.2.2.2.2 i hi hs k).1, (h.2.2.2.2 i hi hs k).2.1, (h.2.2.2.2 i hi hs k).2.2⟩⟩
/-- a StringBuilder that holds l, with room for q letters; all of it lies from lo on -/
def SbV (lo : Nat) (W : Wd) (c9 : Nat) (l : List Nat) (q : Nat) : Prop := l.length ≤ 900 ∧ (∀ x ∈ l, x < 128) ∧ 339 ≤ lo ∧ lo ≤ c9 ∧ Ob W c9 12 ∧ gI W c9 1 = 0 ∧ gI W c9 3 = nI l.length ∧
  ∃ v cap, lo ≤ v ∧ gR W c9 0 = some v ∧ Ar W v 22 cap ∧ l.length ≤ cap ∧ q ≤ cap ∧ cap ≤ 1900 ∧ ∀ j, j < cap → ∃ x, x < 128 ∧ gI W v j = nI x ∧ (j < l.length → x = l.getD j 0)
/-- what an act on it may change -/
def SbS (W : Wd) (c9 : Nat) (i : Nat) : Prop := i = c9 ∨ gR W c9 0 = some i
theorem sl_L1 (s : State) (args : Array Value) (hts : ∀ w ∈ lwa, w.before args s = true) (_ : KB s) : (Cond.selects RJ4 yJ5_isLatin1_aae02 yJ5_isLatin1_aae02).before args s = true := hts _ (lwa_in 1175 (by decide +kernel) rfl)
theorem sl_GV (s : State) (args : Array Value) (hts : ∀ w ∈ lwa, w.before args s = true) (_ : KB s) : (Cond.selects RJ4 yJ5_getValue_6d5f1 yJ5_getValue_6d5f1).before args s = true := hts _ (lwa_in 1294 (by decide +kernel) rfl)
theorem sl_EN (s : State) (args : Array Value) (_ : ∀ w ∈ lwa, w.before args s = true) (h : KB s) : (Cond.selects RJ4 yJ5_ensureCapacityInternal_d00df yJ5_ensureCapacityInternal_d00df).before args s = true := va_Nw.use rfl (h.2 _ (by unfold kPr; simp))
theorem sl_NC (s : State) (args : Array Value) (_ : ∀ w ∈ lwa, w.before args s = true) (h : KB s) : (Cond.selects RJ4 yJ5_newCapacity_0f7a4 yJ5_newCapacity_0f7a4).before args s = true := va_Nw.use rfl (h.2 _ (by unfold kPr; simp))
theorem sl_PS (s : State) (args : Array Value) (_ : ∀ w ∈ lwa, w.before args s = true) (h : KB s) : (Cond.selects RJ4 yJ5_putStringAt_47b60 yJ5_putStringAt_47b60).before args s = true := va_Nw.use rfl (h.2 _ (by unfold kPr; simp))
theorem sl_IF (s : State) (args : Array Value) (_ : ∀ w ∈ lwa, w.before args s = true) (h : KB s) : (Cond.selects RJ4 yJ5_inflateIfNeededFor_a7421 yJ5_inflateIfNeededFor_a7421).before args s = true := va_Nw.use rfl (h.2 _ (by unfold kPr; simp))
theorem fs_J5_15 : FSite RJ5 15 12 0 (.array .byte) false := ⟨RJ4, TJ4, 4, tyJ4, cls_J4, by decide, lwa_in 1214 (by decide +kernel) rfl, rfl, rfl⟩
theorem fs_J5_22 : FSite RJ5 22 12 1 (.byte) false := ⟨RJ4, TJ4, 4, tyJ4, cls_J4, by decide, lwa_in 1215 (by decide +kernel) rfl, rfl, rfl⟩
theorem fs_J5_79 : FSite RJ5 79 12 3 (.int) false := ⟨RJ4, TJ4, 4, tyJ4, cls_J4, by decide, lwa_in 1217 (by decide +kernel) rfl, rfl, rfl⟩
end SBCLONE
