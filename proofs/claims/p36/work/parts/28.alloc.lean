section ALLOC
variable {Y : Yd} {rm : Room} {b : Nat × Nat} {μ μ1 : Wd} {pc : Nat} {la : List (Nat × Value)} {st : List Value} {o : Oc}
theorem oi_inst : Cond.instanceMethod objectInit ∈ lwa := lwa_in 87 (by decide +kernel) rfl
theorem oi_code : Cond.code objectInit object_method_1_code 1 none ∈ lwa := lwa_in 88 (by decide +kernel) rfl
theorem oi_MealLoader_Plan : Cond.methodLink "MealLoader$Plan" 3 objectInit ∈ lwa := lwa_in 94 (by decide +kernel) rfl
theorem oi_MealLoader_Cabin : Cond.methodLink "MealLoader$Cabin" 1 objectInit ∈ lwa := lwa_in 101 (by decide +kernel) rfl
theorem oi_MealLoader_Meal : Cond.methodLink "MealLoader$Meal" 1 objectInit ∈ lwa := lwa_in 125 (by decide +kernel) rfl
theorem oi_MealLoader_Flight : Cond.methodLink "MealLoader$Flight" 3 objectInit ∈ lwa := lwa_in 236 (by decide +kernel) rfl
theorem oi_MealLoader_FlightText : Cond.methodLink "MealLoader$FlightText" 3 objectInit ∈ lwa := lwa_in 311 (by decide +kernel) rfl
theorem oi_MealLoader_Tokens : Cond.methodLink "MealLoader$Tokens" 1 objectInit ∈ lwa := lwa_in 317 (by decide +kernel) rfl
theorem oi_MealLoader_History : Cond.methodLink "MealLoader$History" 3 objectInit ∈ lwa := lwa_in 365 (by decide +kernel) rfl
theorem oi_MealLoader_Order : Cond.methodLink "MealLoader$Order" 3 objectInit ∈ lwa := lwa_in 385 (by decide +kernel) rfl
theorem oi_MealLoader_Matching : Cond.methodLink "MealLoader$Matching" 3 objectInit ∈ lwa := lwa_in 400 (by decide +kernel) rfl
theorem oi_MealLoader_Service : Cond.methodLink "MealLoader$Service" 3 objectInit ∈ lwa := lwa_in 438 (by decide +kernel) rfl
theorem oi_MealLoader : Cond.methodLink "MealLoader" 3 objectInit ∈ lwa := lwa_in 86 (by decide +kernel) rfl
theorem oi_java_lang_String : Cond.methodLink "java/lang/String" 1 objectInit ∈ lwa := lwa_in 1002 (by decide +kernel) rfl
def upA (ad : Nat → Nat) (n q : Nat) : Nat → Nat := fun i => if i = n then q else ad i
theorem upA_at (ad : Nat → Nat) (n q : Nat) : upA ad n q n = q := if_pos rfl
theorem upA_ok {ad : Nat → Nat} {n q i : Nat} (h : okI n i) (hn : n < 1000000) : upA ad n q i = ad i := if_neg (by rcases h with h | h <;> omega)
theorem gI_mk (μ : Wd) (len a k : Nat) : gI (mk μ len) a k = if a = wn μ then 0 else gI μ a k := rfl
theorem gL_mk (μ : Wd) (len a k : Nat) : gL (mk μ len) a k = if a = wn μ then 0 else gL μ a k := rfl
theorem gR_mk (μ : Wd) (len a k : Nat) : gR (mk μ len) a k = if a = wn μ then none else gR μ a k := rfl
theorem gN_mk (μ : Wd) (len a : Nat) : gN (mk μ len) a = if a = wn μ then len else gN μ a := rfl
theorem gX_mk (μ : Wd) (len : Nat) : gX (mk μ len) = gX μ := rfl
theorem al_mk {μ : Wd} {len i : Nat} (h : i ≠ wn μ) : al (mk μ len) i = al μ i := by
  unfold al
  rw [gN_mk, if_neg h]
theorem km_mk {μ : Wd} {len i : Nat} (h : i ≠ wn μ) : km (mk μ len) i = km μ i := by
  unfold km
  rw [gN_mk, if_neg h]
theorem ent_mk {μ : Wd} {len i q : Nat} {ad : Nat → Nat} {cA : Nat → ClassId} (hi : i < wn μ) (hn : wn μ < 1000000) (hr : ∀ i k j, i < wn μ → gR μ i k = some j → okI (wn μ) j) : ent (upA ad (wn μ) q) cA (mk μ len) i = ent ad cA μ i := by
  have hne : i ≠ wn μ := by omega
  have q1 : gI (mk μ len) i = gI μ i := funext fun k => by rw [gI_mk, if_neg hne]
  have q2 : gL (mk μ len) i = gL μ i := funext fun k => by rw [gL_mk, if_neg hne]
  have q3 : ∀ k, (gR (mk μ len) i k).map (upA ad (wn μ) q) = (gR μ i k).map ad := fun k => by
    rw [gR_mk, if_neg hne]
    cases e : gR μ i k with
    | none => rfl
    | some j => exact congrArg some (upA_ok (hr i k j hi e) hn)
  unfold ent
  rw [km_mk hne]
  have hfv : fv (upA ad (wn μ) q) (mk μ len) i (km μ i) = fv ad μ i (km μ i) := funext fun k => by
    unfold fv
    rw [q1, q2, q3]
  have hec : ec (upA ad (wn μ) q) (mk μ len) i = ec ad μ i := by
    unfold ec
    rw [km_mk hne, q1, q2]
    have q4 : (fun k => (gR (mk μ len) i k).map (upA ad (wn μ) q)) = fun k => (gR μ i k).map ad := funext q3
    rw [q4]
  rw [al_mk hne, hec]
  unfold fvs
  rw [hfv]
theorem wsO_mk {μ : Wd} {len q : Nat} {ad : Nat → Nat} {cA : Nat → ClassId} (hn : wn μ < 1000000) (hr : ∀ i k j, i < wn μ → gR μ i k = some j → okI (wn μ) j) : wsO (upA ad (wn μ) q) cA (mk μ len) = wsO ad cA μ ++ [(q, ent (upA ad (wn μ) q) cA (mk μ len) (wn μ))] := by
  unfold wsO
  rw [wn_mk, List.range_succ, List.map_append]
  congr 1
  · refine List.map_congr_left fun i hi => ?_
    have hi := List.mem_range.mp hi
    rw [ent_mk hi hn hr, upA_ok (Or.inl hi) hn]
  · show [(upA ad (wn μ) q (wn μ), ent (upA ad (wn μ) q) cA (mk μ len) (wn μ))] = _
    rw [upA_at]
theorem Ext.up {ad : Nat → Nat} {n q : Nat} (hn : n < 1000000) : Ext ad n (upA ad n q) := fun i hi => upA_ok hi hn
/-- one more cell -/
theorem Ev.grow {s : State} {H H1 : Heap} {locs : List Loc} {cells slots : Nat} {D : va_G} {cA : Nat → ClassId} {base : Nat} {ad0 : Nat → Nat} {n0 : Nat} {ad : Nat → Nat} (E : Ev rm b μ s H locs cells slots D cA base ad0 n0 ad) (hn : wn μ + 1 < 1000000) {q len x : Nat} {E9 : va_E} (hE : ent (upA ad (wn μ) q) cA (mk μ len) (wn μ) = E9)
    (hP : va_P D vwCl (wsO ad cA μ ++ [(q, E9)]) H1) (hD : va_D (fun q => base ≤ q) (wsO ad cA μ ++ [(q, E9)])) (hS : va_S (fun q => base ≤ q) s.heap H1 locs) {b' : Nat × Nat} (hb : b = (b'.1 + 1, b'.2 + x)) : Ev rm b' (mk μ len) s H1 locs (cells + 1) (slots + x) D cA base ad0 n0 (upA ad (wn μ) q) := by
  obtain ⟨e1, e2, ⟨r1, r2, r3, r4, r5, r6⟩, e4, e5, e6, e7, e8, e9⟩ := E
  have hx : upA ad (wn μ) q 2000000 = ad 2000000 := if_neg (by omega)
  have hr : ∀ i k j, i < wn (mk μ len) → gR (mk μ len) i k = some j → okI (wn (mk μ len)) j := fun i k j hi hj => by
    rw [gR_mk] at hj
    split at hj
    · exact nomatch hj
    · exact okI_mono (Nat.le_succ _) (r3 i k j (by rw [wn_mk] at hi; omega) hj)
  rw [hb] at e8 e9
  have hw := wsO_mk (q := q) (len := len) (ad := ad) (cA := cA) r4 r3
  rw [hE] at hw
  exact ⟨e1.ext (Ext.up r4), e2, ⟨by rw [hw]; exact hP, by rw [hw]; exact hD, hr, hn, by rw [hx]; exact r5.kept (scr_kept e5 e4 hS r6), by rw [hx]; exact r6⟩, hS, e5, e6.tr (Ext.up r4) e7, Nat.le_succ_of_le e7, by have := e8; omega, by have := e9; omega⟩
/-- what goes on behind a new cell -/
theorem a_grown {p : Program} {l : Launch} {e : Env} {s : State} {m : MethodId} {args : Array Value} {below : List Frame} {meth : Method} {c : Code} {H H1 : Heap} {locs : List Loc} {cells slots : Nat} {ls : Array Slot} {D : va_G} {cA : Nat → ClassId} {base : Nat} {ad0 : Nat → Nat} {n0 : Nat} {ad : Nat → Nat}
    (C : Cx Y p l s m args meth c) (E : Ev rm b μ s H locs cells slots D cA base ad0 n0 ad) (h1 : okL (wn μ) la) (h2 : okS (wn μ) st) (h3 : lv_has ls Y.2.2.1 (la.map fun q => (q.1, tv ad q.2))) (hn : wn μ + 1 < 1000000) {q len x : Nat} {E9 : va_E} (hE : ent (upA ad (wn μ) q) cA (mk μ len) (wn μ) = E9)
    (hP : va_P D vwCl (wsO ad cA μ ++ [(q, E9)]) H1) (hD : va_D (fun q => base ≤ q) (wsO ad cA μ ++ [(q, E9)])) (hS : va_S (fun q => base ≤ q) s.heap H1 locs) {b' : Nat × Nat} (hb : b = (b'.1 + 1, b'.2 + x)) {pc' : Nat} (kk : AW Y rm b' (mk μ len) pc' la (.ref (wn μ) :: st) o μ1) :
    W p l e rm s m args below meth c H1 locs (cells + 1) (slots + x) (vx_MQ below (qC D cA base ad0 n0 o μ1) (xC D cA base ad0 n0 o μ1) args s rm.cells rm.slots (fun q => base ≤ q)) (F0 m pc' ls (.ref q :: st.map (tv ad))) := by
  have hx := Ext.up (ad := ad) (q := q) E.2.2.1.2.2.2.1
  have k := kk p l e s m args below meth c H1 locs (cells + 1) (slots + x) ls D cA base ad0 n0 (upA ad (wn μ) q) C (E.grow hn hE hP hD hS hb) (okL_mono (Nat.le_succ _) h1) (okS_cons.mpr ⟨Or.inl (Nat.lt_succ_self _), okS_mono (Nat.le_succ _) h2⟩) (by rw [tvl_ext hx h1]; exact h3)
  have e1 : (Value.ref (wn μ) :: st).map (tv (upA ad (wn μ) q)) = .ref q :: st.map (tv ad) := by
    rw [List.map_cons, tvs_ext hx h2]
    show Value.ref (upA ad (wn μ) q (wn μ)) :: _ = _
    rw [upA_at]
  rw [e1] at k
  exact k
/-- a new object -/
theorem a_new {c9 i ci : Nat} {K : String} {T : u_T} {N : Nat} {tf : Nat → FieldType} (hd : decode Y.2.1 pc = .ok (.new i, 3)) (hok : ClsOK ci K T N tf) (hcl : Cond.classLink Y.1.cls i K ∈ lwa) (hins : Cond.instantiable K N ∈ lwa) (hini : Cond.initialized K ∈ lwa) (hdef : ∀ j, j < N → defaultValue (tf j) = vp_V (fvs (fun _ => 0) (0, (fun _ _ => 0), (fun _ _ => 0), (fun _ _ => none), (fun _ => 0), (0, fun _ => 0)) 0 ci) j)
    (hk : km (mk μ c9) (wn μ) = ci) (hn : wn μ + 1 < 1000000) {b' : Nat × Nat} (hb : b = (b'.1 + 1, b'.2 + N)) (kk : AW Y rm b' (mk μ c9) (pc + 3) la (.ref (wn μ) :: st) o μ1) : AW Y rm b μ pc la st o μ1 := by
  intro p l e s m args below meth c H locs cells slots ls D cA base ad0 n0 ad C E h1 h2 h3
  obtain ⟨g1, g2, g3, g4, g5, g6, g7, g8⟩ := hok
  have hts := C.2.2.2.2.2.1
  have hf : ∀ q, fvs (upA ad (wn μ) q) (mk μ c9) (wn μ) ci = fvs (fun _ => 0) (0, (fun _ _ => 0), (fun _ _ => 0), (fun _ _ => none), (fun _ => 0), (0, fun _ => 0)) 0 ci := fun q => by
    unfold fvs
    refine List.map_congr_left fun k _ => ?_
    unfold fv
    rw [gI_mk, if_pos rfl, gL_mk, if_pos rfl, gR_mk, if_pos rfl]
    rfl
  refine va_new (D := D) (C := K) (T := T) (N := N) (ci := ci) C.1 C.2.1 hts g3 tf g4 C.2.2.2.2.1 (hts _ hcl) (hts _ hins) (hts _ hini) E.2.1 E.2.2.1.1 E.2.2.1.2.1 E.2.2.2.1 (fun q h => Nat.le_trans E.2.2.2.2.1 h) g1 (fs := fvs (fun _ => 0) (0, (fun _ _ => 0), (fun _ _ => 0), (fun _ _ => none), (fun _ => 0), (0, fun _ => 0)) 0 ci) hdef (by have := E.2.2.2.2.2.2.2.1; rw [hb] at this; omega) (by have := E.2.2.2.2.2.2.2.2; rw [hb] at this; omega) hd (fun q H1 hP hD hS => ?_)
  exact a_grown C E h1 h2 h3 hn (by rw [ent_obj hk g8, hf]) hP hD hS hb kk
/-- a new array of ints or what is narrower -/
theorem a_newI {c9 len t : Nat} {aty : ArrayType} {ty : FieldType} (hd : decode Y.2.1 pc = .ok (.newarray aty, 2)) (hty : newarray.typeOf aty = ty) (hw : Cond.arrayClass ty ∈ lwa) (ht : tyN t = ty ∧ 20 ≤ t ∧ t < 25 ∧ t ≠ 21) (hdv : defaultValue ty = .int 0) (hcb : componentBytes ty ≤ 4) (hlen : len ≤ 65536) (hk : km (mk μ c9) (wn μ) = t) (hal : al (mk μ c9) (wn μ) = len)
    (hn : wn μ + 1 < 1000000) {b' : Nat × Nat} (hb : b = (b'.1 + 1, b'.2 + len)) (kk : AW Y rm b' (mk μ c9) (pc + 2) la (.ref (wn μ) :: st) o μ1) : AW Y rm b μ pc la (.int (nI len) :: st) o μ1 := by
  intro p l e s m args below meth c H locs cells slots ls D cA base ad0 n0 ad C E h1 h2 h3
  have hts := C.2.2.2.2.2.1
  have h4 := (okS_cons.mp h2).2
  have hb4 : len * componentBytes ty ≤ 536870912 := Nat.le_trans (Nat.mul_le_mul hlen hcb) (Nat.le_of_ble_eq_true rfl)
  refine va_newa (D := D) C.1 C.2.1 (atype := aty) (by rw [hty]; exact hts _ hw) hty E.2.1 E.2.2.1.1 E.2.2.1.2.1 E.2.2.2.1 (fun q h => Nat.le_trans E.2.2.2.2.1 h) (N' := len) (a0 := (len, .inl fun _ => 0)) (fun cz => ?_) (nI_pos (by omega)) (nI_clamp (by omega)) hb4 (by have := E.2.2.2.2.2.2.2.1; rw [hb] at this; omega) (by have := E.2.2.2.2.2.2.2.2; rw [hb] at this; omega) hd (fun q cz H1 hK hP hD hS => ?_)
  · rw [vp_cell_i, hdv]
  · have hget := tyL_get cA (t := t) ht.2.1 (by omega)
    have k1 := (E.2.1.2 (t - 20) _ hget).2
    have k2 := (hK.2 9 (cz, ty) rfl).2
    rw [ht.1] at k1
    have ec9 : cz = cA t := by
      subst hty
      cases aty <;> exact Option.some.inj (Eq.trans (Eq.symm k2) k1)
    subst ec9
    have q1 : gI (mk μ c9) (wn μ) = fun _ => 0 := funext fun k => by rw [gI_mk, if_pos rfl]
    exact a_grown C E h1 h4 h3 hn (by rw [ent_arr hk (by omega) hal]; unfold ec; rw [hk, if_neg ht.2.2.2, if_pos ht.2.2.1, q1]) hP hD hS hb kk
theorem a_newL {c9 len : Nat} (hd : decode Y.2.1 pc = .ok (.newarray .long, 2)) (hw : Cond.arrayClass .long ∈ lwa) (hlen : len ≤ 65536) (hk : km (mk μ c9) (wn μ) = 21) (hal : al (mk μ c9) (wn μ) = len)
    (hn : wn μ + 1 < 1000000) {b' : Nat × Nat} (hb : b = (b'.1 + 1, b'.2 + len)) (kk : AW Y rm b' (mk μ c9) (pc + 2) la (.ref (wn μ) :: st) o μ1) : AW Y rm b μ pc la (.int (nI len) :: st) o μ1 := by
  intro p l e s m args below meth c H locs cells slots ls D cA base ad0 n0 ad C E h1 h2 h3
  have hts := C.2.2.2.2.2.1
  have h4 := (okS_cons.mp h2).2
  have hb4 : len * componentBytes .long ≤ 536870912 := Nat.le_trans (Nat.mul_le_mul hlen (show componentBytes .long ≤ 8 by decide)) (Nat.le_of_ble_eq_true rfl)
  refine va_newa (D := D) C.1 C.2.1 (atype := .long) (hts _ hw) (ty := .long) rfl E.2.1 E.2.2.1.1 E.2.2.1.2.1 E.2.2.2.1 (fun q h => Nat.le_trans E.2.2.2.2.1 h) (N' := len) (a0 := (len, .inr (.inl fun _ => 0))) (fun cz => ?_) (nI_pos (by omega)) (nI_clamp (by omega)) hb4 (by have := E.2.2.2.2.2.2.2.1; rw [hb] at this; omega) (by have := E.2.2.2.2.2.2.2.2; rw [hb] at this; omega) hd (fun q cz H1 hK hP hD hS => ?_)
  · rw [vp_cell_l]; rfl
  · have hget := tyL_get cA (t := 21) (by omega) (by omega)
    have k1 := (E.2.1.2 (21 - 20) _ hget).2
    have k2 := (hK.2 9 (cz, .long) rfl).2
    have ec9 : cz = cA 21 := Option.some.inj (Eq.trans (Eq.symm k2) k1)
    subst ec9
    have q1 : gL (mk μ c9) (wn μ) = fun _ => 0 := funext fun k => by rw [gL_mk, if_pos rfl]
    exact a_grown C E h1 h4 h3 hn (by rw [ent_arr hk (by omega) hal]; unfold ec; rw [hk, if_pos rfl, q1]) hP hD hS hb kk
/-- a new array of objects -/
theorem a_newQ {c9 len t i : Nat} {K : String} (hd : decode Y.2.1 pc = .ok (.anewarray i, 3)) (hcl : Cond.classLink Y.1.cls i K ∈ lwa) (hov : K ∈ kAo) (ht : tyN t = .object K ∧ 25 ≤ t ∧ t < 28) (hlen : len ≤ 65536) (hk : km (mk μ c9) (wn μ) = t) (hal : al (mk μ c9) (wn μ) = len)
    (hn : wn μ + 1 < 1000000) {b' : Nat × Nat} (hb : b = (b'.1 + 1, b'.2 + len)) (kk : AW Y rm b' (mk μ c9) (pc + 3) la (.ref (wn μ) :: st) o μ1) : AW Y rm b μ pc la (.int (nI len) :: st) o μ1 := by
  intro p l e s m args below meth c H locs cells slots ls D cA base ad0 n0 ad C E h1 h2 h3
  have hts := C.2.2.2.2.2.1
  have h4 := (okS_cons.mp h2).2
  refine va_newq (D := D) (C := K) C.1 C.2.1 C.2.2.2.2.1 (hts _ hcl) (E.1.2.2.2.2.2.2.2.2.1 K hov) E.2.1 E.2.2.1.1 E.2.2.1.2.1 E.2.2.2.1 (fun q h => Nat.le_trans E.2.2.2.2.1 h) (N' := len) (nI_pos (by omega)) (nI_clamp (by omega)) (by omega) (by have := E.2.2.2.2.2.2.2.1; rw [hb] at this; omega) (by have := E.2.2.2.2.2.2.2.2; rw [hb] at this; omega) hd (fun q cz H1 hK hP hD hS => ?_)
  have hget := tyL_get cA (t := t) (by omega) (by omega)
  have k1 := (E.2.1.2 (t - 20) _ hget).2
  have k2 := (hK.2 9 (cz, .object K) rfl).2
  rw [ht.1] at k1
  obtain ⟨_, _, _, _, _, k1⟩ := k1
  obtain ⟨_, _, _, _, _, k2⟩ := k2
  have ec9 : cz = cA t := Option.some.inj (Eq.trans (Eq.symm k2) k1)
  subst ec9
  have q1 : (fun k => (gR (mk μ c9) (wn μ) k).map (upA ad (wn μ) q)) = fun _ => none := funext fun k => by rw [gR_mk, if_pos rfl]; rfl
  exact a_grown C E h1 h4 h3 hn (by rw [ent_arr hk (by omega) hal]; unfold ec; rw [hk, if_neg (by omega), if_neg (by omega), q1]) hP hD hS hb kk
/-- the constructor of Object -/
theorem a_objI {i a : Nat} (hd : decode Y.2.1 pc = .ok (.invokespecial i, 3)) (hl : Cond.methodLink Y.1.cls i objectInit ∈ lwa) (hf : 1 ≤ rm.frames) (hr : 20 ≤ rm.locals) (hst : (st.map fun v => v.category).sum ≤ 8) (kk : AW Y rm b μ (pc + 3) la st o μ1) : AW Y rm b μ pc la (.ref a :: st) o μ1 := by
  intro p l e s m args below meth c H locs cells slots ls D cA base ad0 n0 ad C E h1 h2 h3
  have hts := C.2.2.2.2.2.1
  have hlv : (((st.map (tv ad)).map fun v => v.category)).sum ≤ 8 := by rw [cat_tv]; exact hst
  refine W.objInit C.1 C.2.1 C.2.2.2.2.1 (hts _ hl) (hts _ oi_inst) (hts _ oi_code) rfl (by rw [C.2.2.1]; exact h3.1) rfl hd hf (by show 2 * 0 + ((st.map (tv ad)).map fun v => v.category).sum + 12 ≤ _; omega) ?_
  exact kk p l e s m args below meth c H locs cells slots ls D cA base ad0 n0 ad C E h1 (okS_cons.mp h2).2 h3
/-- a constructor -/
theorem a_invI {Y2 : Yd} {rm2 : Room} {as sk : List Value} {μ2 : Wd} {i a n : Nat} {b2 : Nat × Nat}
    (hct : Ct Y2 rm2 (.ref a :: as) μ (.inl none) μ2) (hsk : sk = as.reverse ++ .ref a :: st) (hd : decode Y.2.1 pc = .ok (.invokespecial i, 3)) (hy : YOK Y2 n) (hret : Y2.2.2.2.1 = none) (hnm : Y2.1.name = "<init>") (hin : Cond.instanceMethod Y2.1 ∈ lwa) (hl : Cond.methodLink Y.1.cls i Y2.1 ∈ lwa) (ha : as.length = n) (hR : rm2.frames + 1 ≤ rm.frames ∧ 8 + (Y2.2.2.1 + 11) + rm2.locals ≤ rm.locals) (hb : rm2.cells + b2.1 ≤ b.1 ∧ rm2.slots + b2.2 ≤ b.2) (hst : (st.map fun v => v.category).sum ≤ 8)
    (kk : AW Y rm b2 μ2 (pc + 3) la st o μ1) : AW Y rm b μ pc la sk o μ1 := by
  intro p l e s m args below meth c H locs cells slots ls D cA base ad0 n0 ad C E h1 h2 h3
  have h4 : okS (wn μ) st := by
    rw [hsk] at h2
    exact (okS_cons.mp (okS_app.mp h2).2).2
  refine a_back (v := none) (A2 := ((Value.ref a :: as).map (tv ad)).toArray) C E h1 h4 h3 hb ?_ kk
  subst hsk
  have hts := C.2.2.2.2.2.1
  have hB := hy.B (Y := Y) (rm := rm) hl hts hR
  rw [hret] at hB
  have hok : okS (wn μ) (.ref a :: as) := by
    have h4 := okS_app.mp h2
    exact okS_cons.mpr ⟨(okS_cons.mp h4.2).1, okS_rev.mp h4.1⟩
  refine vx_runI (n := n) (b := ad a) (As := as.map (tv ad)) (rest := st.map (tv ad)) (nL := Y.2.2.1) (own := Y.1.cls) (Ts := lwa) ⟨C.1, C.2.1, C.2.2.1, C.2.2.2.2.1, hts⟩ (hct l D cA base ad C.2.2.2.2.2.2.2.1) ⟨hB, hnm, hts _ hin⟩ ⟨PcO.blind, PcO.go E hok⟩ rfl (by rw [List.length_map]; exact ha) h3.1 ?_ ?_ hd ⟨?_, ?_⟩
  · exact rev_tv ad as a st
  · exact lv_room (by rw [cat_tv]; exact hst)
  · have h5 := E.2.2.2.2.2.2.2.1
    have h6 := hb.1
    omega
  · have h5 := E.2.2.2.2.2.2.2.2
    have h6 := hb.2
    omega
/-- a constructor of a nest mate -/
theorem a_invIN {Y2 : Yd} {rm2 : Room} {as sk : List Value} {μ2 : Wd} {i a n : Nat} {host : String} {b2 : Nat × Nat}
    (hct : Ct Y2 rm2 (.ref a :: as) μ (.inl none) μ2) (hsk : sk = as.reverse ++ .ref a :: st) (hd : decode Y.2.1 pc = .ok (.invokespecial i, 3)) (hy : YOK Y2 n) (hret : Y2.2.2.2.1 = none) (hnm : Y2.1.name = "<init>") (hin : Cond.instanceMethod Y2.1 ∈ lwa) (hl : (Y.1.cls, i, Y2.1) ∈ kMn ∧ host = "MealLoader") (ha : as.length = n) (hR : rm2.frames + 1 ≤ rm.frames ∧ 8 + (Y2.2.2.1 + 11) + rm2.locals ≤ rm.locals) (hb : rm2.cells + b2.1 ≤ b.1 ∧ rm2.slots + b2.2 ≤ b.2) (hst : (st.map fun v => v.category).sum ≤ 8)
    (kk : AW Y rm b2 μ2 (pc + 3) la st o μ1) : AW Y rm b μ pc la sk o μ1 := by
  intro p l e s m args below meth c H locs cells slots ls D cA base ad0 n0 ad C E h1 h2 h3
  have h4 : okS (wn μ) st := by
    rw [hsk] at h2
    exact (okS_cons.mp (okS_app.mp h2).2).2
  refine a_back (v := none) (A2 := ((Value.ref a :: as).map (tv ad)).toArray) C E h1 h4 h3 hb ?_ kk
  subst hsk
  have hts := C.2.2.2.2.2.1
  obtain ⟨g1, g2, g3, g4, g5, g6⟩ := hy
  have hg : GoodIn lwa (hdw Y2 :: lwa) := by
    rw [hdw_nil g5]
    exact lwa_good (List.forall_mem_cons.mpr ⟨g1, fun w h => h⟩)
  have hB : va_CN rm s args Y.1.cls i Y2.1 host Y2.2.1 Y2.2.2.1 Y2.2.2.2.1 (hdw Y2 :: lwa) rm2 rm2.cells rm2.slots n := va_cnB n hts hg (by rw [hdw_nil g5]) rfl rfl (by rw [hl.2]; exact va_Nw.use rfl (E.1.2.2.2.2.2.2.2.2.2.2 _ hl.1)) (hts _ g2) ⟨g3.1, g3.2, g4⟩ hR
  rw [hret] at hB
  have hok : okS (wn μ) (.ref a :: as) := by
    have h4 := okS_app.mp h2
    exact okS_cons.mpr ⟨(okS_cons.mp h4.2).1, okS_rev.mp h4.1⟩
  refine vx_runIN (n := n) (b := ad a) (As := as.map (tv ad)) (rest := st.map (tv ad)) (nL := Y.2.2.1) (own := Y.1.cls) (Ts := lwa) ⟨C.1, C.2.1, C.2.2.1, C.2.2.2.2.1, hts⟩ (hct l D cA base ad C.2.2.2.2.2.2.2.1) ⟨hB, hnm, hts _ hin⟩ ⟨PcO.blind, PcO.go E hok⟩ rfl (by rw [List.length_map]; exact ha) h3.1 ?_ ?_ hd ⟨?_, ?_⟩
  · exact rev_tv ad as a st
  · exact lv_room (by rw [cat_tv]; exact hst)
  · have h5 := E.2.2.2.2.2.2.2.1
    have h6 := hb.1
    omega
  · have h5 := E.2.2.2.2.2.2.2.2
    have h6 := hb.2
    omega

end ALLOC
