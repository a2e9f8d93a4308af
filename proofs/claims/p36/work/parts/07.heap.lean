section CORE2
variable {Y : Yd} {rm : Room} {b : Nat × Nat} {μ μ1 : Wd} {pc : Nat} {la : List (Nat × Value)} {st : List Value} {o : Oc}
def tyc (ty : FieldType) : Nat := match ty with
  | .int | .boolean | .byte | .char | .short => 0
  | .long => 1
  | _ => 2
/-- a class: its place, its fields, its words -/
def ClsOK (ci : Nat) (C : String) (T : u_T) (N : Nat) (ty : Nat → FieldType) : Prop :=
  vwCl[ci]? = some (C, T, N) ∧ nf ci = N ∧ (∀ w ∈ u_ws C T N, w ∈ lwa) ∧ (∀ k, k < N → parseFieldDescriptor (T k).2.2.1 = some (ty k)) ∧ (∀ a, a < N → ∀ b, b < N → a ≠ b → (T a).2.1 ≠ (T b).2.1) ∧ (∀ k, k < N → (T k).2.2.2 = true → (T k).1 = C) ∧ (∀ k, k < N → fty ci k = tyc (ty k)) ∧ ci < 13
/-- a field as an instruction names it -/
def FSite (own : String) (index ci k : Nat) (ty : FieldType) (fin : Bool) : Prop :=
  ∃ (C : String) (T : u_T) (N : Nat) (tf : Nat → FieldType), ClsOK ci C T N tf ∧ k < N ∧ Cond.fieldLink own index (T k).1 (T k).2.1 (T k).2.2.1 ∈ lwa ∧ tf k = ty ∧ (T k).2.2.2 = fin
/-- a cell that is there, and its kind; an array's length -/
def Ob (μ : Wd) (a ci : Nat) : Prop := a < wn μ ∧ km μ a = ci
def Ar (μ : Wd) (a t n : Nat) : Prop := a < wn μ ∧ km μ a = t ∧ al μ a = n
/-- an index within -/
def Ix (i : Int32) (j n : Nat) : Prop := vp_in i n ∧ i.toNatClampNeg = j ∧ j < n
theorem wsO_len (ad : Nat → Nat) (cA : Nat → ClassId) (μ : Wd) : (wsO ad cA μ).length = wn μ := by simp [wsO]
theorem wsO_get {ad : Nat → Nat} {cA : Nat → ClassId} {μ : Wd} {i : Nat} (h : i < wn μ) : (wsO ad cA μ)[i]? = some (ad i, ent ad cA μ i) := by
  simp [wsO, List.getElem?_map, List.getElem?_range h]
theorem wsO_set {ad : Nat → Nat} {cA : Nat → ClassId} {μ μ' : Wd} {a : Nat} (hn : wn μ' = wn μ) (h : ∀ j, j ≠ a → ent ad cA μ' j = ent ad cA μ j) : wsO ad cA μ' = (wsO ad cA μ).set a (ad a, ent ad cA μ' a) := by
  refine List.ext_getElem? fun i => ?_
  rw [List.getElem?_set]
  by_cases hi : i < wn μ
  · rw [wsO_get (by rw [hn]; exact hi), wsO_get hi, wsO_len]
    by_cases e : a = i
    · subst e
      simp [hi]
    · rw [if_neg e, h i (fun q => e q.symm)]
  · have e1 : (wsO ad cA μ')[i]? = none := List.getElem?_eq_none (by rw [wsO_len, hn]; omega)
    have e2 : (wsO ad cA μ)[i]? = none := List.getElem?_eq_none (by rw [wsO_len]; omega)
    rw [e1, wsO_len, e2]
    by_cases e : a = i
    · subst e
      simp [hi]
    · rw [if_neg e]
theorem ent_obj {ad : Nat → Nat} {cA : Nat → ClassId} {μ : Wd} {i c : Nat} (h : km μ i = c) (hc : c < 13) : ent ad cA μ i = .inr (c, fvs ad μ i c) := by
  unfold ent
  rw [h, if_pos hc]
theorem ent_arr {ad : Nat → Nat} {cA : Nat → ClassId} {μ : Wd} {i t n : Nat} (h : km μ i = t) (hc : 13 ≤ t) (hn : al μ i = n) : ent ad cA μ i = .inl (cA t, n, ec ad μ i) := by
  unfold ent
  rw [h, if_neg (by omega), hn]
theorem fvs_len (ad : Nat → Nat) (μ : Wd) (i c : Nat) : (fvs ad μ i c).length = nf c := by simp [fvs]
theorem fvs_get {ad : Nat → Nat} {μ : Wd} {i c k : Nat} (h : k < nf c) : (fvs ad μ i c)[k]? = some (fv ad μ i c k) := by
  simp [fvs, List.getElem?_map, List.getElem?_range h]
theorem fvs_set {ad : Nat → Nat} {μ μ' : Wd} {i c k : Nat} {v : Value} (hv : k < nf c → fv ad μ' i c k = v) (h : ∀ j, j ≠ k → fv ad μ' i c j = fv ad μ i c j) : (fvs ad μ i c).set k v = fvs ad μ' i c := by
  refine List.ext_getElem? fun j => ?_
  rw [List.getElem?_set, fvs_len]
  by_cases hj : j < nf c
  · rw [fvs_get hj, fvs_get hj]
    by_cases e : k = j
    · subst e
      rw [if_pos rfl, if_pos hj, hv hj]
    · rw [if_neg e, h j (fun q => e q.symm)]
  · rw [List.getElem?_eq_none (by rw [fvs_len]; omega), List.getElem?_eq_none (by rw [fvs_len]; omega)]
    by_cases e : k = j
    · subst e
      rw [if_pos rfl, if_neg hj]
    · rw [if_neg e]
theorem fv0 {ad : Nat → Nat} {μ : Wd} {i c k : Nat} (h : fty c k = 0) : fv ad μ i c k = .int (gI μ i k) := by
  unfold fv
  rw [h]
  rfl
theorem fv1 {ad : Nat → Nat} {μ : Wd} {i c k : Nat} (h : fty c k = 1) : fv ad μ i c k = .long (gL μ i k) := by
  unfold fv
  rw [h]
  rfl
theorem fv2 {ad : Nat → Nat} {μ : Wd} {i c k : Nat} (h : fty c k = 2) : fv ad μ i c k = va_rf ((gR μ i k).map ad) := by
  unfold fv
  rw [h]
  rfl
theorem rf_tv (ad : Nat → Nat) (j : Nat) : va_rf ((some j).map ad) = tv ad (.ref j) := rfl
/-- the ground for a step that changes nothing but the stack -/
theorem Ev.wd {rm : Room} {b : Nat × Nat} {μ μ' : Wd} {s : State} {H H1 : Heap} {locs locs1 : List Loc} {cells slots : Nat} {D : va_G} {cA : Nat → ClassId} {base : Nat} {ad0 : Nat → Nat} {n0 : Nat} {ad : Nat → Nat}
    (E : Ev rm b μ s H locs cells slots D cA base ad0 n0 ad) (hP : va_P D vwCl (wsO ad cA μ') H1) (hD : va_D (fun q => base ≤ q) (wsO ad cA μ')) (hS : va_S (fun q => base ≤ q) s.heap H1 locs1) (hn : wn μ' = wn μ) (hr : ∀ i k j, i < wn μ → gR μ' i k = some j → okI (wn μ) j) (hx : gX μ' = gX μ) (hb : ad 2000000 < base → H1[ad 2000000]? = H[ad 2000000]?) : Ev rm b μ' s H1 locs1 cells slots D cA base ad0 n0 ad := by
  obtain ⟨e1, e2, ⟨r1, r2, r3, r4, r5, r6⟩, e4, e5, e6, e7, e8⟩ := E
  exact ⟨e1, e2, ⟨hP, hD, by rw [hn]; exact hr, by rw [hn]; exact r4, by rw [hx]; exact r5.kept (hb r6), r6⟩, hS, e5, e6, by rw [hn]; exact e7, e8⟩
theorem scr_kept {base : Nat} {s : State} {H H1 : Heap} {locs locs1 : List Loc} (hb : base ≤ s.heap.size) (h : va_S (fun q => base ≤ q) s.heap H locs) (h1 : va_S (fun q => base ≤ q) s.heap H1 locs1) {a : Nat} (ha : a < base) : H1[a]? = H[a]? :=
  (h1.2.1 a (Nat.lt_of_lt_of_le ha hb) (Nat.not_le.mpr ha)).trans (h.2.1 a (Nat.lt_of_lt_of_le ha hb) (Nat.not_le.mpr ha)).symm
theorem a_getI {i a ci k : Nat} {ty : FieldType} {fin : Bool} (hd : decode Y.2.1 pc = .ok (.getfield i, 3)) (hf : FSite Y.1.cls i ci k ty fin) (h0 : tyc ty = 0) (ho : Ob μ a ci) (kk : AW Y rm b μ (pc + 3) la (.int (gI μ a k) :: st) o μ1) : AW Y rm b μ pc la (.ref a :: st) o μ1 := by
  intro p l e s m args below meth c H locs cells slots ls D cA base ad0 n0 ad C E h1 h2 h3
  obtain ⟨C9, T9, N9, tf, ⟨g1, g2, g3, g4, g5, g6, g7, g8⟩, hk, hl, ht, hfin⟩ := hf
  have hty : fty ci k = 0 := by rw [g7 k hk, ht]; exact h0
  have he : (wsO ad cA μ)[a]? = some (ad a, .inr (ci, fvs ad μ a ci)) := by rw [wsO_get ho.1, ent_obj ho.2 g8]
  have hv : (fvs ad μ a ci)[k]? = some (.int (gI μ a k)) := by
    rw [fvs_get (by rw [g2]; exact hk)]
    exact congrArg some (fv0 hty)
  exact va_get (D := D) (C := C9) (T := T9) (N := N9) (ref := (T9 k).1) C.1 C.2.1 C.2.2.2.2.2.1 g3 C.2.2.2.2.1 E.2.1 E.2.2.1.1 a he g1 k hk (C.2.2.2.2.2.1 _ hl) (fun _ h9 => h9) hv hd (kk p l e s m args below meth c H locs cells slots ls D cA base ad0 n0 ad C E h1 (by simpa only [okS_cons, okV_int, okV_long, okV_float, okV_double, okV_null, true_and] using (okS_cons.mp h2).2) h3)
theorem a_getL {i a ci k : Nat} {ty : FieldType} {fin : Bool} (hd : decode Y.2.1 pc = .ok (.getfield i, 3)) (hf : FSite Y.1.cls i ci k ty fin) (h0 : tyc ty = 1) (ho : Ob μ a ci) (kk : AW Y rm b μ (pc + 3) la (.long (gL μ a k) :: st) o μ1) : AW Y rm b μ pc la (.ref a :: st) o μ1 := by
  intro p l e s m args below meth c H locs cells slots ls D cA base ad0 n0 ad C E h1 h2 h3
  obtain ⟨C9, T9, N9, tf, ⟨g1, g2, g3, g4, g5, g6, g7, g8⟩, hk, hl, ht, hfin⟩ := hf
  have hty : fty ci k = 1 := by rw [g7 k hk, ht]; exact h0
  have he : (wsO ad cA μ)[a]? = some (ad a, .inr (ci, fvs ad μ a ci)) := by rw [wsO_get ho.1, ent_obj ho.2 g8]
  have hv : (fvs ad μ a ci)[k]? = some (.long (gL μ a k)) := by
    rw [fvs_get (by rw [g2]; exact hk)]
    exact congrArg some (fv1 hty)
  exact va_get (D := D) (C := C9) (T := T9) (N := N9) (ref := (T9 k).1) C.1 C.2.1 C.2.2.2.2.2.1 g3 C.2.2.2.2.1 E.2.1 E.2.2.1.1 a he g1 k hk (C.2.2.2.2.2.1 _ hl) (fun _ h9 => h9) hv hd (kk p l e s m args below meth c H locs cells slots ls D cA base ad0 n0 ad C E h1 (by simpa only [okS_cons, okV_int, okV_long, okV_float, okV_double, okV_null, true_and] using (okS_cons.mp h2).2) h3)
theorem a_getR {i a ci k : Nat} {ty : FieldType} {fin : Bool} {j : Nat} (hj : gR μ a k = some j) (hd : decode Y.2.1 pc = .ok (.getfield i, 3)) (hf : FSite Y.1.cls i ci k ty fin) (h0 : tyc ty = 2) (ho : Ob μ a ci) (kk : AW Y rm b μ (pc + 3) la (.ref j :: st) o μ1) : AW Y rm b μ pc la (.ref a :: st) o μ1 := by
  intro p l e s m args below meth c H locs cells slots ls D cA base ad0 n0 ad C E h1 h2 h3
  obtain ⟨C9, T9, N9, tf, ⟨g1, g2, g3, g4, g5, g6, g7, g8⟩, hk, hl, ht, hfin⟩ := hf
  have hty : fty ci k = 2 := by rw [g7 k hk, ht]; exact h0
  have he : (wsO ad cA μ)[a]? = some (ad a, .inr (ci, fvs ad μ a ci)) := by rw [wsO_get ho.1, ent_obj ho.2 g8]
  have hv : (fvs ad μ a ci)[k]? = some (.ref (ad j)) := by
    rw [fvs_get (by rw [g2]; exact hk)]
    exact congrArg some ((fv2 hty).trans (by rw [hj]; rfl))
  exact va_get (D := D) (C := C9) (T := T9) (N := N9) (ref := (T9 k).1) C.1 C.2.1 C.2.2.2.2.2.1 g3 C.2.2.2.2.1 E.2.1 E.2.2.1.1 a he g1 k hk (C.2.2.2.2.2.1 _ hl) (fun _ h9 => h9) hv hd (kk p l e s m args below meth c H locs cells slots ls D cA base ad0 n0 ad C E h1 (okS_cons.mpr ⟨E.2.2.1.2.2.1 a k j ho.1 hj, (okS_cons.mp h2).2⟩) h3)
theorem a_putI {i a ci k : Nat} {ty : FieldType} {x : Int32} (hd : decode Y.2.1 pc = .ok (.putfield i, 3)) (hf : FSite Y.1.cls i ci k ty false) (h0 : tyc ty = 0) (hn : narrow ty (.int x) = .int x) (hfit : fits ty (.int x) = true) (ho : Ob μ a ci) (kk : AW Y rm b (sI μ a k x) (pc + 3) la st o μ1) : AW Y rm b μ pc la (.int x :: .ref a :: st) o μ1 := by
  intro p l e s m args below meth c H locs cells slots ls D cA base ad0 n0 ad C E h1 h2 h3
  obtain ⟨C9, T9, N9, tf, ⟨g1, g2, g3, g4, g5, g6, g7, g8⟩, hk, hl, ht, hfin⟩ := hf
  have hty : fty ci k = 0 := by rw [g7 k hk, ht]; exact h0
  have he : (wsO ad cA μ)[a]? = some (ad a, .inr (ci, fvs ad μ a ci)) := by rw [wsO_get ho.1, ent_obj ho.2 g8]
  have hset : (fvs ad μ a ci).set k (.int x) = fvs ad (sI μ a k x) a ci := by
    refine fvs_set (fun _ => ?_) (fun j hj => ?_)
    · rw [fv0 hty]
      simp [gI_sI, va_rf]
    · simp only [fv, gI_sI, gL_sI, gR_sI]
      simp [hj]
  have hws : wsO ad cA (sI μ a k x) = (wsO ad cA μ).set a (ad a, .inr (ci, (fvs ad μ a ci).set k (.int x))) := by
    refine (wsO_set (μ := μ) (μ' := sI μ a k x) (a := a) rfl (fun j hj => ?_)).trans (by rw [ent_obj (μ := sI μ a k x) ho.2 g8, hset])
    unfold ent fvs
    rw [show km (sI μ a k x) j = km μ j from rfl]
    have hfv : fv ad (sI μ a k x) j (km μ j) = fv ad μ j (km μ j) := funext fun k9 => by
      simp only [fv, gI_sI, gL_sI, gR_sI]
      simp [hj]
    have hec : ec ad (sI μ a k x) j = ec ad μ j := by
      unfold ec
      rw [show km (sI μ a k x) j = km μ j from rfl]
      have q1 : gI (sI μ a k x) j = gI μ j := funext fun k9 => by first | rfl | (rw [gI_sI]; simp [hj])
      have q2 : gL (sI μ a k x) j = gL μ j := funext fun k9 => by first | rfl | (rw [gL_sL]; simp [hj])
      have q3 : gR (sI μ a k x) j = gR μ j := funext fun k9 => by first | rfl | (rw [gR_sR]; simp [hj])
      simp only [q1, q2, q3]
    rw [hfv, hec]
    rfl
  refine va_put (D := D) (C := C9) (T := T9) (N := N9) (ref := (T9 k).1) (ty := ty) C.1 C.2.1 C.2.2.2.2.2.1 g3 tf g4 g5 C.2.2.2.2.1 E.2.1 E.2.2.1.1 E.2.2.1.2.1 E.2.2.2.1 a he g1 k hk (C.2.2.2.2.2.1 _ hl) (fun _ h9 => h9) hfin (by rw [g4 k hk, ht]) hn hfit (by rw [fvs_len, g2]; exact hk) hd (fun H1 locs1 hP hD hS => ?_)
  have hP : va_P D vwCl (wsO ad cA (sI μ a k x)) H1 := by rw [hws]; exact hP
  have hD : va_D (fun q => base ≤ q) (wsO ad cA (sI μ a k x)) := by rw [hws]; exact hD
  exact kk p l e s m args below meth c H1 locs1 cells slots ls D cA base ad0 n0 ad C (E.wd hP hD hS rfl E.2.2.1.2.2.1 rfl (fun q => scr_kept E.2.2.2.2.1 E.2.2.2.1 hS q)) h1 (okS_cons.mp (okS_cons.mp h2).2).2 h3
theorem a_putIF {i a ci k : Nat} {ty : FieldType} {x : Int32} (hd : decode Y.2.1 pc = .ok (.putfield i, 3)) (hf : FSite Y.1.cls i ci k ty true) (h0 : tyc ty = 0) (hn : narrow ty (.int x) = .int x) (hfit : fits ty (.int x) = true) (hin : Y.1.name = "<init>") (hC : ∀ r, vwCl[ci]? = some r → r.1 = Y.1.cls) (ho : Ob μ a ci) (kk : AW Y rm b (sI μ a k x) (pc + 3) la st o μ1) : AW Y rm b μ pc la (.int x :: .ref a :: st) o μ1 := by
  intro p l e s m args below meth c H locs cells slots ls D cA base ad0 n0 ad C E h1 h2 h3
  obtain ⟨C9, T9, N9, tf, ⟨g1, g2, g3, g4, g5, g6, g7, g8⟩, hk, hl, ht, hfin⟩ := hf
  have hty : fty ci k = 0 := by rw [g7 k hk, ht]; exact h0
  have he : (wsO ad cA μ)[a]? = some (ad a, .inr (ci, fvs ad μ a ci)) := by rw [wsO_get ho.1, ent_obj ho.2 g8]
  have hset : (fvs ad μ a ci).set k (.int x) = fvs ad (sI μ a k x) a ci := by
    refine fvs_set (fun _ => ?_) (fun j hj => ?_)
    · rw [fv0 hty]
      simp [gI_sI, va_rf]
    · simp only [fv, gI_sI, gL_sI, gR_sI]
      simp [hj]
  have hws : wsO ad cA (sI μ a k x) = (wsO ad cA μ).set a (ad a, .inr (ci, (fvs ad μ a ci).set k (.int x))) := by
    refine (wsO_set (μ := μ) (μ' := sI μ a k x) (a := a) rfl (fun j hj => ?_)).trans (by rw [ent_obj (μ := sI μ a k x) ho.2 g8, hset])
    unfold ent fvs
    rw [show km (sI μ a k x) j = km μ j from rfl]
    have hfv : fv ad (sI μ a k x) j (km μ j) = fv ad μ j (km μ j) := funext fun k9 => by
      simp only [fv, gI_sI, gL_sI, gR_sI]
      simp [hj]
    have hec : ec ad (sI μ a k x) j = ec ad μ j := by
      unfold ec
      rw [show km (sI μ a k x) j = km μ j from rfl]
      have q1 : gI (sI μ a k x) j = gI μ j := funext fun k9 => by first | rfl | (rw [gI_sI]; simp [hj])
      have q2 : gL (sI μ a k x) j = gL μ j := funext fun k9 => by first | rfl | (rw [gL_sL]; simp [hj])
      have q3 : gR (sI μ a k x) j = gR μ j := funext fun k9 => by first | rfl | (rw [gR_sR]; simp [hj])
      simp only [q1, q2, q3]
    rw [hfv, hec]
    rfl
  refine va_putF (D := D) (C := C9) (T := T9) (N := N9) (ref := (T9 k).1) (ty := ty) C.1 C.2.1 C.2.2.2.2.2.1 g3 tf g4 g5 C.2.2.2.2.1 E.2.1 E.2.2.1.1 E.2.2.1.2.1 E.2.2.2.1 a he g1 k hk (C.2.2.2.2.2.1 _ hl) (fun _ h9 => h9) hfin (C.2.2.2.2.2.2.2.2.1.trans hin) (by rw [g6 k hk hfin]; exact hC _ g1) (by rw [g4 k hk, ht]) hn hfit (by rw [fvs_len, g2]; exact hk) hd (fun H1 locs1 hP hD hS => ?_)
  have hP : va_P D vwCl (wsO ad cA (sI μ a k x)) H1 := by rw [hws]; exact hP
  have hD : va_D (fun q => base ≤ q) (wsO ad cA (sI μ a k x)) := by rw [hws]; exact hD
  exact kk p l e s m args below meth c H1 locs1 cells slots ls D cA base ad0 n0 ad C (E.wd hP hD hS rfl E.2.2.1.2.2.1 rfl (fun q => scr_kept E.2.2.2.2.1 E.2.2.2.1 hS q)) h1 (okS_cons.mp (okS_cons.mp h2).2).2 h3
theorem a_putL {i a ci k : Nat} {ty : FieldType} {x : Int64} (hd : decode Y.2.1 pc = .ok (.putfield i, 3)) (hf : FSite Y.1.cls i ci k ty false) (h0 : tyc ty = 1) (ho : Ob μ a ci) (kk : AW Y rm b (sL μ a k x) (pc + 3) la st o μ1) : AW Y rm b μ pc la (.long x :: .ref a :: st) o μ1 := by
  intro p l e s m args below meth c H locs cells slots ls D cA base ad0 n0 ad C E h1 h2 h3
  obtain ⟨C9, T9, N9, tf, ⟨g1, g2, g3, g4, g5, g6, g7, g8⟩, hk, hl, ht, hfin⟩ := hf
  have hty : fty ci k = 1 := by rw [g7 k hk, ht]; exact h0
  have he : (wsO ad cA μ)[a]? = some (ad a, .inr (ci, fvs ad μ a ci)) := by rw [wsO_get ho.1, ent_obj ho.2 g8]
  have hset : (fvs ad μ a ci).set k (.long x) = fvs ad (sL μ a k x) a ci := by
    refine fvs_set (fun _ => ?_) (fun j hj => ?_)
    · rw [fv1 hty]
      simp [gL_sL, va_rf]
    · simp only [fv, gI_sL, gL_sL, gR_sL]
      simp [hj]
  have hws : wsO ad cA (sL μ a k x) = (wsO ad cA μ).set a (ad a, .inr (ci, (fvs ad μ a ci).set k (.long x))) := by
    refine (wsO_set (μ := μ) (μ' := sL μ a k x) (a := a) rfl (fun j hj => ?_)).trans (by rw [ent_obj (μ := sL μ a k x) ho.2 g8, hset])
    unfold ent fvs
    rw [show km (sL μ a k x) j = km μ j from rfl]
    have hfv : fv ad (sL μ a k x) j (km μ j) = fv ad μ j (km μ j) := funext fun k9 => by
      simp only [fv, gI_sL, gL_sL, gR_sL]
      simp [hj]
    have hec : ec ad (sL μ a k x) j = ec ad μ j := by
      unfold ec
      rw [show km (sL μ a k x) j = km μ j from rfl]
      have q1 : gI (sL μ a k x) j = gI μ j := funext fun k9 => by first | rfl | (rw [gI_sI]; simp [hj])
      have q2 : gL (sL μ a k x) j = gL μ j := funext fun k9 => by first | rfl | (rw [gL_sL]; simp [hj])
      have q3 : gR (sL μ a k x) j = gR μ j := funext fun k9 => by first | rfl | (rw [gR_sR]; simp [hj])
      simp only [q1, q2, q3]
    rw [hfv, hec]
    rfl
  refine va_put (D := D) (C := C9) (T := T9) (N := N9) (ref := (T9 k).1) (ty := ty) C.1 C.2.1 C.2.2.2.2.2.1 g3 tf g4 g5 C.2.2.2.2.1 E.2.1 E.2.2.1.1 E.2.2.1.2.1 E.2.2.2.1 a he g1 k hk (C.2.2.2.2.2.1 _ hl) (fun _ h9 => h9) hfin (by rw [g4 k hk, ht]) (by cases ty <;> first | rfl | cases h0) (by cases ty <;> first | rfl | cases h0) (by rw [fvs_len, g2]; exact hk) hd (fun H1 locs1 hP hD hS => ?_)
  have hP : va_P D vwCl (wsO ad cA (sL μ a k x)) H1 := by rw [hws]; exact hP
  have hD : va_D (fun q => base ≤ q) (wsO ad cA (sL μ a k x)) := by rw [hws]; exact hD
  exact kk p l e s m args below meth c H1 locs1 cells slots ls D cA base ad0 n0 ad C (E.wd hP hD hS rfl E.2.2.1.2.2.1 rfl (fun q => scr_kept E.2.2.2.2.1 E.2.2.2.1 hS q)) h1 (okS_cons.mp (okS_cons.mp h2).2).2 h3
theorem a_putLF {i a ci k : Nat} {ty : FieldType} {x : Int64} (hd : decode Y.2.1 pc = .ok (.putfield i, 3)) (hf : FSite Y.1.cls i ci k ty true) (h0 : tyc ty = 1) (hin : Y.1.name = "<init>") (hC : ∀ r, vwCl[ci]? = some r → r.1 = Y.1.cls) (ho : Ob μ a ci) (kk : AW Y rm b (sL μ a k x) (pc + 3) la st o μ1) : AW Y rm b μ pc la (.long x :: .ref a :: st) o μ1 := by
  intro p l e s m args below meth c H locs cells slots ls D cA base ad0 n0 ad C E h1 h2 h3
  obtain ⟨C9, T9, N9, tf, ⟨g1, g2, g3, g4, g5, g6, g7, g8⟩, hk, hl, ht, hfin⟩ := hf
  have hty : fty ci k = 1 := by rw [g7 k hk, ht]; exact h0
  have he : (wsO ad cA μ)[a]? = some (ad a, .inr (ci, fvs ad μ a ci)) := by rw [wsO_get ho.1, ent_obj ho.2 g8]
  have hset : (fvs ad μ a ci).set k (.long x) = fvs ad (sL μ a k x) a ci := by
    refine fvs_set (fun _ => ?_) (fun j hj => ?_)
    · rw [fv1 hty]
      simp [gL_sL, va_rf]
    · simp only [fv, gI_sL, gL_sL, gR_sL]
      simp [hj]
  have hws : wsO ad cA (sL μ a k x) = (wsO ad cA μ).set a (ad a, .inr (ci, (fvs ad μ a ci).set k (.long x))) := by
    refine (wsO_set (μ := μ) (μ' := sL μ a k x) (a := a) rfl (fun j hj => ?_)).trans (by rw [ent_obj (μ := sL μ a k x) ho.2 g8, hset])
    unfold ent fvs
    rw [show km (sL μ a k x) j = km μ j from rfl]
    have hfv : fv ad (sL μ a k x) j (km μ j) = fv ad μ j (km μ j) := funext fun k9 => by
      simp only [fv, gI_sL, gL_sL, gR_sL]
      simp [hj]
    have hec : ec ad (sL μ a k x) j = ec ad μ j := by
      unfold ec
      rw [show km (sL μ a k x) j = km μ j from rfl]
      have q1 : gI (sL μ a k x) j = gI μ j := funext fun k9 => by first | rfl | (rw [gI_sI]; simp [hj])
      have q2 : gL (sL μ a k x) j = gL μ j := funext fun k9 => by first | rfl | (rw [gL_sL]; simp [hj])
      have q3 : gR (sL μ a k x) j = gR μ j := funext fun k9 => by first | rfl | (rw [gR_sR]; simp [hj])
      simp only [q1, q2, q3]
    rw [hfv, hec]
    rfl
  refine va_putF (D := D) (C := C9) (T := T9) (N := N9) (ref := (T9 k).1) (ty := ty) C.1 C.2.1 C.2.2.2.2.2.1 g3 tf g4 g5 C.2.2.2.2.1 E.2.1 E.2.2.1.1 E.2.2.1.2.1 E.2.2.2.1 a he g1 k hk (C.2.2.2.2.2.1 _ hl) (fun _ h9 => h9) hfin (C.2.2.2.2.2.2.2.2.1.trans hin) (by rw [g6 k hk hfin]; exact hC _ g1) (by rw [g4 k hk, ht]) (by cases ty <;> first | rfl | cases h0) (by cases ty <;> first | rfl | cases h0) (by rw [fvs_len, g2]; exact hk) hd (fun H1 locs1 hP hD hS => ?_)
  have hP : va_P D vwCl (wsO ad cA (sL μ a k x)) H1 := by rw [hws]; exact hP
  have hD : va_D (fun q => base ≤ q) (wsO ad cA (sL μ a k x)) := by rw [hws]; exact hD
  exact kk p l e s m args below meth c H1 locs1 cells slots ls D cA base ad0 n0 ad C (E.wd hP hD hS rfl E.2.2.1.2.2.1 rfl (fun q => scr_kept E.2.2.2.2.1 E.2.2.2.1 hS q)) h1 (okS_cons.mp (okS_cons.mp h2).2).2 h3
theorem a_putR {i a ci k : Nat} {ty : FieldType} {x : Nat} (hd : decode Y.2.1 pc = .ok (.putfield i, 3)) (hf : FSite Y.1.cls i ci k ty false) (h0 : tyc ty = 2) (hfr : fits ty (.ref 0) = true) (ho : Ob μ a ci) (kk : AW Y rm b (sR μ a k (some x)) (pc + 3) la st o μ1) : AW Y rm b μ pc la (.ref x :: .ref a :: st) o μ1 := by
  intro p l e s m args below meth c H locs cells slots ls D cA base ad0 n0 ad C E h1 h2 h3
  obtain ⟨C9, T9, N9, tf, ⟨g1, g2, g3, g4, g5, g6, g7, g8⟩, hk, hl, ht, hfin⟩ := hf
  have hty : fty ci k = 2 := by rw [g7 k hk, ht]; exact h0
  have he : (wsO ad cA μ)[a]? = some (ad a, .inr (ci, fvs ad μ a ci)) := by rw [wsO_get ho.1, ent_obj ho.2 g8]
  have hset : (fvs ad μ a ci).set k (.ref (ad x)) = fvs ad (sR μ a k (some x)) a ci := by
    refine fvs_set (fun _ => ?_) (fun j hj => ?_)
    · rw [fv2 hty]
      simp [gR_sR, va_rf]
    · simp only [fv, gI_sR, gL_sR, gR_sR]
      simp [hj]
  have hws : wsO ad cA (sR μ a k (some x)) = (wsO ad cA μ).set a (ad a, .inr (ci, (fvs ad μ a ci).set k (.ref (ad x)))) := by
    refine (wsO_set (μ := μ) (μ' := sR μ a k (some x)) (a := a) rfl (fun j hj => ?_)).trans (by rw [ent_obj (μ := sR μ a k (some x)) ho.2 g8, hset])
    unfold ent fvs
    rw [show km (sR μ a k (some x)) j = km μ j from rfl]
    have hfv : fv ad (sR μ a k (some x)) j (km μ j) = fv ad μ j (km μ j) := funext fun k9 => by
      simp only [fv, gI_sR, gL_sR, gR_sR]
      simp [hj]
    have hec : ec ad (sR μ a k (some x)) j = ec ad μ j := by
      unfold ec
      rw [show km (sR μ a k (some x)) j = km μ j from rfl]
      have q1 : gI (sR μ a k (some x)) j = gI μ j := funext fun k9 => by first | rfl | (rw [gI_sI]; simp [hj])
      have q2 : gL (sR μ a k (some x)) j = gL μ j := funext fun k9 => by first | rfl | (rw [gL_sL]; simp [hj])
      have q3 : gR (sR μ a k (some x)) j = gR μ j := funext fun k9 => by first | rfl | (rw [gR_sR]; simp [hj])
      simp only [q1, q2, q3]
    rw [hfv, hec]
    rfl
  refine va_put (D := D) (C := C9) (T := T9) (N := N9) (ref := (T9 k).1) (ty := ty) C.1 C.2.1 C.2.2.2.2.2.1 g3 tf g4 g5 C.2.2.2.2.1 E.2.1 E.2.2.1.1 E.2.2.1.2.1 E.2.2.2.1 a he g1 k hk (C.2.2.2.2.2.1 _ hl) (fun _ h9 => h9) hfin (by rw [g4 k hk, ht]) (by cases ty <;> first | rfl | cases hfr) (by cases ty <;> first | exact hfr | rfl | cases hfr) (by rw [fvs_len, g2]; exact hk) hd (fun H1 locs1 hP hD hS => ?_)
  have hP : va_P D vwCl (wsO ad cA (sR μ a k (some x))) H1 := by rw [hws]; exact hP
  have hD : va_D (fun q => base ≤ q) (wsO ad cA (sR μ a k (some x))) := by rw [hws]; exact hD
  exact kk p l e s m args below meth c H1 locs1 cells slots ls D cA base ad0 n0 ad C (E.wd hP hD hS rfl (fun i9 k9 j9 h8 h9 => by rw [gR_sR] at h9; split at h9 <;> first | (cases h9; exact (okS_cons.mp h2).1) | exact E.2.2.1.2.2.1 i9 k9 j9 h8 h9) rfl (fun q => scr_kept E.2.2.2.2.1 E.2.2.2.1 hS q)) h1 (okS_cons.mp (okS_cons.mp h2).2).2 h3
theorem a_putRF {i a ci k : Nat} {ty : FieldType} {x : Nat} (hd : decode Y.2.1 pc = .ok (.putfield i, 3)) (hf : FSite Y.1.cls i ci k ty true) (h0 : tyc ty = 2) (hfr : fits ty (.ref 0) = true) (hin : Y.1.name = "<init>") (hC : ∀ r, vwCl[ci]? = some r → r.1 = Y.1.cls) (ho : Ob μ a ci) (kk : AW Y rm b (sR μ a k (some x)) (pc + 3) la st o μ1) : AW Y rm b μ pc la (.ref x :: .ref a :: st) o μ1 := by
  intro p l e s m args below meth c H locs cells slots ls D cA base ad0 n0 ad C E h1 h2 h3
  obtain ⟨C9, T9, N9, tf, ⟨g1, g2, g3, g4, g5, g6, g7, g8⟩, hk, hl, ht, hfin⟩ := hf
  have hty : fty ci k = 2 := by rw [g7 k hk, ht]; exact h0
  have he : (wsO ad cA μ)[a]? = some (ad a, .inr (ci, fvs ad μ a ci)) := by rw [wsO_get ho.1, ent_obj ho.2 g8]
  have hset : (fvs ad μ a ci).set k (.ref (ad x)) = fvs ad (sR μ a k (some x)) a ci := by
    refine fvs_set (fun _ => ?_) (fun j hj => ?_)
    · rw [fv2 hty]
      simp [gR_sR, va_rf]
    · simp only [fv, gI_sR, gL_sR, gR_sR]
      simp [hj]
  have hws : wsO ad cA (sR μ a k (some x)) = (wsO ad cA μ).set a (ad a, .inr (ci, (fvs ad μ a ci).set k (.ref (ad x)))) := by
    refine (wsO_set (μ := μ) (μ' := sR μ a k (some x)) (a := a) rfl (fun j hj => ?_)).trans (by rw [ent_obj (μ := sR μ a k (some x)) ho.2 g8, hset])
    unfold ent fvs
    rw [show km (sR μ a k (some x)) j = km μ j from rfl]
    have hfv : fv ad (sR μ a k (some x)) j (km μ j) = fv ad μ j (km μ j) := funext fun k9 => by
      simp only [fv, gI_sR, gL_sR, gR_sR]
      simp [hj]
    have hec : ec ad (sR μ a k (some x)) j = ec ad μ j := by
      unfold ec
      rw [show km (sR μ a k (some x)) j = km μ j from rfl]
      have q1 : gI (sR μ a k (some x)) j = gI μ j := funext fun k9 => by first | rfl | (rw [gI_sI]; simp [hj])
      have q2 : gL (sR μ a k (some x)) j = gL μ j := funext fun k9 => by first | rfl | (rw [gL_sL]; simp [hj])
      have q3 : gR (sR μ a k (some x)) j = gR μ j := funext fun k9 => by first | rfl | (rw [gR_sR]; simp [hj])
      simp only [q1, q2, q3]
    rw [hfv, hec]
    rfl
  refine va_putF (D := D) (C := C9) (T := T9) (N := N9) (ref := (T9 k).1) (ty := ty) C.1 C.2.1 C.2.2.2.2.2.1 g3 tf g4 g5 C.2.2.2.2.1 E.2.1 E.2.2.1.1 E.2.2.1.2.1 E.2.2.2.1 a he g1 k hk (C.2.2.2.2.2.1 _ hl) (fun _ h9 => h9) hfin (C.2.2.2.2.2.2.2.2.1.trans hin) (by rw [g6 k hk hfin]; exact hC _ g1) (by rw [g4 k hk, ht]) (by cases ty <;> first | rfl | cases hfr) (by cases ty <;> first | exact hfr | rfl | cases hfr) (by rw [fvs_len, g2]; exact hk) hd (fun H1 locs1 hP hD hS => ?_)
  have hP : va_P D vwCl (wsO ad cA (sR μ a k (some x))) H1 := by rw [hws]; exact hP
  have hD : va_D (fun q => base ≤ q) (wsO ad cA (sR μ a k (some x))) := by rw [hws]; exact hD
  exact kk p l e s m args below meth c H1 locs1 cells slots ls D cA base ad0 n0 ad C (E.wd hP hD hS rfl (fun i9 k9 j9 h8 h9 => by rw [gR_sR] at h9; split at h9 <;> first | (cases h9; exact (okS_cons.mp h2).1) | exact E.2.2.1.2.2.1 i9 k9 j9 h8 h9) rfl (fun q => scr_kept E.2.2.2.2.1 E.2.2.2.1 hS q)) h1 (okS_cons.mp (okS_cons.mp h2).2).2 h3
theorem a_ild {a n j : Nat} {i : Int32} (hd : decode Y.2.1 pc = .ok (.iaload, 1)) (ho : Ar μ a 20 n) (hi : Ix i j n) (kk : AW Y rm b μ (pc + 1) la (.int (gI μ a j) :: st) o μ1) : AW Y rm b μ pc la (.int i :: .ref a :: st) o μ1 := by
  intro p l e s m args below meth c H locs cells slots ls D cA base ad0 n0 ad C E h1 h2 h3
  have he : (wsO ad cA μ)[a]? = some (ad a, .inl (cA 20, n, .inl (gI μ a))) := by
    rw [wsO_get ho.1, ent_arr ho.2.1 (by omega) ho.2.2]
    unfold ec
    rw [ho.2.1]
    rfl
  refine va_iald (D := D) C.1 C.2.1 E.2.1 E.2.2.1.1 a (20 - 20) he (tyL_get cA (t := 20) (by omega) (by omega)) hi.1 hd ?_
  rw [hi.2.1]
  exact kk p l e s m args below meth c H locs cells slots ls D cA base ad0 n0 ad C E h1 (by simpa only [okS_cons, okV_int, okV_long, true_and] using (okS_cons.mp (okS_cons.mp h2).2).2) h3
theorem a_lld {a n j : Nat} {i : Int32} (hd : decode Y.2.1 pc = .ok (.laload, 1)) (ho : Ar μ a 21 n) (hi : Ix i j n) (kk : AW Y rm b μ (pc + 1) la (.long (gL μ a j) :: st) o μ1) : AW Y rm b μ pc la (.int i :: .ref a :: st) o μ1 := by
  intro p l e s m args below meth c H locs cells slots ls D cA base ad0 n0 ad C E h1 h2 h3
  have he : (wsO ad cA μ)[a]? = some (ad a, .inl (cA 21, n, .inr (.inl (gL μ a)))) := by
    rw [wsO_get ho.1, ent_arr ho.2.1 (by omega) ho.2.2]
    unfold ec
    rw [ho.2.1]
    rfl
  refine va_lald (D := D) C.1 C.2.1 E.2.1 E.2.2.1.1 a (21 - 20) he (tyL_get cA (t := 21) (by omega) (by omega)) hi.1 hd ?_
  rw [hi.2.1]
  exact kk p l e s m args below meth c H locs cells slots ls D cA base ad0 n0 ad C E h1 (by simpa only [okS_cons, okV_int, okV_long, true_and] using (okS_cons.mp (okS_cons.mp h2).2).2) h3
theorem a_bld {a n j : Nat} {i : Int32} (hd : decode Y.2.1 pc = .ok (.baload, 1)) (ho : Ar μ a 22 n) (hi : Ix i j n) (kk : AW Y rm b μ (pc + 1) la (.int (gI μ a j) :: st) o μ1) : AW Y rm b μ pc la (.int i :: .ref a :: st) o μ1 := by
  intro p l e s m args below meth c H locs cells slots ls D cA base ad0 n0 ad C E h1 h2 h3
  have he : (wsO ad cA μ)[a]? = some (ad a, .inl (cA 22, n, .inl (gI μ a))) := by
    rw [wsO_get ho.1, ent_arr ho.2.1 (by omega) ho.2.2]
    unfold ec
    rw [ho.2.1]
    rfl
  refine va_bald (D := D) C.1 C.2.1 E.2.1 E.2.2.1.1 a (22 - 20) he (tyL_get cA (t := 22) (by omega) (by omega)) hi.1 hd ?_
  rw [hi.2.1]
  exact kk p l e s m args below meth c H locs cells slots ls D cA base ad0 n0 ad C E h1 (by simpa only [okS_cons, okV_int, okV_long, true_and] using (okS_cons.mp (okS_cons.mp h2).2).2) h3
theorem a_zld {a n j : Nat} {i : Int32} (hd : decode Y.2.1 pc = .ok (.baload, 1)) (ho : Ar μ a 23 n) (hi : Ix i j n) (kk : AW Y rm b μ (pc + 1) la (.int (gI μ a j) :: st) o μ1) : AW Y rm b μ pc la (.int i :: .ref a :: st) o μ1 := by
  intro p l e s m args below meth c H locs cells slots ls D cA base ad0 n0 ad C E h1 h2 h3
  have he : (wsO ad cA μ)[a]? = some (ad a, .inl (cA 23, n, .inl (gI μ a))) := by
    rw [wsO_get ho.1, ent_arr ho.2.1 (by omega) ho.2.2]
    unfold ec
    rw [ho.2.1]
    rfl
  refine va_zald (D := D) C.1 C.2.1 E.2.1 E.2.2.1.1 a (23 - 20) he (tyL_get cA (t := 23) (by omega) (by omega)) hi.1 hd ?_
  rw [hi.2.1]
  exact kk p l e s m args below meth c H locs cells slots ls D cA base ad0 n0 ad C E h1 (by simpa only [okS_cons, okV_int, okV_long, true_and] using (okS_cons.mp (okS_cons.mp h2).2).2) h3
theorem a_cld {a n j : Nat} {i : Int32} (hd : decode Y.2.1 pc = .ok (.caload, 1)) (ho : Ar μ a 24 n) (hi : Ix i j n) (kk : AW Y rm b μ (pc + 1) la (.int (gI μ a j) :: st) o μ1) : AW Y rm b μ pc la (.int i :: .ref a :: st) o μ1 := by
  intro p l e s m args below meth c H locs cells slots ls D cA base ad0 n0 ad C E h1 h2 h3
  have he : (wsO ad cA μ)[a]? = some (ad a, .inl (cA 24, n, .inl (gI μ a))) := by
    rw [wsO_get ho.1, ent_arr ho.2.1 (by omega) ho.2.2]
    unfold ec
    rw [ho.2.1]
    rfl
  refine va_cald (D := D) C.1 C.2.1 E.2.1 E.2.2.1.1 a (24 - 20) he (tyL_get cA (t := 24) (by omega) (by omega)) hi.1 hd ?_
  rw [hi.2.1]
  exact kk p l e s m args below meth c H locs cells slots ls D cA base ad0 n0 ad C E h1 (by simpa only [okS_cons, okV_int, okV_long, true_and] using (okS_cons.mp (okS_cons.mp h2).2).2) h3
theorem a_ist {a n j : Nat} {i : Int32} {x : Int32} (hd : decode Y.2.1 pc = .ok (.iastore, 1)) (ho : Ar μ a 20 n) (hi : Ix i j n) (kk : AW Y rm b (sI μ a j x) (pc + 1) la st o μ1) : AW Y rm b μ pc la (.int x :: .int i :: .ref a :: st) o μ1 := by
  intro p l e s m args below meth c H locs cells slots ls D cA base ad0 n0 ad C E h1 h2 h3
  have he : ∀ μ' : Wd, wn μ' = wn μ → gN μ' = gN μ → (wsO ad cA μ')[a]? = some (ad a, .inl (cA 20, n, .inl (gI μ' a))) := fun μ' hn' ha' => by
    have hkm : km μ' a = 20 := (show km μ' a = km μ a by unfold km; rw [ha']).trans ho.2.1
    rw [wsO_get (by rw [hn']; exact ho.1), ent_arr hkm (by omega) ((show al μ' a = al μ a by unfold al; rw [ha']).trans ho.2.2)]
    unfold ec
    rw [hkm]
    rfl
  have hws : wsO ad cA (sI μ a j x) = (wsO ad cA μ).set a (ad a, .inl (cA 20, n, .inl (upd (gI μ a) i.toNatClampNeg x))) := by
    have e1 := he (sI μ a j x) rfl rfl
    rw [wsO_get (show a < wn (sI μ a j x) from ho.1)] at e1
    refine (wsO_set (μ := μ) (μ' := sI μ a j x) (a := a) rfl (fun k9 hk9 => ?_)).trans (by
      rw [Option.some.inj e1]
      refine congrArg (fun z => (wsO ad cA μ).set a (ad a, .inl (cA 20, n, z))) ?_
      refine congrArg Sum.inl (funext fun k9 => ?_)
      simp [gI_sI, upd, vp_updL, hi.2.1])
    · unfold ent fvs
      rw [show km (sI μ a j x) k9 = km μ k9 from rfl]
      have hfv : fv ad (sI μ a j x) k9 (km μ k9) = fv ad μ k9 (km μ k9) := funext fun z => by
        simp only [fv, gI_sI, gL_sI, gR_sI, gI_sL, gL_sL, gR_sL]
        simp [hk9]
      have hec : ec ad (sI μ a j x) k9 = ec ad μ k9 := by
        unfold ec
        rw [show km (sI μ a j x) k9 = km μ k9 from rfl]
        have q1 : gI (sI μ a j x) k9 = gI μ k9 := funext fun z => by first | rfl | (rw [gI_sI]; simp [hk9])
        have q2 : gL (sI μ a j x) k9 = gL μ k9 := funext fun z => by first | rfl | (rw [gL_sL]; simp [hk9])
        have q3 : gR (sI μ a j x) k9 = gR μ k9 := funext fun z => rfl
        simp only [q1, q2, q3]
      rw [hfv, hec]
      rfl
  refine va_iast (D := D) C.1 C.2.1 E.2.1 E.2.2.1.1 E.2.2.1.2.1 E.2.2.2.1 a (20 - 20) (he μ rfl rfl) (tyL_get cA (t := 20) (by omega) (by omega)) hi.1 hd (fun H1 locs1 hP hD hS => ?_)
  have hP : va_P D vwCl (wsO ad cA (sI μ a j x)) H1 := by rw [hws]; exact hP
  have hD : va_D (fun q => base ≤ q) (wsO ad cA (sI μ a j x)) := by rw [hws]; exact hD
  exact kk p l e s m args below meth c H1 locs1 cells slots ls D cA base ad0 n0 ad C (E.wd hP hD hS rfl E.2.2.1.2.2.1 rfl (fun q => scr_kept E.2.2.2.2.1 E.2.2.2.1 hS q)) h1 (okS_cons.mp (okS_cons.mp (okS_cons.mp h2).2).2).2 h3
theorem a_lst {a n j : Nat} {i : Int32} {x : Int64} (hd : decode Y.2.1 pc = .ok (.lastore, 1)) (ho : Ar μ a 21 n) (hi : Ix i j n) (kk : AW Y rm b (sL μ a j x) (pc + 1) la st o μ1) : AW Y rm b μ pc la (.long x :: .int i :: .ref a :: st) o μ1 := by
  intro p l e s m args below meth c H locs cells slots ls D cA base ad0 n0 ad C E h1 h2 h3
  have he : ∀ μ' : Wd, wn μ' = wn μ → gN μ' = gN μ → (wsO ad cA μ')[a]? = some (ad a, .inl (cA 21, n, .inr (.inl (gL μ' a)))) := fun μ' hn' ha' => by
    have hkm : km μ' a = 21 := (show km μ' a = km μ a by unfold km; rw [ha']).trans ho.2.1
    rw [wsO_get (by rw [hn']; exact ho.1), ent_arr hkm (by omega) ((show al μ' a = al μ a by unfold al; rw [ha']).trans ho.2.2)]
    unfold ec
    rw [hkm]
    rfl
  have hws : wsO ad cA (sL μ a j x) = (wsO ad cA μ).set a (ad a, .inl (cA 21, n, .inr (.inl (vp_updL (gL μ a) i.toNatClampNeg x)))) := by
    have e1 := he (sL μ a j x) rfl rfl
    rw [wsO_get (show a < wn (sL μ a j x) from ho.1)] at e1
    refine (wsO_set (μ := μ) (μ' := sL μ a j x) (a := a) rfl (fun k9 hk9 => ?_)).trans (by
      rw [Option.some.inj e1]
      refine congrArg (fun z => (wsO ad cA μ).set a (ad a, .inl (cA 21, n, z))) ?_
      refine congrArg (fun f => Sum.inr (Sum.inl f)) (funext fun k9 => ?_)
      simp [gL_sL, upd, vp_updL, hi.2.1])
    · unfold ent fvs
      rw [show km (sL μ a j x) k9 = km μ k9 from rfl]
      have hfv : fv ad (sL μ a j x) k9 (km μ k9) = fv ad μ k9 (km μ k9) := funext fun z => by
        simp only [fv, gI_sI, gL_sI, gR_sI, gI_sL, gL_sL, gR_sL]
        simp [hk9]
      have hec : ec ad (sL μ a j x) k9 = ec ad μ k9 := by
        unfold ec
        rw [show km (sL μ a j x) k9 = km μ k9 from rfl]
        have q1 : gI (sL μ a j x) k9 = gI μ k9 := funext fun z => by first | rfl | (rw [gI_sI]; simp [hk9])
        have q2 : gL (sL μ a j x) k9 = gL μ k9 := funext fun z => by first | rfl | (rw [gL_sL]; simp [hk9])
        have q3 : gR (sL μ a j x) k9 = gR μ k9 := funext fun z => rfl
        simp only [q1, q2, q3]
      rw [hfv, hec]
      rfl
  refine va_last (D := D) C.1 C.2.1 E.2.1 E.2.2.1.1 E.2.2.1.2.1 E.2.2.2.1 a (21 - 20) (he μ rfl rfl) (tyL_get cA (t := 21) (by omega) (by omega)) hi.1 hd (fun H1 locs1 hP hD hS => ?_)
  have hP : va_P D vwCl (wsO ad cA (sL μ a j x)) H1 := by rw [hws]; exact hP
  have hD : va_D (fun q => base ≤ q) (wsO ad cA (sL μ a j x)) := by rw [hws]; exact hD
  exact kk p l e s m args below meth c H1 locs1 cells slots ls D cA base ad0 n0 ad C (E.wd hP hD hS rfl E.2.2.1.2.2.1 rfl (fun q => scr_kept E.2.2.2.2.1 E.2.2.2.1 hS q)) h1 (okS_cons.mp (okS_cons.mp (okS_cons.mp h2).2).2).2 h3
theorem a_bst {a n j : Nat} {i : Int32} {x : Int32} (hd : decode Y.2.1 pc = .ok (.bastore, 1)) (ho : Ar μ a 22 n) (hi : Ix i j n) (kk : AW Y rm b (sI μ a j (vp_nar .byte x)) (pc + 1) la st o μ1) : AW Y rm b μ pc la (.int x :: .int i :: .ref a :: st) o μ1 := by
  intro p l e s m args below meth c H locs cells slots ls D cA base ad0 n0 ad C E h1 h2 h3
  have he : ∀ μ' : Wd, wn μ' = wn μ → gN μ' = gN μ → (wsO ad cA μ')[a]? = some (ad a, .inl (cA 22, n, .inl (gI μ' a))) := fun μ' hn' ha' => by
    have hkm : km μ' a = 22 := (show km μ' a = km μ a by unfold km; rw [ha']).trans ho.2.1
    rw [wsO_get (by rw [hn']; exact ho.1), ent_arr hkm (by omega) ((show al μ' a = al μ a by unfold al; rw [ha']).trans ho.2.2)]
    unfold ec
    rw [hkm]
    rfl
  have hws : wsO ad cA (sI μ a j (vp_nar .byte x)) = (wsO ad cA μ).set a (ad a, .inl (cA 22, n, .inl (upd (gI μ a) i.toNatClampNeg (vp_nar .byte x)))) := by
    have e1 := he (sI μ a j (vp_nar .byte x)) rfl rfl
    rw [wsO_get (show a < wn (sI μ a j (vp_nar .byte x)) from ho.1)] at e1
    refine (wsO_set (μ := μ) (μ' := sI μ a j (vp_nar .byte x)) (a := a) rfl (fun k9 hk9 => ?_)).trans (by
      rw [Option.some.inj e1]
      refine congrArg (fun z => (wsO ad cA μ).set a (ad a, .inl (cA 22, n, z))) ?_
      refine congrArg Sum.inl (funext fun k9 => ?_)
      simp [gI_sI, upd, vp_updL, hi.2.1])
    · unfold ent fvs
      rw [show km (sI μ a j (vp_nar .byte x)) k9 = km μ k9 from rfl]
      have hfv : fv ad (sI μ a j (vp_nar .byte x)) k9 (km μ k9) = fv ad μ k9 (km μ k9) := funext fun z => by
        simp only [fv, gI_sI, gL_sI, gR_sI, gI_sL, gL_sL, gR_sL]
        simp [hk9]
      have hec : ec ad (sI μ a j (vp_nar .byte x)) k9 = ec ad μ k9 := by
        unfold ec
        rw [show km (sI μ a j (vp_nar .byte x)) k9 = km μ k9 from rfl]
        have q1 : gI (sI μ a j (vp_nar .byte x)) k9 = gI μ k9 := funext fun z => by first | rfl | (rw [gI_sI]; simp [hk9])
        have q2 : gL (sI μ a j (vp_nar .byte x)) k9 = gL μ k9 := funext fun z => by first | rfl | (rw [gL_sL]; simp [hk9])
        have q3 : gR (sI μ a j (vp_nar .byte x)) k9 = gR μ k9 := funext fun z => rfl
        simp only [q1, q2, q3]
      rw [hfv, hec]
      rfl
  refine va_bast (D := D) C.1 C.2.1 E.2.1 E.2.2.1.1 E.2.2.1.2.1 E.2.2.2.1 a (22 - 20) (he μ rfl rfl) (tyL_get cA (t := 22) (by omega) (by omega)) hi.1 hd (fun H1 locs1 hP hD hS => ?_)
  have hP : va_P D vwCl (wsO ad cA (sI μ a j (vp_nar .byte x))) H1 := by rw [hws]; exact hP
  have hD : va_D (fun q => base ≤ q) (wsO ad cA (sI μ a j (vp_nar .byte x))) := by rw [hws]; exact hD
  exact kk p l e s m args below meth c H1 locs1 cells slots ls D cA base ad0 n0 ad C (E.wd hP hD hS rfl E.2.2.1.2.2.1 rfl (fun q => scr_kept E.2.2.2.2.1 E.2.2.2.1 hS q)) h1 (okS_cons.mp (okS_cons.mp (okS_cons.mp h2).2).2).2 h3
theorem a_zst {a n j : Nat} {i : Int32} {x : Int32} (hd : decode Y.2.1 pc = .ok (.bastore, 1)) (ho : Ar μ a 23 n) (hi : Ix i j n) (kk : AW Y rm b (sI μ a j (vp_nar .boolean x)) (pc + 1) la st o μ1) : AW Y rm b μ pc la (.int x :: .int i :: .ref a :: st) o μ1 := by
  intro p l e s m args below meth c H locs cells slots ls D cA base ad0 n0 ad C E h1 h2 h3
  have he : ∀ μ' : Wd, wn μ' = wn μ → gN μ' = gN μ → (wsO ad cA μ')[a]? = some (ad a, .inl (cA 23, n, .inl (gI μ' a))) := fun μ' hn' ha' => by
    have hkm : km μ' a = 23 := (show km μ' a = km μ a by unfold km; rw [ha']).trans ho.2.1
    rw [wsO_get (by rw [hn']; exact ho.1), ent_arr hkm (by omega) ((show al μ' a = al μ a by unfold al; rw [ha']).trans ho.2.2)]
    unfold ec
    rw [hkm]
    rfl
  have hws : wsO ad cA (sI μ a j (vp_nar .boolean x)) = (wsO ad cA μ).set a (ad a, .inl (cA 23, n, .inl (upd (gI μ a) i.toNatClampNeg (vp_nar .boolean x)))) := by
    have e1 := he (sI μ a j (vp_nar .boolean x)) rfl rfl
    rw [wsO_get (show a < wn (sI μ a j (vp_nar .boolean x)) from ho.1)] at e1
    refine (wsO_set (μ := μ) (μ' := sI μ a j (vp_nar .boolean x)) (a := a) rfl (fun k9 hk9 => ?_)).trans (by
      rw [Option.some.inj e1]
      refine congrArg (fun z => (wsO ad cA μ).set a (ad a, .inl (cA 23, n, z))) ?_
      refine congrArg Sum.inl (funext fun k9 => ?_)
      simp [gI_sI, upd, vp_updL, hi.2.1])
    · unfold ent fvs
      rw [show km (sI μ a j (vp_nar .boolean x)) k9 = km μ k9 from rfl]
      have hfv : fv ad (sI μ a j (vp_nar .boolean x)) k9 (km μ k9) = fv ad μ k9 (km μ k9) := funext fun z => by
        simp only [fv, gI_sI, gL_sI, gR_sI, gI_sL, gL_sL, gR_sL]
        simp [hk9]
      have hec : ec ad (sI μ a j (vp_nar .boolean x)) k9 = ec ad μ k9 := by
        unfold ec
        rw [show km (sI μ a j (vp_nar .boolean x)) k9 = km μ k9 from rfl]
        have q1 : gI (sI μ a j (vp_nar .boolean x)) k9 = gI μ k9 := funext fun z => by first | rfl | (rw [gI_sI]; simp [hk9])
        have q2 : gL (sI μ a j (vp_nar .boolean x)) k9 = gL μ k9 := funext fun z => by first | rfl | (rw [gL_sL]; simp [hk9])
        have q3 : gR (sI μ a j (vp_nar .boolean x)) k9 = gR μ k9 := funext fun z => rfl
        simp only [q1, q2, q3]
      rw [hfv, hec]
      rfl
  refine va_zast (D := D) C.1 C.2.1 E.2.1 E.2.2.1.1 E.2.2.1.2.1 E.2.2.2.1 a (23 - 20) (he μ rfl rfl) (tyL_get cA (t := 23) (by omega) (by omega)) hi.1 hd (fun H1 locs1 hP hD hS => ?_)
  have hP : va_P D vwCl (wsO ad cA (sI μ a j (vp_nar .boolean x))) H1 := by rw [hws]; exact hP
  have hD : va_D (fun q => base ≤ q) (wsO ad cA (sI μ a j (vp_nar .boolean x))) := by rw [hws]; exact hD
  exact kk p l e s m args below meth c H1 locs1 cells slots ls D cA base ad0 n0 ad C (E.wd hP hD hS rfl E.2.2.1.2.2.1 rfl (fun q => scr_kept E.2.2.2.2.1 E.2.2.2.1 hS q)) h1 (okS_cons.mp (okS_cons.mp (okS_cons.mp h2).2).2).2 h3
theorem a_cst {a n j : Nat} {i : Int32} {x : Int32} (hd : decode Y.2.1 pc = .ok (.castore, 1)) (ho : Ar μ a 24 n) (hi : Ix i j n) (kk : AW Y rm b (sI μ a j (vp_nar .char x)) (pc + 1) la st o μ1) : AW Y rm b μ pc la (.int x :: .int i :: .ref a :: st) o μ1 := by
  intro p l e s m args below meth c H locs cells slots ls D cA base ad0 n0 ad C E h1 h2 h3
  have he : ∀ μ' : Wd, wn μ' = wn μ → gN μ' = gN μ → (wsO ad cA μ')[a]? = some (ad a, .inl (cA 24, n, .inl (gI μ' a))) := fun μ' hn' ha' => by
    have hkm : km μ' a = 24 := (show km μ' a = km μ a by unfold km; rw [ha']).trans ho.2.1
    rw [wsO_get (by rw [hn']; exact ho.1), ent_arr hkm (by omega) ((show al μ' a = al μ a by unfold al; rw [ha']).trans ho.2.2)]
    unfold ec
    rw [hkm]
    rfl
  have hws : wsO ad cA (sI μ a j (vp_nar .char x)) = (wsO ad cA μ).set a (ad a, .inl (cA 24, n, .inl (upd (gI μ a) i.toNatClampNeg (vp_nar .char x)))) := by
    have e1 := he (sI μ a j (vp_nar .char x)) rfl rfl
    rw [wsO_get (show a < wn (sI μ a j (vp_nar .char x)) from ho.1)] at e1
    refine (wsO_set (μ := μ) (μ' := sI μ a j (vp_nar .char x)) (a := a) rfl (fun k9 hk9 => ?_)).trans (by
      rw [Option.some.inj e1]
      refine congrArg (fun z => (wsO ad cA μ).set a (ad a, .inl (cA 24, n, z))) ?_
      refine congrArg Sum.inl (funext fun k9 => ?_)
      simp [gI_sI, upd, vp_updL, hi.2.1])
    · unfold ent fvs
      rw [show km (sI μ a j (vp_nar .char x)) k9 = km μ k9 from rfl]
      have hfv : fv ad (sI μ a j (vp_nar .char x)) k9 (km μ k9) = fv ad μ k9 (km μ k9) := funext fun z => by
        simp only [fv, gI_sI, gL_sI, gR_sI, gI_sL, gL_sL, gR_sL]
        simp [hk9]
      have hec : ec ad (sI μ a j (vp_nar .char x)) k9 = ec ad μ k9 := by
        unfold ec
        rw [show km (sI μ a j (vp_nar .char x)) k9 = km μ k9 from rfl]
        have q1 : gI (sI μ a j (vp_nar .char x)) k9 = gI μ k9 := funext fun z => by first | rfl | (rw [gI_sI]; simp [hk9])
        have q2 : gL (sI μ a j (vp_nar .char x)) k9 = gL μ k9 := funext fun z => by first | rfl | (rw [gL_sL]; simp [hk9])
        have q3 : gR (sI μ a j (vp_nar .char x)) k9 = gR μ k9 := funext fun z => rfl
        simp only [q1, q2, q3]
      rw [hfv, hec]
      rfl
  refine va_cast (D := D) C.1 C.2.1 E.2.1 E.2.2.1.1 E.2.2.1.2.1 E.2.2.2.1 a (24 - 20) (he μ rfl rfl) (tyL_get cA (t := 24) (by omega) (by omega)) hi.1 hd (fun H1 locs1 hP hD hS => ?_)
  have hP : va_P D vwCl (wsO ad cA (sI μ a j (vp_nar .char x))) H1 := by rw [hws]; exact hP
  have hD : va_D (fun q => base ≤ q) (wsO ad cA (sI μ a j (vp_nar .char x))) := by rw [hws]; exact hD
  exact kk p l e s m args below meth c H1 locs1 cells slots ls D cA base ad0 n0 ad C (E.wd hP hD hS rfl E.2.2.1.2.2.1 rfl (fun q => scr_kept E.2.2.2.2.1 E.2.2.2.1 hS q)) h1 (okS_cons.mp (okS_cons.mp (okS_cons.mp h2).2).2).2 h3
theorem a_aald {a t n j r : Nat} {i : Int32} (hd : decode Y.2.1 pc = .ok (.aaload, 1)) (ho : Ar μ a t n) (ht : 25 ≤ t ∧ t ≤ 28) (hi : Ix i j n) (hr : gR μ a j = some r) (kk : AW Y rm b μ (pc + 1) la (.ref r :: st) o μ1) : AW Y rm b μ pc la (.int i :: .ref a :: st) o μ1 := by
  intro p l e s m args below meth c H locs cells slots ls D cA base ad0 n0 ad C E h1 h2 h3
  have he : (wsO ad cA μ)[a]? = some (ad a, .inl (cA t, n, .inr (.inr (.inr (.inr (fun k => (gR μ a k).map ad)))))) := by
    rw [wsO_get ho.1, ent_arr ho.2.1 (by omega) ho.2.2]
    unfold ec
    rw [ho.2.1, if_neg (by omega), if_neg (by omega)]
  have hlt : i.toNatClampNeg < n := Nat.not_le.mp fun q => hi.1 (Or.inr q)
  refine W.aald (v := .ref (ad r)) (ty := tyN t) C.1 C.2.1 (E.2.2.1.1 a _ he) ((E.2.1.2 (t - 20) _ (tyL_get cA (by omega) ht.2)).1 n (fun k => va_rf ((gR μ a k).map ad))) ?_ (fun q => by cases q) (by show ¬ (i < 0 ∨ (arrV _ _ _).slots.size ≤ _); rw [arrV_size]; exact hi.1) (by show (arrV _ _ _).slots[_]? = _; rw [arrV_read _ _ hlt, hi.2.1]; show some (va_rf ((gR μ a j).map ad)) = _; rw [hr]; rfl) rfl rfl hd ?_
  · rcases (by omega : t = 25 ∨ t = 26 ∨ t = 27 ∨ t = 28) with h | h | h | h <;> subst h <;> rfl
  · exact kk p l e s m args below meth c H locs cells slots ls D cA base ad0 n0 ad C E h1 (okS_cons.mpr ⟨E.2.2.1.2.2.1 a j r ho.1 hr, (okS_cons.mp (okS_cons.mp h2).2).2⟩) h3
theorem a_alen {a t n : Nat} (v : Int32) (hd : decode Y.2.1 pc = .ok (.arraylength, 1)) (ho : Ar μ a t n) (ht : 20 ≤ t ∧ t ≤ 28) (hv : Int32.ofNat n = v) (kk : AW Y rm b μ (pc + 1) la (.int v :: st) o μ1) : AW Y rm b μ pc la (.ref a :: st) o μ1 := by
  intro p l e s m args below meth c H locs cells slots ls D cA base ad0 n0 ad C E h1 h2 h3
  have he : (wsO ad cA μ)[a]? = some (ad a, .inl (cA t, n, ec ad μ a)) := by rw [wsO_get ho.1, ent_arr ho.2.1 (by omega) ho.2.2]
  exact va_alen (D := D) C.1 C.2.1 E.2.1 E.2.2.1.1 a (t - 20) he (tyL_get cA (by omega) ht.2) hv hd (kk p l e s m args below meth c H locs cells slots ls D cA base ad0 n0 ad C E h1 (by simpa only [okS_cons, okV_int, true_and] using (okS_cons.mp h2).2) h3)
end CORE2
