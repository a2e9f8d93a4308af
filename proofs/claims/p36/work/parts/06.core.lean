section CORE
theorem okS_cons {n : Nat} {v : Value} {st : List Value} : okS n (v :: st) ↔ okV n v ∧ okS n st := List.forall_mem_cons
theorem okS_nil {n : Nat} : okS n [] := fun _ h => nomatch h
theorem okV_int {n : Nat} {x : Int32} : okV n (.int x) ↔ True := Iff.rfl
theorem okV_long {n : Nat} {x : Int64} : okV n (.long x) ↔ True := Iff.rfl
theorem okV_float {n : Nat} {x : UInt32} : okV n (.float x) ↔ True := Iff.rfl
theorem okV_double {n : Nat} {x : UInt64} : okV n (.double x) ↔ True := Iff.rfl
theorem okV_null {n : Nat} : okV n .null ↔ True := Iff.rfl
theorem okV_ref {n i : Nat} : okV n (.ref i) ↔ okI n i := Iff.rfl
theorem tv_cat (ad : Nat → Nat) (v : Value) : (tv ad v).category = v.category := by cases v <;> rfl
theorem tv_ext {ad0 ad : Nat → Nat} {n : Nat} (h : Ext ad0 n ad) {v : Value} (hv : okV n v) : tv ad v = tv ad0 v := by
  cases v <;> first | rfl | exact congrArg Value.ref (h _ hv)
theorem tvs_ext {ad0 ad : Nat → Nat} {n : Nat} (h : Ext ad0 n ad) {st : List Value} (hv : okS n st) : st.map (tv ad) = st.map (tv ad0) := List.map_congr_left fun v q => tv_ext h (hv v q)
theorem tvl_ext {ad0 ad : Nat → Nat} {n : Nat} (h : Ext ad0 n ad) {la : List (Nat × Value)} (hv : okL n la) : (la.map fun q => (q.1, tv ad q.2)) = la.map fun q => (q.1, tv ad0 q.2) := List.map_congr_left fun q z => by rw [tv_ext h (hv q z)]
theorem okI_mono {n m i : Nat} (h : n ≤ m) (hi : okI n i) : okI m i := hi.elim (fun a => Or.inl (Nat.lt_of_lt_of_le a h)) Or.inr
theorem okV_mono {n m : Nat} (h : n ≤ m) {v : Value} (hv : okV n v) : okV m v := by
  cases v <;> first | exact okI_mono h hv | trivial
theorem okS_mono {n m : Nat} (h : n ≤ m) {st : List Value} (hv : okS n st) : okS m st := fun v q => okV_mono h (hv v q)
theorem okL_mono {n m : Nat} (h : n ≤ m) {la : List (Nat × Value)} (hv : okL n la) : okL m la := fun v q => okV_mono h (hv v q)
theorem Ext.rfl' {ad : Nat → Nat} {n : Nat} : Ext ad n ad := fun _ _ => rfl
theorem Ext.tr {a b c : Nat → Nat} {n m : Nat} (h : Ext a n b) (h2 : Ext b m c) (hn : n ≤ m) : Ext a n c := fun i hi => (h2 i (okI_mono hn hi)).trans (h i hi)
/-- a local by its number -/
def lk : List (Nat × Value) → Nat → Option Value
  | [], _ => none
  | (i, v) :: l, k => bif Nat.beq i k then some v else lk l k
theorem lk_mem : ∀ {l : List (Nat × Value)} {k : Nat} {v : Value}, lk l k = some v → (k, v) ∈ l
  | (i, u) :: l, k, v, h => by
    unfold lk at h
    cases hb : Nat.beq i k with
    | true =>
      rw [hb] at h
      have e1 := Nat.eq_of_beq_eq_true hb
      have e2 : u = v := Option.some.inj h
      rw [e1, e2]
      exact List.mem_cons_self
    | false => rw [hb] at h; exact List.mem_cons_of_mem _ (lk_mem h)
theorem lk_at {ls : Array Slot} {nL : Nat} {la : List (Nat × Value)} {ad : Nat → Nat} (h : lv_has ls nL (la.map fun q => (q.1, tv ad q.2))) {k : Nat} {v : Value} (hk : lk la k = some v) : ls[k]? = some (.val (tv ad v)) :=
  h.2.2 (k, tv ad v) (List.mem_map.mpr ⟨(k, v), lk_mem hk, rfl⟩)
theorem lk_ok {n : Nat} {la : List (Nat × Value)} (h : okL n la) {k : Nat} {v : Value} (hk : lk la k = some v) : okV n v := h _ (lk_mem hk)
/-- a local is stored: one word, two words -/
def st1 (la : List (Nat × Value)) (i : Nat) (v : Value) : List (Nat × Value) := (i, v) :: la.filter (fun q => !(q.1 == i) && !(q.1 + 1 == i && q.2.category == 2))
def st2 (la : List (Nat × Value)) (i : Nat) (v : Value) : List (Nat × Value) := (i, v) :: la.filter (fun q => !(q.1 == i) && (!(q.1 == i + 1) && !(q.1 + 1 == i && q.2.category == 2)))
theorem st1_tv (ad : Nat → Nat) (la : List (Nat × Value)) (i : Nat) (v : Value) : (i, tv ad v) :: (la.map fun q => (q.1, tv ad q.2)).filter (fun q => !(q.1 == i) && !(q.1 + 1 == i && q.2.category == 2)) = (st1 la i v).map fun q => (q.1, tv ad q.2) := by
  unfold st1
  rw [List.map_cons, List.filter_map]
  congr 2
  refine congrArg (fun f => la.filter f) (funext fun q => ?_)
  simp [tv_cat]
theorem st2_tv (ad : Nat → Nat) (la : List (Nat × Value)) (i : Nat) (v : Value) : (i, tv ad v) :: (la.map fun q => (q.1, tv ad q.2)).filter (fun q => !(q.1 == i) && (!(q.1 == i + 1) && !(q.1 + 1 == i && q.2.category == 2))) = (st2 la i v).map fun q => (q.1, tv ad q.2) := by
  unfold st2
  rw [List.map_cons, List.filter_map]
  congr 2
  refine congrArg (fun f => la.filter f) (funext fun q => ?_)
  simp [tv_cat]
theorem st1_ok {n : Nat} {la : List (Nat × Value)} (h : okL n la) {i : Nat} {v : Value} (hv : okV n v) : okL n (st1 la i v) := fun q hq => by
  rcases List.mem_cons.mp hq with rfl | hq
  · exact hv
  · exact h q (List.mem_filter.mp hq).1
theorem st2_ok {n : Nat} {la : List (Nat × Value)} (h : okL n la) {i : Nat} {v : Value} (hv : okV n v) : okL n (st2 la i v) := fun q hq => by
  rcases List.mem_cons.mp hq with rfl | hq
  · exact hv
  · exact h q (List.mem_filter.mp hq).1
variable {Y : Yd} {rm : Room} {b : Nat × Nat} {μ μ1 : Wd} {pc : Nat} {la : List (Nat × Value)} {st : List Value} {o : Oc}
/-- other names for the locals, fewer, in any order -/
theorem a_loc (la' : List (Nat × Value)) (h : la'.map (fun q => lk la q.1) = la'.map (fun q => some q.2)) (k : AW Y rm b μ pc la' st o μ1) : AW Y rm b μ pc la st o μ1 := by
  intro p l e s m args below meth c H locs cells slots ls D cA base ad0 n0 ad C E h1 h2 h3
  have hm : ∀ q ∈ la', lk la q.1 = some q.2 := fun q hq => by
    obtain ⟨i, hi⟩ := List.mem_iff_getElem?.mp hq
    have e := congrArg (fun z => z[i]?) h
    simp only [List.getElem?_map, hi, Option.map_some, Option.some.injEq] at e
    exact e
  exact k p l e s m args below meth c H locs cells slots ls D cA base ad0 n0 ad C E (fun q hq => lk_ok h1 (hm q hq)) h2 ⟨h3.1, h3.2.1, fun q hq => by
    obtain ⟨q', hq', rfl⟩ := List.mem_map.mp hq
    exact lk_at h3 (hm q' hq')⟩
theorem a_st {st' : List Value} (h : st = st') (k : AW Y rm b μ pc la st' o μ1) : AW Y rm b μ pc la st o μ1 := h ▸ k
theorem a_wd {μ' : Wd} (h : μ = μ') (k : AW Y rm b μ' pc la st o μ1) : AW Y rm b μ pc la st o μ1 := h ▸ k
theorem a_out {o' : Oc} {μ1' : Wd} (ho : o' = o) (hm : μ1' = μ1) (k : AW Y rm b μ pc la st o' μ1') : AW Y rm b μ pc la st o μ1 := ho ▸ hm ▸ k
/-- less room asked of what follows -/
theorem a_room {b' : Nat × Nat} (h1 : b'.1 ≤ b.1) (h2 : b'.2 ≤ b.2) (k : AW Y rm b' μ pc la st o μ1) : AW Y rm b μ pc la st o μ1 := by
  intro p l e s m args below meth c H locs cells slots ls D cA base ad0 n0 ad C E
  exact k p l e s m args below meth c H locs cells slots ls D cA base ad0 n0 ad C ⟨E.1, E.2.1, E.2.2.1, E.2.2.2.1, E.2.2.2.2.1, E.2.2.2.2.2.1, E.2.2.2.2.2.2.1, Nat.le_trans (Nat.add_le_add_left h1 _) E.2.2.2.2.2.2.2.1, Nat.le_trans (Nat.add_le_add_left h2 _) E.2.2.2.2.2.2.2.2⟩
theorem a_iconst {n : Int} (v : Int32) (hd : decode Y.2.1 pc = .ok (.iconst n, 1)) (hv : Int32.ofInt n = v) (k : AW Y rm b μ (pc + 1) la (.int v :: st) o μ1) : AW Y rm b μ pc la (st) o μ1 := by
  intro p l e s m args below meth c H locs cells slots ls D cA base ad0 n0 ad C E h1 h2 h3
  exact lv_iconst C.1 C.2.1 hd hv (k p l e s m args below meth c H locs cells slots ls D cA base ad0 n0 ad C E h1 (by simpa only [okS_cons, okV_int, okV_long, okV_float, okV_double, okV_null, true_and] using h2) h3)
theorem a_bipush {n : Int} (v : Int32) (hd : decode Y.2.1 pc = .ok (.bipush n, 2)) (hv : (Int8.ofInt n).toInt32 = v) (k : AW Y rm b μ (pc + 2) la (.int v :: st) o μ1) : AW Y rm b μ pc la (st) o μ1 := by
  intro p l e s m args below meth c H locs cells slots ls D cA base ad0 n0 ad C E h1 h2 h3
  exact lv_bipush C.1 C.2.1 hd hv (k p l e s m args below meth c H locs cells slots ls D cA base ad0 n0 ad C E h1 (by simpa only [okS_cons, okV_int, okV_long, okV_float, okV_double, okV_null, true_and] using h2) h3)
theorem a_sipush {n : Int} (v : Int32) (hd : decode Y.2.1 pc = .ok (.sipush n, 3)) (hv : (Int16.ofInt n).toInt32 = v) (k : AW Y rm b μ (pc + 3) la (.int v :: st) o μ1) : AW Y rm b μ pc la (st) o μ1 := by
  intro p l e s m args below meth c H locs cells slots ls D cA base ad0 n0 ad C E h1 h2 h3
  exact lv_sipush C.1 C.2.1 hd hv (k p l e s m args below meth c H locs cells slots ls D cA base ad0 n0 ad C E h1 (by simpa only [okS_cons, okV_int, okV_long, okV_float, okV_double, okV_null, true_and] using h2) h3)
theorem a_lconst {n : Fin 2} (v : Int64) (hd : decode Y.2.1 pc = .ok (.lconst n, 1)) (hv : Int64.ofNat (n : Nat) = v) (k : AW Y rm b μ (pc + 1) la (.long v :: st) o μ1) : AW Y rm b μ pc la (st) o μ1 := by
  intro p l e s m args below meth c H locs cells slots ls D cA base ad0 n0 ad C E h1 h2 h3
  exact lv_lconst C.1 C.2.1 hd hv (k p l e s m args below meth c H locs cells slots ls D cA base ad0 n0 ad C E h1 (by simpa only [okS_cons, okV_int, okV_long, okV_float, okV_double, okV_null, true_and] using h2) h3)
theorem a_fconst0  (hd : decode Y.2.1 pc = .ok (.fconst 0, 1))  (k : AW Y rm b μ (pc + 1) la (.float FP.fconst0 :: st) o μ1) : AW Y rm b μ pc la (st) o μ1 := by
  intro p l e s m args below meth c H locs cells slots ls D cA base ad0 n0 ad C E h1 h2 h3
  exact lv_fconst0 C.1 C.2.1 hd  (k p l e s m args below meth c H locs cells slots ls D cA base ad0 n0 ad C E h1 (by simpa only [okS_cons, okV_int, okV_long, okV_float, okV_double, okV_null, true_and] using h2) h3)
theorem a_fconst1  (hd : decode Y.2.1 pc = .ok (.fconst 1, 1))  (k : AW Y rm b μ (pc + 1) la (.float FP.fconst1 :: st) o μ1) : AW Y rm b μ pc la (st) o μ1 := by
  intro p l e s m args below meth c H locs cells slots ls D cA base ad0 n0 ad C E h1 h2 h3
  exact lv_fconst1 C.1 C.2.1 hd  (k p l e s m args below meth c H locs cells slots ls D cA base ad0 n0 ad C E h1 (by simpa only [okS_cons, okV_int, okV_long, okV_float, okV_double, okV_null, true_and] using h2) h3)
theorem a_fconst2  (hd : decode Y.2.1 pc = .ok (.fconst 2, 1))  (k : AW Y rm b μ (pc + 1) la (.float FP.fconst2 :: st) o μ1) : AW Y rm b μ pc la (st) o μ1 := by
  intro p l e s m args below meth c H locs cells slots ls D cA base ad0 n0 ad C E h1 h2 h3
  exact lv_fconst2 C.1 C.2.1 hd  (k p l e s m args below meth c H locs cells slots ls D cA base ad0 n0 ad C E h1 (by simpa only [okS_cons, okV_int, okV_long, okV_float, okV_double, okV_null, true_and] using h2) h3)
theorem a_dconst0  (hd : decode Y.2.1 pc = .ok (.dconst 0, 1))  (k : AW Y rm b μ (pc + 1) la (.double FP.dconst0 :: st) o μ1) : AW Y rm b μ pc la (st) o μ1 := by
  intro p l e s m args below meth c H locs cells slots ls D cA base ad0 n0 ad C E h1 h2 h3
  exact lv_dconst0 C.1 C.2.1 hd  (k p l e s m args below meth c H locs cells slots ls D cA base ad0 n0 ad C E h1 (by simpa only [okS_cons, okV_int, okV_long, okV_float, okV_double, okV_null, true_and] using h2) h3)
theorem a_dconst1  (hd : decode Y.2.1 pc = .ok (.dconst 1, 1))  (k : AW Y rm b μ (pc + 1) la (.double FP.dconst1 :: st) o μ1) : AW Y rm b μ pc la (st) o μ1 := by
  intro p l e s m args below meth c H locs cells slots ls D cA base ad0 n0 ad C E h1 h2 h3
  exact lv_dconst1 C.1 C.2.1 hd  (k p l e s m args below meth c H locs cells slots ls D cA base ad0 n0 ad C E h1 (by simpa only [okS_cons, okV_int, okV_long, okV_float, okV_double, okV_null, true_and] using h2) h3)
theorem a_null  (hd : decode Y.2.1 pc = .ok (.aconst_null, 1))  (k : AW Y rm b μ (pc + 1) la (.null :: st) o μ1) : AW Y rm b μ pc la (st) o μ1 := by
  intro p l e s m args below meth c H locs cells slots ls D cA base ad0 n0 ad C E h1 h2 h3
  exact lv_null C.1 C.2.1 hd  (k p l e s m args below meth c H locs cells slots ls D cA base ad0 n0 ad C E h1 (by simpa only [okS_cons, okV_int, okV_long, okV_float, okV_double, okV_null, true_and] using h2) h3)
theorem a_iload_n {j : Fin 4} {x : Int32} (hd : decode Y.2.1 pc = .ok (.iload_n j, 1)) (hl : lk la (j : Nat) = some (.int x)) (k : AW Y rm b μ (pc + 1) la (.int x :: st) o μ1) : AW Y rm b μ pc la (st) o μ1 := by
  intro p l e s m args below meth c H locs cells slots ls D cA base ad0 n0 ad C E h1 h2 h3
  exact lv_iload_n C.1 C.2.1 hd rfl (lk_at h3 hl) (k p l e s m args below meth c H locs cells slots ls D cA base ad0 n0 ad C E h1 (by simpa only [okS_cons, okV_int, okV_long, okV_float, okV_double, okV_null, true_and] using h2) h3)
theorem a_iload {j : Nat} {x : Int32} (hd : decode Y.2.1 pc = .ok (.iload j, 2)) (hl : lk la j = some (.int x)) (k : AW Y rm b μ (pc + 2) la (.int x :: st) o μ1) : AW Y rm b μ pc la (st) o μ1 := by
  intro p l e s m args below meth c H locs cells slots ls D cA base ad0 n0 ad C E h1 h2 h3
  exact lv_iload C.1 C.2.1 hd (lk_at h3 hl) (k p l e s m args below meth c H locs cells slots ls D cA base ad0 n0 ad C E h1 (by simpa only [okS_cons, okV_int, okV_long, okV_float, okV_double, okV_null, true_and] using h2) h3)
theorem a_lload_n {j : Fin 4} {x : Int64} (hd : decode Y.2.1 pc = .ok (.lload_n j, 1)) (hl : lk la (j : Nat) = some (.long x)) (k : AW Y rm b μ (pc + 1) la (.long x :: st) o μ1) : AW Y rm b μ pc la (st) o μ1 := by
  intro p l e s m args below meth c H locs cells slots ls D cA base ad0 n0 ad C E h1 h2 h3
  exact lv_lload_n C.1 C.2.1 hd rfl (lk_at h3 hl) (k p l e s m args below meth c H locs cells slots ls D cA base ad0 n0 ad C E h1 (by simpa only [okS_cons, okV_int, okV_long, okV_float, okV_double, okV_null, true_and] using h2) h3)
theorem a_lload {j : Nat} {x : Int64} (hd : decode Y.2.1 pc = .ok (.lload j, 2)) (hl : lk la j = some (.long x)) (k : AW Y rm b μ (pc + 2) la (.long x :: st) o μ1) : AW Y rm b μ pc la (st) o μ1 := by
  intro p l e s m args below meth c H locs cells slots ls D cA base ad0 n0 ad C E h1 h2 h3
  exact lv_lload C.1 C.2.1 hd (lk_at h3 hl) (k p l e s m args below meth c H locs cells slots ls D cA base ad0 n0 ad C E h1 (by simpa only [okS_cons, okV_int, okV_long, okV_float, okV_double, okV_null, true_and] using h2) h3)
theorem a_fload_n {j : Fin 4} {x : UInt32} (hd : decode Y.2.1 pc = .ok (.fload_n j, 1)) (hl : lk la (j : Nat) = some (.float x)) (k : AW Y rm b μ (pc + 1) la (.float x :: st) o μ1) : AW Y rm b μ pc la (st) o μ1 := by
  intro p l e s m args below meth c H locs cells slots ls D cA base ad0 n0 ad C E h1 h2 h3
  exact lv_fload_n C.1 C.2.1 hd rfl (lk_at h3 hl) (k p l e s m args below meth c H locs cells slots ls D cA base ad0 n0 ad C E h1 (by simpa only [okS_cons, okV_int, okV_long, okV_float, okV_double, okV_null, true_and] using h2) h3)
theorem a_fload {j : Nat} {x : UInt32} (hd : decode Y.2.1 pc = .ok (.fload j, 2)) (hl : lk la j = some (.float x)) (k : AW Y rm b μ (pc + 2) la (.float x :: st) o μ1) : AW Y rm b μ pc la (st) o μ1 := by
  intro p l e s m args below meth c H locs cells slots ls D cA base ad0 n0 ad C E h1 h2 h3
  exact lv_fload C.1 C.2.1 hd (lk_at h3 hl) (k p l e s m args below meth c H locs cells slots ls D cA base ad0 n0 ad C E h1 (by simpa only [okS_cons, okV_int, okV_long, okV_float, okV_double, okV_null, true_and] using h2) h3)
theorem a_dload_n {j : Fin 4} {x : UInt64} (hd : decode Y.2.1 pc = .ok (.dload_n j, 1)) (hl : lk la (j : Nat) = some (.double x)) (k : AW Y rm b μ (pc + 1) la (.double x :: st) o μ1) : AW Y rm b μ pc la (st) o μ1 := by
  intro p l e s m args below meth c H locs cells slots ls D cA base ad0 n0 ad C E h1 h2 h3
  exact lv_dload_n C.1 C.2.1 hd rfl (lk_at h3 hl) (k p l e s m args below meth c H locs cells slots ls D cA base ad0 n0 ad C E h1 (by simpa only [okS_cons, okV_int, okV_long, okV_float, okV_double, okV_null, true_and] using h2) h3)
theorem a_dload {j : Nat} {x : UInt64} (hd : decode Y.2.1 pc = .ok (.dload j, 2)) (hl : lk la j = some (.double x)) (k : AW Y rm b μ (pc + 2) la (.double x :: st) o μ1) : AW Y rm b μ pc la (st) o μ1 := by
  intro p l e s m args below meth c H locs cells slots ls D cA base ad0 n0 ad C E h1 h2 h3
  exact lv_dload C.1 C.2.1 hd (lk_at h3 hl) (k p l e s m args below meth c H locs cells slots ls D cA base ad0 n0 ad C E h1 (by simpa only [okS_cons, okV_int, okV_long, okV_float, okV_double, okV_null, true_and] using h2) h3)
theorem a_aload_n {j : Fin 4} {x : Nat} (hd : decode Y.2.1 pc = .ok (.aload_n j, 1)) (hl : lk la (j : Nat) = some (.ref x)) (k : AW Y rm b μ (pc + 1) la (.ref x :: st) o μ1) : AW Y rm b μ pc la (st) o μ1 := by
  intro p l e s m args below meth c H locs cells slots ls D cA base ad0 n0 ad C E h1 h2 h3
  exact lv_aload_n C.1 C.2.1 hd rfl (lk_at h3 hl) (k p l e s m args below meth c H locs cells slots ls D cA base ad0 n0 ad C E h1 (okS_cons.mpr ⟨lk_ok h1 hl, h2⟩) h3)
theorem a_aload {j : Nat} {x : Nat} (hd : decode Y.2.1 pc = .ok (.aload j, 2)) (hl : lk la j = some (.ref x)) (k : AW Y rm b μ (pc + 2) la (.ref x :: st) o μ1) : AW Y rm b μ pc la (st) o μ1 := by
  intro p l e s m args below meth c H locs cells slots ls D cA base ad0 n0 ad C E h1 h2 h3
  exact lv_aload C.1 C.2.1 hd (lk_at h3 hl) (k p l e s m args below meth c H locs cells slots ls D cA base ad0 n0 ad C E h1 (okS_cons.mpr ⟨lk_ok h1 hl, h2⟩) h3)
theorem a_istore_n {j : Fin 4} {x : Int32} (hd : decode Y.2.1 pc = .ok (.istore_n j, 1)) (hn : (j : Nat) < Y.2.2.1) (k : AW Y rm b μ (pc + 1) (st1 la (j : Nat) (.int x)) st o μ1) : AW Y rm b μ pc la (.int x :: st) o μ1 := by
  intro p l e s m args below meth c H locs cells slots ls D cA base ad0 n0 ad C E h1 h2 h3
  exact lv_istore_n C.1 C.2.1 hd rfl h3 hn (st1_tv ad la (j : Nat) (.int x)) (fun ls1 h9 => k p l e s m args below meth c H locs cells slots ls1 D cA base ad0 n0 ad C E (st1_ok h1 (okS_cons.mp h2).1) (okS_cons.mp h2).2 h9)
theorem a_istore {j : Nat} {x : Int32} (hd : decode Y.2.1 pc = .ok (.istore j, 2)) (hn : j < Y.2.2.1) (k : AW Y rm b μ (pc + 2) (st1 la j (.int x)) st o μ1) : AW Y rm b μ pc la (.int x :: st) o μ1 := by
  intro p l e s m args below meth c H locs cells slots ls D cA base ad0 n0 ad C E h1 h2 h3
  exact lv_istore C.1 C.2.1 hd h3 hn (st1_tv ad la j (.int x)) (fun ls1 h9 => k p l e s m args below meth c H locs cells slots ls1 D cA base ad0 n0 ad C E (st1_ok h1 (okS_cons.mp h2).1) (okS_cons.mp h2).2 h9)
theorem a_lstore_n {j : Fin 4} {x : Int64} (hd : decode Y.2.1 pc = .ok (.lstore_n j, 1)) (hn : (j : Nat) + 1 < Y.2.2.1) (k : AW Y rm b μ (pc + 1) (st2 la (j : Nat) (.long x)) st o μ1) : AW Y rm b μ pc la (.long x :: st) o μ1 := by
  intro p l e s m args below meth c H locs cells slots ls D cA base ad0 n0 ad C E h1 h2 h3
  exact lv_lstore_n C.1 C.2.1 hd rfl h3 hn (st2_tv ad la (j : Nat) (.long x)) (fun ls1 h9 => k p l e s m args below meth c H locs cells slots ls1 D cA base ad0 n0 ad C E (st2_ok h1 (okS_cons.mp h2).1) (okS_cons.mp h2).2 h9)
theorem a_lstore {j : Nat} {x : Int64} (hd : decode Y.2.1 pc = .ok (.lstore j, 2)) (hn : j + 1 < Y.2.2.1) (k : AW Y rm b μ (pc + 2) (st2 la j (.long x)) st o μ1) : AW Y rm b μ pc la (.long x :: st) o μ1 := by
  intro p l e s m args below meth c H locs cells slots ls D cA base ad0 n0 ad C E h1 h2 h3
  exact lv_lstore C.1 C.2.1 hd h3 hn (st2_tv ad la j (.long x)) (fun ls1 h9 => k p l e s m args below meth c H locs cells slots ls1 D cA base ad0 n0 ad C E (st2_ok h1 (okS_cons.mp h2).1) (okS_cons.mp h2).2 h9)
theorem a_fstore_n {j : Fin 4} {x : UInt32} (hd : decode Y.2.1 pc = .ok (.fstore_n j, 1)) (hn : (j : Nat) < Y.2.2.1) (k : AW Y rm b μ (pc + 1) (st1 la (j : Nat) (.float x)) st o μ1) : AW Y rm b μ pc la (.float x :: st) o μ1 := by
  intro p l e s m args below meth c H locs cells slots ls D cA base ad0 n0 ad C E h1 h2 h3
  exact lv_fstore_n C.1 C.2.1 hd rfl h3 hn (st1_tv ad la (j : Nat) (.float x)) (fun ls1 h9 => k p l e s m args below meth c H locs cells slots ls1 D cA base ad0 n0 ad C E (st1_ok h1 (okS_cons.mp h2).1) (okS_cons.mp h2).2 h9)
theorem a_fstore {j : Nat} {x : UInt32} (hd : decode Y.2.1 pc = .ok (.fstore j, 2)) (hn : j < Y.2.2.1) (k : AW Y rm b μ (pc + 2) (st1 la j (.float x)) st o μ1) : AW Y rm b μ pc la (.float x :: st) o μ1 := by
  intro p l e s m args below meth c H locs cells slots ls D cA base ad0 n0 ad C E h1 h2 h3
  exact lv_fstore C.1 C.2.1 hd h3 hn (st1_tv ad la j (.float x)) (fun ls1 h9 => k p l e s m args below meth c H locs cells slots ls1 D cA base ad0 n0 ad C E (st1_ok h1 (okS_cons.mp h2).1) (okS_cons.mp h2).2 h9)
theorem a_dstore_n {j : Fin 4} {x : UInt64} (hd : decode Y.2.1 pc = .ok (.dstore_n j, 1)) (hn : (j : Nat) + 1 < Y.2.2.1) (k : AW Y rm b μ (pc + 1) (st2 la (j : Nat) (.double x)) st o μ1) : AW Y rm b μ pc la (.double x :: st) o μ1 := by
  intro p l e s m args below meth c H locs cells slots ls D cA base ad0 n0 ad C E h1 h2 h3
  exact lv_dstore_n C.1 C.2.1 hd rfl h3 hn (st2_tv ad la (j : Nat) (.double x)) (fun ls1 h9 => k p l e s m args below meth c H locs cells slots ls1 D cA base ad0 n0 ad C E (st2_ok h1 (okS_cons.mp h2).1) (okS_cons.mp h2).2 h9)
theorem a_dstore {j : Nat} {x : UInt64} (hd : decode Y.2.1 pc = .ok (.dstore j, 2)) (hn : j + 1 < Y.2.2.1) (k : AW Y rm b μ (pc + 2) (st2 la j (.double x)) st o μ1) : AW Y rm b μ pc la (.double x :: st) o μ1 := by
  intro p l e s m args below meth c H locs cells slots ls D cA base ad0 n0 ad C E h1 h2 h3
  exact lv_dstore C.1 C.2.1 hd h3 hn (st2_tv ad la j (.double x)) (fun ls1 h9 => k p l e s m args below meth c H locs cells slots ls1 D cA base ad0 n0 ad C E (st2_ok h1 (okS_cons.mp h2).1) (okS_cons.mp h2).2 h9)
theorem a_astore_n {j : Fin 4} {x : Nat} (hd : decode Y.2.1 pc = .ok (.astore_n j, 1)) (hn : (j : Nat) < Y.2.2.1) (k : AW Y rm b μ (pc + 1) (st1 la (j : Nat) (.ref x)) st o μ1) : AW Y rm b μ pc la (.ref x :: st) o μ1 := by
  intro p l e s m args below meth c H locs cells slots ls D cA base ad0 n0 ad C E h1 h2 h3
  exact lv_astore_n C.1 C.2.1 hd rfl h3 hn (st1_tv ad la (j : Nat) (.ref x)) (fun ls1 h9 => k p l e s m args below meth c H locs cells slots ls1 D cA base ad0 n0 ad C E (st1_ok h1 (okS_cons.mp h2).1) (okS_cons.mp h2).2 h9)
theorem a_astore {j : Nat} {x : Nat} (hd : decode Y.2.1 pc = .ok (.astore j, 2)) (hn : j < Y.2.2.1) (k : AW Y rm b μ (pc + 2) (st1 la j (.ref x)) st o μ1) : AW Y rm b μ pc la (.ref x :: st) o μ1 := by
  intro p l e s m args below meth c H locs cells slots ls D cA base ad0 n0 ad C E h1 h2 h3
  exact lv_astore C.1 C.2.1 hd h3 hn (st1_tv ad la j (.ref x)) (fun ls1 h9 => k p l e s m args below meth c H locs cells slots ls1 D cA base ad0 n0 ad C E (st1_ok h1 (okS_cons.mp h2).1) (okS_cons.mp h2).2 h9)
theorem a_iinc {j : Nat} {n : Int} {x : Int32} (v : Int32) (hd : decode Y.2.1 pc = .ok (.iinc j n, 3)) (hv : Int32.ofInt n = v) (hl : lk la j = some (.int x)) (hn : j < Y.2.2.1) (k : AW Y rm b μ (pc + 3) (st1 la j (.int (x + v))) st o μ1) : AW Y rm b μ pc la st o μ1 := by
  subst hv
  intro p l e s m args below meth c H locs cells slots ls D cA base ad0 n0 ad C E h1 h2 h3
  obtain ⟨i9, hi9⟩ := List.mem_iff_getElem?.mp (List.mem_map.mpr ⟨(j, Value.int x), lk_mem hl, rfl⟩ : (j, Value.int x) ∈ la.map fun q => (q.1, tv ad q.2))
  exact lv_iinc C.1 C.2.1 hd h3 hi9 rfl hn (st1_tv ad la j (.int (x + Int32.ofInt n))) (fun ls1 h9 => k p l e s m args below meth c H locs cells slots ls1 D cA base ad0 n0 ad C E (st1_ok h1 trivial) h2 h9)
theorem a_iadd {x y : Int32} (hd : decode Y.2.1 pc = .ok (.iadd, 1))  (k : AW Y rm b μ (pc + 1) la (.int (x + y) :: st) o μ1) : AW Y rm b μ pc la (.int y :: .int x :: st) o μ1 := by
  intro p l e s m args below meth c H locs cells slots ls D cA base ad0 n0 ad C E h1 h2 h3
  exact lv_iadd C.1 C.2.1 hd  (k p l e s m args below meth c H locs cells slots ls D cA base ad0 n0 ad C E h1 (by simpa only [okS_cons, okV_int, okV_long, okV_float, okV_double, okV_null, true_and] using h2) h3)
theorem a_isub {x y : Int32} (hd : decode Y.2.1 pc = .ok (.isub, 1))  (k : AW Y rm b μ (pc + 1) la (.int (x - y) :: st) o μ1) : AW Y rm b μ pc la (.int y :: .int x :: st) o μ1 := by
  intro p l e s m args below meth c H locs cells slots ls D cA base ad0 n0 ad C E h1 h2 h3
  exact lv_isub C.1 C.2.1 hd  (k p l e s m args below meth c H locs cells slots ls D cA base ad0 n0 ad C E h1 (by simpa only [okS_cons, okV_int, okV_long, okV_float, okV_double, okV_null, true_and] using h2) h3)
theorem a_imul {x y : Int32} (hd : decode Y.2.1 pc = .ok (.imul, 1))  (k : AW Y rm b μ (pc + 1) la (.int (x * y) :: st) o μ1) : AW Y rm b μ pc la (.int y :: .int x :: st) o μ1 := by
  intro p l e s m args below meth c H locs cells slots ls D cA base ad0 n0 ad C E h1 h2 h3
  exact lv_imul C.1 C.2.1 hd  (k p l e s m args below meth c H locs cells slots ls D cA base ad0 n0 ad C E h1 (by simpa only [okS_cons, okV_int, okV_long, okV_float, okV_double, okV_null, true_and] using h2) h3)
theorem a_iand {x y : Int32} (hd : decode Y.2.1 pc = .ok (.iand, 1))  (k : AW Y rm b μ (pc + 1) la (.int (x &&& y) :: st) o μ1) : AW Y rm b μ pc la (.int y :: .int x :: st) o μ1 := by
  intro p l e s m args below meth c H locs cells slots ls D cA base ad0 n0 ad C E h1 h2 h3
  exact lv_iand C.1 C.2.1 hd  (k p l e s m args below meth c H locs cells slots ls D cA base ad0 n0 ad C E h1 (by simpa only [okS_cons, okV_int, okV_long, okV_float, okV_double, okV_null, true_and] using h2) h3)
theorem a_ior {x y : Int32} (hd : decode Y.2.1 pc = .ok (.ior, 1))  (k : AW Y rm b μ (pc + 1) la (.int (x ||| y) :: st) o μ1) : AW Y rm b μ pc la (.int y :: .int x :: st) o μ1 := by
  intro p l e s m args below meth c H locs cells slots ls D cA base ad0 n0 ad C E h1 h2 h3
  exact lv_ior C.1 C.2.1 hd  (k p l e s m args below meth c H locs cells slots ls D cA base ad0 n0 ad C E h1 (by simpa only [okS_cons, okV_int, okV_long, okV_float, okV_double, okV_null, true_and] using h2) h3)
theorem a_ixor {x y : Int32} (hd : decode Y.2.1 pc = .ok (.ixor, 1))  (k : AW Y rm b μ (pc + 1) la (.int (x ^^^ y) :: st) o μ1) : AW Y rm b μ pc la (.int y :: .int x :: st) o μ1 := by
  intro p l e s m args below meth c H locs cells slots ls D cA base ad0 n0 ad C E h1 h2 h3
  exact lv_ixor C.1 C.2.1 hd  (k p l e s m args below meth c H locs cells slots ls D cA base ad0 n0 ad C E h1 (by simpa only [okS_cons, okV_int, okV_long, okV_float, okV_double, okV_null, true_and] using h2) h3)
theorem a_ishl {x y : Int32} (hd : decode Y.2.1 pc = .ok (.ishl, 1))  (k : AW Y rm b μ (pc + 1) la (.int (x <<< (y &&& 31)) :: st) o μ1) : AW Y rm b μ pc la (.int y :: .int x :: st) o μ1 := by
  intro p l e s m args below meth c H locs cells slots ls D cA base ad0 n0 ad C E h1 h2 h3
  exact lv_ishl C.1 C.2.1 hd  (k p l e s m args below meth c H locs cells slots ls D cA base ad0 n0 ad C E h1 (by simpa only [okS_cons, okV_int, okV_long, okV_float, okV_double, okV_null, true_and] using h2) h3)
theorem a_ishr {x y : Int32} (hd : decode Y.2.1 pc = .ok (.ishr, 1))  (k : AW Y rm b μ (pc + 1) la (.int (x >>> (y &&& 31)) :: st) o μ1) : AW Y rm b μ pc la (.int y :: .int x :: st) o μ1 := by
  intro p l e s m args below meth c H locs cells slots ls D cA base ad0 n0 ad C E h1 h2 h3
  exact lv_ishr C.1 C.2.1 hd  (k p l e s m args below meth c H locs cells slots ls D cA base ad0 n0 ad C E h1 (by simpa only [okS_cons, okV_int, okV_long, okV_float, okV_double, okV_null, true_and] using h2) h3)
theorem a_idiv {x y : Int32} (hd : decode Y.2.1 pc = .ok (.idiv, 1)) (hne : ¬ y = 0) (k : AW Y rm b μ (pc + 1) la (.int (x / y) :: st) o μ1) : AW Y rm b μ pc la (.int y :: .int x :: st) o μ1 := by
  intro p l e s m args below meth c H locs cells slots ls D cA base ad0 n0 ad C E h1 h2 h3
  exact lv_idiv C.1 C.2.1 hd hne (k p l e s m args below meth c H locs cells slots ls D cA base ad0 n0 ad C E h1 (by simpa only [okS_cons, okV_int, okV_long, okV_float, okV_double, okV_null, true_and] using h2) h3)
theorem a_irem {x y : Int32} (hd : decode Y.2.1 pc = .ok (.irem, 1)) (hne : ¬ y = 0) (k : AW Y rm b μ (pc + 1) la (.int (x - (x / y) * y) :: st) o μ1) : AW Y rm b μ pc la (.int y :: .int x :: st) o μ1 := by
  intro p l e s m args below meth c H locs cells slots ls D cA base ad0 n0 ad C E h1 h2 h3
  exact lv_irem C.1 C.2.1 hd hne (k p l e s m args below meth c H locs cells slots ls D cA base ad0 n0 ad C E h1 (by simpa only [okS_cons, okV_int, okV_long, okV_float, okV_double, okV_null, true_and] using h2) h3)
theorem a_ladd {x y : Int64} (hd : decode Y.2.1 pc = .ok (.ladd, 1))  (k : AW Y rm b μ (pc + 1) la (.long (x + y) :: st) o μ1) : AW Y rm b μ pc la (.long y :: .long x :: st) o μ1 := by
  intro p l e s m args below meth c H locs cells slots ls D cA base ad0 n0 ad C E h1 h2 h3
  exact lv_ladd C.1 C.2.1 hd  (k p l e s m args below meth c H locs cells slots ls D cA base ad0 n0 ad C E h1 (by simpa only [okS_cons, okV_int, okV_long, okV_float, okV_double, okV_null, true_and] using h2) h3)
theorem a_lsub {x y : Int64} (hd : decode Y.2.1 pc = .ok (.lsub, 1))  (k : AW Y rm b μ (pc + 1) la (.long (x - y) :: st) o μ1) : AW Y rm b μ pc la (.long y :: .long x :: st) o μ1 := by
  intro p l e s m args below meth c H locs cells slots ls D cA base ad0 n0 ad C E h1 h2 h3
  exact lv_lsub C.1 C.2.1 hd  (k p l e s m args below meth c H locs cells slots ls D cA base ad0 n0 ad C E h1 (by simpa only [okS_cons, okV_int, okV_long, okV_float, okV_double, okV_null, true_and] using h2) h3)
theorem a_lmul {x y : Int64} (hd : decode Y.2.1 pc = .ok (.lmul, 1))  (k : AW Y rm b μ (pc + 1) la (.long (x * y) :: st) o μ1) : AW Y rm b μ pc la (.long y :: .long x :: st) o μ1 := by
  intro p l e s m args below meth c H locs cells slots ls D cA base ad0 n0 ad C E h1 h2 h3
  exact lv_lmul C.1 C.2.1 hd  (k p l e s m args below meth c H locs cells slots ls D cA base ad0 n0 ad C E h1 (by simpa only [okS_cons, okV_int, okV_long, okV_float, okV_double, okV_null, true_and] using h2) h3)
theorem a_land {x y : Int64} (hd : decode Y.2.1 pc = .ok (.land, 1))  (k : AW Y rm b μ (pc + 1) la (.long (x &&& y) :: st) o μ1) : AW Y rm b μ pc la (.long y :: .long x :: st) o μ1 := by
  intro p l e s m args below meth c H locs cells slots ls D cA base ad0 n0 ad C E h1 h2 h3
  exact lv_land C.1 C.2.1 hd  (k p l e s m args below meth c H locs cells slots ls D cA base ad0 n0 ad C E h1 (by simpa only [okS_cons, okV_int, okV_long, okV_float, okV_double, okV_null, true_and] using h2) h3)
theorem a_i2l {x : Int32} (hd : decode Y.2.1 pc = .ok (.i2l, 1))  (k : AW Y rm b μ (pc + 1) la (.long x.toInt64 :: st) o μ1) : AW Y rm b μ pc la (.int x :: st) o μ1 := by
  intro p l e s m args below meth c H locs cells slots ls D cA base ad0 n0 ad C E h1 h2 h3
  exact lv_i2l C.1 C.2.1 hd rfl (k p l e s m args below meth c H locs cells slots ls D cA base ad0 n0 ad C E h1 (by simpa only [okS_cons, okV_int, okV_long, okV_float, okV_double, okV_null, true_and] using h2) h3)
theorem a_l2i {x : Int64} (hd : decode Y.2.1 pc = .ok (.l2i, 1))  (k : AW Y rm b μ (pc + 1) la (.int x.toInt32 :: st) o μ1) : AW Y rm b μ pc la (.long x :: st) o μ1 := by
  intro p l e s m args below meth c H locs cells slots ls D cA base ad0 n0 ad C E h1 h2 h3
  exact lv_l2i C.1 C.2.1 hd rfl (k p l e s m args below meth c H locs cells slots ls D cA base ad0 n0 ad C E h1 (by simpa only [okS_cons, okV_int, okV_long, okV_float, okV_double, okV_null, true_and] using h2) h3)
theorem a_i2b {x : Int32} (hd : decode Y.2.1 pc = .ok (.i2b, 1))  (k : AW Y rm b μ (pc + 1) la (.int x.toInt8.toInt32 :: st) o μ1) : AW Y rm b μ pc la (.int x :: st) o μ1 := by
  intro p l e s m args below meth c H locs cells slots ls D cA base ad0 n0 ad C E h1 h2 h3
  exact lv_i2b C.1 C.2.1 hd rfl (k p l e s m args below meth c H locs cells slots ls D cA base ad0 n0 ad C E h1 (by simpa only [okS_cons, okV_int, okV_long, okV_float, okV_double, okV_null, true_and] using h2) h3)
theorem a_i2c {x : Int32} (hd : decode Y.2.1 pc = .ok (.i2c, 1))  (k : AW Y rm b μ (pc + 1) la (.int (x.toUInt32 % 65536).toInt32 :: st) o μ1) : AW Y rm b μ pc la (.int x :: st) o μ1 := by
  intro p l e s m args below meth c H locs cells slots ls D cA base ad0 n0 ad C E h1 h2 h3
  exact lv_i2c C.1 C.2.1 hd rfl (k p l e s m args below meth c H locs cells slots ls D cA base ad0 n0 ad C E h1 (by simpa only [okS_cons, okV_int, okV_long, okV_float, okV_double, okV_null, true_and] using h2) h3)
theorem a_lshr {x : Int64} {y : Int32} (hd : decode Y.2.1 pc = .ok (.lshr, 1))  (k : AW Y rm b μ (pc + 1) la (.long (x >>> (y.toInt64 &&& 63)) :: st) o μ1) : AW Y rm b μ pc la (.int y :: .long x :: st) o μ1 := by
  intro p l e s m args below meth c H locs cells slots ls D cA base ad0 n0 ad C E h1 h2 h3
  exact lv_lshr C.1 C.2.1 hd rfl (k p l e s m args below meth c H locs cells slots ls D cA base ad0 n0 ad C E h1 (by simpa only [okS_cons, okV_int, okV_long, okV_float, okV_double, okV_null, true_and] using h2) h3)
theorem a_lshl {x : Int64} {y : Int32} (hd : decode Y.2.1 pc = .ok (.lshl, 1))  (k : AW Y rm b μ (pc + 1) la (.long (x <<< (y.toInt64 &&& 63)) :: st) o μ1) : AW Y rm b μ pc la (.int y :: .long x :: st) o μ1 := by
  intro p l e s m args below meth c H locs cells slots ls D cA base ad0 n0 ad C E h1 h2 h3
  exact lv_lshl C.1 C.2.1 hd rfl (k p l e s m args below meth c H locs cells slots ls D cA base ad0 n0 ad C E h1 (by simpa only [okS_cons, okV_int, okV_long, okV_float, okV_double, okV_null, true_and] using h2) h3)
theorem a_lcmp {x y : Int64} (hd : decode Y.2.1 pc = .ok (.lcmp, 1))  (k : AW Y rm b μ (pc + 1) la (.int (lg_cmp x y) :: st) o μ1) : AW Y rm b μ pc la (.long y :: .long x :: st) o μ1 := by
  intro p l e s m args below meth c H locs cells slots ls D cA base ad0 n0 ad C E h1 h2 h3
  exact W.lcmp C.1 C.2.1 hd  (k p l e s m args below meth c H locs cells slots ls D cA base ad0 n0 ad C E h1 (by simpa only [okS_cons, okV_int, okV_long, okV_float, okV_double, okV_null, true_and] using h2) h3)
theorem a_fcmp {x y : UInt32} {op : CmpOp} (hd : decode Y.2.1 pc = .ok (.fcmp op, 1))  (k : AW Y rm b μ (pc + 1) la (.int (Op.cmpValue (FP.fcmp x y) op) :: st) o μ1) : AW Y rm b μ pc la (.float y :: .float x :: st) o μ1 := by
  intro p l e s m args below meth c H locs cells slots ls D cA base ad0 n0 ad C E h1 h2 h3
  exact lv_fcmp C.1 C.2.1 hd  (k p l e s m args below meth c H locs cells slots ls D cA base ad0 n0 ad C E h1 (by simpa only [okS_cons, okV_int, okV_long, okV_float, okV_double, okV_null, true_and] using h2) h3)
theorem a_dcmp {x y : UInt64} {op : CmpOp} (hd : decode Y.2.1 pc = .ok (.dcmp op, 1))  (k : AW Y rm b μ (pc + 1) la (.int (Op.cmpValue (FP.dcmp x y) op) :: st) o μ1) : AW Y rm b μ pc la (.double y :: .double x :: st) o μ1 := by
  intro p l e s m args below meth c H locs cells slots ls D cA base ad0 n0 ad C E h1 h2 h3
  exact lv_dcmp C.1 C.2.1 hd  (k p l e s m args below meth c H locs cells slots ls D cA base ad0 n0 ad C E h1 (by simpa only [okS_cons, okV_int, okV_long, okV_float, okV_double, okV_null, true_and] using h2) h3)
theorem a_fsub {x y : UInt32} (hd : decode Y.2.1 pc = .ok (.fsub, 1)) (hne : vf_n32 (FP.fsub x y)) (k : AW Y rm b μ (pc + 1) la (.float (FP.fsub x y) :: st) o μ1) : AW Y rm b μ pc la (.float y :: .float x :: st) o μ1 := by
  intro p l e s m args below meth c H locs cells slots ls D cA base ad0 n0 ad C E h1 h2 h3
  exact lv_fsub C.1 C.2.1 hd hne (k p l e s m args below meth c H locs cells slots ls D cA base ad0 n0 ad C E h1 (by simpa only [okS_cons, okV_int, okV_long, okV_float, okV_double, okV_null, true_and] using h2) h3)
theorem a_fmul {x y : UInt32} (hd : decode Y.2.1 pc = .ok (.fmul, 1)) (hne : vf_n32 (FP.fmul x y)) (k : AW Y rm b μ (pc + 1) la (.float (FP.fmul x y) :: st) o μ1) : AW Y rm b μ pc la (.float y :: .float x :: st) o μ1 := by
  intro p l e s m args below meth c H locs cells slots ls D cA base ad0 n0 ad C E h1 h2 h3
  exact lv_fmul C.1 C.2.1 hd hne (k p l e s m args below meth c H locs cells slots ls D cA base ad0 n0 ad C E h1 (by simpa only [okS_cons, okV_int, okV_long, okV_float, okV_double, okV_null, true_and] using h2) h3)
theorem a_fdiv {x y : UInt32} (hd : decode Y.2.1 pc = .ok (.fdiv, 1)) (hne : vf_n32 (FP.fdiv x y)) (k : AW Y rm b μ (pc + 1) la (.float (FP.fdiv x y) :: st) o μ1) : AW Y rm b μ pc la (.float y :: .float x :: st) o μ1 := by
  intro p l e s m args below meth c H locs cells slots ls D cA base ad0 n0 ad C E h1 h2 h3
  exact lv_fdiv C.1 C.2.1 hd hne (k p l e s m args below meth c H locs cells slots ls D cA base ad0 n0 ad C E h1 (by simpa only [okS_cons, okV_int, okV_long, okV_float, okV_double, okV_null, true_and] using h2) h3)
theorem a_dsub {x y : UInt64} (hd : decode Y.2.1 pc = .ok (.dsub, 1)) (hne : vf_n64 (FP.dsub x y)) (k : AW Y rm b μ (pc + 1) la (.double (FP.dsub x y) :: st) o μ1) : AW Y rm b μ pc la (.double y :: .double x :: st) o μ1 := by
  intro p l e s m args below meth c H locs cells slots ls D cA base ad0 n0 ad C E h1 h2 h3
  exact lv_dsub C.1 C.2.1 hd hne (k p l e s m args below meth c H locs cells slots ls D cA base ad0 n0 ad C E h1 (by simpa only [okS_cons, okV_int, okV_long, okV_float, okV_double, okV_null, true_and] using h2) h3)
theorem a_dmul {x y : UInt64} (hd : decode Y.2.1 pc = .ok (.dmul, 1)) (hne : vf_n64 (FP.dmul x y)) (k : AW Y rm b μ (pc + 1) la (.double (FP.dmul x y) :: st) o μ1) : AW Y rm b μ pc la (.double y :: .double x :: st) o μ1 := by
  intro p l e s m args below meth c H locs cells slots ls D cA base ad0 n0 ad C E h1 h2 h3
  exact lv_dmul C.1 C.2.1 hd hne (k p l e s m args below meth c H locs cells slots ls D cA base ad0 n0 ad C E h1 (by simpa only [okS_cons, okV_int, okV_long, okV_float, okV_double, okV_null, true_and] using h2) h3)
theorem a_ddiv {x y : UInt64} (hd : decode Y.2.1 pc = .ok (.ddiv, 1)) (hne : vf_n64 (FP.ddiv x y)) (k : AW Y rm b μ (pc + 1) la (.double (FP.ddiv x y) :: st) o μ1) : AW Y rm b μ pc la (.double y :: .double x :: st) o μ1 := by
  intro p l e s m args below meth c H locs cells slots ls D cA base ad0 n0 ad C E h1 h2 h3
  exact lv_ddiv C.1 C.2.1 hd hne (k p l e s m args below meth c H locs cells slots ls D cA base ad0 n0 ad C E h1 (by simpa only [okS_cons, okV_int, okV_long, okV_float, okV_double, okV_null, true_and] using h2) h3)
theorem a_f2d {x : UInt32} (hd : decode Y.2.1 pc = .ok (.f2d, 1)) (hne : vf_n64 (FP.f2d x)) (k : AW Y rm b μ (pc + 1) la (.double (FP.f2d x) :: st) o μ1) : AW Y rm b μ pc la (.float x :: st) o μ1 := by
  intro p l e s m args below meth c H locs cells slots ls D cA base ad0 n0 ad C E h1 h2 h3
  exact lv_f2d C.1 C.2.1 hd hne (k p l e s m args below meth c H locs cells slots ls D cA base ad0 n0 ad C E h1 (by simpa only [okS_cons, okV_int, okV_long, okV_float, okV_double, okV_null, true_and] using h2) h3)
theorem a_l2f {x : Int64} (hd : decode Y.2.1 pc = .ok (.l2f, 1))  (k : AW Y rm b μ (pc + 1) la (.float (FP.l2f x) :: st) o μ1) : AW Y rm b μ pc la (.long x :: st) o μ1 := by
  intro p l e s m args below meth c H locs cells slots ls D cA base ad0 n0 ad C E h1 h2 h3
  exact lv_l2f C.1 C.2.1 hd  (k p l e s m args below meth c H locs cells slots ls D cA base ad0 n0 ad C E h1 (by simpa only [okS_cons, okV_int, okV_long, okV_float, okV_double, okV_null, true_and] using h2) h3)
theorem a_l2d {x : Int64} (hd : decode Y.2.1 pc = .ok (.l2d, 1))  (k : AW Y rm b μ (pc + 1) la (.double (FP.l2d x) :: st) o μ1) : AW Y rm b μ pc la (.long x :: st) o μ1 := by
  intro p l e s m args below meth c H locs cells slots ls D cA base ad0 n0 ad C E h1 h2 h3
  exact lv_l2d C.1 C.2.1 hd  (k p l e s m args below meth c H locs cells slots ls D cA base ad0 n0 ad C E h1 (by simpa only [okS_cons, okV_int, okV_long, okV_float, okV_double, okV_null, true_and] using h2) h3)
theorem a_f2i {x : UInt32} (hd : decode Y.2.1 pc = .ok (.f2i, 1))  (k : AW Y rm b μ (pc + 1) la (.int (FP.f2i x) :: st) o μ1) : AW Y rm b μ pc la (.float x :: st) o μ1 := by
  intro p l e s m args below meth c H locs cells slots ls D cA base ad0 n0 ad C E h1 h2 h3
  exact lv_f2i C.1 C.2.1 hd  (k p l e s m args below meth c H locs cells slots ls D cA base ad0 n0 ad C E h1 (by simpa only [okS_cons, okV_int, okV_long, okV_float, okV_double, okV_null, true_and] using h2) h3)
theorem a_d2l {x : UInt64} (hd : decode Y.2.1 pc = .ok (.d2l, 1))  (k : AW Y rm b μ (pc + 1) la (.long (FP.d2l x) :: st) o μ1) : AW Y rm b μ pc la (.double x :: st) o μ1 := by
  intro p l e s m args below meth c H locs cells slots ls D cA base ad0 n0 ad C E h1 h2 h3
  exact lv_d2l C.1 C.2.1 hd  (k p l e s m args below meth c H locs cells slots ls D cA base ad0 n0 ad C E h1 (by simpa only [okS_cons, okV_int, okV_long, okV_float, okV_double, okV_null, true_and] using h2) h3)
theorem a_dup {v : Value} (hd : decode Y.2.1 pc = .ok (.dup, 1)) (hv : v.category = 1) (k : AW Y rm b μ (pc + 1) la (v :: v :: st) o μ1) : AW Y rm b μ pc la (v :: st) o μ1 := by
  intro p l e s m args below meth c H locs cells slots ls D cA base ad0 n0 ad C E h1 h2 h3
  exact lv_dup C.1 C.2.1 hd (by rw [tv_cat]; exact hv) (k p l e s m args below meth c H locs cells slots ls D cA base ad0 n0 ad C E h1 (okS_cons.mpr ⟨(okS_cons.mp h2).1, h2⟩) h3)
theorem a_pop {v : Value} (hd : decode Y.2.1 pc = .ok (.pop, 1)) (hv : v.category = 1) (k : AW Y rm b μ (pc + 1) la st o μ1) : AW Y rm b μ pc la (v :: st) o μ1 := by
  intro p l e s m args below meth c H locs cells slots ls D cA base ad0 n0 ad C E h1 h2 h3
  exact lv_pop C.1 C.2.1 hd (by rw [tv_cat]; exact hv) (k p l e s m args below meth c H locs cells slots ls D cA base ad0 n0 ad C E h1 (okS_cons.mp h2).2 h3)
theorem a_dup2 {v u : Value} (hd : decode Y.2.1 pc = .ok (.dup2, 1)) (hv : v.category = 1) (hu : u.category = 1) (k : AW Y rm b μ (pc + 1) la (v :: u :: v :: u :: st) o μ1) : AW Y rm b μ pc la (v :: u :: st) o μ1 := by
  intro p l e s m args below meth c H locs cells slots ls D cA base ad0 n0 ad C E h1 h2 h3
  exact lv_dup2_11 C.1 C.2.1 hd (by rw [tv_cat]; exact hv) (by rw [tv_cat]; exact hu) (k p l e s m args below meth c H locs cells slots ls D cA base ad0 n0 ad C E h1 (okS_cons.mpr ⟨(okS_cons.mp h2).1, okS_cons.mpr ⟨(okS_cons.mp (okS_cons.mp h2).2).1, h2⟩⟩) h3)
theorem a_goto {off : Int} {tgt : Nat} (hd : decode Y.2.1 pc = .ok (.goto off, 3)) (ht : (pc : Int) + off = (tgt : Int)) (k : AW Y rm b μ tgt la st o μ1) : AW Y rm b μ pc la st o μ1 := by
  intro p l e s m args below meth c H locs cells slots ls D cA base ad0 n0 ad C E h1 h2 h3
  exact lv_goto C.1 C.2.1 hd ht (k p l e s m args below meth c H locs cells slots ls D cA base ad0 n0 ad C E h1 h2 h3)
theorem a_if_eq {x : Int32} {off : Int} {tgt : Nat} (hd : decode Y.2.1 pc = .ok (.ifCond .eq off, 3)) (ht : (pc : Int) + off = (tgt : Int)) (kt : x = 0 → AW Y rm b μ tgt la st o μ1) (kf : ¬ x = 0 → AW Y rm b μ (pc + 3) la st o μ1) : AW Y rm b μ pc la (.int x :: st) o μ1 := by
  intro p l e s m args below meth c H locs cells slots ls D cA base ad0 n0 ad C E h1 h2 h3
  exact lv_if_eq C.1 C.2.1 hd ht (fun h9 => kt h9 p l e s m args below meth c H locs cells slots ls D cA base ad0 n0 ad C E h1 (okS_cons.mp h2).2 h3) (fun h9 => kf h9 p l e s m args below meth c H locs cells slots ls D cA base ad0 n0 ad C E h1 (okS_cons.mp h2).2 h3)
theorem a_icmp_eq {x y : Int32} {off : Int} {tgt : Nat} (hd : decode Y.2.1 pc = .ok (.if_icmp .eq off, 3)) (ht : (pc : Int) + off = (tgt : Int)) (kt : x = y → AW Y rm b μ tgt la st o μ1) (kf : ¬ x = y → AW Y rm b μ (pc + 3) la st o μ1) : AW Y rm b μ pc la (.int y :: .int x :: st) o μ1 := by
  intro p l e s m args below meth c H locs cells slots ls D cA base ad0 n0 ad C E h1 h2 h3
  exact lv_icmp_eq C.1 C.2.1 hd ht (fun h9 => kt h9 p l e s m args below meth c H locs cells slots ls D cA base ad0 n0 ad C E h1 (okS_cons.mp (okS_cons.mp h2).2).2 h3) (fun h9 => kf h9 p l e s m args below meth c H locs cells slots ls D cA base ad0 n0 ad C E h1 (okS_cons.mp (okS_cons.mp h2).2).2 h3)
theorem a_if_ne {x : Int32} {off : Int} {tgt : Nat} (hd : decode Y.2.1 pc = .ok (.ifCond .ne off, 3)) (ht : (pc : Int) + off = (tgt : Int)) (kt : ¬ x = 0 → AW Y rm b μ tgt la st o μ1) (kf : x = 0 → AW Y rm b μ (pc + 3) la st o μ1) : AW Y rm b μ pc la (.int x :: st) o μ1 := by
  intro p l e s m args below meth c H locs cells slots ls D cA base ad0 n0 ad C E h1 h2 h3
  exact lv_if_ne C.1 C.2.1 hd ht (fun h9 => kt h9 p l e s m args below meth c H locs cells slots ls D cA base ad0 n0 ad C E h1 (okS_cons.mp h2).2 h3) (fun h9 => kf h9 p l e s m args below meth c H locs cells slots ls D cA base ad0 n0 ad C E h1 (okS_cons.mp h2).2 h3)
theorem a_icmp_ne {x y : Int32} {off : Int} {tgt : Nat} (hd : decode Y.2.1 pc = .ok (.if_icmp .ne off, 3)) (ht : (pc : Int) + off = (tgt : Int)) (kt : ¬ x = y → AW Y rm b μ tgt la st o μ1) (kf : x = y → AW Y rm b μ (pc + 3) la st o μ1) : AW Y rm b μ pc la (.int y :: .int x :: st) o μ1 := by
  intro p l e s m args below meth c H locs cells slots ls D cA base ad0 n0 ad C E h1 h2 h3
  exact lv_icmp_ne C.1 C.2.1 hd ht (fun h9 => kt h9 p l e s m args below meth c H locs cells slots ls D cA base ad0 n0 ad C E h1 (okS_cons.mp (okS_cons.mp h2).2).2 h3) (fun h9 => kf h9 p l e s m args below meth c H locs cells slots ls D cA base ad0 n0 ad C E h1 (okS_cons.mp (okS_cons.mp h2).2).2 h3)
theorem a_if_lt {x : Int32} {off : Int} {tgt : Nat} (hd : decode Y.2.1 pc = .ok (.ifCond .lt off, 3)) (ht : (pc : Int) + off = (tgt : Int)) (kt : x < 0 → AW Y rm b μ tgt la st o μ1) (kf : ¬ x < 0 → AW Y rm b μ (pc + 3) la st o μ1) : AW Y rm b μ pc la (.int x :: st) o μ1 := by
  intro p l e s m args below meth c H locs cells slots ls D cA base ad0 n0 ad C E h1 h2 h3
  exact lv_if_lt C.1 C.2.1 hd ht (fun h9 => kt h9 p l e s m args below meth c H locs cells slots ls D cA base ad0 n0 ad C E h1 (okS_cons.mp h2).2 h3) (fun h9 => kf h9 p l e s m args below meth c H locs cells slots ls D cA base ad0 n0 ad C E h1 (okS_cons.mp h2).2 h3)
theorem a_icmp_lt {x y : Int32} {off : Int} {tgt : Nat} (hd : decode Y.2.1 pc = .ok (.if_icmp .lt off, 3)) (ht : (pc : Int) + off = (tgt : Int)) (kt : x < y → AW Y rm b μ tgt la st o μ1) (kf : ¬ x < y → AW Y rm b μ (pc + 3) la st o μ1) : AW Y rm b μ pc la (.int y :: .int x :: st) o μ1 := by
  intro p l e s m args below meth c H locs cells slots ls D cA base ad0 n0 ad C E h1 h2 h3
  exact lv_icmp_lt C.1 C.2.1 hd ht (fun h9 => kt h9 p l e s m args below meth c H locs cells slots ls D cA base ad0 n0 ad C E h1 (okS_cons.mp (okS_cons.mp h2).2).2 h3) (fun h9 => kf h9 p l e s m args below meth c H locs cells slots ls D cA base ad0 n0 ad C E h1 (okS_cons.mp (okS_cons.mp h2).2).2 h3)
theorem a_if_ge {x : Int32} {off : Int} {tgt : Nat} (hd : decode Y.2.1 pc = .ok (.ifCond .ge off, 3)) (ht : (pc : Int) + off = (tgt : Int)) (kt : 0 ≤ x → AW Y rm b μ tgt la st o μ1) (kf : ¬ 0 ≤ x → AW Y rm b μ (pc + 3) la st o μ1) : AW Y rm b μ pc la (.int x :: st) o μ1 := by
  intro p l e s m args below meth c H locs cells slots ls D cA base ad0 n0 ad C E h1 h2 h3
  exact lv_if_ge C.1 C.2.1 hd ht (fun h9 => kt h9 p l e s m args below meth c H locs cells slots ls D cA base ad0 n0 ad C E h1 (okS_cons.mp h2).2 h3) (fun h9 => kf h9 p l e s m args below meth c H locs cells slots ls D cA base ad0 n0 ad C E h1 (okS_cons.mp h2).2 h3)
theorem a_icmp_ge {x y : Int32} {off : Int} {tgt : Nat} (hd : decode Y.2.1 pc = .ok (.if_icmp .ge off, 3)) (ht : (pc : Int) + off = (tgt : Int)) (kt : y ≤ x → AW Y rm b μ tgt la st o μ1) (kf : ¬ y ≤ x → AW Y rm b μ (pc + 3) la st o μ1) : AW Y rm b μ pc la (.int y :: .int x :: st) o μ1 := by
  intro p l e s m args below meth c H locs cells slots ls D cA base ad0 n0 ad C E h1 h2 h3
  exact lv_icmp_ge C.1 C.2.1 hd ht (fun h9 => kt h9 p l e s m args below meth c H locs cells slots ls D cA base ad0 n0 ad C E h1 (okS_cons.mp (okS_cons.mp h2).2).2 h3) (fun h9 => kf h9 p l e s m args below meth c H locs cells slots ls D cA base ad0 n0 ad C E h1 (okS_cons.mp (okS_cons.mp h2).2).2 h3)
theorem a_if_gt {x : Int32} {off : Int} {tgt : Nat} (hd : decode Y.2.1 pc = .ok (.ifCond .gt off, 3)) (ht : (pc : Int) + off = (tgt : Int)) (kt : 0 < x → AW Y rm b μ tgt la st o μ1) (kf : ¬ 0 < x → AW Y rm b μ (pc + 3) la st o μ1) : AW Y rm b μ pc la (.int x :: st) o μ1 := by
  intro p l e s m args below meth c H locs cells slots ls D cA base ad0 n0 ad C E h1 h2 h3
  exact lv_if_gt C.1 C.2.1 hd ht (fun h9 => kt h9 p l e s m args below meth c H locs cells slots ls D cA base ad0 n0 ad C E h1 (okS_cons.mp h2).2 h3) (fun h9 => kf h9 p l e s m args below meth c H locs cells slots ls D cA base ad0 n0 ad C E h1 (okS_cons.mp h2).2 h3)
theorem a_icmp_gt {x y : Int32} {off : Int} {tgt : Nat} (hd : decode Y.2.1 pc = .ok (.if_icmp .gt off, 3)) (ht : (pc : Int) + off = (tgt : Int)) (kt : y < x → AW Y rm b μ tgt la st o μ1) (kf : ¬ y < x → AW Y rm b μ (pc + 3) la st o μ1) : AW Y rm b μ pc la (.int y :: .int x :: st) o μ1 := by
  intro p l e s m args below meth c H locs cells slots ls D cA base ad0 n0 ad C E h1 h2 h3
  exact lv_icmp_gt C.1 C.2.1 hd ht (fun h9 => kt h9 p l e s m args below meth c H locs cells slots ls D cA base ad0 n0 ad C E h1 (okS_cons.mp (okS_cons.mp h2).2).2 h3) (fun h9 => kf h9 p l e s m args below meth c H locs cells slots ls D cA base ad0 n0 ad C E h1 (okS_cons.mp (okS_cons.mp h2).2).2 h3)
theorem a_if_le {x : Int32} {off : Int} {tgt : Nat} (hd : decode Y.2.1 pc = .ok (.ifCond .le off, 3)) (ht : (pc : Int) + off = (tgt : Int)) (kt : x ≤ 0 → AW Y rm b μ tgt la st o μ1) (kf : ¬ x ≤ 0 → AW Y rm b μ (pc + 3) la st o μ1) : AW Y rm b μ pc la (.int x :: st) o μ1 := by
  intro p l e s m args below meth c H locs cells slots ls D cA base ad0 n0 ad C E h1 h2 h3
  exact lv_if_le C.1 C.2.1 hd ht (fun h9 => kt h9 p l e s m args below meth c H locs cells slots ls D cA base ad0 n0 ad C E h1 (okS_cons.mp h2).2 h3) (fun h9 => kf h9 p l e s m args below meth c H locs cells slots ls D cA base ad0 n0 ad C E h1 (okS_cons.mp h2).2 h3)
theorem a_icmp_le {x y : Int32} {off : Int} {tgt : Nat} (hd : decode Y.2.1 pc = .ok (.if_icmp .le off, 3)) (ht : (pc : Int) + off = (tgt : Int)) (kt : x ≤ y → AW Y rm b μ tgt la st o μ1) (kf : ¬ x ≤ y → AW Y rm b μ (pc + 3) la st o μ1) : AW Y rm b μ pc la (.int y :: .int x :: st) o μ1 := by
  intro p l e s m args below meth c H locs cells slots ls D cA base ad0 n0 ad C E h1 h2 h3
  exact lv_icmp_le C.1 C.2.1 hd ht (fun h9 => kt h9 p l e s m args below meth c H locs cells slots ls D cA base ad0 n0 ad C E h1 (okS_cons.mp (okS_cons.mp h2).2).2 h3) (fun h9 => kf h9 p l e s m args below meth c H locs cells slots ls D cA base ad0 n0 ad C E h1 (okS_cons.mp (okS_cons.mp h2).2).2 h3)
theorem a_tabOut {dflt lo hi : Int} {offs : Array Int} {len : Nat} {x : Int32} {tgt : Nat} (hd : decode Y.2.1 pc = .ok (.tableswitch dflt lo hi offs, len)) (h : x.toInt < lo ∨ hi < x.toInt) (ht : (pc : Int) + dflt = (tgt : Int)) (k : AW Y rm b μ tgt la st o μ1) : AW Y rm b μ pc la (.int x :: st) o μ1 := by
  intro p l e s m args below meth c H locs cells slots ls D cA base ad0 n0 ad C E h1 h2 h3
  exact lv_tableOut C.1 C.2.1 hd h ht (k p l e s m args below meth c H locs cells slots ls D cA base ad0 n0 ad C E h1 (okS_cons.mp h2).2 h3)
theorem a_tabIn {dflt lo hi : Int} {offs : Array Int} {len : Nat} {x : Int32} {off : Int} {tgt : Nat} (hd : decode Y.2.1 pc = .ok (.tableswitch dflt lo hi offs, len)) (h4 : ¬ x.toInt < lo) (h5 : ¬ hi < x.toInt) (ho : offs[(x.toInt - lo).toNat]? = some off) (ht : (pc : Int) + off = (tgt : Int)) (k : AW Y rm b μ tgt la st o μ1) : AW Y rm b μ pc la (.int x :: st) o μ1 := by
  intro p l e s m args below meth c H locs cells slots ls D cA base ad0 n0 ad C E h1 h2 h3
  exact lv_tableIn C.1 C.2.1 hd h4 h5 ho ht (k p l e s m args below meth c H locs cells slots ls D cA base ad0 n0 ad C E h1 (okS_cons.mp h2).2 h3)
theorem a_ldc2 {i : Nat} {v : Int64} (hd : decode Y.2.1 pc = .ok (.ldc2_w i, 3)) (hw : Cond.constantLong Y.1.cls i v ∈ lwa) (k : AW Y rm b μ (pc + 3) la (.long v :: st) o μ1) : AW Y rm b μ pc la st o μ1 := by
  intro p l e s m args below meth c H locs cells slots ls D cA base ad0 n0 ad C E h1 h2 h3
  exact lv_ldc2 C.1 C.2.1 C.2.2.2.2.1 (C.2.2.2.2.2.1 _ hw) hd (k p l e s m args below meth c H locs cells slots ls D cA base ad0 n0 ad C E h1 (by simpa only [okS_cons, okV_int, okV_long, okV_float, okV_double, okV_null, true_and] using h2) h3)
theorem a_ldc2d {i : Nat} {v : UInt64} (hd : decode Y.2.1 pc = .ok (.ldc2_w i, 3)) (hw : Cond.constantDouble Y.1.cls i v ∈ lwa) (k : AW Y rm b μ (pc + 3) la (.double v :: st) o μ1) : AW Y rm b μ pc la st o μ1 := by
  intro p l e s m args below meth c H locs cells slots ls D cA base ad0 n0 ad C E h1 h2 h3
  exact lv_ldc2d C.1 C.2.1 C.2.2.2.2.1 (C.2.2.2.2.2.1 _ hw) hd (k p l e s m args below meth c H locs cells slots ls D cA base ad0 n0 ad C E h1 (by simpa only [okS_cons, okV_int, okV_long, okV_float, okV_double, okV_null, true_and] using h2) h3)
theorem a_ldc {i : Nat} {v : Int32} (hd : decode Y.2.1 pc = .ok (.ldc i, 2)) (hw : Cond.constant Y.1.cls i v ∈ lwa) (k : AW Y rm b μ (pc + 2) la (.int v :: st) o μ1) : AW Y rm b μ pc la st o μ1 := by
  intro p l e s m args below meth c H locs cells slots ls D cA base ad0 n0 ad C E h1 h2 h3
  exact lv_ldc C.1 C.2.1 C.2.2.2.2.1 (C.2.2.2.2.2.1 _ hw) hd (k p l e s m args below meth c H locs cells slots ls D cA base ad0 n0 ad C E h1 (by simpa only [okS_cons, okV_int, okV_long, okV_float, okV_double, okV_null, true_and] using h2) h3)
/-- a String constant -/
theorem a_ldcS {i n : Nat} {tx : String} (hd : decode Y.2.1 pc = .ok (.ldc i, 2)) (hs : kst[n]? = some (Y.1.cls, i, tx)) (k : AW Y rm b μ (pc + 2) la (.ref (1000000 + n) :: st) o μ1) : AW Y rm b μ pc la st o μ1 := by
  intro p l e s m args below meth c H locs cells slots ls D cA base ad0 n0 ad C E h1 h2 h3
  exact va_ldcS C.1 C.2.1 C.2.2.2.2.1 (E.1.2.2.2.2.2.1 n _ hs).1 hd (k p l e s m args below meth c H locs cells slots ls D cA base ad0 n0 ad C E h1 (okS_cons.mpr ⟨Or.inr (Nat.le_add_right _ _), h2⟩) h3)
theorem Rl_at {D : va_G} {cA : Nat → ClassId} {base : Nat} {ad : Nat → Nat} {μ : Wd} {s t : State} {H : Heap} (ht : t.heap = H) (hv : s.vm.Alike t.vm) (h : Rl D cA base ad μ s H) : Rl D cA base ad μ t t.heap := by
  rw [ht]
  exact ⟨h.1, h.2.1, h.2.2.1, h.2.2.2.1, va_X.moved hv h.2.2.2.2.1, h.2.2.2.2.2⟩
theorem a_ireturn {v : Int32} (hd : decode Y.2.1 pc = .ok (.ireturn, 1)) {ty : FieldType} (hr : Y.2.2.2.1 = some ty) (hn : narrow ty (.int v) = .int v) : AW Y rm b μ pc la [.int v] (.inl (some (.int v))) μ := by
  intro p l e s m args below meth c H locs cells slots ls D cA base ad0 n0 ad C E h1 h2 h3
  refine W.widen (k := rm.cells) (n := rm.slots) (by have := E.2.2.2.2.2.2.2.1; omega) (by have := E.2.2.2.2.2.2.2.2; omega) (vx_ret ?_)
  exact W.zret C.1 C.2.1 (C.2.2.2.1.trans hr) hn (fun t ht hW => ⟨ad, some (.int v), rfl, rfl, E.2.2.2.2.2.1, E.2.2.2.2.2.2.1, Rl_at ht hW.alike E.2.2.1, fun z hz => by cases hz; trivial, va_S.F E.2.2.2.1 ht⟩) E.2.2.2.1.2.2 hd C.2.2.2.2.2.2.1
theorem a_lreturn {v : Int64} (hd : decode Y.2.1 pc = .ok (.lreturn, 1)) (hr : Y.2.2.2.1 = some .long) : AW Y rm b μ pc la [.long v] (.inl (some (.long v))) μ := by
  intro p l e s m args below meth c H locs cells slots ls D cA base ad0 n0 ad C E h1 h2 h3
  refine W.widen (k := rm.cells) (n := rm.slots) (by have := E.2.2.2.2.2.2.2.1; omega) (by have := E.2.2.2.2.2.2.2.2; omega) (vx_ret ?_)
  exact W.lret C.1 C.2.1 (C.2.2.2.1.trans hr) (fun t ht hW => ⟨ad, some (.long v), rfl, rfl, E.2.2.2.2.2.1, E.2.2.2.2.2.2.1, Rl_at ht hW.alike E.2.2.1, fun z hz => by cases hz; trivial, va_S.F E.2.2.2.1 ht⟩) E.2.2.2.1.2.2 hd C.2.2.2.2.2.2.1
theorem a_freturn {v : UInt32} (hd : decode Y.2.1 pc = .ok (.freturn, 1)) (hr : Y.2.2.2.1 = some .float) : AW Y rm b μ pc la [.float v] (.inl (some (.float v))) μ := by
  intro p l e s m args below meth c H locs cells slots ls D cA base ad0 n0 ad C E h1 h2 h3
  refine W.widen (k := rm.cells) (n := rm.slots) (by have := E.2.2.2.2.2.2.2.1; omega) (by have := E.2.2.2.2.2.2.2.2; omega) (vx_ret ?_)
  exact W.fret C.1 C.2.1 (C.2.2.2.1.trans hr) (fun t ht hW => ⟨ad, some (.float v), rfl, rfl, E.2.2.2.2.2.1, E.2.2.2.2.2.2.1, Rl_at ht hW.alike E.2.2.1, fun z hz => by cases hz; trivial, va_S.F E.2.2.2.1 ht⟩) E.2.2.2.1.2.2 hd C.2.2.2.2.2.2.1
theorem a_areturn {i : Nat} {rt : FieldType} (hd : decode Y.2.1 pc = .ok (.areturn, 1)) (hr : Y.2.2.2.1 = some rt) (hrt : (∃ n, rt = .object n) ∨ ∃ t, rt = .array t) : AW Y rm b μ pc la [.ref i] (.inl (some (.ref i))) μ := by
  intro p l e s m args below meth c H locs cells slots ls D cA base ad0 n0 ad C E h1 h2 h3
  refine W.widen (k := rm.cells) (n := rm.slots) (by have := E.2.2.2.2.2.2.2.1; omega) (by have := E.2.2.2.2.2.2.2.2; omega) (vx_ret ?_)
  exact W.aret (v := .ref (ad i)) C.1 C.2.1 (C.2.2.2.1.trans hr) hrt (Or.inr ⟨_, rfl⟩) (fun t ht hW => ⟨ad, some (.ref i), rfl, rfl, E.2.2.2.2.2.1, E.2.2.2.2.2.2.1, Rl_at ht hW.alike E.2.2.1, fun z hz => by cases hz; exact h2 _ List.mem_cons_self, va_S.F E.2.2.2.1 ht⟩) E.2.2.2.1.2.2 hd C.2.2.2.2.2.2.1
theorem a_return (hd : decode Y.2.1 pc = .ok (.return_, 1)) (hr : Y.2.2.2.1 = none) : AW Y rm b μ pc la [] (.inl none) μ := by
  intro p l e s m args below meth c H locs cells slots ls D cA base ad0 n0 ad C E h1 h2 h3
  refine W.widen (k := rm.cells) (n := rm.slots) (by have := E.2.2.2.2.2.2.2.1; omega) (by have := E.2.2.2.2.2.2.2.2; omega) (vx_ret ?_)
  exact W.vret C.1 C.2.1 (C.2.2.2.1.trans hr) (fun t ht hW => ⟨ad, none, rfl, rfl, E.2.2.2.2.2.1, E.2.2.2.2.2.2.1, Rl_at ht hW.alike E.2.2.1, fun z hz => (nomatch hz), va_S.F E.2.2.2.1 ht⟩) E.2.2.2.1.2.2 hd C.2.2.2.2.2.2.1
end CORE
