section STRN
variable {Y : Yd} {rm : Room} {b : Nat × Nat} {μ μ1 W : Wd} {pc : Nat} {la : List (Nat × Value)} {st : List Value} {o : Oc}
theorem a_iushr {x y : Int32} (hd : decode Y.2.1 pc = .ok (.iushr, 1))  (k : AW Y rm b μ (pc + 1) la (.int ((x.toUInt32 >>> (y.toUInt32 &&& Int32.toUInt32 31)).toInt32) :: st) o μ1) : AW Y rm b μ pc la (.int y :: .int x :: st) o μ1 := by
  intro p l e s m args below meth c H locs cells slots ls D cA base ad0 n0 ad C E h1 h2 h3
  exact lv_iushr C.1 C.2.1 hd rfl (k p l e s m args below meth c H locs cells slots ls D cA base ad0 n0 ad C E h1 (by simpa only [okS_cons, okV_int, true_and] using h2) h3)
/-- only the cells S may differ, and new ones may come -/
def Ex (S : Nat → Prop) (μ V : Wd) : Prop := Wf V ∧ wn μ ≤ wn V ∧ gX V = gX μ ∧ (∀ i, i < wn μ → gN V i = gN μ i) ∧ ∀ i, i < wn μ → ¬ S i → Sm μ V i
theorem Ex.of {S : Nat → Prop} (h : Out S μ W) : Ex S μ W := ⟨h.1, Nat.le_of_eq h.2.1.symm, h.2.2.2.1, fun i _ => by rw [h.2.2.1], fun i _ hs => h.2.2.2.2 i hs⟩
theorem Ex.rfl' {S : Nat → Prop} (hw : Wf μ) : Ex S μ μ := Ex.of (Out.rfl' hw)
theorem Ex.trans {S : Nat → Prop} {V : Wd} (h1 : Ex S μ W) (h2 : Ex S W V) : Ex S μ V :=
  ⟨h2.1, Nat.le_trans h1.2.1 h2.2.1, h2.2.2.1.trans h1.2.2.1, fun i hi => (h2.2.2.2.1 i (Nat.lt_of_lt_of_le hi h1.2.1)).trans (h1.2.2.2.1 i hi), fun i hi hs k => by
    have a := h1.2.2.2.2 i hi hs k
    have b := h2.2.2.2.2 i (Nat.lt_of_lt_of_le hi h1.2.1) hs k
    exact ⟨b.1.trans a.1, b.2.1.trans a.2.1, b.2.2.trans a.2.2⟩⟩
theorem Ex.mono {S S' : Nat → Prop} (h : Ex S μ W) (hs : ∀ i, i < wn μ → S i → S' i) : Ex S' μ W := ⟨h.1, h.2.1, h.2.2.1, h.2.2.2.1, fun i hi q => h.2.2.2.2 i hi fun z => q (hs i hi z)⟩
theorem Wf.mk (hw : Wf μ) (len : Nat) : Wf (mk μ len) := ⟨Nat.le_succ_of_le hw.1, fun i k j hj => by
  rw [gR_mk]
  by_cases e : i = wn μ
  · have h : ∀ i, 339 ≤ i → r0 i k = none := fun i hi => by
      unfold r0
      have : r0L.length ≤ i := Nat.le_trans (by decide +kernel) hi
      have e2 : r0L.getD i [] = [] := by rw [List.getD_eq_getElem?_getD, List.getElem?_eq_none this]; rfl
      rw [e2]
      rfl
    rw [h i (by rw [e]; exact hw.1)] at hj
    exact nomatch hj
  · rw [if_neg e]; exact hw.2 i k j hj⟩
theorem Ex.mk {S : Nat → Prop} (hw : Wf μ) (len : Nat) : Ex S μ (mk μ len) := ⟨hw.mk len, Nat.le_succ _, rfl, fun i hi => by rw [gN_mk, if_neg (by omega)], fun i hi _ k => ⟨by rw [gI_mk, if_neg (by omega)], by rw [gL_mk, if_neg (by omega)], by rw [gR_mk, if_neg (by omega)]⟩⟩
theorem Ex.i {S : Nat → Prop} (h : Ex S μ W) {i : Nat} (hi : i < wn μ) (hs : ¬ S i) (k : Nat) : gI W i k = gI μ i k := (h.2.2.2.2 i hi hs k).1
theorem Ex.r {S : Nat → Prop} (h : Ex S μ W) {i : Nat} (hi : i < wn μ) (hs : ¬ S i) (k : Nat) : gR W i k = gR μ i k := (h.2.2.2.2 i hi hs k).2.2
theorem Ex.hkm {S : Nat → Prop} (h : Ex S μ W) {i : Nat} (hi : i < wn μ) : km W i = km μ i := by
  unfold km
  rw [h.2.2.2.1 i hi]
theorem Ex.hal {S : Nat → Prop} (h : Ex S μ W) {i : Nat} (hi : i < wn μ) : al W i = al μ i := by
  unfold al
  rw [h.2.2.2.1 i hi]

abbrev R_J2_compress_fe38e : Room := { frames := 0, cells := 0, slots := 0, locals := 0 }
theorem nar7 {c : Nat} (h : c < 128) : vp_nar .byte ((nI c).toInt8.toInt32) = nI c := by
  have q : ∀ c, c < 128 → vp_nar .byte ((nI c).toInt8.toInt32) = nI c := by decide +kernel
  exact q c h
theorem le255 {c : Nat} (h : c < 128) : nI c ≤ 255 := nI_le (a := c) (b := 255) (by omega) (by decide)
theorem l_J2_compress_fe38e_3 {a b9 n : Nat} (ha : Ar μ a 24 n) (hb : Ar μ b9 22 n) (hab : a ≠ b9) (hn : n ≤ 60) {l : Nat → Nat} (hl : ∀ j, j < n → gI μ a j = nI (l j) ∧ l j < 128) {Q : Oc → Wd → Prop} (kx : ∀ W : Wd, (Out (fun i => i = b9) μ W ∧ ∀ j, j < n → gI W b9 j = nI (l j)) → WP Y_J2_compress_fe38e R_J2_compress_fe38e (0, 0) W 44 [(0, .ref a), (1, .int (nI n)), (2, .ref b9), (3, .int (nI n)), (4, .int (nI n)), (5, .int (nI n))] [] Q) : ∀ dd m (W : Wd), m + dd = n → (Out (fun i => i = b9) μ W ∧ ∀ j, j < m → gI W b9 j = nI (l j)) → WP Y_J2_compress_fe38e R_J2_compress_fe38e (0, 0) W 3 [(0, .ref a), (1, .int (nI m)), (2, .ref b9), (3, .int (nI m)), (4, .int (nI n)), (5, .int (nI m))] [] Q := by
  intro dd
  induction dd with
  | zero =>
    intro m W hm hI
    obtain rfl : n = m := by omega
    refine lf (a_iload dJ2_compress_fe38e_3 rfl) ?_
    refine lf (a_iload dJ2_compress_fe38e_5 rfl) ?_
    refine lf2 (a_icmp_ge (tgt := 44) dJ2_compress_fe38e_7 (by decide)) (fun h7 => ?_) (fun h7 => absurd h7 (fun z => z (nI_le (Nat.le_refl _) (by omega))))
    exact lf (a_loc _ rfl) (kx W hI)
  | succ dd ih =>
    intro m W hm hI
    have haW : Ar W a 24 n := ⟨by rw [hI.1.2.1]; exact ha.1, (show km W a = km μ a by unfold km; rw [hI.1.2.2.1]).trans ha.2.1, by rw [show al W a = al μ a by unfold al; rw [hI.1.2.2.1]]; exact ha.2.2⟩
    have hbW : Ar W b9 22 n := ⟨by rw [hI.1.2.1]; exact hb.1, (show km W b9 = km μ b9 by unfold km; rw [hI.1.2.2.1]).trans hb.2.1, by rw [show al W b9 = al μ b9 by unfold al; rw [hI.1.2.2.1]]; exact hb.2.2⟩
    obtain ⟨hl1, hl2⟩ := hl m (by omega)
    refine lf (a_iload dJ2_compress_fe38e_3 rfl) ?_
    refine lf (a_iload dJ2_compress_fe38e_5 rfl) ?_
    refine lf2 (a_icmp_ge (tgt := 44) dJ2_compress_fe38e_7 (by decide)) (fun h7 => absurd h7 (nI_ge (by omega) (by omega))) (fun h7 => ?_)
    refine lf (a_aload_n dJ2_compress_fe38e_10 rfl) ?_
    refine lf (a_iload_n dJ2_compress_fe38e_11 rfl) ?_
    refine lf (a_cld dJ2_compress_fe38e_12 haW (ixn (show m < n by omega) (by omega))) ?_
    rw [(hI.1.i hab m).trans hl1]
    refine lf (a_istore dJ2_compress_fe38e_13 (by decide)) ?_
    refine lf (a_iload dJ2_compress_fe38e_15 rfl) ?_
    refine lf (a_sipush (255 : Int32) dJ2_compress_fe38e_17 (by decide)) ?_
    refine lf2 (a_icmp_le (tgt := 26) dJ2_compress_fe38e_20 (by decide)) (fun h20 => ?_) (fun h20 => absurd h20 (fun z => z (le255 hl2)))
    refine lf (a_aload_n dJ2_compress_fe38e_26 rfl) ?_
    refine lf (a_iload_n dJ2_compress_fe38e_27 rfl) ?_
    refine lf (a_iload dJ2_compress_fe38e_28 rfl) ?_
    refine lf (a_i2b dJ2_compress_fe38e_30) ?_
    refine lf (a_bst dJ2_compress_fe38e_31 hbW (ixn (show m < n by omega) (by omega))) ?_
    rw [nar7 hl2]
    refine lf (a_iincN dJ2_compress_fe38e_32 rfl (by decide)) ?_
    refine lf (a_iincN dJ2_compress_fe38e_35 rfl (by decide)) ?_
    refine lf (a_iincN dJ2_compress_fe38e_38 rfl (by decide)) ?_
    refine lf (a_goto (tgt := 3) dJ2_compress_fe38e_41 (by decide)) ?_
    refine lf (a_loc _ rfl) (ih (m + 1) _ (by omega) ⟨hI.1.sI (S := fun i => i = b9) rfl m (nI (l m)), fun j hj => ?_⟩)
    rw [gI_sI]
    by_cases z : j = m
    · subst z; rw [if_pos ⟨rfl, rfl⟩]
    · rw [if_neg (fun e => z e.2)]; exact hI.2 j (by omega)
theorem t_J2_compress_fe38e (hw : Wf μ) {a b9 n : Nat} (ha : Ar μ a 24 n) (hb : Ar μ b9 22 n) (hab : a ≠ b9) (hn : n ≤ 60) {l : Nat → Nat} (hl : ∀ j, j < n → gI μ a j = nI (l j) ∧ l j < 128) : CV Y_J2_compress_fe38e R_J2_compress_fe38e [.ref a, .int 0, .ref b9, .int 0, .int (nI n)] μ (fun v V => v = some (.int (nI n)) ∧ Out (fun i => i = b9) μ V ∧ ∀ j, j < n → gI V b9 j = nI (l j)) := by
  refine CV.ent yk_J2_compress_fe38e (Nat.le_of_ble_eq_true rfl) ?_
  refine lf (a_iconst (0 : Int32) dJ2_compress_fe38e_0 (by decide)) ?_
  refine lf (a_istore dJ2_compress_fe38e_1 (by decide)) ?_
  exact lf (a_loc [(0, .ref a), (1, .int (nI 0)), (2, .ref b9), (3, .int (nI 0)), (4, .int (nI n)), (5, .int (nI 0))] rfl) (l_J2_compress_fe38e_3 ha hb hab hn hl (fun W hI => ⟨_, _, a_iload dJ2_compress_fe38e_44 rfl (a_ireturn dJ2_compress_fe38e_46 rfl rfl), _, rfl, rfl, hI.1, hI.2⟩) n 0 μ (by omega) ⟨Out.rfl' hw, fun j hj => by omega⟩)
abbrev R_J2_compress_dfd3c : Room := { frames := 1, cells := 1, slots := 6, locals := 60 }
theorem ac_byte : Cond.arrayClass .byte ∈ lwa := lwa_in 118 (by decide +kernel) rfl
theorem ac_char : Cond.arrayClass .char ∈ lwa := lwa_in 1050 (by decide +kernel) rfl
theorem ac_int : Cond.arrayClass .int ∈ lwa := lwa_in 230 (by decide +kernel) rfl
theorem ac_long : Cond.arrayClass .long ∈ lwa := lwa_in 305 (by decide +kernel) rfl
theorem ac_bool : Cond.arrayClass .boolean ∈ lwa := lwa_in 394 (by decide +kernel) rfl
theorem al_new {len t : Nat} (h : 339 ≤ wn μ) (ht : t < 32) : al (mk μ (len * 32 + t)) (wn μ) = len := by
  unfold al
  rw [if_neg (by omega), gN_mk, if_pos rfl]
  omega
theorem km_new {len t : Nat} (h : 339 ≤ wn μ) (ht : t < 32) : km (mk μ (len * 32 + t)) (wn μ) = t := by
  unfold km
  rw [if_neg (by omega), gN_mk, if_pos rfl]
  omega
/-- an array's bytes are there, all else is as it was -/
def CmQ (μ : Wd) (n : Nat) (l : Nat → Nat) (v : Option Value) (V : Wd) : Prop := v = some (.ref (wn μ)) ∧ Ex (fun _ => False) μ V ∧ wn V = wn μ + 1 ∧ Ar V (wn μ) 22 n ∧ ∀ j, j < n → gI V (wn μ) j = nI (l j)
theorem t_J2_compress_dfd3c (hw : Wf μ) {a n : Nat} (ha : Ar μ a 24 n) (hn : n ≤ 6) {l : Nat → Nat} (hl : ∀ j, j < n → gI μ a j = nI (l j) ∧ l j < 128) (hm : wn μ + 1 < 1000000) : CV Y_J2_compress_dfd3c R_J2_compress_dfd3c [.ref a, .int 0, .int (nI n)] μ (CmQ μ n l) := by
  refine CV.ent yk_J2_compress_dfd3c (Nat.le_of_ble_eq_true rfl) ?_
  have hb1 : Ar (mk μ (n * 32 + 22)) (wn μ) 22 n := ⟨Nat.lt_succ_self _, km_new hw.1 (by decide), al_new hw.1 (by decide)⟩
  have ha1 : Ar (mk μ (n * 32 + 22)) a 24 n := ⟨Nat.lt_succ_of_lt ha.1, by rw [km_mk (Nat.ne_of_lt ha.1)]; exact ha.2.1, by rw [al_mk (Nat.ne_of_lt ha.1)]; exact ha.2.2⟩
  have hne : a ≠ wn μ := Nat.ne_of_lt ha.1
  have hwc := hw.mk (n * 32 + 22)
  refine lf (a_iload_n dJ2_compress_dfd3c_0 rfl) ?_
  refine lf (a_newI (c9 := n * 32 + 22) (len := n) (t := 22) (aty := .byte) (ty := .byte) dJ2_compress_dfd3c_1 rfl ac_byte ⟨rfl, by decide, by decide, by decide⟩ rfl (by decide) (by omega) (km_new hw.1 (by decide)) (al_new hw.1 (by decide)) hm (b' := (0, 6 - n)) (by show ((1 : Nat), (6 : Nat)) = (0 + 1, 6 - n + n); rw [Nat.sub_add_cancel hn])) ?_
  refine lf (a_astore_n dJ2_compress_dfd3c_3 (by decide)) ?_
  refine lf (a_aload_n dJ2_compress_dfd3c_4 rfl) ?_
  refine lf (a_iload_n dJ2_compress_dfd3c_5 rfl) ?_
  refine lf (a_aload_n dJ2_compress_dfd3c_6 rfl) ?_
  refine lf (a_iconst (0 : Int32) dJ2_compress_dfd3c_7 (by decide)) ?_
  refine lf (a_iload_n dJ2_compress_dfd3c_8 rfl) ?_
  obtain ⟨v_, W9, k9, rfl, hO, hbs⟩ := (t_J2_compress_fe38e hwc ha1 hb1 hne (by omega) (l := l) (fun j hj => by rw [gI_mk, if_neg hne]; exact hl j hj))
  refine lf (a_invS (b2 := (0, 0)) k9 rfl dJ2_compress_dfd3c_9 yk_J2_compress_fe38e sm_J2_compress_fe38e ml_J2_115 rfl (by decide) ⟨Nat.zero_le _, Nat.zero_le _⟩ (Nat.le_of_ble_eq_true rfl)) ?_
  refine lf (a_istore dJ2_compress_dfd3c_12 (by decide)) ?_
  refine lf (a_iload dJ2_compress_dfd3c_14 rfl) ?_
  refine lf (a_iload_n dJ2_compress_dfd3c_16 rfl) ?_
  refine lf2 (a_icmp_eq (tgt := 57) dJ2_compress_dfd3c_17 (by decide)) (fun h17 => ?_) (fun h17 => absurd h17 (fun z => z rfl))
  refine lf (a_aload_n dJ2_compress_dfd3c_57 rfl) ?_
  refine ⟨_, _, (a_areturn dJ2_compress_dfd3c_58 rfl (by first | exact Or.inl ⟨_, rfl⟩ | exact Or.inr ⟨_, rfl⟩)), ?_⟩
  refine ⟨_, rfl, rfl, ((Ex.mk hw (n * 32 + 22)).trans (Ex.of hO)).mono ?_, hO.2.1, ⟨by rw [hO.2.1]; exact hb1.1, by rw [show km W9 (wn μ) = km (mk μ (n * 32 + 22)) (wn μ) by unfold km; rw [hO.2.2.1]]; exact hb1.2.1, by rw [show al W9 (wn μ) = al (mk μ (n * 32 + 22)) (wn μ) by unfold al; rw [hO.2.2.1]]; exact hb1.2.2⟩, hbs⟩
  intro i hi e
  exact absurd (hi) (by rw [e]; exact Nat.lt_irrefl _)
abbrev R_J2_coderFromArrayLen_85cad : Room := { frames := 0, cells := 0, slots := 0, locals := 0 }
theorem t_J2_coderFromArrayLen_85cad {v n : Nat} (ha : Ar μ v 22 n) : Ct Y_J2_coderFromArrayLen_85cad R_J2_coderFromArrayLen_85cad [.ref v, .int (nI n)] μ (.inl (some (.int 0))) μ := by
  refine Ct.ent yk_J2_coderFromArrayLen_85cad (Nat.le_of_ble_eq_true rfl) ?_
  refine a_iload_n dJ2_coderFromArrayLen_85cad_0 rfl ?_
  refine a_aload_n dJ2_coderFromArrayLen_85cad_1 rfl ?_
  refine a_alen (nI n) dJ2_coderFromArrayLen_85cad_2 ha (by decide) rfl ?_
  refine a_isub dJ2_coderFromArrayLen_85cad_3 ?_
  rw [Int32.sub_self]
  refine a_bipush (31 : Int32) dJ2_coderFromArrayLen_85cad_4 (by decide) ?_
  refine a_iushr dJ2_coderFromArrayLen_85cad_6 ?_
  rw [show ((0 : Int32).toUInt32 >>> ((31 : Int32).toUInt32 &&& Int32.toUInt32 31)).toInt32 = 0 by decide +kernel]
  refine a_i2b dJ2_coderFromArrayLen_85cad_7 ?_
  rw [show ((0 : Int32).toInt8.toInt32) = 0 by decide +kernel]
  exact a_out rfl rfl (a_ireturn dJ2_coderFromArrayLen_85cad_8 rfl rfl)
end STRN
