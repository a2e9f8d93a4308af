section REM
variable {B : Nat → Nat} {n p : Nat}
/-- what is left of the text at p -/
def Rem (B : Nat → Nat) (n p : Nat) (l : List Nat) : Prop := p + l.length = n ∧ ∀ j, j < l.length → B (p + j) = l.getD j 0
theorem Rem.tl {x : Nat} {l : List Nat} (h : Rem B n p (x :: l)) : B p = x ∧ p < n ∧ Rem B n (p + 1) l := by
  obtain ⟨h1, h2⟩ := h
  rw [List.length_cons] at h1 h2
  refine ⟨h2 0 (Nat.succ_pos _), by omega, by omega, fun j hj => ?_⟩
  have := h2 (j + 1) (by omega)
  rw [show p + 1 + j = p + (j + 1) by omega, this]
  rfl
theorem Rem.app : ∀ {a b : List Nat} {p : Nat}, Rem B n p (a ++ b) → Rem B n (p + a.length) b
  | [], _, _, h => h
  | _ :: a, b, p, h => by
    have := Rem.app (a := a) (b := b) (Rem.tl h).2.2
    rw [List.length_cons, show p + (a.length + 1) = p + 1 + a.length by omega]
    exact this
theorem Rem.get : ∀ {a b : List Nat} {p : Nat}, Rem B n p (a ++ b) → (List.range a.length).map (fun j => B (p + j)) = a
  | [], _, _, _ => rfl
  | x :: a, b, p, h => by
    have h1 := Rem.tl h
    have ih := Rem.get (a := a) (b := b) h1.2.2
    rw [List.length_cons, List.range_succ_eq_map, List.map_cons, List.map_map, Nat.add_zero, h1.1]
    refine congrArg (List.cons x) (Eq.trans (List.map_congr_left fun j _ => ?_) ih)
    show B (p + (j + 1)) = B (p + 1 + j)
    rw [show p + (j + 1) = p + 1 + j by omega]
theorem sk_stop {d : Nat} (h1 : ¬ B p = 32) (h2 : ¬ B p = 10) : skW B d p = p := by
  cases d with
  | zero => rfl
  | succ d => unfold skW; rw [if_neg h1, if_neg h2]
/-- a blank, or none -/
def spB : Bool → List Nat
  | true => [32]
  | false => []
theorem tk_sp {b : Bool} {x : Nat} {l : List Nat} (h : Rem B n p (spB b ++ x :: l)) (h1 : ¬ x = 32) (h2 : ¬ x = 10) : tkS B n p = p + (spB b).length ∧ Rem B n (tkS B n p) (x :: l) ∧ B (tkS B n p) = x ∧ tkS B n p < n := by
  have ha := Rem.app h
  have ht := Rem.tl ha
  have e : tkS B n p = p + (spB b).length := by
    unfold tkS
    cases b with
    | false => exact sk_stop (by have q : B p = x := ht.1; rw [q]; exact h1) (by have q : B p = x := ht.1; rw [q]; exact h2)
    | true =>
      have h3 := Rem.tl (show Rem B n p (32 :: (x :: l)) from h)
      have h4 := Rem.tl h3.2.2
      have hd : n - p = (n - (p + 1)) + 1 := by have := h3.2.1; omega
      rw [hd]
      unfold skW
      rw [if_pos h3.1]
      exact sk_stop (by rw [h4.1]; exact h1) (by rw [h4.1]; exact h2)
  rw [e]
  exact ⟨rfl, ha, ht.1, ht.2.1⟩
theorem rn_run {k : Nat} : ∀ {w : List Nat} {y : Nat} {l : List Nat} {p d : Nat}, Rem B n p (w ++ y :: l) → (∀ x ∈ w, kdN x = k) → ¬ kdN y = k → w.length ≤ d → rnW B k d p = p + w.length
  | [], y, l, p, d, h, _, hy, _ => by
    have ht := Rem.tl (show Rem B n p (y :: l) from h)
    cases d with
    | zero => rfl
    | succ d => unfold rnW; rw [ht.1, if_neg hy]; rfl
  | x :: w, y, l, p, d, h, hw, hy, hd => by
    have ht := Rem.tl (show Rem B n p (x :: (w ++ y :: l)) from h)
    rw [List.length_cons] at hd
    obtain ⟨d, rfl⟩ : ∃ e, d = e + 1 := ⟨d - 1, by omega⟩
    unfold rnW
    rw [ht.1, if_pos (hw x List.mem_cons_self), rn_run ht.2.2 (fun z hz => hw z (List.mem_cons_of_mem _ hz)) hy (by omega), List.length_cons]
    omega
theorem kd_sp {x k : Nat} (h : kdN x = k) (hk : k = 1 ∨ k = 2 ∨ k = 3) : ¬ x = 32 ∧ ¬ x = 10 := by
  refine ⟨fun e => ?_, fun e => ?_⟩
  · rw [e, show kdN 32 = 4 from by decide] at h; omega
  · rw [e, show kdN 10 = 4 from by decide] at h; omega
/-- a run of letters, or of digits -/
theorem tk_run {b : Bool} {k : Nat} (hk : k = 1 ∨ k = 2) {w : List Nat} {y : Nat} {l : List Nat} (h : Rem B n p (spB b ++ (w ++ y :: l))) (h0 : w ≠ []) (hw : ∀ x ∈ w, kdN x = k) (hy : ¬ kdN y = k) (h4 : k = 2 → w.length ≤ 4) :
    tkK B n p = k ∧ tkE B n p - tkS B n p = w.length ∧ Rem B n (tkS B n p) (w ++ y :: l) ∧ Rem B n (tkE B n p) (y :: l) := by
  cases w with
  | nil => exact absurd rfl h0
  | cons x w =>
    have hx := hw x List.mem_cons_self
    have hs := kd_sp hx (by omega)
    obtain ⟨e1, e2, e3, e4⟩ := tk_sp (show Rem B n p (spB b ++ x :: (w ++ y :: l)) from h) hs.1 hs.2
    have ht := Rem.tl e2
    have hE : tkE B n p = tkS B n p + (x :: w).length := by
      unfold tkE
      rw [if_neg (by omega), e3, hx, if_pos hk, rn_run ht.2.2 (fun z hz => hw z (List.mem_cons_of_mem _ hz)) hy ?_, List.length_cons]
      · omega
      · have := ht.2.2.1
        rw [List.length_append] at this
        omega
    refine ⟨?_, by omega, e2, ?_⟩
    · unfold tkK
      rw [if_neg (by omega), e3, hx, if_neg]
      rintro ⟨z1, z2⟩
      have := h4 z1
      omega
    · have := Rem.app (a := x :: w) (b := y :: l) e2
      rw [hE]
      exact this
theorem tx_word {b : Bool} {w : List Nat} {y : Nat} {l : List Nat} (h : Rem B n p (spB b ++ (w ++ y :: l))) (h0 : w ≠ []) (hw : ∀ x ∈ w, kdN x = 1) (hy : ¬ kdN y = 1) : tkK B n p = 1 ∧ tkL B n p = w ∧ Rem B n (tkE B n p) (y :: l) := by
  obtain ⟨e1, e2, e3, e4⟩ := tk_run (Or.inl rfl) h h0 hw hy (fun z => by omega)
  refine ⟨e1, ?_, e4⟩
  unfold tkL
  rw [e2]
  exact Rem.get e3
theorem kd_dig {c : Nat} (h : c < 10) : kdN (48 + c) = 2 := by
  unfold kdN
  rw [if_neg (by omega), if_pos (by omega)]
theorem dgL_kd {a : Nat} (ha : a < 100) : ∀ x ∈ dgL a, kdN x = 2 := by
  intro x hx
  unfold dgL at hx
  split at hx
  · rw [List.mem_singleton] at hx
    rw [hx]
    exact kd_dig (by omega)
  · rcases List.mem_cons.mp hx with e | e
    · rw [e]; exact kd_dig (by omega)
    · rw [List.mem_singleton] at e
      rw [e]; exact kd_dig (by omega)
theorem tk_num {b : Bool} {a : Nat} {y : Nat} {l : List Nat} (ha : a < 100) (h : Rem B n p (spB b ++ (dgL a ++ y :: l))) (hy : ¬ kdN y = 2) : tkK B n p = 2 ∧ tkN B n p = a ∧ Rem B n (tkE B n p) (y :: l) := by
  have hl := dgL_len a
  obtain ⟨e1, e2, e3, e4⟩ := tk_run (Or.inr rfl) h (fun z => by rw [z] at hl; exact absurd hl.1 (by decide)) (dgL_kd ha) hy (fun _ => by omega)
  refine ⟨e1, ?_, e4⟩
  unfold tkN
  rw [e2]
  unfold dgL at e3 ⊢
  split at e3
  · next z =>
    rw [if_pos z]
    have h1 := Rem.tl (show Rem B n _ ((48 + a) :: (y :: l)) from e3)
    show nuW B 1 _ 0 = a
    unfold nuW nuW
    rw [h1.1]
    omega
  · next z =>
    rw [if_neg z]
    have h1 := Rem.tl (show Rem B n _ ((48 + a / 10) :: ((48 + a % 10) :: y :: l)) from e3)
    have h2 := Rem.tl h1.2.2
    show nuW B 2 _ 0 = a
    unfold nuW nuW nuW
    rw [h1.1, h2.1]
    omega
theorem tk_semi {l : List Nat} (h : Rem B n p (59 :: l)) : tkK B n p = 3 ∧ Rem B n (tkE B n p) l := by
  obtain ⟨e1, e2, e3, e4⟩ := tk_sp (b := false) h (by decide) (by decide)
  refine ⟨?_, ?_⟩
  · unfold tkK
    rw [if_neg (by omega), e3, if_neg (by rintro ⟨z, _⟩; exact absurd z (by decide))]
    rfl
  · have hE : tkE B n p = tkS B n p + 1 := by
      unfold tkE
      rw [if_neg (by omega), e3, if_neg (by decide)]
    rw [hE]
    exact (Rem.tl e2).2.2
theorem tk_done (h : Rem B n p []) : tkK B n p = 0 := by
  have : p = n := h.1
  subst this
  have e : tkS B p p = p := by unfold tkS; rw [Nat.sub_self]; rfl
  unfold tkK
  rw [if_pos (by omega)]
theorem nh_ok {b : Bool} {a lo hi : Nat} {y : Nat} {l : List Nat} (ha : a < 100) (h : Rem B n p (spB b ++ (dgL a ++ y :: l))) (hy : ¬ kdN y = 2) (h1 : lo ≤ a) (h2 : a ≤ hi) : nhS B n p lo hi = .inr a ∧ Rem B n (tkE B n p) (y :: l) := by
  obtain ⟨e1, e2, e3⟩ := tk_num ha h hy
  refine ⟨?_, e3⟩
  unfold nhS
  rw [e1, e2, if_neg (by simp), if_neg (by omega), if_neg (by omega)]
theorem sg_ok {l : List Nat} {z : PZ} (h : Rem B n p (59 :: l)) : sgZ B n p z = .inr (p, z) ∧ Rem B n (tkE B n p) l := by
  obtain ⟨e1, e2⟩ := tk_semi h
  refine ⟨?_, e2⟩
  unfold sgZ sgS
  rw [if_pos e1]
  rfl
end REM
section PZT
variable {B : Nat → Nat} {n p : Nat} {z z1 z2 : PZ} {t t1 t2 l : List Nat}
/-- reading t leads from what has been read z to z2 -/
def Pz (t : List Nat) (z z2 : PZ) : Prop := (∀ (B : Nat → Nat) (n p : Nat) (l : List Nat), Rem B n p (t ++ l) → ∃ k p2, k ≤ t.length ∧ Rem B n p2 l ∧ ∀ c, rdS B n (c + k) p z = rdS B n c p2 z2) ∧ (GzD z → GzD z2)
theorem Pz.comp (h1 : Pz t1 z z1) (h2 : Pz t2 z1 z2) : Pz (t1 ++ t2) z z2 := ⟨fun B n p l h => by
  rw [List.append_assoc] at h
  obtain ⟨k1, p1, a1, a2, a3⟩ := h1.1 B n p (t2 ++ l) h
  obtain ⟨k2, p2, b1, b2, b3⟩ := h2.1 B n p1 l a2
  refine ⟨k2 + k1, p2, by rw [List.length_append]; omega, b2, fun c => ?_⟩
  rw [← Nat.add_assoc, a3, b3], fun g => h2.2 (h1.2 g)⟩
theorem Pz.one (ht : t ≠ []) (h : ∀ (B : Nat → Nat) (n p : Nat) (l : List Nat), Rem B n p (t ++ l) → tkK B n p = 1 ∧ ∃ q, stS B n p z = .inr (q, z2) ∧ Rem B n (tkE B n q) l) : Pz t z z2 := ⟨fun B n p l hr => by
  obtain ⟨h1, q, h2, h3⟩ := h B n p l hr
  refine ⟨1, tkE B n q, ?_, h3, fun c => rd_ok (by omega) h2⟩
  cases t with
  | nil => exact absurd rfl ht
  | cons _ _ => rw [List.length_cons]; omega, fun g => by
  obtain ⟨_, q, h2, _⟩ := h (fun j => t.getD j 0) t.length 0 [] ⟨by rw [List.append_nil, Nat.zero_add], fun j _ => by rw [List.append_nil, Nat.zero_add]⟩
  exact gz_st (Nat.zero_le _) g h2⟩
/-- a text that is read through -/
theorem Pz.all (h : Pz t z z2) (hB : ∀ j, j < t.length → B j = t.getD j 0) : rdS B t.length (t.length + 1) 0 z = .inr z2 := by
  obtain ⟨k, p2, h1, h2, h3⟩ := h.1 B t.length 0 [] ⟨by rw [List.append_nil, Nat.zero_add], fun j hj => by
    rw [List.append_nil] at hj ⊢
    rw [Nat.zero_add]
    exact hB j hj⟩
  have e := h3 (t.length + 1 - k)
  rw [Nat.sub_add_cancel (by omega)] at e
  rw [e]
  exact rd_end (tk_done h2)
theorem wd_is {c : Nat} (h1 : tkK B n p = 1) (h2 : tkL B n p = l) (h : l = kby c) : wdI B n p c = true := by
  unfold wdI
  rw [h1, h2, h]
  simp
theorem wd_no {c : Nat} (h2 : tkL B n p = l) (h : l ≠ kby c) : ¬ wdI B n p c = true := by
  unfold wdI
  rw [h2, decide_eq_true_eq]
  exact fun e => h e.2
theorem wd_nk {c k : Nat} (h1 : tkK B n p = k) (h2 : ¬ k = 1) : ¬ wdI B n p c = true := by
  unfold wdI
  rw [decide_eq_true_eq]
  exact fun e => h2 (h1.symm.trans e.1)
theorem cf_is {k i : Nat} {nm : Nat → List Nat} (h1 : tkK B n p = 1) (h2 : tkL B n p = l) (hi : i < k) (hn : nm i = l) (hf : ∀ j, j < i → nm j ≠ l) : cfS B n p k nm = some i := by
  unfold cfS
  rw [h1, h2]
  have q : ∀ d a, a ≤ i → i < a + d → fstF (fun i => decide (1 = 1 ∧ l = nm i)) d a = some i := by
    intro d
    induction d with
    | zero => intro a h3 h4; omega
    | succ d ih =>
      intro a h3 h4
      unfold fstF
      by_cases e : a = i
      · subst e
        rw [if_pos (by rw [decide_eq_true_eq]; exact ⟨rfl, hn.symm⟩)]
      · rw [if_neg (by rw [decide_eq_true_eq]; exact fun z => hf a (by omega) z.2.symm)]
        exact ih (a + 1) (by omega) (by omega)
  exact q k 0 (Nat.zero_le _) (by omega)
theorem cf_no {k : Nat} {nm : Nat → List Nat} (h2 : tkL B n p = l) (hf : ∀ j, j < k → nm j ≠ l) : cfS B n p k nm = none := by
  unfold cfS
  rw [h2]
  have q : ∀ d a, a + d ≤ k → fstF (fun i => decide (tkK B n p = 1 ∧ l = nm i)) d a = none := by
    intro d
    induction d with
    | zero => intro a _; rfl
    | succ d ih =>
      intro a h3
      unfold fstF
      rw [if_neg (by rw [decide_eq_true_eq]; exact fun z => hf a (by omega) z.2.symm)]
      exact ih (a + 1) (by omega)
  exact q k 0 (by omega)
theorem nc_is {i : Nat} (h1 : tkK B n p = 1) (h2 : tkL B n p = l) (hi : i < pC z.1) (hn : z.2.2.1 i = l) (hf : ∀ j, j < i → z.2.2.1 j ≠ l) : ncS B n p z = .inr i := by
  unfold ncS
  rw [cf_is h1 h2 hi hn hf]
theorem ss_4 (h1 : tkK B n p = 1) (h2 : tkL B n p = [116, 105, 109, 101]) : stS B n p z = stTime B n p z := by
  unfold stS
  rw [if_pos (wd_is (c := 4) h1 h2 (by decide +kernel))]
theorem ss_5 (h1 : tkK B n p = 1) (h2 : tkL B n p = [108, 101, 97, 100]) : stS B n p z = stLead B n p z := by
  unfold stS
  rw [if_neg (wd_no (c := 4) h2 (by decide +kernel))]
  rw [if_pos (wd_is (c := 5) h1 h2 (by decide +kernel))]
theorem ss_6 (h1 : tkK B n p = 1) (h2 : tkL B n p = [99, 97, 98, 105, 110]) : stS B n p z = stCabin B n p z := by
  unfold stS
  rw [if_neg (wd_no (c := 4) h2 (by decide +kernel))]
  rw [if_neg (wd_no (c := 5) h2 (by decide +kernel))]
  rw [if_pos (wd_is (c := 6) h1 h2 (by decide +kernel))]
theorem ss_8 (h1 : tkK B n p = 1) (h2 : tkL B n p = [109, 101, 97, 108]) : stS B n p z = stMeal B n p z := by
  unfold stS
  rw [if_neg (wd_no (c := 4) h2 (by decide +kernel))]
  rw [if_neg (wd_no (c := 5) h2 (by decide +kernel))]
  rw [if_neg (wd_no (c := 6) h2 (by decide +kernel))]
  rw [if_pos (wd_is (c := 8) h1 h2 (by decide +kernel))]
theorem ss_12 (h1 : tkK B n p = 1) (h2 : tkL B n p = [116, 114, 111, 108, 108, 101, 121]) : stS B n p z = stTrolley B n p z := by
  unfold stS
  rw [if_neg (wd_no (c := 4) h2 (by decide +kernel))]
  rw [if_neg (wd_no (c := 5) h2 (by decide +kernel))]
  rw [if_neg (wd_no (c := 6) h2 (by decide +kernel))]
  rw [if_neg (wd_no (c := 8) h2 (by decide +kernel))]
  rw [if_pos (wd_is (c := 12) h1 h2 (by decide +kernel))]
theorem ss_13 (h1 : tkK B n p = 1) (h2 : tkL B n p = [103, 117, 101, 115, 116, 115]) : stS B n p z = stGuests B n p z := by
  unfold stS
  rw [if_neg (wd_no (c := 4) h2 (by decide +kernel))]
  rw [if_neg (wd_no (c := 5) h2 (by decide +kernel))]
  rw [if_neg (wd_no (c := 6) h2 (by decide +kernel))]
  rw [if_neg (wd_no (c := 8) h2 (by decide +kernel))]
  rw [if_neg (wd_no (c := 12) h2 (by decide +kernel))]
  rw [if_pos (wd_is (c := 13) h1 h2 (by decide +kernel))]
theorem ss_14 (h1 : tkK B n p = 1) (h2 : tkL B n p = [103, 117, 101, 115, 116]) : stS B n p z = stGuest B n p z := by
  unfold stS
  rw [if_neg (wd_no (c := 4) h2 (by decide +kernel))]
  rw [if_neg (wd_no (c := 5) h2 (by decide +kernel))]
  rw [if_neg (wd_no (c := 6) h2 (by decide +kernel))]
  rw [if_neg (wd_no (c := 8) h2 (by decide +kernel))]
  rw [if_neg (wd_no (c := 12) h2 (by decide +kernel))]
  rw [if_neg (wd_no (c := 13) h2 (by decide +kernel))]
  rw [if_pos (wd_is (c := 14) h1 h2 (by decide +kernel))]
theorem pz_time {a b : Nat} (ha : 1 ≤ a ∧ a < 100) (hb : b < 100) : Pz (116 :: 105 :: 109 :: 101 :: 32 :: (dgL a ++ 32 :: (dgL b ++ [59]))) z (pset (pset z.1 9 1 (nI a)) 9 2 (nI b), z.2.1, z.2.2.1, z.2.2.2) := Pz.one (fun h => nomatch h) fun B n p l h => by
  simp only [List.cons_append, List.append_assoc, List.nil_append] at h
  obtain ⟨k0, l0, r0⟩ := tx_word (b := false) (w := [116, 105, 109, 101]) (y := 32) h (by decide) (by decide) (by decide)
  obtain ⟨n1, r1⟩ := nh_ok (b := true) (y := 32) (lo := 1) (hi := 999) ha.2 r0 (by decide) ha.1 (by omega)
  obtain ⟨n2, r2⟩ := nh_ok (b := true) (y := 59) (lo := 0) (hi := 999) hb r1 (by decide) (Nat.zero_le _) (by omega)
  obtain ⟨s3, r3⟩ := sg_ok (z := (pset (pset z.1 9 1 (nI a)) 9 2 (nI b), z.2.1, z.2.2.1, z.2.2.2)) r2
  refine ⟨k0, _, ?_, r3⟩
  rw [ss_4 k0 l0]
  unfold stTime
  rw [bnd_r n1, bnd_r n2]
  exact s3
theorem pz_lead {a : Nat} (ha : a < 100) : Pz (108 :: 101 :: 97 :: 100 :: 32 :: (dgL a ++ [59])) z (pset z.1 9 3 (nI a), z.2.1, z.2.2.1, z.2.2.2) := Pz.one (fun h => nomatch h) fun B n p l h => by
  simp only [List.cons_append, List.append_assoc, List.nil_append] at h
  obtain ⟨k0, l0, r0⟩ := tx_word (b := false) (w := [108, 101, 97, 100]) (y := 32) h (by decide) (by decide) (by decide)
  obtain ⟨n1, r1⟩ := nh_ok (b := true) (y := 59) (lo := 0) (hi := 99) ha r0 (by decide) (Nat.zero_le _) (by omega)
  obtain ⟨s3, r3⟩ := sg_ok (z := (pset z.1 9 3 (nI a), z.2.1, z.2.2.1, z.2.2.2)) r1
  refine ⟨k0, _, ?_, r3⟩
  rw [ss_5 k0 l0]
  unfold stLead
  rw [bnd_r n1]
  exact s3
/-- a cabin with a spare share -/
theorem pz_cabin {x a b : Nat} (hx : 97 ≤ x ∧ x ≤ 122) (ha : 1 ≤ a ∧ a ≤ 40) (hb : b ≤ 50) (hC : pC z.1 < 4) (hf : ∀ j, j < pC z.1 → z.2.2.1 j ≠ [x]) : Pz (99 :: 97 :: 98 :: 105 :: 110 :: 32 :: x :: 32 :: (dgL a ++ 32 :: (dgL b ++ [59]))) z (caZ z (nI a) (nI b) [x]) := Pz.one (fun h => nomatch h) fun B n p l h => by
  simp only [List.cons_append, List.append_assoc, List.nil_append] at h
  obtain ⟨k0, l0, r0⟩ := tx_word (b := false) (w := [99, 97, 98, 105, 110]) (y := 32) h (by decide) (by decide) (by decide)
  obtain ⟨k1, l1, r1⟩ := tx_word (b := true) (w := [x]) (y := 32) r0 (fun h => nomatch h) (fun y hy => by rw [List.mem_singleton.mp hy]; exact if_pos hx) (by decide)
  obtain ⟨n2, r2⟩ := nh_ok (b := true) (y := 32) (lo := 1) (hi := 40) (by omega) r1 (by decide) ha.1 ha.2
  obtain ⟨k3, m3, r3⟩ := tk_num (b := true) (y := 59) (by omega) r2 (by decide)
  obtain ⟨n4, r4⟩ := nh_ok (b := true) (y := 59) (lo := 0) (hi := 50) (show b < 100 by omega) r2 (by decide) (Nat.zero_le _) hb
  obtain ⟨s5, r5⟩ := sg_ok (z := caZ z (nI a) (nI b) [x]) r4
  refine ⟨k0, _, ?_, r5⟩
  rw [ss_6 k0 l0]
  unfold stCabin
  rw [if_neg (by omega), if_neg (fun e => e ⟨k1, by rw [l1]; exact (by decide : 1 ≤ 6)⟩), cf_no l1 hf]
  show cbS B n (tkE B n p) z (tkL B n (tkE B n p)) = _
  unfold cbS
  rw [bnd_r n2, if_pos k3, bnd_r n4, l1]
  exact s5
/-- a cabin without -/
theorem pz_cabin0 {x a : Nat} (hx : 97 ≤ x ∧ x ≤ 122) (ha : 1 ≤ a ∧ a ≤ 40) (hC : pC z.1 < 4) (hf : ∀ j, j < pC z.1 → z.2.2.1 j ≠ [x]) : Pz (99 :: 97 :: 98 :: 105 :: 110 :: 32 :: x :: 32 :: (dgL a ++ [59])) z (caZ z (nI a) 0 [x]) := Pz.one (fun h => nomatch h) fun B n p l h => by
  simp only [List.cons_append, List.append_assoc, List.nil_append] at h
  obtain ⟨k0, l0, r0⟩ := tx_word (b := false) (w := [99, 97, 98, 105, 110]) (y := 32) h (by decide) (by decide) (by decide)
  obtain ⟨k1, l1, r1⟩ := tx_word (b := true) (w := [x]) (y := 32) r0 (fun h => nomatch h) (fun y hy => by rw [List.mem_singleton.mp hy]; exact if_pos hx) (by decide)
  obtain ⟨n2, r2⟩ := nh_ok (b := true) (y := 59) (lo := 1) (hi := 40) (by omega) r1 (by decide) ha.1 ha.2
  obtain ⟨s5, r5⟩ := sg_ok (z := caZ z (nI a) 0 [x]) r2
  have k3 := (tk_semi r2).1
  refine ⟨k0, _, ?_, r5⟩
  rw [ss_6 k0 l0]
  unfold stCabin
  rw [if_neg (by omega), if_neg (fun e => e ⟨k1, by rw [l1]; exact (by decide : 1 ≤ 6)⟩), cf_no l1 hf]
  show cbS B n (tkE B n p) z (tkL B n (tkE B n p)) = _
  unfold cbS
  rw [bnd_r n2, if_neg (by omega), l1]
  exact s5
theorem pz_trolley {x i a : Nat} (hx : 97 ≤ x ∧ x ≤ 122) (ha : 1 ≤ a ∧ a ≤ 40) (hT : pT z.1 < 8) (hi : i < pC z.1) (hn : z.2.2.1 i = [x]) (hf : ∀ j, j < i → z.2.2.1 j ≠ [x]) : Pz (116 :: 114 :: 111 :: 108 :: 108 :: 101 :: 121 :: 32 :: x :: 32 :: (dgL a ++ [59])) z ((pC z.1, pM z.1, pT z.1 + 1, up2 (up2 (pF z.1) 7 (pT z.1) (nI i)) 8 (pT z.1) (nI a)), z.2.1, z.2.2.1, z.2.2.2) := Pz.one (fun h => nomatch h) fun B n p l h => by
  simp only [List.cons_append, List.append_assoc, List.nil_append] at h
  obtain ⟨k0, l0, r0⟩ := tx_word (b := false) (w := [116, 114, 111, 108, 108, 101, 121]) (y := 32) h (by decide) (by decide) (by decide)
  obtain ⟨k1, l1, r1⟩ := tx_word (b := true) (w := [x]) (y := 32) r0 (fun h => nomatch h) (fun y hy => by rw [List.mem_singleton.mp hy]; exact if_pos hx) (by decide)
  obtain ⟨n2, r2⟩ := nh_ok (b := true) (y := 59) (lo := 1) (hi := 40) (by omega) r1 (by decide) ha.1 ha.2
  obtain ⟨s5, r5⟩ := sg_ok (z := ((pC z.1, pM z.1, pT z.1 + 1, up2 (up2 (pF z.1) 7 (pT z.1) (nI i)) 8 (pT z.1) (nI a)), z.2.1, z.2.2.1, z.2.2.2)) r2
  refine ⟨k0, _, ?_, r5⟩
  rw [ss_12 k0 l0]
  unfold stTrolley
  rw [if_neg (by omega), bnd_r (nc_is k1 l1 hi hn hf), bnd_r n2]
  exact s5
theorem pz_guests {x i a : Nat} (hx : 97 ≤ x ∧ x ≤ 122) (ha : 1 ≤ a ∧ a ≤ 40) (hi : i < pC z.1) (hn : z.2.2.1 i = [x]) (hf : ∀ j, j < i → z.2.2.1 j ≠ [x]) (h1 : ¬ frD z i < nI a) (h2 : dP z.2.1 + a ≤ 40) : Pz (103 :: 117 :: 101 :: 115 :: 116 :: 115 :: 32 :: x :: 32 :: (dgL a ++ [59])) z (z.1, seatsD z.2.1 i a, z.2.2.1, z.2.2.2) := Pz.one (fun h => nomatch h) fun B n p l h => by
  simp only [List.cons_append, List.append_assoc, List.nil_append] at h
  obtain ⟨k0, l0, r0⟩ := tx_word (b := false) (w := [103, 117, 101, 115, 116, 115]) (y := 32) h (by decide) (by decide) (by decide)
  obtain ⟨k1, l1, r1⟩ := tx_word (b := true) (w := [x]) (y := 32) r0 (fun h => nomatch h) (fun y hy => by rw [List.mem_singleton.mp hy]; exact if_pos hx) (by decide)
  obtain ⟨n2, r2⟩ := nh_ok (b := true) (y := 59) (lo := 1) (hi := 40) (by omega) r1 (by decide) ha.1 ha.2
  obtain ⟨s5, r5⟩ := sg_ok (z := (z.1, seatsD z.2.1 i a, z.2.2.1, z.2.2.2)) r2
  refine ⟨k0, _, ?_, r5⟩
  rw [ss_13 k0 l0]
  unfold stGuests
  rw [bnd_r (nc_is k1 l1 hi hn hf), bnd_r n2, if_neg h1, if_neg (by omega)]
  exact s5
/-- the mask of a text of diets -/
def dtV (d : List Nat) : Nat := d.foldl (fun a x => a ||| 2 ^ (x - 97)) 0
theorem dtV_lt : ∀ d ∈ DtL, dtV d < 256 := by decide +kernel
theorem nd_v {b : Bool} {d : List Nat} {y : Nat} (hd : d ∈ DtL) (h : Rem B n p (spB b ++ (d ++ y :: l))) (hy : ¬ kdN y = 1) : ndS B n p = .inr (dtV d) ∧ Rem B n (tkE B n p) (y :: l) := by
  have hk : ∀ d ∈ DtL, d ≠ [] ∧ ∀ x ∈ d, kdN x = 1 := by decide +kernel
  obtain ⟨e1, e2, e3, e4⟩ := tk_run (Or.inl rfl) h (hk d hd).1 (hk d hd).2 hy (fun z => by omega)
  have hg : ∀ j, j < d.length → B (tkS B n p + j) = d.getD j 0 := fun j hj => by
    rw [e3.2 j (by rw [List.length_append]; omega), List.getD_eq_getElem?_getD, List.getD_eq_getElem?_getD, List.getElem?_append_left hj]
  have hw : dtW B d.length (tkS B n p) 0 = some (dtV d) := by
    have q : ∀ d ∈ DtL, dtW (fun j => d.getD j 0) d.length 0 0 = some (dtV d) := by decide +kernel
    rw [← q d hd]
    have cg : ∀ (k m m2 a : Nat) (B2 : Nat → Nat), (∀ j, j < k → B (m + j) = B2 (m2 + j)) → dtW B k m a = dtW B2 k m2 a := by
      intro k
      induction k with
      | zero => intro m m2 a B2 _; rfl
      | succ k ih =>
        intro m m2 a B2 hb
        have h0 := hb 0 (Nat.succ_pos _)
        rw [Nat.add_zero, Nat.add_zero] at h0
        unfold dtW
        rw [h0, ih (m + 1) (m2 + 1) _ B2 (fun j hj => by
          have := hb (j + 1) (by omega)
          rw [show m + 1 + j = m + (j + 1) by omega, show m2 + 1 + j = m2 + (j + 1) by omega]
          exact this)]
    exact cg d.length (tkS B n p) 0 0 (fun j => d.getD j 0) (fun j hj => by rw [Nat.zero_add]; exact hg j hj)
  refine ⟨?_, e4⟩
  unfold ndS
  rw [if_pos e1, e2, hw]
theorem pz_guest {x i : Nat} {d : List Nat} (hx : 97 ≤ x ∧ x ≤ 122) (hd : d ∈ DtL) (hi : i < pC z.1) (hn : z.2.2.1 i = [x]) (hf : ∀ j, j < i → z.2.2.1 j ≠ [x]) (h1 : ¬ frD z i < 1) (h2 : dP z.2.1 < 40) : Pz (103 :: 117 :: 101 :: 115 :: 116 :: 32 :: x :: 32 :: (110 :: 101 :: 101 :: 100 :: 115 :: 32 :: (d ++ [59]))) z (z.1, seatD z.2.1 (nI i) (nI (dtV d)) (-1), z.2.2.1, z.2.2.2) := Pz.one (fun h => nomatch h) fun B n p l h => by
  simp only [List.cons_append, List.append_assoc, List.nil_append] at h
  obtain ⟨k0, l0, r0⟩ := tx_word (b := false) (w := [103, 117, 101, 115, 116]) (y := 32) h (by decide) (by decide) (by decide)
  obtain ⟨k1, l1, r1⟩ := tx_word (b := true) (w := [x]) (y := 32) r0 (fun h => nomatch h) (fun y hy => by rw [List.mem_singleton.mp hy]; exact if_pos hx) (by decide)
  obtain ⟨k2, l2, r2⟩ := tx_word (b := true) (w := [110, 101, 101, 100, 115]) (y := 32) r1 (by decide) (by decide) (by decide)
  obtain ⟨n3, r3⟩ := nd_v (b := true) (y := 59) hd r2 (by decide)
  obtain ⟨s5, r5⟩ := sg_ok (z := (z.1, seatD z.2.1 (nI i) (nI (dtV d)) (-1), z.2.2.1, z.2.2.2)) r3
  have k4 := (tk_semi r3).1
  refine ⟨k0, _, ?_, r5⟩
  rw [ss_14 k0 l0]
  unfold stGuest
  rw [if_neg (by omega), bnd_r (nc_is k1 l1 hi hn hf), if_neg h1]
  unfold gdN
  rw [if_pos (wd_is (c := 15) k2 l2 (by decide +kernel)), n3]
  show gdB B n _ z i (nI (dtV d)) = _
  unfold gdB gdW
  rw [if_neg (wd_nk (c := 16) k4 (by decide))]
  exact s5
theorem pz_sp0 {w sz co : Nat} (hw : 97 ≤ w ∧ w ≤ 122) (hsz : 1 ≤ sz ∧ sz ≤ 3) (hco : 1 ≤ co ∧ co ≤ 30) (hM : pM z.1 < 12) (hf : ∀ j, j < pM z.1 → z.2.2.2 j ≠ [w]) : Pz (109 :: 101 :: 97 :: 108 :: 32 :: w :: 32 :: 115 :: 112 :: 101 :: 99 :: 105 :: 97 :: 108 :: 32 :: (dgL sz ++ 32 :: (dgL co ++ [59]))) z (meZ z (-1) (0) (nI sz) (nI co) (0) [w]) := Pz.one (fun h => nomatch h) fun B n p l h => by
  simp only [List.cons_append, List.append_assoc, List.nil_append] at h
  obtain ⟨k0, l0, r0⟩ := tx_word (b := false) (w := [109, 101, 97, 108]) (y := 32) h (by decide) (by decide) (by decide)
  obtain ⟨k1, l1, r1⟩ := tx_word (b := true) (w := [w]) (y := 32) r0 (fun h => nomatch h) (fun y hy => by rw [List.mem_singleton.mp hy]; exact if_pos hw) (by decide)
  obtain ⟨k2, l2, r2⟩ := tx_word (b := true) (w := [115, 112, 101, 99, 105, 97, 108]) (y := 32) r1 (by decide) (by decide) (by decide)
  obtain ⟨n5, r5⟩ := nh_ok (b := true) (y := 32) (lo := 1) (hi := 3) (by omega) r2 (by decide) hsz.1 hsz.2
  obtain ⟨n6, r6⟩ := nh_ok (b := true) (y := 59) (lo := 1) (hi := 9999) (by omega) r5 (by decide) hco.1 (by omega)
  obtain ⟨s9, r9⟩ := sg_ok (z := (meZ z (-1) (0) (nI sz) (nI co) (0) [w])) r6
  have k7 := (tk_semi r6).1
  have pa : paS B n (tkE B n p) z = .inr (tkE B n (tkE B n p), -1, 0) := by
    unfold paS
    rw [if_pos (wd_is (c := 9) k2 l2 (by decide +kernel))]
  refine ⟨k0, _, ?_, r9⟩
  rw [ss_8 k0 l0]
  unfold stMeal
  rw [if_neg (by omega), if_neg (fun e => e ⟨k1, by rw [l1]; exact (by decide : 1 ≤ 6)⟩), cf_no l1 hf]
  show mbS B n (tkE B n p) z (tkL B n (tkE B n p)) = _
  unfold mbS
  rw [bnd_r pa, bnd_r n5, bnd_r n6]
  unfold ofS
  rw [if_neg (wd_nk (c := 11) k7 (by decide)), l1]
  exact s9
theorem pz_sp1 {w sz co : Nat} (hw : 97 ≤ w ∧ w ≤ 122) (hsz : 1 ≤ sz ∧ sz ≤ 3) (hco : 1 ≤ co ∧ co ≤ 30) (hM : pM z.1 < 12) (hf : ∀ j, j < pM z.1 → z.2.2.2 j ≠ [w]) {d : List Nat} (hd : d ∈ DtL) : Pz (109 :: 101 :: 97 :: 108 :: 32 :: w :: 32 :: 115 :: 112 :: 101 :: 99 :: 105 :: 97 :: 108 :: 32 :: (dgL sz ++ 32 :: (dgL co ++ 32 :: (111 :: 102 :: 102 :: 101 :: 114 :: 115 :: 32 :: (d ++ [59]))))) z (meZ z (-1) (0) (nI sz) (nI co) (nI (dtV d)) [w]) := Pz.one (fun h => nomatch h) fun B n p l h => by
  simp only [List.cons_append, List.append_assoc, List.nil_append] at h
  obtain ⟨k0, l0, r0⟩ := tx_word (b := false) (w := [109, 101, 97, 108]) (y := 32) h (by decide) (by decide) (by decide)
  obtain ⟨k1, l1, r1⟩ := tx_word (b := true) (w := [w]) (y := 32) r0 (fun h => nomatch h) (fun y hy => by rw [List.mem_singleton.mp hy]; exact if_pos hw) (by decide)
  obtain ⟨k2, l2, r2⟩ := tx_word (b := true) (w := [115, 112, 101, 99, 105, 97, 108]) (y := 32) r1 (by decide) (by decide) (by decide)
  obtain ⟨n5, r5⟩ := nh_ok (b := true) (y := 32) (lo := 1) (hi := 3) (by omega) r2 (by decide) hsz.1 hsz.2
  obtain ⟨n6, r6⟩ := nh_ok (b := true) (y := 32) (lo := 1) (hi := 9999) (by omega) r5 (by decide) hco.1 (by omega)
  obtain ⟨k7, l7, r7⟩ := tx_word (b := true) (w := [111, 102, 102, 101, 114, 115]) (y := 32) r6 (by decide) (by decide) (by decide)
  obtain ⟨n8, r8⟩ := nd_v (b := true) (y := 59) hd r7 (by decide)
  obtain ⟨s9, r9⟩ := sg_ok (z := (meZ z (-1) (0) (nI sz) (nI co) (nI (dtV d)) [w])) r8
  have pa : paS B n (tkE B n p) z = .inr (tkE B n (tkE B n p), -1, 0) := by
    unfold paS
    rw [if_pos (wd_is (c := 9) k2 l2 (by decide +kernel))]
  refine ⟨k0, _, ?_, r9⟩
  rw [ss_8 k0 l0]
  unfold stMeal
  rw [if_neg (by omega), if_neg (fun e => e ⟨k1, by rw [l1]; exact (by decide : 1 ≤ 6)⟩), cf_no l1 hf]
  show mbS B n (tkE B n p) z (tkL B n (tkE B n p)) = _
  unfold mbS
  rw [bnd_r pa, bnd_r n5, bnd_r n6]
  unfold ofS
  rw [if_pos (wd_is (c := 11) k7 l7 (by decide +kernel)), n8, l1]
  exact s9
theorem pz_me0 {w sz co : Nat} (hw : 97 ≤ w ∧ w ≤ 122) (hsz : 1 ≤ sz ∧ sz ≤ 3) (hco : 1 ≤ co ∧ co ≤ 30) (hM : pM z.1 < 12) (hf : ∀ j, j < pM z.1 → z.2.2.2 j ≠ [w]) {x i s : Nat} (hx : 97 ≤ x ∧ x ≤ 122) (hs : 1 ≤ s ∧ s < 100) (hi : i < pC z.1) (hn : z.2.2.1 i = [x]) (hg : ∀ j, j < i → z.2.2.1 j ≠ [x]) : Pz (109 :: 101 :: 97 :: 108 :: 32 :: w :: 32 :: 109 :: 101 :: 110 :: 117 :: 32 :: x :: 32 :: (dgL s ++ 32 :: (dgL sz ++ 32 :: (dgL co ++ [59])))) z (meZ z (nI i) (nI s) (nI sz) (nI co) (0) [w]) := Pz.one (fun h => nomatch h) fun B n p l h => by
  simp only [List.cons_append, List.append_assoc, List.nil_append] at h
  obtain ⟨k0, l0, r0⟩ := tx_word (b := false) (w := [109, 101, 97, 108]) (y := 32) h (by decide) (by decide) (by decide)
  obtain ⟨k1, l1, r1⟩ := tx_word (b := true) (w := [w]) (y := 32) r0 (fun h => nomatch h) (fun y hy => by rw [List.mem_singleton.mp hy]; exact if_pos hw) (by decide)
  obtain ⟨k2, l2, r2⟩ := tx_word (b := true) (w := [109, 101, 110, 117]) (y := 32) r1 (by decide) (by decide) (by decide)
  obtain ⟨k3, l3, r3⟩ := tx_word (b := true) (w := [x]) (y := 32) r2 (fun h => nomatch h) (fun y hy => by rw [List.mem_singleton.mp hy]; exact if_pos hx) (by decide)
  obtain ⟨n4, r4⟩ := nh_ok (b := true) (y := 32) (lo := 1) (hi := 99) hs.2 r3 (by decide) hs.1 (by omega)
  obtain ⟨n5, r5⟩ := nh_ok (b := true) (y := 32) (lo := 1) (hi := 3) (by omega) r4 (by decide) hsz.1 hsz.2
  obtain ⟨n6, r6⟩ := nh_ok (b := true) (y := 59) (lo := 1) (hi := 9999) (by omega) r5 (by decide) hco.1 (by omega)
  obtain ⟨s9, r9⟩ := sg_ok (z := (meZ z (nI i) (nI s) (nI sz) (nI co) (0) [w])) r6
  have k7 := (tk_semi r6).1
  have pa : paS B n (tkE B n p) z = .inr (tkE B n (tkE B n (tkE B n (tkE B n p))), nI i, nI s) := by
    unfold paS
    rw [if_neg (wd_no (c := 9) l2 (by decide +kernel)), if_pos (wd_is (c := 10) k2 l2 (by decide +kernel)), bnd_r (nc_is k3 l3 hi hn hg), bnd_r n4]
  refine ⟨k0, _, ?_, r9⟩
  rw [ss_8 k0 l0]
  unfold stMeal
  rw [if_neg (by omega), if_neg (fun e => e ⟨k1, by rw [l1]; exact (by decide : 1 ≤ 6)⟩), cf_no l1 hf]
  show mbS B n (tkE B n p) z (tkL B n (tkE B n p)) = _
  unfold mbS
  rw [bnd_r pa, bnd_r n5, bnd_r n6]
  unfold ofS
  rw [if_neg (wd_nk (c := 11) k7 (by decide)), l1]
  exact s9
theorem pz_me1 {w sz co : Nat} (hw : 97 ≤ w ∧ w ≤ 122) (hsz : 1 ≤ sz ∧ sz ≤ 3) (hco : 1 ≤ co ∧ co ≤ 30) (hM : pM z.1 < 12) (hf : ∀ j, j < pM z.1 → z.2.2.2 j ≠ [w]) {x i s : Nat} (hx : 97 ≤ x ∧ x ≤ 122) (hs : 1 ≤ s ∧ s < 100) (hi : i < pC z.1) (hn : z.2.2.1 i = [x]) (hg : ∀ j, j < i → z.2.2.1 j ≠ [x]) {d : List Nat} (hd : d ∈ DtL) : Pz (109 :: 101 :: 97 :: 108 :: 32 :: w :: 32 :: 109 :: 101 :: 110 :: 117 :: 32 :: x :: 32 :: (dgL s ++ 32 :: (dgL sz ++ 32 :: (dgL co ++ 32 :: (111 :: 102 :: 102 :: 101 :: 114 :: 115 :: 32 :: (d ++ [59])))))) z (meZ z (nI i) (nI s) (nI sz) (nI co) (nI (dtV d)) [w]) := Pz.one (fun h => nomatch h) fun B n p l h => by
  simp only [List.cons_append, List.append_assoc, List.nil_append] at h
  obtain ⟨k0, l0, r0⟩ := tx_word (b := false) (w := [109, 101, 97, 108]) (y := 32) h (by decide) (by decide) (by decide)
  obtain ⟨k1, l1, r1⟩ := tx_word (b := true) (w := [w]) (y := 32) r0 (fun h => nomatch h) (fun y hy => by rw [List.mem_singleton.mp hy]; exact if_pos hw) (by decide)
  obtain ⟨k2, l2, r2⟩ := tx_word (b := true) (w := [109, 101, 110, 117]) (y := 32) r1 (by decide) (by decide) (by decide)
  obtain ⟨k3, l3, r3⟩ := tx_word (b := true) (w := [x]) (y := 32) r2 (fun h => nomatch h) (fun y hy => by rw [List.mem_singleton.mp hy]; exact if_pos hx) (by decide)
  obtain ⟨n4, r4⟩ := nh_ok (b := true) (y := 32) (lo := 1) (hi := 99) hs.2 r3 (by decide) hs.1 (by omega)
  obtain ⟨n5, r5⟩ := nh_ok (b := true) (y := 32) (lo := 1) (hi := 3) (by omega) r4 (by decide) hsz.1 hsz.2
  obtain ⟨n6, r6⟩ := nh_ok (b := true) (y := 32) (lo := 1) (hi := 9999) (by omega) r5 (by decide) hco.1 (by omega)
  obtain ⟨k7, l7, r7⟩ := tx_word (b := true) (w := [111, 102, 102, 101, 114, 115]) (y := 32) r6 (by decide) (by decide) (by decide)
  obtain ⟨n8, r8⟩ := nd_v (b := true) (y := 59) hd r7 (by decide)
  obtain ⟨s9, r9⟩ := sg_ok (z := (meZ z (nI i) (nI s) (nI sz) (nI co) (nI (dtV d)) [w])) r8
  have pa : paS B n (tkE B n p) z = .inr (tkE B n (tkE B n (tkE B n (tkE B n p))), nI i, nI s) := by
    unfold paS
    rw [if_neg (wd_no (c := 9) l2 (by decide +kernel)), if_pos (wd_is (c := 10) k2 l2 (by decide +kernel)), bnd_r (nc_is k3 l3 hi hn hg), bnd_r n4]
  refine ⟨k0, _, ?_, r9⟩
  rw [ss_8 k0 l0]
  unfold stMeal
  rw [if_neg (by omega), if_neg (fun e => e ⟨k1, by rw [l1]; exact (by decide : 1 ≤ 6)⟩), cf_no l1 hf]
  show mbS B n (tkE B n p) z (tkL B n (tkE B n p)) = _
  unfold mbS
  rw [bnd_r pa, bnd_r n5, bnd_r n6]
  unfold ofS
  rw [if_pos (wd_is (c := 11) k7 l7 (by decide +kernel)), n8, l1]
  exact s9
end PZT
