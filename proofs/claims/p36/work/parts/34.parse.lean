section PARSE
variable {μ W : Wd} {B : Nat → Nat} {n : Nat}
/-- the same, and no new cells -/
def En (S : Nat → Prop) (μ V : Wd) : Prop := Ex S μ V ∧ wn V = wn μ
theorem En.of {S : Nat → Prop} (h : Out S μ W) : En S μ W := ⟨Ex.of h, h.2.1⟩
theorem En.rfl' {S : Nat → Prop} (hw : Wf μ) : En S μ μ := ⟨Ex.rfl' hw, rfl⟩
theorem En.trans {S : Nat → Prop} {V : Wd} (h1 : En S μ W) (h2 : En S W V) : En S μ V := ⟨h1.1.trans h2.1, h2.2.trans h1.2⟩
theorem En.mono {S S' : Nat → Prop} (h : En S μ W) (hs : ∀ i, i < wn μ → S i → S' i) : En S' μ W := ⟨h.1.mono hs, h.2⟩
theorem StrV.ex {S : Nat → Prop} {r : Nat} {l : List Nat} (h : StrV μ r l) (he : Ex S μ W) (hS : ∀ i, S i → i < 339) : StrV W r l := by
  obtain ⟨h1, h2, h3⟩ := h
  refine ⟨h1, h2, ?_⟩
  rcases h3 with h3 | ⟨g1, g2, v, g3, g4, g5, g6, g7⟩
  · exact Or.inl h3
  · have n1 : ¬ S r := fun z => by have := hS r z; omega
    have n2 : ¬ S v := fun z => by have := hS v z; omega
    exact Or.inr ⟨g1, g2.ex he, v, g3, (he.r g2.1 n1 0).trans g4, g5.ex he, (he.i g2.1 n1 1).trans g6, fun j hj => (he.i g5.1 n2 j).trans (g7 j hj)⟩
/-- the name that a cabin or a meal has -/
def NmV (μ : Wd) (i : Nat) (l : List Nat) : Prop := ∃ r, gR μ i 0 = some r ∧ StrV μ r l
theorem NmV.ex {S : Nat → Prop} {i : Nat} {l : List Nat} (h : NmV μ i l) (he : Ex S μ W) (hS : ∀ i, S i → i < 339) (hi : i < wn μ) (hn : ¬ S i) : NmV W i l := by
  obtain ⟨r, h1, h2⟩ := h
  exact ⟨r, (he.r hi hn 0).trans h1, h2.ex he hS⟩
/-- what has been read: plan, flight, names -/
abbrev PZ : Type := PDt × FDt × (Nat → List Nat) × (Nat → List Nat)
/-- the parser's world: the text, the token at p at hand, what has been read -/
def PsV (B : Nat → Nat) (n p0 p : Nat) (z : PZ) (μ : Wd) : Prop := Wf μ ∧ Tk B n μ ∧ p ≤ n ∧ TkA B n p μ ∧ gR μ 79 2 = some p0 ∧ gR μ 79 1 = some 41 ∧ PV μ p0 z.1 ∧ FV μ 41 p0 z.2.1 ∧ (∀ i, i < pC z.1 → NmV μ (p0 + 2 + i) (z.2.2.1 i)) ∧ ∀ i, i < pM z.1 → NmV μ (p0 + 7 + i) (z.2.2.2 i)
/-- what the parser may change -/
abbrev sP (p0 : Nat) : Nat → Prop := fun i => i = 79 ∨ i = 80 ∨ (p0 ≤ i ∧ i ≤ p0 + 20) ∨ (41 ≤ i ∧ i ≤ 57)
abbrev sT : Nat → Prop := fun i => i = 79 ∨ i = 80
def feW (μ : Wd) (c a : Nat) : Wd := sI (sI μ 79 3 (nI c)) 79 4 (nI a)
def ErV (V : Wd) (e : Nat × Nat) : Prop := gI V 79 3 = nI e.1 ∧ gI V 79 4 = nI e.2 ∧ gR V 79 1 = some 41 ∧ ∃ p0, Pl p0 ∧ gR V 79 2 = some p0
def EkV (μ V : Wd) : Prop := gI V 79 3 = gI μ 79 3 ∧ gI V 79 4 = gI μ 79 4
theorem EkV.trans {V : Wd} (h1 : EkV μ W) (h2 : EkV W V) : EkV μ V := ⟨h2.1.trans h1.1, h2.2.trans h1.2⟩
theorem EkV.rfl' : EkV μ μ := ⟨rfl, rfl⟩
section
variable {p0 p : Nat} {z : PZ}
theorem PsV.wf (h : PsV B n p0 p z μ) : Wf μ := h.1
theorem PsV.tk (h : PsV B n p0 p z μ) : Tk B n μ := h.2.1
theorem PsV.le (h : PsV B n p0 p z μ) : p ≤ n := h.2.2.1
theorem PsV.at' (h : PsV B n p0 p z μ) : TkA B n p μ := h.2.2.2.1
theorem PsV.r2 (h : PsV B n p0 p z μ) : gR μ 79 2 = some p0 := h.2.2.2.2.1
theorem PsV.r1 (h : PsV B n p0 p z μ) : gR μ 79 1 = some 41 := h.2.2.2.2.2.1
theorem PsV.pv (h : PsV B n p0 p z μ) : PV μ p0 z.1 := h.2.2.2.2.2.2.1
theorem PsV.fv (h : PsV B n p0 p z μ) : FV μ 41 p0 z.2.1 := h.2.2.2.2.2.2.2.1
theorem PsV.cn (h : PsV B n p0 p z μ) {i : Nat} (hi : i < pC z.1) : NmV μ (p0 + 2 + i) (z.2.2.1 i) := h.2.2.2.2.2.2.2.2.1 i hi
theorem PsV.mn (h : PsV B n p0 p z μ) {i : Nat} (hi : i < pM z.1) : NmV μ (p0 + 7 + i) (z.2.2.2 i) := h.2.2.2.2.2.2.2.2.2 i hi
theorem PsV.n900 (h : PsV B n p0 p z μ) : n ≤ 900 := h.tk.2.2.1
theorem pl_le {p0 : Nat} (h : Pl p0) : 3 ≤ p0 ∧ p0 + 21 ≤ 79 ∧ (p0 + 20 < 41 ∨ 57 < p0) := by rcases h with e | e <;> omega
/-- tokens have moved -/
theorem PsV.next {p2 : Nat} (h : PsV B n p0 p z μ) (ho : OutT μ W) (ha : TkA B n p2 W) (h2 : p2 ≤ n) : PsV B n p0 p2 z W := by
  have hp := pl_le h.pv.pl
  have he := Ex.of ho.1
  have hw := h.wf.1
  have hC := h.pv.C4
  have hM := h.pv.M4
  have hS : ∀ i, s80 i → i < 339 := fun i (q : i = 80) => by omega
  exact ⟨ho.1.1, h.tk.out ho, h2, ha, (ho.1.r (by simp only [s80]; omega) 2).trans h.r2, (ho.1.r (by simp only [s80]; omega) 1).trans h.r1, h.pv.out ho.1 (fun i a b (c : i = 80) => by omega), h.fv.out ho.1 (fun i a b (c : i = 80) => by omega),
    fun i hi => (h.cn hi).ex he hS (by omega) (by simp only [s80]; omega), fun i hi => (h.mn hi).ex he hS (by omega) (by simp only [s80]; omega)⟩
theorem ExT (h : OutT μ W) : En sT μ W ∧ EkV μ W := ⟨En.of (h.1.mono fun i q => Or.inr q), h.1.i (by simp only [s80]; omega) 3, h.1.i (by simp only [s80]; omega) 4⟩
theorem ExE (hw : Wf μ) (h1 : gR μ 79 1 = some 41) {p0 : Nat} (hp : Pl p0) (h2 : gR μ 79 2 = some p0) (c a : Nat) : En sT μ (feW μ c a) ∧ ErV (feW μ c a) (c, a) := ⟨En.of (((Out.rfl' hw).sI (S := sT) (Or.inl rfl) _ _).sI (Or.inl rfl) _ _), by
  unfold feW
  rw [gI_sI, if_neg (by omega), gI_sI, if_pos ⟨rfl, rfl⟩], by
  unfold feW
  rw [gI_sI, if_pos ⟨rfl, rfl⟩], h1, p0, hp, h2⟩
/-- a part of a text has been read, or there is an error -/
def RdQ {α : Type} (S : Nat → Prop) (μ : Wd) (r : (Nat × Nat) ⊕ α) (bad : Value) (ok : α → Option Value → Wd → Prop) (v : Option Value) (V : Wd) : Prop := En S μ V ∧ match r with
  | .inl e => v = some bad ∧ ErV V e
  | .inr a => EkV μ V ∧ ok a v V
def nhS (B : Nat → Nat) (n p lo hi : Nat) : (Nat × Nat) ⊕ Nat := if tkK B n p ≠ 2 then .inl (1, tkS B n p) else if tkN B n p < lo then .inl (2, tkS B n p) else if hi < tkN B n p then .inl (2, tkS B n p) else .inr (tkN B n p)
end

abbrev R_X9_begin : Room := { frames := 2, cells := 0, slots := 0, locals := 43 }
abbrev RX_X9_begin : Room := { frames := 2, cells := 1, slots := 6, locals := 43 }

theorem t_X9_begin (hw : Wf μ) {k : Nat} (hk : k ≤ 900) : Ct Y_X9_begin R_X9_begin [.ref 80, .ref 1, .int (nI k)] μ (.inl none) (sI (sI (sR μ 80 0 (some 1)) 80 1 (nI k)) 80 3 0) := by
  refine Ct.ent yk_X9_begin (Nat.le_of_ble_eq_true rfl) ?_
  have hwc := hw.sR (i := 80) (k := 0) (by decide +kernel) (some 1)
  refine a_aload_n dX9_begin_0 rfl ?_
  refine a_aload_n dX9_begin_1 rfl ?_
  refine a_putR dX9_begin_2 fs_X9_7 rfl rfl (co_80 (by repeat (first | with_reducible exact hw | with_reducible exact hwc | with_reducible assumption | with_reducible apply Wf.sI | with_reducible apply Wf.sL | with_reducible apply Wf.cpI | with_reducible apply Wf.cpL | with_reducible apply Wf.cp2 | with_reducible apply Wf.sIs | with_reducible apply Wf.sLs | with_reducible apply Wf.cpU | with_reducible apply Wf.fillI | with_reducible apply Wf.clU | with_reducible apply Wf.dnF | with_reducible apply Wf.gbW))) ?_
  refine a_aload_n dX9_begin_5 rfl ?_
  refine a_iload_n dX9_begin_6 rfl ?_
  refine a_aload_n dX9_begin_7 rfl ?_
  refine a_alen 900 dX9_begin_8 (ca_1 (by repeat (first | with_reducible exact hw | with_reducible exact hwc | with_reducible assumption | with_reducible apply Wf.sI | with_reducible apply Wf.sL | with_reducible apply Wf.cpI | with_reducible apply Wf.cpL | with_reducible apply Wf.cp2 | with_reducible apply Wf.sIs | with_reducible apply Wf.sLs | with_reducible apply Wf.cpU | with_reducible apply Wf.fillI | with_reducible apply Wf.clU | with_reducible apply Wf.dnF | with_reducible apply Wf.gbW))) (by decide) rfl ?_
  refine a_mmin dX9_begin_9 ml_X9_13 (by decide) (by decide) (Nat.le_of_ble_eq_true rfl) ?_
  rw [if_neg (show ¬ (900 : Int32) < nI k from nI_nlt (a := 900) (b := k) hk (by decide))]
  refine a_putI dX9_begin_12 fs_X9_19 rfl rfl rfl (co_80 (by repeat (first | with_reducible exact hw | with_reducible exact hwc | with_reducible assumption | with_reducible apply Wf.sI | with_reducible apply Wf.sL | with_reducible apply Wf.cpI | with_reducible apply Wf.cpL | with_reducible apply Wf.cp2 | with_reducible apply Wf.sIs | with_reducible apply Wf.sLs | with_reducible apply Wf.cpU | with_reducible apply Wf.fillI | with_reducible apply Wf.clU | with_reducible apply Wf.dnF | with_reducible apply Wf.gbW))) ?_
  refine a_aload_n dX9_begin_15 rfl ?_
  refine a_iconst (0 : Int32) dX9_begin_16 (by decide) ?_
  refine a_putI dX9_begin_17 fs_X9_23 rfl rfl rfl (co_80 (by repeat (first | with_reducible exact hw | with_reducible exact hwc | with_reducible assumption | with_reducible apply Wf.sI | with_reducible apply Wf.sL | with_reducible apply Wf.cpI | with_reducible apply Wf.cpL | with_reducible apply Wf.cp2 | with_reducible apply Wf.sIs | with_reducible apply Wf.sLs | with_reducible apply Wf.cpU | with_reducible apply Wf.fillI | with_reducible apply Wf.clU | with_reducible apply Wf.dnF | with_reducible apply Wf.gbW))) ?_
  exact a_out rfl rfl (a_return dX9_begin_20 rfl)
abbrev R_X9_is : Room := { frames := 7, cells := 0, slots := 0, locals := 183 }
abbrev RX_X9_is : Room := { frames := 7, cells := 1, slots := 6, locals := 183 }

/-- the letters of the token -/
def tkL (B : Nat → Nat) (n p : Nat) : List Nat := (List.range (tkE B n p - tkS B n p)).map fun j => B (tkS B n p + j)
theorem tkL_len (B : Nat → Nat) (n p : Nat) : (tkL B n p).length = tkE B n p - tkS B n p := by simp [tkL]
theorem tkL_get {p j : Nat} (h : j < tkE B n p - tkS B n p) : (tkL B n p).getD j 0 = B (tkS B n p + j) := by
  unfold tkL
  rw [List.getD_eq_getElem?_getD, List.getElem?_map, List.getElem?_range h]
  rfl
theorem getD_ext {a b : List Nat} (h1 : a.length = b.length) (h2 : ∀ j, j < a.length → a.getD j 0 = b.getD j 0) : a = b := by
  refine List.ext_getElem h1 fun i hi hj => ?_
  have h := h2 i hi
  rw [List.getD_eq_getElem?_getD, List.getD_eq_getElem?_getD, List.getElem?_eq_getElem hi, List.getElem?_eq_getElem hj] at h
  exact h
theorem tk_word {p : Nat} (hp : p ≤ n) (h : tkK B n p = 1) : tkS B n p < n ∧ ∀ i, tkS B n p ≤ i → i < tkE B n p → 97 ≤ B i ∧ B i ≤ 122 := by
  unfold tkK at h
  by_cases h1 : n ≤ tkS B n p
  · rw [if_pos h1] at h; omega
  · rw [if_neg h1] at h
    by_cases h2 : kdN (B (tkS B n p)) = 2 ∧ 4 < tkE B n p - tkS B n p
    · rw [if_pos h2] at h; omega
    · rw [if_neg h2] at h
      have hk : ∀ b, kdN b = 1 → 97 ≤ b ∧ b ≤ 122 := fun b q => by
        unfold kdN at q
        split at q
        · assumption
        · split at q
          · omega
          · split at q <;> omega
      refine ⟨by omega, fun i a b => hk _ ?_⟩
      have eE : tkE B n p = rnW B 1 (n - (tkS B n p + 1)) (tkS B n p + 1) := by unfold tkE; rw [if_neg h1, if_pos (Or.inl h), h]
      by_cases q : i = tkS B n p
      · rw [q]; exact h
      · rw [eE] at b
        exact (rnW_ge B 1 (n - (tkS B n p + 1)) (tkS B n p + 1)).2.2 i (by omega) b
def isV (B : Nat → Nat) (n p : Nat) (l : List Nat) : Int32 := if tkK B n p = 1 ∧ tkL B n p = l then 1 else 0
theorem isV1 {B : Nat → Nat} {n p : Nat} {l : List Nat} : isV B n p l = 0 ↔ ¬ (tkK B n p = 1 ∧ tkL B n p = l) := by
  unfold isV
  by_cases h : tkK B n p = 1 ∧ tkL B n p = l
  · rw [if_pos h]; exact ⟨fun z => absurd z (by decide), fun z => absurd h z⟩
  · rw [if_neg h]; exact ⟨fun _ => h, fun _ => rfl⟩
theorem l_X9_is_28 (hw : Wf μ) (hT : Tk B n μ) {p : Nat} (hp : p ≤ n) (hA : TkA B n p μ) {r : Nat} {l : List Nat} (hs : StrV μ r l) (hk : tkK B n p = 1) (hsz : tkE B n p - tkS B n p = l.length) : ∀ dd m, m + dd = l.length → (∀ j, j < m → B (tkS B n p + j) = l.getD j 0) → AW Y_X9_is R_X9_is (0, 0) μ 28 [(0, .ref 80), (1, .ref r), (2, .int (nI m))] [] (.inl (some (.int (isV B n p l)))) μ := by
  have h60 := hs.1
  have htx := hT.1
  have h900 := hT.2.2.1
  have hen := tkE_le (B := B) hp
  have hwd := (tk_word hp hk).2
  intro dd
  induction dd with
  | zero =>
    intro m hm hj
    obtain rfl : l.length = m := by omega
    have e : isV B n p l = 1 := if_pos ⟨hk, getD_ext (by rw [tkL_len]; exact hsz) (fun j hj2 => by rw [tkL_len] at hj2; rw [tkL_get hj2]; exact hj j (by omega))⟩
    rw [e]
    refine a_iload_n dX9_is_28 rfl ?_
    refine a_aload_n dX9_is_29 rfl ?_
    refine a_invT (b2 := (0, 0)) hs (t_J0_length_8abf5 hs) rfl dX9_is_30 yk_J0_length_8abf5 im_J0_length_8abf5 se_J0_length_8abf5 ml_X9_42 rfl rfl (by decide) (by decide) (Nat.le_of_ble_eq_true rfl) ?_
    refine a_icmp_ge (tgt := 63) dX9_is_33 (by decide) (fun h33 => ?_) (fun h33 => absurd h33 (fun z => z (nI_le (Nat.le_refl _) (by omega))))
    refine a_iconst (1 : Int32) dX9_is_63 (by decide) ?_
    exact a_out rfl rfl (a_ireturn dX9_is_64 rfl rfl)
  | succ dd ih =>
    intro m hm hj
    obtain ⟨hB, hb1⟩ := hT.2.2.2 (tkS B n p + m) (by omega)
    have hwm := hwd (tkS B n p + m) (by omega) (by omega)
    have hlm := hs.2.1 _ (getD_mem l m (by omega))
    rw [sby_lo (by omega)] at hb1
    refine a_iload_n dX9_is_28 rfl ?_
    refine a_aload_n dX9_is_29 rfl ?_
    refine a_invT (b2 := (0, 0)) hs (t_J0_length_8abf5 hs) rfl dX9_is_30 yk_J0_length_8abf5 im_J0_length_8abf5 se_J0_length_8abf5 ml_X9_42 rfl rfl (by decide) (by decide) (Nat.le_of_ble_eq_true rfl) ?_
    refine a_icmp_ge (tgt := 63) dX9_is_33 (by decide) (fun h33 => absurd h33 (nI_ge (show m < l.length by omega) (by omega))) (fun h33 => ?_)
    refine a_aload_n dX9_is_36 rfl ?_
    refine a_getR htx dX9_is_37 fs_X9_7 rfl (co_80 hw) ?_
    refine a_aload_n dX9_is_40 rfl ?_
    refine a_getI dX9_is_41 fs_X9_26 rfl (co_80 hw) ?_
    rw [hA.1]
    refine a_iload_n dX9_is_44 rfl ?_
    refine a_iadd dX9_is_45 ?_
    rw [nI_add]
    refine a_bld dX9_is_46 (ca_1 hw) (ixn (show tkS B n p + m < 900 by omega) (by decide)) ?_
    rw [hb1]
    refine a_aload_n dX9_is_47 rfl ?_
    refine a_iload_n dX9_is_48 rfl ?_
    refine a_invT (b2 := (0, 0)) hs (t_J0_charAt_5068e hs (show m < l.length by omega)) rfl dX9_is_49 yk_J0_charAt_5068e im_J0_charAt_5068e se_J0_charAt_5068e ml_X9_47 rfl rfl (by decide) (by decide) (Nat.le_of_ble_eq_true rfl) ?_
    refine a_icmp_eq (tgt := 57) dX9_is_52 (by decide) (fun h52 => ?_) (fun h52 => ?_)
    · have e52 := (nI_eqI (by omega) (by omega)).mp h52
      refine a_iincN dX9_is_57 rfl (by decide) ?_
      refine a_goto (tgt := 28) dX9_is_60 (by decide) ?_
      exact a_loc _ rfl (ih (m + 1) (by omega) (fun j hj2 => by
        by_cases q : j = m
        · subst q; exact e52
        · exact hj j (by omega)))
    · refine a_iconst (0 : Int32) dX9_is_55 (by decide) ?_
      exact a_out (by rw [show isV B n p l = 0 from if_neg (fun z => h52 (congrArg nI (by rw [← tkL_get (B := B) (n := n) (p := p) (by omega), z.2])))]) rfl (a_ireturn dX9_is_56 rfl rfl)
theorem t_X9_is (hw : Wf μ) (hT : Tk B n μ) {p : Nat} (hp : p ≤ n) (hA : TkA B n p μ) {r : Nat} {l : List Nat} (hs : StrV μ r l) : Ct Y_X9_is R_X9_is [.ref 80, .ref r] μ (.inl (some (.int (isV B n p l)))) μ := by
  refine Ct.ent yk_X9_is (Nat.le_of_ble_eq_true rfl) ?_
  have h60 := hs.1
  have htx := hT.1
  have h900 := hT.2.2.1
  have hen := tkE_le (B := B) hp
  have hk4 : tkK B n p ≤ 4 := by
    unfold tkK
    have := kd_le (B (tkS B n p))
    split
    · omega
    · split <;> omega
  refine a_aload_n dX9_is_0 rfl ?_
  refine a_getI dX9_is_1 fs_X9_29 rfl (co_80 hw) ?_
  rw [hA.2.2.1]
  refine a_iconst (1 : Int32) dX9_is_4 (by decide) ?_
  refine a_icmp_ne (tgt := 24) dX9_is_5 (by decide) (fun h5 => ?_) (fun h5 => ?_)
  · refine a_iconst (0 : Int32) dX9_is_24 (by decide) ?_
    exact a_out (by first | rw [show isV B n p l = 0 from if_neg (fun z => h5 (by rw [z.1]; rfl))] | rw [show isV B n p l = 0 from if_neg (fun z => h21 (congrArg nI (by rw [← tkL_len, z.2])))]) rfl (a_ireturn dX9_is_25 rfl rfl)
  · have hk : tkK B n p = 1 := (nI_eqI (b := 1) (by omega) (by omega)).mp h5
    refine a_aload_n dX9_is_8 rfl ?_
    refine a_getI dX9_is_9 fs_X9_23 rfl (co_80 hw) ?_
    rw [hA.2.1]
    refine a_aload_n dX9_is_12 rfl ?_
    refine a_getI dX9_is_13 fs_X9_26 rfl (co_80 hw) ?_
    rw [hA.1]
    refine a_isub dX9_is_16 ?_
    rw [pk_sub (by omega)]
    refine a_aload_n dX9_is_17 rfl ?_
    refine a_invT (b2 := (0, 0)) hs (t_J0_length_8abf5 hs) rfl dX9_is_18 yk_J0_length_8abf5 im_J0_length_8abf5 se_J0_length_8abf5 ml_X9_42 rfl rfl (by decide) (by decide) (Nat.le_of_ble_eq_true rfl) ?_
    refine a_icmp_eq (tgt := 26) dX9_is_21 (by decide) (fun h21 => ?_) (fun h21 => ?_)
    · have hsz := (nI_eqI (by omega) (by omega)).mp h21
      refine a_iconst (0 : Int32) dX9_is_26 (by decide) ?_
      refine a_istore_n dX9_is_27 (by decide) ?_
      exact a_loc [(0, .ref 80), (1, .ref r), (2, .int (nI 0))] rfl (l_X9_is_28 hw hT hp hA hs hk hsz l.length 0 (by omega) (fun j hj => by omega))
    · refine a_iconst (0 : Int32) dX9_is_24 (by decide) ?_
      exact a_out (by first | rw [show isV B n p l = 0 from if_neg (fun z => h5 (by rw [z.1]; rfl))] | rw [show isV B n p l = 0 from if_neg (fun z => h21 (congrArg nI (by rw [← tkL_len, z.2])))]) rfl (a_ireturn dX9_is_25 rfl rfl)
end PARSE
