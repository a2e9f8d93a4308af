section ACL
variable {μ W V : Wd} {p p0 N : Nat} {q : PDt} {d d2 : FDt} {H : Hst} {S : Nat → Option FDt}
theorem QX.told (h : QX q) : ¬ pF q 9 0 = 0 := fun z => absurd (h.2.2.2.2.1.symm.trans z) (by decide)
theorem go_of (h : ¬ pF q 9 0 = 0) (h0 : dF d 6 0 = 0) : goD q d := by
  unfold goD phD
  rw [if_neg h, if_pos h0]
  split
  · exact Or.inr rfl
  · exact Or.inl rfl
theorem GX.cg (h : GX N q d) (hi : InD N q d2) (ha : AdM q d2) (hP : dP d2 = dP d) (hF : ∀ a i, (a = 0 ∨ a = 2) → dF d2 a i = dF d a i) (hA : dA d2 = dA d) : GX N q d2 :=
  ⟨hi, ha, h.2.2.1.cg hP (fun i => hF 0 i (Or.inl rfl)), h.2.2.2.1.cg hP hF, by unfold AcE; rw [hA]; exact h.2.2.2.2⟩
theorem GX.leave (h : GX N q d) (hgo : goD q d) {i : Nat} (hi : i < dP d) : GX N q (leaveD d i) :=
  ⟨h.1.leave hgo hi, h.2.1.cg (fun a x ha => if_neg (by omega)), h.2.2.1.leave hi, h.2.2.2.1.leave, h.2.2.2.2⟩
theorem GX.nees (h : GX N q d) (hgo : goD q d) {i n : Nat} (hn : n < 256) : GX N q (cellD d 1 i (nI n)) :=
  h.cg (h.1.nees hgo hn) (h.2.1.cg (fun a x ha => cell_ne d _ (by omega))) rfl (fun a x ha => cell_ne d _ (by omega)) rfl
theorem seat_lt (hg : GdD q d) {c s : Nat} (e : pF q 0 c = nI s) (h4 : s ≤ 40) (h : ¬ pF q 0 c - paD d (nI c) < 1) : paN d (nI c) < s := by
  have hl := paN_le d (nI c)
  have hP := hg.P4
  refine Nat.lt_of_not_le fun z => h ?_
  rw [e, paD_N]
  by_cases y : paN d (nI c) = s
  · rw [y, Int32.sub_self]; decide
  · have q9 : ∀ a, a < 41 → ∀ b, b < 41 → a < b → nI a - nI b < 1 := by decide +kernel
    exact q9 _ (by omega) _ (by omega) (by omega)
theorem GX.chg (h : GX N q d) (hgo : goD q d) (hC : pC q ≤ 4) {i c : Nat} (hi : i < dP d) (hc : c < pC q) (hfr : ¬ pF q 0 c - paD d (nI c) < 1) : GX N q (cellD (cellD d 0 i (nI c)) 2 i (-1)) :=
  ⟨h.1.chg hgo hc, h.2.1.cg (fun a x ha => (cell_ne _ _ (by omega)).trans (cell_ne _ _ (by omega))), h.2.2.1.chg hC hi hc (fun s e h4 => seat_lt h.1.1 e h4 hfr), h.2.2.2.1.chg, h.2.2.2.2⟩
theorem GX.brd (h : GX N q d) (hgo : goD q d) (hC : pC q ≤ 4) (hP : dP d < 40) {c n : Nat} {v : Int32} (hc : c < pC q) (hn : n < 256) (hv : v = -1 ∨ ∃ x, x < pM q ∧ v = nI x ∧ pF q 2 x = nI c) (hfr : ¬ pF q 0 c - paD d (nI c) < 1) : GX N q (brdD d (nI c) (nI n) v) :=
  ⟨h.1.brd hgo hP hc hn (hv.imp (fun z => z) (fun ⟨x, a, b, _⟩ => ⟨x, a, b⟩)), h.2.1.cg (fun a x ha => if_neg (by omega)), h.2.2.1.brd hc hC (fun s e h4 => seat_lt h.1.1 e h4 hfr), h.2.2.2.1.brd hv, h.2.2.2.2⟩
theorem GX.st (h : GX N q d) (hq : GdP q) (hgo : goD q d) {m : Nat} (hm : m < pM q) (n : Nat) : GX N q (stM q m n d).2 := by
  have s := stM_lo (q := q) (k := m) n d
  exact h.cg (h.1.st hq hgo hm n) (h.2.1.st m n) s.1 (fun a i ha => s.2.2.2.1 a i (by omega)) s.2.2.1
theorem GX.to (h : GX N q d) (hq : GdP q) (hgo : goD q d) {m n : Nat} (hm : m < pM q) (hn : n < 2 ^ 31) : GX N q (toD m (pT q) (nI n) d) := by
  have s := to_lo m (pT q) (nI n) d
  have s7 := to_lo7 m (pT q) (nI n) d
  exact h.cg (h.1.to hq hgo hm hn) (AdM.to hq hm _ _ _ (Nat.le_refl _) hn h.1.1 h.2.1) s.1 (fun a i ha => s7.2 a i (by omega)) s.2.1
/-- the past with one more -/
theorem pushH_all {P : FDt → Prop} (h : ∀ i, i < H.1 → P (H.2 i)) (h12 : H.1 ≤ 12) (hd : P d) : ∀ i, i < (pushH H d).1 → P ((pushH H d).2 i) := by
  unfold pushH
  by_cases e : H.1 = 12
  · rw [if_pos e]
    intro i hi
    have hi : i < 12 := hi
    by_cases z : i = 11
    · show P (if i = 11 then d else H.2 (i + 1))
      rw [if_pos z]; exact hd
    · show P (if i = 11 then d else H.2 (i + 1))
      rw [if_neg z]; exact h _ (by omega)
  · rw [if_neg e]
    intro i hi
    have hi : i < H.1 + 1 := hi
    by_cases z : i = H.1
    · show P (if i = H.1 then d else H.2 i)
      rw [if_pos z]; exact hd
    · show P (if i = H.1 then d else H.2 i)
      rw [if_neg z]; exact h _ (by omega)
theorem LwV.h12 (h : LwV p p0 q d H S N μ) : H.1 ≤ 12 := by
  obtain ⟨k, r, _, _, _, h4, _⟩ := h.1.2.2.2.1
  exact h4
theorem LwV.act (h : LwV p p0 q d H S N μ) (hg : GX N q d2) (ha : ActQ μ V p q d2 (pushH H d) S) : LwV p p0 q d2 (pushH H d) S N V :=
  ⟨ha.1, h.2.1, hg, ⟨pushH_all h.2.2.2.1.1 h.h12 h.2.2.1, h.2.2.2.1.2⟩, ⟨(ha.2.2.2.2 9).trans h.2.2.2.2.1.1, h.2.2.2.2.1.2⟩, (ha.2.2.2.1 1 (by decide)).trans h.2.2.2.2.2⟩
theorem LwV.out {T : Nat → Prop} (h : LwV p p0 q d H S N μ) (ho : Out T μ W) (hT : ∀ i, T i → i = 0 ∨ (41 ≤ i ∧ i ≤ 57) ∨ (325 ≤ i ∧ i ≤ 333)) (h0 : ∀ k, k ≠ 6 → gI W 0 k = gI μ 0 k) (hr : gR W 0 9 = gR μ 0 9) : LwV p p0 q d H S N W := by
  obtain ⟨h1, h2, h3, h4, h5, h6⟩ := h.1
  refine ⟨⟨ho.1, h2.out ho (fun i a b y => ?_), h3.out ho (fun i a b y => by have := hT i y; omega), h4.out ho (fun i y => by have := hT i y; omega), h5.out ho (fun i y => by have := hT i y; omega), h6.out ho (fun i a b y => by have := hT i y; omega) (h0 17 (by decide))⟩, h.2.1, h.2.2.1, h.2.2.2.1, ⟨hr.trans h.2.2.2.2.1.1, h.2.2.2.2.1.2⟩, (h0 1 (by decide)).trans h.2.2.2.2.2⟩
  have := hT i y
  rcases h2.pl with e | e <;> omega
theorem LwV.s6 (h : LwV p p0 q d H S N μ) (v : Int32) : LwV p p0 q d H S N (sI μ 0 6 v) :=
  h.out (T := fun i => i = 0) ((Out.rfl' h.wf).sI (S := fun i => i = 0) rfl _ _) (fun i y => Or.inl y) (fun k hk => by rw [gI_sI, if_neg (fun z => hk z.2)]) (gR_sI ..)
/-- what an act of the law leaves -/
def ActL (p p0 : Nat) (q : PDt) (d : FDt) (H : Hst) (S : Nat → Option FDt) (N : Nat) (μ : Wd) (v : Option Value) (V : Wd) : Prop :=
  ∃ x : Int32, v = some (.int x) ∧ Out sAct μ V ∧ ((0 ≤ x ∧ ∃ d2, LwV p p0 q d2 (pushH H d) S N V ∧ goD q d2 ∧ dA d2 = dA d) ∨ (x < 0 ∧ LwV p p0 q d H S N V))
theorem ActL.yes (h : LwV p p0 q d H S N μ) (hgo : goD q d) {x : Int32} (hx : 0 ≤ x) (hg : GX N q d2) (ha : ActQ μ V p q d2 (pushH H d) S) (h6 : dF d2 6 0 = dF d 6 0) (hA : dA d2 = dA d) : ActL p p0 q d H S N μ (some (.int x)) V :=
  ⟨x, rfl, ha.2.2.1, Or.inl ⟨hx, d2, h.act hg ha, go_of h.2.1.told (h6.trans (go_s0 hgo).1), hA⟩⟩
theorem ActL.no (h : LwV p p0 q d H S N μ) {x v : Int32} (hx : x < 0) : ActL p p0 q d H S N μ (some (.int x)) (sI μ 0 6 v) :=
  ⟨x, rfl, ((Out.rfl' h.wf).sI (S := fun i => i = 0) rfl _ _).mono (fun i y => Or.inl y), Or.inr ⟨hx, h.s6 v⟩⟩
theorem ActL.same (h : LwV p p0 q d H S N μ) {x : Int32} (hx : x < 0) : ActL p p0 q d H S N μ (some (.int x)) μ := ⟨x, rfl, Out.rfl' h.wf, Or.inr ⟨hx, h⟩⟩
end ACL
