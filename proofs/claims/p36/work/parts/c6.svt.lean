section SVT
variable {q : PDt} {d : FDt} {G : Nat → Option Nat} {rs : Nat → Nat}
theorem LwV.svs {μ : Wd} {p p0 N : Nat} {H : Hst} {S : Nat → Option FDt} (h : LwV p p0 q d H S N μ) : SvS q d (svR q d).1 (svR q d).2.1 (svR q d).2.2 := by
  obtain ⟨v, V, hc, e, f1, f2, G, rs, n, h1, _⟩ := c_freshService h.wf h.1.2.2.1 h.1.2.1 h.gp h.gd h.sv
  exact svR_of h1
/-- a plain passenger's meal is what was given at the turn -/
theorem svD_at {g : Nat → Option Nat} {rs0 : Nat → Nat} : ∀ n i, i < n → dF d 1 i = 0 → (svD q d g rs0 n).1 i = plX q d (svD q d g rs0 i).2 i := by
  intro n
  induction n with
  | zero => intro i hi _; exact absurd hi (Nat.not_lt_zero _)
  | succ n ih =>
    intro i hi h0
    rw [svD_succ]
    by_cases h1 : dF d 1 n = 0
    · rw [plS_0 h1]
      show up1 _ n _ i = _
      by_cases z : i = n
      · subst z
        exact up1_eq _ _ _
      · rw [up1_ne z]
        exact ih i (by omega) h0
    · rw [plS_1 h1]
      refine ih i ?_ h0
      have : i ≠ n := fun z => h1 (by rw [← z]; exact h0)
      omega
theorem deR_le (rs : Nat → Nat) (x : Option Nat) (m : Nat) : deR rs x m ≤ rs m := by
  cases x with
  | none => exact Nat.le_refl _
  | some k =>
    show up1 rs k (rs k - 1) m ≤ rs m
    by_cases z : m = k
    · rw [z, up1_eq]
      exact Nat.sub_le _ _
    · rw [up1_ne z]
      exact Nat.le_refl _
/-- units only get fewer -/
theorem svD_le {g : Nat → Option Nat} {rs0 : Nat → Nat} (m i : Nat) : ∀ k, (svD q d g rs0 (i + k)).2 m ≤ (svD q d g rs0 i).2 m := by
  intro k
  induction k with
  | zero => exact Nat.le_refl _
  | succ k ih =>
    rw [← Nat.add_assoc, svD_succ]
    refine Nat.le_trans ?_ ih
    by_cases h1 : dF d 1 (i + k) = 0
    · rw [plS_0 h1]
      exact deR_le _ _ _
    · rw [plS_1 h1]
      exact Nat.le_refl _
theorem mlD_no {c : Int32} : ∀ {M : Nat}, mlD q rs c M = none → ∀ m, m < M → pF q 2 m = c → rs m = 0
  | 0, _, m, hm, _ => absurd hm (Nat.not_lt_zero _)
  | M + 1, h, m, hm, e => by
    have ih := fun h => mlD_no (c := c) (M := M) h m
    unfold mlD at h ih
    rw [itN_succ] at h
    generalize itN (mlS q rs c) none M = a at h ih
    unfold mlS at h
    by_cases z : pF q 2 M = c
    · rw [if_pos z] at h
      cases a with
      | none =>
        by_cases y : m = M
        · subst y
          by_cases x : rs m ≤ 0
          · omega
          · simp only [if_neg x] at h
            exact nomatch h
        · exact ih rfl (by omega) e
      | some b =>
        by_cases x : rs M ≤ rs b
        · simp only [if_pos x] at h
          exact nomatch h
        · simp only [if_neg x] at h
          exact nomatch h
    · rw [if_neg z] at h
      have : m ≠ M := fun y => z (by rw [← y]; exact e)
      exact ih h (by omega) e
/-- who gets a meal may have it -/
theorem SvS.fit {n : Nat} (hq : GdP q) (hd : GdD q d) (hwc : WiC q d) (h : SvS q d G rs n) {i m : Nat} (hi : i < dP d) (e : G i = some m) : m < pM q ∧ fitD q (dF d 0 i) (dF d 1 i) m = true ∧ (dF d 1 i = 0 → pF q 2 m = dF d 0 i) := by
  have hM := hq.M4
  obtain ⟨f1, f2, f3⟩ := h.facts hM (WiD.of hd)
  have hm := f2 i m hi e
  obtain ⟨g, hlex, eS⟩ := h
  have eG : G i = (svD q d g (fun m => ldN q d m - cntG g (dP d) m) (dP d)).1 i := congrFun (congrArg Prod.fst eS) i
  by_cases h0 : dF d 1 i = 0
  · rw [eG, svD_at _ i hi h0] at e
    have h2 : pF q 2 m = dF d 0 i := by
      unfold plX at e
      by_cases z : dF d 2 i = -1
      · rw [if_pos z] at e
        exact (mlD_lt e).2.2
      · rw [if_neg z] at e
        split at e
        · exact (mlD_lt e).2.2
        · injection e with e
          rcases hwc i hi with y | ⟨x, x1, x2, x3⟩
          · exact absurd y z
          · rw [x2, nN_nI (by omega)] at e
            rw [← e]
            exact x3
    refine ⟨hm, decide_eq_true ⟨fun z => ?_, ?_⟩, fun _ => h2⟩
    · unfold adI at z
      by_cases y : pF q 2 m = -1
      · rw [if_pos y] at z
        exact absurd z (by decide)
      · rw [if_neg y, if_pos h2] at z
        exact absurd z (by decide)
    · rw [h0]
      exact Int32.zero_and
  · refine ⟨hm, ?_, fun z => absurd z h0⟩
    rw [eG, svD_sp _ _ h0] at e
    have h3 := (hlex.1.1.1 i m hi e).2
    have h4 : bt (suM q d i) m = true := h3
    unfold suM at h4
    rw [if_neg h0] at h4
    have h5 := suD_bit q (dF d 0 i) (dF d 1 i) (pM q) hM m (by omega)
    have h6 := of_decide_eq_true (h5.symm.trans h4)
    exact decide_eq_true h6.2
/-- no plain passenger is hungry while the menu has something left -/
theorem SvS.no {n : Nat} (h : SvS q d G rs n) {i m : Nat} (hi : i < dP d) (h0 : dF d 1 i = 0) (e : G i = none) (hm : m < pM q) (h2 : pF q 2 m = dF d 0 i) : rs m = 0 := by
  obtain ⟨g, hlex, eS⟩ := h
  have eG : G i = (svD q d g (fun m => ldN q d m - cntG g (dP d) m) (dP d)).1 i := congrFun (congrArg Prod.fst eS) i
  have eR : rs m = (svD q d g (fun m => ldN q d m - cntG g (dP d) m) (dP d)).2 m := congrFun (congrArg Prod.snd eS) m
  rw [eG, svD_at _ i hi h0] at e
  have hl := svD_le (q := q) (d := d) (g := g) (rs0 := fun m => ldN q d m - cntG g (dP d) m) m i (dP d - i)
  rw [show i + (dP d - i) = dP d by omega] at hl
  have hz : (svD q d g (fun m => ldN q d m - cntG g (dP d) m) i).2 m = 0 := by
    unfold plX at e
    by_cases z : dF d 2 i = -1
    · rw [if_pos z] at e
      exact mlD_no e m hm h2
    · rw [if_neg z] at e
      split at e
      · exact mlD_no e m hm h2
      · exact nomatch e
  omega
/-- special meals, fed passengers, wishes, units eaten: one passenger more -/
def spC (d : FDt) (G : Nat → Option Nat) (k : Nat) : Nat := fb_ct (fun i => decide (¬ dF d 1 i = 0 ∧ G i ≠ none)) k
theorem C_none {k : Nat} (e : G k = none) : spC d G (k + 1) = spC d G k ∧ szG G (k + 1) = szG G k ∧ wmG d G (k + 1) = wmG d G k ∧ ∀ m, cntG G (k + 1) m = cntG G k m := by
  refine ⟨?_, ?_, ?_, fun m => ?_⟩
  · unfold spC; rw [fb_ct_succ, if_neg (by rw [decide_eq_true_eq]; exact fun z => z.2 e)]; rfl
  · unfold szG; rw [fb_ct_succ, if_neg (by rw [e]; decide)]; rfl
  · unfold wmG; rw [fb_ct_succ, if_neg (by rw [decide_eq_true_eq]; exact fun z => z.2.1 e)]; rfl
  · unfold cntG; rw [fb_ct_succ, if_neg (by rw [decide_eq_true_eq, e]; exact fun z => nomatch z)]; rfl
theorem C_some {k x : Nat} (e : G k = some x) : spC d G (k + 1) = spC d G k + (if dF d 1 k = 0 then 0 else 1) ∧ szG G (k + 1) = szG G k + 1 ∧ wmG d G (k + 1) = wmG d G k + (if dF d 1 k = 0 ∧ nI x = dF d 2 k then 1 else 0) ∧ ∀ m, cntG G (k + 1) m = cntG G k m + (if m = x then 1 else 0) := by
  refine ⟨?_, ?_, ?_, fun m => ?_⟩
  · unfold spC
    rw [fb_ct_succ]
    by_cases z : dF d 1 k = 0
    · rw [if_pos z, if_neg (by rw [decide_eq_true_eq]; exact fun y => y.1 z)]
    · rw [if_neg z, if_pos (by rw [decide_eq_true_eq, e]; exact ⟨z, fun y => nomatch y⟩)]
  · unfold szG; rw [fb_ct_succ, if_pos (by rw [e]; rfl)]
  · unfold wmG
    rw [fb_ct_succ]
    by_cases z : dF d 1 k = 0 ∧ nI x = dF d 2 k
    · rw [if_pos z, if_pos (by rw [decide_eq_true_eq, e]; exact ⟨z.1, (fun y => nomatch y), z.2⟩)]
    · rw [if_neg z, if_neg (by rw [decide_eq_true_eq, e]; exact fun y => z ⟨y.1, y.2.2⟩)]
  · unfold cntG
    rw [fb_ct_succ]
    by_cases z : m = x
    · rw [if_pos z, if_pos (by rw [decide_eq_true_eq, e, z])]
    · rw [if_neg z, if_neg (by rw [decide_eq_true_eq, e]; exact fun y => z (by injection y with y; exact y.symm))]
end SVT
