section LINV
variable {q : PDt} {d d2 : FDt}
/-- units lie only where they may -/
def AdM (q : PDt) (d : FDt) : Prop := ∀ t m, t < pT q → m < pM q → dF d (7 + t) m = 0 ∨ ¬ adI (pF q 2 m) (pF q 7 t) = 0
theorem AdM.cg (h : AdM q d) (hF : ∀ a i, 7 ≤ a → dF d2 a i = dF d a i) : AdM q d2 := fun t m ht hm => by
  rw [hF (7 + t) m (Nat.le_add_right _ _)]
  exact h t m ht hm
theorem AdM.set (h : AdM q d) {t k : Nat} {v : Int32} (hv : v = 0 ∨ ¬ adI (pF q 2 k) (pF q 7 t) = 0) : AdM q (setU d t k v) := fun t2 m ht hm => by
  by_cases z : t2 = t ∧ m = k
  · obtain ⟨rfl, rfl⟩ := z
    rw [setU_at]
    exact hv
  · rw [setU_ne d v (by omega)]
    exact h t2 m ht hm
theorem AdM.inc (h : AdM q d) {k t : Nat} (e : on1 q k d = some t) : AdM q (incD d t k) := by
  obtain ⟨_, _, h3, _⟩ := fstF_some e
  unfold feB at h3
  rw [decide_eq_true_eq] at h3
  exact h.set (Or.inr h3.1)
theorem AdM.st (h : AdM q d) (k n : Nat) : AdM q (stM q k n d).2 := stM_keeps (AdM q) (fun _ _ h2 e => AdM.inc h2 e) n d h
theorem AdM.so {u : Nat → Int32} : ∀ c m (a : Int32) (d : FDt), AdM q d → AdM q (soF q u c m a d).2 := by
  intro c
  induction c with
  | zero => intro m a d h; exact h
  | succ c ih =>
    intro m a d h
    rw [soF_s]
    split
    · exact h.st _ _
    · exact ih _ _ _ (h.st _ _)
theorem AdM.lap : ∀ (c a : Nat) (b : Int32) (d : FDt), AdM q d → AdM q (laP q c a b d).2.2 := by
  intro c
  induction c with
  | zero => intro a b d h; exact h
  | succ c ih =>
    intro a b d h
    rw [laP_s]
    split
    · exact h
    · exact ih _ _ _ (h.st _ _)
theorem AdM.la (h : AdM q d) : AdM q (laD q d).2 := by
  have h2 := AdM.lap (q := q) (dU d) 0 0 d h
  exact h2.cg (fun a i ha => shf_ne _ _ (by omega))
theorem AdM.to (hq : GdP q) {k : Nat} (hk : k < pM q) : ∀ (r a : Nat) (d : FDt), r ≤ pT q → a < 2 ^ 31 → GdD q d → AdM q d → AdM q (toD k r (nI a) d) := by
  intro r
  induction r with
  | zero => intro a d _ _ _ h; exact h
  | succ r ih =>
    intro a d hr ha hg h
    have hT := hq.T4
    have hM := hq.M4
    obtain ⟨e, hu⟩ := GdD_unN hg (show r < 8 by omega) (show k < 12 by omega)
    have hz := h r k (by omega) hk
    rw [e] at hz
    unfold toD
    rw [e]
    by_cases hl : unN d r k < a
    · have hc : nI (unN d r k) < nI a := (nI_ltI (by omega) (by omega)).mpr hl
      rw [if_pos hc, nI_subI (by omega), nI_subI (by omega)]
      exact ih _ _ (by omega) (by omega) (hg.dec hq hk (by omega) (by omega)) (h.set (Or.inl (by rw [Nat.sub_self]; rfl)))
    · have hc : ¬ nI (unN d r k) < nI a := fun z => hl ((nI_ltI (by omega) (by omega)).mp z)
      rw [if_neg hc, nI_subI (by omega), nI_subI (by omega)]
      refine ih _ _ (by omega) (by omega) (hg.dec hq hk (by omega) (by omega)) (h.set (hz.imp (fun z => ?_) (fun z => z)))
      have z0 := (nI_eq (a := unN d r k) (b := 0) (by omega) (by decide)).mp z
      rw [z0, Nat.zero_sub]
      rfl
/-- no cabin has more passengers than seats -/
def SeC (q : PDt) (d : FDt) : Prop := ∀ c s, c < pC q → pF q 0 c = nI s → s ≤ 40 → paN d (nI c) ≤ s
theorem SeC.cg (h : SeC q d) (hP : dP d2 = dP d) (h0 : ∀ i, dF d2 0 i = dF d 0 i) : SeC q d2 := fun c s hc hs h4 => by
  refine Nat.le_trans (Nat.le_of_eq ?_) (h c s hc hs h4)
  unfold paN
  rw [hP]
  exact fb_ct_cong fun k _ => by rw [h0]
theorem pa_brd (d : FDt) (c n v x : Int32) : paN (brdD d c n v) x = paN d x + (if c = x then 1 else 0) := by
  unfold paN
  show fb_ct (fun i => decide (dF (brdD d c n v) 0 i = x)) (dP d + 1) = _
  rw [fb_ct_succ]
  have e1 : fb_ct (fun i => decide (dF (brdD d c n v) 0 i = x)) (dP d) = fb_ct (fun i => decide (dF d 0 i = x)) (dP d) := fb_ct_cong fun k hk => by
    rw [show dF (brdD d c n v) 0 k = dF d 0 k from if_neg (fun z => by omega)]
  have e2 : dF (brdD d c n v) 0 (dP d) = c := (if_pos ⟨rfl, by decide⟩).trans (if_pos rfl)
  rw [e1, e2]
  congr 1
  by_cases z : c = x
  · rw [if_pos z, if_pos (decide_eq_true z)]
  · rw [if_neg z, if_neg (by rw [decide_eq_true_eq]; exact z)]
theorem SeC.brd (h : SeC q d) {c : Nat} {n v : Int32} (hc : c < pC q) (hC : pC q ≤ 4) (hs : ∀ s, pF q 0 c = nI s → s ≤ 40 → paN d (nI c) < s) : SeC q (brdD d (nI c) n v) := fun c2 s hc2 e h4 => by
  rw [pa_brd]
  by_cases z : nI c = nI c2
  · have := (nI_eqI (by omega) (by omega)).mp z
    subst this
    rw [if_pos rfl]
    exact hs s e h4
  · rw [if_neg z]
    exact h c2 s hc2 e h4
theorem ct_rem (p : Nat → Bool) {i : Nat} : ∀ n, fb_ct (fun k => if i ≤ k then p (k + 1) else p k) n ≤ fb_ct p (n + 1) := by
  intro n
  induction n with
  | zero => exact Nat.zero_le _
  | succ n ih =>
    rw [fb_ct_succ, fb_ct_succ p (n + 1)]
    by_cases h : i ≤ n
    · rw [if_pos h]
      exact Nat.add_le_add_right ih _
    · have e : fb_ct (fun k => if i ≤ k then p (k + 1) else p k) n = fb_ct p n := fb_ct_cong fun k hk => if_neg (by omega)
      rw [if_neg h, e, fb_ct_succ p n]
      exact Nat.le_add_right _ _
theorem SeC.leave (h : SeC q d) {i : Nat} (hi : i < dP d) : SeC q (leaveD d i) := fun c s hc e h4 => by
  refine Nat.le_trans ?_ (h c s hc e h4)
  unfold paN
  show fb_ct (fun k => decide (dF (leaveD d i) 0 k = nI c)) (dP d - 1) ≤ _
  have e1 : fb_ct (fun k => decide (dF (leaveD d i) 0 k = nI c)) (dP d - 1) = fb_ct (fun k => if i ≤ k then decide (dF d 0 (k + 1) = nI c) else decide (dF d 0 k = nI c)) (dP d - 1) := fb_ct_cong fun k hk => by
    by_cases z : i ≤ k
    · rw [if_pos z, show dF (leaveD d i) 0 k = dF d 0 (k + 1) from if_pos ⟨by decide, z, hk⟩]
    · rw [if_neg z, show dF (leaveD d i) 0 k = dF d 0 k from if_neg (fun y => z y.2.1)]
  rw [e1]
  have := ct_rem (fun k => decide (dF d 0 k = nI c)) (i := i) (dP d - 1)
  rw [show dP d - 1 + 1 = dP d by omega] at this
  exact this
theorem SeC.chg (h : SeC q d) (hC : pC q ≤ 4) {i c : Nat} (hi : i < dP d) (hc : c < pC q) (hs : ∀ s, pF q 0 c = nI s → s ≤ 40 → paN d (nI c) < s) : SeC q (cellD (cellD d 0 i (nI c)) 2 i (-1)) := fun c2 s hc2 e h4 => by
  unfold paN
  have e1 : fb_ct (fun k => decide (dF (cellD (cellD d 0 i (nI c)) 2 i (-1)) 0 k = nI c2)) (dP d) = fb_ct (fun k => if k = i then decide (nI c = nI c2) else decide (dF d 0 k = nI c2)) (dP d) := fb_ct_cong fun k _ => by
    have e2 : dF (cellD (cellD d 0 i (nI c)) 2 i (-1)) 0 k = if k = i then nI c else dF d 0 k := by
      show up2 (up2 (dF d) 0 i (nI c)) 2 i (-1) 0 k = _
      rw [up2_ne (by omega)]
      unfold up2
      by_cases z : k = i
      · rw [if_pos ⟨rfl, z⟩, if_pos z]
      · rw [if_neg (fun y => z y.2), if_neg z]
    rw [e2]
    by_cases z : k = i
    · rw [if_pos z, if_pos z]
    · rw [if_neg z, if_neg z]
  show fb_ct _ (dP d) ≤ s
  rw [e1]
  have hu := fb_ct_upd (fun k => decide (dF d 0 k = nI c2)) (decide (nI c = nI c2)) hi
  have hold := h c2 s hc2 e h4
  unfold paN at hold
  by_cases z : nI c = nI c2
  · have := (nI_eqI (by omega) (by omega)).mp z
    subst this
    have hlt := hs s e h4
    unfold paN at hlt
    rw [if_pos (decide_eq_true rfl)] at hu
    omega
  · rw [show (if decide (nI c = nI c2) = true then 1 else 0) = 0 from if_neg (by rw [decide_eq_true_eq]; exact z)] at hu
    omega
/-- a wish is of the menu of the own cabin -/
def WiC (q : PDt) (d : FDt) : Prop := ∀ i, i < dP d → dF d 2 i = -1 ∨ ∃ x, x < pM q ∧ dF d 2 i = nI x ∧ pF q 2 x = dF d 0 i
theorem WiC.cg (h : WiC q d) (hP : dP d2 = dP d) (h0 : ∀ a i, (a = 0 ∨ a = 2) → dF d2 a i = dF d a i) : WiC q d2 := fun i hi => by
  rw [h0 2 i (Or.inr rfl), h0 0 i (Or.inl rfl)]
  exact h i (by rw [← hP]; exact hi)
theorem WiC.brd (h : WiC q d) {c n v : Int32} (hv : v = -1 ∨ ∃ x, x < pM q ∧ v = nI x ∧ pF q 2 x = c) : WiC q (brdD d c n v) := fun i hi => by
  have hi : i < dP d + 1 := hi
  by_cases z : i = dP d
  · have e0 : dF (brdD d c n v) 0 i = c := (if_pos ⟨z, by decide⟩).trans (if_pos rfl)
    have e2 : dF (brdD d c n v) 2 i = v := (if_pos ⟨z, by decide⟩).trans ((if_neg (by decide)).trans (if_neg (by decide)))
    rw [e0, e2]
    exact hv
  · rw [show dF (brdD d c n v) 0 i = dF d 0 i from if_neg (fun y => z y.1), show dF (brdD d c n v) 2 i = dF d 2 i from if_neg (fun y => z y.1)]
    exact h i (by omega)
theorem WiC.leave (h : WiC q d) {i : Nat} : WiC q (leaveD d i) := fun k hk => by
  have hk : k < dP d - 1 := hk
  by_cases z : i ≤ k
  · rw [show dF (leaveD d i) 0 k = dF d 0 (k + 1) from if_pos ⟨by decide, z, hk⟩, show dF (leaveD d i) 2 k = dF d 2 (k + 1) from if_pos ⟨by decide, z, hk⟩]
    exact h (k + 1) (by omega)
  · rw [show dF (leaveD d i) 0 k = dF d 0 k from if_neg (fun y => z y.2.1), show dF (leaveD d i) 2 k = dF d 2 k from if_neg (fun y => z y.2.1)]
    exact h k (by omega)
theorem WiC.chg (h : WiC q d) {i : Nat} {c : Int32} : WiC q (cellD (cellD d 0 i c) 2 i (-1)) := fun k hk => by
  by_cases z : k = i
  · left
    subst z
    exact up2_eq _ _ _ _
  · have e2 : dF (cellD (cellD d 0 i c) 2 i (-1)) 2 k = dF d 2 k := by
      show up2 (up2 (dF d) 0 i c) 2 i (-1) 2 k = _
      rw [up2_ne (fun y => z y.2), up2_ne (fun y => z y.2)]
    have e0 : dF (cellD (cellD d 0 i c) 2 i (-1)) 0 k = dF d 0 k := by
      show up2 (up2 (dF d) 0 i c) 2 i (-1) 0 k = _
      rw [up2_ne (fun y => z y.2), up2_ne (fun y => z y.2)]
    rw [e0, e2]
    exact h k hk
/-- what was loaded was eaten or wasted -/
def AcE (d : FDt) : Prop := dA d 0 = dA d 1 + dA d 2
end LINV
