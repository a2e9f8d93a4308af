section KEEPSB
variable {q : PDt} {d : FDt}
theorem GdD.dec (hq : GdP q) (hd : GdD q d) {k t n : Nat} (hk : k < pM q) (ht : t < pT q) (hn : n ≤ unN d t k) : GdD q (setU d t k (nI n)) := by
  have hT := hq.T4
  have hM := hq.M4
  obtain ⟨s, f, s1, s2, s3, s4⟩ := fs_sum hq hd ht
  obtain ⟨z, z1, z2, z3⟩ := hq.size hk
  obtain ⟨e, hu⟩ := GdD_unN hd (show t < 8 by omega) (show k < 12 by omega)
  have hp := usN_part (q := q) (d := d) (t := t) hk
  rw [z3, nN_nI (by omega)] at hp
  have hm : n * z ≤ unN d t k * z := Nat.mul_le_mul_right z hn
  refine hd.upU hq hk ht (by omega) ⟨f + unN d t k * z - n * z, by omega, ?_⟩
  have h9 := fsD_inc (q := q) (d := d) hk (t := t) (nI n)
  rw [s3, z3, e, nI_mulI, nI_mulI, nI_add] at h9
  have h10 : fsD q (setU d t k (nI n)) t = nI (f + unN d t k * z) - nI (n * z) := by rw [← h9, Int32.add_sub_cancel]
  rw [h10, nI_subI (by omega)]
theorem GdD.to (hq : GdP q) {k : Nat} (hk : k < pM q) : ∀ (r a : Nat) (d : FDt), r ≤ pT q → a < 2 ^ 31 → GdD q d → GdD q (toD k r (nI a) d) := by
  intro r
  induction r with
  | zero => intro a d _ _ h; exact h
  | succ r ih =>
    intro a d hr ha h
    have hT := hq.T4
    have hM := hq.M4
    obtain ⟨e, hu⟩ := GdD_unN h (show r < 8 by omega) (show k < 12 by omega)
    unfold toD
    rw [e]
    by_cases hl : unN d r k < a
    · have hc : nI (unN d r k) < nI a := (nI_ltI (by omega) (by omega)).mpr hl
      rw [if_pos hc, nI_subI (by omega), nI_subI (by omega)]
      exact ih _ _ (by omega) (by omega) (h.dec hq hk (by omega) (by omega))
    · have hc : ¬ nI (unN d r k) < nI a := fun z => hl ((nI_ltI (by omega) (by omega)).mp z)
      rw [if_neg hc, nI_subI (by omega), nI_subI (by omega)]
      exact ih _ _ (by omega) (by omega) (h.dec hq hk (by omega) (by omega))
theorem laP_s (q : PDt) (c a : Nat) (b : Int32) (d : FDt) : laP q (c + 1) a b d = if dF d 5 a < dF d 6 1 then (a, b, d) else laP q c (a + 1) (b + (dF d 4 a - nI (stM q (nN (dF d 3 a)) (nN (dF d 4 a)) d).1)) (stM q (nN (dF d 3 a)) (nN (dF d 4 a)) d).2 := rfl
theorem GdD.lap (hq : GdP q) : ∀ (c a : Nat) (b : Int32) (d : FDt), a + c = dU d → GdD q d → GdD q (laP q c a b d).2.2 ∧ (laP q c a b d).1 ≤ dU (laP q c a b d).2.2 := by
  intro c
  induction c with
  | zero => intro a b d ha h; exact ⟨h, by show a ≤ dU d; omega⟩
  | succ c ih =>
    intro a b d ha h
    obtain ⟨⟨x, hx, ex⟩, _⟩ := h.tu (show a < dU d by omega)
    have hM := hq.M4
    rw [laP_s]
    split
    · exact ⟨h, by show a ≤ dU d; omega⟩
    · rw [ex, nN_nI (by omega)]
      refine ih (a + 1) _ _ ?_ (h.st hq hx _)
      rw [(stM_lo (q := q) (k := x) _ d).2.1]
      omega
theorem GdD.la (hq : GdP q) (h : GdD q d) : GdD q (laD q d).2 := by
  have h1 := GdD.lap hq (dU d) 0 0 d (Nat.zero_add _) h
  exact h1.1.shf h1.2
end KEEPSB
