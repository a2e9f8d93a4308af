section PICK
variable {μ W V : Wd} {B : Nat → Nat} {n p x : Nat} {z : PZ}
/-- without a flight nothing is there -/
def NoF (q : PDt) (d : FDt) : Prop := pF q 9 0 = 0 → dP d = 0 ∧ dU d = 0 ∧ dF d 6 1 = 0 ∧ pF q 9 2 = 0 ∧ pF q 9 3 = 0
/-- a service that has been is known -/
def SeD (q : PDt) (d : FDt) : Prop := dF d 6 0 = 0 ∨ ∃ (G : Nat → Option Nat) (rs : Nat → Nat) (n : Nat), SvS q d G rs n
def LtL (l : List Nat) : Prop := ∀ c, c ∈ l → 97 ≤ c ∧ c ≤ 122
theorem tkK1 : tkK B n p = 1 ↔ tkS B n p < n ∧ kdN (B (tkS B n p)) = 1 := by
  unfold tkK
  by_cases h1 : n ≤ tkS B n p
  · rw [if_pos h1]; exact ⟨fun z => absurd z (by decide), fun z => by omega⟩
  · rw [if_neg h1]
    by_cases h2 : kdN (B (tkS B n p)) = 2 ∧ 4 < tkE B n p - tkS B n p
    · rw [if_pos h2]; exact ⟨fun z => absurd z (by decide), fun z => by omega⟩
    · rw [if_neg h2]; exact ⟨fun z => ⟨by omega, z⟩, fun z => z.2⟩
theorem tkE_run {k : Nat} (hs : tkS B n p < n) (hk : kdN (B (tkS B n p)) = k) (h12 : k = 1 ∨ k = 2) : ∀ i, tkS B n p ≤ i → i < tkE B n p → kdN (B i) = k := by
  intro i h1 h2
  unfold tkE at h2
  rw [if_neg (by omega), if_pos (by omega)] at h2
  rw [hk] at h2
  by_cases hi : i = tkS B n p
  · rw [hi]; exact hk
  · exact (rnW_ge B k (n - (tkS B n p + 1)) (tkS B n p + 1)).2.2 i (by omega) h2
theorem kd1 {b : Nat} (h : kdN b = 1) : 97 ≤ b ∧ b ≤ 122 := by
  unfold kdN at h
  split at h
  · assumption
  · split at h
    · omega
    · split at h <;> omega
theorem tkL_lt (h : tkK B n p = 1) : LtL (tkL B n p) := by
  intro c hc
  obtain ⟨j, hj, rfl⟩ := List.mem_map.mp hc
  have hj2 := List.mem_range.mp hj
  have h1 := tkK1.mp h
  exact kd1 (tkE_run h1.1 h1.2 (Or.inl rfl) _ (by omega) (by omega))
theorem tkL_ne (hp : p ≤ n) (h : tkK B n p = 1) : tkL B n p ≠ [] := by
  intro z
  have h1 := tkK1.mp h
  have h2 := (tkE_le (B := B) hp).2.2 h1.1
  have h3 := tkL_len B n p
  rw [z] at h3
  have h3 : 0 = tkE B n p - tkS B n p := h3
  omega
/-- what a draft keeps to -/
def NaL (l : List Nat) : Prop := LtL l ∧ l ≠ [] ∧ l.length ≤ 6
def GzD (z : PZ) : Prop :=
  (GdP z.1) ∧
  (pF z.1 9 0 = 1) ∧
  (∃ m, 1 ≤ m ∧ m ≤ 999 ∧ pF z.1 9 1 = nI m) ∧
  (dU z.2.1 = 0) ∧
  (dP z.2.1 ≤ 40) ∧
  (∀ i, i < dP z.2.1 → (∃ c, c < pC z.1 ∧ dF z.2.1 0 i = nI c) ∧ (∃ m, m < 256 ∧ dF z.2.1 1 i = nI m) ∧ (dF z.2.1 2 i = -1 ∨ ∃ x, x < pM z.1 ∧ dF z.2.1 2 i = nI x)) ∧
  (∀ t k, 7 ≤ t → dF z.2.1 t k = 0) ∧
  (dF z.2.1 6 0 = 0) ∧
  (∀ i, i < pC z.1 → NaL (z.2.2.1 i)) ∧
  (∀ i, i < pM z.1 → NaL (z.2.2.2 i)) ∧
  (∀ c, c < pC z.1 → ∃ s, s ≤ 40 ∧ pF z.1 0 c = nI s ∧ paN z.2.1 (nI c) ≤ s)
theorem GzD.q (h : GzD z) : GdP z.1 := h.1
theorem GzD.told (h : GzD z) : pF z.1 9 0 = 1 := h.2.1
theorem GzD.mins (h : GzD z) : ∃ m, 1 ≤ m ∧ m ≤ 999 ∧ pF z.1 9 1 = nI m := h.2.2.1
theorem GzD.u0 (h : GzD z) : dU z.2.1 = 0 := h.2.2.2.1
theorem GzD.P4 (h : GzD z) : dP z.2.1 ≤ 40 := h.2.2.2.2.1
theorem GzD.pas (h : GzD z) : ∀ i, i < dP z.2.1 → (∃ c, c < pC z.1 ∧ dF z.2.1 0 i = nI c) ∧ (∃ m, m < 256 ∧ dF z.2.1 1 i = nI m) ∧ (dF z.2.1 2 i = -1 ∨ ∃ x, x < pM z.1 ∧ dF z.2.1 2 i = nI x) := h.2.2.2.2.2.1
theorem GzD.un (h : GzD z) : ∀ t k, 7 ≤ t → dF z.2.1 t k = 0 := h.2.2.2.2.2.2.1
theorem GzD.srv (h : GzD z) : dF z.2.1 6 0 = 0 := h.2.2.2.2.2.2.2.1
theorem GzD.nC (h : GzD z) : ∀ i, i < pC z.1 → NaL (z.2.2.1 i) := h.2.2.2.2.2.2.2.2.1
theorem GzD.nM (h : GzD z) : ∀ i, i < pM z.1 → NaL (z.2.2.2 i) := h.2.2.2.2.2.2.2.2.2.1
theorem GzD.room (h : GzD z) : ∀ c, c < pC z.1 → ∃ s, s ≤ 40 ∧ pF z.1 0 c = nI s ∧ paN z.2.1 (nI c) ≤ s := h.2.2.2.2.2.2.2.2.2.2
def seZ (z : PZ) (c nd wi : Int32) : PZ := (z.1, seatD z.2.1 c nd wi, z.2.2.1, z.2.2.2)
def sdZ (z : PZ) (c k : Nat) : PZ := (z.1, seatsD z.2.1 c k, z.2.2.1, z.2.2.2)
end PICK
