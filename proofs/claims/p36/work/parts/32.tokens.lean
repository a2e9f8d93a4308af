section TOKENS
variable {μ W : Wd} {B : Nat → Nat} {n : Nat}
/-- a byte of the text; the kind of a sign -/
def sby (b : Nat) : Int32 := (nI b).toInt8.toInt32
def kdN (b : Nat) : Nat := if 97 ≤ b ∧ b ≤ 122 then 1 else if 48 ≤ b ∧ b ≤ 57 then 2 else if b = 59 then 3 else 4
theorem kd_le (b : Nat) : kdN b ≤ 4 ∧ 1 ≤ kdN b := by
  unfold kdN
  split
  · omega
  · split
    · omega
    · split <;> omega
theorem sby_lo {b : Nat} (h : b < 128) : sby b = nI b := by
  have q : ∀ b, b < 128 → sby b = nI b := by decide +kernel
  exact q b h
theorem sby_eq : ∀ b, b < 256 → ∀ c, c < 128 → (sby b = nI c ↔ b = c) := by decide +kernel
theorem sby_dig : ∀ b, b < 256 → kdN b = 2 → sby b - 48 = nI (b - 48) ∧ b - 48 < 10 := by decide +kernel
/-- behind blanks; behind signs of one kind; the number of digits -/
def skW (B : Nat → Nat) : Nat → Nat → Nat
  | 0, p => p
  | d + 1, p => if B p = 32 then skW B d (p + 1) else if B p = 10 then skW B d (p + 1) else p
def rnW (B : Nat → Nat) (k : Nat) : Nat → Nat → Nat
  | 0, p => p
  | d + 1, p => if kdN (B p) = k then rnW B k d (p + 1) else p
def nuW (B : Nat → Nat) : Nat → Nat → Nat → Nat
  | 0, _, a => a
  | d + 1, p, a => nuW B d (p + 1) (a * 10 + (B p - 48))
theorem skW_ge (B : Nat → Nat) : ∀ d p, p ≤ skW B d p ∧ skW B d p ≤ p + d
  | 0, _ => ⟨Nat.le_refl _, Nat.le_refl _⟩
  | d + 1, p => by
    have h := skW_ge B d (p + 1)
    unfold skW
    split
    · omega
    · split <;> omega
theorem rnW_ge (B : Nat → Nat) (k : Nat) : ∀ d p, p ≤ rnW B k d p ∧ rnW B k d p ≤ p + d ∧ ∀ i, p ≤ i → i < rnW B k d p → kdN (B i) = k
  | 0, p => ⟨Nat.le_refl _, Nat.le_refl _, fun i h1 h2 => by have h2 : i < p := h2; omega⟩
  | d + 1, p => by
    have h := rnW_ge B k d (p + 1)
    unfold rnW
    split
    · next e => exact ⟨by omega, by omega, fun i h1 h2 => by
        by_cases z : i = p
        · subst z; exact e
        · exact h.2.2 i (by omega) h2⟩
    · exact ⟨Nat.le_refl _, by omega, fun i h1 h2 => by omega⟩
theorem nuW_lt (B : Nat → Nat) : ∀ d p a, (∀ i, p ≤ i → i < p + d → kdN (B i) = 2) → nuW B d p a < (a + 1) * 10 ^ d
  | 0, _, a, _ => by show a < (a + 1) * 10 ^ 0; omega
  | d + 1, p, a, h => by
    have ih := nuW_lt B d (p + 1) (a * 10 + (B p - 48)) fun i h1 h2 => h i (by omega) (by omega)
    have hb : B p - 48 ≤ 9 := by
      have e := h p (Nat.le_refl _) (by omega)
      unfold kdN at e
      split at e
      · omega
      · split at e
        · omega
        · split at e <;> omega
    unfold nuW
    refine Nat.lt_of_lt_of_le ih ?_
    rw [Nat.pow_succ]
    have : (a * 10 + (B p - 48) + 1) * 10 ^ d ≤ ((a + 1) * 10) * 10 ^ d := Nat.mul_le_mul (by omega) (Nat.le_refl _)
    rw [Nat.mul_comm (10 ^ d) 10, ← Nat.mul_assoc]
    exact this
/-- the token that comes at p: its start, its end, its kind, its number -/
def tkS (B : Nat → Nat) (n p : Nat) : Nat := skW B (n - p) p
def tkE (B : Nat → Nat) (n p : Nat) : Nat := if n ≤ tkS B n p then tkS B n p else if kdN (B (tkS B n p)) = 1 ∨ kdN (B (tkS B n p)) = 2 then rnW B (kdN (B (tkS B n p))) (n - (tkS B n p + 1)) (tkS B n p + 1) else tkS B n p + 1
def tkK (B : Nat → Nat) (n p : Nat) : Nat := if n ≤ tkS B n p then 0 else if kdN (B (tkS B n p)) = 2 ∧ 4 < tkE B n p - tkS B n p then 4 else kdN (B (tkS B n p))
def tkN (B : Nat → Nat) (n p : Nat) : Nat := nuW B (tkE B n p - tkS B n p) (tkS B n p) 0
/-- the text is there -/
def Tk (B : Nat → Nat) (n : Nat) (μ : Wd) : Prop := gR μ 80 0 = some 1 ∧ gI μ 80 1 = nI n ∧ n ≤ 900 ∧ ∀ k, k < n → B k < 256 ∧ gI μ 1 k = sby (B k)
/-- the token at p is at hand -/
def TkA (B : Nat → Nat) (n p : Nat) (μ : Wd) : Prop := gI μ 80 2 = nI (tkS B n p) ∧ gI μ 80 3 = nI (tkE B n p) ∧ gI μ 80 4 = nI (tkK B n p) ∧ (tkK B n p = 2 → gI μ 80 5 = nI (tkN B n p))
theorem tkS_le {p : Nat} (h : p ≤ n) : p ≤ tkS B n p ∧ tkS B n p ≤ n := by
  have := skW_ge B (n - p) p
  unfold tkS
  omega
theorem tkE_le {p : Nat} (h : p ≤ n) : tkS B n p ≤ tkE B n p ∧ tkE B n p ≤ n ∧ (tkS B n p < n → tkS B n p < tkE B n p) := by
  have h1 := tkS_le (B := B) h
  unfold tkE
  split
  · omega
  · split
    · have := rnW_ge B (kdN (B (tkS B n p))) (n - (tkS B n p + 1)) (tkS B n p + 1)
      omega
    · omega
abbrev s80 : Nat → Prop := fun i => i = 80

abbrev R_X9_kindOf : Room := { frames := 0, cells := 0, slots := 0, locals := 0 }
abbrev RX_X9_kindOf : Room := { frames := 0, cells := 1, slots := 6, locals := 0 }

theorem kq1 : ∀ b, b < 256 → ¬ sby b < 97 → ¬ 122 < sby b → (some (.int (1 : Int32)) : Option Value) = some (.int (nI (kdN b))) := by
  intro b hb h0 h1
  have q : ∀ b, b < 256 → ¬ sby b < 97 → ¬ 122 < sby b → (1 : Int32) = nI (kdN b) := by decide +kernel
  rw [← q b hb h0 h1]
theorem kq2 : ∀ b, b < 256 → sby b < 97 → ¬ sby b < 48 → ¬ 57 < sby b → (some (.int (2 : Int32)) : Option Value) = some (.int (nI (kdN b))) := by
  intro b hb h0 h1 h2
  have q : ∀ b, b < 256 → sby b < 97 → ¬ sby b < 48 → ¬ 57 < sby b → (2 : Int32) = nI (kdN b) := by decide +kernel
  rw [← q b hb h0 h1 h2]
theorem kq3 : ∀ b, b < 256 → ¬ sby b < 97 → 122 < sby b → ¬ sby b < 48 → ¬ 57 < sby b → (some (.int (2 : Int32)) : Option Value) = some (.int (nI (kdN b))) := by
  intro b hb h0 h1 h2 h3
  have q : ∀ b, b < 256 → ¬ sby b < 97 → 122 < sby b → ¬ sby b < 48 → ¬ 57 < sby b → (2 : Int32) = nI (kdN b) := by decide +kernel
  rw [← q b hb h0 h1 h2 h3]
theorem kq4 : ∀ b, b < 256 → sby b < 97 → sby b < 48 → sby b = 59 → (some (.int (3 : Int32)) : Option Value) = some (.int (nI (kdN b))) := by
  intro b hb h0 h1 h2
  have q : ∀ b, b < 256 → sby b < 97 → sby b < 48 → sby b = 59 → (3 : Int32) = nI (kdN b) := by decide +kernel
  rw [← q b hb h0 h1 h2]
theorem kq5 : ∀ b, b < 256 → ¬ sby b < 97 → 122 < sby b → sby b < 48 → sby b = 59 → (some (.int (3 : Int32)) : Option Value) = some (.int (nI (kdN b))) := by
  intro b hb h0 h1 h2 h3
  have q : ∀ b, b < 256 → ¬ sby b < 97 → 122 < sby b → sby b < 48 → sby b = 59 → (3 : Int32) = nI (kdN b) := by decide +kernel
  rw [← q b hb h0 h1 h2 h3]
theorem kq6 : ∀ b, b < 256 → sby b < 97 → ¬ sby b < 48 → 57 < sby b → sby b = 59 → (some (.int (3 : Int32)) : Option Value) = some (.int (nI (kdN b))) := by
  intro b hb h0 h1 h2 h3
  have q : ∀ b, b < 256 → sby b < 97 → ¬ sby b < 48 → 57 < sby b → sby b = 59 → (3 : Int32) = nI (kdN b) := by decide +kernel
  rw [← q b hb h0 h1 h2 h3]
theorem kq7 : ∀ b, b < 256 → ¬ sby b < 97 → 122 < sby b → ¬ sby b < 48 → 57 < sby b → sby b = 59 → (some (.int (3 : Int32)) : Option Value) = some (.int (nI (kdN b))) := by
  intro b hb h0 h1 h2 h3 h4
  have q : ∀ b, b < 256 → 122 < sby b → sby b = 59 → (3 : Int32) = nI (kdN b) := by decide +kernel
  rw [← q b hb h1 h4]
theorem kq8 : ∀ b, b < 256 → sby b < 97 → sby b < 48 → ¬ sby b = 59 → (some (.int (4 : Int32)) : Option Value) = some (.int (nI (kdN b))) := by
  intro b hb h0 h1 h2
  have q : ∀ b, b < 256 → sby b < 97 → sby b < 48 → ¬ sby b = 59 → (4 : Int32) = nI (kdN b) := by decide +kernel
  rw [← q b hb h0 h1 h2]
theorem kq9 : ∀ b, b < 256 → ¬ sby b < 97 → 122 < sby b → sby b < 48 → ¬ sby b = 59 → (some (.int (4 : Int32)) : Option Value) = some (.int (nI (kdN b))) := by
  intro b hb h0 h1 h2 h3
  have q : ∀ b, b < 256 → ¬ sby b < 97 → 122 < sby b → sby b < 48 → ¬ sby b = 59 → (4 : Int32) = nI (kdN b) := by decide +kernel
  rw [← q b hb h0 h1 h2 h3]
theorem kq10 : ∀ b, b < 256 → sby b < 97 → ¬ sby b < 48 → 57 < sby b → ¬ sby b = 59 → (some (.int (4 : Int32)) : Option Value) = some (.int (nI (kdN b))) := by
  intro b hb h0 h1 h2 h3
  have q : ∀ b, b < 256 → sby b < 97 → ¬ sby b < 48 → 57 < sby b → ¬ sby b = 59 → (4 : Int32) = nI (kdN b) := by decide +kernel
  rw [← q b hb h0 h1 h2 h3]
theorem kq11 : ∀ b, b < 256 → ¬ sby b < 97 → 122 < sby b → ¬ sby b < 48 → 57 < sby b → ¬ sby b = 59 → (some (.int (4 : Int32)) : Option Value) = some (.int (nI (kdN b))) := by
  intro b hb h0 h1 h2 h3 h4
  have q : ∀ b, b < 256 → 122 < sby b → ¬ sby b = 59 → (4 : Int32) = nI (kdN b) := by decide +kernel
  rw [← q b hb h1 h4]
theorem t_X9_kindOf {b : Nat} (hb : b < 256) : Ct Y_X9_kindOf R_X9_kindOf [.int (sby b)] μ (.inl (some (.int (nI (kdN b))))) μ := by
  refine Ct.ent yk_X9_kindOf (Nat.le_of_ble_eq_true rfl) ?_
  refine a_iload_n dX9_kindOf_0 rfl ?_
  refine a_bipush (97 : Int32) dX9_kindOf_1 (by decide) ?_
  refine a_icmp_lt (tgt := 14) dX9_kindOf_3 (by decide) (fun h3 => ?_) (fun h3 => ?_)
  · refine a_iload_n dX9_kindOf_14 rfl ?_
    refine a_bipush (48 : Int32) dX9_kindOf_15 (by decide) ?_
    refine a_icmp_lt (tgt := 28) dX9_kindOf_17 (by decide) (fun h17 => ?_) (fun h17 => ?_)
    · refine a_iload_n dX9_kindOf_28 rfl ?_
      refine a_bipush (59 : Int32) dX9_kindOf_29 (by decide) ?_
      refine a_icmp_ne (tgt := 38) dX9_kindOf_31 (by decide) (fun h31 => ?_) (fun h31 => ?_)
      · refine a_iconst (4 : Int32) dX9_kindOf_38 (by decide) ?_
        exact a_out (by first | exact congrArg Sum.inl (kq4 b hb h3 h17 h31) | exact congrArg Sum.inl (kq5 b hb h3 h9 h17 h31) | exact congrArg Sum.inl (kq6 b hb h3 h17 h23 h31) | exact congrArg Sum.inl (kq7 b hb h3 h9 h17 h23 h31) | exact congrArg Sum.inl (kq8 b hb h3 h17 h31) | exact congrArg Sum.inl (kq9 b hb h3 h9 h17 h31) | exact congrArg Sum.inl (kq10 b hb h3 h17 h23 h31) | exact congrArg Sum.inl (kq11 b hb h3 h9 h17 h23 h31)) rfl (a_ireturn dX9_kindOf_39 rfl rfl)
      · refine a_iconst (3 : Int32) dX9_kindOf_34 (by decide) ?_
        refine a_goto (tgt := 39) dX9_kindOf_35 (by decide) ?_
        exact a_out (by first | exact congrArg Sum.inl (kq4 b hb h3 h17 h31) | exact congrArg Sum.inl (kq5 b hb h3 h9 h17 h31) | exact congrArg Sum.inl (kq6 b hb h3 h17 h23 h31) | exact congrArg Sum.inl (kq7 b hb h3 h9 h17 h23 h31) | exact congrArg Sum.inl (kq8 b hb h3 h17 h31) | exact congrArg Sum.inl (kq9 b hb h3 h9 h17 h31) | exact congrArg Sum.inl (kq10 b hb h3 h17 h23 h31) | exact congrArg Sum.inl (kq11 b hb h3 h9 h17 h23 h31)) rfl (a_ireturn dX9_kindOf_39 rfl rfl)
    · refine a_iload_n dX9_kindOf_20 rfl ?_
      refine a_bipush (57 : Int32) dX9_kindOf_21 (by decide) ?_
      refine a_icmp_gt (tgt := 28) dX9_kindOf_23 (by decide) (fun h23 => ?_) (fun h23 => ?_)
      · refine a_iload_n dX9_kindOf_28 rfl ?_
        refine a_bipush (59 : Int32) dX9_kindOf_29 (by decide) ?_
        refine a_icmp_ne (tgt := 38) dX9_kindOf_31 (by decide) (fun h31 => ?_) (fun h31 => ?_)
        · refine a_iconst (4 : Int32) dX9_kindOf_38 (by decide) ?_
          exact a_out (by first | exact congrArg Sum.inl (kq4 b hb h3 h17 h31) | exact congrArg Sum.inl (kq5 b hb h3 h9 h17 h31) | exact congrArg Sum.inl (kq6 b hb h3 h17 h23 h31) | exact congrArg Sum.inl (kq7 b hb h3 h9 h17 h23 h31) | exact congrArg Sum.inl (kq8 b hb h3 h17 h31) | exact congrArg Sum.inl (kq9 b hb h3 h9 h17 h31) | exact congrArg Sum.inl (kq10 b hb h3 h17 h23 h31) | exact congrArg Sum.inl (kq11 b hb h3 h9 h17 h23 h31)) rfl (a_ireturn dX9_kindOf_39 rfl rfl)
        · refine a_iconst (3 : Int32) dX9_kindOf_34 (by decide) ?_
          refine a_goto (tgt := 39) dX9_kindOf_35 (by decide) ?_
          exact a_out (by first | exact congrArg Sum.inl (kq4 b hb h3 h17 h31) | exact congrArg Sum.inl (kq5 b hb h3 h9 h17 h31) | exact congrArg Sum.inl (kq6 b hb h3 h17 h23 h31) | exact congrArg Sum.inl (kq7 b hb h3 h9 h17 h23 h31) | exact congrArg Sum.inl (kq8 b hb h3 h17 h31) | exact congrArg Sum.inl (kq9 b hb h3 h9 h17 h31) | exact congrArg Sum.inl (kq10 b hb h3 h17 h23 h31) | exact congrArg Sum.inl (kq11 b hb h3 h9 h17 h23 h31)) rfl (a_ireturn dX9_kindOf_39 rfl rfl)
      · refine a_iconst (2 : Int32) dX9_kindOf_26 (by decide) ?_
        exact a_out (by first | exact congrArg Sum.inl (kq2 b hb h3 h17 h23) | exact congrArg Sum.inl (kq3 b hb h3 h9 h17 h23)) rfl (a_ireturn dX9_kindOf_27 rfl rfl)
  · refine a_iload_n dX9_kindOf_6 rfl ?_
    refine a_bipush (122 : Int32) dX9_kindOf_7 (by decide) ?_
    refine a_icmp_gt (tgt := 14) dX9_kindOf_9 (by decide) (fun h9 => ?_) (fun h9 => ?_)
    · refine a_iload_n dX9_kindOf_14 rfl ?_
      refine a_bipush (48 : Int32) dX9_kindOf_15 (by decide) ?_
      refine a_icmp_lt (tgt := 28) dX9_kindOf_17 (by decide) (fun h17 => ?_) (fun h17 => ?_)
      · refine a_iload_n dX9_kindOf_28 rfl ?_
        refine a_bipush (59 : Int32) dX9_kindOf_29 (by decide) ?_
        refine a_icmp_ne (tgt := 38) dX9_kindOf_31 (by decide) (fun h31 => ?_) (fun h31 => ?_)
        · refine a_iconst (4 : Int32) dX9_kindOf_38 (by decide) ?_
          exact a_out (by first | exact congrArg Sum.inl (kq4 b hb h3 h17 h31) | exact congrArg Sum.inl (kq5 b hb h3 h9 h17 h31) | exact congrArg Sum.inl (kq6 b hb h3 h17 h23 h31) | exact congrArg Sum.inl (kq7 b hb h3 h9 h17 h23 h31) | exact congrArg Sum.inl (kq8 b hb h3 h17 h31) | exact congrArg Sum.inl (kq9 b hb h3 h9 h17 h31) | exact congrArg Sum.inl (kq10 b hb h3 h17 h23 h31) | exact congrArg Sum.inl (kq11 b hb h3 h9 h17 h23 h31)) rfl (a_ireturn dX9_kindOf_39 rfl rfl)
        · refine a_iconst (3 : Int32) dX9_kindOf_34 (by decide) ?_
          refine a_goto (tgt := 39) dX9_kindOf_35 (by decide) ?_
          exact a_out (by first | exact congrArg Sum.inl (kq4 b hb h3 h17 h31) | exact congrArg Sum.inl (kq5 b hb h3 h9 h17 h31) | exact congrArg Sum.inl (kq6 b hb h3 h17 h23 h31) | exact congrArg Sum.inl (kq7 b hb h3 h9 h17 h23 h31) | exact congrArg Sum.inl (kq8 b hb h3 h17 h31) | exact congrArg Sum.inl (kq9 b hb h3 h9 h17 h31) | exact congrArg Sum.inl (kq10 b hb h3 h17 h23 h31) | exact congrArg Sum.inl (kq11 b hb h3 h9 h17 h23 h31)) rfl (a_ireturn dX9_kindOf_39 rfl rfl)
      · refine a_iload_n dX9_kindOf_20 rfl ?_
        refine a_bipush (57 : Int32) dX9_kindOf_21 (by decide) ?_
        refine a_icmp_gt (tgt := 28) dX9_kindOf_23 (by decide) (fun h23 => ?_) (fun h23 => ?_)
        · refine a_iload_n dX9_kindOf_28 rfl ?_
          refine a_bipush (59 : Int32) dX9_kindOf_29 (by decide) ?_
          refine a_icmp_ne (tgt := 38) dX9_kindOf_31 (by decide) (fun h31 => ?_) (fun h31 => ?_)
          · refine a_iconst (4 : Int32) dX9_kindOf_38 (by decide) ?_
            exact a_out (by first | exact congrArg Sum.inl (kq4 b hb h3 h17 h31) | exact congrArg Sum.inl (kq5 b hb h3 h9 h17 h31) | exact congrArg Sum.inl (kq6 b hb h3 h17 h23 h31) | exact congrArg Sum.inl (kq7 b hb h3 h9 h17 h23 h31) | exact congrArg Sum.inl (kq8 b hb h3 h17 h31) | exact congrArg Sum.inl (kq9 b hb h3 h9 h17 h31) | exact congrArg Sum.inl (kq10 b hb h3 h17 h23 h31) | exact congrArg Sum.inl (kq11 b hb h3 h9 h17 h23 h31)) rfl (a_ireturn dX9_kindOf_39 rfl rfl)
          · refine a_iconst (3 : Int32) dX9_kindOf_34 (by decide) ?_
            refine a_goto (tgt := 39) dX9_kindOf_35 (by decide) ?_
            exact a_out (by first | exact congrArg Sum.inl (kq4 b hb h3 h17 h31) | exact congrArg Sum.inl (kq5 b hb h3 h9 h17 h31) | exact congrArg Sum.inl (kq6 b hb h3 h17 h23 h31) | exact congrArg Sum.inl (kq7 b hb h3 h9 h17 h23 h31) | exact congrArg Sum.inl (kq8 b hb h3 h17 h31) | exact congrArg Sum.inl (kq9 b hb h3 h9 h17 h31) | exact congrArg Sum.inl (kq10 b hb h3 h17 h23 h31) | exact congrArg Sum.inl (kq11 b hb h3 h9 h17 h23 h31)) rfl (a_ireturn dX9_kindOf_39 rfl rfl)
        · refine a_iconst (2 : Int32) dX9_kindOf_26 (by decide) ?_
          exact a_out (by first | exact congrArg Sum.inl (kq2 b hb h3 h17 h23) | exact congrArg Sum.inl (kq3 b hb h3 h9 h17 h23)) rfl (a_ireturn dX9_kindOf_27 rfl rfl)
    · refine a_iconst (1 : Int32) dX9_kindOf_12 (by decide) ?_
      exact a_out (congrArg Sum.inl (kq1 b hb h3 h9)) rfl (a_ireturn dX9_kindOf_13 rfl rfl)
abbrev R_X9_readNumber : Room := { frames := 0, cells := 0, slots := 0, locals := 0 }
abbrev RX_X9_readNumber : Room := { frames := 0, cells := 1, slots := 6, locals := 0 }

theorem l_X9_readNumber_29 (hT : Tk B n μ) {s e : Nat} (he : gI μ 80 3 = nI e) (hen : e ≤ n) (hd : ∀ i, s ≤ i → i < e → kdN (B i) = 2) {Q : Oc → Wd → Prop} (kx : ∀ W : Wd, (Out s80 μ W ∧ gR W 80 0 = some 1 ∧ (∀ k, k ≠ 5 → gI W 80 k = gI μ 80 k) ∧ ∃ a, gI W 80 5 = nI a ∧ nuW B (e - e) e a = nuW B (e - s) s 0 ∧ s ≤ e) → WP Y_X9_readNumber R_X9_readNumber (0, 0) W 64 [(0, .ref 80), (1, .int (nI e))] [] Q) : ∀ dd m (W : Wd), m + dd = e → (Out s80 μ W ∧ gR W 80 0 = some 1 ∧ (∀ k, k ≠ 5 → gI W 80 k = gI μ 80 k) ∧ ∃ a, gI W 80 5 = nI a ∧ nuW B (e - m) m a = nuW B (e - s) s 0 ∧ s ≤ m) → WP Y_X9_readNumber R_X9_readNumber (0, 0) W 29 [(0, .ref 80), (1, .int (nI m))] [] Q := by
  have h900 := hT.2.2.1
  intro dd
  induction dd with
  | zero =>
    intro m W hm hI
    obtain rfl : e = m := by omega
    have hw := hI.1.1
    have htx := hI.2.1
    refine lf (a_iload_n dX9_readNumber_29 rfl) ?_
    refine lf (a_aload_n dX9_readNumber_30 rfl) ?_
    refine lf (a_getI dX9_readNumber_31 fs_X9_23 rfl (co_80 hw)) ?_
    rw [hI.2.2.1 3 (by decide), he]
    refine lf2 (a_icmp_ge (tgt := 64) dX9_readNumber_34 (by decide)) (fun h34 => ?_) (fun h34 => absurd h34 (fun z => z (nI_le (Nat.le_refl _) (by omega))))
    exact lf (a_loc _ rfl) (kx W hI)
  | succ dd ih =>
    intro m W hm hI
    have hw := hI.1.1
    have htx := hI.2.1
    obtain ⟨hO, htx, hk, a, ha, hnu, hsm⟩ := hI
    obtain ⟨hB, hb1⟩ := hT.2.2.2 m (by omega)
    obtain ⟨d1, d2⟩ := sby_dig (B m) hB (hd m hsm (by omega))
    refine lf (a_iload_n dX9_readNumber_29 rfl) ?_
    refine lf (a_aload_n dX9_readNumber_30 rfl) ?_
    refine lf (a_getI dX9_readNumber_31 fs_X9_23 rfl (co_80 (by repeat (first | with_reducible exact hw | with_reducible exact hwc | with_reducible assumption | with_reducible apply Wf.sI | with_reducible apply Wf.sL | with_reducible apply Wf.cpI | with_reducible apply Wf.cpL | with_reducible apply Wf.cp2 | with_reducible apply Wf.sIs | with_reducible apply Wf.sLs | with_reducible apply Wf.cpU | with_reducible apply Wf.fillI | with_reducible apply Wf.clU | with_reducible apply Wf.dnF | with_reducible apply Wf.gbW)))) ?_
    rw [hk 3 (by decide), he]
    refine lf2 (a_icmp_ge (tgt := 64) dX9_readNumber_34 (by decide)) (fun h34 => absurd h34 (nI_ge (by omega) (by omega))) (fun h34 => ?_)
    refine lf (a_aload_n dX9_readNumber_37 rfl) ?_
    refine lf (a_aload_n dX9_readNumber_38 rfl) ?_
    refine lf (a_getI dX9_readNumber_39 fs_X9_39 rfl (co_80 (by repeat (first | with_reducible exact hw | with_reducible exact hwc | with_reducible assumption | with_reducible apply Wf.sI | with_reducible apply Wf.sL | with_reducible apply Wf.cpI | with_reducible apply Wf.cpL | with_reducible apply Wf.cp2 | with_reducible apply Wf.sIs | with_reducible apply Wf.sLs | with_reducible apply Wf.cpU | with_reducible apply Wf.fillI | with_reducible apply Wf.clU | with_reducible apply Wf.dnF | with_reducible apply Wf.gbW)))) ?_
    rw [ha]
    refine lf (a_bipush (10 : Int32) dX9_readNumber_42 (by decide)) ?_
    refine lf (a_imul dX9_readNumber_44) ?_
    rw [show (10 : Int32) = nI 10 from rfl, pk_mul]
    refine lf (a_aload_n dX9_readNumber_45 rfl) ?_
    refine lf (a_getR htx dX9_readNumber_46 fs_X9_7 rfl (co_80 (by repeat (first | with_reducible exact hw | with_reducible exact hwc | with_reducible assumption | with_reducible apply Wf.sI | with_reducible apply Wf.sL | with_reducible apply Wf.cpI | with_reducible apply Wf.cpL | with_reducible apply Wf.cp2 | with_reducible apply Wf.sIs | with_reducible apply Wf.sLs | with_reducible apply Wf.cpU | with_reducible apply Wf.fillI | with_reducible apply Wf.clU | with_reducible apply Wf.dnF | with_reducible apply Wf.gbW)))) ?_
    refine lf (a_iload_n dX9_readNumber_49 rfl) ?_
    refine lf (a_bld dX9_readNumber_50 (ca_1 (by repeat (first | with_reducible exact hw | with_reducible exact hwc | with_reducible assumption | with_reducible apply Wf.sI | with_reducible apply Wf.sL | with_reducible apply Wf.cpI | with_reducible apply Wf.cpL | with_reducible apply Wf.cp2 | with_reducible apply Wf.sIs | with_reducible apply Wf.sLs | with_reducible apply Wf.cpU | with_reducible apply Wf.fillI | with_reducible apply Wf.clU | with_reducible apply Wf.dnF | with_reducible apply Wf.gbW))) (ixn (show m < 900 by omega) (by decide))) ?_
    rw [hO.i (by simp only [s80]; omega), hb1]
    refine lf (a_bipush (48 : Int32) dX9_readNumber_51 (by decide)) ?_
    refine lf (a_isub dX9_readNumber_53) ?_
    rw [d1]
    refine lf (a_iadd dX9_readNumber_54) ?_
    rw [nI_add]
    refine lf (a_putI dX9_readNumber_55 fs_X9_39 rfl rfl rfl (co_80 (by repeat (first | with_reducible exact hw | with_reducible exact hwc | with_reducible assumption | with_reducible apply Wf.sI | with_reducible apply Wf.sL | with_reducible apply Wf.cpI | with_reducible apply Wf.cpL | with_reducible apply Wf.cp2 | with_reducible apply Wf.sIs | with_reducible apply Wf.sLs | with_reducible apply Wf.cpU | with_reducible apply Wf.fillI | with_reducible apply Wf.clU | with_reducible apply Wf.dnF | with_reducible apply Wf.gbW)))) ?_
    refine lf (a_iincN dX9_readNumber_58 rfl (by decide)) ?_
    refine lf (a_goto (tgt := 29) dX9_readNumber_61 (by decide)) ?_
    refine lf (a_loc _ rfl) (ih (m + 1) _ (by omega) ⟨hO.sI (S := s80) rfl _ _, htx, fun k hk5 => by rw [gI_sI, if_neg (fun z => hk5 z.2)]; exact hk k hk5, a * 10 + (B m - 48), by rw [gI_sI, if_pos ⟨rfl, rfl⟩], ?_, by omega⟩)
    rw [← hnu, show e - m = (e - (m + 1)) + 1 by omega]
    rfl
theorem t_X9_readNumber (hw : Wf μ) (hT : Tk B n μ) {s e : Nat} (hs : gI μ 80 2 = nI s) (he : gI μ 80 3 = nI e) (hk : gI μ 80 4 = 2) (hse : s ≤ e) (hen : e ≤ n) (hd : ∀ i, s ≤ i → i < e → kdN (B i) = 2) : CV Y_X9_readNumber R_X9_readNumber [.ref 80] μ (fun v V => v = none ∧ Out s80 μ V ∧ gR V 80 0 = some 1 ∧ (∀ k, k < 4 → gI V 80 k = gI μ 80 k) ∧ gI V 80 4 = nI (if 4 < e - s then 4 else 2) ∧ (e - s ≤ 4 → gI V 80 5 = nI (nuW B (e - s) s 0))) := by
  refine CV.ent yk_X9_readNumber (Nat.le_of_ble_eq_true rfl) ?_
  have h900 := hT.2.2.1
  have htx := hT.1
  refine lf (a_aload_n dX9_readNumber_0 rfl) ?_
  refine lf (a_getI dX9_readNumber_1 fs_X9_23 rfl (co_80 (by repeat (first | with_reducible exact hw | with_reducible exact hwc | with_reducible assumption | with_reducible apply Wf.sI | with_reducible apply Wf.sL | with_reducible apply Wf.cpI | with_reducible apply Wf.cpL | with_reducible apply Wf.cp2 | with_reducible apply Wf.sIs | with_reducible apply Wf.sLs | with_reducible apply Wf.cpU | with_reducible apply Wf.fillI | with_reducible apply Wf.clU | with_reducible apply Wf.dnF | with_reducible apply Wf.gbW)))) ?_
  rw [he]
  refine lf (a_aload_n dX9_readNumber_4 rfl) ?_
  refine lf (a_getI dX9_readNumber_5 fs_X9_26 rfl (co_80 (by repeat (first | with_reducible exact hw | with_reducible exact hwc | with_reducible assumption | with_reducible apply Wf.sI | with_reducible apply Wf.sL | with_reducible apply Wf.cpI | with_reducible apply Wf.cpL | with_reducible apply Wf.cp2 | with_reducible apply Wf.sIs | with_reducible apply Wf.sLs | with_reducible apply Wf.cpU | with_reducible apply Wf.fillI | with_reducible apply Wf.clU | with_reducible apply Wf.dnF | with_reducible apply Wf.gbW)))) ?_
  rw [hs]
  refine lf (a_isub dX9_readNumber_8) ?_
  rw [pk_sub hse]
  refine lf (a_iconst (4 : Int32) dX9_readNumber_9 (by decide)) ?_
  refine lf2 (a_icmp_le (tgt := 19) dX9_readNumber_10 (by decide)) (fun h10 => ?_) (fun h10 => ?_)
  · have hlt : ¬ 4 < e - s := by
      have := (nI_leI (a := e - s) (b := 4) (by omega) (by decide)).mp h10
      omega
    refine lf (a_aload_n dX9_readNumber_19 rfl) ?_
    refine lf (a_iconst (0 : Int32) dX9_readNumber_20 (by decide)) ?_
    refine lf (a_putI dX9_readNumber_21 fs_X9_39 rfl rfl rfl (co_80 (by repeat (first | with_reducible exact hw | with_reducible exact hwc | with_reducible assumption | with_reducible apply Wf.sI | with_reducible apply Wf.sL | with_reducible apply Wf.cpI | with_reducible apply Wf.cpL | with_reducible apply Wf.cp2 | with_reducible apply Wf.sIs | with_reducible apply Wf.sLs | with_reducible apply Wf.cpU | with_reducible apply Wf.fillI | with_reducible apply Wf.clU | with_reducible apply Wf.dnF | with_reducible apply Wf.gbW)))) ?_
    refine lf (a_aload_n dX9_readNumber_24 rfl) ?_
    refine lf (a_getI dX9_readNumber_25 fs_X9_26 rfl (co_80 (by repeat (first | with_reducible exact hw | with_reducible exact hwc | with_reducible assumption | with_reducible apply Wf.sI | with_reducible apply Wf.sL | with_reducible apply Wf.cpI | with_reducible apply Wf.cpL | with_reducible apply Wf.cp2 | with_reducible apply Wf.sIs | with_reducible apply Wf.sLs | with_reducible apply Wf.cpU | with_reducible apply Wf.fillI | with_reducible apply Wf.clU | with_reducible apply Wf.dnF | with_reducible apply Wf.gbW)))) ?_
    rw [gI_sI, if_neg (by omega), hs]
    refine lf (a_istore_n dX9_readNumber_28 (by decide)) ?_
    refine lf (a_loc [(0, .ref 80), (1, .int (nI s))] rfl) (l_X9_readNumber_29 hT he hen hd (fun W hI => ⟨_, _, a_return dX9_readNumber_64 rfl, _, rfl, rfl, hI.1, hI.2.1, fun k hk => hI.2.2.1 k (by omega), ?_, fun _ => ?_⟩) (e - s) s _ (by omega) ⟨(Out.rfl' hw).sI (S := s80) rfl _ _, htx, fun k hk5 => by rw [gI_sI, if_neg (fun z => hk5 z.2)], 0, by rw [gI_sI, if_pos ⟨rfl, rfl⟩]; rfl, rfl, Nat.le_refl _⟩)
    · rw [hI.2.2.1 4 (by decide), hk, if_neg hlt]; rfl
    · obtain ⟨a, ha, hnu, _⟩ := hI.2.2.2
      rw [ha, ← hnu, Nat.sub_self]; rfl
  · have hlt : 4 < e - s := by
      have : ¬ e - s ≤ 4 := fun z => h10 ((nI_leI (a := e - s) (b := 4) (by omega) (by decide)).mpr z)
      omega
    refine lf (a_aload_n dX9_readNumber_13 rfl) ?_
    refine lf (a_iconst (4 : Int32) dX9_readNumber_14 (by decide)) ?_
    refine lf (a_putI dX9_readNumber_15 fs_X9_29 rfl rfl rfl (co_80 (by repeat (first | with_reducible exact hw | with_reducible exact hwc | with_reducible assumption | with_reducible apply Wf.sI | with_reducible apply Wf.sL | with_reducible apply Wf.cpI | with_reducible apply Wf.cpL | with_reducible apply Wf.cp2 | with_reducible apply Wf.sIs | with_reducible apply Wf.sLs | with_reducible apply Wf.cpU | with_reducible apply Wf.fillI | with_reducible apply Wf.clU | with_reducible apply Wf.dnF | with_reducible apply Wf.gbW)))) ?_
    refine ⟨_, _, (a_return dX9_readNumber_18 rfl), ?_⟩
    exact ⟨_, rfl, rfl, (Out.rfl' hw).sI (S := s80) rfl _ _, htx, fun k hk => by rw [gI_sI, if_neg (by omega)], by rw [gI_sI, if_pos ⟨rfl, rfl⟩, if_pos hlt]; rfl, fun z => by omega⟩
end TOKENS
