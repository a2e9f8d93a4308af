section MTOK
variable {μ W V : Wd} {B : Nat → Nat} {n p x : Nat}
theorem lgc_eq {a b : Int64} : lg_cmp a b = 0 ↔ a = b := by
  unfold lg_cmp
  by_cases h1 : a > b
  · rw [if_pos h1]
    exact ⟨fun z => absurd z (by decide), fun z => by rw [z] at h1; exact absurd h1 (Int64.lt_irrefl)⟩
  · rw [if_neg h1]
    by_cases h2 : a = b
    · rw [if_pos h2]; exact ⟨fun _ => h2, fun _ => rfl⟩
    · rw [if_neg h2]; exact ⟨fun z => absurd z (by decide), fun z => absurd z h2⟩
theorem lN_bit (a : Nat) : (lN a).toBitVec.toNat = a % 2 ^ 64 := BitVec.toNat_ofNat a 64
theorem lN_inj {a b : Nat} (ha : a < 2 ^ 63) (hb : b < 2 ^ 63) : lN a = lN b ↔ a = b := by
  refine ⟨fun h => ?_, fun h => by rw [h]⟩
  have := congrArg (fun x : Int64 => x.toBitVec.toNat) h
  have h2 : (lN a).toBitVec.toNat = (lN b).toBitVec.toNat := this
  rw [lN_bit, lN_bit] at h2
  omega
def bA (B : Nat → Nat) (n k : Nat) : Int32 := if k < n then nI (B k) else -1
/-- letters as a number, the last one first -/
def wvR : List Nat → Nat
  | [] => 0
  | c :: t => (c - 96) + 32 * wvR t
def wvN (l : List Nat) : Nat := wvR l.reverse
def LtL (l : List Nat) : Prop := ∀ c, c ∈ l → 97 ≤ c ∧ c ≤ 122
theorem wvR_inj : ∀ {l t : List Nat}, LtL l → LtL t → wvR l = wvR t → l = t := by
  intro l
  induction l with
  | nil =>
    intro t _ ht h
    cases t with
    | nil => rfl
    | cons c t =>
      have := ht c (List.mem_cons_self)
      have h : 0 = (c - 96) + 32 * wvR t := h
      omega
  | cons a l ih =>
    intro t hl ht h
    have ha := hl a (List.mem_cons_self)
    cases t with
    | nil =>
      have h : (a - 96) + 32 * wvR l = 0 := h
      omega
    | cons c t =>
      have hc := ht c (List.mem_cons_self)
      have h : (a - 96) + 32 * wvR l = (c - 96) + 32 * wvR t := h
      have e1 : a = c := by omega
      have e2 : wvR l = wvR t := by omega
      rw [e1, ih (fun x hx => hl x (List.mem_cons_of_mem _ hx)) (fun x hx => ht x (List.mem_cons_of_mem _ hx)) e2]
theorem wvR_lt : ∀ {l : List Nat}, LtL l → wvR l < 32 ^ l.length := by
  intro l
  induction l with
  | nil => intro _; exact Nat.lt_of_lt_of_le Nat.zero_lt_one (Nat.le_refl 1)
  | cons a l ih =>
    intro h
    have h1 := ih (fun x hx => h x (List.mem_cons_of_mem _ hx))
    have h2 := h a (List.mem_cons_self)
    have e : 32 ^ (a :: l).length = 32 ^ l.length * 32 := by rw [List.length_cons, Nat.pow_succ]
    rw [e]
    show (a - 96) + 32 * wvR l < _
    omega
theorem LtL.rev {l : List Nat} (h : LtL l) : LtL l.reverse := fun c hc => h c (List.mem_reverse.mp hc)
theorem wvN_inj {l t : List Nat} (h1 : LtL l) (h2 : LtL t) (h : wvN l = wvN t) : l = t := by
  have := wvR_inj h1.rev h2.rev h
  exact List.reverse_inj.mp this
theorem wvN_lt {l : List Nat} (h : LtL l) (h8 : l.length ≤ 8) : wvN l < 2 ^ 40 := by
  have h1 := wvR_lt h.rev
  rw [List.length_reverse] at h1
  have h2 : 32 ^ l.length ≤ 32 ^ 8 := Nat.pow_le_pow_right (by decide) h8
  have h3 : (32 : Nat) ^ 8 = 2 ^ 40 := by decide
  unfold wvN
  omega
theorem wvN_pos {l : List Nat} (h : LtL l) (h0 : l ≠ []) : 0 < wvN l := by
  unfold wvN
  have hr := h.rev
  have h1 : l.reverse ≠ [] := fun z => h0 (List.reverse_eq_nil_iff.mp z)
  cases e : l.reverse with
  | nil => exact absurd e h1
  | cons a t =>
    rw [e] at hr
    have := hr a (List.mem_cons_self)
    show 0 < (a - 96) + 32 * wvR t
    omega
def wvF (B : Nat → Nat) (s : Nat) : Nat → Nat
  | 0 => 0
  | j + 1 => 32 * wvF B s j + (B (s + j) - 96)
theorem wvF_eq (B : Nat → Nat) (s : Nat) : ∀ j, wvF B s j = wvN ((List.range j).map fun i => B (s + i))
  | 0 => rfl
  | j + 1 => by
    unfold wvF
    rw [wvF_eq B s j]
    unfold wvN
    rw [List.range_succ, List.map_append, List.reverse_append]
    show _ = (B (s + j) - 96) + 32 * wvR (((List.range j).map fun i => B (s + i)).reverse)
    omega
theorem skW_stop (B : Nat → Nat) : ∀ d p, skW B d p = p + d ∨ (B (skW B d p) ≠ 32 ∧ B (skW B d p) ≠ 10)
  | 0, p => Or.inl rfl
  | d + 1, p => by
    unfold skW
    by_cases h1 : B p = 32
    · rw [if_pos h1]
      rcases skW_stop B d (p + 1) with h | h
      · exact Or.inl (by omega)
      · exact Or.inr h
    · rw [if_neg h1]
      by_cases h2 : B p = 10
      · rw [if_pos h2]
        rcases skW_stop B d (p + 1) with h | h
        · exact Or.inl (by omega)
        · exact Or.inr h
      · rw [if_neg h2]; exact Or.inr ⟨h1, h2⟩
theorem tkS_idem {p : Nat} (hp : p ≤ n) : tkS B n (tkS B n p) = tkS B n p := by
  have h1 := (tkS_le (B := B) hp)
  have h2 := skW_stop B (n - p) p
  have e : tkS B n p = skW B (n - p) p := rfl
  rw [← e] at h2
  generalize tkS B n p = s at h1 h2 ⊢
  by_cases hs : s = n
  · show skW B (n - s) s = s
    rw [hs, Nat.sub_self]; rfl
  · obtain ⟨d, hd⟩ : ∃ d, n - s = d + 1 := ⟨n - s - 1, by omega⟩
    have h3 := h2.resolve_left (by omega)
    show skW B (n - s) s = s
    rw [hd]
    unfold skW
    rw [if_neg h3.1, if_neg h3.2]
theorem tk_cg {x p : Nat} (h : tkS B n x = tkS B n p) : tkE B n x = tkE B n p ∧ tkK B n x = tkK B n p ∧ tkL B n x = tkL B n p ∧ tkN B n x = tkN B n p := by
  have e : tkE B n x = tkE B n p := by unfold tkE; rw [h]
  exact ⟨e, by unfold tkK; rw [e, h], by unfold tkL; rw [e, h], by unfold tkN; rw [e, h]⟩
theorem tkK1 : tkK B n p = 1 ↔ tkS B n p < n ∧ kdN (B (tkS B n p)) = 1 := by
  unfold tkK
  by_cases h1 : n ≤ tkS B n p
  · rw [if_pos h1]; exact ⟨fun z => absurd z (by decide), fun z => by omega⟩
  · rw [if_neg h1]
    by_cases h2 : kdN (B (tkS B n p)) = 2 ∧ 4 < tkE B n p - tkS B n p
    · rw [if_pos h2]; exact ⟨fun z => absurd z (by decide), fun z => by omega⟩
    · rw [if_neg h2]; exact ⟨fun z => ⟨by omega, z⟩, fun z => z.2⟩
theorem tkK2 : tkK B n p = 2 ↔ tkS B n p < n ∧ kdN (B (tkS B n p)) = 2 ∧ tkE B n p - tkS B n p ≤ 4 := by
  unfold tkK
  by_cases h1 : n ≤ tkS B n p
  · rw [if_pos h1]; exact ⟨fun z => absurd z (by decide), fun z => by omega⟩
  · rw [if_neg h1]
    by_cases h2 : kdN (B (tkS B n p)) = 2 ∧ 4 < tkE B n p - tkS B n p
    · rw [if_pos h2]; exact ⟨fun z => absurd z (by decide), fun z => by omega⟩
    · rw [if_neg h2]
      exact ⟨fun z => ⟨by omega, z, by omega⟩, fun z => z.2.1⟩
theorem tkK3 (hB : ∀ k, k < n → B k < 256) : tkK B n p = 3 ↔ tkS B n p < n ∧ B (tkS B n p) = 59 := by
  unfold tkK
  by_cases h1 : n ≤ tkS B n p
  · rw [if_pos h1]; exact ⟨fun z => absurd z (by decide), fun z => by omega⟩
  · rw [if_neg h1]
    have hk : kdN (B (tkS B n p)) = 3 ↔ B (tkS B n p) = 59 := by
      unfold kdN
      split
      · exact ⟨fun z => absurd z (by decide), fun z => by omega⟩
      · split
        · exact ⟨fun z => absurd z (by decide), fun z => by omega⟩
        · split
          · rename_i h; exact ⟨fun _ => h, fun _ => rfl⟩
          · rename_i h; exact ⟨fun z => absurd z (by decide), fun z => absurd z h⟩
    by_cases h2 : kdN (B (tkS B n p)) = 2 ∧ 4 < tkE B n p - tkS B n p
    · rw [if_pos h2]; exact ⟨fun z => absurd z (by decide), fun z => by have := hk.mpr z.2; omega⟩
    · rw [if_neg h2]; exact ⟨fun z => ⟨by omega, hk.mp z⟩, fun z => hk.mpr z.2⟩
def pkE (B : Nat → Nat) (n p : Nat) : Nat := if tkS B n p < n then tkE B n p else n + 1
/-- the text; where it is read -/
def TxV (B : Nat → Nat) (n p : Nat) (μ : Wd) : Prop := n ≤ 900 ∧ p ≤ n ∧ gI μ 338 19 = nI n ∧ (∀ k, k < n → B k < 256 ∧ gI μ 352 k = nI (B k)) ∧ ∃ x, gI μ 338 18 = nI x ∧ x ≤ n ∧ tkS B n x = tkS B n p
def HdV (B : Nat → Nat) (n p : Nat) (V : Wd) : Prop := gI V 338 18 = nI (tkS B n p) ∧ gI V 338 20 = nI (tkS B n p) ∧ gI V 338 21 = nI (pkE B n p)
abbrev s38 : Nat → Prop := fun i => i = 338
def PkF (μ V : Wd) : Prop := Out s38 μ V ∧ (∀ k, k ≠ 18 → k ≠ 20 → k ≠ 21 → gI V 338 k = gI μ 338 k) ∧ ∀ k, gL V 338 k = gL μ 338 k
theorem PkF.rfl' (hw : Wf μ) : PkF μ μ := ⟨Out.rfl' hw, fun _ _ _ _ => rfl, fun _ => rfl⟩
theorem PkF.trans (a : PkF μ W) (b : PkF W V) : PkF μ V := ⟨a.1.trans b.1, fun k h1 h2 h3 => (b.2.1 k h1 h2 h3).trans (a.2.1 k h1 h2 h3), fun k => (b.2.2 k).trans (a.2.2 k)⟩
theorem PkF.set (a : PkF μ W) {k : Nat} (hk : k = 18 ∨ k = 20 ∨ k = 21) (v : Int32) : PkF μ (sI W 338 k v) := ⟨a.1.sI (S := s38) rfl _ _, fun j h1 h2 h3 => by rw [gI_sI, if_neg (by omega)]; exact a.2.1 j h1 h2 h3, fun j => a.2.2 j⟩
theorem PkF.tx {p2 : Nat} (a : PkF μ V) (h : TxV B n p μ) (hp : p2 ≤ n) {x : Nat} (hx : gI V 338 18 = nI x) (hxn : x ≤ n) (he : tkS B n x = tkS B n p2) : TxV B n p2 V :=
  ⟨h.1, hp, (a.2.1 19 (by decide) (by decide) (by decide)).trans h.2.2.1, fun k hk => ⟨(h.2.2.2.1 k hk).1, (a.1.i (by decide) k).trans (h.2.2.2.1 k hk).2⟩, x, hx, hxn, he⟩
theorem TxV.b256 (h : TxV B n p μ) {k : Nat} (hk : k < n) : B k < 256 := (h.2.2.2.1 k hk).1
theorem HdV.tx (a : PkF μ V) (h : TxV B n p μ) (hh : HdV B n p V) : TxV B n p V := a.tx h h.2.1 hh.1 (tkS_le h.2.1).2 (tkS_idem h.2.1)
theorem is_let : ∀ b, b < 256 → inI (nI b) 97 122 = if kdN b = 1 then 1 else 0 := by decide +kernel
theorem is_dig : ∀ b, b < 256 → inI (nI b) 48 57 = if kdN b = 2 then 1 else 0 := by decide +kernel
theorem bA_let (hB : ∀ k, k < n → B k < 256) (k : Nat) : inI (bA B n k) 97 122 = if k < n ∧ kdN (B k) = 1 then 1 else 0 := by
  unfold bA
  by_cases h : k < n
  · rw [if_pos h, is_let _ (hB k h)]
    by_cases h2 : kdN (B k) = 1
    · rw [if_pos h2, if_pos ⟨h, h2⟩]
    · rw [if_neg h2, if_neg (fun z => h2 z.2)]
  · rw [if_neg h, if_neg (fun z => h z.1)]; decide
theorem bA_dig (hB : ∀ k, k < n → B k < 256) (k : Nat) : inI (bA B n k) 48 57 = if k < n ∧ kdN (B k) = 2 then 1 else 0 := by
  unfold bA
  by_cases h : k < n
  · rw [if_pos h, is_dig _ (hB k h)]
    by_cases h2 : kdN (B k) = 2
    · rw [if_pos h2, if_pos ⟨h, h2⟩]
    · rw [if_neg h2, if_neg (fun z => h2 z.2)]
  · rw [if_neg h, if_neg (fun z => h z.1)]; decide
theorem bA_is {k c : Nat} (hB : ∀ k, k < n → B k < 256) (hc : c < 256) : bA B n k = nI c ↔ k < n ∧ B k = c := by
  unfold bA
  by_cases h : k < n
  · have := hB k h
    rw [if_pos h, nI_eqI (by omega) (by omega)]
    exact ⟨fun z => ⟨h, z⟩, fun z => z.2⟩
  · rw [if_neg h]
    exact ⟨fun z => absurd z.symm (nI_ne1 (by omega)), fun z => absurd z.1 h⟩
abbrev R_X11_byteAt : Room := { frames := 0, cells := 0, slots := 0, locals := 0 }
abbrev RX_X11_byteAt : Room := { frames := 0, cells := 1, slots := 6, locals := 0 }

theorem m_byteAt (hw : Wf μ) (hn : n ≤ 900) (e19 : gI μ 338 19 = nI n) (hb : ∀ k, k < n → B k < 256 ∧ gI μ 352 k = nI (B k)) {k : Nat} (hk : k < 2 ^ 30) : Ct Y_X11_byteAt R_X11_byteAt [.ref 338, .int (nI k)] μ (.inl (some (.int (bA B n k)))) μ := by
  refine Ct.ent yk_X11_byteAt (Nat.le_of_ble_eq_true rfl) ?_
  unfold bA
  by_cases hl : k < n
  · rw [if_pos hl]
    refine a_iload_n dX11_byteAt_0 rfl ?_
    refine a_aload_n dX11_byteAt_1 rfl ?_
    refine a_getI dX11_byteAt_2 fs_X11_127 rfl (co_338 hw) ?_
    rw [e19]
    refine a_icmp_ge (tgt := 17) dX11_byteAt_5 (by decide) (fun h5 => absurd h5 (nI_ge hl (by omega))) (fun h5 => ?_)
    refine a_aload_n dX11_byteAt_8 rfl ?_
    refine a_getR (cr_338_16 hw) dX11_byteAt_9 fs_X11_51 rfl (co_338 hw) ?_
    refine a_iload_n dX11_byteAt_12 rfl ?_
    refine a_ild dX11_byteAt_13 (ca_352 hw) (ixn (show k < 900 by omega) (by decide)) ?_
    rw [(hb k hl).2]
    refine a_goto (tgt := 18) dX11_byteAt_14 (by decide) ?_
    exact a_out rfl rfl (a_ireturn dX11_byteAt_18 rfl rfl)
  · rw [if_neg hl]
    refine a_iload_n dX11_byteAt_0 rfl ?_
    refine a_aload_n dX11_byteAt_1 rfl ?_
    refine a_getI dX11_byteAt_2 fs_X11_127 rfl (co_338 hw) ?_
    rw [e19]
    refine a_icmp_ge (tgt := 17) dX11_byteAt_5 (by decide) (fun h5 => ?_) (fun h5 => absurd h5 (fun z => z (nI_le (by omega) (by omega))))
    refine a_iconst (-1 : Int32) dX11_byteAt_17 (by decide) ?_
    exact a_out rfl rfl (a_ireturn dX11_byteAt_18 rfl rfl)
abbrev R_X11_isLetter : Room := { frames := 1, cells := 0, slots := 0, locals := 22 }
abbrev RX_X11_isLetter : Room := { frames := 1, cells := 1, slots := 6, locals := 22 }

theorem m_isLetter (v : Int32) : Ct Y_X11_isLetter R_X11_isLetter [.int v] μ (.inl (some (.int (inI v 97 122)))) μ := by
  refine Ct.ent yk_X11_isLetter (Nat.le_of_ble_eq_true rfl) ?_
  refine a_iload_n dX11_isLetter_0 rfl ?_
  refine a_bipush (97 : Int32) dX11_isLetter_1 (by decide) ?_
  refine a_bipush (122 : Int32) dX11_isLetter_3 (by decide) ?_
  refine a_invS (b2 := (0, 0)) (m_in v 97 122) rfl dX11_isLetter_5 yk_X11_in sm_X11_in ml_X11_102 rfl (by decide) (by decide) (Nat.le_of_ble_eq_true rfl) ?_
  exact a_out rfl rfl (a_ireturn dX11_isLetter_8 rfl (by unfold inI; split <;> first | rfl | (split <;> rfl)))
abbrev R_X11_isDigit : Room := { frames := 1, cells := 0, slots := 0, locals := 22 }
abbrev RX_X11_isDigit : Room := { frames := 1, cells := 1, slots := 6, locals := 22 }

theorem m_isDigit (v : Int32) : Ct Y_X11_isDigit R_X11_isDigit [.int v] μ (.inl (some (.int (inI v 48 57)))) μ := by
  refine Ct.ent yk_X11_isDigit (Nat.le_of_ble_eq_true rfl) ?_
  refine a_iload_n dX11_isDigit_0 rfl ?_
  refine a_bipush (48 : Int32) dX11_isDigit_1 (by decide) ?_
  refine a_bipush (57 : Int32) dX11_isDigit_3 (by decide) ?_
  refine a_invS (b2 := (0, 0)) (m_in v 48 57) rfl dX11_isDigit_5 yk_X11_in sm_X11_in ml_X11_102 rfl (by decide) (by decide) (Nat.le_of_ble_eq_true rfl) ?_
  exact a_out rfl rfl (a_ireturn dX11_isDigit_8 rfl (by unfold inI; split <;> first | rfl | (split <;> rfl)))
abbrev R_X11_passes : Room := { frames := 0, cells := 0, slots := 0, locals := 0 }
abbrev RX_X11_passes : Room := { frames := 0, cells := 1, slots := 6, locals := 0 }

theorem m_passes (hw : Wf μ) : Ct Y_X11_passes R_X11_passes [.ref 338] μ (.inl (some (.int 1))) (sI μ 338 18 (gI μ 338 21)) := by
  refine Ct.ent yk_X11_passes (Nat.le_of_ble_eq_true rfl) ?_
  refine a_aload_n dX11_passes_0 rfl ?_
  refine a_aload_n dX11_passes_1 rfl ?_
  refine a_getI dX11_passes_2 fs_X11_139 rfl (co_338 (by repeat (first | with_reducible exact hw | with_reducible exact hwc | with_reducible assumption | with_reducible apply Wf.sI | with_reducible apply Wf.sL | with_reducible apply Wf.cpI | with_reducible apply Wf.cpL | with_reducible apply Wf.cp2 | with_reducible apply Wf.sIs | with_reducible apply Wf.sLs | with_reducible apply Wf.cpU | with_reducible apply Wf.fillI | with_reducible apply Wf.clU | with_reducible apply Wf.dnF | with_reducible apply Wf.gbW))) ?_
  refine a_putI dX11_passes_5 fs_X11_130 rfl rfl rfl (co_338 (by repeat (first | with_reducible exact hw | with_reducible exact hwc | with_reducible assumption | with_reducible apply Wf.sI | with_reducible apply Wf.sL | with_reducible apply Wf.cpI | with_reducible apply Wf.cpL | with_reducible apply Wf.cp2 | with_reducible apply Wf.sIs | with_reducible apply Wf.sLs | with_reducible apply Wf.cpU | with_reducible apply Wf.fillI | with_reducible apply Wf.clU | with_reducible apply Wf.dnF | with_reducible apply Wf.gbW))) ?_
  refine a_iconst (1 : Int32) dX11_passes_8 (by decide) ?_
  exact a_out rfl rfl (a_ireturn dX11_passes_9 rfl rfl)
abbrev R_X11_fails : Room := { frames := 0, cells := 0, slots := 0, locals := 0 }
abbrev RX_X11_fails : Room := { frames := 0, cells := 1, slots := 6, locals := 0 }

theorem m_fails (hw : Wf μ) (c : Int32) : Ct Y_X11_fails R_X11_fails [.ref 338, .int c] μ (.inl (some (.int 0))) (sI (sI μ 338 23 c) 338 24 (gI μ 338 20)) := by
  refine Ct.ent yk_X11_fails (Nat.le_of_ble_eq_true rfl) ?_
  refine a_aload_n dX11_fails_0 rfl ?_
  refine a_iload_n dX11_fails_1 rfl ?_
  refine a_putI dX11_fails_2 fs_X11_121 rfl rfl rfl (co_338 (by repeat (first | with_reducible exact hw | with_reducible exact hwc | with_reducible assumption | with_reducible apply Wf.sI | with_reducible apply Wf.sL | with_reducible apply Wf.cpI | with_reducible apply Wf.cpL | with_reducible apply Wf.cp2 | with_reducible apply Wf.sIs | with_reducible apply Wf.sLs | with_reducible apply Wf.cpU | with_reducible apply Wf.fillI | with_reducible apply Wf.clU | with_reducible apply Wf.dnF | with_reducible apply Wf.gbW))) ?_
  refine a_aload_n dX11_fails_5 rfl ?_
  refine a_aload_n dX11_fails_6 rfl ?_
  refine a_getI dX11_fails_7 fs_X11_136 rfl (co_338 (by repeat (first | with_reducible exact hw | with_reducible exact hwc | with_reducible assumption | with_reducible apply Wf.sI | with_reducible apply Wf.sL | with_reducible apply Wf.cpI | with_reducible apply Wf.cpL | with_reducible apply Wf.cp2 | with_reducible apply Wf.sIs | with_reducible apply Wf.sLs | with_reducible apply Wf.cpU | with_reducible apply Wf.fillI | with_reducible apply Wf.clU | with_reducible apply Wf.dnF | with_reducible apply Wf.gbW))) ?_
  rw [gI_sI, if_neg (by omega)]
  refine a_putI dX11_fails_10 fs_X11_54 rfl rfl rfl (co_338 (by repeat (first | with_reducible exact hw | with_reducible exact hwc | with_reducible assumption | with_reducible apply Wf.sI | with_reducible apply Wf.sL | with_reducible apply Wf.cpI | with_reducible apply Wf.cpL | with_reducible apply Wf.cp2 | with_reducible apply Wf.sIs | with_reducible apply Wf.sLs | with_reducible apply Wf.cpU | with_reducible apply Wf.fillI | with_reducible apply Wf.clU | with_reducible apply Wf.dnF | with_reducible apply Wf.gbW))) ?_
  refine a_iconst (0 : Int32) dX11_fails_13 (by decide) ?_
  exact a_out rfl rfl (a_ireturn dX11_fails_14 rfl rfl)
abbrev R_X11_letters : Room := { frames := 0, cells := 0, slots := 0, locals := 0 }
abbrev RX_X11_letters : Room := { frames := 0, cells := 1, slots := 6, locals := 0 }

theorem m_letters (hw : Wf μ) {a b : Nat} (ha : gI μ 338 20 = nI a) (hb : gI μ 338 21 = nI b) (hab : a ≤ b) : Ct Y_X11_letters R_X11_letters [.ref 338] μ (.inl (some (.int (nI (b - a))))) μ := by
  refine Ct.ent yk_X11_letters (Nat.le_of_ble_eq_true rfl) ?_
  refine a_aload_n dX11_letters_0 rfl ?_
  refine a_getI dX11_letters_1 fs_X11_139 rfl (co_338 hw) ?_
  rw [hb]
  refine a_aload_n dX11_letters_4 rfl ?_
  refine a_getI dX11_letters_5 fs_X11_136 rfl (co_338 hw) ?_
  rw [ha]
  refine a_isub dX11_letters_8 ?_
  rw [nI_subI hab]
  exact a_out rfl rfl (a_ireturn dX11_letters_9 rfl rfl)
abbrev R_X11_peek : Room := { frames := 2, cells := 0, slots := 0, locals := 42 }
abbrev RX_X11_peek : Room := { frames := 2, cells := 1, slots := 6, locals := 42 }

theorem pk_1 (hT : TxV B n p μ) {s : Nat} {Q : Oc → Wd → Prop} (kx : ∀ W : Wd, PkF μ W → gI W 338 18 = nI s → s ≤ n → WP Y_X11_peek R_X11_peek (0, 0) W 39 [(0, .ref 338)] [] Q) : ∀ (dd m : Nat) (W : Wd), m + dd = n → PkF μ W → gI W 338 18 = nI m → skW B (n - m) m = s → WP Y_X11_peek R_X11_peek (0, 0) W 0 [(0, .ref 338)] [] Q := by
  intro dd
  induction dd with
  | zero =>
    intro m W hm hF e18 hs
    obtain rfl : n = m := by omega
    rw [Nat.sub_self] at hs
    obtain rfl : n = s := hs
    have hT1 := hT.1
    have hw := hF.1.1
    have e19 : gI W 338 19 = nI n := (hF.2.1 19 (by decide) (by decide) (by decide)).trans hT.2.2.1
    have e52 : ∀ k, k < n → B k < 256 ∧ gI W 352 k = nI (B k) := fun k hk => ⟨(hT.2.2.2.1 k hk).1, (hF.1.i (by decide) k).trans (hT.2.2.2.1 k hk).2⟩
    have hB : ∀ k, k < n → B k < 256 := fun k hk => hT.b256 hk
    have hn1 : ∀ c, c < 256 → ¬ bA B n n = nI c := fun c hc z => absurd ((bA_is hB hc).mp z).1 (Nat.lt_irrefl n)
    refine lf (a_aload_n dX11_peek_0 rfl) ?_
    refine lf (a_aload_n dX11_peek_1 rfl) ?_
    refine lf (a_getI dX11_peek_2 fs_X11_130 rfl (co_338 hw)) ?_
    rw [e18]
    refine lf (a_inv (b2 := (0, 0)) (m_byteAt hw hT.1 e19 e52 (k := n) (by have := hT.1; omega)) rfl dX11_peek_5 yk_X11_byteAt im_X11_byteAt se_X11_byteAt ml_X11_133 rfl (co_338 hw) (by decide) hc_X11 (by decide) (by decide) (Nat.le_of_ble_eq_true rfl)) ?_
    refine lf (a_bipush (32 : Int32) dX11_peek_8 (by decide)) ?_
    refine lf2 (a_icmp_eq (tgt := 26) dX11_peek_10 (by decide)) (fun h10 => absurd h10 (hn1 32 (by decide))) (fun h10 => ?_)
    refine lf (a_aload_n dX11_peek_13 rfl) ?_
    refine lf (a_aload_n dX11_peek_14 rfl) ?_
    refine lf (a_getI dX11_peek_15 fs_X11_130 rfl (co_338 hw)) ?_
    rw [e18]
    refine lf (a_inv (b2 := (0, 0)) (m_byteAt hw hT.1 e19 e52 (k := n) (by have := hT.1; omega)) rfl dX11_peek_18 yk_X11_byteAt im_X11_byteAt se_X11_byteAt ml_X11_133 rfl (co_338 hw) (by decide) hc_X11 (by decide) (by decide) (Nat.le_of_ble_eq_true rfl)) ?_
    refine lf (a_bipush (10 : Int32) dX11_peek_21 (by decide)) ?_
    refine lfn (a_icmp_ne (tgt := 39) dX11_peek_23 (by decide)) (fun h23 => ?_) (fun h23 => absurd h23 (hn1 10 (by decide)))
    exact lf (a_loc _ rfl) (kx W hF e18 (Nat.le_refl _))
  | succ dd ih =>
    intro m W hm hF e18 hs
    have hmn : m < n := by omega
    have hT1 := hT.1
    have hw := hF.1.1
    have e19 : gI W 338 19 = nI n := (hF.2.1 19 (by decide) (by decide) (by decide)).trans hT.2.2.1
    have e52 : ∀ k, k < n → B k < 256 ∧ gI W 352 k = nI (B k) := fun k hk => ⟨(hT.2.2.2.1 k hk).1, (hF.1.i (by decide) k).trans (hT.2.2.2.1 k hk).2⟩
    have hB : ∀ k, k < n → B k < 256 := fun k hk => hT.b256 hk
    obtain ⟨c, hc⟩ : ∃ c, n - m = c + 1 := ⟨n - m - 1, by omega⟩
    have hcn : n - (m + 1) = c := by omega
    have hbm : bA B n m = nI (B m) := if_pos hmn
    have hs2 := hs
    rw [hc] at hs2
    unfold skW at hs2
    refine lf (a_aload_n dX11_peek_0 rfl) ?_
    refine lf (a_aload_n dX11_peek_1 rfl) ?_
    refine lf (a_getI dX11_peek_2 fs_X11_130 rfl (co_338 (by repeat (first | with_reducible exact hw | with_reducible exact hwc | with_reducible assumption | with_reducible apply Wf.sI | with_reducible apply Wf.sL | with_reducible apply Wf.cpI | with_reducible apply Wf.cpL | with_reducible apply Wf.cp2 | with_reducible apply Wf.sIs | with_reducible apply Wf.sLs | with_reducible apply Wf.cpU | with_reducible apply Wf.fillI | with_reducible apply Wf.clU | with_reducible apply Wf.dnF | with_reducible apply Wf.gbW)))) ?_
    rw [e18]
    refine lf (a_inv (b2 := (0, 0)) (m_byteAt (by repeat (first | with_reducible exact hw | with_reducible exact hwc | with_reducible assumption | with_reducible apply Wf.sI | with_reducible apply Wf.sL | with_reducible apply Wf.cpI | with_reducible apply Wf.cpL | with_reducible apply Wf.cp2 | with_reducible apply Wf.sIs | with_reducible apply Wf.sLs | with_reducible apply Wf.cpU | with_reducible apply Wf.fillI | with_reducible apply Wf.clU | with_reducible apply Wf.dnF | with_reducible apply Wf.gbW)) hT.1 e19 e52 (k := m) (by have := hT.1; omega)) rfl dX11_peek_5 yk_X11_byteAt im_X11_byteAt se_X11_byteAt ml_X11_133 rfl (co_338 (by repeat (first | with_reducible exact hw | with_reducible exact hwc | with_reducible assumption | with_reducible apply Wf.sI | with_reducible apply Wf.sL | with_reducible apply Wf.cpI | with_reducible apply Wf.cpL | with_reducible apply Wf.cp2 | with_reducible apply Wf.sIs | with_reducible apply Wf.sLs | with_reducible apply Wf.cpU | with_reducible apply Wf.fillI | with_reducible apply Wf.clU | with_reducible apply Wf.dnF | with_reducible apply Wf.gbW))) (by decide) hc_X11 (by decide) (by decide) (Nat.le_of_ble_eq_true rfl)) ?_
    refine lf (a_bipush (32 : Int32) dX11_peek_8 (by decide)) ?_
    refine lf2 (a_icmp_eq (tgt := 26) dX11_peek_10 (by decide)) (fun h10 => ?_) (fun h10 => ?_)
    · have h10 := ((bA_is (c := 32) hB (by decide)).mp h10).2
      refine lf (a_aload_n dX11_peek_26 rfl) ?_
      refine lf (a_aload_n dX11_peek_27 rfl) ?_
      refine lf (a_getI dX11_peek_28 fs_X11_130 rfl (co_338 (by repeat (first | with_reducible exact hw | with_reducible exact hwc | with_reducible assumption | with_reducible apply Wf.sI | with_reducible apply Wf.sL | with_reducible apply Wf.cpI | with_reducible apply Wf.cpL | with_reducible apply Wf.cp2 | with_reducible apply Wf.sIs | with_reducible apply Wf.sLs | with_reducible apply Wf.cpU | with_reducible apply Wf.fillI | with_reducible apply Wf.clU | with_reducible apply Wf.dnF | with_reducible apply Wf.gbW)))) ?_
      rw [e18]
      refine lf (a_iconst (1 : Int32) dX11_peek_31 (by decide)) ?_
      refine lf (a_iadd dX11_peek_32) ?_
      rw [nI_1]
      refine lf (a_putI dX11_peek_33 fs_X11_130 rfl rfl rfl (co_338 (by repeat (first | with_reducible exact hw | with_reducible exact hwc | with_reducible assumption | with_reducible apply Wf.sI | with_reducible apply Wf.sL | with_reducible apply Wf.cpI | with_reducible apply Wf.cpL | with_reducible apply Wf.cp2 | with_reducible apply Wf.sIs | with_reducible apply Wf.sLs | with_reducible apply Wf.cpU | with_reducible apply Wf.fillI | with_reducible apply Wf.clU | with_reducible apply Wf.dnF | with_reducible apply Wf.gbW)))) ?_
      refine lf (a_goto (tgt := 0) dX11_peek_36 (by decide)) ?_
      exact lf (a_loc _ rfl) (ih (m + 1) _ (by omega) (hF.set (Or.inl rfl) _) (by rw [gI_sI, if_pos ⟨rfl, rfl⟩]) (by rw [hcn]; rw [if_pos h10] at hs2; exact hs2))
    · have h10 : ¬ B m = 32 := fun z => h10 ((bA_is (c := 32) hB (by decide)).mpr ⟨hmn, z⟩)
      refine lf (a_aload_n dX11_peek_13 rfl) ?_
      refine lf (a_aload_n dX11_peek_14 rfl) ?_
      refine lf (a_getI dX11_peek_15 fs_X11_130 rfl (co_338 (by repeat (first | with_reducible exact hw | with_reducible exact hwc | with_reducible assumption | with_reducible apply Wf.sI | with_reducible apply Wf.sL | with_reducible apply Wf.cpI | with_reducible apply Wf.cpL | with_reducible apply Wf.cp2 | with_reducible apply Wf.sIs | with_reducible apply Wf.sLs | with_reducible apply Wf.cpU | with_reducible apply Wf.fillI | with_reducible apply Wf.clU | with_reducible apply Wf.dnF | with_reducible apply Wf.gbW)))) ?_
      rw [e18]
      refine lf (a_inv (b2 := (0, 0)) (m_byteAt (by repeat (first | with_reducible exact hw | with_reducible exact hwc | with_reducible assumption | with_reducible apply Wf.sI | with_reducible apply Wf.sL | with_reducible apply Wf.cpI | with_reducible apply Wf.cpL | with_reducible apply Wf.cp2 | with_reducible apply Wf.sIs | with_reducible apply Wf.sLs | with_reducible apply Wf.cpU | with_reducible apply Wf.fillI | with_reducible apply Wf.clU | with_reducible apply Wf.dnF | with_reducible apply Wf.gbW)) hT.1 e19 e52 (k := m) (by have := hT.1; omega)) rfl dX11_peek_18 yk_X11_byteAt im_X11_byteAt se_X11_byteAt ml_X11_133 rfl (co_338 (by repeat (first | with_reducible exact hw | with_reducible exact hwc | with_reducible assumption | with_reducible apply Wf.sI | with_reducible apply Wf.sL | with_reducible apply Wf.cpI | with_reducible apply Wf.cpL | with_reducible apply Wf.cp2 | with_reducible apply Wf.sIs | with_reducible apply Wf.sLs | with_reducible apply Wf.cpU | with_reducible apply Wf.fillI | with_reducible apply Wf.clU | with_reducible apply Wf.dnF | with_reducible apply Wf.gbW))) (by decide) hc_X11 (by decide) (by decide) (Nat.le_of_ble_eq_true rfl)) ?_
      refine lf (a_bipush (10 : Int32) dX11_peek_21 (by decide)) ?_
      refine lfn (a_icmp_ne (tgt := 39) dX11_peek_23 (by decide)) (fun h23 => ?_) (fun h23 => ?_)
      · have h23 : ¬ B m = 10 := fun z => h23 ((bA_is (c := 10) hB (by decide)).mpr ⟨hmn, z⟩)
        rw [if_neg h10, if_neg h23] at hs2
        exact lf (a_loc _ rfl) (kx W hF (by rw [← hs2]; exact e18) (by omega))
      · have h23 := ((bA_is (c := 10) hB (by decide)).mp h23).2
        refine lf (a_aload_n dX11_peek_26 rfl) ?_
        refine lf (a_aload_n dX11_peek_27 rfl) ?_
        refine lf (a_getI dX11_peek_28 fs_X11_130 rfl (co_338 (by repeat (first | with_reducible exact hw | with_reducible exact hwc | with_reducible assumption | with_reducible apply Wf.sI | with_reducible apply Wf.sL | with_reducible apply Wf.cpI | with_reducible apply Wf.cpL | with_reducible apply Wf.cp2 | with_reducible apply Wf.sIs | with_reducible apply Wf.sLs | with_reducible apply Wf.cpU | with_reducible apply Wf.fillI | with_reducible apply Wf.clU | with_reducible apply Wf.dnF | with_reducible apply Wf.gbW)))) ?_
        rw [e18]
        refine lf (a_iconst (1 : Int32) dX11_peek_31 (by decide)) ?_
        refine lf (a_iadd dX11_peek_32) ?_
        rw [nI_1]
        refine lf (a_putI dX11_peek_33 fs_X11_130 rfl rfl rfl (co_338 (by repeat (first | with_reducible exact hw | with_reducible exact hwc | with_reducible assumption | with_reducible apply Wf.sI | with_reducible apply Wf.sL | with_reducible apply Wf.cpI | with_reducible apply Wf.cpL | with_reducible apply Wf.cp2 | with_reducible apply Wf.sIs | with_reducible apply Wf.sLs | with_reducible apply Wf.cpU | with_reducible apply Wf.fillI | with_reducible apply Wf.clU | with_reducible apply Wf.dnF | with_reducible apply Wf.gbW)))) ?_
        refine lf (a_goto (tgt := 0) dX11_peek_36 (by decide)) ?_
        exact lf (a_loc _ rfl) (ih (m + 1) _ (by omega) (hF.set (Or.inl rfl) _) (by rw [gI_sI, if_pos ⟨rfl, rfl⟩]) (by rw [hcn]; rw [if_neg h10, if_pos h23] at hs2; exact hs2))
theorem pk_2 (hT : TxV B n p μ) {s k : Nat} (hs : s < n) (hk : kdN (B s) = k) (hk12 : k = 1 ∨ k = 2) {E : Nat} {Q : Oc → Wd → Prop} (kx : ∀ W : Wd, PkF μ W → gI W 338 18 = nI s → gI W 338 20 = nI s → gI W 338 21 = nI E → WP Y_X11_peek R_X11_peek (0, 0) W 121 [(0, .ref 338), (1, .int (bA B n s))] [] Q) : ∀ (dd e : Nat) (W : Wd), e + dd = n → PkF μ W → gI W 338 18 = nI s → gI W 338 20 = nI s → gI W 338 21 = nI e → rnW B k (n - e) e = E → WP Y_X11_peek R_X11_peek (0, 0) W 66 [(0, .ref 338), (1, .int (bA B n s))] [] Q := by
  have hBs : ∀ k, k < n → B k < 256 := fun k hk => hT.b256 hk
  have hl := bA_let hBs s
  have hd := bA_dig hBs s
  rw [hk] at hl hd
  intro dd
  induction dd with
  | zero =>
    intro e W he hF e18 e20 e21 hE
    obtain rfl : n = e := by omega
    rw [Nat.sub_self] at hE
    obtain rfl : n = E := hE
    have hT1 := hT.1
    have hw := hF.1.1
    have e19 : gI W 338 19 = nI n := (hF.2.1 19 (by decide) (by decide) (by decide)).trans hT.2.2.1
    have e52 : ∀ k, k < n → B k < 256 ∧ gI W 352 k = nI (B k) := fun k hk => ⟨(hT.2.2.2.1 k hk).1, (hF.1.i (by decide) k).trans (hT.2.2.2.1 k hk).2⟩
    have hB : ∀ k, k < n → B k < 256 := fun k hk => hT.b256 hk
    have ll := bA_let hB n
    have ld := bA_dig hB n
    rw [if_neg (fun z => Nat.lt_irrefl n z.1)] at ll ld
    rcases hk12 with rfl | rfl
    · rw [if_pos ⟨hs, rfl⟩] at hl
      rw [if_neg (fun z => absurd z.2 (by decide))] at hd
      refine lf (a_iload_n dX11_peek_66 rfl) ?_
      refine lf (a_invS (b2 := (0, 0)) (Ct.int hl (m_isLetter (bA B n s))) rfl dX11_peek_67 yk_X11_isLetter sm_X11_isLetter ml_X11_142 rfl (by decide) (by decide) (Nat.le_of_ble_eq_true rfl)) ?_
      refine lf2 (a_if_eq (tgt := 87) dX11_peek_70 (by decide)) (fun h70 => absurd h70 (by decide)) (fun h70 => ?_)
      refine lf (a_aload_n dX11_peek_73 rfl) ?_
      refine lf (a_aload_n dX11_peek_74 rfl) ?_
      refine lf (a_getI dX11_peek_75 fs_X11_139 rfl (co_338 hw)) ?_
      rw [e21]
      refine lf (a_inv (b2 := (0, 0)) (m_byteAt hw hT.1 e19 e52 (k := n) (by have := hT.1; omega)) rfl dX11_peek_78 yk_X11_byteAt im_X11_byteAt se_X11_byteAt ml_X11_133 rfl (co_338 hw) (by decide) hc_X11 (by decide) (by decide) (Nat.le_of_ble_eq_true rfl)) ?_
      refine lf (a_invS (b2 := (0, 0)) (Ct.int ll (m_isLetter (bA B n n))) rfl dX11_peek_81 yk_X11_isLetter sm_X11_isLetter ml_X11_142 rfl (by decide) (by decide) (Nat.le_of_ble_eq_true rfl)) ?_
      refine lfn (a_if_ne (tgt := 108) dX11_peek_84 (by decide)) (fun h84 => absurd h84 (fun z => z rfl)) (fun h84 => ?_)
      refine lf (a_iload_n dX11_peek_87 rfl) ?_
      refine lf (a_invS (b2 := (0, 0)) (Ct.int hd (m_isDigit (bA B n s))) rfl dX11_peek_88 yk_X11_isDigit sm_X11_isDigit ml_X11_145 rfl (by decide) (by decide) (Nat.le_of_ble_eq_true rfl)) ?_
      refine lf2 (a_if_eq (tgt := 121) dX11_peek_91 (by decide)) (fun h91 => ?_) (fun h91 => absurd h91 (fun z => z rfl))
      exact lf (a_loc _ rfl) (kx W hF e18 e20 e21)
    · rw [if_neg (fun z => absurd z.2 (by decide))] at hl
      rw [if_pos ⟨hs, rfl⟩] at hd
      refine lf (a_iload_n dX11_peek_66 rfl) ?_
      refine lf (a_invS (b2 := (0, 0)) (Ct.int hl (m_isLetter (bA B n s))) rfl dX11_peek_67 yk_X11_isLetter sm_X11_isLetter ml_X11_142 rfl (by decide) (by decide) (Nat.le_of_ble_eq_true rfl)) ?_
      refine lf2 (a_if_eq (tgt := 87) dX11_peek_70 (by decide)) (fun h70 => ?_) (fun h70 => absurd h70 (fun z => z rfl))
      refine lf (a_iload_n dX11_peek_87 rfl) ?_
      refine lf (a_invS (b2 := (0, 0)) (Ct.int hd (m_isDigit (bA B n s))) rfl dX11_peek_88 yk_X11_isDigit sm_X11_isDigit ml_X11_145 rfl (by decide) (by decide) (Nat.le_of_ble_eq_true rfl)) ?_
      refine lf2 (a_if_eq (tgt := 121) dX11_peek_91 (by decide)) (fun h91 => absurd h91 (by decide)) (fun h91 => ?_)
      refine lf (a_aload_n dX11_peek_94 rfl) ?_
      refine lf (a_aload_n dX11_peek_95 rfl) ?_
      refine lf (a_getI dX11_peek_96 fs_X11_139 rfl (co_338 hw)) ?_
      rw [e21]
      refine lf (a_inv (b2 := (0, 0)) (m_byteAt hw hT.1 e19 e52 (k := n) (by have := hT.1; omega)) rfl dX11_peek_99 yk_X11_byteAt im_X11_byteAt se_X11_byteAt ml_X11_133 rfl (co_338 hw) (by decide) hc_X11 (by decide) (by decide) (Nat.le_of_ble_eq_true rfl)) ?_
      refine lf (a_invS (b2 := (0, 0)) (Ct.int ld (m_isDigit (bA B n n))) rfl dX11_peek_102 yk_X11_isDigit sm_X11_isDigit ml_X11_145 rfl (by decide) (by decide) (Nat.le_of_ble_eq_true rfl)) ?_
      refine lf2 (a_if_eq (tgt := 121) dX11_peek_105 (by decide)) (fun h105 => ?_) (fun h105 => absurd h105 (fun z => z rfl))
      exact lf (a_loc _ rfl) (kx W hF e18 e20 e21)
  | succ dd ih =>
    intro e W he hF e18 e20 e21 hE
    have hen : e < n := by omega
    have hT1 := hT.1
    have hw := hF.1.1
    have e19 : gI W 338 19 = nI n := (hF.2.1 19 (by decide) (by decide) (by decide)).trans hT.2.2.1
    have e52 : ∀ k, k < n → B k < 256 ∧ gI W 352 k = nI (B k) := fun k hk => ⟨(hT.2.2.2.1 k hk).1, (hF.1.i (by decide) k).trans (hT.2.2.2.1 k hk).2⟩
    have hB : ∀ k, k < n → B k < 256 := fun k hk => hT.b256 hk
    have ll := bA_let hB e
    have ld := bA_dig hB e
    obtain ⟨c, hc⟩ : ∃ c, n - e = c + 1 := ⟨n - e - 1, by omega⟩
    have hcn : n - (e + 1) = c := by omega
    rw [hc] at hE
    unfold rnW at hE
    by_cases hq : kdN (B e) = k
    · rw [if_pos hq] at hE
      have nx := ih (e + 1) (sI W 338 21 (nI (e + 1))) (by omega) (hF.set (Or.inr (Or.inr rfl)) _) (by rw [gI_sI, if_neg (by omega)]; exact e18) (by rw [gI_sI, if_neg (by omega)]; exact e20) (by rw [gI_sI, if_pos ⟨rfl, rfl⟩]) (by rw [hcn]; exact hE)
      rcases hk12 with rfl | rfl
      · rw [if_pos ⟨hs, rfl⟩] at hl
        rw [if_pos ⟨hen, hq⟩] at ll
        refine lf (a_iload_n dX11_peek_66 rfl) ?_
        refine lf (a_invS (b2 := (0, 0)) (Ct.int hl (m_isLetter (bA B n s))) rfl dX11_peek_67 yk_X11_isLetter sm_X11_isLetter ml_X11_142 rfl (by decide) (by decide) (Nat.le_of_ble_eq_true rfl)) ?_
        refine lf2 (a_if_eq (tgt := 87) dX11_peek_70 (by decide)) (fun h70 => absurd h70 (by decide)) (fun h70 => ?_)
        refine lf (a_aload_n dX11_peek_73 rfl) ?_
        refine lf (a_aload_n dX11_peek_74 rfl) ?_
        refine lf (a_getI dX11_peek_75 fs_X11_139 rfl (co_338 (by repeat (first | with_reducible exact hw | with_reducible exact hwc | with_reducible assumption | with_reducible apply Wf.sI | with_reducible apply Wf.sL | with_reducible apply Wf.cpI | with_reducible apply Wf.cpL | with_reducible apply Wf.cp2 | with_reducible apply Wf.sIs | with_reducible apply Wf.sLs | with_reducible apply Wf.cpU | with_reducible apply Wf.fillI | with_reducible apply Wf.clU | with_reducible apply Wf.dnF | with_reducible apply Wf.gbW)))) ?_
        rw [e21]
        refine lf (a_inv (b2 := (0, 0)) (m_byteAt (by repeat (first | with_reducible exact hw | with_reducible exact hwc | with_reducible assumption | with_reducible apply Wf.sI | with_reducible apply Wf.sL | with_reducible apply Wf.cpI | with_reducible apply Wf.cpL | with_reducible apply Wf.cp2 | with_reducible apply Wf.sIs | with_reducible apply Wf.sLs | with_reducible apply Wf.cpU | with_reducible apply Wf.fillI | with_reducible apply Wf.clU | with_reducible apply Wf.dnF | with_reducible apply Wf.gbW)) hT.1 e19 e52 (k := e) (by have := hT.1; omega)) rfl dX11_peek_78 yk_X11_byteAt im_X11_byteAt se_X11_byteAt ml_X11_133 rfl (co_338 (by repeat (first | with_reducible exact hw | with_reducible exact hwc | with_reducible assumption | with_reducible apply Wf.sI | with_reducible apply Wf.sL | with_reducible apply Wf.cpI | with_reducible apply Wf.cpL | with_reducible apply Wf.cp2 | with_reducible apply Wf.sIs | with_reducible apply Wf.sLs | with_reducible apply Wf.cpU | with_reducible apply Wf.fillI | with_reducible apply Wf.clU | with_reducible apply Wf.dnF | with_reducible apply Wf.gbW))) (by decide) hc_X11 (by decide) (by decide) (Nat.le_of_ble_eq_true rfl)) ?_
        refine lf (a_invS (b2 := (0, 0)) (Ct.int ll (m_isLetter (bA B n e))) rfl dX11_peek_81 yk_X11_isLetter sm_X11_isLetter ml_X11_142 rfl (by decide) (by decide) (Nat.le_of_ble_eq_true rfl)) ?_
        refine lfn (a_if_ne (tgt := 108) dX11_peek_84 (by decide)) (fun h84 => ?_) (fun h84 => absurd h84 (by decide))
        refine lf (a_aload_n dX11_peek_108 rfl) ?_
        refine lf (a_aload_n dX11_peek_109 rfl) ?_
        refine lf (a_getI dX11_peek_110 fs_X11_139 rfl (co_338 (by repeat (first | with_reducible exact hw | with_reducible exact hwc | with_reducible assumption | with_reducible apply Wf.sI | with_reducible apply Wf.sL | with_reducible apply Wf.cpI | with_reducible apply Wf.cpL | with_reducible apply Wf.cp2 | with_reducible apply Wf.sIs | with_reducible apply Wf.sLs | with_reducible apply Wf.cpU | with_reducible apply Wf.fillI | with_reducible apply Wf.clU | with_reducible apply Wf.dnF | with_reducible apply Wf.gbW)))) ?_
        rw [e21]
        refine lf (a_iconst (1 : Int32) dX11_peek_113 (by decide)) ?_
        refine lf (a_iadd dX11_peek_114) ?_
        rw [nI_1]
        refine lf (a_putI dX11_peek_115 fs_X11_139 rfl rfl rfl (co_338 (by repeat (first | with_reducible exact hw | with_reducible exact hwc | with_reducible assumption | with_reducible apply Wf.sI | with_reducible apply Wf.sL | with_reducible apply Wf.cpI | with_reducible apply Wf.cpL | with_reducible apply Wf.cp2 | with_reducible apply Wf.sIs | with_reducible apply Wf.sLs | with_reducible apply Wf.cpU | with_reducible apply Wf.fillI | with_reducible apply Wf.clU | with_reducible apply Wf.dnF | with_reducible apply Wf.gbW)))) ?_
        refine lf (a_goto (tgt := 66) dX11_peek_118 (by decide)) ?_
        exact lf (a_loc _ rfl) nx
      · rw [if_neg (fun z => absurd z.2 (by decide))] at hl
        rw [if_pos ⟨hs, rfl⟩] at hd
        rw [if_pos ⟨hen, hq⟩] at ld
        refine lf (a_iload_n dX11_peek_66 rfl) ?_
        refine lf (a_invS (b2 := (0, 0)) (Ct.int hl (m_isLetter (bA B n s))) rfl dX11_peek_67 yk_X11_isLetter sm_X11_isLetter ml_X11_142 rfl (by decide) (by decide) (Nat.le_of_ble_eq_true rfl)) ?_
        refine lf2 (a_if_eq (tgt := 87) dX11_peek_70 (by decide)) (fun h70 => ?_) (fun h70 => absurd h70 (fun z => z rfl))
        refine lf (a_iload_n dX11_peek_87 rfl) ?_
        refine lf (a_invS (b2 := (0, 0)) (Ct.int hd (m_isDigit (bA B n s))) rfl dX11_peek_88 yk_X11_isDigit sm_X11_isDigit ml_X11_145 rfl (by decide) (by decide) (Nat.le_of_ble_eq_true rfl)) ?_
        refine lf2 (a_if_eq (tgt := 121) dX11_peek_91 (by decide)) (fun h91 => absurd h91 (by decide)) (fun h91 => ?_)
        refine lf (a_aload_n dX11_peek_94 rfl) ?_
        refine lf (a_aload_n dX11_peek_95 rfl) ?_
        refine lf (a_getI dX11_peek_96 fs_X11_139 rfl (co_338 (by repeat (first | with_reducible exact hw | with_reducible exact hwc | with_reducible assumption | with_reducible apply Wf.sI | with_reducible apply Wf.sL | with_reducible apply Wf.cpI | with_reducible apply Wf.cpL | with_reducible apply Wf.cp2 | with_reducible apply Wf.sIs | with_reducible apply Wf.sLs | with_reducible apply Wf.cpU | with_reducible apply Wf.fillI | with_reducible apply Wf.clU | with_reducible apply Wf.dnF | with_reducible apply Wf.gbW)))) ?_
        rw [e21]
        refine lf (a_inv (b2 := (0, 0)) (m_byteAt (by repeat (first | with_reducible exact hw | with_reducible exact hwc | with_reducible assumption | with_reducible apply Wf.sI | with_reducible apply Wf.sL | with_reducible apply Wf.cpI | with_reducible apply Wf.cpL | with_reducible apply Wf.cp2 | with_reducible apply Wf.sIs | with_reducible apply Wf.sLs | with_reducible apply Wf.cpU | with_reducible apply Wf.fillI | with_reducible apply Wf.clU | with_reducible apply Wf.dnF | with_reducible apply Wf.gbW)) hT.1 e19 e52 (k := e) (by have := hT.1; omega)) rfl dX11_peek_99 yk_X11_byteAt im_X11_byteAt se_X11_byteAt ml_X11_133 rfl (co_338 (by repeat (first | with_reducible exact hw | with_reducible exact hwc | with_reducible assumption | with_reducible apply Wf.sI | with_reducible apply Wf.sL | with_reducible apply Wf.cpI | with_reducible apply Wf.cpL | with_reducible apply Wf.cp2 | with_reducible apply Wf.sIs | with_reducible apply Wf.sLs | with_reducible apply Wf.cpU | with_reducible apply Wf.fillI | with_reducible apply Wf.clU | with_reducible apply Wf.dnF | with_reducible apply Wf.gbW))) (by decide) hc_X11 (by decide) (by decide) (Nat.le_of_ble_eq_true rfl)) ?_
        refine lf (a_invS (b2 := (0, 0)) (Ct.int ld (m_isDigit (bA B n e))) rfl dX11_peek_102 yk_X11_isDigit sm_X11_isDigit ml_X11_145 rfl (by decide) (by decide) (Nat.le_of_ble_eq_true rfl)) ?_
        refine lf2 (a_if_eq (tgt := 121) dX11_peek_105 (by decide)) (fun h105 => absurd h105 (by decide)) (fun h105 => ?_)
        refine lf (a_aload_n dX11_peek_108 rfl) ?_
        refine lf (a_aload_n dX11_peek_109 rfl) ?_
        refine lf (a_getI dX11_peek_110 fs_X11_139 rfl (co_338 (by repeat (first | with_reducible exact hw | with_reducible exact hwc | with_reducible assumption | with_reducible apply Wf.sI | with_reducible apply Wf.sL | with_reducible apply Wf.cpI | with_reducible apply Wf.cpL | with_reducible apply Wf.cp2 | with_reducible apply Wf.sIs | with_reducible apply Wf.sLs | with_reducible apply Wf.cpU | with_reducible apply Wf.fillI | with_reducible apply Wf.clU | with_reducible apply Wf.dnF | with_reducible apply Wf.gbW)))) ?_
        rw [e21]
        refine lf (a_iconst (1 : Int32) dX11_peek_113 (by decide)) ?_
        refine lf (a_iadd dX11_peek_114) ?_
        rw [nI_1]
        refine lf (a_putI dX11_peek_115 fs_X11_139 rfl rfl rfl (co_338 (by repeat (first | with_reducible exact hw | with_reducible exact hwc | with_reducible assumption | with_reducible apply Wf.sI | with_reducible apply Wf.sL | with_reducible apply Wf.cpI | with_reducible apply Wf.cpL | with_reducible apply Wf.cp2 | with_reducible apply Wf.sIs | with_reducible apply Wf.sLs | with_reducible apply Wf.cpU | with_reducible apply Wf.fillI | with_reducible apply Wf.clU | with_reducible apply Wf.dnF | with_reducible apply Wf.gbW)))) ?_
        refine lf (a_goto (tgt := 66) dX11_peek_118 (by decide)) ?_
        exact lf (a_loc _ rfl) nx
    · rw [if_neg hq] at hE
      obtain rfl : e = E := hE
      rcases hk12 with rfl | rfl
      · rw [if_pos ⟨hs, rfl⟩] at hl
        rw [if_neg (fun z => absurd z.2 (by decide))] at hd
        rw [if_neg (fun z => hq z.2)] at ll
        refine lf (a_iload_n dX11_peek_66 rfl) ?_
        refine lf (a_invS (b2 := (0, 0)) (Ct.int hl (m_isLetter (bA B n s))) rfl dX11_peek_67 yk_X11_isLetter sm_X11_isLetter ml_X11_142 rfl (by decide) (by decide) (Nat.le_of_ble_eq_true rfl)) ?_
        refine lf2 (a_if_eq (tgt := 87) dX11_peek_70 (by decide)) (fun h70 => absurd h70 (by decide)) (fun h70 => ?_)
        refine lf (a_aload_n dX11_peek_73 rfl) ?_
        refine lf (a_aload_n dX11_peek_74 rfl) ?_
        refine lf (a_getI dX11_peek_75 fs_X11_139 rfl (co_338 hw)) ?_
        rw [e21]
        refine lf (a_inv (b2 := (0, 0)) (m_byteAt hw hT.1 e19 e52 (k := e) (by have := hT.1; omega)) rfl dX11_peek_78 yk_X11_byteAt im_X11_byteAt se_X11_byteAt ml_X11_133 rfl (co_338 hw) (by decide) hc_X11 (by decide) (by decide) (Nat.le_of_ble_eq_true rfl)) ?_
        refine lf (a_invS (b2 := (0, 0)) (Ct.int ll (m_isLetter (bA B n e))) rfl dX11_peek_81 yk_X11_isLetter sm_X11_isLetter ml_X11_142 rfl (by decide) (by decide) (Nat.le_of_ble_eq_true rfl)) ?_
        refine lfn (a_if_ne (tgt := 108) dX11_peek_84 (by decide)) (fun h84 => absurd h84 (fun z => z rfl)) (fun h84 => ?_)
        refine lf (a_iload_n dX11_peek_87 rfl) ?_
        refine lf (a_invS (b2 := (0, 0)) (Ct.int hd (m_isDigit (bA B n s))) rfl dX11_peek_88 yk_X11_isDigit sm_X11_isDigit ml_X11_145 rfl (by decide) (by decide) (Nat.le_of_ble_eq_true rfl)) ?_
        refine lf2 (a_if_eq (tgt := 121) dX11_peek_91 (by decide)) (fun h91 => ?_) (fun h91 => absurd h91 (fun z => z rfl))
        exact lf (a_loc _ rfl) (kx W hF e18 e20 e21)
      · rw [if_neg (fun z => absurd z.2 (by decide))] at hl
        rw [if_pos ⟨hs, rfl⟩] at hd
        rw [if_neg (fun z => hq z.2)] at ld
        refine lf (a_iload_n dX11_peek_66 rfl) ?_
        refine lf (a_invS (b2 := (0, 0)) (Ct.int hl (m_isLetter (bA B n s))) rfl dX11_peek_67 yk_X11_isLetter sm_X11_isLetter ml_X11_142 rfl (by decide) (by decide) (Nat.le_of_ble_eq_true rfl)) ?_
        refine lf2 (a_if_eq (tgt := 87) dX11_peek_70 (by decide)) (fun h70 => ?_) (fun h70 => absurd h70 (fun z => z rfl))
        refine lf (a_iload_n dX11_peek_87 rfl) ?_
        refine lf (a_invS (b2 := (0, 0)) (Ct.int hd (m_isDigit (bA B n s))) rfl dX11_peek_88 yk_X11_isDigit sm_X11_isDigit ml_X11_145 rfl (by decide) (by decide) (Nat.le_of_ble_eq_true rfl)) ?_
        refine lf2 (a_if_eq (tgt := 121) dX11_peek_91 (by decide)) (fun h91 => absurd h91 (by decide)) (fun h91 => ?_)
        refine lf (a_aload_n dX11_peek_94 rfl) ?_
        refine lf (a_aload_n dX11_peek_95 rfl) ?_
        refine lf (a_getI dX11_peek_96 fs_X11_139 rfl (co_338 hw)) ?_
        rw [e21]
        refine lf (a_inv (b2 := (0, 0)) (m_byteAt hw hT.1 e19 e52 (k := e) (by have := hT.1; omega)) rfl dX11_peek_99 yk_X11_byteAt im_X11_byteAt se_X11_byteAt ml_X11_133 rfl (co_338 hw) (by decide) hc_X11 (by decide) (by decide) (Nat.le_of_ble_eq_true rfl)) ?_
        refine lf (a_invS (b2 := (0, 0)) (Ct.int ld (m_isDigit (bA B n e))) rfl dX11_peek_102 yk_X11_isDigit sm_X11_isDigit ml_X11_145 rfl (by decide) (by decide) (Nat.le_of_ble_eq_true rfl)) ?_
        refine lf2 (a_if_eq (tgt := 121) dX11_peek_105 (by decide)) (fun h105 => ?_) (fun h105 => absurd h105 (fun z => z rfl))
        exact lf (a_loc _ rfl) (kx W hF e18 e20 e21)
theorem m_peek (hw0 : Wf μ) (hT : TxV B n p μ) : CV Y_X11_peek R_X11_peek [.ref 338] μ (fun v V => v = some (.int (bA B n (tkS B n p))) ∧ PkF μ V ∧ HdV B n p V) := by
  obtain ⟨x, hx, hxn, hxe⟩ := hT.2.2.2.2
  have hsn := (tkS_le (B := B) hT.2.1).2
  refine CV.ent yk_X11_peek (Nat.le_of_ble_eq_true rfl) ?_
  refine lf (a_loc [(0, .ref 338)] rfl) (pk_1 hT (s := tkS B n p) (fun W hF e18 hsn2 => ?_) (n - x) x μ (by omega) (PkF.rfl' hw0) hx hxe)
  have hT1 := hT.1
  have hw := hF.1.1
  have e19 : gI W 338 19 = nI n := (hF.2.1 19 (by decide) (by decide) (by decide)).trans hT.2.2.1
  have e52 : ∀ k, k < n → B k < 256 ∧ gI W 352 k = nI (B k) := fun k hk => ⟨(hT.2.2.2.1 k hk).1, (hF.1.i (by decide) k).trans (hT.2.2.2.1 k hk).2⟩
  have hB : ∀ k, k < n → B k < 256 := fun k hk => hT.b256 hk
  generalize hse : tkS B n p = s at e18 hsn
  refine lf (a_aload_n dX11_peek_39 rfl) ?_
  refine lf (a_aload_n dX11_peek_40 rfl) ?_
  refine lf (a_getI dX11_peek_41 fs_X11_130 rfl (co_338 (by repeat (first | with_reducible exact hw | with_reducible exact hwc | with_reducible assumption | with_reducible apply Wf.sI | with_reducible apply Wf.sL | with_reducible apply Wf.cpI | with_reducible apply Wf.cpL | with_reducible apply Wf.cp2 | with_reducible apply Wf.sIs | with_reducible apply Wf.sLs | with_reducible apply Wf.cpU | with_reducible apply Wf.fillI | with_reducible apply Wf.clU | with_reducible apply Wf.dnF | with_reducible apply Wf.gbW)))) ?_
  rw [e18]
  refine lf (a_putI dX11_peek_44 fs_X11_136 rfl rfl rfl (co_338 (by repeat (first | with_reducible exact hw | with_reducible exact hwc | with_reducible assumption | with_reducible apply Wf.sI | with_reducible apply Wf.sL | with_reducible apply Wf.cpI | with_reducible apply Wf.cpL | with_reducible apply Wf.cp2 | with_reducible apply Wf.sIs | with_reducible apply Wf.sLs | with_reducible apply Wf.cpU | with_reducible apply Wf.fillI | with_reducible apply Wf.clU | with_reducible apply Wf.dnF | with_reducible apply Wf.gbW)))) ?_
  refine lf (a_aload_n dX11_peek_47 rfl) ?_
  refine lf (a_aload_n dX11_peek_48 rfl) ?_
  refine lf (a_getI dX11_peek_49 fs_X11_130 rfl (co_338 (by repeat (first | with_reducible exact hw | with_reducible exact hwc | with_reducible assumption | with_reducible apply Wf.sI | with_reducible apply Wf.sL | with_reducible apply Wf.cpI | with_reducible apply Wf.cpL | with_reducible apply Wf.cp2 | with_reducible apply Wf.sIs | with_reducible apply Wf.sLs | with_reducible apply Wf.cpU | with_reducible apply Wf.fillI | with_reducible apply Wf.clU | with_reducible apply Wf.dnF | with_reducible apply Wf.gbW)))) ?_
  rw [gI_sI, if_neg (by omega), e18]
  refine lf (a_inv (b2 := (0, 0)) (m_byteAt (by repeat (first | with_reducible exact hw | with_reducible exact hwc | with_reducible assumption | with_reducible apply Wf.sI | with_reducible apply Wf.sL | with_reducible apply Wf.cpI | with_reducible apply Wf.cpL | with_reducible apply Wf.cp2 | with_reducible apply Wf.sIs | with_reducible apply Wf.sLs | with_reducible apply Wf.cpU | with_reducible apply Wf.fillI | with_reducible apply Wf.clU | with_reducible apply Wf.dnF | with_reducible apply Wf.gbW)) hT.1 (n := n) (B := B) (by rw [gI_sI, if_neg (by omega)]; exact e19) (fun k hk => ⟨(e52 k hk).1, by rw [gI_sI, if_neg (by omega)]; exact (e52 k hk).2⟩) (k := s) (by have := hT.1; omega)) rfl dX11_peek_52 yk_X11_byteAt im_X11_byteAt se_X11_byteAt ml_X11_133 rfl (co_338 (by repeat (first | with_reducible exact hw | with_reducible exact hwc | with_reducible assumption | with_reducible apply Wf.sI | with_reducible apply Wf.sL | with_reducible apply Wf.cpI | with_reducible apply Wf.cpL | with_reducible apply Wf.cp2 | with_reducible apply Wf.sIs | with_reducible apply Wf.sLs | with_reducible apply Wf.cpU | with_reducible apply Wf.fillI | with_reducible apply Wf.clU | with_reducible apply Wf.dnF | with_reducible apply Wf.gbW))) (by decide) hc_X11 (by decide) (by decide) (Nat.le_of_ble_eq_true rfl)) ?_
  refine lf (a_istore_n dX11_peek_55 (by decide)) ?_
  refine lf (a_aload_n dX11_peek_56 rfl) ?_
  refine lf (a_aload_n dX11_peek_57 rfl) ?_
  refine lf (a_getI dX11_peek_58 fs_X11_130 rfl (co_338 (by repeat (first | with_reducible exact hw | with_reducible exact hwc | with_reducible assumption | with_reducible apply Wf.sI | with_reducible apply Wf.sL | with_reducible apply Wf.cpI | with_reducible apply Wf.cpL | with_reducible apply Wf.cp2 | with_reducible apply Wf.sIs | with_reducible apply Wf.sLs | with_reducible apply Wf.cpU | with_reducible apply Wf.fillI | with_reducible apply Wf.clU | with_reducible apply Wf.dnF | with_reducible apply Wf.gbW)))) ?_
  rw [gI_sI, if_neg (by omega), e18]
  refine lf (a_iconst (1 : Int32) dX11_peek_61 (by decide)) ?_
  refine lf (a_iadd dX11_peek_62) ?_
  rw [nI_1]
  refine lf (a_putI dX11_peek_63 fs_X11_139 rfl rfl rfl (co_338 (by repeat (first | with_reducible exact hw | with_reducible exact hwc | with_reducible assumption | with_reducible apply Wf.sI | with_reducible apply Wf.sL | with_reducible apply Wf.cpI | with_reducible apply Wf.cpL | with_reducible apply Wf.cp2 | with_reducible apply Wf.sIs | with_reducible apply Wf.sLs | with_reducible apply Wf.cpU | with_reducible apply Wf.fillI | with_reducible apply Wf.clU | with_reducible apply Wf.dnF | with_reducible apply Wf.gbW)))) ?_
  have hF2 : PkF μ (sI (sI W 338 20 (nI s)) 338 21 (nI (s + 1))) := (hF.set (Or.inr (Or.inl rfl)) _).set (Or.inr (Or.inr rfl)) _
  have f18 : gI (sI (sI W 338 20 (nI s)) 338 21 (nI (s + 1))) 338 18 = nI s := by rw [gI_sI, if_neg (by omega), gI_sI, if_neg (by omega)]; exact e18
  have f20 : gI (sI (sI W 338 20 (nI s)) 338 21 (nI (s + 1))) 338 20 = nI s := by rw [gI_sI, if_neg (by omega), gI_sI, if_pos ⟨rfl, rfl⟩]
  have f21 : gI (sI (sI W 338 20 (nI s)) 338 21 (nI (s + 1))) 338 21 = nI (s + 1) := by rw [gI_sI, if_pos ⟨rfl, rfl⟩]
  refine lf (a_loc [(0, .ref 338), (1, .int (bA B n s))] rfl) ?_
  clear e18 e19 e52 hw
  revert hF2 f18 f20 f21
  generalize sI (sI W 338 20 (nI s)) 338 21 (nI (s + 1)) = U
  intro hF2 f18 f20 f21
  have hwU := hF2.1.1
  have hl := bA_let hB s
  have hd := bA_dig hB s
  by_cases hk12 : s < n ∧ (kdN (B s) = 1 ∨ kdN (B s) = 2)
  · refine pk_2 hT hk12.1 rfl hk12.2 (E := pkE B n p) (fun V hF3 g18 g20 g21 => ?_) (n - (s + 1)) (s + 1) U (by omega) hF2 f18 f20 f21 ?_
    · refine ⟨_, _, a_iload_n dX11_peek_121 rfl (a_ireturn dX11_peek_122 rfl rfl), ?_⟩
      exact ⟨_, rfl, rfl, hF3, by rw [g18, hse], by rw [g20, hse], g21⟩
    · unfold pkE tkE
      rw [hse, if_pos hk12.1, if_neg (by omega), if_pos hk12.2]
  have hpe : pkE B n p = s + 1 := by
    unfold pkE tkE
    rw [hse]
    by_cases hz : s < n
    · rw [if_pos hz, if_neg (by omega), if_neg (fun z => hk12 ⟨hz, z⟩)]
    · rw [if_neg hz]
      omega
  rw [if_neg (fun z => hk12 ⟨z.1, Or.inl z.2⟩)] at hl
  rw [if_neg (fun z => hk12 ⟨z.1, Or.inr z.2⟩)] at hd
  refine lf (a_iload_n dX11_peek_66 rfl) ?_
  refine lf (a_invS (b2 := (0, 0)) (Ct.int hl (m_isLetter (bA B n s))) rfl dX11_peek_67 yk_X11_isLetter sm_X11_isLetter ml_X11_142 rfl (by decide) (by decide) (Nat.le_of_ble_eq_true rfl)) ?_
  refine lf2 (a_if_eq (tgt := 87) dX11_peek_70 (by decide)) (fun h70 => ?_) (fun h70 => absurd h70 (fun z => z rfl))
  refine lf (a_iload_n dX11_peek_87 rfl) ?_
  refine lf (a_invS (b2 := (0, 0)) (Ct.int hd (m_isDigit (bA B n s))) rfl dX11_peek_88 yk_X11_isDigit sm_X11_isDigit ml_X11_145 rfl (by decide) (by decide) (Nat.le_of_ble_eq_true rfl)) ?_
  refine lf2 (a_if_eq (tgt := 121) dX11_peek_91 (by decide)) (fun h91 => ?_) (fun h91 => absurd h91 (fun z => z rfl))
  refine lf (a_iload_n dX11_peek_121 rfl) ?_
  refine ⟨_, _, (a_ireturn dX11_peek_122 rfl rfl), ?_⟩
  exact ⟨_, rfl, rfl, hF2, by rw [f18, hse], by rw [f20, hse], by rw [f21, hpe]⟩
end MTOK
