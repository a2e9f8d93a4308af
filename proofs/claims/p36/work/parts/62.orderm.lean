section ORDERM
variable {q : PDt} {d : FDt} {c : Int32}
def gmS (q : PDt) (c : Int32) (r : Nat → Int32) (i : Nat) (a : Option Nat) : Option Nat := if pF q 2 i = c then (match a with
  | none => some i
  | some b => if r i ≤ r b then some b else some i) else a
def gmD (q : PDt) (c : Int32) (r : Nat → Int32) (M : Nat) : Option Nat := itN (gmS q c r) none M
theorem gmD_lt {r : Nat → Int32} : ∀ {M b : Nat}, gmD q c r M = some b → b < M ∧ pF q 2 b = c := by
  intro M
  induction M with
  | zero => intro b h; cases h
  | succ m ih =>
    intro b h
    have h2 : gmS q c r m (gmD q c r m) = some b := h
    unfold gmS at h2
    by_cases hc : pF q 2 m = c
    · rw [if_pos hc] at h2
      cases e : gmD q c r m with
      | none => rw [e] at h2; cases h2; exact ⟨Nat.lt_succ_self _, hc⟩
      | some a =>
        rw [e] at h2
        have ha := ih e
        dsimp only at h2
        split at h2
        · cases h2; exact ⟨Nat.lt_succ_of_lt ha.1, ha.2⟩
        · cases h2; exact ⟨Nat.lt_succ_self _, hc⟩
    · rw [if_neg hc] at h2
      have ha := ih h2
      exact ⟨Nat.lt_succ_of_lt ha.1, ha.2⟩
theorem m1_of {x : Int32} (h1 : -1 ≤ x) (h0 : ¬ 0 ≤ x) : x = -1 := by
  rw [Int32.le_iff_toInt_le] at h1 h0
  have e1 : (-1 : Int32).toInt = -1 := rfl
  have e0 : (0 : Int32).toInt = 0 := rfl
  exact Int32.toInt_inj.mp (by omega)
theorem gm_gr {r : Nat → Int32} {M : Nat} (hr : ∀ i, i < M → ¬ pF q 2 i = c → r i = -1) (h1 : ∀ i, i < M → -1 ≤ r i) : ∀ m, m < M →
    (0 ≤ r (grD r m) → gmD q c r (m + 1) = some (grD r m)) ∧ (¬ 0 ≤ r (grD r m) → ∀ b, gmD q c r (m + 1) = some b → r b = -1) ∧ ∀ i, i ≤ m → r i ≤ r (grD r m) := by
  have n0 : ¬ (0 : Int32) ≤ -1 := by decide
  intro m
  induction m with
  | zero =>
    intro hm
    have e : gmD q c r (0 + 1) = if pF q 2 0 = c then some 0 else none := rfl
    have g0 : grD r 0 = 0 := rfl
    rw [g0, e]
    refine ⟨fun h => ?_, fun h b hb => ?_, fun i hi => by rw [Nat.le_zero.mp hi]; exact Int32.le_refl _⟩
    · by_cases hc : pF q 2 0 = c
      · rw [if_pos hc]
      · rw [hr 0 hm hc] at h; exact absurd h n0
    · by_cases hc : pF q 2 0 = c
      · rw [if_pos hc] at hb; cases hb; exact m1_of (h1 0 hm) h
      · rw [if_neg hc] at hb; cases hb
  | succ m ih =>
    intro hm
    obtain ⟨i1, i2, i3⟩ := ih (by omega)
    have hgm : grD r m < M := Nat.lt_of_le_of_lt (grD_le r m) (by omega)
    have e : gmD q c r (m + 1 + 1) = gmS q c r (m + 1) (gmD q c r (m + 1)) := rfl
    have g0 : grD r (m + 1) = if r (m + 1) ≤ r (grD r m) then grD r m else m + 1 := rfl
    by_cases hl : r (m + 1) ≤ r (grD r m)
    · rw [g0, if_pos hl, e]
      refine ⟨fun h => ?_, fun h b hb => ?_, fun i hi => ?_⟩
      · rw [i1 h]
        unfold gmS
        by_cases hc : pF q 2 (m + 1) = c
        · rw [if_pos hc]; dsimp only; rw [if_pos hl]
        · rw [if_neg hc]
      · have hg : r (grD r m) = -1 := m1_of (h1 _ hgm) h
        have hm1 : r (m + 1) = -1 := by
          have a := h1 _ hm
          rw [hg] at hl
          exact Int32.le_antisymm hl a
        unfold gmS at hb
        by_cases hc : pF q 2 (m + 1) = c
        · rw [if_pos hc] at hb
          cases e2 : gmD q c r (m + 1) with
          | none => rw [e2] at hb; cases hb; exact hm1
          | some a =>
            rw [e2] at hb
            dsimp only at hb
            split at hb
            · cases hb; exact i2 h _ e2
            · cases hb; exact hm1
        · rw [if_neg hc] at hb; exact i2 h _ hb
      · by_cases hi2 : i = m + 1
        · rw [hi2]; exact hl
        · exact i3 i (by omega)
    · rw [g0, if_neg hl, e]
      have hpos : 0 ≤ r (m + 1) := Classical.byContradiction fun z => hl (by rw [m1_of (h1 _ hm) z]; exact h1 _ hgm)
      have hc : pF q 2 (m + 1) = c := Classical.byContradiction fun z => by rw [hr _ hm z] at hpos; exact n0 hpos
      refine ⟨fun _ => ?_, fun h => absurd hpos h, fun i hi => ?_⟩
      · unfold gmS
        rw [if_pos hc]
        cases e2 : gmD q c r (m + 1) with
        | none => rfl
        | some a =>
          dsimp only
          rw [if_neg]
          by_cases h0 : 0 ≤ r (grD r m)
          · rw [i1 h0] at e2; cases e2; exact hl
          · rw [i2 h0 a e2]
            intro z
            exact n0 (Int32.le_trans hpos z)
      · by_cases hi2 : i = m + 1
        · rw [hi2]; exact Int32.le_refl _
        · exact Int32.le_trans (i3 i (by omega)) (Int32.le_of_lt (Int32.not_le.mp hl))
/-- how many remainders are left -/
def psR (r : Nat → Int32) (M : Nat) : Nat := fb_ct (fun i => decide (0 ≤ r i)) M
theorem gm_step {r : Nat → Int32} {M n : Nat} (hr : ∀ i, i < M → ¬ pF q 2 i = c → r i = -1) (h1 : ∀ i, i < M → -1 ≤ r i) (hn : n + 1 ≤ psR r M) :
    gmD q c r M = some (grD r (M - 1)) ∧ grD r (M - 1) < M ∧ n ≤ psR (up1 r (grD r (M - 1)) (-1)) M ∧ (∀ i, i < M → ¬ pF q 2 i = c → up1 r (grD r (M - 1)) (-1) i = -1) ∧ ∀ i, i < M → -1 ≤ up1 r (grD r (M - 1)) (-1) i := by
  obtain ⟨i, hi, hp⟩ := fb_ct_pos.mp (show 0 < psR r M by omega)
  rw [decide_eq_true_eq] at hp
  obtain ⟨m, rfl⟩ : ∃ m, M = m + 1 := ⟨M - 1, by omega⟩
  obtain ⟨g1, g2, g3⟩ := gm_gr hr h1 m (Nat.lt_succ_self m)
  have hg : 0 ≤ r (grD r m) := Int32.le_trans hp (g3 i (by omega))
  have hlt : grD r m < m + 1 := Nat.lt_succ_of_le (grD_le r m)
  rw [Nat.add_sub_cancel]
  refine ⟨g1 hg, hlt, ?_, fun i hi hc => ?_, fun i hi => ?_⟩
  · have hu := fb_ct_upd (fun i => decide (0 ≤ r i)) false hlt
    rw [if_pos (decide_eq_true hg)] at hu
    have he : psR (up1 r (grD r m) (-1)) (m + 1) = fb_ct (fun k => if k = grD r m then false else decide (0 ≤ r k)) (m + 1) := fb_ct_cong fun k hk => by
      unfold up1
      by_cases hk2 : k = grD r m
      · rw [if_pos hk2, if_pos hk2]; decide
      · rw [if_neg hk2, if_neg hk2]
    rw [he]
    have : (if false = true then 1 else 0) = 0 := rfl
    unfold psR at hn
    omega
  · unfold up1; split
    · rfl
    · exact hr i hi hc
  · unfold up1; split
    · exact Int32.le_refl _
    · exact h1 i hi
theorem nI_ge0 {n : Nat} (h : n < 2 ^ 31) : (0 : Int32) ≤ nI n := nI_pos' h
def shN (q : PDt) (c : Int32) (i : Nat) : Nat := if pF q 2 i = c then nN (pF q 3 i) else 0
def shS (q : PDt) (c : Int32) (m : Nat) : Nat := fb_sm (shN q c) m
theorem shN_le (hq : GdP q) {i : Nat} (hi : i < pM q) : shN q c i ≤ 99 ∧ (pF q 2 i = c → pF q 3 i = nI (shN q c i)) := by
  obtain ⟨s, h1, h2⟩ := hq.sh hi
  unfold shN
  by_cases hc : pF q 2 i = c
  · rw [if_pos hc, h2, nN_nI (by omega)]; exact ⟨h1, fun _ => rfl⟩
  · rw [if_neg hc]; exact ⟨Nat.zero_le _, fun z => absurd z hc⟩
theorem shD_N (hq : GdP q) : shD q c = nI (shS q c (pM q)) ∧ shS q c (pM q) ≤ 1188 := by
  refine ⟨sumI fun i hi => ?_, ?_⟩
  · by_cases hc : pF q 2 i = c
    · rw [if_pos hc]; exact (shN_le hq hi).2 hc
    · rw [if_neg hc]; unfold shN; rw [if_neg hc]; rfl
  · have := fb_sm_bound (f := shN q c) (c := 99) (n := pM q) (fun i hi => (shN_le hq hi).1)
    have := hq.M4
    unfold shS
    omega
def fuN (q : PDt) (c : Int32) (x S : Nat) (i : Nat) : Nat := if pF q 2 i = c then x * shN q c i / S else 0
theorem fu_sum {x S : Nat} (hS : 0 < S) : ∀ m, S * fb_sm (fuN q c x S) m ≤ x * fb_sm (shN q c) m ∧ x * fb_sm (shN q c) m ≤ S * fb_sm (fuN q c x S) m + S * fb_ct (fun i => decide (pF q 2 i = c)) m := by
  intro m
  induction m with
  | zero => exact ⟨Nat.zero_le _, Nat.zero_le _⟩
  | succ m ih =>
    rw [fb_sm_succ, fb_sm_succ, fb_ct_succ, Nat.mul_add, Nat.mul_add, Nat.mul_add]
    obtain ⟨a, b⟩ := ih
    by_cases hc : pF q 2 m = c
    · rw [if_pos (decide_eq_true hc)]
      have e : fuN q c x S m = x * shN q c m / S := if_pos hc
      rw [e]
      have h1 : S * (x * shN q c m / S) ≤ x * shN q c m := Nat.mul_div_le _ _
      have h2 := Nat.div_add_mod (x * shN q c m) S
      have h3 := Nat.mod_lt (x * shN q c m) hS
      have h4 : S * 1 = S := Nat.mul_one S
      omega
    · rw [if_neg (by rw [decide_eq_true_eq]; exact hc)]
      have e : fuN q c x S m = 0 := if_neg hc
      have e2 : shN q c m = 0 := if_neg hc
      rw [e, e2, Nat.mul_zero, Nat.mul_zero]
      omega
theorem dv_N (hq : GdP q) {x : Nat} (hx : x ≤ 100) (hs : ¬ shD q c < 1) {i : Nat} (hi : i < pM q) :
    fuD q c (nI x) i = nI (fuN q c x (shS q c (pM q)) i) ∧ (pF q 2 i = c → 0 ≤ reD q c (nI x) i) ∧ (¬ pF q 2 i = c → reD q c (nI x) i = -1) ∧ -1 ≤ reD q c (nI x) i := by
  obtain ⟨e, hb⟩ := shD_N (c := c) hq
  have hS : 0 < shS q c (pM q) := Nat.pos_of_ne_zero fun z => hs (by rw [e, z]; decide)
  obtain ⟨s1, s2⟩ := shN_le (c := c) hq hi
  have hm : x * shN q c i ≤ 100 * 99 := Nat.mul_le_mul hx s1
  by_cases hc : pF q 2 i = c
  · have e2 : reD q c (nI x) i = nI (x * shN q c i % shS q c (pM q)) := by
      unfold reD
      rw [if_pos hc, s2 hc, e, nI_mulI, pk_div (by omega) hS (by omega), nI_mulI]
      have h2 := Nat.div_add_mod (x * shN q c i) (shS q c (pM q))
      rw [Nat.mul_comm] at h2
      rw [nI_subI (by omega)]
      congr 1
      omega
    have hlt := Nat.mod_lt (x * shN q c i) hS
    refine ⟨?_, fun _ => by rw [e2]; exact nI_ge0 (by omega), fun z => absurd hc z, by rw [e2]; exact Int32.le_of_lt (nI_m1 (by omega))⟩
    unfold fuD fuN
    rw [if_pos hc, if_pos hc, s2 hc, e, nI_mulI, pk_div (by omega) hS (by omega)]
  · have e2 : reD q c (nI x) i = -1 := if_neg hc
    refine ⟨?_, fun z => absurd z hc, fun _ => e2, by rw [e2]; exact Int32.le_refl _⟩
    unfold fuD fuN
    rw [if_neg hc, if_neg hc]
    rfl
theorem dv_cnt (hq : GdP q) {x : Nat} (hx : x ≤ 100) (hs : ¬ shD q c < 1) : ∃ n, rsD q c (nI x) (pM q) = nI n ∧ n ≤ 100 ∧ n ≤ psR (reD q c (nI x)) (pM q) := by
  obtain ⟨e, hb⟩ := shD_N (c := c) hq
  have hS : 0 < shS q c (pM q) := Nat.pos_of_ne_zero fun z => hs (by rw [e, z]; decide)
  have hsum := fu_sum (q := q) (c := c) (x := x) hS
  have hle : ∀ m, m ≤ pM q → fb_sm (fuN q c x (shS q c (pM q))) m ≤ x := fun m hm => by
    have h1 := (hsum m).1
    have h2 : fb_sm (shN q c) m ≤ shS q c (pM q) := by
      obtain ⟨k, hk⟩ : ∃ k, pM q = m + k := ⟨pM q - m, by omega⟩
      unfold shS
      rw [hk]
      exact fb_sm_mono _ _ _
    have h3 : x * fb_sm (shN q c) m ≤ x * shS q c (pM q) := Nat.mul_le_mul_left _ h2
    exact Nat.le_of_mul_le_mul_left (by rw [Nat.mul_comm _ x]; exact Nat.le_trans h1 h3) hS
  have hrs : ∀ m, m ≤ pM q → rsD q c (nI x) m = nI (x - fb_sm (fuN q c x (shS q c (pM q))) m) := by
    intro m
    induction m with
    | zero => intro _; rfl
    | succ m ih =>
      intro hm
      have h1 := hle (m + 1) hm
      rw [fb_sm_succ] at h1 ⊢
      show itN (fun i a => a - fuD q c (nI x) i) (nI x) (m + 1) = _
      rw [itN_succ]
      have h2 : itN (fun i a => a - fuD q c (nI x) i) (nI x) m = nI (x - fb_sm (fuN q c x (shS q c (pM q))) m) := ih (by omega)
      rw [h2, (dv_N hq hx hs (show m < pM q by omega)).1, nI_subI (by omega)]
      congr 1
      omega
  refine ⟨_, hrs _ (Nat.le_refl _), by omega, ?_⟩
  have h2 := (hsum (pM q)).2
  have hcp : fb_ct (fun i => decide (pF q 2 i = c)) (pM q) ≤ psR (reD q c (nI x)) (pM q) := fb_ct_sub fun i hi h => by
    rw [decide_eq_true_eq] at h ⊢
    exact (dv_N hq hx hs hi).2.1 h
  have h3 : x ≤ fb_sm (fuN q c x (shS q c (pM q))) (pM q) + fb_ct (fun i => decide (pF q 2 i = c)) (pM q) := by
    refine Nat.le_of_mul_le_mul_left ?_ hS
    rw [Nat.mul_add, Nat.mul_comm _ x]
    exact h2
  omega
theorem waD_N (hq : GdP q) (hd : GdD q d) {k : Nat} (hk : k < pC q) : ∃ x, x ≤ 100 ∧ waD q d k = nI x := by
  obtain ⟨s, h1, h2⟩ := hq.spare hk
  have hp := plN_le d (nI k)
  have hP := hd.P4
  unfold waD
  rw [← plD_eq, plD_N, h2, show (100 : Int32) = nI 100 from rfl, show (99 : Int32) = nI 99 from rfl, nI_add, nI_mulI, nI_add]
  have hm : plN d (nI k) * (100 + s) ≤ 40 * 150 := Nat.mul_le_mul (by omega) (by omega)
  rw [pk_div (by omega) (by decide) (by decide)]
  exact ⟨_, by omega, rfl⟩
end ORDERM
