section FLT
variable {z z1 z2 : PZ} {l t : List Nat} {P P1 P2 : PZ → Prop}
/-- whatever the class held before, the text is read through and leaves such a draft -/
def TxI (P : PZ → Prop) (l : List Nat) : Prop := ∀ (m0 : Int32) (A0 : Nat → Int64), ∃ z, Pz l (rz0 m0 A0) z ∧ P z
theorem TxI.step (h : TxI P1 l) (hs : ∀ z, P1 z → ∃ z2, Pz t z z2 ∧ P2 z2) : TxI P2 (l ++ t) := fun m0 A0 => by
  obtain ⟨z, h1, h2⟩ := h m0 A0
  obtain ⟨z2, h3, h4⟩ := hs z h2
  exact ⟨z2, h1.comp h3, h4⟩
/-- the draft of a flight of the law -/
def ZA (z : PZ) : Prop := (pC z.1 = 2 ∧ z.2.2.1 0 = [120] ∧ z.2.2.1 1 = [121] ∧ pF z.1 0 0 = nI 6 ∧ pF z.1 0 1 = nI 5) ∧ (∃ m c, c < m ∧ m < 100 ∧ pF z.1 9 1 = nI m ∧ pF z.1 9 2 = nI c) ∧
  (∀ m, m < pM z.1 → pF z.1 2 m = -1 ∨ ∃ s, 1 ≤ s ∧ s < 100 ∧ pF z.1 3 m = nI s) ∧ (dU z.2.1 = 0 ∧ dF z.2.1 6 0 = 0 ∧ ∀ t m, dF z.2.1 (7 + t) m = 0) ∧ ∀ i, i < dP z.2.1 → dF z.2.1 2 i = -1
/-- k meals are still to come -/
def ZM (k : Nat) (z : PZ) : Prop := ZA z ∧ dP z.2.1 = 0 ∧ pT z.1 = 0 ∧ 4 ≤ pM z.1 + k ∧ pM z.1 + k ≤ 7 ∧ ∀ j, j < pM z.1 → ∃ x, k < x ∧ x ≤ 7 ∧ z.2.2.2 j = [97 + x]
/-- k trolleys are still to come -/
def ZT (k : Nat) (z : PZ) : Prop := ZA z ∧ dP z.2.1 = 0 ∧ 4 ≤ pM z.1 ∧ pM z.1 ≤ 7 ∧ pT z.1 + k ≤ 4
/-- k guests are still to come -/
def ZG (k : Nat) (z : PZ) : Prop := ZA z ∧ 4 ≤ pM z.1 ∧ pM z.1 ≤ 7 ∧ 2 ≤ dP z.2.1 ∧ dP z.2.1 + k ≤ 8 ∧ paN z.2.1 (nI 0) + k ≤ 6 ∧ paN z.2.1 (nI 1) + k ≤ 5
theorem ZA.nm (h : ZA z) : (∀ j, j < 0 → z.2.2.1 j ≠ [120]) ∧ ∀ j, j < 1 → z.2.2.1 j ≠ [121] := ⟨fun j hj => absurd hj (Nat.not_lt_zero _), fun j hj => by
  obtain rfl : j = 0 := by omega
  rw [h.1.2.1]
  decide⟩
theorem me_F {c s sz co og : Int32} {x i : Nat} (h : i ≠ pM z.1 ∨ x < 2 ∨ 6 < x) : pF (meZ z c s sz co og l).1 x i = pF z.1 x i := up5_ne h
theorem me_2 {c s sz co og : Int32} : pF (meZ z c s sz co og l).1 2 (pM z.1) = c := (up5_eq (F := pF z.1) (m := pM z.1) (a := c) (b := s) (c := sz) (e := co) (g := og)).1
theorem me_3 {c s sz co og : Int32} : pF (meZ z c s sz co og l).1 3 (pM z.1) = s := (up5_eq (F := pF z.1) (m := pM z.1) (a := c) (b := s) (c := sz) (e := co) (g := og)).2.1
/-- all ahead of the meals -/
def hdL (a b c s : Nat) : List Nat := ((((((((kby 26 ++ dgL a) ++ [32]) ++ dgL b) ++ kby 27) ++ dgL c) ++ kby 28) ++ dgL s) ++ kby 29)
theorem kb_26 : kby 26 = [116, 105, 109, 101, 32] := by decide +kernel
theorem kb_27 : kby 27 = [59, 108, 101, 97, 100, 32] := by decide +kernel
theorem kb_28 : kby 28 = [59, 99, 97, 98, 105, 110, 32, 120, 32, 54, 32] := by decide +kernel
theorem kb_29 : kby 29 = [59, 99, 97, 98, 105, 110, 32, 121, 32, 53, 59] := by decide +kernel
theorem kb_30 : kby 30 = [109, 101, 97, 108, 32] := by decide +kernel
theorem kb_31 : kby 31 = [32, 115, 112, 101, 99, 105, 97, 108, 32] := by decide +kernel
theorem kb_32 : kby 32 = [32, 109, 101, 110, 117, 32] := by decide +kernel
theorem kb_33 : kby 33 = [120, 32] := by decide +kernel
theorem kb_34 : kby 34 = [121, 32] := by decide +kernel
theorem kb_35 : kby 35 = [32] := by decide +kernel
theorem kb_37 : kby 37 = [32, 111, 102, 102, 101, 114, 115, 32] := by decide +kernel
theorem kb_39 : kby 39 = [116, 114, 111, 108, 108, 101, 121, 32] := by decide +kernel
theorem kb_40 : kby 40 = [103, 117, 101, 115, 116, 115, 32, 120, 32] := by decide +kernel
theorem kb_41 : kby 41 = [59, 103, 117, 101, 115, 116, 115, 32, 121, 32] := by decide +kernel
theorem kb_42 : kby 42 = [103, 117, 101, 115, 116, 32] := by decide +kernel
theorem kb_43 : kby 43 = [120, 32, 110, 101, 101, 100, 115, 32] := by decide +kernel
theorem kb_44 : kby 44 = [121, 32, 110, 101, 101, 100, 115, 32] := by decide +kernel
theorem tx_head {a b c s K : Nat} (hb : b < a) (ha : a < 100) (hc : c < 100) (hs : s ≤ 50) (hK : 4 ≤ K ∧ K ≤ 7) : TxI (ZM K) (hdL a b c s) := fun m0 A0 => by
  have h1 := pz_time (z := rz0 m0 A0) (a := a) (b := b) ⟨by omega, ha⟩ (by omega)
  have h2 := h1.comp (pz_lead (a := c) hc)
  have h3 := h2.comp (pz_cabin (x := 120) (a := 6) (b := s) (by decide) (by decide) hs (show 0 < 4 by decide) (fun j hj => absurd hj (Nat.not_lt_zero _)))
  have h4 := h3.comp (pz_cabin0 (x := 121) (a := 5) (by decide) (by decide) (show 1 < 4 by decide) (fun j hj => by
    have hj : j < 1 := hj
    obtain rfl : j = 0 := by omega
    show up1 (rz0 m0 A0).2.2.1 0 [120] 0 ≠ [121]
    rw [up1_eq]
    decide))
  have e : hdL a b c s = _ := show _ = (116 :: 105 :: 109 :: 101 :: 32 :: (dgL a ++ 32 :: (dgL b ++ [59]))) ++ (108 :: 101 :: 97 :: 100 :: 32 :: (dgL c ++ [59])) ++ (99 :: 97 :: 98 :: 105 :: 110 :: 32 :: 120 :: 32 :: (dgL 6 ++ 32 :: (dgL s ++ [59]))) ++ (99 :: 97 :: 98 :: 105 :: 110 :: 32 :: 121 :: 32 :: (dgL 5 ++ [59])) by
    unfold hdL
    rw [kb_26, kb_27, kb_28, kb_29, show dgL 6 = [54] from rfl, show dgL 5 = [53] from rfl]
    simp only [List.cons_append, List.append_assoc, List.nil_append]
  rw [e]
  refine ⟨_, h4, ?_⟩
  refine ⟨⟨⟨rfl, ?_, ?_, ?_, ?_⟩, ⟨a, b, hb, ha, ?_, ?_⟩, fun m hm => absurd hm (Nat.not_lt_zero _), ⟨rfl, rfl, fun t m => if_neg (by omega)⟩, fun i hi => absurd hi (Nat.not_lt_zero _)⟩, rfl, rfl, by show 4 ≤ 0 + K; omega, by show 0 + K ≤ 7; omega, fun j hj => absurd hj (Nat.not_lt_zero _)⟩
  all_goals first | rfl | (show (if _ then _ else _) = _; simp)
theorem tx_sp0 {k sz co : Nat} (h : TxI (ZM (k + 1)) l) (hsz : 1 ≤ sz ∧ sz ≤ 3) (hco : 1 ≤ co ∧ co ≤ 30) : TxI (ZM k) (((((((l ++ kby 30) ++ [97 + (k + 1)]) ++ kby 31) ++ dgL sz) ++ [32]) ++ dgL co) ++ [59]) := by
  have q := h.step (P2 := ZM k) (fun z hz => by
    obtain ⟨hA, hP, hT, hM1, hM2, hN⟩ := hz
    have hC := hA.1.1
    refine ⟨_, pz_sp0 (w := 97 + (k + 1)) (by omega) hsz hco (show pM z.1 < 12 by omega) (fun j hj => by obtain ⟨x, g1, g2, g3⟩ := hN j hj; rw [g3]; exact fun e => by injection e with e; omega), ?_⟩
    refine ⟨⟨hA.1, hA.2.1.imp fun m q => q.imp fun c g => ⟨g.1, g.2.1, (me_F (Or.inr (Or.inr (by decide)))).trans g.2.2.1, (me_F (Or.inr (Or.inr (by decide)))).trans g.2.2.2⟩, fun m hm => ?_, hA.2.2.2.1, hA.2.2.2.2⟩, hP, hT, by show 4 ≤ pM z.1 + 1 + k; omega, by show pM z.1 + 1 + k ≤ 7; omega, fun j hj => ?_⟩
    · have hm : m < pM z.1 + 1 := hm
      by_cases e : m = pM z.1
      · subst e
        left
        exact me_2
      · rcases hA.2.2.1 m (by omega) with h | ⟨s, a1, a2, a3⟩
        · exact Or.inl ((me_F (Or.inl e)).trans h)
        · exact Or.inr ⟨s, a1, a2, (me_F (Or.inl e)).trans a3⟩
    · have hj : j < pM z.1 + 1 := hj
      show ∃ x, _ ∧ _ ∧ up1 z.2.2.2 (pM z.1) [97 + (k + 1)] j = _
      by_cases e : j = pM z.1
      · rw [e, up1_eq]
        exact ⟨k + 1, by omega, by omega, rfl⟩
      · rw [up1_ne e]
        obtain ⟨x, g1, g2, g3⟩ := hN j (by omega)
        exact ⟨x, by omega, g2, g3⟩)
  rw [kb_30, kb_31]
  simp only [List.cons_append, List.append_assoc, List.nil_append] at q ⊢
  exact q
theorem tx_sp1 {k sz co : Nat} (h : TxI (ZM (k + 1)) l) (hsz : 1 ≤ sz ∧ sz ≤ 3) (hco : 1 ≤ co ∧ co ≤ 30) {d : List Nat} (hd : d ∈ DtL) : TxI (ZM k) (((((((((l ++ kby 30) ++ [97 + (k + 1)]) ++ kby 31) ++ dgL sz) ++ [32]) ++ dgL co) ++ kby 37) ++ d) ++ [59]) := by
  have q := h.step (P2 := ZM k) (fun z hz => by
    obtain ⟨hA, hP, hT, hM1, hM2, hN⟩ := hz
    have hC := hA.1.1
    refine ⟨_, pz_sp1 (w := 97 + (k + 1)) (by omega) hsz hco (show pM z.1 < 12 by omega) (fun j hj => by obtain ⟨x, g1, g2, g3⟩ := hN j hj; rw [g3]; exact fun e => by injection e with e; omega) hd, ?_⟩
    refine ⟨⟨hA.1, hA.2.1.imp fun m q => q.imp fun c g => ⟨g.1, g.2.1, (me_F (Or.inr (Or.inr (by decide)))).trans g.2.2.1, (me_F (Or.inr (Or.inr (by decide)))).trans g.2.2.2⟩, fun m hm => ?_, hA.2.2.2.1, hA.2.2.2.2⟩, hP, hT, by show 4 ≤ pM z.1 + 1 + k; omega, by show pM z.1 + 1 + k ≤ 7; omega, fun j hj => ?_⟩
    · have hm : m < pM z.1 + 1 := hm
      by_cases e : m = pM z.1
      · subst e
        left
        exact me_2
      · rcases hA.2.2.1 m (by omega) with h | ⟨s, a1, a2, a3⟩
        · exact Or.inl ((me_F (Or.inl e)).trans h)
        · exact Or.inr ⟨s, a1, a2, (me_F (Or.inl e)).trans a3⟩
    · have hj : j < pM z.1 + 1 := hj
      show ∃ x, _ ∧ _ ∧ up1 z.2.2.2 (pM z.1) [97 + (k + 1)] j = _
      by_cases e : j = pM z.1
      · rw [e, up1_eq]
        exact ⟨k + 1, by omega, by omega, rfl⟩
      · rw [up1_ne e]
        obtain ⟨x, g1, g2, g3⟩ := hN j (by omega)
        exact ⟨x, by omega, g2, g3⟩)
  rw [kb_30, kb_31, kb_37]
  simp only [List.cons_append, List.append_assoc, List.nil_append] at q ⊢
  exact q
theorem tx_mx0 {k sz co : Nat} (h : TxI (ZM (k + 1)) l) (hsz : 1 ≤ sz ∧ sz ≤ 3) (hco : 1 ≤ co ∧ co ≤ 30) {s : Nat} (hs : 1 ≤ s ∧ s < 100) : TxI (ZM k) (((((((l ++ kby 30) ++ [97 + (k + 1)]) ++ (((kby 32 ++ kby 33) ++ dgL s) ++ kby 35)) ++ dgL sz) ++ [32]) ++ dgL co) ++ [59]) := by
  have q := h.step (P2 := ZM k) (fun z hz => by
    obtain ⟨hA, hP, hT, hM1, hM2, hN⟩ := hz
    have hC := hA.1.1
    refine ⟨_, pz_me0 (w := 97 + (k + 1)) (by omega) hsz hco (show pM z.1 < 12 by omega) (fun j hj => by obtain ⟨x, g1, g2, g3⟩ := hN j hj; rw [g3]; exact fun e => by injection e with e; omega) (x := 120) (i := 0) (by decide) hs (by omega) hA.1.2.1 hA.nm.1, ?_⟩
    refine ⟨⟨hA.1, hA.2.1.imp fun m q => q.imp fun c g => ⟨g.1, g.2.1, (me_F (Or.inr (Or.inr (by decide)))).trans g.2.2.1, (me_F (Or.inr (Or.inr (by decide)))).trans g.2.2.2⟩, fun m hm => ?_, hA.2.2.2.1, hA.2.2.2.2⟩, hP, hT, by show 4 ≤ pM z.1 + 1 + k; omega, by show pM z.1 + 1 + k ≤ 7; omega, fun j hj => ?_⟩
    · have hm : m < pM z.1 + 1 := hm
      by_cases e : m = pM z.1
      · subst e
        right
        exact ⟨s, hs.1, hs.2, me_3⟩
      · rcases hA.2.2.1 m (by omega) with h | ⟨s, a1, a2, a3⟩
        · exact Or.inl ((me_F (Or.inl e)).trans h)
        · exact Or.inr ⟨s, a1, a2, (me_F (Or.inl e)).trans a3⟩
    · have hj : j < pM z.1 + 1 := hj
      show ∃ x, _ ∧ _ ∧ up1 z.2.2.2 (pM z.1) [97 + (k + 1)] j = _
      by_cases e : j = pM z.1
      · rw [e, up1_eq]
        exact ⟨k + 1, by omega, by omega, rfl⟩
      · rw [up1_ne e]
        obtain ⟨x, g1, g2, g3⟩ := hN j (by omega)
        exact ⟨x, by omega, g2, g3⟩)
  rw [kb_30, kb_32, kb_33, kb_35]
  simp only [List.cons_append, List.append_assoc, List.nil_append] at q ⊢
  exact q
theorem tx_mx1 {k sz co : Nat} (h : TxI (ZM (k + 1)) l) (hsz : 1 ≤ sz ∧ sz ≤ 3) (hco : 1 ≤ co ∧ co ≤ 30) {s : Nat} (hs : 1 ≤ s ∧ s < 100) {d : List Nat} (hd : d ∈ DtL) : TxI (ZM k) (((((((((l ++ kby 30) ++ [97 + (k + 1)]) ++ (((kby 32 ++ kby 33) ++ dgL s) ++ kby 35)) ++ dgL sz) ++ [32]) ++ dgL co) ++ kby 37) ++ d) ++ [59]) := by
  have q := h.step (P2 := ZM k) (fun z hz => by
    obtain ⟨hA, hP, hT, hM1, hM2, hN⟩ := hz
    have hC := hA.1.1
    refine ⟨_, pz_me1 (w := 97 + (k + 1)) (by omega) hsz hco (show pM z.1 < 12 by omega) (fun j hj => by obtain ⟨x, g1, g2, g3⟩ := hN j hj; rw [g3]; exact fun e => by injection e with e; omega) (x := 120) (i := 0) (by decide) hs (by omega) hA.1.2.1 hA.nm.1 hd, ?_⟩
    refine ⟨⟨hA.1, hA.2.1.imp fun m q => q.imp fun c g => ⟨g.1, g.2.1, (me_F (Or.inr (Or.inr (by decide)))).trans g.2.2.1, (me_F (Or.inr (Or.inr (by decide)))).trans g.2.2.2⟩, fun m hm => ?_, hA.2.2.2.1, hA.2.2.2.2⟩, hP, hT, by show 4 ≤ pM z.1 + 1 + k; omega, by show pM z.1 + 1 + k ≤ 7; omega, fun j hj => ?_⟩
    · have hm : m < pM z.1 + 1 := hm
      by_cases e : m = pM z.1
      · subst e
        right
        exact ⟨s, hs.1, hs.2, me_3⟩
      · rcases hA.2.2.1 m (by omega) with h | ⟨s, a1, a2, a3⟩
        · exact Or.inl ((me_F (Or.inl e)).trans h)
        · exact Or.inr ⟨s, a1, a2, (me_F (Or.inl e)).trans a3⟩
    · have hj : j < pM z.1 + 1 := hj
      show ∃ x, _ ∧ _ ∧ up1 z.2.2.2 (pM z.1) [97 + (k + 1)] j = _
      by_cases e : j = pM z.1
      · rw [e, up1_eq]
        exact ⟨k + 1, by omega, by omega, rfl⟩
      · rw [up1_ne e]
        obtain ⟨x, g1, g2, g3⟩ := hN j (by omega)
        exact ⟨x, by omega, g2, g3⟩)
  rw [kb_30, kb_32, kb_33, kb_35, kb_37]
  simp only [List.cons_append, List.append_assoc, List.nil_append] at q ⊢
  exact q
theorem tx_my0 {k sz co : Nat} (h : TxI (ZM (k + 1)) l) (hsz : 1 ≤ sz ∧ sz ≤ 3) (hco : 1 ≤ co ∧ co ≤ 30) {s : Nat} (hs : 1 ≤ s ∧ s < 100) : TxI (ZM k) (((((((l ++ kby 30) ++ [97 + (k + 1)]) ++ (((kby 32 ++ kby 34) ++ dgL s) ++ kby 35)) ++ dgL sz) ++ [32]) ++ dgL co) ++ [59]) := by
  have q := h.step (P2 := ZM k) (fun z hz => by
    obtain ⟨hA, hP, hT, hM1, hM2, hN⟩ := hz
    have hC := hA.1.1
    refine ⟨_, pz_me0 (w := 97 + (k + 1)) (by omega) hsz hco (show pM z.1 < 12 by omega) (fun j hj => by obtain ⟨x, g1, g2, g3⟩ := hN j hj; rw [g3]; exact fun e => by injection e with e; omega) (x := 121) (i := 1) (by decide) hs (by omega) hA.1.2.2.1 hA.nm.2, ?_⟩
    refine ⟨⟨hA.1, hA.2.1.imp fun m q => q.imp fun c g => ⟨g.1, g.2.1, (me_F (Or.inr (Or.inr (by decide)))).trans g.2.2.1, (me_F (Or.inr (Or.inr (by decide)))).trans g.2.2.2⟩, fun m hm => ?_, hA.2.2.2.1, hA.2.2.2.2⟩, hP, hT, by show 4 ≤ pM z.1 + 1 + k; omega, by show pM z.1 + 1 + k ≤ 7; omega, fun j hj => ?_⟩
    · have hm : m < pM z.1 + 1 := hm
      by_cases e : m = pM z.1
      · subst e
        right
        exact ⟨s, hs.1, hs.2, me_3⟩
      · rcases hA.2.2.1 m (by omega) with h | ⟨s, a1, a2, a3⟩
        · exact Or.inl ((me_F (Or.inl e)).trans h)
        · exact Or.inr ⟨s, a1, a2, (me_F (Or.inl e)).trans a3⟩
    · have hj : j < pM z.1 + 1 := hj
      show ∃ x, _ ∧ _ ∧ up1 z.2.2.2 (pM z.1) [97 + (k + 1)] j = _
      by_cases e : j = pM z.1
      · rw [e, up1_eq]
        exact ⟨k + 1, by omega, by omega, rfl⟩
      · rw [up1_ne e]
        obtain ⟨x, g1, g2, g3⟩ := hN j (by omega)
        exact ⟨x, by omega, g2, g3⟩)
  rw [kb_30, kb_32, kb_34, kb_35]
  simp only [List.cons_append, List.append_assoc, List.nil_append] at q ⊢
  exact q
theorem tx_my1 {k sz co : Nat} (h : TxI (ZM (k + 1)) l) (hsz : 1 ≤ sz ∧ sz ≤ 3) (hco : 1 ≤ co ∧ co ≤ 30) {s : Nat} (hs : 1 ≤ s ∧ s < 100) {d : List Nat} (hd : d ∈ DtL) : TxI (ZM k) (((((((((l ++ kby 30) ++ [97 + (k + 1)]) ++ (((kby 32 ++ kby 34) ++ dgL s) ++ kby 35)) ++ dgL sz) ++ [32]) ++ dgL co) ++ kby 37) ++ d) ++ [59]) := by
  have q := h.step (P2 := ZM k) (fun z hz => by
    obtain ⟨hA, hP, hT, hM1, hM2, hN⟩ := hz
    have hC := hA.1.1
    refine ⟨_, pz_me1 (w := 97 + (k + 1)) (by omega) hsz hco (show pM z.1 < 12 by omega) (fun j hj => by obtain ⟨x, g1, g2, g3⟩ := hN j hj; rw [g3]; exact fun e => by injection e with e; omega) (x := 121) (i := 1) (by decide) hs (by omega) hA.1.2.2.1 hA.nm.2 hd, ?_⟩
    refine ⟨⟨hA.1, hA.2.1.imp fun m q => q.imp fun c g => ⟨g.1, g.2.1, (me_F (Or.inr (Or.inr (by decide)))).trans g.2.2.1, (me_F (Or.inr (Or.inr (by decide)))).trans g.2.2.2⟩, fun m hm => ?_, hA.2.2.2.1, hA.2.2.2.2⟩, hP, hT, by show 4 ≤ pM z.1 + 1 + k; omega, by show pM z.1 + 1 + k ≤ 7; omega, fun j hj => ?_⟩
    · have hm : m < pM z.1 + 1 := hm
      by_cases e : m = pM z.1
      · subst e
        right
        exact ⟨s, hs.1, hs.2, me_3⟩
      · rcases hA.2.2.1 m (by omega) with h | ⟨s, a1, a2, a3⟩
        · exact Or.inl ((me_F (Or.inl e)).trans h)
        · exact Or.inr ⟨s, a1, a2, (me_F (Or.inl e)).trans a3⟩
    · have hj : j < pM z.1 + 1 := hj
      show ∃ x, _ ∧ _ ∧ up1 z.2.2.2 (pM z.1) [97 + (k + 1)] j = _
      by_cases e : j = pM z.1
      · rw [e, up1_eq]
        exact ⟨k + 1, by omega, by omega, rfl⟩
      · rw [up1_ne e]
        obtain ⟨x, g1, g2, g3⟩ := hN j (by omega)
        exact ⟨x, by omega, g2, g3⟩)
  rw [kb_30, kb_32, kb_34, kb_35, kb_37]
  simp only [List.cons_append, List.append_assoc, List.nil_append] at q ⊢
  exact q
theorem ZM.tt {k : Nat} (hk : k ≤ 4) (h : ZM 0 z) : ZT k z := ⟨h.1, h.2.1, h.2.2.2.1, h.2.2.2.2.1, by rw [h.2.2.1]; omega⟩
theorem TxI.mono (h : TxI P1 l) (hs : ∀ z, P1 z → P2 z) : TxI P2 l := fun m0 A0 => (h m0 A0).imp fun z g => ⟨g.1, hs z g.2⟩
theorem tx_tx {k a : Nat} (h : TxI (ZT (k + 1)) l) (ha : 1 ≤ a ∧ a ≤ 40) : TxI (ZT k) ((((l ++ kby 39) ++ kby 33) ++ dgL a) ++ [59]) := by
  have q := h.step (P2 := ZT k) (fun z hz => by
    obtain ⟨hA, hP, hM1, hM2, hT⟩ := hz
    have hC := hA.1.1
    refine ⟨_, pz_trolley (x := 120) (i := 0) (by decide) ha (by omega) (by omega) hA.1.2.1 hA.nm.1, ?_⟩
    have e : ∀ x i, x ≠ 7 → x ≠ 8 → up2 (up2 (pF z.1) 7 (pT z.1) (nI 0)) 8 (pT z.1) (nI a) x i = pF z.1 x i := fun x i h7 h8 => by rw [up2_ne (by omega), up2_ne (by omega)]
    refine ⟨⟨⟨hC, hA.1.2.1, hA.1.2.2.1, (e 0 0 (by decide) (by decide)).trans hA.1.2.2.2.1, (e 0 1 (by decide) (by decide)).trans hA.1.2.2.2.2⟩, hA.2.1.imp fun m q => q.imp fun c g => ⟨g.1, g.2.1, (e 9 1 (by decide) (by decide)).trans g.2.2.1, (e 9 2 (by decide) (by decide)).trans g.2.2.2⟩, fun m hm => ?_, hA.2.2.2.1, hA.2.2.2.2⟩, hP, hM1, hM2, by show pT z.1 + 1 + k ≤ 4; omega⟩
    rcases hA.2.2.1 m hm with h | ⟨s, a1, a2, a3⟩
    · exact Or.inl ((e 2 m (by decide) (by decide)).trans h)
    · exact Or.inr ⟨s, a1, a2, (e 3 m (by decide) (by decide)).trans a3⟩)
  rw [kb_39, kb_33]
  simp only [List.cons_append, List.append_assoc, List.nil_append] at q ⊢
  exact q
theorem tx_ty {k a : Nat} (h : TxI (ZT (k + 1)) l) (ha : 1 ≤ a ∧ a ≤ 40) : TxI (ZT k) ((((l ++ kby 39) ++ kby 34) ++ dgL a) ++ [59]) := by
  have q := h.step (P2 := ZT k) (fun z hz => by
    obtain ⟨hA, hP, hM1, hM2, hT⟩ := hz
    have hC := hA.1.1
    refine ⟨_, pz_trolley (x := 121) (i := 1) (by decide) ha (by omega) (by omega) hA.1.2.2.1 hA.nm.2, ?_⟩
    have e : ∀ x i, x ≠ 7 → x ≠ 8 → up2 (up2 (pF z.1) 7 (pT z.1) (nI 1)) 8 (pT z.1) (nI a) x i = pF z.1 x i := fun x i h7 h8 => by rw [up2_ne (by omega), up2_ne (by omega)]
    refine ⟨⟨⟨hC, hA.1.2.1, hA.1.2.2.1, (e 0 0 (by decide) (by decide)).trans hA.1.2.2.2.1, (e 0 1 (by decide) (by decide)).trans hA.1.2.2.2.2⟩, hA.2.1.imp fun m q => q.imp fun c g => ⟨g.1, g.2.1, (e 9 1 (by decide) (by decide)).trans g.2.2.1, (e 9 2 (by decide) (by decide)).trans g.2.2.2⟩, fun m hm => ?_, hA.2.2.2.1, hA.2.2.2.2⟩, hP, hM1, hM2, by show pT z.1 + 1 + k ≤ 4; omega⟩
    rcases hA.2.2.1 m hm with h | ⟨s, a1, a2, a3⟩
    · exact Or.inl ((e 2 m (by decide) (by decide)).trans h)
    · exact Or.inr ⟨s, a1, a2, (e 3 m (by decide) (by decide)).trans a3⟩)
  rw [kb_39, kb_34]
  simp only [List.cons_append, List.append_assoc, List.nil_append] at q ⊢
  exact q
/-- one seat more -/
theorem pa_seat (d : FDt) (c n v x : Int32) : paN (seatD d c n v) x = paN d x + (if c = x then 1 else 0) := by
  unfold paN
  show fb_ct (fun i => decide (dF (seatD d c n v) 0 i = x)) (dP d + 1) = _
  rw [fb_ct_succ]
  have e1 : fb_ct (fun i => decide (dF (seatD d c n v) 0 i = x)) (dP d) = fb_ct (fun i => decide (dF d 0 i = x)) (dP d) := fb_ct_cong fun k hk => by
    rw [show dF (seatD d c n v) 0 k = dF d 0 k from by
      show up2 (up2 (up2 (dF d) 0 (dP d) c) 1 (dP d) n) 2 (dP d) v 0 k = _
      rw [up2_ne (by omega), up2_ne (by omega), up2_ne (by omega)]]
  have e2 : dF (seatD d c n v) 0 (dP d) = c := by
    show up2 (up2 (up2 (dF d) 0 (dP d) c) 1 (dP d) n) 2 (dP d) v 0 (dP d) = _
    rw [up2_ne (by omega), up2_ne (by omega), up2_eq]
  rw [e1, e2]
  congr 1
  by_cases z : c = x
  · rw [if_pos z, if_pos (decide_eq_true z)]
  · rw [if_neg z, if_neg (by rw [decide_eq_true_eq]; exact z)]
theorem ZA.seat {c : Nat} {n : Int32} (h : ZA z) : ZA (z.1, seatD z.2.1 (nI c) n (-1), z.2.2.1, z.2.2.2) := by
  have e : ∀ a i, 3 ≤ a → dF (seatD z.2.1 (nI c) n (-1)) a i = dF z.2.1 a i := fun a i ha => by
    show up2 (up2 (up2 (dF z.2.1) 0 (dP z.2.1) (nI c)) 1 (dP z.2.1) n) 2 (dP z.2.1) (-1) a i = _
    rw [up2_ne (by omega), up2_ne (by omega), up2_ne (by omega)]
  refine ⟨h.1, h.2.1, h.2.2.1, ⟨h.2.2.2.1.1, (e 6 0 (by decide)).trans h.2.2.2.1.2.1, fun t m => (e (7 + t) m (by omega)).trans (h.2.2.2.1.2.2 t m)⟩, fun i hi => ?_⟩
  have hi : i < dP z.2.1 + 1 := hi
  show up2 (up2 (up2 (dF z.2.1) 0 (dP z.2.1) (nI c)) 1 (dP z.2.1) n) 2 (dP z.2.1) (-1) 2 i = -1
  by_cases q : i = dP z.2.1
  · rw [q, up2_eq]
  · rw [up2_ne (by omega), up2_ne (by omega), up2_ne (by omega)]
    exact h.2.2.2.2 i (by omega)
theorem ZA.seats {c : Nat} (h : ZA z) : ∀ k, ZA (z.1, seatsD z.2.1 c k, z.2.2.1, z.2.2.2) ∧ ∀ x, paN (seatsD z.2.1 c k) x = paN z.2.1 x + (if nI c = x then k else 0)
  | 0 => ⟨h, fun x => by show paN z.2.1 x = _; split <;> rfl⟩
  | k + 1 => by
    obtain ⟨h1, h2⟩ := ZA.seats (c := c) h k
    refine ⟨ZA.seat (c := c) (n := 0) h1, fun x => ?_⟩
    show paN (seatD (seatsD z.2.1 c k) (nI c) 0 (-1)) x = _
    rw [pa_seat, h2]
    split <;> omega
/-- seats that are left -/
theorem fr_le {c s g : Nat} (hs : pF z.1 0 c = nI s) (h4 : s < 100) (h : paN z.2.1 (nI c) + g ≤ s) : ¬ frD z c < nI g := by
  unfold frD
  rw [hs, paD_N, pk_sub (by omega)]
  exact nI_nlt (by omega) (by omega)
theorem tx_gs {g1 g2 : Nat} (h : TxI (ZT 0) l) (h1 : 1 ≤ g1 ∧ g1 ≤ 3) (h2 : 1 ≤ g2 ∧ g2 ≤ 2) : TxI (ZG 3) ((((((l ++ kby 40) ++ dgL g1) ++ kby 41) ++ dgL g2) ++ [59])) := by
  have q := h.step (P2 := ZG 3) (fun z hz => by
    obtain ⟨hA, hP, hM1, hM2, hT⟩ := hz
    have hC := hA.1.1
    have hp0 : ∀ x, paN z.2.1 x = 0 := fun x => by unfold paN; rw [hP]; rfl
    obtain ⟨hB1, hB2⟩ := ZA.seats (c := 0) hA g1
    obtain ⟨hD1, hD2⟩ := ZA.seats (c := 1) hB1 g2
    refine ⟨_, (pz_guests (x := 120) (i := 0) (a := g1) (by decide) (by omega) (by omega) hA.1.2.1 hA.nm.1 (fr_le hA.1.2.2.2.1 (by decide) (by rw [hp0]; omega)) (by omega)).comp (pz_guests (x := 121) (i := 1) (a := g2) (by decide) (by omega) (show 1 < pC z.1 by omega) hA.1.2.2.1 hA.nm.2 (fr_le (z := (z.1, seatsD z.2.1 0 g1, z.2.2.1, z.2.2.2)) hA.1.2.2.2.2 (by decide) (by
      show paN (seatsD z.2.1 0 g1) (nI 1) + g2 ≤ 5
      rw [hB2, hp0, if_neg (by decide)]
      omega)) (by show dP (seatsD z.2.1 0 g1) + g2 ≤ 40; rw [seatsD_P]; omega)), ?_⟩
    refine ⟨hD1, hM1, hM2, ?_, ?_, ?_, ?_⟩
    · show 2 ≤ dP (seatsD (seatsD z.2.1 0 g1) 1 g2)
      rw [seatsD_P, seatsD_P]; omega
    · show dP (seatsD (seatsD z.2.1 0 g1) 1 g2) + 3 ≤ 8
      rw [seatsD_P, seatsD_P]; omega
    · show paN (seatsD (seatsD z.2.1 0 g1) 1 g2) (nI 0) + 3 ≤ 6
      rw [hD2]
      show paN (seatsD z.2.1 0 g1) (nI 0) + _ + 3 ≤ 6
      rw [hB2, hp0, if_pos rfl, if_neg (by decide)]
      omega
    · show paN (seatsD (seatsD z.2.1 0 g1) 1 g2) (nI 1) + 3 ≤ 5
      rw [hD2]
      show paN (seatsD z.2.1 0 g1) (nI 1) + _ + 3 ≤ 5
      rw [hB2, hp0, if_pos rfl, if_neg (by decide)]
      omega)
  rw [kb_40, kb_41]
  simp only [List.cons_append, List.append_assoc, List.nil_append] at q ⊢
  exact q
theorem TxI.gk {k : Nat} (hk : k ≤ 3) (h : TxI (ZG 3) l) : TxI (ZG k) l := h.mono fun z g => ⟨g.1, g.2.1, g.2.2.1, g.2.2.2.1, by have := g.2.2.2.2.1; omega, by have := g.2.2.2.2.2.1; omega, by have := g.2.2.2.2.2.2; omega⟩
theorem tx_gx {k : Nat} {d : List Nat} (h : TxI (ZG (k + 1)) l) (hd : d ∈ DtL) : TxI (ZG k) ((((l ++ kby 42) ++ kby 43) ++ d) ++ [59]) := by
  have q := h.step (P2 := ZG k) (fun z hz => by
    obtain ⟨hA, hM1, hM2, hP1, hP2, hx, hy⟩ := hz
    have hC := hA.1.1
    refine ⟨_, pz_guest (x := 120) (i := 0) (by decide) hd (by omega) hA.1.2.1 hA.nm.1 (fr_le (g := 1) hA.1.2.2.2.1 (by decide) (by omega)) (by omega), ?_⟩
    refine ⟨ZA.seat hA, hM1, hM2, by show 2 ≤ dP z.2.1 + 1; omega, by show dP z.2.1 + 1 + k ≤ 8; omega, ?_, ?_⟩
    · show paN (seatD z.2.1 (nI 0) (nI (dtV d)) (-1)) (nI 0) + k ≤ 6
      rw [pa_seat]
      split <;> omega
    · show paN (seatD z.2.1 (nI 0) (nI (dtV d)) (-1)) (nI 1) + k ≤ 5
      rw [pa_seat]
      split <;> omega)
  rw [kb_42, kb_43]
  simp only [List.cons_append, List.append_assoc, List.nil_append] at q ⊢
  exact q
theorem tx_gy {k : Nat} {d : List Nat} (h : TxI (ZG (k + 1)) l) (hd : d ∈ DtL) : TxI (ZG k) ((((l ++ kby 42) ++ kby 44) ++ d) ++ [59]) := by
  have q := h.step (P2 := ZG k) (fun z hz => by
    obtain ⟨hA, hM1, hM2, hP1, hP2, hx, hy⟩ := hz
    have hC := hA.1.1
    refine ⟨_, pz_guest (x := 121) (i := 1) (by decide) hd (by omega) hA.1.2.2.1 hA.nm.2 (fr_le (g := 1) hA.1.2.2.2.2 (by decide) (by omega)) (by omega), ?_⟩
    refine ⟨ZA.seat hA, hM1, hM2, by show 2 ≤ dP z.2.1 + 1; omega, by show dP z.2.1 + 1 + k ≤ 8; omega, ?_, ?_⟩
    · show paN (seatD z.2.1 (nI 1) (nI (dtV d)) (-1)) (nI 0) + k ≤ 6
      rw [pa_seat]
      split <;> omega
    · show paN (seatD z.2.1 (nI 1) (nI (dtV d)) (-1)) (nI 1) + k ≤ 5
      rw [pa_seat]
      split <;> omega)
  rw [kb_42, kb_44]
  simp only [List.cons_append, List.append_assoc, List.nil_append] at q ⊢
  exact q
end FLT
