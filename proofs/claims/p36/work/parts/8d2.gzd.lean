section GZD
variable {B : Nat → Nat} {n p : Nat} {z : PZ}
theorem gz0 (m0 : Int32) (A0 : Nat → Int64) : GzD (rz0 m0 A0) := by
  refine ⟨⟨⟨Nat.zero_le _, Nat.zero_le _, Nat.zero_le _⟩, fun i hi => absurd hi (Nat.not_lt_zero i), fun i hi => absurd hi (Nat.not_lt_zero i), fun i hi => absurd hi (Nat.not_lt_zero i), ⟨10, by decide, rfl⟩, ⟨120, by decide, rfl⟩, ⟨30, by decide, rfl⟩, Or.inr rfl, fun _ => ⟨rfl, rfl, rfl⟩⟩, rfl, ⟨120, by decide, by decide, rfl⟩, rfl, Nat.zero_le _, fun i hi => absurd hi (Nat.not_lt_zero i), fun t k ht => ?_, rfl, fun i hi => absurd hi (Nat.not_lt_zero i), fun i hi => absurd hi (Nat.not_lt_zero i), fun c hc => absurd hc (Nat.not_lt_zero c)⟩
  show (if t = 6 ∧ k = 1 then m0 else 0) = 0
  rw [if_neg (by omega)]
theorem gz_pset (h : GzD z) {i v : Nat} (hi : (i = 1 ∧ 1 ≤ v ∧ v ≤ 999) ∨ (i = 2 ∧ v ≤ 999) ∨ (i = 3 ∧ v ≤ 99)) : GzD (pset z.1 9 i (nI v), z.2) := by
  have hu : ∀ a k, a ≠ 9 → pF (pset z.1 9 i (nI v)) a k = pF z.1 a k := fun a k y => if_neg (fun q => y q.1)
  have h9 : ∀ k, k ≠ i → pF (pset z.1 9 i (nI v)) 9 k = pF z.1 9 k := fun k y => if_neg (fun q => y q.2)
  have hi9 : pF (pset z.1 9 i (nI v)) 9 i = nI v := if_pos ⟨rfl, rfl⟩
  obtain ⟨⟨g1, g2, g3, g4, ⟨l3, k3, e3⟩, ⟨l1, k1, e1⟩, ⟨l2, k2, e2⟩, g8, g9⟩, t, ⟨m, m1, m2, em⟩, r1, r2, r3, r4, r5, r6, r7, r8⟩ := h
  refine ⟨⟨g1, fun j hj => ?_, fun j hj => ?_, fun j hj => ?_, ?_, ?_, ?_, ?_, ?_⟩, ?_, ?_, r1, r2, r3, r4, r5, r6, r7, fun c hc => ?_⟩
  · rw [hu _ _ (by decide), hu _ _ (by decide)]; exact g2 j hj
  · rw [hu _ _ (by decide), hu _ _ (by decide), hu _ _ (by decide), hu _ _ (by decide), hu _ _ (by decide)]; exact g3 j hj
  · rw [hu _ _ (by decide), hu _ _ (by decide)]; exact g4 j hj
  · by_cases hx : i = 3
    · subst hx; exact ⟨v, by omega, hi9⟩
    · exact ⟨l3, k3, (h9 3 (Ne.symm hx)).trans e3⟩
  · by_cases hx : i = 1
    · subst hx; exact ⟨v, by omega, hi9⟩
    · exact ⟨l1, k1, (h9 1 (Ne.symm hx)).trans e1⟩
  · by_cases hx : i = 2
    · subst hx; exact ⟨v, by omega, hi9⟩
    · exact ⟨l2, k2, (h9 2 (Ne.symm hx)).trans e2⟩
  · rw [h9 0 (by omega)]; exact g8
  · rw [h9 0 (by omega)]; exact g9
  · rw [h9 0 (by omega)]; exact t
  · by_cases hx : i = 1
    · subst hx; exact ⟨v, by omega, by omega, hi9⟩
    · exact ⟨m, m1, m2, (h9 1 (Ne.symm hx)).trans em⟩
  · rw [hu _ _ (by decide)]; exact r8 c hc
theorem gz_trolley (h : GzD z) (hT : pT z.1 < 8) {c s : Nat} (hc : c < pC z.1) (hs : s ≤ 40) : GzD ((pC z.1, pM z.1, pT z.1 + 1, up2 (up2 (pF z.1) 7 (pT z.1) (nI c)) 8 (pT z.1) (nI s)), z.2) := by
  have hu : ∀ a k, a < 7 ∨ 8 < a → up2 (up2 (pF z.1) 7 (pT z.1) (nI c)) 8 (pT z.1) (nI s) a k = pF z.1 a k := fun a k y => by rw [up2_ne (by omega), up2_ne (by omega)]
  obtain ⟨⟨g1, g2, g3, g4, ⟨l3, k3, e3⟩, ⟨l1, k1, e1⟩, ⟨l2, k2, e2⟩, g8, g9⟩, t, ⟨m, m1, m2, em⟩, r1, r2, r3, r4, r5, r6, r7, r8⟩ := h
  refine ⟨⟨⟨g1.1, g1.2.1, hT⟩, fun j hj => ?_, fun j hj => ?_, fun j hj => ?_, ⟨l3, k3, (hu 9 3 (by decide)).trans e3⟩, ⟨l1, k1, (hu 9 1 (by decide)).trans e1⟩, ⟨l2, k2, (hu 9 2 (by decide)).trans e2⟩, Or.inr ((hu 9 0 (by decide)).trans t), fun q => absurd (((hu 9 0 (by decide)).trans t).symm.trans q) (by decide)⟩, (hu 9 0 (by decide)).trans t, ⟨m, m1, m2, (hu 9 1 (by decide)).trans em⟩, r1, r2, r3, r4, r5, r6, r7, fun c hc => ?_⟩
  · obtain ⟨⟨s1, a1, a2, ea⟩, ⟨s2, b1, eb⟩⟩ := g2 j hj
    exact ⟨⟨s1, a1, a2, (hu 0 j (by decide)).trans ea⟩, ⟨s2, b1, (hu 1 j (by decide)).trans eb⟩⟩
  · have := g3 j hj
    show (up2 (up2 (pF z.1) 7 (pT z.1) (nI c)) 8 (pT z.1) (nI s) 2 j = -1 ∨ ∃ c', c' < pC z.1 ∧ up2 (up2 (pF z.1) 7 (pT z.1) (nI c)) 8 (pT z.1) (nI s) 2 j = nI c') ∧ (∃ x, x ≤ 99 ∧ up2 (up2 (pF z.1) 7 (pT z.1) (nI c)) 8 (pT z.1) (nI s) 3 j = nI x) ∧ (∃ x, 1 ≤ x ∧ x ≤ 3 ∧ up2 (up2 (pF z.1) 7 (pT z.1) (nI c)) 8 (pT z.1) (nI s) 4 j = nI x) ∧ (∃ x, x ≤ 9999 ∧ up2 (up2 (pF z.1) 7 (pT z.1) (nI c)) 8 (pT z.1) (nI s) 5 j = nI x) ∧ ∃ x, x < 256 ∧ up2 (up2 (pF z.1) 7 (pT z.1) (nI c)) 8 (pT z.1) (nI s) 6 j = nI x
    rw [hu 2 _ (by decide), hu 3 _ (by decide), hu 4 _ (by decide), hu 5 _ (by decide), hu 6 _ (by decide)]; exact this
  · have hj : j < pT z.1 + 1 := hj
    show (∃ c', c' < pC z.1 ∧ up2 (up2 (pF z.1) 7 (pT z.1) (nI c)) 8 (pT z.1) (nI s) 7 j = nI c') ∧ ∃ x, x ≤ 40 ∧ up2 (up2 (pF z.1) 7 (pT z.1) (nI c)) 8 (pT z.1) (nI s) 8 j = nI x
    by_cases hx : j = pT z.1
    · subst hx
      rw [up2_ne (by omega), up2_eq, up2_eq]
      exact ⟨⟨c, hc, rfl⟩, s, hs, rfl⟩
    · rw [up2_ne (by omega), up2_ne (by omega), up2_ne (by omega), up2_ne (by omega)]
      exact g4 j (by omega)
  · obtain ⟨x, x1, ex, x2⟩ := r8 c hc
    exact ⟨x, x1, (hu 0 c (by decide)).trans ex, x2⟩
theorem NaL.tk (hp : p ≤ n) (h : tkK B n p = 1 ∧ (tkL B n p).length ≤ 6) : NaL (tkL B n p) := ⟨tkL_lt h.1, tkL_ne hp h.1, h.2⟩
theorem paN_no {d : FDt} {C c : Nat} (h : ∀ i, i < dP d → ∃ c, c < C ∧ dF d 0 i = nI c) (hC : C ≤ c) (hc : c < 2 ^ 31) : paN d (nI c) = 0 := by
  unfold paN
  rw [fb_ct_zero]
  intro k hk
  obtain ⟨x, hx, e⟩ := h k hk
  rw [decide_eq_false]
  intro q
  rw [e] at q
  have := (nI_eqI (by omega) hc).mp q
  omega
theorem gz_cabin (h : GzD z) (hC : pC z.1 < 4) {s sp : Nat} (h1 : 1 ≤ s) (hs : s ≤ 40) (hsp : sp ≤ 50) {l : List Nat} (hl : NaL l) : GzD (caZ z (nI s) (nI sp) l) := by
  have hu : ∀ a k, 1 < a → up2 (up2 (pF z.1) 0 (pC z.1) (nI s)) 1 (pC z.1) (nI sp) a k = pF z.1 a k := fun a k y => by rw [up2_ne (by omega), up2_ne (by omega)]
  obtain ⟨⟨g1, g2, g3, g4, ⟨l3, k3, e3⟩, ⟨l1, k1, e1⟩, ⟨l2, k2, e2⟩, g8, g9⟩, t, ⟨m, m1, m2, em⟩, r1, r2, r3, r4, r5, r6, r7, r8⟩ := h
  have hc2 : ∀ j, j ≠ pC z.1 → up2 (up2 (pF z.1) 0 (pC z.1) (nI s)) 1 (pC z.1) (nI sp) 0 j = pF z.1 0 j ∧ up2 (up2 (pF z.1) 0 (pC z.1) (nI s)) 1 (pC z.1) (nI sp) 1 j = pF z.1 1 j := fun j hx => ⟨by rw [up2_ne (by omega), up2_ne (by omega)], by rw [up2_ne (by omega), up2_ne (by omega)]⟩
  have hc3 : up2 (up2 (pF z.1) 0 (pC z.1) (nI s)) 1 (pC z.1) (nI sp) 0 (pC z.1) = nI s ∧ up2 (up2 (pF z.1) 0 (pC z.1) (nI s)) 1 (pC z.1) (nI sp) 1 (pC z.1) = nI sp := ⟨by rw [up2_ne (by omega), up2_eq], by rw [up2_eq]⟩
  refine ⟨⟨⟨hC, g1.2.1, g1.2.2⟩, fun j hj => ?_, fun j hj => ?_, fun j hj => ?_, ⟨l3, k3, (hu 9 3 (by decide)).trans e3⟩, ⟨l1, k1, (hu 9 1 (by decide)).trans e1⟩, ⟨l2, k2, (hu 9 2 (by decide)).trans e2⟩, Or.inr ((hu 9 0 (by decide)).trans t), fun q => absurd (((hu 9 0 (by decide)).trans t).symm.trans q) (by decide)⟩, (hu 9 0 (by decide)).trans t, ⟨m, m1, m2, (hu 9 1 (by decide)).trans em⟩, r1, r2, fun i hi => ?_, r4, r5, fun i hi => ?_, r7, fun c hc => ?_⟩
  · have hj : j < pC z.1 + 1 := hj
    show (∃ x, 1 ≤ x ∧ x ≤ 40 ∧ up2 (up2 (pF z.1) 0 (pC z.1) (nI s)) 1 (pC z.1) (nI sp) 0 j = nI x) ∧ ∃ x, x ≤ 50 ∧ up2 (up2 (pF z.1) 0 (pC z.1) (nI s)) 1 (pC z.1) (nI sp) 1 j = nI x
    by_cases hx : j = pC z.1
    · subst hx
      rw [hc3.1, hc3.2]
      exact ⟨⟨s, h1, hs, rfl⟩, sp, hsp, rfl⟩
    · rw [(hc2 j hx).1, (hc2 j hx).2]
      exact g2 j (by omega)
  · obtain ⟨q1, q2, q3, q4, q5⟩ := g3 j hj
    show (up2 (up2 (pF z.1) 0 (pC z.1) (nI s)) 1 (pC z.1) (nI sp) 2 j = -1 ∨ ∃ c', c' < pC z.1 + 1 ∧ up2 (up2 (pF z.1) 0 (pC z.1) (nI s)) 1 (pC z.1) (nI sp) 2 j = nI c') ∧ (∃ x, x ≤ 99 ∧ up2 (up2 (pF z.1) 0 (pC z.1) (nI s)) 1 (pC z.1) (nI sp) 3 j = nI x) ∧ (∃ x, 1 ≤ x ∧ x ≤ 3 ∧ up2 (up2 (pF z.1) 0 (pC z.1) (nI s)) 1 (pC z.1) (nI sp) 4 j = nI x) ∧ (∃ x, x ≤ 9999 ∧ up2 (up2 (pF z.1) 0 (pC z.1) (nI s)) 1 (pC z.1) (nI sp) 5 j = nI x) ∧ ∃ x, x < 256 ∧ up2 (up2 (pF z.1) 0 (pC z.1) (nI s)) 1 (pC z.1) (nI sp) 6 j = nI x
    rw [hu 2 _ (by decide), hu 3 _ (by decide), hu 4 _ (by decide), hu 5 _ (by decide), hu 6 _ (by decide)]
    exact ⟨q1.elim Or.inl (fun ⟨c, hc, e⟩ => Or.inr ⟨c, by omega, e⟩), q2, q3, q4, q5⟩
  · obtain ⟨⟨c, hc, e⟩, q⟩ := g4 j hj
    show (∃ c', c' < pC z.1 + 1 ∧ up2 (up2 (pF z.1) 0 (pC z.1) (nI s)) 1 (pC z.1) (nI sp) 7 j = nI c') ∧ ∃ x, x ≤ 40 ∧ up2 (up2 (pF z.1) 0 (pC z.1) (nI s)) 1 (pC z.1) (nI sp) 8 j = nI x
    rw [hu 7 _ (by decide), hu 8 _ (by decide)]
    exact ⟨⟨c, by omega, e⟩, q⟩
  · obtain ⟨⟨c, hc, e⟩, q⟩ := r3 i hi
    exact ⟨⟨c, Nat.lt_succ_of_lt hc, e⟩, q⟩
  · have hi : i < pC z.1 + 1 := hi
    show NaL (up1 z.2.2.1 (pC z.1) l i)
    by_cases hx : i = pC z.1
    · subst hx; rw [up1_eq]; exact hl
    · rw [up1_ne hx]; exact r6 i (by omega)
  · have hc : c < pC z.1 + 1 := hc
    show ∃ x, x ≤ 40 ∧ up2 (up2 (pF z.1) 0 (pC z.1) (nI s)) 1 (pC z.1) (nI sp) 0 c = nI x ∧ paN z.2.1 (nI c) ≤ x
    by_cases hx : c = pC z.1
    · subst hx
      rw [hc3.1, paN_no (fun i hi => (r3 i hi).1) (Nat.le_refl _) (by omega)]
      exact ⟨s, hs, rfl, Nat.zero_le _⟩
    · rw [(hc2 c hx).1]
      exact r8 c (by omega)
theorem gz_meal (h : GzD z) (hM : pM z.1 < 12) {c s : Int32} {sz co og : Nat} (hc : (c = -1 ∨ ∃ x, x < pC z.1 ∧ c = nI x)) (hs : ∃ x, x ≤ 99 ∧ s = nI x) (h1 : 1 ≤ sz) (h3 : sz ≤ 3) (hco : co ≤ 9999) (hog : og < 256) {l : List Nat} (hl : NaL l) : GzD (meZ z c s (nI sz) (nI co) (nI og) l) := by
  have hu : ∀ a k, a < 2 ∨ 6 < a → up5 (pF z.1) (pM z.1) c s (nI sz) (nI co) (nI og) a k = pF z.1 a k := fun a k y => by
    unfold up5
    rw [up2_ne (by omega), up2_ne (by omega), up2_ne (by omega), up2_ne (by omega), up2_ne (by omega)]
  have hv : ∀ a k, k ≠ pM z.1 → up5 (pF z.1) (pM z.1) c s (nI sz) (nI co) (nI og) a k = pF z.1 a k := fun a k y => by
    unfold up5
    rw [up2_ne (by omega), up2_ne (by omega), up2_ne (by omega), up2_ne (by omega), up2_ne (by omega)]
  obtain ⟨⟨g1, g2, g3, g4, ⟨l3, k3, e3⟩, ⟨l1, k1, e1⟩, ⟨l2, k2, e2⟩, g8, g9⟩, t, ⟨m, m1, m2, em⟩, r1, r2, r3, r4, r5, r6, r7, r8⟩ := h
  refine ⟨⟨⟨g1.1, hM, g1.2.2⟩, fun j hj => ?_, fun j hj => ?_, fun j hj => ?_, ⟨l3, k3, (hu 9 3 (by decide)).trans e3⟩, ⟨l1, k1, (hu 9 1 (by decide)).trans e1⟩, ⟨l2, k2, (hu 9 2 (by decide)).trans e2⟩, Or.inr ((hu 9 0 (by decide)).trans t), fun q => absurd (((hu 9 0 (by decide)).trans t).symm.trans q) (by decide)⟩, (hu 9 0 (by decide)).trans t, ⟨m, m1, m2, (hu 9 1 (by decide)).trans em⟩, r1, r2, fun i hi => ?_, r4, r5, r6, fun i hi => ?_, fun c hc => ?_⟩
  · obtain ⟨⟨s1, a1, a2, ea⟩, ⟨s2, b1, eb⟩⟩ := g2 j hj
    exact ⟨⟨s1, a1, a2, (hu 0 j (by decide)).trans ea⟩, ⟨s2, b1, (hu 1 j (by decide)).trans eb⟩⟩
  · have hj : j < pM z.1 + 1 := hj
    show (up5 (pF z.1) (pM z.1) c s (nI sz) (nI co) (nI og) 2 j = -1 ∨ ∃ c', c' < pC z.1 ∧ up5 (pF z.1) (pM z.1) c s (nI sz) (nI co) (nI og) 2 j = nI c') ∧ (∃ x, x ≤ 99 ∧ up5 (pF z.1) (pM z.1) c s (nI sz) (nI co) (nI og) 3 j = nI x) ∧ (∃ x, 1 ≤ x ∧ x ≤ 3 ∧ up5 (pF z.1) (pM z.1) c s (nI sz) (nI co) (nI og) 4 j = nI x) ∧ (∃ x, x ≤ 9999 ∧ up5 (pF z.1) (pM z.1) c s (nI sz) (nI co) (nI og) 5 j = nI x) ∧ ∃ x, x < 256 ∧ up5 (pF z.1) (pM z.1) c s (nI sz) (nI co) (nI og) 6 j = nI x
    by_cases hx : j = pM z.1
    · subst hx
      have q2 : up5 (pF z.1) (pM z.1) c s (nI sz) (nI co) (nI og) 2 (pM z.1) = c := by unfold up5; rw [up2_ne (by omega), up2_ne (by omega), up2_ne (by omega), up2_ne (by omega), up2_eq]
      have q3 : up5 (pF z.1) (pM z.1) c s (nI sz) (nI co) (nI og) 3 (pM z.1) = s := by unfold up5; rw [up2_ne (by omega), up2_ne (by omega), up2_ne (by omega), up2_eq]
      have q4 : up5 (pF z.1) (pM z.1) c s (nI sz) (nI co) (nI og) 4 (pM z.1) = nI sz := by unfold up5; rw [up2_ne (by omega), up2_ne (by omega), up2_eq]
      have q5 : up5 (pF z.1) (pM z.1) c s (nI sz) (nI co) (nI og) 5 (pM z.1) = nI co := by unfold up5; rw [up2_ne (by omega), up2_eq]
      have q6 : up5 (pF z.1) (pM z.1) c s (nI sz) (nI co) (nI og) 6 (pM z.1) = nI og := by unfold up5; rw [up2_eq]
      rw [q2, q3, q4, q5, q6]
      exact ⟨hc, hs, ⟨sz, h1, h3, rfl⟩, ⟨co, hco, rfl⟩, og, hog, rfl⟩
    · rw [hv _ _ hx, hv _ _ hx, hv _ _ hx, hv _ _ hx, hv _ _ hx]
      exact g3 j (by omega)
  · obtain ⟨q1, q2⟩ := g4 j hj
    show (∃ c', c' < pC z.1 ∧ up5 (pF z.1) (pM z.1) c s (nI sz) (nI co) (nI og) 7 j = nI c') ∧ ∃ x, x ≤ 40 ∧ up5 (pF z.1) (pM z.1) c s (nI sz) (nI co) (nI og) 8 j = nI x
    rw [hu 7 _ (by decide), hu 8 _ (by decide)]
    exact ⟨q1, q2⟩
  · obtain ⟨q1, q2, q3⟩ := r3 i hi
    exact ⟨q1, q2, q3.elim Or.inl (fun ⟨x, hx, e⟩ => Or.inr ⟨x, Nat.lt_succ_of_lt hx, e⟩)⟩
  · have hi : i < pM z.1 + 1 := hi
    show NaL (up1 z.2.2.2 (pM z.1) l i)
    by_cases hx : i = pM z.1
    · subst hx; rw [up1_eq]; exact hl
    · rw [up1_ne hx]; exact r7 i (by omega)
  · obtain ⟨x, x1, ex, x2⟩ := r8 c hc
    exact ⟨x, x1, (hu 0 c (by decide)).trans ex, x2⟩
theorem paN_seat (d : FDt) (c nd wi x : Int32) : paN (seatD d c nd wi) x = paN d x + (if c = x then 1 else 0) := by
  unfold paN
  show fb_ct (fun i => decide (dF (seatD d c nd wi) 0 i = x)) (dP d + 1) = _
  rw [fb_ct_succ]
  have e0 : dF (seatD d c nd wi) 0 (dP d) = c := by
    show up2 (up2 (up2 (dF d) 0 (dP d) c) 1 (dP d) nd) 2 (dP d) wi 0 (dP d) = c
    rw [up2_ne (by omega), up2_ne (by omega), up2_eq]
  have e1 : fb_ct (fun i => decide (dF (seatD d c nd wi) 0 i = x)) (dP d) = fb_ct (fun i => decide (dF d 0 i = x)) (dP d) := fb_ct_cong fun k hk => by
    have : dF (seatD d c nd wi) 0 k = dF d 0 k := by
      show up2 (up2 (up2 (dF d) 0 (dP d) c) 1 (dP d) nd) 2 (dP d) wi 0 k = _
      rw [up2_ne (by omega), up2_ne (by omega), up2_ne (by omega)]
    show decide _ = decide _
    rw [this]
  rw [e0, e1]
  by_cases hx : c = x
  · rw [if_pos hx, if_pos (decide_eq_true hx)]
  · rw [if_neg hx, if_neg (by rw [decide_eq_true_eq]; exact hx)]
theorem gz_seat (h : GzD z) (h40 : dP z.2.1 < 40) {c nd : Nat} {wi : Int32} (hc : c < pC z.1) (hnd : nd < 256) (hwi : wi = -1 ∨ ∃ x, x < pM z.1 ∧ wi = nI x) (hr : ∃ s, s ≤ 40 ∧ pF z.1 0 c = nI s ∧ paN z.2.1 (nI c) < s) : GzD (seZ z (nI c) (nI nd) wi) := by
  have hC4 := h.q.C4
  obtain ⟨q, t, m, r1, r2, r3, r4, r5, r6, r7, r8⟩ := h
  refine ⟨q, t, m, r1, h40, fun i hi => ?_, fun t k ht => ?_, ?_, r6, r7, fun c' hc' => ?_⟩
  · have hi : i < dP z.2.1 + 1 := hi
    show (∃ x, x < pC z.1 ∧ up2 (up2 (up2 (dF z.2.1) 0 (dP z.2.1) (nI c)) 1 (dP z.2.1) (nI nd)) 2 (dP z.2.1) wi 0 i = nI x) ∧ (∃ x, x < 256 ∧ up2 (up2 (up2 (dF z.2.1) 0 (dP z.2.1) (nI c)) 1 (dP z.2.1) (nI nd)) 2 (dP z.2.1) wi 1 i = nI x) ∧ (up2 (up2 (up2 (dF z.2.1) 0 (dP z.2.1) (nI c)) 1 (dP z.2.1) (nI nd)) 2 (dP z.2.1) wi 2 i = -1 ∨ ∃ x, x < pM z.1 ∧ up2 (up2 (up2 (dF z.2.1) 0 (dP z.2.1) (nI c)) 1 (dP z.2.1) (nI nd)) 2 (dP z.2.1) wi 2 i = nI x)
    by_cases hx : i = dP z.2.1
    · subst hx
      have q0 : up2 (up2 (up2 (dF z.2.1) 0 (dP z.2.1) (nI c)) 1 (dP z.2.1) (nI nd)) 2 (dP z.2.1) wi 0 (dP z.2.1) = nI c := by rw [up2_ne (by omega), up2_ne (by omega), up2_eq]
      have q1 : up2 (up2 (up2 (dF z.2.1) 0 (dP z.2.1) (nI c)) 1 (dP z.2.1) (nI nd)) 2 (dP z.2.1) wi 1 (dP z.2.1) = nI nd := by rw [up2_ne (by omega), up2_eq]
      rw [q0, q1, up2_eq]
      exact ⟨⟨c, hc, rfl⟩, ⟨nd, hnd, rfl⟩, hwi⟩
    · have hv : ∀ a, up2 (up2 (up2 (dF z.2.1) 0 (dP z.2.1) (nI c)) 1 (dP z.2.1) (nI nd)) 2 (dP z.2.1) wi a i = dF z.2.1 a i := fun a => by rw [up2_ne (by omega), up2_ne (by omega), up2_ne (by omega)]
      rw [hv, hv, hv]
      exact r3 i (by omega)
  · show up2 (up2 (up2 (dF z.2.1) 0 (dP z.2.1) (nI c)) 1 (dP z.2.1) (nI nd)) 2 (dP z.2.1) wi t k = 0
    rw [up2_ne (by omega), up2_ne (by omega), up2_ne (by omega)]; exact r4 t k ht
  · show up2 (up2 (up2 (dF z.2.1) 0 (dP z.2.1) (nI c)) 1 (dP z.2.1) (nI nd)) 2 (dP z.2.1) wi 6 0 = 0
    rw [up2_ne (by omega), up2_ne (by omega), up2_ne (by omega)]; exact r5
  · show ∃ s, s ≤ 40 ∧ pF z.1 0 c' = nI s ∧ paN (seatD z.2.1 (nI c) (nI nd) wi) (nI c') ≤ s
    have hc' : c' < pC z.1 := hc'
    rw [paN_seat]
    by_cases hx : c = c'
    · subst hx
      obtain ⟨s, s1, s2, s3⟩ := hr
      rw [if_pos rfl]
      exact ⟨s, s1, s2, s3⟩
    · rw [if_neg (fun y => hx ((nI_eqI (by omega) (by omega)).mp y))]
      exact r8 c' hc'
theorem gz_seats {c : Nat} (hc : c < pC z.1) : ∀ (g : Nat) (_ : GzD z), dP z.2.1 + g ≤ 40 → (∃ s, s ≤ 40 ∧ pF z.1 0 c = nI s ∧ paN z.2.1 (nI c) + g ≤ s) → GzD (sdZ z c g) ∧ paN (seatsD z.2.1 c g) (nI c) = paN z.2.1 (nI c) + g
  | 0, h, _, _ => ⟨h, rfl⟩
  | g + 1, h, h40, ⟨s, s1, s2, s3⟩ => by
    obtain ⟨a1, a2⟩ := gz_seats hc g h (by omega) ⟨s, s1, s2, by omega⟩
    have e : dP (sdZ z c g).2.1 = dP z.2.1 + g := seatsD_P z.2.1 c g
    refine ⟨gz_seat a1 (by omega) (nd := 0) (wi := -1) hc (by decide) (Or.inl rfl) ⟨s, s1, s2, ?_⟩, ?_⟩
    · show paN (seatsD z.2.1 c g) (nI c) < s
      omega
    · show paN (seatD (seatsD z.2.1 c g) (nI c) 0 (-1)) (nI c) = _
      rw [paN_seat, if_pos rfl, a2]; omega
theorem ndS_lt {a : Nat} (h : ndS B n p = .inr a) : a < 256 := by
  unfold ndS at h
  split at h
  · split at h
    · cases h
    · rename_i e
      injection h with h
      subst h
      exact dtW_lt (by decide) e
  · cases h
theorem nwS_ok {c : Int32} {a : Nat} (h : nwS B n p z c = .inr a) : a < pM z.1 := by
  unfold nwS at h
  split at h
  · cases h
  · rename_i i e
    split at h
    · injection h with h
      subst h
      exact (cfS_lt e).1
    · cases h
theorem gz_st {a : Nat × PZ} (hp : p ≤ n) (hg : GzD z) (h : stS B n p z = .inr a) : GzD a.2 := by
  have e1 := E1 (B := B) hp
  unfold stS at h
  repeat' split at h
  · unfold stTime at h
    obtain ⟨x, hx, h⟩ := bnd_inr h
    obtain ⟨y, hy, h⟩ := bnd_inr h
    rw [sgZ_inr h]
    have l1 := nhS_lt hx
    have l2 := nhS_lt hy
    exact gz_pset (gz_pset hg (i := 1) (v := x) (Or.inl ⟨rfl, l1⟩)) (i := 2) (v := y) (Or.inr (Or.inl ⟨rfl, l2.2⟩))
  · unfold stLead at h
    obtain ⟨x, hx, h⟩ := bnd_inr h
    rw [sgZ_inr h]
    exact gz_pset hg (i := 3) (v := x) (Or.inr (Or.inr ⟨rfl, (nhS_lt hx).2⟩))
  · unfold stCabin at h
    split at h
    · cases h
    · split at h
      · cases h
      · split at h
        · cases h
        · rename_i h4 hn _ _
          have hn := Classical.not_not.mp hn
          have hna := NaL.tk e1.2 hn
          unfold cbS at h
          obtain ⟨x, hx, h⟩ := bnd_inr h
          (try dsimp only at h)
          have l1 := nhS_lt hx
          split at h
          · obtain ⟨y, hy, h⟩ := bnd_inr h
            rw [sgZ_inr h]
            exact gz_cabin hg (by omega) l1.1 l1.2 (nhS_lt hy).2 hna
          · rw [sgZ_inr h]
            exact gz_cabin hg (by omega) l1.1 l1.2 (sp := 0) (by decide) hna
  · unfold stMeal at h
    split at h
    · cases h
    · split at h
      · cases h
      · split at h
        · cases h
        · rename_i h4 hn _ _
          have hn := Classical.not_not.mp hn
          have hna := NaL.tk e1.2 hn
          unfold mbS at h
          obtain ⟨x, h1, h⟩ := bnd_inr h
          obtain ⟨sz, h2, h⟩ := bnd_inr h
          obtain ⟨co, h3, h⟩ := bnd_inr h
          obtain ⟨og, h5, h⟩ := bnd_inr h
          rw [sgZ_inr h]
          have l2 := nhS_lt h2
          have l3 := nhS_lt h3
          have hx : (x.2.1 = -1 ∨ ∃ y, y < pC z.1 ∧ x.2.1 = nI y) ∧ ∃ y, y ≤ 99 ∧ x.2.2 = nI y := by
            unfold paS at h1
            split at h1
            · cases h1; exact ⟨Or.inl rfl, 0, by decide, rfl⟩
            · split at h1
              · obtain ⟨c, hc, h1⟩ := bnd_inr h1
                obtain ⟨u, hu, h1⟩ := bnd_inr h1
                cases h1
                exact ⟨Or.inr ⟨c, ncS_lt hc, rfl⟩, u, (nhS_lt hu).2, rfl⟩
              · cases h1
          have ho : ∃ y, y < 256 ∧ og.1 = nI y := by
            unfold ofS at h5
            split at h5
            · obtain ⟨u, hu, h5⟩ := bnd_inr h5
              cases h5
              exact ⟨u, ndS_lt hu, rfl⟩
            · cases h5; exact ⟨0, by decide, rfl⟩
          obtain ⟨y, hy, ey⟩ := ho
          show GzD (meZ z x.2.1 x.2.2 (nI sz) (nI co) og.1 _)
          rw [ey]
          exact gz_meal hg (by omega) hx.1 hx.2 l2.1 l2.2 l3.2 hy hna
  · unfold stTrolley at h
    split at h
    · cases h
    · obtain ⟨x, hx, h⟩ := bnd_inr h
      obtain ⟨y, hy, h⟩ := bnd_inr h
      rw [sgZ_inr h]
      exact gz_trolley hg (by omega) (ncS_lt hx) (nhS_lt hy).2
  · unfold stGuests at h
    obtain ⟨c, hc, h⟩ := bnd_inr h
    obtain ⟨g, hy, h⟩ := bnd_inr h
    (try dsimp only at h)
    have hc := ncS_lt hc
    have l2 := nhS_lt hy
    split at h
    · cases h
    · split at h
      · cases h
      · rename_i h1 h2
        rw [sgZ_inr h]
        refine (gz_seats hc g hg (by omega) ?_).1
        obtain ⟨s, s1, s2, s3⟩ := hg.room c hc
        refine ⟨s, s1, s2, ?_⟩
        unfold frD at h1
        rw [paD_N, s2, nI_subI s3, nI_ltI (by omega) (by omega)] at h1
        omega
  · unfold stGuest at h
    split at h
    · cases h
    · rename_i h40
      obtain ⟨c, hc, h⟩ := bnd_inr h
      (try dsimp only at h)
      have hc := ncS_lt hc
      split at h
      · cases h
      · rename_i h1
        obtain ⟨y, hy, h⟩ := bnd_inr h
        unfold gdB at h
        obtain ⟨u, hu, h⟩ := bnd_inr h
        rw [sgZ_inr h]
        have ho : ∃ k, k < 256 ∧ y.1 = nI k := by
          unfold gdN at hy
          split at hy
          · obtain ⟨k, hk, hy⟩ := bnd_inr hy
            cases hy
            exact ⟨k, ndS_lt hk, rfl⟩
          · cases hy; exact ⟨0, by decide, rfl⟩
        have hw : u.1 = -1 ∨ ∃ k, k < pM z.1 ∧ u.1 = nI k := by
          unfold gdW at hu
          split at hu
          · obtain ⟨k, hk, hu⟩ := bnd_inr hu
            cases hu
            exact Or.inr ⟨k, nwS_ok hk, rfl⟩
          · cases hu; exact Or.inl rfl
        obtain ⟨k, hk, ek⟩ := ho
        show GzD (seZ z (nI c) y.1 u.1)
        rw [ek]
        refine gz_seat hg (by omega) hc hk hw ?_
        obtain ⟨s, s1, s2, s3⟩ := hg.room c hc
        refine ⟨s, s1, s2, ?_⟩
        unfold frD at h1
        rw [paD_N, s2, nI_subI s3, show (1 : Int32) = nI 1 from rfl, nI_ltI (by omega) (by omega)] at h1
        omega
  · cases h
end GZD
