section RELZERO
theorem rel0 {μ : Wd} (hn : wn μ = 339) (hR : ∀ i k, i < 339 → gR μ i k = r1 i k) (hI : ∀ i k, i < 338 → gI μ i k = if i = 0 ∧ k = 5 then -1 else 0) (hL : ∀ i k, i < 339 → gL μ i k = 0) : LwS 3 58 0 (0, 0, 0, fun _ _ => 0) (0, 0, fun _ _ => 0, fun _ => 0) (0, fun _ => (0, 0, fun _ _ => 0, fun _ => 0)) (fun _ => none) μ := by
  have z : ∀ i k, i < 338 → ¬ (i = 0 ∧ k = 5) → gI μ i k = 0 := fun i k h1 h2 => (hI i k h1).trans (if_neg h2)
  have hw : Wf μ := ⟨by omega, fun i k j h => by
    by_cases hi : i < 339
    · rw [hR i k hi]
      unfold r1
      rw [h]
    · have hr : r0 i k = none := by
        unfold r0
        have hl : r0L.length ≤ 339 := by decide +kernel
        have e9 : r0L[i]? = none := List.getElem?_eq_none (by omega)
        simp only [List.getD_eq_getElem?_getD, e9]
        rfl
      rw [hr] at h
      exact nomatch h⟩
  have h0 : gR μ 24 0 = some 3 := (hR 24 0 (by omega)).trans (by decide +kernel)
  have h9 : gR μ 0 9 = some 58 := (hR 0 9 (by omega)).trans (by decide +kernel)
  have hpv : PV μ 3 (0, 0, 0, fun _ _ => 0) := ⟨Or.inl rfl, ⟨z 3 1 (by omega) (by omega), by decide⟩, ⟨z 3 3 (by omega) (by omega), by decide⟩, ⟨z 3 5 (by omega) (by omega), by decide⟩, fun i hi => absurd hi (Nat.not_lt_zero i), fun i hi => absurd hi (Nat.not_lt_zero i), fun i hi => absurd hi (Nat.not_lt_zero i), z 3 0 (by omega) (by omega), z 3 8 (by omega) (by omega), z 3 9 (by omega) (by omega), z 3 10 (by omega) (by omega)⟩
  have hfv : FV μ 24 3 (0, 0, fun _ _ => 0, fun _ => 0) := ⟨fl_now, h0, ⟨z 24 3 (by omega) (by omega), by decide⟩, ⟨z 24 8 (by omega) (by omega), by decide⟩, fun i hi => absurd hi (Nat.not_lt_zero i), fun i hi => absurd hi (Nat.not_lt_zero i), z 24 1 (by omega) (by omega), z 24 2 (by omega) (by omega), fun t k ht hk => z (24 + 5 + t) k (by omega) (by omega), fun i hi => hL (24 + 16) i (by omega)⟩
  have hhs : HsV μ 3 (0, fun _ => (0, 0, fun _ _ => 0, fun _ => 0)) := ⟨0, fun _ => 0, by decide, z 82 1 (by omega) (by omega), z 82 2 (by omega) (by omega), by decide, fun i hi => absurd hi (Nat.not_lt_zero i), fun i hi => absurd hi (Nat.not_lt_zero i)⟩
  have hsl : SlV μ 3 (fun _ => none) := fun j hj => z 323 j (by omega) (by omega)
  exact ⟨⟨hw, hpv, hfv, hhs, hsl, Or.inl (z 0 17 (by omega) (by omega))⟩, ⟨h9, Or.inr rfl, by decide⟩, z 0 1 (by omega) (by omega), ⟨0, 0, 0, 0, by decide, rfl, rfl, rfl, rfl, by decide, by decide, by decide⟩, rfl⟩
end RELZERO
