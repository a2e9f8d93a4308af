section RELZERO
theorem rel0 {μ : Wd} (hn : wn μ = 364) (hR : ∀ i k, i < 364 → gR μ i k = r1 i k) (hI : ∀ i k, i < 364 → gI μ i k = if (i = 0 ∧ k = 5) ∨ (i = 338 ∧ k = 24) then -1 else 0) (hL : ∀ i k, i < 364 → gL μ i k = 0) : RelV 0 μ := by
  have z : ∀ i k, i < 364 → ¬ ((i = 0 ∧ k = 5) ∨ (i = 338 ∧ k = 24)) → gI μ i k = 0 := fun i k h1 h2 => (hI i k h1).trans (if_neg h2)
  have m : ∀ i k, ((i = 0 ∧ k = 5) ∨ (i = 338 ∧ k = 24)) → gI μ i k = -1 := fun i k h2 => (hI i k (by omega)).trans (if_pos h2)
  have hw : Wf μ := ⟨by omega, fun i k j h => by
    by_cases hi : i < 364
    · rw [hR i k hi]
      unfold r1
      rw [h]
    · have hr : r0 i k = none := by
        unfold r0
        have hl : r0L.length ≤ 364 := by decide +kernel
        have e9 : r0L[i]? = none := List.getElem?_eq_none (by omega)
        simp only [List.getD_eq_getElem?_getD, e9]
        rfl
      rw [hr] at h
      exact nomatch h⟩
  have h0 : gR μ 24 0 = some 3 := (hR 24 0 (by omega)).trans (by decide +kernel)
  have h9 : gR μ 0 9 = some 58 := (hR 0 9 (by omega)).trans (by decide +kernel)
  have hgp : GdP (0, 0, 0, fun _ _ => 0) := ⟨⟨by decide, by decide, by decide⟩, fun i hi => absurd hi (Nat.not_lt_zero i), fun i hi => absurd hi (Nat.not_lt_zero i), fun i hi => absurd hi (Nat.not_lt_zero i), ⟨0, by decide, rfl⟩, ⟨0, by decide, rfl⟩, ⟨0, by decide, rfl⟩, Or.inl rfl, fun _ => ⟨rfl, rfl, rfl⟩⟩
  have hind : InD 0 (0, 0, 0, fun _ _ => 0) (0, 0, fun _ _ => 0, fun _ => 0) := ⟨⟨⟨by decide, by decide⟩, fun i hi => absurd hi (Nat.not_lt_zero i), fun t k _ _ => ⟨0, by decide, rfl⟩, fun i hi => absurd hi (Nat.not_lt_zero i), fun i hi => absurd hi (Nat.not_lt_zero i), ⟨0, by decide, rfl⟩, Or.inl rfl⟩,
    ⟨0, 0, fun _ => 0, rfl, rfl, by decide, by decide, fun i hi => absurd hi (Nat.not_lt_zero i), fun i j _ hj => absurd hj (Nat.not_lt_zero j)⟩, fun _ => ⟨rfl, rfl, rfl, rfl, rfl⟩, Or.inl rfl, ⟨0, 0, 0, 0, by decide, rfl, rfl, rfl, rfl, by decide, by decide, by decide⟩⟩
  have hpv : PV μ 3 (0, 0, 0, fun _ _ => 0) := ⟨Or.inl rfl, ⟨z 3 1 (by omega) (by omega), by decide⟩, ⟨z 3 3 (by omega) (by omega), by decide⟩, ⟨z 3 5 (by omega) (by omega), by decide⟩, fun i hi => absurd hi (Nat.not_lt_zero i), fun i hi => absurd hi (Nat.not_lt_zero i), fun i hi => absurd hi (Nat.not_lt_zero i), z 3 0 (by omega) (by omega), z 3 8 (by omega) (by omega), z 3 9 (by omega) (by omega), z 3 10 (by omega) (by omega)⟩
  have hfv : FV μ 24 3 (0, 0, fun _ _ => 0, fun _ => 0) := ⟨fl_now, h0, ⟨z 24 3 (by omega) (by omega), by decide⟩, ⟨z 24 8 (by omega) (by omega), by decide⟩, fun i hi => absurd hi (Nat.not_lt_zero i), fun i hi => absurd hi (Nat.not_lt_zero i), z 24 1 (by omega) (by omega), z 24 2 (by omega) (by omega), fun t k ht hk => z (24 + 5 + t) k (by omega) (by omega), fun i hi => hL (24 + 16) i (by omega)⟩
  have hhs : HsV μ 3 (0, fun _ => (0, 0, fun _ _ => 0, fun _ => 0)) := ⟨0, fun _ => 0, by decide, z 82 1 (by omega) (by omega), z 82 2 (by omega) (by omega), by decide, fun i hi => absurd hi (Nat.not_lt_zero i), fun i hi => absurd hi (Nat.not_lt_zero i)⟩
  have hsl : SlV μ 3 (fun _ => none) := fun j hj => z 323 j (by omega) (by omega)
  have hrw : RwV (gI μ 344) (0, 0, fun _ _ => 0, fun _ => 0) := ⟨z 344 1 (by omega) (by omega), z 344 2 (by omega) (by omega), z 344 3 (by omega) (by omega), z 344 4 (by omega) (by omega), fun i hi => absurd hi (Nat.not_lt_zero i), fun i hi => absurd hi (Nat.not_lt_zero i), fun t k _ _ => z 344 _ (by omega) (by omega)⟩
  have hpw : PwV (gI μ 339) (0, 0, 0, fun _ _ => 0) := ⟨⟨z 339 0 (by omega) (by omega), z 339 1 (by omega) (by omega), z 339 2 (by omega) (by omega), z 339 3 (by omega) (by omega), z 339 4 (by omega) (by omega)⟩, fun i hi => absurd hi (Nat.not_lt_zero i), fun i hi => absurd hi (Nat.not_lt_zero i), fun i hi => absurd hi (Nat.not_lt_zero i)⟩
  have hmn : MnV μ (0, 0, 0, fun _ _ => 0) (0, 0, fun _ _ => 0, fun _ => 0) := ⟨⟨z 344 0 (by omega) (by omega), FitD.of hgp hind.1, hpw, hrw⟩, ⟨fun i hi => absurd hi (Nat.not_lt_zero i), fun i hi => absurd hi (Nat.not_lt_zero i)⟩, fun k hk => hL 348 k (by omega)⟩
  have hmp : MpV μ (0, 0, 0, fun _ _ => 0) (0, fun _ => (0, 0, fun _ _ => 0, fun _ => 0)) := ⟨z 338 14 (by omega) (by omega), by decide, fun i hi => absurd hi (Nat.not_lt_zero i)⟩
  have hms : MsV μ (0, 0, 0, fun _ _ => 0) (fun _ => none) := fun j hj => z 351 j (by omega) (by omega)
  have hre : ReV 0 3 58 (0, 0, 0, fun _ _ => 0) (fun _ => []) 0 (fun _ => 0) [] μ := ⟨h9, ⟨by decide, z 0 1 (by omega) (by omega), z 338 17 (by omega) (by omega), fun k hk => absurd hk (Nat.not_lt_zero k)⟩, ⟨⟨z 0 3 (by omega) (by omega), by decide, fun k hk => absurd hk (Nat.not_lt_zero k)⟩, ⟨z 338 38 (by omega) (by omega), by decide, fun k hk => absurd hk (Nat.not_lt_zero k)⟩⟩, fun i hi => absurd hi (Nat.not_lt_zero i), ⟨(z 0 4 (by omega) (by omega)).trans (z 338 23 (by omega) (by omega)).symm, (m 0 5 (by omega)).trans (m 338 24 (by omega)).symm⟩, by rw [hn]; exact ⟨by decide, by decide, by decide⟩, by omega⟩
  exact RelP.v (p := 3) (p0 := 58) (q := (0, 0, 0, fun _ _ => 0)) (d := (0, 0, fun _ _ => 0, fun _ => 0)) (H := (0, fun _ => (0, 0, fun _ _ => 0, fun _ => 0))) (S := fun _ => none) (L := 0) (B := fun _ => 0) (os := []) (nm := fun _ => [])
    ⟨⟨hw, hpv, hfv, hhs, hsl, Or.inl (z 0 17 (by omega) (by omega))⟩, ⟨hgp, hind, fun i hi => absurd hi (Nat.not_lt_zero i), fun j e _ h => (nomatch h), Or.inr rfl, by decide⟩, ⟨hmn, hmp, hms⟩, hre, (z 0 6 (by omega) (by omega)).trans (z 338 15 (by omega) (by omega)).symm⟩
end RELZERO
