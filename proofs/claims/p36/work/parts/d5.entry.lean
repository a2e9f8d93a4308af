section ENTRY
variable {s : State} {args : Array Value}
theorem kn_all (hts : ∀ w ∈ lw_tbl, w.before args s = true) : ∀ (k : Nat) (q : vw_C), vwCl[k]? = some q → ∃ p : ClassId × (Nat → Nat), u_Kn s q.1 q.2.1 q.2.2 p.1 p.2 := fun k q hq => match k, hq with
  | 0, hq => by
    obtain rfl : (RJ0, TJ0, 4) = q := Option.some.inj hq
    obtain ⟨a, b, h⟩ := u_known (C := RJ0) (T := TJ0) (N := 4) (n := 4) (fun w h => hts w (List.mem_filter.mp h).1) uw_J0 (hts _ tbk_0)
    exact ⟨(a, b), h⟩
  | 1, hq => by
    obtain rfl : (RX0, TX0, 3) = q := Option.some.inj hq
    obtain ⟨a, b, h⟩ := u_known (C := RX0) (T := TX0) (N := 3) (n := 3) (fun w h => hts w (List.mem_filter.mp h).1) uw_X0 (hts _ tbk_1)
    exact ⟨(a, b), h⟩
  | 2, hq => by
    obtain rfl : (RX1, TX1, 13) = q := Option.some.inj hq
    obtain ⟨a, b, h⟩ := u_known (C := RX1) (T := TX1) (N := 13) (n := 13) (fun w h => hts w (List.mem_filter.mp h).1) uw_X1 (hts _ tbk_2)
    exact ⟨(a, b), h⟩
  | 3, hq => by
    obtain rfl : (RX2, TX2, 5) = q := Option.some.inj hq
    obtain ⟨a, b, h⟩ := u_known (C := RX2) (T := TX2) (N := 5) (n := 5) (fun w h => hts w (List.mem_filter.mp h).1) uw_X2 (hts _ tbk_3)
    exact ⟨(a, b), h⟩
  | 4, hq => by
    obtain rfl : (RX3, TX3, 3) = q := Option.some.inj hq
    obtain ⟨a, b, h⟩ := u_known (C := RX3) (T := TX3) (N := 3) (n := 3) (fun w h => hts w (List.mem_filter.mp h).1) uw_X3 (hts _ tbk_4)
    exact ⟨(a, b), h⟩
  | 5, hq => by
    obtain rfl : (RX4, TX4, 10) = q := Option.some.inj hq
    obtain ⟨a, b, h⟩ := u_known (C := RX4) (T := TX4) (N := 10) (n := 10) (fun w h => hts w (List.mem_filter.mp h).1) uw_X4 (hts _ tbk_5)
    exact ⟨(a, b), h⟩
  | 6, hq => by
    obtain rfl : (RX5, TX5, 6) = q := Option.some.inj hq
    obtain ⟨a, b, h⟩ := u_known (C := RX5) (T := TX5) (N := 6) (n := 6) (fun w h => hts w (List.mem_filter.mp h).1) uw_X5 (hts _ tbk_6)
    exact ⟨(a, b), h⟩
  | 7, hq => by
    obtain rfl : (RX6, TX6, 2) = q := Option.some.inj hq
    obtain ⟨a, b, h⟩ := u_known (C := RX6) (T := TX6) (N := 2) (n := 2) (fun w h => hts w (List.mem_filter.mp h).1) uw_X6 (hts _ tbk_7)
    exact ⟨(a, b), h⟩
  | 8, hq => by
    obtain rfl : (RX7, TX7, 11) = q := Option.some.inj hq
    obtain ⟨a, b, h⟩ := u_known (C := RX7) (T := TX7) (N := 11) (n := 11) (fun w h => hts w (List.mem_filter.mp h).1) uw_X7 (hts _ tbk_8)
    exact ⟨(a, b), h⟩
  | 9, hq => by
    obtain rfl : (RX8, TX8, 8) = q := Option.some.inj hq
    obtain ⟨a, b, h⟩ := u_known (C := RX8) (T := TX8) (N := 8) (n := 8) (fun w h => hts w (List.mem_filter.mp h).1) uw_X8 (hts _ tbk_9)
    exact ⟨(a, b), h⟩
  | 10, hq => by
    obtain rfl : (RX9, TX9, 6) = q := Option.some.inj hq
    obtain ⟨a, b, h⟩ := u_known (C := RX9) (T := TX9) (N := 6) (n := 6) (fun w h => hts w (List.mem_filter.mp h).1) uw_X9 (hts _ tbk_10)
    exact ⟨(a, b), h⟩
  | 11, hq => by
    obtain rfl : (RX10, TX10, 18) = q := Option.some.inj hq
    obtain ⟨a, b, h⟩ := u_known (C := RX10) (T := TX10) (N := 18) (n := 18) (fun w h => hts w (List.mem_filter.mp h).1) uw_X10 (hts _ tbk_11)
    exact ⟨(a, b), h⟩
  | 12, hq => by
    obtain rfl : (RJ4, TJ4, 4) = q := Option.some.inj hq
    obtain ⟨a, b, h⟩ := u_known (C := RJ4) (T := TJ4) (N := 4) (n := 4) (fun w h => hts w (List.mem_filter.mp h).1) uw_J4 (hts _ tbk_12)
    exact ⟨(a, b), h⟩
  | k + 13, hq => by
    have h0 : vwCl[k + 13]? = none := List.getElem?_eq_none (by show 13 ≤ k + 13; omega)
    rw [h0] at hq
    exact nomatch hq
theorem kn_D (hts : ∀ w ∈ lw_tbl, w.before args s = true) : ∃ D : va_G, ∀ (c : Nat) (q : vw_C), vwCl[c]? = some q → u_Kn s q.1 q.2.1 q.2.2 (D.1 c) (D.2 c) := by
  obtain ⟨p0, -⟩ := kn_all hts 0 _ rfl
  have h : ∀ k : Nat, ∃ p : ClassId × (Nat → Nat), ∀ q : vw_C, vwCl[k]? = some q → u_Kn s q.1 q.2.1 q.2.2 p.1 p.2 := fun (k : Nat) => by
    cases hq : vwCl[k]? with
    | none => exact ⟨p0, fun q h => nomatch h⟩
    | some q =>
      obtain ⟨p, hp⟩ := kn_all hts k q hq
      exact ⟨p, fun q' h' => by cases h'; exact hp⟩
  exact ⟨(fun k => (Classical.choose (h k)).1, fun k => (Classical.choose (h k)).2), fun c q hq => Classical.choose_spec (h c) q hq⟩
theorem ar_ob {C : String} (h : (Cond.arrayOver (.object C)).before args s = true) : ∃ c, ArrOfT s c (.object C) ∧ va_RA s c (.object C) := by
  obtain ⟨comp, c, k, h1, hi, h2, h3, h4⟩ := Cond.arrayOver_spec h
  exact ⟨c, fun N z => ⟨(fun k h => by cases h), k, h2, comp, h3⟩, k, comp, h2, h3, h1, h4⟩

theorem ar_int (h : (Cond.arrayClass .int).before args s = true) : ∃ c, ArrOfT s c .int ∧ va_RA s c .int := by
  obtain ⟨c, k, comp, h1, h2, h3⟩ := Cond.arrayClass_spec (type := .int) h
  exact ⟨c, fun n z => ⟨fun k h => (by cases h), k, h2, comp, h3⟩, h1⟩
theorem ar_long (h : (Cond.arrayClass .long).before args s = true) : ∃ c, ArrOfT s c .long ∧ va_RA s c .long := by
  obtain ⟨c, k, comp, h1, h2, h3⟩ := Cond.arrayClass_spec (type := .long) h
  exact ⟨c, fun n z => ⟨fun k h => (by cases h), k, h2, comp, h3⟩, h1⟩
theorem ar_byte (h : (Cond.arrayClass .byte).before args s = true) : ∃ c, ArrOfT s c .byte ∧ va_RA s c .byte := by
  obtain ⟨c, k, comp, h1, h2, h3⟩ := Cond.arrayClass_spec (type := .byte) h
  exact ⟨c, fun n z => ⟨fun k h => (by cases h), k, h2, comp, h3⟩, h1⟩
theorem ar_boolean (h : (Cond.arrayClass .boolean).before args s = true) : ∃ c, ArrOfT s c .boolean ∧ va_RA s c .boolean := by
  obtain ⟨c, k, comp, h1, h2, h3⟩ := Cond.arrayClass_spec (type := .boolean) h
  exact ⟨c, fun n z => ⟨fun k h => (by cases h), k, h2, comp, h3⟩, h1⟩
theorem ar_char (h : (Cond.arrayClass .char).before args s = true) : ∃ c, ArrOfT s c .char ∧ va_RA s c .char := by
  obtain ⟨c, k, comp, h1, h2, h3⟩ := Cond.arrayClass_spec (type := .char) h
  exact ⟨c, fun n z => ⟨fun k h => (by cases h), k, h2, comp, h3⟩, h1⟩
theorem ar_ai (h : (Cond.arrayOver (.array .int)).before args s = true) : ∃ c, ArrOfT s c (.array .int) ∧ va_RA s c (.array .int) := by
  obtain ⟨comp, c, k, h1, h2, h3, h4⟩ := Cond.arrayOver_specA h
  exact ⟨c, fun N z => ⟨(fun k h => by cases h), k, h2, comp, h3⟩, h4⟩
theorem ar_all (hts : ∀ w ∈ lw_tbl, w.before args s = true) : ∃ cA : Nat → ClassId, ∀ (k : Nat) (q : ClassId × FieldType), (tyL cA)[k]? = some q → ArrOfT s q.1 q.2 ∧ va_RA s q.1 q.2 := by
  obtain ⟨c0, h0⟩ := ar_int (hts _ tba_int)
  obtain ⟨c1, h1⟩ := ar_long (hts _ tba_long)
  obtain ⟨c2, h2⟩ := ar_byte (hts _ tba_byte)
  obtain ⟨c3, h3⟩ := ar_boolean (hts _ tba_boolean)
  obtain ⟨c4, h4⟩ := ar_char (hts _ tba_char)
  obtain ⟨c5, h5⟩ := ar_ob (C := RX0) (hts _ tbo_0)
  obtain ⟨c6, h6⟩ := ar_ob (C := RX5) (hts _ tbo_5)
  obtain ⟨c7, h7⟩ := ar_ob (C := RX1) (hts _ tbo_1)
  obtain ⟨c8, h8⟩ := ar_ai (hts _ tbo_a)
  refine ⟨fun t => [c0, c1, c2, c3, c4, c5, c6, c7, c8].getD (t - 20) c8, fun k q hq => ?_⟩
  match k, hq with
  | 0, hq => obtain rfl := Option.some.inj hq; exact h0
  | 1, hq => obtain rfl := Option.some.inj hq; exact h1
  | 2, hq => obtain rfl := Option.some.inj hq; exact h2
  | 3, hq => obtain rfl := Option.some.inj hq; exact h3
  | 4, hq => obtain rfl := Option.some.inj hq; exact h4
  | 5, hq => obtain rfl := Option.some.inj hq; exact h5
  | 6, hq => obtain rfl := Option.some.inj hq; exact h6
  | 7, hq => obtain rfl := Option.some.inj hq; exact h7
  | 8, hq => obtain rfl := Option.some.inj hq; exact h8
  | k + 9, hq => exact absurd hq (by simp)
theorem start_ev {b : Nat} (hts : ∀ w ∈ lw_tbl, w.before #[Value.ref b] s = true) (hgv : (Jvm.Cond.and given_1 narrow_1).before #[Value.ref b] s = true) : ∃ (D : va_G) (cA : Nat → ClassId) (ad : Nat → Nat), KF ad s.heap.size s ∧ va_K D vwCl (tyL cA) s ∧ ad 2000000 = b := by
  have hA : ∀ a : Nat, a < s.heap.size → ¬ (fun q : Nat => s.heap.size ≤ q) a := fun a h => Nat.not_le.mpr h
  have hn : ∀ w ∈ nfl, w.before #[Value.ref b] s = true := flat_of_before _ hgv
  obtain ⟨D, hD⟩ := kn_D hts
  obtain ⟨cA, hcA⟩ := ar_all hts
  have hst : ∀ c : Nat, ∃ z : Nat × Nat, ∀ q : String × Nat × String, kst[c]? = some q → vk_R q.1 q.2.1 q.2.2 z.1 s ∧ va_O "java/lang/String" z.1 (fun q => s.heap.size ≤ q) s s.heap ∧ va_OF "java/lang/String" "coder" "B" (.int 0) z.1 (fun q => s.heap.size ≤ q) s s.heap ∧
      va_OF "java/lang/String" "value" "[B" (.ref z.2) z.1 (fun q => s.heap.size ≤ q) s s.heap ∧ va_T .byte z.2 (kby c).length (fun j => .int (Int32.ofNat ((kby c).getD j 0))) (fun q => s.heap.size ≤ q) s s.heap := fun (c : Nat) => by
    cases hq : kst[c]? with
    | none => exact ⟨(0, 0), fun q h => nomatch h⟩
    | some q =>
      obtain ⟨own, k, tx⟩ := q
      have hk : kby c = byO tx := by
        unfold kby byO
        rw [List.getD_eq_getElem?_getD, hq]
        rfl
      obtain ⟨g1, g2, g3⟩ := kst_ok hq
      obtain ⟨a, v, r⟩ := str_at (own := own) (tx := tx) (k := k) (A := fun q => s.heap.size ≤ q) (fun w hw => hn w (g1 w hw)) (hts _ g2) hA g3
      exact ⟨(a, v), fun q' h' => by cases h'; rw [hk]; exact r⟩
  obtain ⟨tF, hF⟩ : ∃ t : Nat, va_Z "jdk/internal/util/Preconditions" "SIOOBE_FORMATTER" "Ljava/util/function/BiFunction;" .null (fun q => s.heap.size ≤ q) s s.heap ∨ va_Z "jdk/internal/util/Preconditions" "SIOOBE_FORMATTER" "Ljava/util/function/BiFunction;" (.ref t) (fun q => s.heap.size ≤ q) s s.heap := by
    rcases va_Zqof (hts _ tb_sf) (hts _ tbi_pr) (hn _ nf_sf) hA with h | ⟨t, h⟩
    · exact ⟨0, Or.inl h⟩
    · exact ⟨t, Or.inr h⟩
  have hdg : ∀ t : Nat, ∃ v : Nat, t < 2 → (digT t).eval #[Value.ref b] s none [] s = some (.ref v) ∧ va_T .byte v 100 (fun j => .int (Int32.ofNat (dgB t j))) (fun q => s.heap.size ≤ q) s s.heap := fun t => by
    by_cases ht : t < 2
    · have hseg : ∀ w ∈ digL t, w.before #[Value.ref b] s = true := fun w hw => hn w (dig_in ht w hw)
      obtain ⟨v, h1, h2⟩ := va_Tof (tm := digT t) (ty := .byte) (N := 100) (f := fun j => .int (Int32.ofNat (dgB t j))) (A := fun q => s.heap.size ≤ q) (by decide) (hseg _ (List.mem_append_left _ (List.mem_cons_of_mem _ List.mem_cons_self))) (ev_int (hseg _ (List.mem_append_left _ (List.mem_cons_of_mem _ (List.mem_cons_of_mem _ List.mem_cons_self))))) (fun j hj => ev_int (hseg _ (List.mem_append_right _ (List.mem_map.mpr ⟨j, List.mem_range.mpr hj, rfl⟩)))) hA
      exact ⟨v, fun _ => ⟨h1, h2⟩⟩
    · exact ⟨0, fun h => absurd h ht⟩
  have hKB : KB s := by
    refine ⟨va_Nw.of rfl (hts _ tb_cl), fun y hy => ?_⟩
    unfold kPr at hy
    simp only [List.mem_cons, List.not_mem_nil, or_false] at hy
    rcases hy with rfl | rfl | rfl | rfl
    · exact va_Nw.of rfl (sel_priv (x := yJ5_isLatin1_aae02) (z := yJ5_isLatin1_aae02) ⟨by decide +kernel, by decide +kernel⟩ rfl (hts _ tb_sl) (hts _ tbp_0) (hts _ tbm_0))
    · exact va_Nw.of rfl (sel_priv (x := yJ5_isLatin1_aae02) (z := yJ5_isLatin1_aae02) ⟨by decide +kernel, by decide +kernel⟩ rfl (hts _ tb_sl) (hts _ tbp_1) (hts _ tbm_1))
    · exact va_Nw.of rfl (sel_priv (x := yJ5_isLatin1_aae02) (z := yJ5_isLatin1_aae02) ⟨by decide +kernel, by decide +kernel⟩ rfl (hts _ tb_sl) (hts _ tbp_2) (hts _ tbm_2))
    · exact va_Nw.of rfl (sel_priv (x := yJ5_isLatin1_aae02) (z := yJ5_isLatin1_aae02) ⟨by decide +kernel, by decide +kernel⟩ rfl (hts _ tb_sl) (hts _ tbp_3) (hts _ tbm_3))
  obtain ⟨ad, a1, a2, a3, a4, a5⟩ : ∃ ad : Nat → Nat, ad 2000000 = b ∧ ad 1700000 = tF ∧ (∀ c, c < 59 → ad (1000000 + c) = (Classical.choose (hst c)).1) ∧ (∀ c, c < 59 → ad (1500000 + c) = (Classical.choose (hst c)).2) ∧ ∀ t, t < 2 → ad (1700001 + t) = Classical.choose (hdg t) := by
    refine ⟨fun i => if i = 2000000 then b else if i = 1700000 then tF else if 1700000 < i then Classical.choose (hdg (i - 1700001)) else if 1500000 ≤ i then (Classical.choose (hst (i - 1500000))).2 else (Classical.choose (hst (i - 1000000))).1, if_pos rfl, ?_, fun c hc => ?_, fun c hc => ?_, fun t ht => ?_⟩
    · show (if (1700000 : Nat) = 2000000 then b else if (1700000 : Nat) = 1700000 then tF else _) = tF
      rw [if_neg (by omega), if_pos rfl]
    · show (if 1000000 + c = 2000000 then b else if 1000000 + c = 1700000 then tF else if 1700000 < 1000000 + c then _ else if 1500000 ≤ 1000000 + c then _ else (Classical.choose (hst (1000000 + c - 1000000))).1) = _
      rw [if_neg (by omega), if_neg (by omega), if_neg (by omega), if_neg (by omega), Nat.add_sub_cancel_left]
    · show (if 1500000 + c = 2000000 then b else if 1500000 + c = 1700000 then tF else if 1700000 < 1500000 + c then _ else if 1500000 ≤ 1500000 + c then (Classical.choose (hst (1500000 + c - 1500000))).2 else _) = _
      rw [if_neg (by omega), if_neg (by omega), if_neg (by omega), if_pos (by omega), Nat.add_sub_cancel_left]
    · show (if 1700001 + t = 2000000 then b else if 1700001 + t = 1700000 then tF else if 1700000 < 1700001 + t then Classical.choose (hdg (1700001 + t - 1700001)) else _) = _
      rw [if_neg (by omega), if_neg (by omega), if_pos (by omega), Nat.add_sub_cancel_left]
  have hKD : KD ad s.heap.size s := fun t ht => by
    rw [a5 t ht]
    obtain ⟨h1, h2⟩ := Classical.choose_spec (hdg t) ht
    refine ⟨?_, h2⟩
    rcases (by omega : t = 0 ∨ t = 1) with e | e <;> subst e
    · exact va_Zref (hts _ tb_dt) (hts _ tbi_in) h1 hA
    · exact va_Zref (hts _ tb_do) (hts _ tbi_in) h1 hA
  refine ⟨D, cA, ad, ⟨vx_Zqof (hts _ tb_us) (hts _ tbi_th) (hn _ nf_us) hA, vx_Zqof (hts _ tb_ss) (hts _ tbi_th) (hn _ nf_ss) hA, va_Zof (hts _ tb_cs) (hts _ tbi_st) (ev_int (hn _ nf_cs)) hA, ⟨va_Zof (hts _ tb_ad) (hts _ tbi_su) (ev_int (hn _ nf_ad)) hA, hKD, hKB⟩, by rw [a2]; exact hF, fun c q hq => ?_, fun q hq => ?_, ⟨fun x hx => ?_, fun x hx => ?_⟩, fun x hx => ?_, hts _ tbo_a, fun x hx => ?_⟩, ⟨hD, hcA⟩, a1⟩
  · have hc := kst_len hq
    rw [a3 c hc, a4 c hc]
    exact Classical.choose_spec (hst c) q hq
  · unfold kNc at hq
    simp only [List.mem_cons, List.not_mem_nil, or_false] at hq
    rcases hq with rfl | rfl | rfl | rfl | rfl | rfl
    · exact va_Nc.of (hn _ nf_nc0)
    · exact va_Nc.of (hn _ nf_nc1)
    · exact va_Nc.of (hn _ nf_nc2)
    · exact va_Nc.of (hn _ nf_nc3)
    · exact va_Nc.of (hn _ nf_nc4)
    · exact va_Nc.of (hn _ nf_nc5)
  · unfold kDe at hx
    simp only [List.mem_cons, List.not_mem_nil, or_false] at hx
    rcases hx with rfl | rfl | rfl
    · exact ot0 rfl (hts _ tbd_0)
    · exact ot0 rfl (hts _ tbd_1)
    · exact ot0 rfl (hts _ tbd_2)
  · unfold kCs at hx
    simp only [List.mem_cons, List.not_mem_nil, or_false] at hx
    rcases hx with rfl | rfl | rfl | rfl
    · exact ot0 rfl (hts _ tbc_0)
    · exact ot0 rfl (hts _ tbc_1)
    · exact ot0 rfl (hts _ tbc_2)
    · exact ot0 rfl (hts _ tbc_3)
  · unfold kAo at hx
    simp only [List.mem_cons, List.not_mem_nil, or_false] at hx
    rcases hx with rfl | rfl | rfl
    · exact va_AO.of (hts _ tbo_0)
    · exact va_AO.of (hts _ tbo_5)
    · exact va_AO.of (hts _ tbo_1)
  · unfold kMn at hx
    simp only [List.mem_cons, List.not_mem_nil, or_false] at hx
    rcases hx with rfl | rfl | rfl
    · exact va_Nw.of rfl (hts _ tbn_0)
    · exact va_Nw.of rfl (hts _ tbn_1)
    · exact va_Nw.of rfl (hts _ tbn_2)
/-- the empty world -/
def mu0 (L : Nat) (xs : Nat → Int32) : Wd := (0, fun _ _ => 0, fun _ _ => 0, fun _ _ => none, fun _ => 0, (L, xs))
theorem start_rl {D : va_G} {cA : Nat → ClassId} {ad : Nat → Nat} {b L : Nat} {xs : Nat → Int32} (hX : va_X b L xs s s.heap) (hb : b < s.heap.size) (ha : ad 2000000 = b) : Rl D cA s.heap.size ad (mu0 L xs) s s.heap := by
  refine ⟨fun k q h => by simp [wsO, mu0, wn] at h, ⟨fun i j p q h => by simp [wsO, mu0, wn] at h, fun k q h => by simp [wsO, mu0, wn] at h⟩, fun i k j hi => absurd hi (Nat.not_lt_zero _), Nat.zero_lt_succ _, ?_, by rw [ha]; exact hb⟩
  rw [ha]
  exact hX
end ENTRY
