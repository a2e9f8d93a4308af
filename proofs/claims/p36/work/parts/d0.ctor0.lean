section CTOR0
variable {Y : Yd} {rm : Room} {b : Nat × Nat} {μ μ1 : Wd} {pc : Nat} {la : List (Nat × Value)} {st : List Value} {o : Oc}
theorem a_aast {a n j v ci t : Nat} {i : Int32} (hd : decode Y.2.1 pc = .ok (.aastore, 1)) (ho : Ar μ a t n) (ht : 25 ≤ t ∧ t < 28) (hi : Ix i j n) (hv : Ob μ v ci) (hci : ci < 13) (hr : ∀ r, vwCl[ci]? = some r → tyN t = .object r.1) (kk : AW Y rm b (sR μ a j (some v)) (pc + 1) la st o μ1) : AW Y rm b μ pc la (.ref v :: .int i :: .ref a :: st) o μ1 := by
  intro p l e s m args below meth c H locs cells slots ls D cA base ad0 n0 ad C E h1 h2 h3
  have hec : ∀ μ' : Wd, km μ' a = t → ec ad μ' a = .inr (.inr (.inr (.inr (fun k => (gR μ' a k).map ad)))) := fun μ' hkm => by
    unfold ec
    rw [hkm, if_neg (by omega), if_neg (by omega)]
  have he : ∀ μ' : Wd, wn μ' = wn μ → gN μ' = gN μ → (wsO ad cA μ')[a]? = some (ad a, .inl (cA t, n, .inr (.inr (.inr (.inr (fun k => (gR μ' a k).map ad)))))) := fun μ' hn' ha' => by
    have hkm : km μ' a = t := (show km μ' a = km μ a by unfold km; rw [ha']).trans ho.2.1
    rw [wsO_get (by rw [hn']; exact ho.1), ent_arr hkm (by omega) ((show al μ' a = al μ a by unfold al; rw [ha']).trans ho.2.2), hec μ' hkm]
  have hev : (wsO ad cA μ)[v]? = some (ad v, .inr (ci, fvs ad μ v ci)) := by rw [wsO_get hv.1, ent_obj hv.2 hci]
  have hws : wsO ad cA (sR μ a j (some v)) = (wsO ad cA μ).set a (ad a, .inl (cA t, n, .inr (.inr (.inr (.inr (va_up (fun k => (gR μ a k).map ad) i.toNatClampNeg (some (ad v)))))))) := by
    have e1 := he (sR μ a j (some v)) rfl rfl
    rw [wsO_get (show a < wn (sR μ a j (some v)) from ho.1)] at e1
    refine (wsO_set (μ := μ) (μ' := sR μ a j (some v)) (a := a) rfl (fun k9 hk9 => ?_)).trans (by
      rw [Option.some.inj e1]
      refine congrArg (fun z => (wsO ad cA μ).set a (ad a, .inl (cA t, n, .inr (.inr (.inr (.inr z)))))) ?_
      refine funext fun k9 => ?_
      rw [hi.2.1]
      simp only [gR_sR, va_up]
      by_cases q : k9 = j <;> simp [q])
    · unfold ent fvs
      rw [show km (sR μ a j (some v)) k9 = km μ k9 from rfl]
      have hfv : fv ad (sR μ a j (some v)) k9 (km μ k9) = fv ad μ k9 (km μ k9) := funext fun z => by
        simp only [fv, gI_sR, gL_sR, gR_sR]
        simp [hk9]
      have hec2 : ec ad (sR μ a j (some v)) k9 = ec ad μ k9 := by
        unfold ec
        rw [show km (sR μ a j (some v)) k9 = km μ k9 from rfl]
        have q1 : gI (sR μ a j (some v)) k9 = gI μ k9 := funext fun z => rfl
        have q2 : gL (sR μ a j (some v)) k9 = gL μ k9 := funext fun z => rfl
        have q3 : gR (sR μ a j (some v)) k9 = gR μ k9 := funext fun z => by rw [gR_sR]; simp [hk9]
        simp only [q1, q2, q3]
      rw [hfv, hec2]
      rfl
  have hget := tyL_get cA (t := t) (by omega) (by omega)
  obtain ⟨r9, hr9⟩ : ∃ r, vwCl[ci]? = some r := by
    rcases hq : vwCl[ci]? with _ | r
    · exact absurd hq (by rw [List.getElem?_eq_none_iff]; show ¬ 13 ≤ ci; omega)
    · exact ⟨r, rfl⟩
  rw [hr r9 hr9] at hget
  refine va_astq (D := D) C.1 C.2.1 E.2.1 E.2.2.1.1 E.2.2.1.2.1 E.2.2.2.1 a (t - 20) v ci (he μ rfl rfl) hget hev hr9 hi.1 hd (fun H1 locs1 hP hD hS => ?_)
  have hP : va_P D vwCl (wsO ad cA (sR μ a j (some v))) H1 := by rw [hws]; exact hP
  have hD : va_D (fun q => base ≤ q) (wsO ad cA (sR μ a j (some v))) := by rw [hws]; exact hD
  exact kk p l e s m args below meth c H1 locs1 cells slots ls D cA base ad0 n0 ad C (E.wd hP hD hS rfl (fun i9 k9 j9 h8 h9 => by rw [gR_sR] at h9; split at h9 <;> first | (cases h9; exact (okS_cons.mp h2).1) | exact E.2.2.1.2.2.1 i9 k9 j9 h8 h9) rfl (fun q => scr_kept E.2.2.2.2.1 E.2.2.2.1 hS q)) h1 (okS_cons.mp (okS_cons.mp (okS_cons.mp h2).2).2).2 h3
/-- an array of eight arrays of twelve ints -/
def mkA (μ : Wd) : Wd := (μ.1 + 9, (fun a b => if μ.1 ≤ a then 0 else μ.2.1 a b), (fun a b => if μ.1 ≤ a then 0 else μ.2.2.1 a b), (fun a b => if a = μ.1 then (if b < 8 then some (μ.1 + 1 + b) else none) else if μ.1 < a then none else μ.2.2.2.1 a b), μ.2.2.2.2)
theorem gI_mkA (μ : Wd) (a k : Nat) : gI (mkA μ) a k = if wn μ ≤ a then 0 else gI μ a k := rfl
theorem gL_mkA (μ : Wd) (a k : Nat) : gL (mkA μ) a k = if wn μ ≤ a then 0 else gL μ a k := rfl
theorem gR_mkA (μ : Wd) (a k : Nat) : gR (mkA μ) a k = if a = wn μ then (if k < 8 then some (wn μ + 1 + k) else none) else if wn μ < a then none else gR μ a k := rfl
theorem wn_mkA (μ : Wd) : wn (mkA μ) = wn μ + 9 := rfl
theorem gX_mkA (μ : Wd) : gX (mkA μ) = gX μ := rfl
def upU (ad : Nat → Nat) (n q : Nat) (r : Nat → Nat) : Nat → Nat := fun i => if i = n then q else if n < i ∧ i < n + 9 then r (i - n - 1) else ad i
theorem upU_old {ad : Nat → Nat} {n q i : Nat} {r : Nat → Nat} (h : okI n i) (hn : n + 9 ≤ 339) : upU ad n q r i = ad i := by
  unfold upU
  rw [if_neg (by rcases h with h | h <;> omega), if_neg (by rcases h with h | h <;> omega)]
theorem upU_in {ad : Nat → Nat} {n q j : Nat} {r : Nat → Nat} (hj : j < 8) : upU ad n q r (n + 1 + j) = r j := by
  unfold upU
  rw [if_neg (by omega), if_pos (by omega), show n + 1 + j - n - 1 = j by omega]
theorem ent_mkA {i q : Nat} {r ad : Nat → Nat} {cA : Nat → ClassId} (hi : i < wn μ) (hn : wn μ + 9 ≤ 339) (hr : ∀ i k j, i < wn μ → gR μ i k = some j → okI (wn μ) j) : ent (upU ad (wn μ) q r) cA (mkA μ) i = ent ad cA μ i := by
  have q1 : gI (mkA μ) i = gI μ i := funext fun k => by rw [gI_mkA, if_neg (by omega)]
  have q2 : gL (mkA μ) i = gL μ i := funext fun k => by rw [gL_mkA, if_neg (by omega)]
  have q3 : ∀ k, (gR (mkA μ) i k).map (upU ad (wn μ) q r) = (gR μ i k).map ad := fun k => by
    rw [gR_mkA, if_neg (by omega), if_neg (by omega)]
    cases e : gR μ i k with
    | none => rfl
    | some j => exact congrArg some (upU_old (hr i k j hi e) hn)
  unfold ent
  rw [show km (mkA μ) i = km μ i from rfl]
  have hfv : fv (upU ad (wn μ) q r) (mkA μ) i (km μ i) = fv ad μ i (km μ i) := funext fun k => by
    unfold fv
    rw [q1, q2, q3]
  have hec : ec (upU ad (wn μ) q r) (mkA μ) i = ec ad μ i := by
    unfold ec
    rw [show km (mkA μ) i = km μ i from rfl, q1, q2]
    have q4 : (fun k => (gR (mkA μ) i k).map (upU ad (wn μ) q r)) = fun k => (gR μ i k).map ad := funext q3
    rw [q4]
  rw [hec, show al (mkA μ) i = al μ i from rfl]
  unfold fvs
  rw [hfv]
theorem wsO_mkA {q : Nat} {r ad : Nat → Nat} {cA : Nat → ClassId} (hn : wn μ + 9 ≤ 339) (hk : kt (wn μ) = 28 ∧ klL.getD (wn μ) 0 = 8 ∧ ∀ j, j < 8 → kt (wn μ + 1 + j) = 20 ∧ klL.getD (wn μ + 1 + j) 0 = 12) (hr : ∀ i k j, i < wn μ → gR μ i k = some j → okI (wn μ) j) :
    wsO (upU ad (wn μ) q r) cA (mkA μ) = (wsO ad cA μ ++ [(q, .inl (cA 28, 8, .inr (.inr (.inr (.inr fun i => if i < 8 then some (r i) else none)))))]) ++ (List.range 8).map (fun j => (r j, .inl (cA 20, 12, .inl fun _ => 0))) := by
  have e9 : List.range (wn μ + 9) = (List.range (wn μ) ++ [wn μ]) ++ (List.range 8).map (fun j => wn μ + 1 + j) := by
    rw [show wn μ + 9 = (wn μ + 1) + 8 by omega, List.range_add, List.range_succ]
  unfold wsO
  rw [show wn (mkA μ) = wn μ + 9 from rfl, e9, List.map_append, List.map_append]
  congr 1
  · congr 1
    · refine List.map_congr_left fun i hi => ?_
      have hi := List.mem_range.mp hi
      rw [ent_mkA hi hn hr, upU_old (Or.inl hi) hn]
    · show [(upU ad (wn μ) q r (wn μ), ent (upU ad (wn μ) q r) cA (mkA μ) (wn μ))] = _
      have hq : upU ad (wn μ) q r (wn μ) = q := if_pos rfl
      have hkm : km (mkA μ) (wn μ) = 28 := (km_lt (by omega)).trans hk.1
      have hal : al (mkA μ) (wn μ) = 8 := (al_lt (by omega)).trans hk.2.1
      have hec : ec (upU ad (wn μ) q r) (mkA μ) (wn μ) = .inr (.inr (.inr (.inr fun i => if i < 8 then some (r i) else none))) := by
        unfold ec
        rw [hkm, if_neg (by omega), if_neg (by omega)]
        refine congrArg (fun z => Sum.inr (Sum.inr (Sum.inr (Sum.inr z)))) (funext fun k => ?_)
        rw [gR_mkA, if_pos rfl]
        by_cases h8 : k < 8
        · rw [if_pos h8, if_pos h8]
          exact congrArg some (upU_in h8)
        · rw [if_neg h8, if_neg h8]
          rfl
      rw [ent_arr hkm (by omega) hal, hec, hq]
  · rw [List.map_map]
    refine List.map_congr_left fun j hj => ?_
    have hj := List.mem_range.mp hj
    show (upU ad (wn μ) q r (wn μ + 1 + j), ent (upU ad (wn μ) q r) cA (mkA μ) (wn μ + 1 + j)) = _
    have hal : al (mkA μ) (wn μ + 1 + j) = 12 := (al_lt (by omega)).trans (hk.2.2 j hj).2
    have hkm : km (mkA μ) (wn μ + 1 + j) = 20 := (km_lt (by omega)).trans (hk.2.2 j hj).1
    have hec : ec (upU ad (wn μ) q r) (mkA μ) (wn μ + 1 + j) = .inl fun _ => 0 := by
      unfold ec
      rw [hkm, if_neg (by omega), if_pos (by omega)]
      refine congrArg Sum.inl (funext fun k => ?_)
      rw [gI_mkA, if_pos (by omega)]
    rw [ent_arr hkm (by omega) hal, hec, upU_in hj]
theorem a_mna {i : Nat} (hd : decode Y.2.1 pc = .ok (.multianewarray i 2, 4)) (hcl : Cond.classLink Y.1.cls i "[[I" ∈ lwa) (hac : Cond.arrayClass .int ∈ lwa) (hn : wn μ + 9 ≤ 339) (hk : kt (wn μ) = 28 ∧ klL.getD (wn μ) 0 = 8 ∧ ∀ j, j < 8 → kt (wn μ + 1 + j) = 20 ∧ klL.getD (wn μ + 1 + j) 0 = 12)
    {b' : Nat × Nat} (hb : b = (b'.1 + 9, b'.2 + 104)) (kk : AW Y rm b' (mkA μ) (pc + 4) la (.ref (wn μ) :: st) o μ1) : AW Y rm b μ pc la (.int 12 :: .int 8 :: st) o μ1 := by
  intro p l e s m args below meth c H locs cells slots ls D cA base ad0 n0 ad C E h1 h2 h3
  have hts := C.2.2.2.2.2.1
  have h4 := (okS_cons.mp (okS_cons.mp h2).2).2
  have k20 := (E.2.1.2 0 (cA 20, .int) rfl).2
  have k28 := (E.2.1.2 8 (cA 28, .array .int) rfl).2
  have e8 := E.2.2.2.2.2.2.2.1
  have e9 := E.2.2.2.2.2.2.2.2
  rw [hb] at e8 e9
  refine va_mna (D := D) (X := wsO ad cA μ) (L := []) (f := fun _ => .inl (cA 20, 0, .inl fun _ => 0)) (own := Y.1.cls) (ty := .int) (cy := cA 20) C.1 C.2.1 C.2.2.2.2.1 (hts _ hcl) (E.1.2.2.2.2.2.2.2.2.2.1) (hts _ hac) k20 E.2.1 (by simpa [va_pl] using E.2.2.1.1) (by simpa [va_pl] using E.2.2.1.2.1) E.2.2.2.1 (fun q h => Nat.le_trans E.2.2.2.2.1 h) (N' := 8) (K' := 12) (z := (12, .inl fun _ => 0)) (by decide) (by decide) (by decide) (by decide) (Nat.le_of_ble_eq_true rfl) (Nat.le_of_ble_eq_true rfl) (Nat.le_of_ble_eq_true rfl) rfl rfl (by have := e8; omega) (by have := e9; omega) (fun c => by rw [vp_cell_i]; rw [← arrV_new]; rfl) hd (fun q r c9 H1 hri hrl hK hP hD hS => ?_)
  have k2 := (hK.2 9 (c9, .array .int) rfl).2
  have ec9 : c9 = cA 28 := Option.some.inj (Eq.trans (Eq.symm k2) k28)
  subst ec9
  have hL : va_pl ([] ++ (List.range 8).map r) (vr_up (fun _ => .inl (cA 20, 0, .inl fun _ => 0)) ((List.range 8).map r) (.inl (cA 20, (12, .inl fun _ => 0)))) = (List.range 8).map (fun j => (r j, .inl (cA 20, 12, .inl fun _ => 0))) := by
    unfold va_pl
    rw [List.nil_append, List.map_map]
    refine List.map_congr_left fun j hj => ?_
    show (r j, vr_up _ ((List.range 8).map r) _ (r j)) = _
    rw [vr_up_in (List.mem_map_of_mem hj)]
  rw [hL] at hP hD
  have hws := wsO_mkA (q := q) (r := r) (ad := ad) (cA := cA) hn hk E.2.2.1.2.2.1
  rw [← hws] at hP hD
  have hx : Ext ad (wn μ) (upU ad (wn μ) q r) := fun i hi => upU_old hi hn
  obtain ⟨e1, e2, ⟨r1, r2, r3, r4, r5, r6⟩, e4, e5, e6, e7, -, -⟩ := E
  have hX : upU ad (wn μ) q r 2000000 = ad 2000000 := upU_old (Or.inr (by omega)) hn
  have hrr : ∀ i k j, i < wn (mkA μ) → gR (mkA μ) i k = some j → okI (wn (mkA μ)) j := fun i k j hi hj => by
    rw [gR_mkA] at hj
    rw [wn_mkA] at hi ⊢
    split at hj
    · split at hj
      · injection hj with hj; subst hj; exact Or.inl (by omega)
      · exact nomatch hj
    · split at hj
      · exact nomatch hj
      · exact okI_mono (by omega) (r3 i k j (by omega) hj)
  have k := kk p l e s m args below meth c H1 locs (cells + 1 + 8) (slots + 8 + 8 * 12) ls D cA base ad0 n0 (upU ad (wn μ) q r) C ⟨e1.ext hx, e2, ⟨hP, hD, hrr, by rw [wn_mkA]; omega, by rw [hX]; exact r5.kept (scr_kept e5 e4 hS r6), by rw [hX]; exact r6⟩, hS, e5, e6.tr hx e7, by rw [wn_mkA]; omega, by have := e8; omega, by have := e9; omega⟩ (okL_mono (by rw [wn_mkA]; omega) h1) (okS_cons.mpr ⟨Or.inl (by rw [wn_mkA]; omega), okS_mono (by rw [wn_mkA]; omega) h4⟩) (by rw [tvl_ext hx h1]; exact h3)
  have e1 : (Value.ref (wn μ) :: st).map (tv (upU ad (wn μ) q r)) = .ref q :: st.map (tv ad) := by
    rw [List.map_cons, tvs_ext hx h4]
    show Value.ref (upU ad (wn μ) q r (wn μ)) :: _ = _
    rw [show upU ad (wn μ) q r (wn μ) = q from if_pos rfl]
  rw [e1] at k
  exact k

/-- all references of the first world -/
def r1 (i k : Nat) : Option Nat := match r0 i k with
  | some j => some j
  | none => if k = 0 ∧ kt i = 2 then some 3 else if k = 9 ∧ i = 0 then some 58 else if k = 0 ∧ kt i = 1 then some 1000000 else if k = 0 ∧ kt i = 6 then some 1000001 else if k = 0 ∧ i = 80 then some 81 else none
def cl2 (a : Nat) (F : Nat → Option Nat) (T : Nat → Nat → Option Nat) : Nat → Nat → Option Nat := fun i k => if i = a then F k else T i k
def upF (F : Nat → Option Nat) (k : Nat) (v : Option Nat) : Nat → Option Nat := fun j => if j = k then v else F j
abbrev zJ : Nat → Nat → Int32 := fun _ _ => 0
/-- cells below a as in the other world; those from a on up to n as in the tables -/
def Bu (μ0 : Wd) (a n : Nat) (T : Nat → Nat → Option Nat) (J : Nat → Nat → Int32) (μ : Wd) : Prop :=
  wn μ = n ∧ gX μ = gX μ0 ∧ (∀ i, i < a → ∀ k, gI μ i k = gI μ0 i k ∧ gL μ i k = gL μ0 i k ∧ gR μ i k = gR μ0 i k) ∧ ∀ i, a ≤ i → i < n → ∀ k, gI μ i k = J i k ∧ gL μ i k = 0 ∧ gR μ i k = T i k
variable {μ0 W V : Wd} {a n b9 : Nat} {T T' : Nat → Nat → Option Nat} {J J' : Nat → Nat → Int32} {F G : Nat → Option Nat}
theorem bu_mk (h : Bu μ0 a n T J μ) (hT : ∀ k, T n k = none) (hJ : ∀ k, J n k = 0) (ha : a ≤ n) (len : Nat) : Bu μ0 a (n + 1) T J (mk μ len) := by
  obtain ⟨h1, h2, h3, h4⟩ := h
  refine ⟨by rw [wn_mk, h1], by rw [gX_mk, h2], fun i hi k => ?_, fun i hi hn k => ?_⟩
  · have hne : ¬ i = wn μ := by omega
    rw [gI_mk, if_neg hne, gL_mk, if_neg hne, gR_mk, if_neg hne]
    exact h3 i hi k
  · by_cases hne : i = wn μ
    · rw [gI_mk, if_pos hne, gL_mk, if_pos hne, gR_mk, if_pos hne]
      have e : i = n := hne.trans h1
      subst e
      exact ⟨(hJ k).symm, rfl, (hT k).symm⟩
    · rw [gI_mk, if_neg hne, gL_mk, if_neg hne, gR_mk, if_neg hne]
      exact h4 i hi (by omega) k
theorem cl2_at (k : Nat) : cl2 a F T a k = F k := if_pos rfl
theorem cl2_ne {i : Nat} (h : i ≠ a) (k : Nat) : cl2 a F T i k = T i k := if_neg h
theorem Bu.congr (h : Bu μ0 a n T J μ) (hT : ∀ i, a ≤ i → i < n → ∀ k, T i k = T' i k) : Bu μ0 a n T' J μ :=
  ⟨h.1, h.2.1, h.2.2.1, fun i hi hn k => ⟨(h.2.2.2 i hi hn k).1, (h.2.2.2 i hi hn k).2.1, (h.2.2.2 i hi hn k).2.2.trans (hT i hi hn k)⟩⟩
/-- a new cell that is still written -/
theorem bu_mkO (h : Bu μ0 a n T J μ) (hJ : ∀ k, J n k = 0) (ha : a ≤ n) (len : Nat) : Bu μ0 a (n + 1) (cl2 n (fun _ => none) T) J (mk μ len) :=
  bu_mk (h.congr (T' := cl2 n (fun _ => none) T) (fun i hi hn k => (cl2_ne (by omega) k).symm)) (fun k => cl2_at k) hJ ha len
theorem bu_sR (h : Bu μ0 a n (cl2 b9 F T) J μ) (ha : a ≤ b9) (k : Nat) (v : Option Nat) : Bu μ0 a n (cl2 b9 (upF F k v) T) J (sR μ b9 k v) := by
  obtain ⟨h1, h2, h3, h4⟩ := h
  refine ⟨h1, h2, fun i hi q => ?_, fun i hi hn q => ?_⟩
  · rw [gI_sR, gL_sR, gR_sR, if_neg (by omega)]
    exact h3 i hi q
  · obtain ⟨g1, g2, g3⟩ := h4 i hi hn q
    rw [gI_sR, gL_sR, gR_sR]
    refine ⟨g1, g2, ?_⟩
    by_cases e : i = b9
    · subst e
      rw [cl2_at]
      unfold upF
      by_cases e2 : q = k
      · rw [if_pos ⟨rfl, e2⟩, if_pos e2]
      · rw [if_neg (fun y => e2 y.2), if_neg e2, g3, cl2_at]
    · rw [if_neg (fun y => e y.1), g3, cl2_ne e, cl2_ne e]
/-- the same, beneath another open cell -/
theorem bu_sR2 {c9 : Nat} (h : Bu μ0 a n (cl2 c9 G (cl2 b9 F T)) J μ) (hne : c9 ≠ b9) (ha : a ≤ b9) (k : Nat) (v : Option Nat) : Bu μ0 a n (cl2 c9 G (cl2 b9 (upF F k v) T)) J (sR μ b9 k v) := by
  have e : ∀ (F : Nat → Option Nat) (i q : Nat), cl2 c9 G (cl2 b9 F T) i q = cl2 b9 F (cl2 c9 G T) i q := fun F i q => by
    unfold cl2
    by_cases x : i = c9
    · rw [if_pos x, if_neg (by omega), if_pos x]
    · rw [if_neg x, if_neg x]
  exact (bu_sR (h.congr (fun i _ _ q => e F i q)) ha k v).congr (fun i _ _ q => (e _ i q).symm)
theorem bu_sI (h : Bu μ0 a n T J μ) {i k : Nat} (ha : a ≤ i) (v : Int32) : Bu μ0 a n T (up2 J i k v) (sI μ i k v) := by
  obtain ⟨h1, h2, h3, h4⟩ := h
  refine ⟨h1, h2, fun j hj q => ?_, fun j hj hn q => ?_⟩
  · rw [gI_sI, gL_sI, gR_sI, if_neg (by omega)]
    exact h3 j hj q
  · obtain ⟨g1, g2, g3⟩ := h4 j hj hn q
    rw [gI_sI, gL_sI, gR_sI]
    refine ⟨?_, g2, g3⟩
    unfold up2
    rw [g1]
/-- cells that a called constructor made -/
theorem bu_sub {n2 : Nat} (h : Bu μ0 a n T J μ) (ha : a ≤ n) (g : Bu (mk μ 0) n n2 r1 zJ V) (hT : ∀ i, n ≤ i → i < n2 → ∀ k, T i k = r1 i k) (hJ : ∀ i, n ≤ i → i < n2 → ∀ k, J i k = 0) : Bu μ0 a n2 T J V := by
  obtain ⟨h1, h2, h3, h4⟩ := h
  obtain ⟨g1, g2, g3, g4⟩ := g
  have lo : ∀ i, i < n → ∀ k, gI V i k = gI μ i k ∧ gL V i k = gL μ i k ∧ gR V i k = gR μ i k := fun i hi k => by
    have hne : ¬ i = wn μ := by omega
    have q := g3 i hi k
    rw [gI_mk, if_neg hne, gL_mk, if_neg hne, gR_mk, if_neg hne] at q
    exact q
  refine ⟨g1, g2.trans ((gX_mk μ 0).trans h2), fun i hi k => ?_, fun i hi hn k => ?_⟩
  · obtain ⟨x1, x2, x3⟩ := lo i (by omega) k
    obtain ⟨y1, y2, y3⟩ := h3 i hi k
    exact ⟨x1.trans y1, x2.trans y2, x3.trans y3⟩
  · by_cases hin : i < n
    · obtain ⟨x1, x2, x3⟩ := lo i hin k
      obtain ⟨y1, y2, y3⟩ := h4 i hi hin k
      exact ⟨x1.trans y1, x2.trans y2, x3.trans y3⟩
    · obtain ⟨x1, x2, x3⟩ := g4 i (by omega) hn k
      exact ⟨x1.trans (hJ i (by omega) hn k).symm, x2, x3.trans (hT i (by omega) hn k).symm⟩
/-- a new object, as its constructor finds it -/
def Nu (μ : Wd) (a : Nat) : Prop := wn μ = a + 1 ∧ ∀ k, gI μ a k = 0 ∧ gL μ a k = 0 ∧ gR μ a k = none
theorem nu_mk {a : Nat} (h : wn μ = a) : Nu (mk μ 0) a := by
  subst h
  exact ⟨rfl, fun k => ⟨by rw [gI_mk, if_pos rfl], by rw [gL_mk, if_pos rfl], by rw [gR_mk, if_pos rfl]⟩⟩
theorem Nu.bu (h : Nu μ a) : Bu μ a (a + 1) (cl2 a (fun _ => none) r1) zJ μ := ⟨h.1, rfl, fun _ _ _ => ⟨rfl, rfl, rfl⟩, fun i h1 h2 k => by
  have e : i = a := by omega
  subst e
  rw [cl2_at]
  exact h.2 k⟩
theorem km_k {μ : Wd} {i c : Nat} (hk : kt i = c) (hc : c < 99) : km μ i = c := by
  by_cases h : i < 339
  · exact (km_lt h).trans hk
  · unfold kt at hk
    rw [if_neg h] at hk
    omega
theorem Bu.ob (h : Bu μ0 a n T J μ) {i c : Nat} (hi : i < n) (hk : kt i = c) (hc : c < 99 := by decide) : Ob μ i c := ⟨by rw [h.1]; exact hi, km_k hk hc⟩
theorem Bu.ar (h : Bu μ0 a n T J μ) {i t m : Nat} (hi : i < n) (h3 : i < 339) (hk : kt i = t) (hl : klL.getD i 0 = m) : Ar μ i t m := ⟨by rw [h.1]; exact hi, (km_lt h3).trans hk, (al_lt h3).trans hl⟩
theorem bu_mkA (h : Bu μ0 a n T J μ) (ha : a ≤ n) (hT : ∀ i, n ≤ i → i < n + 9 → ∀ k, T i k = if i = n then (if k < 8 then some (n + 1 + k) else none) else none) (hJ : ∀ i, n ≤ i → i < n + 9 → ∀ k, J i k = 0) : Bu μ0 a (n + 9) T J (mkA μ) := by
  obtain ⟨h1, h2, h3, h4⟩ := h
  refine ⟨by rw [wn_mkA, h1], h2, fun i hi k => ?_, fun i hi hn k => ?_⟩
  · rw [gI_mkA, if_neg (by omega), gL_mkA, if_neg (by omega), gR_mkA, if_neg (by omega), if_neg (by omega)]
    exact h3 i hi k
  · by_cases hin : i < n
    · rw [gI_mkA, if_neg (by omega), gL_mkA, if_neg (by omega), gR_mkA, if_neg (by omega), if_neg (by omega)]
      exact h4 i hi hin k
    · rw [gI_mkA, if_pos (by omega), gL_mkA, if_pos (by omega), gR_mkA, hT i (by omega) hn k, hJ i (by omega) hn k, h1]
      refine ⟨rfl, rfl, ?_⟩
      by_cases e : i = n
      · rw [if_pos e, if_pos e]
      · rw [if_neg e, if_neg e, if_pos (by omega)]
theorem r1_none {i t : Nat} (hk : kt i = t) (ht : 20 ≤ t) (h : r0L.getD i [] = []) (k : Nat) : r1 i k = none := by
  have h0 : r0 i k = none := by
    unfold r0
    rw [h]
    rfl
  unfold r1
  rw [h0]
  have x0 : i ≠ 0 := fun e => absurd hk (by rw [e, show kt 0 = 11 by decide +kernel]; omega)
  have x80 : i ≠ 80 := fun e => absurd hk (by rw [e, show kt 80 = 10 by decide +kernel]; omega)
  show (if k = 0 ∧ kt i = 2 then some 3 else _) = none
  rw [if_neg (by omega), if_neg (by omega), if_neg (by omega), if_neg (by omega), if_neg (by omega)]
theorem r0_big : ∀ i k : Nat, 39 ≤ k → r0 i k = none := fun i k hk => by
  have h : ∀ row ∈ r0L, row.length ≤ 39 := by decide +kernel
  unfold r0
  simp only [List.getD_eq_getElem?_getD]
  cases e : r0L[i]? with
  | none => rfl
  | some row =>
    have hm := h row (List.mem_of_getElem? e)
    show (row[k]?).getD none = none
    rw [List.getElem?_eq_none (by omega)]
    rfl
theorem r1_big (i k : Nat) (hk : 39 ≤ k) : r1 i k = none := by
  unfold r1
  rw [r0_big i k hk]
  show (if k = 0 ∧ kt i = 2 then some 3 else _) = none
  rw [if_neg (by omega), if_neg (by omega), if_neg (by omega), if_neg (by omega), if_neg (by omega)]
def kOK (i t n : Nat) : Prop := kt i = t ∧ klL.getD i 0 = n ∧ i < 339 ∧ ∀ k, r1 i k = none
theorem kOK.of {i t n : Nat} (h : ktL.getD i 99 = t ∧ klL.getD i 0 = n ∧ r0L.getD i [] = [] ∧ 20 ≤ t ∧ i < 339) : kOK i t n := ⟨(kt_lt h.2.2.2.2).trans h.1, h.2.1, h.2.2.2.2, r1_none ((kt_lt h.2.2.2.2).trans h.1) h.2.2.2.1 h.2.2.1⟩
/-- a cell that is done -/
theorem cl2_close {c a : Nat} {G F : Nat → Option Nat} (h : ∀ k, k < 39 → G k = r1 c k) (hG : ∀ k, 39 ≤ k → G k = none) (hc : c ≠ a) (i k : Nat) : cl2 c G (cl2 a F r1) i k = cl2 a F r1 i k := by
  by_cases e : i = c
  · subst e
    rw [cl2_at, cl2_ne hc]
    by_cases hk : k < 39
    · exact h k hk
    · rw [hG k (by omega), r1_big i k (by omega)]
  · rw [cl2_ne e]
theorem cl2_closeA {a : Nat} {F : Nat → Option Nat} (h : ∀ k, k < 39 → F k = r1 a k) (hF : ∀ k, 39 ≤ k → F k = none) (i k : Nat) : cl2 a F r1 i k = r1 i k := by
  by_cases e : i = a
  · subst e
    rw [cl2_at]
    by_cases hk : k < 39
    · exact h k hk
    · rw [hF k (by omega), r1_big i k (by omega)]
  · rw [cl2_ne e]
end CTOR0
