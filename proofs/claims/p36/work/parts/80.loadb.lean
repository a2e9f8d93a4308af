section LOADB
variable {μ W V X Z : Wd} {p p0 f g : Nat} {q : PDt} {d d2 e : FDt} {H : Hst} {S : Nat → Option FDt} {z : PZ}
/-- the flight that a text leaves: its own, the accounts of the one before -/
def ldA (z : PZ) (d : FDt) : FDt := (dP z.2.1, dU z.2.1, dF (dminX z.2.1 (pF z.1 9 1)), dA d)
abbrev sLa : Nat → Prop := fun i => i = 0 ∨ i = 57
abbrev sLz : Nat → Prop := fun i => i = 0 ∨ i = 57 ∨ (24 ≤ i ∧ i ≤ 40) ∨ i = 82 ∨ i = 323
theorem ld_a (hw : Wf W) (hv : FV W 24 p d) (ht : FV W 41 p0 (dminX z.2.1 (pF z.1 9 1))) (hX : X = cpL (sR (sI (sI (sI W 0 1 0) 0 4 0) 0 5 (-1)) 0 9 (some p)) (24 + 16) (41 + 16) 6) : Wf X ∧ Out sLa W X ∧ FV X 41 p0 (ldA z d) ∧ (∀ k, gI X 0 k = if k = 5 then -1 else if k = 4 then 0 else if k = 1 then 0 else gI W 0 k) ∧ ∀ k, gR X 0 k = if k = 9 then some p else gR W 0 k := by
  have hw1 : Wf (sI (sI (sI W 0 1 0) 0 4 0) 0 5 (-1)) := hw.sI.sI.sI
  have hw2 : Wf (sR (sI (sI (sI W 0 1 0) 0 4 0) 0 5 (-1)) 0 9 (some p)) := hw1.sR (by decide) _
  have eI : ∀ a b, gI X a b = if a = 0 ∧ b = 5 then -1 else if a = 0 ∧ b = 4 then 0 else if a = 0 ∧ b = 1 then 0 else gI W a b := fun a b => by rw [hX, gI_cpL, gI_sR, gI_sI, gI_sI, gI_sI]
  have eR : ∀ a b, gR X a b = if a = 0 ∧ b = 9 then some p else gR W a b := fun a b => by rw [hX, gR_cpL, gR_sR, gR_sI, gR_sI, gR_sI]
  have eL : ∀ a b, gL X a b = if a = 41 + 16 ∧ b < 6 then gL W (24 + 16) b else gL W a b := fun a b => by rw [hX, gL_cpL, gL_sR, gL_sR, gL_sI, gL_sI, gL_sI, gL_sI, gL_sI, gL_sI]
  have hwX : Wf X := by rw [hX]; exact hw2.cpL
  have en : wn X = wn W ∧ gN X = gN W ∧ gX X = gX W := by rw [hX]; exact ⟨rfl, rfl, rfl⟩
  clear hX hw1 hw2
  have hO : Out sLa W X := ⟨hwX, en.1, en.2.1, en.2.2, fun i hi k => ⟨by rw [eI, if_neg (fun y => hi (Or.inl y.1)), if_neg (fun y => hi (Or.inl y.1)), if_neg (fun y => hi (Or.inl y.1))], by rw [eL, if_neg (fun y => hi (Or.inr y.1))], by rw [eR, if_neg (fun y => hi (Or.inl y.1))]⟩⟩
  have gI41 : ∀ a b, 41 ≤ a → gI X a b = gI W a b := fun a b ha => by rw [eI, if_neg (by omega), if_neg (by omega), if_neg (by omega)]
  refine ⟨hwX, hO, ⟨ht.fl, by rw [eR, if_neg (by omega)]; exact ht.rp, ⟨by rw [gI41 _ _ (by omega)]; exact ht.hP, ht.P4⟩, ⟨by rw [gI41 _ _ (by omega)]; exact ht.hU, ht.U4⟩, fun i hi => ?_, fun i hi => ?_, by rw [gI41 _ _ (by omega)]; exact ht.srv, by rw [gI41 _ _ (by omega)]; exact ht.min, fun t k g1 g2 => by rw [gI41 _ _ (by omega)]; exact ht.un g1 g2, fun i hi => by rw [eL, if_pos ⟨rfl, hi⟩]; exact hv.acc hi⟩, fun k => ?_, fun k => ?_⟩
  · rw [gI41 _ _ (by omega), gI41 _ _ (by omega), gI41 _ _ (by omega)]; exact ⟨ht.cab hi, ht.nee hi, ht.wis hi⟩
  · rw [gI41 _ _ (by omega), gI41 _ _ (by omega), gI41 _ _ (by omega)]; exact ⟨ht.tm hi, ht.tu hi, ht.td hi⟩
  · rw [eI]
    by_cases c5 : k = 5
    · rw [if_pos ⟨rfl, c5⟩, if_pos c5]
    · rw [if_neg (fun y => c5 y.2), if_neg c5]
      by_cases c4 : k = 4
      · rw [if_pos ⟨rfl, c4⟩, if_pos c4]
      · rw [if_neg (fun y => c4 y.2), if_neg c4]
        by_cases c1 : k = 1
        · rw [if_pos ⟨rfl, c1⟩, if_pos c1]
        · rw [if_neg (fun y => c1 y.2), if_neg c1]
  · rw [eR]
    by_cases c9 : k = 9
    · rw [if_pos ⟨rfl, c9⟩, if_pos c9]
    · rw [if_neg (fun y => c9 y.2), if_neg c9]
abbrev sLc : Nat → Prop := fun i => i = 0 ∨ i = 82 ∨ i = 323
theorem ld_c {a : Int32} (hw : Wf V) (ha : a = 0) (hZ : Z = sI (sI (sI (sI (sI V 82 2 0) 0 17 0) 323 0 a) 323 1 a) 0 6 0) : Out sLc V Z ∧ gI Z 82 1 = gI V 82 1 ∧ gI Z 82 2 = 0 ∧ gI Z 323 0 = 0 ∧ gI Z 323 1 = 0 ∧ (∀ k, gI Z 0 k = if k = 6 then 0 else if k = 17 then 0 else gI V 0 k) ∧ ∀ k, gR Z 0 k = gR V 0 k := by
  have hO : Out sLc V Z := by
    rw [hZ]
    exact (((((Out.rfl' hw).sI (S := sLc) (Or.inr (Or.inl rfl)) _ _).sI (S := sLc) (Or.inl rfl) _ _).sI (S := sLc) (Or.inr (Or.inr rfl)) _ _).sI (S := sLc) (Or.inr (Or.inr rfl)) _ _).sI (S := sLc) (Or.inl rfl) _ _
  have e : ∀ x b, gI Z x b = if x = 0 ∧ b = 6 then 0 else if x = 323 ∧ b = 1 then a else if x = 323 ∧ b = 0 then a else if x = 0 ∧ b = 17 then 0 else if x = 82 ∧ b = 2 then 0 else gI V x b := fun x b => by rw [hZ, gI_sI, gI_sI, gI_sI, gI_sI, gI_sI]
  have er : ∀ k, gR Z 0 k = gR V 0 k := fun k => by rw [hZ, gR_sI, gR_sI, gR_sI, gR_sI, gR_sI]
  clear hZ
  refine ⟨hO, by rw [e, if_neg (by omega), if_neg (by omega), if_neg (by omega), if_neg (by omega), if_neg (by omega)], by rw [e, if_neg (by omega), if_neg (by omega), if_neg (by omega), if_neg (by omega), if_pos ⟨rfl, rfl⟩], by rw [e, if_neg (by omega), if_neg (by omega), if_pos ⟨rfl, rfl⟩, ha], by rw [e, if_neg (by omega), if_pos ⟨rfl, rfl⟩, ha], fun k => ?_, er⟩
  rw [e]
  by_cases c6 : k = 6
  · rw [if_pos ⟨rfl, c6⟩, if_pos c6]
  · rw [if_neg (fun y => c6 y.2), if_neg (by omega), if_neg (by omega), if_neg c6]
    by_cases c17 : k = 17
    · rw [if_pos ⟨rfl, c17⟩, if_pos c17]
    · rw [if_neg (fun y => c17 y.2), if_neg (by omega), if_neg c17]
abbrev sLq (p0 : Nat) : Nat → Prop := fun i => sLz i ∨ sP p0 i
/-- what a right text leaves -/
def LdQ (μ V : Wd) (p p0 : Nat) (z : PZ) (d : FDt) (H : Hst) : Prop := CrV V p0 z.1 (ldA z d) (0, H.2) (fun _ => none) ∧ gR V 0 9 = some p ∧ gI V 0 1 = 0 ∧ gI V 0 4 = 0 ∧ gI V 0 5 = -1 ∧ gI V 0 6 = 0 ∧ (∀ k, k ≠ 1 → k ≠ 4 → k ≠ 5 → k ≠ 6 → k ≠ 17 → gI V 0 k = gI μ 0 k) ∧ (∀ k, k ≠ 9 → gR V 0 k = gR μ 0 k) ∧ (∀ i, i < pM z.1 → NmV V (p0 + 7 + i) (z.2.2.2 i)) ∧ Ex (sLq p0) μ V ∧ wn V ≤ wn μ + 48 ∧ K3 (wn V)
theorem ld_fin (h : CrV μ p q d H S) (hp0 : Pl p0) (hne : p0 ≠ p) (hE : Ex (sP p0) μ W) (hN : wn W ≤ wn μ + 48) (hK : K3 (wn W)) (hP : PV W p0 z.1) (hNm : ∀ i, i < pM z.1 → NmV W (p0 + 7 + i) (z.2.2.2 i))
    (hOa : Out sLa W X) (xI : ∀ k, gI X 0 k = if k = 5 then -1 else if k = 4 then 0 else if k = 1 then 0 else gI W 0 k) (xR : ∀ k, gR X 0 k = if k = 9 then some p else gR W 0 k) (hO : Out (sFl 24) X V) (hF : FV V 24 p0 (ldA z d)) {a : Int32} (ha : a = 0) (hZ : Z = sI (sI (sI (sI (sI V 82 2 0) 0 17 0) 323 0 a) 323 1 a) 0 6 0) : LdQ μ Z p p0 z d H := by
  obtain ⟨oc, c1, c2, c3, c4, cI, cR⟩ := ld_c hO.wf ha hZ
  clear hZ
  have hC := h.ex hp0 hne hE
  obtain ⟨k, r, k1, k2, k3, k4, k6, k5⟩ := hC.hs
  have hz : Out sLz W Z := ((hOa.mono (S' := sLz) (fun i y => by rcases y with y | y; exact Or.inl y; exact Or.inr (Or.inl y))).trans (hO.mono (S' := sLz) (fun i y => Or.inr (Or.inr (Or.inl ⟨y.1, by have := y.2; omega⟩))))).trans (oc.mono (S' := sLz) (fun i y => by rcases y with y | y | y; exact Or.inl y; exact Or.inr (Or.inr (Or.inr (Or.inl y))); exact Or.inr (Or.inr (Or.inr (Or.inr y)))))
  have v0 : ∀ k, gI V 0 k = gI X 0 k := fun k => hO.i (fun y => by have := y.1; omega) k
  have v0r : ∀ k, gR V 0 k = gR X 0 k := fun k => hO.r (fun y => by have := y.1; omega) k
  have v82 : gI V 82 1 = gI W 82 1 := (hO.i (fun y => by have := y.2; omega) 1).trans (hOa.i (fun y => by rcases y with y | y <;> omega) 1)
  have n0 : ¬ sP p0 0 := fun y => by rcases hp0 with e | e <;> (subst e; rcases y with y | y | y | y <;> omega)
  have hw0 : 0 < wn μ := h.wf.lt (by decide)
  have e17 : gI Z 0 17 = 0 := by rw [cI, if_neg (by decide), if_pos rfl]
  have hpz : ∀ i, p0 ≤ i → i ≤ p0 + 20 → ¬ sLz i := fun i a b y => by rcases hp0 with e | e <;> (subst e; rcases y with y | y | y | y | y <;> omega)
  refine ⟨⟨oc.1, hP.out hz (fun i a b => hpz i a b), hF.out oc (fun i a b y => by rcases y with y | y | y <;> omega), ⟨k, r, k1, (c1.trans v82).trans k2, c2, Nat.zero_le _, fun i (hi : i < 0) => absurd hi (Nat.not_lt_zero i), fun i (hi : i < 0) => absurd hi (Nat.not_lt_zero i)⟩, fun j hj => ?_, Or.inl e17⟩, ?_, ?_, ?_, ?_, ?_, fun k g1 g2 g3 g4 g5 => ?_, fun k g1 => ?_, fun i hi => ?_, ?_, ?_, ?_⟩
  · rcases (by omega : j = 0 ∨ j = 1) with rfl | rfl
    · exact c3
    · exact c4
  · rw [cR, v0r, xR, if_pos rfl]
  · rw [cI, if_neg (by decide), if_neg (by decide), v0, xI, if_neg (by decide), if_neg (by decide), if_pos rfl]
  · rw [cI, if_neg (by decide), if_neg (by decide), v0, xI, if_neg (by decide), if_pos rfl]
  · rw [cI, if_neg (by decide), if_neg (by decide), v0, xI, if_pos rfl]
  · rw [cI, if_pos rfl]
  · rw [cI, if_neg g4, if_neg g5, v0, xI, if_neg g3, if_neg g2, if_neg g1]; exact hE.i hw0 n0 k
  · rw [cR, v0r, xR, if_neg g1]; exact hE.r hw0 n0 k
  · have hM := hP.M4
    exact (hNm i hi).ex (Ex.of hz) (fun i y => by rcases y with y | y | y | y | y <;> omega) (hE.1.lt (by rcases hp0 with e | e <;> omega)) (hpz _ (by omega) (by omega))
  · exact (hE.mono (S' := sLq p0) (fun i _ y => Or.inr y)).trans ((Ex.of hz).mono (fun i _ y => Or.inl y))
  · rw [hz.2.1]; exact hN
  · rw [hz.2.1]; exact hK
theorem c_load (h : CrV μ p q d H S) (hid : gR μ 0 9 = some p0) (hp0 : Pl p0) (hne : p0 ≠ p) {n L : Nat} (hl : gI μ 0 1 = nI L) (hL : L ≤ 900) (hn : n ≤ L) {B : Nat → Nat} (hB : ∀ k, k < n → B k < 256 ∧ gI μ 1 k = sby (B k)) (hk3 : K3 (wn μ)) (hmx : wn μ + 51 < 1000000) (he : rdS B n (n + 1) 0 (rz0 (gI μ 41 2) (gL μ 57)) = .inr z) (h01z : dF (ldA z d) 6 0 = 0 ∨ dF (ldA z d) 6 0 = 1) : CV Y_X10_load R48_X10_load [.ref 0, .int (nI n)] μ (fun v V => v = some (.int (nI (dP z.2.1))) ∧ LdQ μ V p p0 z d H) := by
  have hw := h.wf
  have hv := h.fv
  have hq := h.pv
  have hC4 := hq.C4
  have hM4 := hq.M4
  have hT4 := hq.T4
  have hP4 := hv.P4
  have hU4 := hv.U4
  refine CV.ent yk_X10_load (Nat.le_of_ble_eq_true rfl) ?_
  refine lf (a_iload_n dX10_load_0 rfl) ?_
  refine lf2 (a_if_lt (tgt := 12) dX10_load_1 (by decide)) (fun h1 => absurd h1 (nI_pos (by omega))) (fun h1 => ?_)
  refine lf (a_iload_n dX10_load_4 rfl) ?_
  refine lf (a_aload_n dX10_load_5 rfl) ?_
  refine lf (a_getI dX10_load_6 fs_X10_82 rfl (co_0 (by repeat (first | with_reducible exact hw | with_reducible exact hwc | with_reducible assumption | with_reducible apply Wf.sI | with_reducible apply Wf.sL | with_reducible apply Wf.cpI | with_reducible apply Wf.cpL | with_reducible apply Wf.cp2 | with_reducible apply Wf.sIs | with_reducible apply Wf.sLs | with_reducible apply Wf.cpU | with_reducible apply Wf.fillI | with_reducible apply Wf.clU | with_reducible apply Wf.dnF | with_reducible apply Wf.gbW)))) ?_
  rw [hl]
  refine lf2 (a_icmp_le (tgt := 22) dX10_load_9 (by decide)) (fun h9 => ?_) (fun h9 => absurd h9 (fun z => z (nI_le hn (by omega))))
  refine lf (a_aload_n dX10_load_22 rfl) ?_
  refine lf (a_getR (cr_0_10 (by repeat (first | with_reducible exact hw | with_reducible exact hwc | with_reducible assumption | with_reducible apply Wf.sI | with_reducible apply Wf.sL | with_reducible apply Wf.cpI | with_reducible apply Wf.cpL | with_reducible apply Wf.cp2 | with_reducible apply Wf.sIs | with_reducible apply Wf.sLs | with_reducible apply Wf.cpU | with_reducible apply Wf.fillI | with_reducible apply Wf.clU | with_reducible apply Wf.dnF | with_reducible apply Wf.gbW))) dX10_load_23 fs_X10_42 rfl (co_0 (by repeat (first | with_reducible exact hw | with_reducible exact hwc | with_reducible assumption | with_reducible apply Wf.sI | with_reducible apply Wf.sL | with_reducible apply Wf.cpI | with_reducible apply Wf.cpL | with_reducible apply Wf.cp2 | with_reducible apply Wf.sIs | with_reducible apply Wf.sLs | with_reducible apply Wf.cpU | with_reducible apply Wf.fillI | with_reducible apply Wf.clU | with_reducible apply Wf.dnF | with_reducible apply Wf.gbW)))) ?_
  refine lf (a_aload_n dX10_load_26 rfl) ?_
  refine lf (a_getR (cr_0_0 (by repeat (first | with_reducible exact hw | with_reducible exact hwc | with_reducible assumption | with_reducible apply Wf.sI | with_reducible apply Wf.sL | with_reducible apply Wf.cpI | with_reducible apply Wf.cpL | with_reducible apply Wf.cp2 | with_reducible apply Wf.sIs | with_reducible apply Wf.sLs | with_reducible apply Wf.cpU | with_reducible apply Wf.fillI | with_reducible apply Wf.clU | with_reducible apply Wf.dnF | with_reducible apply Wf.gbW))) dX10_load_27 fs_X10_9 rfl (co_0 (by repeat (first | with_reducible exact hw | with_reducible exact hwc | with_reducible assumption | with_reducible apply Wf.sI | with_reducible apply Wf.sL | with_reducible apply Wf.cpI | with_reducible apply Wf.cpL | with_reducible apply Wf.cp2 | with_reducible apply Wf.sIs | with_reducible apply Wf.sLs | with_reducible apply Wf.cpU | with_reducible apply Wf.fillI | with_reducible apply Wf.clU | with_reducible apply Wf.dnF | with_reducible apply Wf.gbW)))) ?_
  refine lf (a_iload_n dX10_load_30 rfl) ?_
  refine lf (a_aload_n dX10_load_31 rfl) ?_
  refine lf (a_getR (cr_0_8 (by repeat (first | with_reducible exact hw | with_reducible exact hwc | with_reducible assumption | with_reducible apply Wf.sI | with_reducible apply Wf.sL | with_reducible apply Wf.cpI | with_reducible apply Wf.cpL | with_reducible apply Wf.cp2 | with_reducible apply Wf.sIs | with_reducible apply Wf.sLs | with_reducible apply Wf.cpU | with_reducible apply Wf.fillI | with_reducible apply Wf.clU | with_reducible apply Wf.dnF | with_reducible apply Wf.gbW))) dX10_load_32 fs_X10_32 rfl (co_0 (by repeat (first | with_reducible exact hw | with_reducible exact hwc | with_reducible assumption | with_reducible apply Wf.sI | with_reducible apply Wf.sL | with_reducible apply Wf.cpI | with_reducible apply Wf.cpL | with_reducible apply Wf.cp2 | with_reducible apply Wf.sIs | with_reducible apply Wf.sLs | with_reducible apply Wf.cpU | with_reducible apply Wf.fillI | with_reducible apply Wf.clU | with_reducible apply Wf.dnF | with_reducible apply Wf.gbW)))) ?_
  refine lf (a_aload_n dX10_load_35 rfl) ?_
  refine lf (a_getR hid dX10_load_36 fs_X10_35 rfl (co_0 (by repeat (first | with_reducible exact hw | with_reducible exact hwc | with_reducible assumption | with_reducible apply Wf.sI | with_reducible apply Wf.sL | with_reducible apply Wf.cpI | with_reducible apply Wf.cpL | with_reducible apply Wf.cp2 | with_reducible apply Wf.sIs | with_reducible apply Wf.sLs | with_reducible apply Wf.cpU | with_reducible apply Wf.fillI | with_reducible apply Wf.clU | with_reducible apply Wf.dnF | with_reducible apply Wf.gbW)))) ?_
  obtain ⟨v_, W39, k39, hrd⟩ := (t_X2_read hw hp0 (show n ≤ 900 by omega) hB hk3 hmx)
  obtain ⟨hE, hN, hK, hM⟩ := hrd
  rw [he] at hM
  obtain ⟨rfl, r1, r2, rP, rT, rN⟩ := hM
  have hwc := hE.1
  have hvr := (h.ex hp0 hne hE).fv
  refine lf (a_inv (b2 := (0, 0)) k39 rfl dX10_load_39 yk_X2_read im_X2_read se_X2_read ml_X10_101 rfl (co_79 (by repeat (first | with_reducible exact hw | with_reducible exact hwc | with_reducible assumption | with_reducible apply Wf.sI | with_reducible apply Wf.sL | with_reducible apply Wf.cpI | with_reducible apply Wf.cpL | with_reducible apply Wf.cp2 | with_reducible apply Wf.sIs | with_reducible apply Wf.sLs | with_reducible apply Wf.cpU | with_reducible apply Wf.fillI | with_reducible apply Wf.clU | with_reducible apply Wf.dnF | with_reducible apply Wf.gbW))) (by decide) hc_X2 (by decide) (by decide) (Nat.le_of_ble_eq_true rfl)) ?_
  refine lf (a_istore_n dX10_load_42 (by decide)) ?_
  refine lf (a_aload_n dX10_load_43 rfl) ?_
  refine lf (a_iconst (0 : Int32) dX10_load_44 (by decide)) ?_
  refine lf (a_putI dX10_load_45 fs_X10_82 rfl rfl rfl (co_0 (by repeat (first | with_reducible exact hw | with_reducible exact hwc | with_reducible assumption | with_reducible apply Wf.sI | with_reducible apply Wf.sL | with_reducible apply Wf.cpI | with_reducible apply Wf.cpL | with_reducible apply Wf.cp2 | with_reducible apply Wf.sIs | with_reducible apply Wf.sLs | with_reducible apply Wf.cpU | with_reducible apply Wf.fillI | with_reducible apply Wf.clU | with_reducible apply Wf.dnF | with_reducible apply Wf.gbW)))) ?_
  refine lf (a_aload_n dX10_load_48 rfl) ?_
  refine lf (a_aload_n dX10_load_49 rfl) ?_
  refine lf (a_getR (cr_0_10 (by repeat (first | with_reducible exact hw | with_reducible exact hwc | with_reducible assumption | with_reducible apply Wf.sI | with_reducible apply Wf.sL | with_reducible apply Wf.cpI | with_reducible apply Wf.cpL | with_reducible apply Wf.cp2 | with_reducible apply Wf.sIs | with_reducible apply Wf.sLs | with_reducible apply Wf.cpU | with_reducible apply Wf.fillI | with_reducible apply Wf.clU | with_reducible apply Wf.dnF | with_reducible apply Wf.gbW))) dX10_load_50 fs_X10_42 rfl (co_0 (by repeat (first | with_reducible exact hw | with_reducible exact hwc | with_reducible assumption | with_reducible apply Wf.sI | with_reducible apply Wf.sL | with_reducible apply Wf.cpI | with_reducible apply Wf.cpL | with_reducible apply Wf.cp2 | with_reducible apply Wf.sIs | with_reducible apply Wf.sLs | with_reducible apply Wf.cpU | with_reducible apply Wf.fillI | with_reducible apply Wf.clU | with_reducible apply Wf.dnF | with_reducible apply Wf.gbW)))) ?_
  refine lf (a_getI dX10_load_53 fs_X10_105 rfl (co_79 (by repeat (first | with_reducible exact hw | with_reducible exact hwc | with_reducible assumption | with_reducible apply Wf.sI | with_reducible apply Wf.sL | with_reducible apply Wf.cpI | with_reducible apply Wf.cpL | with_reducible apply Wf.cp2 | with_reducible apply Wf.sIs | with_reducible apply Wf.sLs | with_reducible apply Wf.cpU | with_reducible apply Wf.fillI | with_reducible apply Wf.clU | with_reducible apply Wf.dnF | with_reducible apply Wf.gbW)))) ?_
  rw [gI_sI, if_neg (by omega)]
  rw [r1]
  refine lf (a_putI dX10_load_56 fs_X10_108 rfl rfl rfl (co_0 (by repeat (first | with_reducible exact hw | with_reducible exact hwc | with_reducible assumption | with_reducible apply Wf.sI | with_reducible apply Wf.sL | with_reducible apply Wf.cpI | with_reducible apply Wf.cpL | with_reducible apply Wf.cp2 | with_reducible apply Wf.sIs | with_reducible apply Wf.sLs | with_reducible apply Wf.cpU | with_reducible apply Wf.fillI | with_reducible apply Wf.clU | with_reducible apply Wf.dnF | with_reducible apply Wf.gbW)))) ?_
  refine lf (a_aload_n dX10_load_59 rfl) ?_
  refine lf (a_aload_n dX10_load_60 rfl) ?_
  refine lf (a_getR (cr_0_10 (by repeat (first | with_reducible exact hw | with_reducible exact hwc | with_reducible assumption | with_reducible apply Wf.sI | with_reducible apply Wf.sL | with_reducible apply Wf.cpI | with_reducible apply Wf.cpL | with_reducible apply Wf.cp2 | with_reducible apply Wf.sIs | with_reducible apply Wf.sLs | with_reducible apply Wf.cpU | with_reducible apply Wf.fillI | with_reducible apply Wf.clU | with_reducible apply Wf.dnF | with_reducible apply Wf.gbW))) dX10_load_61 fs_X10_42 rfl (co_0 (by repeat (first | with_reducible exact hw | with_reducible exact hwc | with_reducible assumption | with_reducible apply Wf.sI | with_reducible apply Wf.sL | with_reducible apply Wf.cpI | with_reducible apply Wf.cpL | with_reducible apply Wf.cp2 | with_reducible apply Wf.sIs | with_reducible apply Wf.sLs | with_reducible apply Wf.cpU | with_reducible apply Wf.fillI | with_reducible apply Wf.clU | with_reducible apply Wf.dnF | with_reducible apply Wf.gbW)))) ?_
  refine lf (a_getI dX10_load_64 fs_X10_111 rfl (co_79 (by repeat (first | with_reducible exact hw | with_reducible exact hwc | with_reducible assumption | with_reducible apply Wf.sI | with_reducible apply Wf.sL | with_reducible apply Wf.cpI | with_reducible apply Wf.cpL | with_reducible apply Wf.cp2 | with_reducible apply Wf.sIs | with_reducible apply Wf.sLs | with_reducible apply Wf.cpU | with_reducible apply Wf.fillI | with_reducible apply Wf.clU | with_reducible apply Wf.dnF | with_reducible apply Wf.gbW)))) ?_
  rw [gI_sI, if_neg (by omega)]
  rw [gI_sI, if_neg (by omega)]
  rw [r2]
  refine lf (a_putI dX10_load_67 fs_X10_16 rfl rfl rfl (co_0 (by repeat (first | with_reducible exact hw | with_reducible exact hwc | with_reducible assumption | with_reducible apply Wf.sI | with_reducible apply Wf.sL | with_reducible apply Wf.cpI | with_reducible apply Wf.cpL | with_reducible apply Wf.cp2 | with_reducible apply Wf.sIs | with_reducible apply Wf.sLs | with_reducible apply Wf.cpU | with_reducible apply Wf.fillI | with_reducible apply Wf.clU | with_reducible apply Wf.dnF | with_reducible apply Wf.gbW)))) ?_
  refine lf (a_iload_n dX10_load_70 rfl) ?_
  refine lfn (a_if_ne (tgt := 84) dX10_load_71 (by decide)) (fun h71 => ?_) (fun h71 => absurd h71 (by decide))
  refine lf (a_aload_n dX10_load_84 rfl) ?_
  refine lf (a_aload_n dX10_load_85 rfl) ?_
  refine lf (a_getR (cr_0_7 (by repeat (first | with_reducible exact hw | with_reducible exact hwc | with_reducible assumption | with_reducible apply Wf.sI | with_reducible apply Wf.sL | with_reducible apply Wf.cpI | with_reducible apply Wf.cpL | with_reducible apply Wf.cp2 | with_reducible apply Wf.sIs | with_reducible apply Wf.sLs | with_reducible apply Wf.cpU | with_reducible apply Wf.fillI | with_reducible apply Wf.clU | with_reducible apply Wf.dnF | with_reducible apply Wf.gbW))) dX10_load_86 fs_X10_28 rfl (co_0 (by repeat (first | with_reducible exact hw | with_reducible exact hwc | with_reducible assumption | with_reducible apply Wf.sI | with_reducible apply Wf.sL | with_reducible apply Wf.cpI | with_reducible apply Wf.cpL | with_reducible apply Wf.cp2 | with_reducible apply Wf.sIs | with_reducible apply Wf.sLs | with_reducible apply Wf.cpU | with_reducible apply Wf.fillI | with_reducible apply Wf.clU | with_reducible apply Wf.dnF | with_reducible apply Wf.gbW)))) ?_
  refine lf (a_getR (hvr.rp) dX10_load_89 fs_X10_116 rfl (fl_o (by repeat (first | with_reducible exact hw | with_reducible exact hwc | with_reducible assumption | with_reducible apply Wf.sI | with_reducible apply Wf.sL | with_reducible apply Wf.cpI | with_reducible apply Wf.cpL | with_reducible apply Wf.cp2 | with_reducible apply Wf.sIs | with_reducible apply Wf.sLs | with_reducible apply Wf.cpU | with_reducible apply Wf.fillI | with_reducible apply Wf.clU | with_reducible apply Wf.dnF | with_reducible apply Wf.gbW)) fl_now)) ?_
  refine lf (a_putR dX10_load_92 fs_X10_35 rfl rfl (co_0 (by repeat (first | with_reducible exact hw | with_reducible exact hwc | with_reducible assumption | with_reducible apply Wf.sI | with_reducible apply Wf.sL | with_reducible apply Wf.cpI | with_reducible apply Wf.cpL | with_reducible apply Wf.cp2 | with_reducible apply Wf.sIs | with_reducible apply Wf.sLs | with_reducible apply Wf.cpU | with_reducible apply Wf.fillI | with_reducible apply Wf.clU | with_reducible apply Wf.dnF | with_reducible apply Wf.gbW)))) ?_
  have hwx : Wf (sR (sI (sI (sI W39 0 1 0) 0 4 0) 0 5 (-1)) 0 9 (some p)) := (show Wf (sI (sI (sI W39 0 1 0) 0 4 0) 0 5 (-1)) from hwc.sI.sI.sI).sR (by decide) _
  refine lf (a_aload_n dX10_load_95 rfl) ?_
  refine lf (a_getR (cr_0_8 (by repeat (first | with_reducible exact hw | with_reducible exact hwc | with_reducible assumption | with_reducible apply Wf.sI | with_reducible apply Wf.sL | with_reducible apply Wf.cpI | with_reducible apply Wf.cpL | with_reducible apply Wf.cp2 | with_reducible apply Wf.sIs | with_reducible apply Wf.sLs | with_reducible apply Wf.cpU | with_reducible apply Wf.fillI | with_reducible apply Wf.clU | with_reducible apply Wf.dnF | with_reducible apply Wf.gbW))) dX10_load_96 fs_X10_32 rfl (co_0 (by repeat (first | with_reducible exact hw | with_reducible exact hwc | with_reducible assumption | with_reducible apply Wf.sI | with_reducible apply Wf.sL | with_reducible apply Wf.cpI | with_reducible apply Wf.cpL | with_reducible apply Wf.cp2 | with_reducible apply Wf.sIs | with_reducible apply Wf.sLs | with_reducible apply Wf.cpU | with_reducible apply Wf.fillI | with_reducible apply Wf.clU | with_reducible apply Wf.dnF | with_reducible apply Wf.gbW)))) ?_
  refine lf (a_aload_n dX10_load_99 rfl) ?_
  refine lf (a_getR (cr_0_7 (by repeat (first | with_reducible exact hw | with_reducible exact hwc | with_reducible assumption | with_reducible apply Wf.sI | with_reducible apply Wf.sL | with_reducible apply Wf.cpI | with_reducible apply Wf.cpL | with_reducible apply Wf.cp2 | with_reducible apply Wf.sIs | with_reducible apply Wf.sLs | with_reducible apply Wf.cpU | with_reducible apply Wf.fillI | with_reducible apply Wf.clU | with_reducible apply Wf.dnF | with_reducible apply Wf.gbW))) dX10_load_100 fs_X10_28 rfl (co_0 (by repeat (first | with_reducible exact hw | with_reducible exact hwc | with_reducible assumption | with_reducible apply Wf.sI | with_reducible apply Wf.sL | with_reducible apply Wf.cpI | with_reducible apply Wf.cpL | with_reducible apply Wf.cp2 | with_reducible apply Wf.sIs | with_reducible apply Wf.sLs | with_reducible apply Wf.cpU | with_reducible apply Wf.fillI | with_reducible apply Wf.clU | with_reducible apply Wf.dnF | with_reducible apply Wf.gbW)))) ?_
  refine lf (a_inv (b2 := (0, 0)) (t_X1_copyAccounts hwx fl_trial fl_now) rfl dX10_load_103 yk_X1_copyAccounts im_X1_copyAccounts se_X1_copyAccounts ml_X10_119 rfl (fl_o (by repeat (first | with_reducible exact hw | with_reducible exact hwc | with_reducible assumption | with_reducible apply Wf.sI | with_reducible apply Wf.sL | with_reducible apply Wf.cpI | with_reducible apply Wf.cpL | with_reducible apply Wf.cp2 | with_reducible apply Wf.sIs | with_reducible apply Wf.sLs | with_reducible apply Wf.cpU | with_reducible apply Wf.fillI | with_reducible apply Wf.clU | with_reducible apply Wf.dnF | with_reducible apply Wf.gbW)) fl_trial) (by decide) hc_X1 (by decide) (by decide) (Nat.le_of_ble_eq_true rfl)) ?_
  obtain ⟨X, hX⟩ : ∃ X, X = cpL (sR (sI (sI (sI W39 0 1 0) 0 4 0) 0 5 (-1)) 0 9 (some p)) (24 + 16) (41 + 16) 6 := ⟨_, rfl⟩
  rw [← hX]
  obtain ⟨hwX, hOa, hvX, xI, xR⟩ := ld_a (z := z) hwc hvr rT hX
  refine lf (a_aload_n dX10_load_106 rfl) ?_
  refine lf (a_getR (cr_0_7 (by repeat (first | with_reducible exact hw | with_reducible exact hwc | with_reducible assumption | with_reducible apply Wf.sI | with_reducible apply Wf.sL | with_reducible apply Wf.cpI | with_reducible apply Wf.cpL | with_reducible apply Wf.cp2 | with_reducible apply Wf.sIs | with_reducible apply Wf.sLs | with_reducible apply Wf.cpU | with_reducible apply Wf.fillI | with_reducible apply Wf.clU | with_reducible apply Wf.dnF | with_reducible apply Wf.gbW))) dX10_load_107 fs_X10_28 rfl (co_0 (by repeat (first | with_reducible exact hw | with_reducible exact hwc | with_reducible assumption | with_reducible apply Wf.sI | with_reducible apply Wf.sL | with_reducible apply Wf.cpI | with_reducible apply Wf.cpL | with_reducible apply Wf.cp2 | with_reducible apply Wf.sIs | with_reducible apply Wf.sLs | with_reducible apply Wf.cpU | with_reducible apply Wf.fillI | with_reducible apply Wf.clU | with_reducible apply Wf.dnF | with_reducible apply Wf.gbW)))) ?_
  refine lf (a_aload_n dX10_load_110 rfl) ?_
  refine lf (a_getR (cr_0_8 (by repeat (first | with_reducible exact hw | with_reducible exact hwc | with_reducible assumption | with_reducible apply Wf.sI | with_reducible apply Wf.sL | with_reducible apply Wf.cpI | with_reducible apply Wf.cpL | with_reducible apply Wf.cp2 | with_reducible apply Wf.sIs | with_reducible apply Wf.sLs | with_reducible apply Wf.cpU | with_reducible apply Wf.fillI | with_reducible apply Wf.clU | with_reducible apply Wf.dnF | with_reducible apply Wf.gbW))) dX10_load_111 fs_X10_32 rfl (co_0 (by repeat (first | with_reducible exact hw | with_reducible exact hwc | with_reducible assumption | with_reducible apply Wf.sI | with_reducible apply Wf.sL | with_reducible apply Wf.cpI | with_reducible apply Wf.cpL | with_reducible apply Wf.cp2 | with_reducible apply Wf.sIs | with_reducible apply Wf.sLs | with_reducible apply Wf.cpU | with_reducible apply Wf.fillI | with_reducible apply Wf.clU | with_reducible apply Wf.dnF | with_reducible apply Wf.gbW)))) ?_
  obtain ⟨v_, W114, k114, rfl, hF, hO⟩ := (v_X1_copy hwX fl_now hvX (by decide) h01z)
  have hwd := hO.wf
  refine lf (a_inv (b2 := (0, 0)) k114 rfl dX10_load_114 yk_X1_copy im_X1_copy se_X1_copy ml_X10_123 rfl (fl_o (by repeat (first | with_reducible exact hw | with_reducible exact hwc | with_reducible assumption | with_reducible apply Wf.sI | with_reducible apply Wf.sL | with_reducible apply Wf.cpI | with_reducible apply Wf.cpL | with_reducible apply Wf.cp2 | with_reducible apply Wf.sIs | with_reducible apply Wf.sLs | with_reducible apply Wf.cpU | with_reducible apply Wf.fillI | with_reducible apply Wf.clU | with_reducible apply Wf.dnF | with_reducible apply Wf.gbW)) fl_now) (by decide) hc_X1 (by decide) (by decide) (Nat.le_of_ble_eq_true rfl)) ?_
  refine lf (a_aload_n dX10_load_117 rfl) ?_
  refine lf (a_inv (b2 := (0, 0)) (c_forgetPast hwd) rfl dX10_load_118 yk_X10_forgetPast im_X10_forgetPast se_X10_forgetPast ml_X10_126 rfl (co_0 (by repeat (first | with_reducible exact hw | with_reducible exact hwc | with_reducible assumption | with_reducible apply Wf.sI | with_reducible apply Wf.sL | with_reducible apply Wf.cpI | with_reducible apply Wf.cpL | with_reducible apply Wf.cp2 | with_reducible apply Wf.sIs | with_reducible apply Wf.sLs | with_reducible apply Wf.cpU | with_reducible apply Wf.fillI | with_reducible apply Wf.clU | with_reducible apply Wf.dnF | with_reducible apply Wf.gbW))) (by decide) hc_X10 (by decide) (by decide) (Nat.le_of_ble_eq_true rfl)) ?_
  refine lf (a_iconst (0 : Int32) dX10_load_121 (by decide)) ?_
  refine lf (a_istore_n dX10_load_122 (by decide)) ?_
  refine lf (a_loc [(0, .ref 0), (1, .int (nI n)), (2, .int 1), (3, .int 0)] rfl) ?_
  refine lf (a_iload_n dX10_load_123 rfl) ?_
  refine lf (a_iconst (2 : Int32) dX10_load_124 (by decide)) ?_
  refine lf2 (a_icmp_ge (tgt := 141) dX10_load_125 (by decide)) (fun h125 => absurd h125 (by decide)) (fun h125 => ?_)
  refine lf (a_aload_n dX10_load_128 rfl) ?_
  refine lf (a_getR (cr_0_13 (by repeat (first | with_reducible exact hw | with_reducible exact hwc | with_reducible assumption | with_reducible apply Wf.sI | with_reducible apply Wf.sL | with_reducible apply Wf.cpI | with_reducible apply Wf.cpL | with_reducible apply Wf.cp2 | with_reducible apply Wf.sIs | with_reducible apply Wf.sLs | with_reducible apply Wf.cpU | with_reducible apply Wf.fillI | with_reducible apply Wf.clU | with_reducible apply Wf.dnF | with_reducible apply Wf.gbW))) dX10_load_129 fs_X10_57 rfl (co_0 (by repeat (first | with_reducible exact hw | with_reducible exact hwc | with_reducible assumption | with_reducible apply Wf.sI | with_reducible apply Wf.sL | with_reducible apply Wf.cpI | with_reducible apply Wf.cpL | with_reducible apply Wf.cp2 | with_reducible apply Wf.sIs | with_reducible apply Wf.sLs | with_reducible apply Wf.cpU | with_reducible apply Wf.fillI | with_reducible apply Wf.clU | with_reducible apply Wf.dnF | with_reducible apply Wf.gbW)))) ?_
  refine lf (a_iload_n dX10_load_132 rfl) ?_
  refine lf (a_iconst (0 : Int32) dX10_load_133 (by decide)) ?_
  refine lf (a_zst dX10_load_134 (ca_323 (by repeat (first | with_reducible exact hw | with_reducible exact hwc | with_reducible assumption | with_reducible apply Wf.sI | with_reducible apply Wf.sL | with_reducible apply Wf.cpI | with_reducible apply Wf.cpL | with_reducible apply Wf.cp2 | with_reducible apply Wf.sIs | with_reducible apply Wf.sLs | with_reducible apply Wf.cpU | with_reducible apply Wf.fillI | with_reducible apply Wf.clU | with_reducible apply Wf.dnF | with_reducible apply Wf.gbW))) (ixn (m := 0) (by omega) (by decide))) ?_
  refine lf (a_iinc (1 : Int32) dX10_load_135 (by decide) rfl (by decide)) ?_
  refine lf (a_goto (tgt := 123) dX10_load_138 (by decide)) ?_
  refine lf (a_loc [(0, .ref 0), (1, .int (nI n)), (2, .int 1), (3, .int 1)] rfl) ?_
  refine lf (a_iload_n dX10_load_123 rfl) ?_
  refine lf (a_iconst (2 : Int32) dX10_load_124 (by decide)) ?_
  refine lf2 (a_icmp_ge (tgt := 141) dX10_load_125 (by decide)) (fun h125 => absurd h125 (by decide)) (fun h125 => ?_)
  refine lf (a_aload_n dX10_load_128 rfl) ?_
  refine lf (a_getR (cr_0_13 (by repeat (first | with_reducible exact hw | with_reducible exact hwc | with_reducible assumption | with_reducible apply Wf.sI | with_reducible apply Wf.sL | with_reducible apply Wf.cpI | with_reducible apply Wf.cpL | with_reducible apply Wf.cp2 | with_reducible apply Wf.sIs | with_reducible apply Wf.sLs | with_reducible apply Wf.cpU | with_reducible apply Wf.fillI | with_reducible apply Wf.clU | with_reducible apply Wf.dnF | with_reducible apply Wf.gbW))) dX10_load_129 fs_X10_57 rfl (co_0 (by repeat (first | with_reducible exact hw | with_reducible exact hwc | with_reducible assumption | with_reducible apply Wf.sI | with_reducible apply Wf.sL | with_reducible apply Wf.cpI | with_reducible apply Wf.cpL | with_reducible apply Wf.cp2 | with_reducible apply Wf.sIs | with_reducible apply Wf.sLs | with_reducible apply Wf.cpU | with_reducible apply Wf.fillI | with_reducible apply Wf.clU | with_reducible apply Wf.dnF | with_reducible apply Wf.gbW)))) ?_
  refine lf (a_iload_n dX10_load_132 rfl) ?_
  refine lf (a_iconst (0 : Int32) dX10_load_133 (by decide)) ?_
  refine lf (a_zst dX10_load_134 (ca_323 (by repeat (first | with_reducible exact hw | with_reducible exact hwc | with_reducible assumption | with_reducible apply Wf.sI | with_reducible apply Wf.sL | with_reducible apply Wf.cpI | with_reducible apply Wf.cpL | with_reducible apply Wf.cp2 | with_reducible apply Wf.sIs | with_reducible apply Wf.sLs | with_reducible apply Wf.cpU | with_reducible apply Wf.fillI | with_reducible apply Wf.clU | with_reducible apply Wf.dnF | with_reducible apply Wf.gbW))) (ixn (m := 1) (by omega) (by decide))) ?_
  refine lf (a_iinc (1 : Int32) dX10_load_135 (by decide) rfl (by decide)) ?_
  refine lf (a_goto (tgt := 123) dX10_load_138 (by decide)) ?_
  refine lf (a_loc [(0, .ref 0), (1, .int (nI n)), (2, .int 1), (3, .int 2)] rfl) ?_
  refine lf (a_iload_n dX10_load_123 rfl) ?_
  refine lf (a_iconst (2 : Int32) dX10_load_124 (by decide)) ?_
  refine lf2 (a_icmp_ge (tgt := 141) dX10_load_125 (by decide)) (fun h125 => ?_) (fun h125 => absurd h125 (by decide))
  refine lf (a_aload_n dX10_load_141 rfl) ?_
  refine lf (a_iconst (0 : Int32) dX10_load_142 (by decide)) ?_
  refine lf (a_putI dX10_load_143 fs_X10_129 rfl rfl rfl (co_0 (by repeat (first | with_reducible exact hw | with_reducible exact hwc | with_reducible assumption | with_reducible apply Wf.sI | with_reducible apply Wf.sL | with_reducible apply Wf.cpI | with_reducible apply Wf.cpL | with_reducible apply Wf.cp2 | with_reducible apply Wf.sIs | with_reducible apply Wf.sLs | with_reducible apply Wf.cpU | with_reducible apply Wf.fillI | with_reducible apply Wf.clU | with_reducible apply Wf.dnF | with_reducible apply Wf.gbW)))) ?_
  refine lf (a_aload_n dX10_load_146 rfl) ?_
  refine lf (a_getR (cr_0_7 (by repeat (first | with_reducible exact hw | with_reducible exact hwc | with_reducible assumption | with_reducible apply Wf.sI | with_reducible apply Wf.sL | with_reducible apply Wf.cpI | with_reducible apply Wf.cpL | with_reducible apply Wf.cp2 | with_reducible apply Wf.sIs | with_reducible apply Wf.sLs | with_reducible apply Wf.cpU | with_reducible apply Wf.fillI | with_reducible apply Wf.clU | with_reducible apply Wf.dnF | with_reducible apply Wf.gbW))) dX10_load_147 fs_X10_28 rfl (co_0 (by repeat (first | with_reducible exact hw | with_reducible exact hwc | with_reducible assumption | with_reducible apply Wf.sI | with_reducible apply Wf.sL | with_reducible apply Wf.cpI | with_reducible apply Wf.cpL | with_reducible apply Wf.cp2 | with_reducible apply Wf.sIs | with_reducible apply Wf.sLs | with_reducible apply Wf.cpU | with_reducible apply Wf.fillI | with_reducible apply Wf.clU | with_reducible apply Wf.dnF | with_reducible apply Wf.gbW)))) ?_
  refine lf (a_getI dX10_load_150 fs_X10_132 rfl (fl_o (by repeat (first | with_reducible exact hw | with_reducible exact hwc | with_reducible assumption | with_reducible apply Wf.sI | with_reducible apply Wf.sL | with_reducible apply Wf.cpI | with_reducible apply Wf.cpL | with_reducible apply Wf.cp2 | with_reducible apply Wf.sIs | with_reducible apply Wf.sLs | with_reducible apply Wf.cpU | with_reducible apply Wf.fillI | with_reducible apply Wf.clU | with_reducible apply Wf.dnF | with_reducible apply Wf.gbW)) fl_now)) ?_
  rw [gI_sI, if_neg (by omega)]
  rw [gI_sI, if_neg (by omega)]
  rw [gI_sI, if_neg (by omega)]
  rw [gI_sI, if_neg (by omega)]
  rw [gI_sI, if_neg (by omega)]
  rw [hF.hP]
  refine ⟨_, _, (a_ireturn dX10_load_153 rfl rfl), ?_⟩
  exact ⟨_, rfl, rfl, ld_fin h hp0 hne hE hN hK rP rN hOa xI xR hO hF (by decide) rfl⟩
end LOADB
