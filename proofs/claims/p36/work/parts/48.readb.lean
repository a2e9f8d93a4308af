section READB
variable {μ W : Wd} {B : Nat → Nat} {n p0 : Nat} {d : FDt}
def pl0 : PDt := (0, 0, 0, fun a i => if a = 9 then (if i = 0 then 1 else if i = 1 then 120 else if i = 2 then 30 else 10) else 0)
/-- what a text is read into, before its first statement; the minutes and the accounts are those of before -/
def rz0 (m0 : Int32) (A0 : Nat → Int64) : PZ := (pl0, (0, 0, fun a i => if a = 6 ∧ i = 1 then m0 else 0, A0), fun _ => [], fun _ => [])
theorem gI_clU (μ : Wd) (f : Nat) : ∀ t i k, gI (clU μ f t) i k = if (f + 5 ≤ i ∧ i < f + 5 + t) ∧ k < 12 then 0 else gI μ i k
  | 0, i, k => by rw [if_neg (by omega)]; rfl
  | t + 1, i, k => by
    show gI (fillI (clU μ f t) (f + 5 + t) 12 0) i k = _
    rw [gI_fillI, gI_clU μ f t]
    by_cases h1 : i = f + 5 + t ∧ k < 12
    · rw [if_pos h1, if_pos (by omega)]
    · rw [if_neg h1]
      by_cases h2 : (f + 5 ≤ i ∧ i < f + 5 + t) ∧ k < 12
      · rw [if_pos h2, if_pos (by omega)]
      · rw [if_neg h2, if_neg (by omega)]
theorem gR_clU (μ : Wd) (f : Nat) : ∀ t i k, gR (clU μ f t) i k = gR μ i k
  | 0, _, _ => rfl
  | t + 1, i, k => gR_clU μ f t i k
theorem gL_clU (μ : Wd) (f : Nat) : ∀ t i k, gL (clU μ f t) i k = gL μ i k
  | 0, _, _ => rfl
  | t + 1, i, k => gL_clU μ f t i k
theorem wn_clU (μ : Wd) (f : Nat) : ∀ t, wn (clU μ f t) = wn μ ∧ gN (clU μ f t) = gN μ ∧ gX (clU μ f t) = gX μ
  | 0 => ⟨rfl, rfl, rfl⟩
  | t + 1 => wn_clU μ f t
/-- the world with the flight and the plan to be read into -/
def rdB (μ : Wd) (p0 : Nat) : Wd := sR (sR μ 79 1 (some 41)) 79 2 (some p0)
def rdC (μ : Wd) (p0 : Nat) : Wd := sI (sI (sI (sI (sI (sI (sI (rdB μ p0) p0 0 1) p0 1 0) p0 3 0) p0 5 0) p0 8 120) p0 9 30) p0 10 10
/-- behind a flight's clear -/
def ClQ (μ V : Wd) (f q : Nat) : Prop := Wf V ∧ (wn V = wn μ ∧ gN V = gN μ ∧ gX V = gX μ) ∧ (∀ i k, gI V i k = if (f + 5 ≤ i ∧ i < f + 5 + 8) ∧ k < 12 then 0 else if i = f ∧ k = 8 then 0 else if i = f ∧ k = 3 then 0 else if i = f ∧ k = 1 then 0 else gI μ i k) ∧ (∀ i k, gR V i k = if i = f ∧ k = 0 then some q else gR μ i k) ∧ ∀ i k, gL V i k = gL μ i k
theorem v_X1_clear (hw : Wf μ) {f q : Nat} (hf : Fl f) : CV Y_X1_clear R_X1_clear [.ref f, .ref q] μ (fun v V => v = none ∧ ClQ μ V f q) := by
  have h0 : Wf (sI (sI (sI (sR μ f 0 (some q)) f 1 0) f 3 0) f 8 0) := ((hw.sR hf.r00 (some q)).sI.sI).sI
  have h1 := wn_clU (sI (sI (sI (sR μ f 0 (some q)) f 1 0) f 3 0) f 8 0) f 8
  have h2 := gI_clU (sI (sI (sI (sR μ f 0 (some q)) f 1 0) f 3 0) f 8 0) f 8
  have h3 := gR_clU (sI (sI (sI (sR μ f 0 (some q)) f 1 0) f 3 0) f 8 0) f 8
  have h4 := gL_clU (sI (sI (sI (sR μ f 0 (some q)) f 1 0) f 3 0) f 8 0) f 8
  have h5 : Wf (clU (sI (sI (sI (sR μ f 0 (some q)) f 1 0) f 3 0) f 8 0) f 8) := h0.clU
  have hc := t_X1_clear (q := q) hw hf
  generalize clU (sI (sI (sI (sR μ f 0 (some q)) f 1 0) f 3 0) f 8 0) f 8 = V at h1 h2 h3 h4 h5 hc
  refine ⟨none, V, hc, rfl, h5, h1, fun i k => ?_, fun i k => ?_, fun i k => ?_⟩
  · rw [h2, gI_sI, gI_sI, gI_sI, gI_sR]
  · rw [h3, gR_sI, gR_sI, gR_sI, gR_sR]
  · rw [h4, gL_sI, gL_sI, gL_sI, gL_sR]
def rdF (WD : Wd) (n : Nat) : Wd := sI (sI (sR (sI (sI WD 79 3 0) 79 4 (-1)) 80 0 (some 1)) 80 1 (nI n)) 80 3 0
theorem rdB_wf (hw : Wf μ) : Wf (rdB μ p0) := (hw.sR (i := 79) (k := 1) (by decide +kernel) _).sR (by decide +kernel) _
theorem rdC_wf (hw : Wf μ) : Wf (rdC μ p0) := ((((((rdB_wf hw).sI).sI).sI).sI).sI).sI.sI
theorem rdF_wf (hD : ClQ (rdC μ p0) W 41 p0) : Wf (rdF W n) := ((Wf.sR (hD.1.sI (i := 79) (k := 3) (v := 0)).sI (i := 80) (k := 0) (by decide +kernel) (some 1)).sI).sI
theorem rdF_I (hD : ClQ (rdC μ p0) W 41 p0) (i k : Nat) : gI (rdF W n) i k = if i = 80 ∧ k = 3 then 0 else if i = 80 ∧ k = 1 then nI n else if i = 79 ∧ k = 4 then -1 else if i = 79 ∧ k = 3 then 0 else
    if (41 + 5 ≤ i ∧ i < 41 + 5 + 8) ∧ k < 12 then 0 else if i = 41 ∧ k = 8 then 0 else if i = 41 ∧ k = 3 then 0 else if i = 41 ∧ k = 1 then 0 else
    if i = p0 ∧ k = 10 then 10 else if i = p0 ∧ k = 9 then 30 else if i = p0 ∧ k = 8 then 120 else if i = p0 ∧ k = 5 then 0 else if i = p0 ∧ k = 3 then 0 else if i = p0 ∧ k = 1 then 0 else if i = p0 ∧ k = 0 then 1 else gI μ i k := by
  unfold rdF
  rw [gI_sI, gI_sI, gI_sR, gI_sI, gI_sI, hD.2.2.1]
  unfold rdC rdB
  rw [gI_sI, gI_sI, gI_sI, gI_sI, gI_sI, gI_sI, gI_sI, gI_sR, gI_sR]
theorem rdF_R (hD : ClQ (rdC μ p0) W 41 p0) (i k : Nat) : gR (rdF W n) i k = if i = 80 ∧ k = 0 then some 1 else if i = 41 ∧ k = 0 then some p0 else if i = 79 ∧ k = 2 then some p0 else if i = 79 ∧ k = 1 then some 41 else gR μ i k := by
  unfold rdF
  rw [gR_sI, gR_sI, gR_sR, gR_sI, gR_sI, hD.2.2.2.1]
  unfold rdC rdB
  rw [gR_sI, gR_sI, gR_sI, gR_sI, gR_sI, gR_sI, gR_sI, gR_sR, gR_sR]
theorem rdF_L (hD : ClQ (rdC μ p0) W 41 p0) (i k : Nat) : gL (rdF W n) i k = gL μ i k := by
  unfold rdF
  rw [gL_sI, gL_sI, gL_sR, gL_sI, gL_sI, hD.2.2.2.2]
  unfold rdC rdB
  rw [gL_sI, gL_sI, gL_sI, gL_sI, gL_sI, gL_sI, gL_sI, gL_sR, gL_sR]
theorem rdC_n (μ : Wd) (p0 : Nat) : wn (rdC μ p0) = wn μ ∧ gN (rdC μ p0) = gN μ ∧ gX (rdC μ p0) = gX μ := ⟨rfl, rfl, rfl⟩
theorem rdF_n (W : Wd) (n : Nat) : wn (rdF W n) = wn W ∧ gN (rdF W n) = gN W ∧ gX (rdF W n) = gX W := ⟨rfl, rfl, rfl⟩
theorem rdF_Ex (hD : ClQ (rdC μ p0) W 41 p0) (hp : Pl p0) : En (sP p0) μ (rdF W n) := by
  have hpp := pl_le hp
  have hwn : wn (rdF W n) = wn μ := ((rdF_n W n).1.trans hD.2.1.1).trans (rdC_n μ p0).1
  have hgn : gN (rdF W n) = gN μ := ((rdF_n W n).2.1.trans hD.2.1.2.1).trans (rdC_n μ p0).2.1
  have hgx : gX (rdF W n) = gX μ := ((rdF_n W n).2.2.trans hD.2.1.2.2).trans (rdC_n μ p0).2.2
  refine ⟨⟨rdF_wf hD, Nat.le_of_eq hwn.symm, hgx, fun i hi => by rw [hgn], fun i hi hs k => ⟨?_, rdF_L hD i k, ?_⟩⟩, hwn⟩
  · have h1 : ¬ i = 79 := fun e => hs (Or.inl e)
    have h2 : ¬ i = 80 := fun e => hs (Or.inr (Or.inl e))
    have h3 : ¬ (p0 ≤ i ∧ i ≤ p0 + 20) := fun e => hs (Or.inr (Or.inr (Or.inl e)))
    have h4 : ¬ (41 ≤ i ∧ i ≤ 57) := fun e => hs (Or.inr (Or.inr (Or.inr e)))
    rw [rdF_I hD]
    repeat rw [if_neg (by omega)]
  · have h1 : ¬ i = 79 := fun e => hs (Or.inl e)
    have h2 : ¬ i = 80 := fun e => hs (Or.inr (Or.inl e))
    have h4 : ¬ (41 ≤ i ∧ i ≤ 57) := fun e => hs (Or.inr (Or.inr (Or.inr e)))
    rw [rdF_R hD]
    repeat rw [if_neg (by omega)]
theorem rdF_PV (hD : ClQ (rdC μ p0) W 41 p0) (hp : Pl p0) : PV (rdF W n) p0 pl0 := by
  have hI := fun i k => rdF_I (n := n) hD i k
  refine ⟨hp, ⟨?_, by decide⟩, ⟨?_, by decide⟩, ⟨?_, by decide⟩, fun i hi => absurd hi (Nat.not_lt_zero i), fun i hi => absurd hi (Nat.not_lt_zero i), fun i hi => absurd hi (Nat.not_lt_zero i), ?_, ?_, ?_, ?_⟩ <;> (rw [hI]; rcases hp with rfl | rfl <;> rfl)
theorem rdF_FV (hD : ClQ (rdC μ p0) W 41 p0) (hp : Pl p0) : FV (rdF W n) 41 p0 (rz0 (gI μ 41 2) (gL μ 57)).2.1 := by
  have hI := fun i k => rdF_I (n := n) hD i k
  refine ⟨fl_trial, by rw [rdF_R hD]; rfl, ⟨?_, Nat.zero_le 40⟩, ⟨?_, Nat.zero_le 6⟩, fun i hi => absurd hi (Nat.not_lt_zero i), fun i hi => absurd hi (Nat.not_lt_zero i), ?_, ?_, fun t k ht hk => ?_, fun i _ => rdF_L hD 57 i⟩
  · rw [hI]; rcases hp with rfl | rfl <;> rfl
  · rw [hI]; rcases hp with rfl | rfl <;> rfl
  · rw [hI]; rcases hp with rfl | rfl <;> rfl
  · rw [hI]; rcases hp with rfl | rfl <;> rfl
  · rw [hI, if_neg (by omega), if_neg (by omega), if_neg (by omega), if_neg (by omega), if_pos (by omega)]
    show (0 : Int32) = if 7 + t = 6 ∧ k = 1 then _ else 0
    rw [if_neg (by omega)]
def dminX (d : FDt) (v : Int32) : FDt := (dP d, dU d, up2 (dF d) 6 1 v, dA d)
theorem FV.dmin (h : FV μ 41 p0 d) (v : Int32) : FV (sI μ 41 2 v) 41 p0 (dminX d v) := by
  obtain ⟨h1, h2, h3, h4, h5, h6, h7, h8, h9, h10⟩ := h
  have hs : ∀ i x, ¬ (i = 41 ∧ x = 2) → gI (sI μ 41 2 v) i x = gI μ i x := fun i x hi => by rw [gI_sI, if_neg hi]
  have hl : ∀ a i, a < 6 → dF (dminX d v) a i = dF d a i := fun a i ha => (up2_ne (by omega) : up2 (dF d) 6 1 v a i = dF d a i)
  refine ⟨h1, h2, ⟨by rw [hs _ _ (by omega)]; exact h3.1, h3.2⟩, ⟨by rw [hs _ _ (by omega)]; exact h4.1, h4.2⟩, fun i hi => ?_, fun i hi => ?_, ?_, ?_, fun t k ht hk => ?_, h10⟩
  · rw [hs _ _ (by omega), hs _ _ (by omega), hs _ _ (by omega), hl 0 i (by decide), hl 1 i (by decide), hl 2 i (by decide)]; exact h5 i hi
  · rw [hs _ _ (by omega), hs _ _ (by omega), hs _ _ (by omega), hl 3 i (by decide), hl 4 i (by decide), hl 5 i (by decide)]; exact h6 i hi
  · rw [hs _ _ (by omega), show dF (dminX d v) 6 0 = dF d 6 0 from (up2_ne (by omega) : up2 (dF d) 6 1 v 6 0 = dF d 6 0)]; exact h7
  · rw [gI_sI, if_pos ⟨rfl, rfl⟩]; exact (up2_eq (dF d) 6 1 v).symm
  · rw [hs _ _ (by omega), show dF (dminX d v) (7 + t) k = dF d (7 + t) k from (up2_ne (by omega) : up2 (dF d) 6 1 v (7 + t) k = dF d (7 + t) k)]; exact h9 t k ht hk
/-- what reading leaves, the answer and all -/
def RdZ (B : Nat → Nat) (n p0 : Nat) (μ : Wd) (v : Option Value) (V : Wd) : Prop := Ex (sP p0) μ V ∧ wn V ≤ wn μ + 48 ∧ K3 (wn V) ∧ match rdS B n (n + 1) 0 (rz0 (gI μ 41 2) (gL μ 57)) with
  | .inl e => v = some (.int 0) ∧ gI V 79 3 = nI e.1 ∧ gI V 79 4 = nI e.2
  | .inr z => v = some (.int 1) ∧ gI V 79 3 = 0 ∧ gI V 79 4 = -1 ∧ PV V p0 z.1 ∧ FV V 41 p0 (dminX z.2.1 (pF z.1 9 1)) ∧ ∀ i, i < pM z.1 → NmV V (p0 + 7 + i) (z.2.2.2 i)
theorem t_X2_read (hw0 : Wf μ) (hp : Pl p0) (hn : n ≤ 900) (hB : ∀ k, k < n → B k < 256 ∧ gI μ 1 k = sby (B k)) (hk3 : K3 (wn μ)) (hmx : wn μ + 51 < 1000000) : CV Y_X2_read R48_X2_read [.ref 79, .ref 1, .int (nI n), .ref 41, .ref p0] μ (RdZ B n p0 μ) := by
  have hpp := pl_le hp
  have hw := hw0
  refine CV.ent yk_X2_read (Nat.le_of_ble_eq_true rfl) ?_
  refine lf (a_aload_n dX2_read_0 rfl) ?_
  refine lf (a_aload_n dX2_read_1 rfl) ?_
  refine lf (a_putR dX2_read_2 fs_X2_18 rfl rfl (co_79 hw)) ?_
  refine lf (a_aload_n dX2_read_5 rfl) ?_
  refine lf (a_aload dX2_read_6 rfl) ?_
  refine lf (a_putR dX2_read_8 fs_X2_22 rfl rfl (co_79 (show Wf (sR μ 79 1 (some 41)) from hw.sR (by decide +kernel) _))) ?_
  have hwB : Wf (rdB μ p0) := rdB_wf hw0
  have hwC : Wf (rdC μ p0) := rdC_wf hw0
  show WP _ _ _ (rdB μ p0) _ _ _ _
  have hw := hwB
  have hr1 : gR (rdB μ p0) 79 1 = some 41 := rfl
  have hr2 : gR (rdB μ p0) 79 2 = some p0 := rfl
  refine lf (a_aload_n dX2_read_11 rfl) ?_
  refine lf (a_getR hr2 dX2_read_12 fs_X2_22 rfl (co_79 hw)) ?_
  refine lf (a_inv (b2 := (48, 256)) (t_X7_clear hw hp) rfl dX2_read_15 yk_X7_clear im_X7_clear se_X7_clear ml_X2_26 rfl (pl_o hw hp) (by decide) hc_X7 (by decide) (by decide) (Nat.le_of_ble_eq_true rfl)) ?_
  show WP _ _ _ (rdC μ p0) _ _ _ _
  have hw := hwC
  refine lf (a_aload_n dX2_read_18 rfl) ?_
  refine lf (a_getR (show gR (rdC μ p0) 79 1 = some 41 from rfl) dX2_read_19 fs_X2_18 rfl (co_79 hw)) ?_
  refine lf (a_aload_n dX2_read_22 rfl) ?_
  refine lf (a_getR (show gR (rdC μ p0) 79 2 = some p0 from rfl) dX2_read_23 fs_X2_22 rfl (co_79 hw)) ?_
  obtain ⟨v_, W26, k26, rfl, hD⟩ := (v_X1_clear hwC fl_trial (q := p0))
  refine lf (a_inv (b2 := (48, 256)) k26 rfl dX2_read_26 yk_X1_clear im_X1_clear se_X1_clear ml_X2_31 rfl (fl_o hw fl_trial) (by decide) hc_X1 (by decide) (by decide) (Nat.le_of_ble_eq_true rfl)) ?_
  have hw := hD.1
  have hwF : Wf (rdF W26 n) := rdF_wf hD
  refine lf (a_aload_n dX2_read_29 rfl) ?_
  refine lf (a_iconst (0 : Int32) dX2_read_30 (by decide)) ?_
  refine lf (a_putI dX2_read_31 fs_X2_36 rfl rfl rfl (co_79 (by repeat (first | with_reducible exact hw | with_reducible exact hwc | with_reducible assumption | with_reducible apply Wf.sI | with_reducible apply Wf.sL | with_reducible apply Wf.cpI | with_reducible apply Wf.cpL | with_reducible apply Wf.cp2 | with_reducible apply Wf.sIs | with_reducible apply Wf.sLs | with_reducible apply Wf.cpU | with_reducible apply Wf.fillI | with_reducible apply Wf.clU | with_reducible apply Wf.dnF | with_reducible apply Wf.gbW)))) ?_
  refine lf (a_aload_n dX2_read_34 rfl) ?_
  refine lf (a_iconst (-1 : Int32) dX2_read_35 (by decide)) ?_
  refine lf (a_putI dX2_read_36 fs_X2_40 rfl rfl rfl (co_79 (by repeat (first | with_reducible exact hw | with_reducible exact hwc | with_reducible assumption | with_reducible apply Wf.sI | with_reducible apply Wf.sL | with_reducible apply Wf.cpI | with_reducible apply Wf.cpL | with_reducible apply Wf.cp2 | with_reducible apply Wf.sIs | with_reducible apply Wf.sLs | with_reducible apply Wf.cpU | with_reducible apply Wf.fillI | with_reducible apply Wf.clU | with_reducible apply Wf.dnF | with_reducible apply Wf.gbW)))) ?_
  refine lf (a_aload_n dX2_read_39 rfl) ?_
  refine lf (a_getR (cr_79_0 (by repeat (first | with_reducible exact hw | with_reducible exact hwc | with_reducible assumption | with_reducible apply Wf.sI | with_reducible apply Wf.sL | with_reducible apply Wf.cpI | with_reducible apply Wf.cpL | with_reducible apply Wf.cp2 | with_reducible apply Wf.sIs | with_reducible apply Wf.sLs | with_reducible apply Wf.cpU | with_reducible apply Wf.fillI | with_reducible apply Wf.clU | with_reducible apply Wf.dnF | with_reducible apply Wf.gbW))) dX2_read_40 fs_X2_12 rfl (co_79 (by repeat (first | with_reducible exact hw | with_reducible exact hwc | with_reducible assumption | with_reducible apply Wf.sI | with_reducible apply Wf.sL | with_reducible apply Wf.cpI | with_reducible apply Wf.cpL | with_reducible apply Wf.cp2 | with_reducible apply Wf.sIs | with_reducible apply Wf.sLs | with_reducible apply Wf.cpU | with_reducible apply Wf.fillI | with_reducible apply Wf.clU | with_reducible apply Wf.dnF | with_reducible apply Wf.gbW)))) ?_
  refine lf (a_aload_n dX2_read_43 rfl) ?_
  refine lf (a_iload_n dX2_read_44 rfl) ?_
  refine lf (a_inv (b2 := (48, 256)) (t_X9_begin (show Wf (sI (sI W26 79 3 0) 79 4 (-1)) from hD.1.sI.sI) hn) rfl dX2_read_45 yk_X9_begin im_X9_begin se_X9_begin ml_X2_43 rfl (co_80 (by repeat (first | with_reducible exact hw | with_reducible exact hwc | with_reducible assumption | with_reducible apply Wf.sI | with_reducible apply Wf.sL | with_reducible apply Wf.cpI | with_reducible apply Wf.cpL | with_reducible apply Wf.cp2 | with_reducible apply Wf.sIs | with_reducible apply Wf.sLs | with_reducible apply Wf.cpU | with_reducible apply Wf.fillI | with_reducible apply Wf.clU | with_reducible apply Wf.dnF | with_reducible apply Wf.gbW))) (by decide) hc_X9 (by decide) (by decide) (Nat.le_of_ble_eq_true rfl)) ?_
  show WP _ _ _ (rdF W26 n) _ _ _ _
  have hw := hwF
  have hTk : Tk B n (rdF W26 n) := ⟨by rw [rdF_R hD]; rfl, by rw [rdF_I hD]; rfl, hn, fun k hk => ⟨(hB k hk).1, by
    rw [rdF_I hD]
    repeat rw [if_neg (by omega)]
    exact (hB k hk).2⟩⟩
  refine lf (a_aload_n dX2_read_48 rfl) ?_
  refine lf (a_getR (cr_79_0 (by repeat (first | with_reducible exact hw | with_reducible exact hwc | with_reducible assumption | with_reducible apply Wf.sI | with_reducible apply Wf.sL | with_reducible apply Wf.cpI | with_reducible apply Wf.cpL | with_reducible apply Wf.cp2 | with_reducible apply Wf.sIs | with_reducible apply Wf.sLs | with_reducible apply Wf.cpU | with_reducible apply Wf.fillI | with_reducible apply Wf.clU | with_reducible apply Wf.dnF | with_reducible apply Wf.gbW))) dX2_read_49 fs_X2_12 rfl (co_79 (by repeat (first | with_reducible exact hw | with_reducible exact hwc | with_reducible assumption | with_reducible apply Wf.sI | with_reducible apply Wf.sL | with_reducible apply Wf.cpI | with_reducible apply Wf.cpL | with_reducible apply Wf.cp2 | with_reducible apply Wf.sIs | with_reducible apply Wf.sLs | with_reducible apply Wf.cpU | with_reducible apply Wf.fillI | with_reducible apply Wf.clU | with_reducible apply Wf.dnF | with_reducible apply Wf.gbW)))) ?_
  obtain ⟨v_, W52, k52, rfl, hO, hA⟩ := (t_X9_next hwF hTk (Nat.zero_le n) (show gI (rdF W26 n) 80 3 = nI 0 by rw [rdF_I hD]; rfl))
  refine lf (a_inv (b2 := (48, 256)) k52 rfl dX2_read_52 yk_X9_next im_X9_next se_X9_next ml_X2_47 rfl (co_80 (by repeat (first | with_reducible exact hw | with_reducible exact hwc | with_reducible assumption | with_reducible apply Wf.sI | with_reducible apply Wf.sL | with_reducible apply Wf.cpI | with_reducible apply Wf.cpL | with_reducible apply Wf.cp2 | with_reducible apply Wf.sIs | with_reducible apply Wf.sLs | with_reducible apply Wf.cpU | with_reducible apply Wf.fillI | with_reducible apply Wf.clU | with_reducible apply Wf.dnF | with_reducible apply Wf.gbW))) (by decide) hc_X9 (by decide) (by decide) (Nat.le_of_ble_eq_true rfl)) ?_
  refine lf (a_iconst (1 : Int32) dX2_read_55 (by decide)) ?_
  refine lf (a_istore dX2_read_56 (by decide)) ?_
  refine lf (a_iconst (0 : Int32) dX2_read_58 (by decide)) ?_
  refine lf (a_istore dX2_read_59 (by decide)) ?_
  have hX0 := rdF_Ex (n := n) hD hp
  have hX1 := hX0.trans ((ExT hO).1.mono (fun i _ y => sT_sP p0 i y))
  have hz0 : PsV B n p0 0 (rz0 (gI μ 41 2) (gL μ 57)) W52 := ⟨hO.1.1, hTk.out hO, Nat.zero_le _, hA, (hO.1.r (by decide) 2).trans (by rw [rdF_R hD]; rcases hp with rfl | rfl <;> rfl), (hO.1.r (by decide) 1).trans (by rw [rdF_R hD]; rfl), (rdF_PV hD hp).out hO.1 (fun i a b (c : i = 80) => by omega), (rdF_FV hD hp).out hO.1 (fun i a b (c : i = 80) => by omega), fun i hi => absurd hi (Nat.not_lt_zero i), fun i hi => absurd hi (Nat.not_lt_zero i)⟩
  have hwn : wn W52 = wn μ := hX1.2
  refine lf (a_loc [(0, .ref 79), (2, .int (nI n)), (5, .int 1), (6, .int (nI 0))] rfl) (l_X2_read_61 (n + 1) 0 0 _ W52 (48, 256) (by omega) (Nat.le_refl _) hz0 (by rw [hwn]; exact hk3) (show 3 * 16 ≤ 48 by decide) (show 16 * 16 ≤ 256 by decide) (by rw [hwn]; show wn μ + 3 * 16 + 3 < 1000000; omega) (fun V r5 g1 g2 g3 g4 => ?_))
  have g2 : wn V ≤ wn μ + 48 := by rw [hwn] at g2; exact g2
  have hX := hX1.1.trans g1
  have e3 : gI W52 79 3 = 0 := ((hO.1.i (by decide) 3).trans (by rw [rdF_I hD]; rfl))
  have e4 : gI W52 79 4 = -1 := ((hO.1.i (by decide) 4).trans (by rw [rdF_I hD]; rfl))
  have hq : ∀ (r : (Nat × Nat) ⊕ PZ), r = rdS B n (n + 1) 0 (rz0 (gI μ 41 2) (gL μ 57)) → WP Y_X2_read R48_X2_read (0, 0) V 106 [(0, .ref 79), (5, .int r5)] [] (fun o W => ∃ v, o = .inl v ∧ RdZ B n p0 μ v W) := by
    intro r hr
    rw [← hr] at g4
    cases r with
    | inl e =>
      obtain ⟨rfl, hE⟩ := g4
      obtain ⟨f3, f4, hr1, p1, hp1, hr2⟩ := hE
      have hw := g1.1
      have hpp1 := pl_le hp1
      refine lf (a_aload_n dX2_read_106 rfl) ?_
      refine lf (a_getR hr1 dX2_read_107 fs_X2_18 rfl (co_79 hw)) ?_
      refine lf (a_aload_n dX2_read_110 rfl) ?_
      refine lf (a_getR hr2 dX2_read_111 fs_X2_22 rfl (co_79 hw)) ?_
      refine lf (a_getI dX2_read_114 fs_X2_57 rfl (pl_o hw hp1)) ?_
      refine lf (a_putI dX2_read_117 fs_X2_60 rfl rfl rfl (fl_o hw fl_trial)) ?_
      refine lf (a_iload dX2_read_120 rfl) ?_
      refine ⟨_, _, (a_ireturn dX2_read_122 rfl rfl), ?_⟩
      refine ⟨_, rfl, hX.sI (Or.inr (Or.inr (Or.inr ⟨by decide, by decide⟩))) _ _, g2, g3, ?_⟩
      rw [← hr]
      exact ⟨rfl, by rw [gI_sI, if_neg (by decide)]; exact f3, by rw [gI_sI, if_neg (by decide)]; exact f4⟩
    | inr z =>
      obtain ⟨rfl, hK, p2, hz⟩ := g4
      have hw := g1.1
      have hr1 := hz.r1
      have hr2 := hz.r2
      refine lf (a_aload_n dX2_read_106 rfl) ?_
      refine lf (a_getR hr1 dX2_read_107 fs_X2_18 rfl (co_79 hw)) ?_
      refine lf (a_aload_n dX2_read_110 rfl) ?_
      refine lf (a_getR hr2 dX2_read_111 fs_X2_22 rfl (co_79 hw)) ?_
      refine lf (a_getI dX2_read_114 fs_X2_57 rfl (pl_o hw hp)) ?_
      rw [hz.pv.mins]
      refine lf (a_putI dX2_read_117 fs_X2_60 rfl rfl rfl (fl_o hw fl_trial)) ?_
      refine lf (a_iload dX2_read_120 rfl) ?_
      refine ⟨_, _, (a_ireturn dX2_read_122 rfl rfl), ?_⟩
      refine ⟨_, rfl, hX.sI (Or.inr (Or.inr (Or.inr ⟨by decide, by decide⟩))) _ _, g2, g3, ?_⟩
      rw [← hr]
      have ho : Out (fun i => i = 41) V (sI V 41 2 (pF z.1 9 1)) := (Out.rfl' hw).sI (S := fun i => i = 41) rfl _ _
      refine ⟨rfl, by rw [gI_sI, if_neg (by decide)]; exact hK.1.trans e3, by rw [gI_sI, if_neg (by decide)]; exact hK.2.trans e4, hz.pv.out ho (fun i a b (c : i = 41) => by omega), hz.fv.dmin _, fun i hi => ?_⟩
      have hM := hz.pv.M4
      have hw1 := hw.1
      exact (hz.mn hi).ex (Ex.of ho) (fun j (c : j = 41) => by omega) (by omega) (fun (c : p0 + 7 + i = 41) => by omega)
  exact hq _ rfl
end READB
