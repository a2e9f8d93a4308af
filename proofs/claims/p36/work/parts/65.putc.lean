section PUTC
variable {μ W : Wd} {f p : Nat} {q : PDt} {d : FDt} {k : Nat}
theorem FV.upU (h : FV μ f p d) {t k : Nat} (ht : t < 8) (hk : k < 12) (v : Int32) : FV (sI μ (f + 5 + t) k v) f p (setU d t k v) := by
  obtain ⟨h1, h2, h3, h4, h5, h6, h7, h8, h9, h10⟩ := h
  have hs : ∀ i x, i ≠ f + 5 + t → gI (sI μ (f + 5 + t) k v) i x = gI μ i x := fun i x hi => by rw [gI_sI, if_neg (fun z => hi z.1)]
  have hl : ∀ a i, a < 7 → dF (setU d t k v) a i = dF d a i := fun a i ha => setU_lo d t k v ha
  refine ⟨h1, h2, ⟨by rw [hs _ _ (by omega)]; exact h3.1, h3.2⟩, ⟨by rw [hs _ _ (by omega)]; exact h4.1, h4.2⟩, fun i hi => ?_, fun i hi => ?_, ?_, ?_, fun t2 k2 h11 h12 => ?_, h10⟩
  · rw [hs _ _ (by omega), hs _ _ (by omega), hs _ _ (by omega), hl 0 i (by decide), hl 1 i (by decide), hl 2 i (by decide)]; exact h5 i hi
  · rw [hs _ _ (by omega), hs _ _ (by omega), hs _ _ (by omega), hl 3 i (by decide), hl 4 i (by decide), hl 5 i (by decide)]; exact h6 i hi
  · rw [hs _ _ (by omega), hl 6 0 (by decide)]; exact h7
  · rw [hs _ _ (by omega), hl 6 1 (by decide)]; exact h8
  · by_cases e : t2 = t ∧ k2 = k
    · rw [e.1, e.2, setU_at, gI_sI, if_pos ⟨rfl, rfl⟩]
    · rw [setU_ne d v (by omega), gI_sI, if_neg (by omega)]; exact h9 t2 k2 h11 h12
abbrev sFl (f : Nat) : Nat → Prop := fun i => f ≤ i ∧ i ≤ f + 16
theorem PV.fl {V : Wd} (h : PV μ p q) (hf : Fl f) (ho : Out (sFl f) μ V) : PV V p q := h.out ho fun i a b c => by
  have := pf_apart h.pl hf
  have c : f ≤ i ∧ i ≤ f + 16 := c
  omega
theorem fill_D (hk : k < pM q) {t : Nat} (ht : t < pT q) : ∀ (n : Nat) (μ : Wd) (d : FDt), Wf μ → FV μ f p d → PV μ p q →
    (fillT f p (pM q) k t (adI (pF q 2 k) (pF q 7 t)) (pF q 4 k) n μ).1 = (fiP q k t n d).1 ∧ FV (fillT f p (pM q) k t (adI (pF q 2 k) (pF q 7 t)) (pF q 4 k) n μ).2 f p (fiP q k t n d).2 ∧ Out (sFl f) μ (fillT f p (pM q) k t (adI (pF q 2 k) (pF q 7 t)) (pF q 4 k) n μ).2 := by
  intro n
  induction n with
  | zero => intro μ d hw hv hq; exact ⟨rfl, hv, Out.rfl' hw⟩
  | succ n ih =>
    intro μ d hw hv hq
    have hM := hq.M4
    have hT := hq.T4
    unfold fillT fiP
    rw [frV_D hv hq ht]
    by_cases h1 : adI (pF q 2 k) (pF q 7 t) = 0
    · rw [if_pos h1, if_pos h1]; exact ⟨rfl, hv, Out.rfl' hw⟩
    · rw [if_neg h1, if_neg h1]
      by_cases h2 : fsD q d t < pF q 4 k
      · rw [if_pos h2, if_pos h2]; exact ⟨rfl, hv, Out.rfl' hw⟩
      · rw [if_neg h2, if_neg h2]
        have ho : Out (sFl f) μ (sI μ (f + 5 + t) k (gI μ (f + 5 + t) k + 1)) := (Out.rfl' hw).sI (S := sFl f) ⟨by omega, by omega⟩ _ _
        have e := hv.un (show t < 8 by omega) (show k < 12 by omega)
        have hv2 := hv.upU (show t < 8 by omega) (show k < 12 by omega) (gI μ (f + 5 + t) k + 1)
        have hi : setU d t k (gI μ (f + 5 + t) k + 1) = incD d t k := by rw [e]; rfl
        rw [hi] at hv2
        obtain ⟨a1, a2, a3⟩ := ih _ _ ho.wf hv2 (hq.fl hv.fl ho)
        exact ⟨congrArg (· + 1) a1, a2, ho.trans a3⟩
theorem put_D (hk : k < pM q) {tk : Nat → Int32} (htk : ∀ t, t < pT q → tk t = adI (pF q 2 k) (pF q 7 t)) : ∀ (c t n : Nat) (μ : Wd) (d : FDt), t + c = pT q → Wf μ → FV μ f p d → PV μ p q →
    (putT f p (pM q) k tk (pF q 4 k) c t n μ).1 = (puP q k c t n d).1 ∧ FV (putT f p (pM q) k tk (pF q 4 k) c t n μ).2 f p (puP q k c t n d).2 ∧ Out (sFl f) μ (putT f p (pM q) k tk (pF q 4 k) c t n μ).2 := by
  intro c
  induction c with
  | zero => intro t n μ d _ hw hv hq; exact ⟨rfl, hv, Out.rfl' hw⟩
  | succ c ih =>
    intro t n μ d ht hw hv hq
    obtain ⟨a1, a2, a3⟩ := fill_D hk (show t < pT q by omega) n μ d hw hv hq
    unfold putT puP
    rw [htk t (by omega), a1]
    obtain ⟨b1, b2, b3⟩ := ih (t + 1) (n - (fiP q k t n d).1) _ _ (by omega) a3.wf a2 (hq.fl hv.fl a3)
    exact ⟨congrArg ((fiP q k t n d).1 + ·) b1, b2, a3.trans b3⟩
theorem v_X1_put (hw : Wf μ) (hv : FV μ f p d) (hq : PV μ p q) (hk : k < pM q) {n : Nat} (hn : n < 2 ^ 31) : CV Y_X1_put R_X1_put [.ref f, .int (nI k), .int (nI n)] μ (fun v V => v = some (.int (nI (stM q k n d).1)) ∧ FV V f p (stM q k n d).2 ∧ Out (sFl f) μ V) := by
  have hM := hq.M4
  have h := put_D (f := f) hk (tk := fun t => adI (gI μ (p + 7 + k) 1) (gI μ (p + 19) t)) (fun t ht => by rw [hq.m1 hk, hq.tc ht]) (pT q) 0 n μ d (Nat.zero_add _) hw hv hq
  rw [st_pu0]
  refine ⟨_, _, t_X1_put hw hv.fl hq.pl hv.rp hq.hM hq.M4 hq.hT hq.T4 (show k < 12 by omega) hn, ?_, ?_, ?_⟩
  · unfold putW; rw [hq.m3 hk, h.1]
  · unfold putW; rw [hq.m3 hk]; exact h.2.1
  · unfold putW; rw [hq.m3 hk]; exact h.2.2
/-- the arrivals, from the top-up a on -/
def laP (q : PDt) : Nat → Nat → Int32 → FDt → Nat × Int32 × FDt
  | 0, a, b, d => (a, b, d)
  | c + 1, a, b, d => if dF d 5 a < dF d 6 1 then (a, b, d) else laP q c (a + 1) (b + (dF d 4 a - nI (stM q (nN (dF d 3 a)) (nN (dF d 4 a)) d).1)) (stM q (nN (dF d 3 a)) (nN (dF d 4 a)) d).2
def shfD (a : Nat) (d : FDt) : FDt := (dP d, dU d - a, fun x i => if 3 ≤ x ∧ x ≤ 5 then dF d x (i + a) else dF d x i, dA d)
def laD (q : PDt) (d : FDt) : Int32 × FDt := ((laP q (dU d) 0 0 d).2.1, shfD (laP q (dU d) 0 0 d).1 (laP q (dU d) 0 0 d).2.2)
abbrev R_X1_letArrive : Room := { frames := 2, cells := 0, slots := 0, locals := 49 }
abbrev RX_X1_letArrive : Room := { frames := 2, cells := 1, slots := 6, locals := 49 }

theorem l_X1_letArrive_4 (hf : Fl f) (hpl : Pl p) (hq1 : GdP q) {Q : Oc → Wd → Prop} : ∀ (c a : Nat) (b : Int32) (W : Wd) (d : FDt), Wf W → FV W f p d → PV W p q → GdD q d → a + c = dU d →
    (∀ V : Wd, FV V f p (laP q c a b d).2.2 → Out (sFl f) W V → GdD q (laP q c a b d).2.2 → (laP q c a b d).1 ≤ dU (laP q c a b d).2.2 → WP Y_X1_letArrive R_X1_letArrive (0, 0) V 57 [(0, .ref f), (1, .int (nI (laP q c a b d).1)), (2, .int ((laP q c a b d).2.1))] [] Q) →
    WP Y_X1_letArrive R_X1_letArrive (0, 0) W 4 [(0, .ref f), (1, .int (nI a)), (2, .int b)] [] Q := by
  intro c
  induction c with
  | zero =>
    intro a b W d hw hv hq hd ha kx
    have hU := hv.U4
    obtain rfl : a = dU d := ha
    refine lf (a_iload_n dX1_letArrive_4 rfl) ?_
    refine lf (a_aload_n dX1_letArrive_5 rfl) ?_
    refine lf (a_getI dX1_letArrive_6 fs_X1_51 rfl (fl_o hw hf)) ?_
    rw [hv.hU]
    refine lf2 (a_icmp_ge (tgt := 57) dX1_letArrive_9 (by decide)) (fun h9 => ?_) (fun h9 => absurd h9 (fun z => z (nI_le (Nat.le_refl _) (by omega))))
    exact lf (a_loc _ rfl) (kx W hv (Out.rfl' hw) hd (Nat.le_refl _))
  | succ c ih =>
    intro a b W d hw hv hq hd ha kx
    have hU := hv.U4
    have hp := hv.rp
    obtain ⟨⟨x, hx, ex⟩, n, n1, n2, en⟩ := hd.tu (show a < dU d by omega)
    have hM := hq.M4
    unfold laP at kx
    refine lf (a_iload_n dX1_letArrive_4 rfl) ?_
    refine lf (a_aload_n dX1_letArrive_5 rfl) ?_
    refine lf (a_getI dX1_letArrive_6 fs_X1_51 rfl (fl_o hw hf)) ?_
    rw [hv.hU]
    refine lf2 (a_icmp_ge (tgt := 57) dX1_letArrive_9 (by decide)) (fun h9 => absurd h9 (nI_ge (show a < dU d by omega) (by omega))) (fun h9 => ?_)
    refine lf (a_aload_n dX1_letArrive_12 rfl) ?_
    refine lf (a_getR (fl_r11 hw hf) dX1_letArrive_13 fs_X1_36 rfl (fl_o hw hf)) ?_
    refine lf (a_iload_n dX1_letArrive_16 rfl) ?_
    refine lf (a_ild dX1_letArrive_17 (fl_a15 hw hf) (ixn (by omega) (by decide))) ?_
    rw [hv.td (show a < dU d by omega)]
    refine lf (a_aload_n dX1_letArrive_18 rfl) ?_
    refine lf (a_getI dX1_letArrive_19 fs_X1_60 rfl (fl_o hw hf)) ?_
    rw [hv.min]
    refine lf2 (a_icmp_lt (tgt := 57) dX1_letArrive_22 (by decide)) (fun h22 => ?_) (fun h22 => ?_)
    · rw [if_pos h22] at kx
      exact lf (a_loc _ rfl) (kx W hv (Out.rfl' hw) hd (by show a ≤ dU d; omega))
    · rw [if_neg h22, ex, en, nN_nI (by omega), nN_nI (by omega)] at kx
      refine lf (a_iload_n dX1_letArrive_25 rfl) ?_
      refine lf (a_aload_n dX1_letArrive_26 rfl) ?_
      refine lf (a_getR (fl_r10 hw hf) dX1_letArrive_27 fs_X1_33 rfl (fl_o hw hf)) ?_
      refine lf (a_iload_n dX1_letArrive_30 rfl) ?_
      refine lf (a_ild dX1_letArrive_31 (fl_a14 hw hf) (ixn (by omega) (by decide))) ?_
      rw [hv.tu (show a < dU d by omega)]
      refine lf (a_aload_n dX1_letArrive_32 rfl) ?_
      refine lf (a_aload_n dX1_letArrive_33 rfl) ?_
      refine lf (a_getR (fl_r9 hw hf) dX1_letArrive_34 fs_X1_30 rfl (fl_o hw hf)) ?_
      refine lf (a_iload_n dX1_letArrive_37 rfl) ?_
      refine lf (a_ild dX1_letArrive_38 (fl_a13 hw hf) (ixn (by omega) (by decide))) ?_
      rw [hv.tm (show a < dU d by omega), ex]
      refine lf (a_aload_n dX1_letArrive_39 rfl) ?_
      refine lf (a_getR (fl_r10 hw hf) dX1_letArrive_40 fs_X1_33 rfl (fl_o hw hf)) ?_
      refine lf (a_iload_n dX1_letArrive_43 rfl) ?_
      refine lf (a_ild dX1_letArrive_44 (fl_a14 hw hf) (ixn (by omega) (by decide))) ?_
      rw [hv.tu (show a < dU d by omega), en]
      obtain ⟨v_, W45, k45, rfl, hv45, hO45⟩ := (v_X1_put hw hv hq hx (n := n) (by omega))
      refine lf (a_inv (b2 := (0, 0)) k45 rfl dX1_letArrive_45 yk_X1_put im_X1_put se_X1_put ml_X1_151 rfl (fl_o hw hf) (by decide) hc_X1 (by decide) (by decide) (Nat.le_of_ble_eq_true rfl)) ?_
      refine lf (a_isub dX1_letArrive_48) ?_
      refine lf (a_iadd dX1_letArrive_49) ?_
      refine lf (a_istore_n dX1_letArrive_50 (by decide)) ?_
      refine lf (a_iincN dX1_letArrive_51 rfl (by decide)) ?_
      refine lf (a_goto (tgt := 4) dX1_letArrive_54 (by decide)) ?_
      have hlo := stM_lo (q := q) (k := x) n d
      refine lf (a_loc _ rfl) (ih (a + 1) _ W45 _ hO45.wf hv45 (hq.fl hf hO45) (hd.st hq1 hx n) (by rw [hlo.2.1]; omega) (fun V h1 h2 h3 h4 => ?_))
      exact kx V h1 (hO45.trans h2) h3 h4
/-- the rows of top-ups moved down by a, up to m -/
def shW (μ : Wd) (f a m : Nat) : Wd := sIs μ (fun i x => if (i = f + 13 ∨ i = f + 14 ∨ i = f + 15) ∧ x + a < m then gI μ i (x + a) else gI μ i x)
theorem gI_shW (μ : Wd) (f a m i x : Nat) : gI (shW μ f a m) i x = if (i = f + 13 ∨ i = f + 14 ∨ i = f + 15) ∧ x + a < m then gI μ i (x + a) else gI μ i x := rfl
theorem Wf.shWf {μ : Wd} (hw : Wf μ) {f a m : Nat} : Wf (shW μ f a m) := hw
theorem sh_zero (μ : Wd) (f a : Nat) : shW μ f a a = μ := by
  show sIs μ _ = μ
  have : (fun i x => if (i = f + 13 ∨ i = f + 14 ∨ i = f + 15) ∧ x + a < a then gI μ i (x + a) else gI μ i x) = μ.2.1 := funext fun i => funext fun x => by rw [if_neg (by omega)]; rfl
  rw [this]
  rfl
theorem sh_rd {f a m i : Nat} : gI (shW μ f a m) i m = gI μ i m := by
  rw [gI_shW]
  split
  · have : a = 0 := by omega
    rw [this]; rfl
  · rfl
theorem sh_succ {f a m : Nat} (h : a ≤ m) : sI (sI (sI (shW μ f a m) (f + 13) (m - a) (gI μ (f + 13) m)) (f + 14) (m - a) (gI μ (f + 14) m)) (f + 15) (m - a) (gI μ (f + 15) m) = shW μ f a (m + 1) := by
  show sI (sI (sI (sIs μ _) _ _ _) _ _ _) _ _ _ = sIs μ _
  rw [sI_sIs, sI_sIs, sI_sIs]
  refine sIs_ext fun i x => ?_
  unfold up2
  have e : m - a + a = m := by omega
  by_cases h3 : x = m - a
  · subst h3
    by_cases h1 : i = f + 13
    · subst h1; simp [e]
    · by_cases h2 : i = f + 14
      · subst h2; simp [e]
      · by_cases h4 : i = f + 15
        · subst h4; simp [e]
        · simp [h1, h2, h4]
  · have h5 : (x + a < m + 1) = (x + a < m) := propext ⟨fun z => by omega, fun z => by omega⟩
    simp [h3, h5]
theorem FV.shf (h : FV μ f p d) {a : Nat} (ha : a ≤ dU d) : FV (sI (shW μ f a (dU d)) f 8 (nI (dU d - a))) f p (shfD a d) := by
  obtain ⟨h1, h2, h3, h4, h5, h6, h7, h8, h9, h10⟩ := h
  have hs : ∀ i x, i ≠ f + 13 → i ≠ f + 14 → i ≠ f + 15 → ¬ (i = f ∧ x = 8) → gI (sI (shW μ f a (dU d)) f 8 (nI (dU d - a))) i x = gI μ i x := fun i x e1 e2 e3 e4 => by rw [gI_sI, if_neg e4, gI_shW, if_neg (by omega)]
  have hu : dU (shfD a d) = dU d - a := rfl
  have ht : ∀ i x, i + a < dU d → (x = f + 13 ∨ x = f + 14 ∨ x = f + 15) → gI (sI (shW μ f a (dU d)) f 8 (nI (dU d - a))) x i = gI μ x (i + a) := fun i x e1 e2 => by rw [gI_sI, if_neg (by omega), gI_shW, if_pos ⟨e2, e1⟩]
  refine ⟨h1, h2, ⟨by rw [hs _ _ (by omega) (by omega) (by omega) (by omega)]; exact h3.1, h3.2⟩, ⟨by rw [gI_sI, if_pos ⟨rfl, rfl⟩]; rfl, by rw [hu]; omega⟩, fun i hi => ?_, fun i hi => ?_, ?_, ?_, fun t k ht hk => ?_, h10⟩
  · rw [hs _ _ (by omega) (by omega) (by omega) (by omega), hs _ _ (by omega) (by omega) (by omega) (by omega), hs _ _ (by omega) (by omega) (by omega) (by omega)]
    exact h5 i hi
  · rw [hu] at hi
    rw [ht i _ (by omega) (Or.inl rfl), ht i _ (by omega) (Or.inr (Or.inl rfl)), ht i _ (by omega) (Or.inr (Or.inr rfl))]
    exact h6 (i + a) (by omega)
  · rw [hs _ _ (by omega) (by omega) (by omega) (by omega)]; exact h7
  · rw [hs _ _ (by omega) (by omega) (by omega) (by omega)]; exact h8
  · rw [hs _ _ (by omega) (by omega) (by omega) (by omega), h9 t k ht hk]
    show dF d (7 + t) k = if 3 ≤ 7 + t ∧ 7 + t ≤ 5 then dF d (7 + t) (k + a) else dF d (7 + t) k
    rw [if_neg (by omega)]
theorem Out.shWo {S : Nat → Prop} (h : Out S μ W) {f a m : Nat} (h1 : S (f + 13)) (h2 : S (f + 14)) (h3 : S (f + 15)) : Out S μ (shW W f a m) := h.sIs fun i hi x => if_neg fun z => by
  rcases z.1 with e | e | e
  · exact hi (e ▸ h1)
  · exact hi (e ▸ h2)
  · exact hi (e ▸ h3)
theorem l_X1_letArrive_59 (hf : Fl f) (hv : FV μ f p d) (hw0 : Wf μ) {a : Nat} {b : Int32} (ha : a ≤ dU d) {o : Oc} {μ1 : Wd} (kx : AW Y_X1_letArrive R_X1_letArrive (0, 0) (shW μ f a (dU d)) 115 [(0, .ref f), (1, .int (nI a)), (2, .int b), (3, .int (nI (dU d)))] [] o μ1) : ∀ dd m, m + dd = dU d → a ≤ m → AW Y_X1_letArrive R_X1_letArrive (0, 0) (shW μ f a m) 59 [(0, .ref f), (1, .int (nI a)), (2, .int b), (3, .int (nI m))] [] o μ1 := by
  have hU := hv.U4
  have hu8 : ∀ m, gI (shW μ f a m) f 8 = nI (dU d) := fun m => by rw [gI_shW, if_neg (by omega)]; exact hv.hU
  intro dd
  induction dd with
  | zero =>
    intro m hm ham
    obtain rfl : dU d = m := by omega
    refine a_iload_n dX1_letArrive_59 rfl ?_
    refine a_aload_n dX1_letArrive_60 rfl ?_
    refine a_getI dX1_letArrive_61 fs_X1_51 rfl (fl_o (by repeat (first | with_reducible exact hw0 | with_reducible exact hwc | with_reducible assumption | with_reducible apply Wf.sI | with_reducible apply Wf.sL | with_reducible apply Wf.cpI | with_reducible apply Wf.cpL | with_reducible apply Wf.cp2 | with_reducible apply Wf.sIs | with_reducible apply Wf.sLs | with_reducible apply Wf.cpU | with_reducible apply Wf.fillI | with_reducible apply Wf.clU | with_reducible apply Wf.dnF | with_reducible apply Wf.gbW | with_reducible apply Wf.shWf)) hf) ?_
    rw [hu8]
    refine a_icmp_ge (tgt := 115) dX1_letArrive_64 (by decide) (fun h64 => ?_) (fun h64 => absurd h64 (fun z => z (nI_le (Nat.le_refl _) (by omega))))
    exact a_loc _ rfl kx
  | succ dd ih =>
    intro m hm ham
    have qih := ih (m + 1) (by omega) (by omega)
    rw [← sh_succ ham] at qih
    refine a_iload_n dX1_letArrive_59 rfl ?_
    refine a_aload_n dX1_letArrive_60 rfl ?_
    refine a_getI dX1_letArrive_61 fs_X1_51 rfl (fl_o (by repeat (first | with_reducible exact hw0 | with_reducible exact hwc | with_reducible assumption | with_reducible apply Wf.sI | with_reducible apply Wf.sL | with_reducible apply Wf.cpI | with_reducible apply Wf.cpL | with_reducible apply Wf.cp2 | with_reducible apply Wf.sIs | with_reducible apply Wf.sLs | with_reducible apply Wf.cpU | with_reducible apply Wf.fillI | with_reducible apply Wf.clU | with_reducible apply Wf.dnF | with_reducible apply Wf.gbW | with_reducible apply Wf.shWf)) hf) ?_
    rw [hu8]
    refine a_icmp_ge (tgt := 115) dX1_letArrive_64 (by decide) (fun h64 => absurd h64 (nI_ge (show m < dU d by omega) (by omega))) (fun h64 => ?_)
    refine a_aload_n dX1_letArrive_67 rfl ?_
    refine a_getR (fl_r9 (by repeat (first | with_reducible exact hw0 | with_reducible exact hwc | with_reducible assumption | with_reducible apply Wf.sI | with_reducible apply Wf.sL | with_reducible apply Wf.cpI | with_reducible apply Wf.cpL | with_reducible apply Wf.cp2 | with_reducible apply Wf.sIs | with_reducible apply Wf.sLs | with_reducible apply Wf.cpU | with_reducible apply Wf.fillI | with_reducible apply Wf.clU | with_reducible apply Wf.dnF | with_reducible apply Wf.gbW | with_reducible apply Wf.shWf)) hf) dX1_letArrive_68 fs_X1_30 rfl (fl_o (by repeat (first | with_reducible exact hw0 | with_reducible exact hwc | with_reducible assumption | with_reducible apply Wf.sI | with_reducible apply Wf.sL | with_reducible apply Wf.cpI | with_reducible apply Wf.cpL | with_reducible apply Wf.cp2 | with_reducible apply Wf.sIs | with_reducible apply Wf.sLs | with_reducible apply Wf.cpU | with_reducible apply Wf.fillI | with_reducible apply Wf.clU | with_reducible apply Wf.dnF | with_reducible apply Wf.gbW | with_reducible apply Wf.shWf)) hf) ?_
    refine a_iload_n dX1_letArrive_71 rfl ?_
    refine a_iload_n dX1_letArrive_72 rfl ?_
    refine a_isub dX1_letArrive_73 ?_
    rw [nI_subI ham]
    refine a_aload_n dX1_letArrive_74 rfl ?_
    refine a_getR (fl_r9 (by repeat (first | with_reducible exact hw0 | with_reducible exact hwc | with_reducible assumption | with_reducible apply Wf.sI | with_reducible apply Wf.sL | with_reducible apply Wf.cpI | with_reducible apply Wf.cpL | with_reducible apply Wf.cp2 | with_reducible apply Wf.sIs | with_reducible apply Wf.sLs | with_reducible apply Wf.cpU | with_reducible apply Wf.fillI | with_reducible apply Wf.clU | with_reducible apply Wf.dnF | with_reducible apply Wf.gbW | with_reducible apply Wf.shWf)) hf) dX1_letArrive_75 fs_X1_30 rfl (fl_o (by repeat (first | with_reducible exact hw0 | with_reducible exact hwc | with_reducible assumption | with_reducible apply Wf.sI | with_reducible apply Wf.sL | with_reducible apply Wf.cpI | with_reducible apply Wf.cpL | with_reducible apply Wf.cp2 | with_reducible apply Wf.sIs | with_reducible apply Wf.sLs | with_reducible apply Wf.cpU | with_reducible apply Wf.fillI | with_reducible apply Wf.clU | with_reducible apply Wf.dnF | with_reducible apply Wf.gbW | with_reducible apply Wf.shWf)) hf) ?_
    refine a_iload_n dX1_letArrive_78 rfl ?_
    refine a_ild dX1_letArrive_79 (fl_a13 (by repeat (first | with_reducible exact hw0 | with_reducible exact hwc | with_reducible assumption | with_reducible apply Wf.sI | with_reducible apply Wf.sL | with_reducible apply Wf.cpI | with_reducible apply Wf.cpL | with_reducible apply Wf.cp2 | with_reducible apply Wf.sIs | with_reducible apply Wf.sLs | with_reducible apply Wf.cpU | with_reducible apply Wf.fillI | with_reducible apply Wf.clU | with_reducible apply Wf.dnF | with_reducible apply Wf.gbW | with_reducible apply Wf.shWf)) hf) (ixn (by omega) (by decide)) ?_
    rw [sh_rd]
    refine a_ist dX1_letArrive_80 (fl_a13 (by repeat (first | with_reducible exact hw0 | with_reducible exact hwc | with_reducible assumption | with_reducible apply Wf.sI | with_reducible apply Wf.sL | with_reducible apply Wf.cpI | with_reducible apply Wf.cpL | with_reducible apply Wf.cp2 | with_reducible apply Wf.sIs | with_reducible apply Wf.sLs | with_reducible apply Wf.cpU | with_reducible apply Wf.fillI | with_reducible apply Wf.clU | with_reducible apply Wf.dnF | with_reducible apply Wf.gbW | with_reducible apply Wf.shWf)) hf) (ixn (show m - a < 6 by omega) (by decide)) ?_
    refine a_aload_n dX1_letArrive_81 rfl ?_
    refine a_getR (fl_r10 (by repeat (first | with_reducible exact hw0 | with_reducible exact hwc | with_reducible assumption | with_reducible apply Wf.sI | with_reducible apply Wf.sL | with_reducible apply Wf.cpI | with_reducible apply Wf.cpL | with_reducible apply Wf.cp2 | with_reducible apply Wf.sIs | with_reducible apply Wf.sLs | with_reducible apply Wf.cpU | with_reducible apply Wf.fillI | with_reducible apply Wf.clU | with_reducible apply Wf.dnF | with_reducible apply Wf.gbW | with_reducible apply Wf.shWf)) hf) dX1_letArrive_82 fs_X1_33 rfl (fl_o (by repeat (first | with_reducible exact hw0 | with_reducible exact hwc | with_reducible assumption | with_reducible apply Wf.sI | with_reducible apply Wf.sL | with_reducible apply Wf.cpI | with_reducible apply Wf.cpL | with_reducible apply Wf.cp2 | with_reducible apply Wf.sIs | with_reducible apply Wf.sLs | with_reducible apply Wf.cpU | with_reducible apply Wf.fillI | with_reducible apply Wf.clU | with_reducible apply Wf.dnF | with_reducible apply Wf.gbW | with_reducible apply Wf.shWf)) hf) ?_
    refine a_iload_n dX1_letArrive_85 rfl ?_
    refine a_iload_n dX1_letArrive_86 rfl ?_
    refine a_isub dX1_letArrive_87 ?_
    rw [nI_subI ham]
    refine a_aload_n dX1_letArrive_88 rfl ?_
    refine a_getR (fl_r10 (by repeat (first | with_reducible exact hw0 | with_reducible exact hwc | with_reducible assumption | with_reducible apply Wf.sI | with_reducible apply Wf.sL | with_reducible apply Wf.cpI | with_reducible apply Wf.cpL | with_reducible apply Wf.cp2 | with_reducible apply Wf.sIs | with_reducible apply Wf.sLs | with_reducible apply Wf.cpU | with_reducible apply Wf.fillI | with_reducible apply Wf.clU | with_reducible apply Wf.dnF | with_reducible apply Wf.gbW | with_reducible apply Wf.shWf)) hf) dX1_letArrive_89 fs_X1_33 rfl (fl_o (by repeat (first | with_reducible exact hw0 | with_reducible exact hwc | with_reducible assumption | with_reducible apply Wf.sI | with_reducible apply Wf.sL | with_reducible apply Wf.cpI | with_reducible apply Wf.cpL | with_reducible apply Wf.cp2 | with_reducible apply Wf.sIs | with_reducible apply Wf.sLs | with_reducible apply Wf.cpU | with_reducible apply Wf.fillI | with_reducible apply Wf.clU | with_reducible apply Wf.dnF | with_reducible apply Wf.gbW | with_reducible apply Wf.shWf)) hf) ?_
    refine a_iload_n dX1_letArrive_92 rfl ?_
    refine a_ild dX1_letArrive_93 (fl_a14 (by repeat (first | with_reducible exact hw0 | with_reducible exact hwc | with_reducible assumption | with_reducible apply Wf.sI | with_reducible apply Wf.sL | with_reducible apply Wf.cpI | with_reducible apply Wf.cpL | with_reducible apply Wf.cp2 | with_reducible apply Wf.sIs | with_reducible apply Wf.sLs | with_reducible apply Wf.cpU | with_reducible apply Wf.fillI | with_reducible apply Wf.clU | with_reducible apply Wf.dnF | with_reducible apply Wf.gbW | with_reducible apply Wf.shWf)) hf) (ixn (by omega) (by decide)) ?_
    rw [gI_sI, if_neg (by omega), sh_rd]
    refine a_ist dX1_letArrive_94 (fl_a14 (by repeat (first | with_reducible exact hw0 | with_reducible exact hwc | with_reducible assumption | with_reducible apply Wf.sI | with_reducible apply Wf.sL | with_reducible apply Wf.cpI | with_reducible apply Wf.cpL | with_reducible apply Wf.cp2 | with_reducible apply Wf.sIs | with_reducible apply Wf.sLs | with_reducible apply Wf.cpU | with_reducible apply Wf.fillI | with_reducible apply Wf.clU | with_reducible apply Wf.dnF | with_reducible apply Wf.gbW | with_reducible apply Wf.shWf)) hf) (ixn (show m - a < 6 by omega) (by decide)) ?_
    refine a_aload_n dX1_letArrive_95 rfl ?_
    refine a_getR (fl_r11 (by repeat (first | with_reducible exact hw0 | with_reducible exact hwc | with_reducible assumption | with_reducible apply Wf.sI | with_reducible apply Wf.sL | with_reducible apply Wf.cpI | with_reducible apply Wf.cpL | with_reducible apply Wf.cp2 | with_reducible apply Wf.sIs | with_reducible apply Wf.sLs | with_reducible apply Wf.cpU | with_reducible apply Wf.fillI | with_reducible apply Wf.clU | with_reducible apply Wf.dnF | with_reducible apply Wf.gbW | with_reducible apply Wf.shWf)) hf) dX1_letArrive_96 fs_X1_36 rfl (fl_o (by repeat (first | with_reducible exact hw0 | with_reducible exact hwc | with_reducible assumption | with_reducible apply Wf.sI | with_reducible apply Wf.sL | with_reducible apply Wf.cpI | with_reducible apply Wf.cpL | with_reducible apply Wf.cp2 | with_reducible apply Wf.sIs | with_reducible apply Wf.sLs | with_reducible apply Wf.cpU | with_reducible apply Wf.fillI | with_reducible apply Wf.clU | with_reducible apply Wf.dnF | with_reducible apply Wf.gbW | with_reducible apply Wf.shWf)) hf) ?_
    refine a_iload_n dX1_letArrive_99 rfl ?_
    refine a_iload_n dX1_letArrive_100 rfl ?_
    refine a_isub dX1_letArrive_101 ?_
    rw [nI_subI ham]
    refine a_aload_n dX1_letArrive_102 rfl ?_
    refine a_getR (fl_r11 (by repeat (first | with_reducible exact hw0 | with_reducible exact hwc | with_reducible assumption | with_reducible apply Wf.sI | with_reducible apply Wf.sL | with_reducible apply Wf.cpI | with_reducible apply Wf.cpL | with_reducible apply Wf.cp2 | with_reducible apply Wf.sIs | with_reducible apply Wf.sLs | with_reducible apply Wf.cpU | with_reducible apply Wf.fillI | with_reducible apply Wf.clU | with_reducible apply Wf.dnF | with_reducible apply Wf.gbW | with_reducible apply Wf.shWf)) hf) dX1_letArrive_103 fs_X1_36 rfl (fl_o (by repeat (first | with_reducible exact hw0 | with_reducible exact hwc | with_reducible assumption | with_reducible apply Wf.sI | with_reducible apply Wf.sL | with_reducible apply Wf.cpI | with_reducible apply Wf.cpL | with_reducible apply Wf.cp2 | with_reducible apply Wf.sIs | with_reducible apply Wf.sLs | with_reducible apply Wf.cpU | with_reducible apply Wf.fillI | with_reducible apply Wf.clU | with_reducible apply Wf.dnF | with_reducible apply Wf.gbW | with_reducible apply Wf.shWf)) hf) ?_
    refine a_iload_n dX1_letArrive_106 rfl ?_
    refine a_ild dX1_letArrive_107 (fl_a15 (by repeat (first | with_reducible exact hw0 | with_reducible exact hwc | with_reducible assumption | with_reducible apply Wf.sI | with_reducible apply Wf.sL | with_reducible apply Wf.cpI | with_reducible apply Wf.cpL | with_reducible apply Wf.cp2 | with_reducible apply Wf.sIs | with_reducible apply Wf.sLs | with_reducible apply Wf.cpU | with_reducible apply Wf.fillI | with_reducible apply Wf.clU | with_reducible apply Wf.dnF | with_reducible apply Wf.gbW | with_reducible apply Wf.shWf)) hf) (ixn (by omega) (by decide)) ?_
    rw [gI_sI, if_neg (by omega), gI_sI, if_neg (by omega), sh_rd]
    refine a_ist dX1_letArrive_108 (fl_a15 (by repeat (first | with_reducible exact hw0 | with_reducible exact hwc | with_reducible assumption | with_reducible apply Wf.sI | with_reducible apply Wf.sL | with_reducible apply Wf.cpI | with_reducible apply Wf.cpL | with_reducible apply Wf.cp2 | with_reducible apply Wf.sIs | with_reducible apply Wf.sLs | with_reducible apply Wf.cpU | with_reducible apply Wf.fillI | with_reducible apply Wf.clU | with_reducible apply Wf.dnF | with_reducible apply Wf.gbW | with_reducible apply Wf.shWf)) hf) (ixn (show m - a < 6 by omega) (by decide)) ?_
    refine a_iincN dX1_letArrive_109 rfl (by decide) ?_
    refine a_goto (tgt := 59) dX1_letArrive_112 (by decide) ?_
    exact a_loc _ rfl qih
theorem v_X1_letArrive (hw : Wf μ) (hv : FV μ f p d) (hq : PV μ p q) (hq1 : GdP q) (hd : GdD q d) : CV Y_X1_letArrive R_X1_letArrive [.ref f] μ (fun v V => v = some (.int (laD q d).1) ∧ FV V f p (laD q d).2 ∧ Out (sFl f) μ V) := by
  have hf := hv.fl
  have hpl := hq.pl
  refine CV.ent yk_X1_letArrive (Nat.le_of_ble_eq_true rfl) ?_
  refine lf (a_iconst (0 : Int32) dX1_letArrive_0 (by decide)) ?_
  refine lf (a_istore_n dX1_letArrive_1 (by decide)) ?_
  refine lf (a_iconst (0 : Int32) dX1_letArrive_2 (by decide)) ?_
  refine lf (a_istore_n dX1_letArrive_3 (by decide)) ?_
  refine lf (a_loc [(0, .ref f), (1, .int (nI 0)), (2, .int 0)] rfl) (l_X1_letArrive_4 hf hpl hq1 (dU d) 0 0 μ d hw hv hq hd (Nat.zero_add _) (fun V h1 h2 h3 h4 => ?_))
  have e : laD q d = ((laP q (dU d) 0 0 d).2.1, shfD (laP q (dU d) 0 0 d).1 (laP q (dU d) 0 0 d).2.2) := rfl
  rw [e]
  generalize laP q (dU d) 0 0 d = r at h1 h3 h4 ⊢
  obtain ⟨a, b, d2⟩ := r
  have h4 : a ≤ dU d2 := h4
  have h1 : FV V f p d2 := h1
  have hU2 := h1.U4
  have hwV := h2.wf
  refine lf (a_iload_n dX1_letArrive_57 rfl) ?_
  refine lf (a_istore_n dX1_letArrive_58 (by decide)) ?_
  have hz : V = shW V f a a := (sh_zero V f a).symm
  refine ⟨_, _, a_wd hz (a_loc [(0, .ref f), (1, .int (nI a)), (2, .int b), (3, .int (nI a))] rfl (l_X1_letArrive_59 hf h1 hwV h4 ?_ (dU d2 - a) a (by omega) (Nat.le_refl _))), _, rfl, rfl, h1.shf h4, (h2.shWo ⟨by omega, by omega⟩ ⟨by omega, by omega⟩ ⟨by omega, by omega⟩).sI ⟨by omega, by omega⟩ _ _⟩
  have hu8 : gI (shW V f a (dU d2)) f 8 = nI (dU d2) := by rw [gI_shW, if_neg (by omega)]; exact h1.hU
  refine a_aload_n dX1_letArrive_115 rfl ?_
  refine a_dup dX1_letArrive_116 rfl ?_
  refine a_getI dX1_letArrive_117 fs_X1_51 rfl (fl_o (by repeat (first | with_reducible exact hwV | with_reducible exact hwc | with_reducible assumption | with_reducible apply Wf.sI | with_reducible apply Wf.sL | with_reducible apply Wf.cpI | with_reducible apply Wf.cpL | with_reducible apply Wf.cp2 | with_reducible apply Wf.sIs | with_reducible apply Wf.sLs | with_reducible apply Wf.cpU | with_reducible apply Wf.fillI | with_reducible apply Wf.clU | with_reducible apply Wf.dnF | with_reducible apply Wf.gbW | with_reducible apply Wf.shWf)) hf) ?_
  rw [hu8]
  refine a_iload_n dX1_letArrive_120 rfl ?_
  refine a_isub dX1_letArrive_121 ?_
  rw [nI_subI h4]
  refine a_putI dX1_letArrive_122 fs_X1_51 rfl rfl rfl (fl_o (by repeat (first | with_reducible exact hwV | with_reducible exact hwc | with_reducible assumption | with_reducible apply Wf.sI | with_reducible apply Wf.sL | with_reducible apply Wf.cpI | with_reducible apply Wf.cpL | with_reducible apply Wf.cp2 | with_reducible apply Wf.sIs | with_reducible apply Wf.sLs | with_reducible apply Wf.cpU | with_reducible apply Wf.fillI | with_reducible apply Wf.clU | with_reducible apply Wf.dnF | with_reducible apply Wf.gbW | with_reducible apply Wf.shWf)) hf) ?_
  refine a_iload_n dX1_letArrive_125 rfl ?_
  exact a_out rfl rfl (a_ireturn dX1_letArrive_126 rfl rfl)
end PUTC
