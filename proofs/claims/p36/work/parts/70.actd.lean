section ACTD
variable {μ W : Wd} {p f : Nat} {q : PDt} {d : FDt}
def brdD (d : FDt) (c n v : Int32) : FDt := (dP d + 1, dU d, fun a i => if i = dP d ∧ a < 3 then (if a = 0 then c else if a = 1 then n else v) else dF d a i, dA d)
def leaveD (d : FDt) (i : Nat) : FDt := (dP d - 1, dU d, fun a x => if a < 3 ∧ i ≤ x ∧ x < dP d - 1 then dF d a (x + 1) else dF d a x, dA d)
def cellD (d : FDt) (a i : Nat) (v : Int32) : FDt := (dP d, dU d, up2 (dF d) a i v, dA d)
def askD (q : PDt) (d : FDt) (k n : Int32) : FDt := (dP d, dU d + 1, fun a i => if i = dU d ∧ 3 ≤ a ∧ a ≤ 5 then (if a = 3 then k else if a = 4 then n else dF d 6 1 - pF q 9 3) else dF d a i, dA d)
def toD (k : Nat) : Nat → Int32 → FDt → FDt
  | 0, _, d => d
  | r + 1, n, d => toD k r (n - (if dF d (7 + r) k < n then dF d (7 + r) k else n)) (setU d r k (dF d (7 + r) k - (if dF d (7 + r) k < n then dF d (7 + r) k else n)))
/-- the passengers' rows changed -/
theorem FV.pas {d2 : FDt} (h : FV μ f p d) (hr : gR W f 0 = gR μ f 0) (hL : ∀ k, gL W (f + 16) k = gL μ (f + 16) k) (hu : ∀ i, 5 ≤ i → i ≤ 15 → ∀ k, gI W (f + i) k = gI μ (f + i) k) (h1 : gI W f 1 = gI μ f 1) (h2 : gI W f 2 = gI μ f 2) (h8 : gI W f 8 = gI μ f 8) (eU : dU d2 = dU d) (eA : dA d2 = dA d) (eF : ∀ a i, 3 ≤ a → dF d2 a i = dF d a i) (hP : gI W f 3 = nI (dP d2) ∧ dP d2 ≤ 40) (hp : ∀ i, i < dP d2 → gI W (f + 1) i = dF d2 0 i ∧ gI W (f + 2) i = dF d2 1 i ∧ gI W (f + 3) i = dF d2 2 i) : FV W f p d2 := by
  refine ⟨h.fl, hr.trans h.rp, hP, ⟨by rw [h8, eU]; exact h.hU, by rw [eU]; exact h.U4⟩, hp, fun i hi => ?_, ?_, ?_, fun t k ht hk => ?_, fun i hi => ?_⟩
  · rw [eU] at hi
    rw [hu 13 (by decide) (by decide), hu 14 (by decide) (by decide), hu 15 (by decide) (by decide), eF 3 i (by decide), eF 4 i (by decide), eF 5 i (by decide)]
    exact ⟨h.tm hi, h.tu hi, h.td hi⟩
  · rw [h1, eF 6 0 (by decide)]; exact h.srv
  · rw [h2, eF 6 1 (by decide)]; exact h.min
  · rw [Nat.add_assoc, hu (5 + t) (by omega) (by omega), ← Nat.add_assoc, eF (7 + t) k (by omega)]; exact h.un ht hk
  · rw [hL, eA]; exact h.acc hi
theorem v_X1_seat (hw : Wf μ) (hv : FV μ f p d) (hP : dP d < 40) (c n v : Int32) : CV Y_X1_seat R_X1_seat [.ref f, .int c, .int n, .int v] μ (fun r V => r = none ∧ FV V f p (brdD d c n v) ∧ Out (sFl f) μ V) := by
  have hc := t_X1_seat hw hv.fl hv.hP hP c n v
  have ho : Out (sFl f) μ (sI (sI (sI (sI μ (f + 1) (dP d) c) (f + 2) (dP d) n) (f + 3) (dP d) v) f 3 (nI (dP d + 1))) := ((((Out.rfl' hw).sI (S := sFl f) ⟨by omega, by omega⟩ _ _).sI (S := sFl f) ⟨by omega, by omega⟩ _ _).sI (S := sFl f) ⟨by omega, by omega⟩ _ _).sI (S := sFl f) ⟨by omega, by omega⟩ _ _
  have e : ∀ a b, gI (sI (sI (sI (sI μ (f + 1) (dP d) c) (f + 2) (dP d) n) (f + 3) (dP d) v) f 3 (nI (dP d + 1))) a b = if a = f ∧ b = 3 then nI (dP d + 1) else if a = f + 3 ∧ b = dP d then v else if a = f + 2 ∧ b = dP d then n else if a = f + 1 ∧ b = dP d then c else gI μ a b := fun a b => by rw [gI_sI, gI_sI, gI_sI, gI_sI]
  refine ⟨none, _, hc, rfl, ?_, ho⟩
  have er : gR (sI (sI (sI (sI μ (f + 1) (dP d) c) (f + 2) (dP d) n) (f + 3) (dP d) v) f 3 (nI (dP d + 1))) f 0 = gR μ f 0 := by rw [gR_sI, gR_sI, gR_sI, gR_sI]
  have el : ∀ k, gL (sI (sI (sI (sI μ (f + 1) (dP d) c) (f + 2) (dP d) n) (f + 3) (dP d) v) f 3 (nI (dP d + 1))) (f + 16) k = gL μ (f + 16) k := fun k => by rw [gL_sI, gL_sI, gL_sI, gL_sI]
  clear hc
  generalize sI (sI (sI (sI μ (f + 1) (dP d) c) (f + 2) (dP d) n) (f + 3) (dP d) v) f 3 (nI (dP d + 1)) = Z at ho e er el ⊢
  refine hv.pas er el (fun i a b k => by rw [e, if_neg (by omega), if_neg (by omega), if_neg (by omega), if_neg (by omega)]) (by rw [e, if_neg (by omega), if_neg (by omega), if_neg (by omega), if_neg (by omega)]) (by rw [e, if_neg (by omega), if_neg (by omega), if_neg (by omega), if_neg (by omega)]) (by rw [e, if_neg (by omega), if_neg (by omega), if_neg (by omega), if_neg (by omega)]) rfl rfl (fun a i ha => if_neg (by omega)) ⟨by rw [e, if_pos ⟨rfl, rfl⟩]; rfl, hP⟩ fun i hi => ?_
  have hi : i < dP d + 1 := hi
  have g0 : dF (brdD d c n v) 0 i = if i = dP d then c else dF d 0 i := by
    by_cases hl : i = dP d
    · rw [if_pos hl]; exact (if_pos ⟨hl, by decide⟩).trans (if_pos rfl)
    · rw [if_neg hl]; exact if_neg (fun z => hl z.1)
  have g1 : dF (brdD d c n v) 1 i = if i = dP d then n else dF d 1 i := by
    by_cases hl : i = dP d
    · rw [if_pos hl]; exact (if_pos ⟨hl, by decide⟩).trans ((if_neg (by decide)).trans (if_pos rfl))
    · rw [if_neg hl]; exact if_neg (fun z => hl z.1)
  have g2 : dF (brdD d c n v) 2 i = if i = dP d then v else dF d 2 i := by
    by_cases hl : i = dP d
    · rw [if_pos hl]; exact (if_pos ⟨hl, by decide⟩).trans ((if_neg (by decide)).trans (if_neg (by decide)))
    · rw [if_neg hl]; exact if_neg (fun z => hl z.1)
  by_cases hl : i = dP d
  · rw [g0, g1, g2, if_pos hl, if_pos hl, if_pos hl]
    refine ⟨?_, ?_, ?_⟩
    · rw [e, if_neg (by omega), if_neg (by omega), if_neg (by omega), if_pos ⟨rfl, hl⟩]
    · rw [e, if_neg (by omega), if_neg (by omega), if_pos ⟨rfl, hl⟩]
    · rw [e, if_neg (by omega), if_pos ⟨rfl, hl⟩]
  · have hi2 : i < dP d := by omega
    rw [g0, g1, g2, if_neg hl, if_neg hl, if_neg hl]
    refine ⟨?_, ?_, ?_⟩
    · rw [e, if_neg (by omega), if_neg (by omega), if_neg (by omega), if_neg (by omega)]; exact hv.cab hi2
    · rw [e, if_neg (by omega), if_neg (by omega), if_neg (by omega), if_neg (by omega)]; exact hv.nee hi2
    · rw [e, if_neg (by omega), if_neg (by omega), if_neg (by omega), if_neg (by omega)]; exact hv.wis hi2
theorem v_X1_removePassenger (hw : Wf μ) (hv : FV μ f p d) {i : Nat} (hi : i < dP d) : CV Y_X1_removePassenger R_X1_removePassenger [.ref f, .int (nI i)] μ (fun r V => r = none ∧ FV V f p (leaveD d i) ∧ Out (sFl f) μ V) := by
  have hP := hv.P4
  have hc := t_X1_removePassenger hw hv.fl hv.hP hv.P4 hi
  have hg : ∀ a k, gI (dnF μ f i (dP d - 1)) a k = if a = f + 1 ∨ a = f + 2 ∨ a = f + 3 then dnI μ a i (dP d - 1) k else gI μ a k := fun a k => gI_dnF μ f i (dP d - 1) a k
  have ho : Out (sFl f) μ (sI (dnF μ f i (dP d - 1)) f 3 (nI (dP d - 1))) := ((Out.rfl' hw).sIs (S := sFl f) (fun a ha k => if_neg (fun z => ha (by rcases z with rfl | rfl | rfl <;> exact ⟨by omega, by omega⟩)))).sI (S := sFl f) ⟨by omega, by omega⟩ _ _
  have e : ∀ a b, gI (sI (dnF μ f i (dP d - 1)) f 3 (nI (dP d - 1))) a b = if a = f ∧ b = 3 then nI (dP d - 1) else if a = f + 1 ∨ a = f + 2 ∨ a = f + 3 then dnI μ a i (dP d - 1) b else gI μ a b := fun a b => by rw [gI_sI, hg]
  have er : gR (sI (dnF μ f i (dP d - 1)) f 3 (nI (dP d - 1))) f 0 = gR μ f 0 := by rw [gR_sI, gR_dnF]
  have el : ∀ k, gL (sI (dnF μ f i (dP d - 1)) f 3 (nI (dP d - 1))) (f + 16) k = gL μ (f + 16) k := fun k => by rw [gL_sI, gL_dnF]
  refine ⟨none, _, hc, rfl, ?_, ho⟩
  clear hc hg
  generalize sI (dnF μ f i (dP d - 1)) f 3 (nI (dP d - 1)) = Z at ho e er el ⊢
  refine hv.pas er el (fun i a b k => by rw [e, if_neg (by omega), if_neg (by omega)]) (by rw [e, if_neg (by omega), if_neg (by omega)]) (by rw [e, if_neg (by omega), if_neg (by omega)]) (by rw [e, if_neg (by omega), if_neg (by omega)]) rfl rfl (fun a i ha => if_neg (by omega)) ⟨by rw [e, if_pos ⟨rfl, rfl⟩]; rfl, show dP d - 1 ≤ 40 by omega⟩ fun x hx => ?_
  have hx : x < dP d - 1 := hx
  have c1 : ∀ a, (a = f + 1 ∨ a = f + 2 ∨ a = f + 3) → gI Z a x = dnI μ a i (dP d - 1) x := fun a ha => by rw [e, if_neg (by omega), if_pos ha]
  have g : ∀ a, a < 3 → dF (leaveD d i) a x = if i ≤ x then dF d a (x + 1) else dF d a x := fun a ha => by
    by_cases hl : i ≤ x
    · rw [if_pos hl]; exact if_pos ⟨ha, hl, hx⟩
    · rw [if_neg hl]; exact if_neg (fun z => hl z.2.1)
  have k : ∀ a, dnI μ a i (dP d - 1) x = if i ≤ x then gI μ a (x + 1) else gI μ a x := fun a => by
    unfold dnI
    by_cases hl : i ≤ x
    · rw [if_pos hl, if_pos ⟨hl, hx⟩]
    · rw [if_neg hl, if_neg (fun z => hl z.1)]
  rw [g 0 (by decide), g 1 (by decide), g 2 (by decide), c1 (f + 1) (Or.inl rfl), c1 (f + 2) (Or.inr (Or.inl rfl)), c1 (f + 3) (Or.inr (Or.inr rfl)), k, k, k]
  by_cases hl : i ≤ x
  · rw [if_pos hl, if_pos hl, if_pos hl, if_pos hl, if_pos hl, if_pos hl]
    exact ⟨hv.cab (by omega), hv.nee (by omega), hv.wis (by omega)⟩
  · rw [if_neg hl, if_neg hl, if_neg hl, if_neg hl, if_neg hl, if_neg hl]
    exact ⟨hv.cab (by omega), hv.nee (by omega), hv.wis (by omega)⟩
/-- the rows of top-ups changed -/
theorem FV.tps {d2 : FDt} (h : FV μ f p d) (hr : gR W f 0 = gR μ f 0) (hL : ∀ k, gL W (f + 16) k = gL μ (f + 16) k) (hu : ∀ i, 1 ≤ i → i ≤ 12 → ∀ k, gI W (f + i) k = gI μ (f + i) k) (h1 : gI W f 1 = gI μ f 1) (h2 : gI W f 2 = gI μ f 2) (h3 : gI W f 3 = gI μ f 3) (eP : dP d2 = dP d) (eA : dA d2 = dA d) (eF : ∀ a i, a < 3 ∨ 5 < a → dF d2 a i = dF d a i) (hU : gI W f 8 = nI (dU d2) ∧ dU d2 ≤ 6) (hp : ∀ i, i < dU d2 → gI W (f + 13) i = dF d2 3 i ∧ gI W (f + 14) i = dF d2 4 i ∧ gI W (f + 15) i = dF d2 5 i) : FV W f p d2 := by
  refine ⟨h.fl, hr.trans h.rp, ⟨by rw [h3, eP]; exact h.hP, by rw [eP]; exact h.P4⟩, hU, fun i hi => ?_, hp, ?_, ?_, fun t k ht hk => ?_, fun i hi => ?_⟩
  · rw [eP] at hi
    rw [hu 1 (by decide) (by decide), hu 2 (by decide) (by decide), hu 3 (by decide) (by decide), eF 0 i (by decide), eF 1 i (by decide), eF 2 i (by decide)]
    exact ⟨h.cab hi, h.nee hi, h.wis hi⟩
  · rw [h1, eF 6 0 (by decide)]; exact h.srv
  · rw [h2, eF 6 1 (by decide)]; exact h.min
  · rw [Nat.add_assoc, hu (5 + t) (by omega) (by omega), ← Nat.add_assoc, eF (7 + t) k (by omega)]; exact h.un ht hk
  · rw [hL, eA]; exact h.acc hi
theorem v_X1_askFor (hw : Wf μ) (hv : FV μ f p d) (hq : PV μ p q) (hU : dU d < 6) (k n : Int32) : CV Y_X1_askFor R_X1_askFor [.ref f, .int k, .int n] μ (fun r V => r = none ∧ FV V f p (askD q d k n) ∧ Out (sFl f) μ V) := by
  have hc := t_X1_askFor hw hv.fl hq.pl hv.rp hv.hU hU k n
  have hx : gI μ f 2 - gI μ p 10 = dF d 6 1 - pF q 9 3 := by rw [hv.min, hq.lead]
  rw [hx] at hc
  have ho : Out (sFl f) μ (sI (sI (sI (sI μ (f + 13) (dU d) k) (f + 14) (dU d) n) (f + 15) (dU d) (dF d 6 1 - pF q 9 3)) f 8 (nI (dU d + 1))) := ((((Out.rfl' hw).sI (S := sFl f) ⟨by omega, by omega⟩ _ _).sI (S := sFl f) ⟨by omega, by omega⟩ _ _).sI (S := sFl f) ⟨by omega, by omega⟩ _ _).sI (S := sFl f) ⟨by omega, by omega⟩ _ _
  have e : ∀ a b, gI (sI (sI (sI (sI μ (f + 13) (dU d) k) (f + 14) (dU d) n) (f + 15) (dU d) (dF d 6 1 - pF q 9 3)) f 8 (nI (dU d + 1))) a b = if a = f ∧ b = 8 then nI (dU d + 1) else if a = f + 15 ∧ b = dU d then (dF d 6 1 - pF q 9 3) else if a = f + 14 ∧ b = dU d then n else if a = f + 13 ∧ b = dU d then k else gI μ a b := fun a b => by rw [gI_sI, gI_sI, gI_sI, gI_sI]
  have er : gR (sI (sI (sI (sI μ (f + 13) (dU d) k) (f + 14) (dU d) n) (f + 15) (dU d) (dF d 6 1 - pF q 9 3)) f 8 (nI (dU d + 1))) f 0 = gR μ f 0 := by rw [gR_sI, gR_sI, gR_sI, gR_sI]
  have el : ∀ x, gL (sI (sI (sI (sI μ (f + 13) (dU d) k) (f + 14) (dU d) n) (f + 15) (dU d) (dF d 6 1 - pF q 9 3)) f 8 (nI (dU d + 1))) (f + 16) x = gL μ (f + 16) x := fun x => by rw [gL_sI, gL_sI, gL_sI, gL_sI]
  refine ⟨none, _, hc, rfl, ?_, ho⟩
  clear hc
  generalize sI (sI (sI (sI μ (f + 13) (dU d) k) (f + 14) (dU d) n) (f + 15) (dU d) (dF d 6 1 - pF q 9 3)) f 8 (nI (dU d + 1)) = Z at ho e er el ⊢
  refine hv.tps er el (fun i a b k => by rw [e, if_neg (by omega), if_neg (by omega), if_neg (by omega), if_neg (by omega)]) (by rw [e, if_neg (by omega), if_neg (by omega), if_neg (by omega), if_neg (by omega)]) (by rw [e, if_neg (by omega), if_neg (by omega), if_neg (by omega), if_neg (by omega)]) (by rw [e, if_neg (by omega), if_neg (by omega), if_neg (by omega), if_neg (by omega)]) rfl rfl (fun a i ha => if_neg (by omega)) ⟨by rw [e, if_pos ⟨rfl, rfl⟩]; rfl, hU⟩ fun i hi => ?_
  have hi : i < dU d + 1 := hi
  have g3 : dF (askD q d k n) 3 i = if i = dU d then k else dF d 3 i := by
    by_cases hl : i = dU d
    · rw [if_pos hl]; exact (if_pos ⟨hl, by decide⟩).trans (if_pos rfl)
    · rw [if_neg hl]; exact if_neg (fun z => hl z.1)
  have g4 : dF (askD q d k n) 4 i = if i = dU d then n else dF d 4 i := by
    by_cases hl : i = dU d
    · rw [if_pos hl]; exact (if_pos ⟨hl, by decide⟩).trans ((if_neg (by decide)).trans (if_pos rfl))
    · rw [if_neg hl]; exact if_neg (fun z => hl z.1)
  have g5 : dF (askD q d k n) 5 i = if i = dU d then dF d 6 1 - pF q 9 3 else dF d 5 i := by
    by_cases hl : i = dU d
    · rw [if_pos hl]; exact (if_pos ⟨hl, by decide⟩).trans ((if_neg (by decide)).trans (if_neg (by decide)))
    · rw [if_neg hl]; exact if_neg (fun z => hl z.1)
  by_cases hl : i = dU d
  · rw [g3, g4, g5, if_pos hl, if_pos hl, if_pos hl]
    refine ⟨?_, ?_, ?_⟩
    · rw [e, if_neg (by omega), if_neg (by omega), if_neg (by omega), if_pos ⟨rfl, hl⟩]
    · rw [e, if_neg (by omega), if_neg (by omega), if_pos ⟨rfl, hl⟩]
    · rw [e, if_neg (by omega), if_pos ⟨rfl, hl⟩]
  · have hi2 : i < dU d := by omega
    rw [g3, g4, g5, if_neg hl, if_neg hl, if_neg hl]
    refine ⟨?_, ?_, ?_⟩
    · rw [e, if_neg (by omega), if_neg (by omega), if_neg (by omega), if_neg (by omega)]; exact hv.tm hi2
    · rw [e, if_neg (by omega), if_neg (by omega), if_neg (by omega), if_neg (by omega)]; exact hv.tu hi2
    · rw [e, if_neg (by omega), if_neg (by omega), if_neg (by omega), if_neg (by omega)]; exact hv.td hi2
theorem to_D {k : Nat} (hk : k < 12) : ∀ (r : Nat) (n : Int32) (μ : Wd) (d : FDt), r ≤ 8 → Wf μ → FV μ f p d → FV (toF f k r n μ) f p (toD k r n d) ∧ Out (sFl f) μ (toF f k r n μ) := by
  intro r
  induction r with
  | zero => intro n μ d _ hw hv; exact ⟨hv, Out.rfl' hw⟩
  | succ r ih =>
    intro n μ d hr hw hv
    have e := hv.un (show r < 8 by omega) hk
    unfold toF toD
    rw [e]
    have ho : Out (sFl f) μ (sI μ (f + 5 + r) k (dF d (7 + r) k - (if dF d (7 + r) k < n then dF d (7 + r) k else n))) := (Out.rfl' hw).sI (S := sFl f) ⟨by omega, by omega⟩ _ _
    obtain ⟨a1, a2⟩ := ih (n - (if dF d (7 + r) k < n then dF d (7 + r) k else n)) _ _ (by omega) ho.wf (hv.upU (show r < 8 by omega) hk _)
    exact ⟨a1, ho.trans a2⟩
theorem v_X1_takeOut (hw : Wf μ) (hv : FV μ f p d) (hq : PV μ p q) {k : Nat} (hk : k < 12) (n : Int32) : CV Y_X1_takeOut R_X1_takeOut [.ref f, .int (nI k), .int n] μ (fun r V => r = none ∧ FV V f p (toD k (pT q) n d) ∧ Out (sFl f) μ V) := by
  have h := to_D (f := f) (p := p) hk (pT q) n μ d hq.T4 hw hv
  exact ⟨none, _, t_X1_takeOut hw hv.fl hq.pl hv.rp hq.hT hq.T4 hk n, rfl, h.1, h.2⟩
end ACTD
