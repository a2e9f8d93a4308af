section FREEMEAL
variable {μ W V : Wd} {q : PDt} {d : FDt} {k : Nat} {fx : Nat → Option (Option Nat)} {g : Nat → Option Nat} {fr : Nat → Nat}
/-- what suits those with diets -/
def suS (q : PDt) (d : FDt) (p m : Nat) : Bool := bt (suM q d p) m
theorem su_fit (hM : pM q ≤ 12) {i m : Nat} (hi : ¬ dF d 1 i = 0) (hm : m < pM q) : fitD q (dF d 0 i) (dF d 1 i) m = true ↔ suS q d i m = true := by
  unfold suS suM
  rw [if_neg hi, suD, suD_bit q _ _ _ hM m (by omega)]
  simp [hm, fitD]
theorem su_sp {i m : Nat} (h : suS q d i m = true) : ¬ dF d 1 i = 0 := fun z => by
  unfold suS suM at h
  rw [if_pos z, b_0] at h
  cases h
/-- the rows of fixed, tried and left -/
def TrV (μ : Wd) (P M : Nat) (fx : Nat → Option (Option Nat)) (g : Nat → Option Nat) (fr : Nat → Nat) : Prop := (∀ p, p < P → gI μ 357 p = fI (fx p)) ∧ (∀ p, p < P → gI μ 358 p = tI (fx p) (g p)) ∧ ∀ m, m < M → gI μ 359 m = nI (fr m)
/-- what is fixed is a meal; what is skipped has none -/
def FxG (P M : Nat) (fx : Nat → Option (Option Nat)) (g : Nat → Option Nat) : Prop := (∀ p m, p < P → fx p = some (some m) → m < M) ∧ (∀ p m, p < P → g p = some m → m < M) ∧ ∀ p, p < P → fx p = some none → g p = none
abbrev sFq : Nat → Prop := fun i => i = 360 ∨ i = 361
def QW (W : Wd) (n : Nat) (qf : Nat → Nat) (fo : Nat → Option Nat) (b : Nat) : Prop := (∀ i, i < n → gI W 361 i = nI (qf i)) ∧ ∀ y, y < b → gI W 360 y = oI (fo y)
theorem MdV.fq (h : MdV μ q d) (ho : Out sFq μ W) : MdV W q d := h.out ho (fun z => by rcases z with z | z <;> omega) (fun z => by rcases z with z | z <;> omega)
theorem QB.cg {S : Nat → Nat → Bool} {P b n : Nat} {qf : Nat → Nat} {fo fo2 : Nat → Option Nat} (hq : QB S P k g fx b n qf fo) (e : ∀ y, y < b → fo2 y = fo y) : QB S P k g fx b n qf fo2 :=
  ⟨hq.1, hq.2.1, fun y hy => by rw [e y hy]; exact hq.2.2.1 y hy, fun i hi => by rw [e _ (hq.1 i hi)]; exact hq.2.2.2 i hi⟩
theorem QW.none {n b : Nat} {qf : Nat → Nat} {fo : Nat → Option Nat} (h : QW W n qf fo b) : QW (sI W 360 b (-1)) n qf (up1 fo b none) (b + 1) := by
  refine ⟨fun i hi => by rw [gI_sI, if_neg (by omega)]; exact h.1 i hi, fun y hy => ?_⟩
  rw [gI_sI]
  by_cases e : y = b
  · rw [if_pos ⟨rfl, e⟩, e, up1_eq]; rfl
  · rw [if_neg (fun z => e z.2), up1_ne e]; exact h.2 y (by omega)
theorem QW.push {n b y p : Nat} {qf : Nat → Nat} {fo : Nat → Option Nat} (h : QW W n qf fo b) : QW (sI (sI W 360 y (nI p)) 361 n (nI y)) (n + 1) (up1 qf n y) (up1 fo y (some p)) b := by
  refine ⟨fun i hi => ?_, fun x hx => ?_⟩
  · rw [gI_sI]
    by_cases e : i = n
    · rw [if_pos ⟨rfl, e⟩, e, up1_eq]
    · rw [if_neg (fun z => e z.2), up1_ne e, gI_sI, if_neg (by omega)]; exact h.1 i (by omega)
  · rw [gI_sI, if_neg (by omega), gI_sI]
    by_cases e : x = y
    · rw [if_pos ⟨rfl, e⟩, e, up1_eq]; rfl
    · rw [if_neg (fun z => e z.2), up1_ne e]; exact h.2 x hx
abbrev R_X11_freeMeal : Room := { frames := 3, cells := 0, slots := 0, locals := 67 }
abbrev RX_X11_freeMeal : Room := { frames := 3, cells := 1, slots := 6, locals := 67 }

theorem fm_A (hv0 : MdV μ q d) (hk : k < dP d) (hsp : ¬ dF d 1 k = 0) {Q : Oc → Wd → Prop} (kx : ∀ (W : Wd) (n : Nat) (qf : Nat → Nat) (fo : Nat → Option Nat), Out sFq μ W → QW W n qf fo (pM q) → QB (suS q d) (dP d) k g fx (pM q) n qf fo → (∀ m, m < pM q → suS q d k m = true → fo m ≠ none) → WP Y_X11_freeMeal R_X11_freeMeal (0, 0) W 52 [(0, .ref 338), (1, .int (nI k)), (2, .int (nI n)), (3, .int (nI (pM q)))] [] Q) : ∀ (dd m : Nat) (W : Wd) (n : Nat) (qf : Nat → Nat) (fo : Nat → Option Nat), m + dd = pM q → Out sFq μ W → QW W n qf fo m → QB (suS q d) (dP d) k g fx m n qf fo → (∀ y, y < m → suS q d k y = true → fo y ≠ none) → WP Y_X11_freeMeal R_X11_freeMeal (0, 0) W 4 [(0, .ref 338), (1, .int (nI k)), (2, .int (nI n)), (3, .int (nI m))] [] Q := by
  have hM4 := hv0.M4
  have hP4 := hv0.P4
  intro dd
  induction dd with
  | zero =>
    intro m W n qf fo hm hO hW hB hS
    obtain rfl : pM q = m := by omega
    have hw := hO.1
    have hv := hv0.fq hO
    refine lf (a_iload_n dX11_freeMeal_4 rfl) ?_
    refine lf (a_aload_n dX11_freeMeal_5 rfl) ?_
    refine lf (a_inv (b2 := (0, 0)) (m_meals hw hv) rfl dX11_freeMeal_6 yk_X11_meals im_X11_meals se_X11_meals ml_X11_300 rfl (co_338 hw) (by decide) hc_X11 (by decide) (by decide) (Nat.le_of_ble_eq_true rfl)) ?_
    refine lf2 (a_icmp_ge (tgt := 52) dX11_freeMeal_9 (by decide)) (fun h9 => ?_) (fun h9 => absurd h9 (fun z => z (nI_le (Nat.le_refl _) (by omega))))
    exact lf (a_loc _ rfl) (kx W n qf fo hO hW hB hS)
  | succ dd ih =>
    intro m W n qf fo hm hO hW hB hS
    have hw := hO.1
    have hv := hv0.fq hO
    have hmm : m < pM q := by omega
    have hn := hB.le
    have hO1 : Out sFq μ (sI W 360 m (-1)) := hO.sI (S := sFq) (Or.inl rfl) _ _
    have hv1 : MdV (sI W 360 m (-1)) q d := hv0.fq hO1
    have hW1 := hW.none
    have hB1 := (hB.cg (fo2 := up1 fo m none) (fun y hy => up1_ne (by omega))).wide (up1_eq _ _ _)
    refine lf (a_iload_n dX11_freeMeal_4 rfl) ?_
    refine lf (a_aload_n dX11_freeMeal_5 rfl) ?_
    refine lf (a_inv (b2 := (0, 0)) (m_meals (by repeat (first | with_reducible exact hw | with_reducible exact hwc | with_reducible assumption | with_reducible apply Wf.sI | with_reducible apply Wf.sL | with_reducible apply Wf.cpI | with_reducible apply Wf.cpL | with_reducible apply Wf.cp2 | with_reducible apply Wf.sIs | with_reducible apply Wf.sLs | with_reducible apply Wf.cpU | with_reducible apply Wf.fillI | with_reducible apply Wf.clU | with_reducible apply Wf.dnF | with_reducible apply Wf.gbW)) hv) rfl dX11_freeMeal_6 yk_X11_meals im_X11_meals se_X11_meals ml_X11_300 rfl (co_338 (by repeat (first | with_reducible exact hw | with_reducible exact hwc | with_reducible assumption | with_reducible apply Wf.sI | with_reducible apply Wf.sL | with_reducible apply Wf.cpI | with_reducible apply Wf.cpL | with_reducible apply Wf.cp2 | with_reducible apply Wf.sIs | with_reducible apply Wf.sLs | with_reducible apply Wf.cpU | with_reducible apply Wf.fillI | with_reducible apply Wf.clU | with_reducible apply Wf.dnF | with_reducible apply Wf.gbW))) (by decide) hc_X11 (by decide) (by decide) (Nat.le_of_ble_eq_true rfl)) ?_
    refine lf2 (a_icmp_ge (tgt := 52) dX11_freeMeal_9 (by decide)) (fun h9 => absurd h9 (nI_ge (show m < pM q by omega) (by omega))) (fun h9 => ?_)
    refine lf (a_aload_n dX11_freeMeal_12 rfl) ?_
    refine lf (a_getR (cr_338_35 (by repeat (first | with_reducible exact hw | with_reducible exact hwc | with_reducible assumption | with_reducible apply Wf.sI | with_reducible apply Wf.sL | with_reducible apply Wf.cpI | with_reducible apply Wf.cpL | with_reducible apply Wf.cp2 | with_reducible apply Wf.sIs | with_reducible apply Wf.sLs | with_reducible apply Wf.cpU | with_reducible apply Wf.fillI | with_reducible apply Wf.clU | with_reducible apply Wf.dnF | with_reducible apply Wf.gbW))) dX11_freeMeal_13 fs_X11_79 rfl (co_338 (by repeat (first | with_reducible exact hw | with_reducible exact hwc | with_reducible assumption | with_reducible apply Wf.sI | with_reducible apply Wf.sL | with_reducible apply Wf.cpI | with_reducible apply Wf.cpL | with_reducible apply Wf.cp2 | with_reducible apply Wf.sIs | with_reducible apply Wf.sLs | with_reducible apply Wf.cpU | with_reducible apply Wf.fillI | with_reducible apply Wf.clU | with_reducible apply Wf.dnF | with_reducible apply Wf.gbW)))) ?_
    refine lf (a_iload_n dX11_freeMeal_16 rfl) ?_
    refine lf (a_iconst (-1 : Int32) dX11_freeMeal_17 (by decide)) ?_
    refine lf (a_ist dX11_freeMeal_18 (ca_360 (by repeat (first | with_reducible exact hw | with_reducible exact hwc | with_reducible assumption | with_reducible apply Wf.sI | with_reducible apply Wf.sL | with_reducible apply Wf.cpI | with_reducible apply Wf.cpL | with_reducible apply Wf.cp2 | with_reducible apply Wf.sIs | with_reducible apply Wf.sLs | with_reducible apply Wf.cpU | with_reducible apply Wf.fillI | with_reducible apply Wf.clU | with_reducible apply Wf.dnF | with_reducible apply Wf.gbW))) (ixn (show m < 12 by omega) (by decide))) ?_
    refine lf (a_aload_n dX11_freeMeal_19 rfl) ?_
    refine lf (a_iload_n dX11_freeMeal_20 rfl) ?_
    refine lf (a_iload_n dX11_freeMeal_21 rfl) ?_
    refine lf (a_inv (b2 := (0, 0)) (m_suits (by repeat (first | with_reducible exact hw | with_reducible exact hwc | with_reducible assumption | with_reducible apply Wf.sI | with_reducible apply Wf.sL | with_reducible apply Wf.cpI | with_reducible apply Wf.cpL | with_reducible apply Wf.cp2 | with_reducible apply Wf.sIs | with_reducible apply Wf.sLs | with_reducible apply Wf.cpU | with_reducible apply Wf.fillI | with_reducible apply Wf.clU | with_reducible apply Wf.dnF | with_reducible apply Wf.gbW)) hv1 hmm hk) rfl dX11_freeMeal_22 yk_X11_suits im_X11_suits se_X11_suits ml_X11_303 rfl (co_338 (by repeat (first | with_reducible exact hw | with_reducible exact hwc | with_reducible assumption | with_reducible apply Wf.sI | with_reducible apply Wf.sL | with_reducible apply Wf.cpI | with_reducible apply Wf.cpL | with_reducible apply Wf.cp2 | with_reducible apply Wf.sIs | with_reducible apply Wf.sLs | with_reducible apply Wf.cpU | with_reducible apply Wf.fillI | with_reducible apply Wf.clU | with_reducible apply Wf.dnF | with_reducible apply Wf.gbW))) (by decide) hc_X11 (by decide) (by decide) (Nat.le_of_ble_eq_true rfl)) ?_
    refine lf2 (a_if_eq (tgt := 46) dX11_freeMeal_25 (by decide)) (fun h25 => ?_) (fun h25 => ?_)
    · have h25 := b01t.mp h25
      refine lf (a_iincN dX11_freeMeal_46 rfl (by decide)) ?_
      refine lf (a_goto (tgt := 4) dX11_freeMeal_49 (by decide)) ?_
      refine lf (a_loc [(0, .ref 338), (1, .int (nI k)), (2, .int (nI n)), (3, .int (nI (m + 1)))] rfl) (ih (m + 1) _ n qf (up1 fo m none) (by omega) hO1 hW1 hB1 (fun y hy hs => ?_))
      by_cases e : y = m
      · rw [e] at hs; exact absurd ((su_fit hM4 hsp hmm).mpr hs) h25
      · rw [up1_ne e]; exact hS y (by omega) hs
    · have h25 := b01f.mp h25
      refine lf (a_aload_n dX11_freeMeal_28 rfl) ?_
      refine lf (a_getR (cr_338_35 (by repeat (first | with_reducible exact hw | with_reducible exact hwc | with_reducible assumption | with_reducible apply Wf.sI | with_reducible apply Wf.sL | with_reducible apply Wf.cpI | with_reducible apply Wf.cpL | with_reducible apply Wf.cp2 | with_reducible apply Wf.sIs | with_reducible apply Wf.sLs | with_reducible apply Wf.cpU | with_reducible apply Wf.fillI | with_reducible apply Wf.clU | with_reducible apply Wf.dnF | with_reducible apply Wf.gbW))) dX11_freeMeal_29 fs_X11_79 rfl (co_338 (by repeat (first | with_reducible exact hw | with_reducible exact hwc | with_reducible assumption | with_reducible apply Wf.sI | with_reducible apply Wf.sL | with_reducible apply Wf.cpI | with_reducible apply Wf.cpL | with_reducible apply Wf.cp2 | with_reducible apply Wf.sIs | with_reducible apply Wf.sLs | with_reducible apply Wf.cpU | with_reducible apply Wf.fillI | with_reducible apply Wf.clU | with_reducible apply Wf.dnF | with_reducible apply Wf.gbW)))) ?_
      refine lf (a_iload_n dX11_freeMeal_32 rfl) ?_
      refine lf (a_iload_n dX11_freeMeal_33 rfl) ?_
      refine lf (a_ist dX11_freeMeal_34 (ca_360 (by repeat (first | with_reducible exact hw | with_reducible exact hwc | with_reducible assumption | with_reducible apply Wf.sI | with_reducible apply Wf.sL | with_reducible apply Wf.cpI | with_reducible apply Wf.cpL | with_reducible apply Wf.cp2 | with_reducible apply Wf.sIs | with_reducible apply Wf.sLs | with_reducible apply Wf.cpU | with_reducible apply Wf.fillI | with_reducible apply Wf.clU | with_reducible apply Wf.dnF | with_reducible apply Wf.gbW))) (ixn (show m < 12 by omega) (by decide))) ?_
      refine lf (a_aload_n dX11_freeMeal_35 rfl) ?_
      refine lf (a_getR (cr_338_36 (by repeat (first | with_reducible exact hw | with_reducible exact hwc | with_reducible assumption | with_reducible apply Wf.sI | with_reducible apply Wf.sL | with_reducible apply Wf.cpI | with_reducible apply Wf.cpL | with_reducible apply Wf.cp2 | with_reducible apply Wf.sIs | with_reducible apply Wf.sLs | with_reducible apply Wf.cpU | with_reducible apply Wf.fillI | with_reducible apply Wf.clU | with_reducible apply Wf.dnF | with_reducible apply Wf.gbW))) dX11_freeMeal_36 fs_X11_82 rfl (co_338 (by repeat (first | with_reducible exact hw | with_reducible exact hwc | with_reducible assumption | with_reducible apply Wf.sI | with_reducible apply Wf.sL | with_reducible apply Wf.cpI | with_reducible apply Wf.cpL | with_reducible apply Wf.cp2 | with_reducible apply Wf.sIs | with_reducible apply Wf.sLs | with_reducible apply Wf.cpU | with_reducible apply Wf.fillI | with_reducible apply Wf.clU | with_reducible apply Wf.dnF | with_reducible apply Wf.gbW)))) ?_
      refine lf (a_iload_n dX11_freeMeal_39 rfl) ?_
      refine lf (a_iload_n dX11_freeMeal_40 rfl) ?_
      refine lf (a_ist dX11_freeMeal_41 (ca_361 (by repeat (first | with_reducible exact hw | with_reducible exact hwc | with_reducible assumption | with_reducible apply Wf.sI | with_reducible apply Wf.sL | with_reducible apply Wf.cpI | with_reducible apply Wf.cpL | with_reducible apply Wf.cp2 | with_reducible apply Wf.sIs | with_reducible apply Wf.sLs | with_reducible apply Wf.cpU | with_reducible apply Wf.fillI | with_reducible apply Wf.clU | with_reducible apply Wf.dnF | with_reducible apply Wf.gbW))) (ixn (show n < 12 by omega) (by decide))) ?_
      refine lf (a_iload_n dX11_freeMeal_42 rfl) ?_
      refine lf (a_iconst (1 : Int32) dX11_freeMeal_43 (by decide)) ?_
      refine lf (a_iadd dX11_freeMeal_44) ?_
      rw [nI_1]
      refine lf (a_istore_n dX11_freeMeal_45 (by decide)) ?_
      refine lf (a_iincN dX11_freeMeal_46 rfl (by decide)) ?_
      refine lf (a_goto (tgt := 4) dX11_freeMeal_49 (by decide)) ?_
      refine lf (a_loc [(0, .ref 338), (1, .int (nI k)), (2, .int (nI (n + 1))), (3, .int (nI (m + 1)))] rfl) (ih (m + 1) _ (n + 1) (up1 qf n m) (up1 (up1 fo m none) m (some k)) (by omega) ((hO1.sI (S := sFq) (Or.inl rfl) _ _).sI (S := sFq) (Or.inr rfl) _ _) hW1.push (hB1.push (Nat.lt_succ_self m) (up1_eq _ _ _) hk ((su_fit hM4 hsp hmm).mp h25) (Or.inl rfl)) (fun y hy hs => ?_))
      by_cases e : y = m
      · rw [e, up1_eq]; exact fun z => nomatch z
      · rw [up1_ne e, up1_ne e]; exact hS y (by omega) hs
theorem fm_D (hv0 : MdV μ q d) (hk : k < dP d) (hsp : ¬ dF d 1 k = 0) {e at_ : Nat} (he : e < dP d) (hfe : fx e = none) (hse : ¬ dF d 1 e = 0) {n0 qa : Nat} {qf0 : Nat → Nat} {fo0 : Nat → Option Nat} (hge : g e = some qa) {Q : Oc → Wd → Prop} (kx : ∀ (W : Wd) (n : Nat) (qf : Nat → Nat) (fo : Nat → Option Nat), Out sFq μ W → QW W n qf fo (pM q) → QB (suS q d) (dP d) k g fx (pM q) n qf fo → Gr n0 qf0 fo0 n qf fo → (∀ m, m < pM q → suS q d e m = true → fo m ≠ none) → WP Y_X11_freeMeal R_X11_freeMeal (0, 0) W 194 [(0, .ref 338), (1, .int (nI k)), (2, .int (nI n)), (3, .int (nI at_)), (4, .int (nI e))] [] Q) : ∀ (dd y : Nat) (W : Wd) (n : Nat) (qf : Nat → Nat) (fo : Nat → Option Nat), y + dd = pM q → Out sFq μ W → QW W n qf fo (pM q) → QB (suS q d) (dP d) k g fx (pM q) n qf fo → Gr n0 qf0 fo0 n qf fo → (∃ j, j < n ∧ qf j = qa) → (∀ m, m < y → suS q d e m = true → fo m ≠ none) → WP Y_X11_freeMeal R_X11_freeMeal (0, 0) W 131 [(0, .ref 338), (1, .int (nI k)), (2, .int (nI n)), (3, .int (nI at_)), (4, .int (nI e)), (5, .int 1), (6, .int (nI y))] [] Q := by
  have hM4 := hv0.M4
  have hP4 := hv0.P4
  intro dd
  induction dd with
  | zero =>
    intro y W n qf fo hm hO hW hB hR hj hS
    obtain rfl : pM q = y := by omega
    have hw := hO.1
    have hv := hv0.fq hO
    refine lf (a_iload dX11_freeMeal_131 rfl) ?_
    refine lf (a_aload_n dX11_freeMeal_133 rfl) ?_
    refine lf (a_inv (b2 := (0, 0)) (m_meals hw hv) rfl dX11_freeMeal_134 yk_X11_meals im_X11_meals se_X11_meals ml_X11_300 rfl (co_338 hw) (by decide) hc_X11 (by decide) (by decide) (Nat.le_of_ble_eq_true rfl)) ?_
    refine lf2 (a_icmp_ge (tgt := 194) dX11_freeMeal_137 (by decide)) (fun h137 => ?_) (fun h137 => absurd h137 (fun z => z (nI_le (Nat.le_refl _) (by omega))))
    exact lf (a_loc _ rfl) (kx W n qf fo hO hW hB hR hS)
  | succ dd ih =>
    intro y W n qf fo hm hO hW hB hR hj hS
    have hw := hO.1
    have hv := hv0.fq hO
    have hyy : y < pM q := by omega
    cases hfy : fo y with
    | some p =>
      have hp : p < dP d := by
        obtain ⟨i, hi, e1⟩ := (hB.2.2.1 y hyy).mp (by rw [hfy]; exact fun z => nomatch z)
        obtain ⟨p2, h1, h2, _⟩ := hB.2.2.2 i hi
        rw [e1, hfy] at h1
        injection h1 with h1
        omega
      refine lf (a_iload dX11_freeMeal_131 rfl) ?_
      refine lf (a_aload_n dX11_freeMeal_133 rfl) ?_
      refine lf (a_inv (b2 := (0, 0)) (m_meals hw hv) rfl dX11_freeMeal_134 yk_X11_meals im_X11_meals se_X11_meals ml_X11_300 rfl (co_338 hw) (by decide) hc_X11 (by decide) (by decide) (Nat.le_of_ble_eq_true rfl)) ?_
      refine lf2 (a_icmp_ge (tgt := 194) dX11_freeMeal_137 (by decide)) (fun h137 => absurd h137 (nI_ge hyy (by omega))) (fun h137 => ?_)
      refine lf (a_iload dX11_freeMeal_140 rfl) ?_
      refine lf2 (a_if_eq (tgt := 194) dX11_freeMeal_142 (by decide)) (fun h142 => absurd h142 (by decide)) (fun h142 => ?_)
      refine lf (a_aload_n dX11_freeMeal_145 rfl) ?_
      refine lf (a_getR (cr_338_35 hw) dX11_freeMeal_146 fs_X11_79 rfl (co_338 hw)) ?_
      refine lf (a_iload dX11_freeMeal_149 rfl) ?_
      refine lf (a_ild dX11_freeMeal_151 (ca_360 hw) (ixn (show y < 12 by omega) (by decide))) ?_
      rw [hW.2 y hyy, hfy]
      refine lf (a_iconst (-1 : Int32) dX11_freeMeal_152 (by decide)) ?_
      refine lfn (a_icmp_ne (tgt := 188) dX11_freeMeal_153 (by decide)) (fun h153 => ?_) (fun h153 => absurd h153 (nI_ne1 (n := p) (by omega)))
      refine lf (a_iincN dX11_freeMeal_188 rfl (by decide)) ?_
      refine lf (a_goto (tgt := 131) dX11_freeMeal_191 (by decide)) ?_
      refine lf (a_loc [(0, .ref 338), (1, .int (nI k)), (2, .int (nI n)), (3, .int (nI at_)), (4, .int (nI e)), (5, .int 1), (6, .int (nI (y + 1)))] rfl) (ih (y + 1) W n qf fo (by omega) hO hW hB hR hj (fun m hm2 hs => ?_))
      by_cases e1 : m = y
      · rw [e1, hfy]; exact fun z => nomatch z
      · exact hS m (by omega) hs
    | none =>
      have hn12 := hB.le
      have hnlt : n < pM q := by
        refine Classical.byContradiction fun z => ?_
        have e1 : n = pM q := by omega
        obtain ⟨i, hi, e2⟩ := fb_onto (n := n) (f := qf) (fun i hi => by rw [e1]; exact hB.1 i hi) hB.2.1 (y := y) (by omega)
        exact (hB.2.2.1 y hyy).mpr ⟨i, hi, e2⟩ hfy
      refine lf (a_iload dX11_freeMeal_131 rfl) ?_
      refine lf (a_aload_n dX11_freeMeal_133 rfl) ?_
      refine lf (a_inv (b2 := (0, 0)) (m_meals (by repeat (first | with_reducible exact hw | with_reducible exact hwc | with_reducible assumption | with_reducible apply Wf.sI | with_reducible apply Wf.sL | with_reducible apply Wf.cpI | with_reducible apply Wf.cpL | with_reducible apply Wf.cp2 | with_reducible apply Wf.sIs | with_reducible apply Wf.sLs | with_reducible apply Wf.cpU | with_reducible apply Wf.fillI | with_reducible apply Wf.clU | with_reducible apply Wf.dnF | with_reducible apply Wf.gbW)) hv) rfl dX11_freeMeal_134 yk_X11_meals im_X11_meals se_X11_meals ml_X11_300 rfl (co_338 (by repeat (first | with_reducible exact hw | with_reducible exact hwc | with_reducible assumption | with_reducible apply Wf.sI | with_reducible apply Wf.sL | with_reducible apply Wf.cpI | with_reducible apply Wf.cpL | with_reducible apply Wf.cp2 | with_reducible apply Wf.sIs | with_reducible apply Wf.sLs | with_reducible apply Wf.cpU | with_reducible apply Wf.fillI | with_reducible apply Wf.clU | with_reducible apply Wf.dnF | with_reducible apply Wf.gbW))) (by decide) hc_X11 (by decide) (by decide) (Nat.le_of_ble_eq_true rfl)) ?_
      refine lf2 (a_icmp_ge (tgt := 194) dX11_freeMeal_137 (by decide)) (fun h137 => absurd h137 (nI_ge hyy (by omega))) (fun h137 => ?_)
      refine lf (a_iload dX11_freeMeal_140 rfl) ?_
      refine lf2 (a_if_eq (tgt := 194) dX11_freeMeal_142 (by decide)) (fun h142 => absurd h142 (by decide)) (fun h142 => ?_)
      refine lf (a_aload_n dX11_freeMeal_145 rfl) ?_
      refine lf (a_getR (cr_338_35 (by repeat (first | with_reducible exact hw | with_reducible exact hwc | with_reducible assumption | with_reducible apply Wf.sI | with_reducible apply Wf.sL | with_reducible apply Wf.cpI | with_reducible apply Wf.cpL | with_reducible apply Wf.cp2 | with_reducible apply Wf.sIs | with_reducible apply Wf.sLs | with_reducible apply Wf.cpU | with_reducible apply Wf.fillI | with_reducible apply Wf.clU | with_reducible apply Wf.dnF | with_reducible apply Wf.gbW))) dX11_freeMeal_146 fs_X11_79 rfl (co_338 (by repeat (first | with_reducible exact hw | with_reducible exact hwc | with_reducible assumption | with_reducible apply Wf.sI | with_reducible apply Wf.sL | with_reducible apply Wf.cpI | with_reducible apply Wf.cpL | with_reducible apply Wf.cp2 | with_reducible apply Wf.sIs | with_reducible apply Wf.sLs | with_reducible apply Wf.cpU | with_reducible apply Wf.fillI | with_reducible apply Wf.clU | with_reducible apply Wf.dnF | with_reducible apply Wf.gbW)))) ?_
      refine lf (a_iload dX11_freeMeal_149 rfl) ?_
      refine lf (a_ild dX11_freeMeal_151 (ca_360 (by repeat (first | with_reducible exact hw | with_reducible exact hwc | with_reducible assumption | with_reducible apply Wf.sI | with_reducible apply Wf.sL | with_reducible apply Wf.cpI | with_reducible apply Wf.cpL | with_reducible apply Wf.cp2 | with_reducible apply Wf.sIs | with_reducible apply Wf.sLs | with_reducible apply Wf.cpU | with_reducible apply Wf.fillI | with_reducible apply Wf.clU | with_reducible apply Wf.dnF | with_reducible apply Wf.gbW))) (ixn (show y < 12 by omega) (by decide))) ?_
      rw [hW.2 y hyy, hfy]
      refine lf (a_iconst (-1 : Int32) dX11_freeMeal_152 (by decide)) ?_
      refine lfn (a_icmp_ne (tgt := 188) dX11_freeMeal_153 (by decide)) (fun h153 => absurd h153 (fun z => z rfl)) (fun h153 => ?_)
      refine lf (a_aload_n dX11_freeMeal_156 rfl) ?_
      refine lf (a_iload dX11_freeMeal_157 rfl) ?_
      refine lf (a_iload dX11_freeMeal_159 rfl) ?_
      refine lf (a_inv (b2 := (0, 0)) (m_suits (by repeat (first | with_reducible exact hw | with_reducible exact hwc | with_reducible assumption | with_reducible apply Wf.sI | with_reducible apply Wf.sL | with_reducible apply Wf.cpI | with_reducible apply Wf.cpL | with_reducible apply Wf.cp2 | with_reducible apply Wf.sIs | with_reducible apply Wf.sLs | with_reducible apply Wf.cpU | with_reducible apply Wf.fillI | with_reducible apply Wf.clU | with_reducible apply Wf.dnF | with_reducible apply Wf.gbW)) hv hyy he) rfl dX11_freeMeal_161 yk_X11_suits im_X11_suits se_X11_suits ml_X11_303 rfl (co_338 (by repeat (first | with_reducible exact hw | with_reducible exact hwc | with_reducible assumption | with_reducible apply Wf.sI | with_reducible apply Wf.sL | with_reducible apply Wf.cpI | with_reducible apply Wf.cpL | with_reducible apply Wf.cp2 | with_reducible apply Wf.sIs | with_reducible apply Wf.sLs | with_reducible apply Wf.cpU | with_reducible apply Wf.fillI | with_reducible apply Wf.clU | with_reducible apply Wf.dnF | with_reducible apply Wf.gbW))) (by decide) hc_X11 (by decide) (by decide) (Nat.le_of_ble_eq_true rfl)) ?_
      refine lf2 (a_if_eq (tgt := 188) dX11_freeMeal_164 (by decide)) (fun h164 => ?_) (fun h164 => ?_)
      · have h164 := b01t.mp h164
        refine lf (a_iincN dX11_freeMeal_188 rfl (by decide)) ?_
        refine lf (a_goto (tgt := 131) dX11_freeMeal_191 (by decide)) ?_
        refine lf (a_loc [(0, .ref 338), (1, .int (nI k)), (2, .int (nI n)), (3, .int (nI at_)), (4, .int (nI e)), (5, .int 1), (6, .int (nI (y + 1)))] rfl) (ih (y + 1) W n qf fo (by omega) hO hW hB hR hj (fun m hm2 hs => ?_))
        by_cases e1 : m = y
        · rw [e1] at hs; exact absurd ((su_fit hM4 hse hyy).mpr hs) h164
        · exact hS m (by omega) hs
      · have h164 := b01f.mp h164
        refine lf (a_aload_n dX11_freeMeal_167 rfl) ?_
        refine lf (a_getR (cr_338_35 (by repeat (first | with_reducible exact hw | with_reducible exact hwc | with_reducible assumption | with_reducible apply Wf.sI | with_reducible apply Wf.sL | with_reducible apply Wf.cpI | with_reducible apply Wf.cpL | with_reducible apply Wf.cp2 | with_reducible apply Wf.sIs | with_reducible apply Wf.sLs | with_reducible apply Wf.cpU | with_reducible apply Wf.fillI | with_reducible apply Wf.clU | with_reducible apply Wf.dnF | with_reducible apply Wf.gbW))) dX11_freeMeal_168 fs_X11_79 rfl (co_338 (by repeat (first | with_reducible exact hw | with_reducible exact hwc | with_reducible assumption | with_reducible apply Wf.sI | with_reducible apply Wf.sL | with_reducible apply Wf.cpI | with_reducible apply Wf.cpL | with_reducible apply Wf.cp2 | with_reducible apply Wf.sIs | with_reducible apply Wf.sLs | with_reducible apply Wf.cpU | with_reducible apply Wf.fillI | with_reducible apply Wf.clU | with_reducible apply Wf.dnF | with_reducible apply Wf.gbW)))) ?_
        refine lf (a_iload dX11_freeMeal_171 rfl) ?_
        refine lf (a_iload dX11_freeMeal_173 rfl) ?_
        refine lf (a_ist dX11_freeMeal_175 (ca_360 (by repeat (first | with_reducible exact hw | with_reducible exact hwc | with_reducible assumption | with_reducible apply Wf.sI | with_reducible apply Wf.sL | with_reducible apply Wf.cpI | with_reducible apply Wf.cpL | with_reducible apply Wf.cp2 | with_reducible apply Wf.sIs | with_reducible apply Wf.sLs | with_reducible apply Wf.cpU | with_reducible apply Wf.fillI | with_reducible apply Wf.clU | with_reducible apply Wf.dnF | with_reducible apply Wf.gbW))) (ixn (show y < 12 by omega) (by decide))) ?_
        refine lf (a_aload_n dX11_freeMeal_176 rfl) ?_
        refine lf (a_getR (cr_338_36 (by repeat (first | with_reducible exact hw | with_reducible exact hwc | with_reducible assumption | with_reducible apply Wf.sI | with_reducible apply Wf.sL | with_reducible apply Wf.cpI | with_reducible apply Wf.cpL | with_reducible apply Wf.cp2 | with_reducible apply Wf.sIs | with_reducible apply Wf.sLs | with_reducible apply Wf.cpU | with_reducible apply Wf.fillI | with_reducible apply Wf.clU | with_reducible apply Wf.dnF | with_reducible apply Wf.gbW))) dX11_freeMeal_177 fs_X11_82 rfl (co_338 (by repeat (first | with_reducible exact hw | with_reducible exact hwc | with_reducible assumption | with_reducible apply Wf.sI | with_reducible apply Wf.sL | with_reducible apply Wf.cpI | with_reducible apply Wf.cpL | with_reducible apply Wf.cp2 | with_reducible apply Wf.sIs | with_reducible apply Wf.sLs | with_reducible apply Wf.cpU | with_reducible apply Wf.fillI | with_reducible apply Wf.clU | with_reducible apply Wf.dnF | with_reducible apply Wf.gbW)))) ?_
        refine lf (a_iload_n dX11_freeMeal_180 rfl) ?_
        refine lf (a_iload dX11_freeMeal_181 rfl) ?_
        refine lf (a_ist dX11_freeMeal_183 (ca_361 (by repeat (first | with_reducible exact hw | with_reducible exact hwc | with_reducible assumption | with_reducible apply Wf.sI | with_reducible apply Wf.sL | with_reducible apply Wf.cpI | with_reducible apply Wf.cpL | with_reducible apply Wf.cp2 | with_reducible apply Wf.sIs | with_reducible apply Wf.sLs | with_reducible apply Wf.cpU | with_reducible apply Wf.fillI | with_reducible apply Wf.clU | with_reducible apply Wf.dnF | with_reducible apply Wf.gbW))) (ixn (show n < 12 by omega) (by decide))) ?_
        refine lf (a_iload_n dX11_freeMeal_184 rfl) ?_
        refine lf (a_iconst (1 : Int32) dX11_freeMeal_185 (by decide)) ?_
        refine lf (a_iadd dX11_freeMeal_186) ?_
        rw [nI_1]
        refine lf (a_istore_n dX11_freeMeal_187 (by decide)) ?_
        refine lf (a_iincN dX11_freeMeal_188 rfl (by decide)) ?_
        refine lf (a_goto (tgt := 131) dX11_freeMeal_191 (by decide)) ?_
        refine lf (a_loc [(0, .ref 338), (1, .int (nI k)), (2, .int (nI (n + 1))), (3, .int (nI at_)), (4, .int (nI e)), (5, .int 1), (6, .int (nI (y + 1)))] rfl) (ih (y + 1) _ (n + 1) (up1 qf n y) (up1 fo y (some e)) (by omega) ((hO.sI (S := sFq) (Or.inl rfl) _ _).sI (S := sFq) (Or.inr rfl) _ _) hW.push (hB.push hyy hfy he ((su_fit hM4 hse hyy).mp h164) (Or.inr ⟨hfe, ?_⟩)) (hR.trans Gr.push) ?_ (fun m hm2 hs => ?_))
        · obtain ⟨j, hj1, hj2⟩ := hj
          exact ⟨j, hj1, by rw [hj2]; exact hge⟩
        · obtain ⟨j, hj1, hj2⟩ := hj
          exact ⟨j, by omega, by rw [up1_ne (by omega)]; exact hj2⟩
        · by_cases e1 : m = y
          · rw [e1, up1_eq]; exact fun z => nomatch z
          · rw [up1_ne e1]; exact hS m (by omega) hs
theorem fm_C (hv0 : MdV μ q d) (hk : k < dP d) (hsp : ¬ dF d 1 k = 0) (hT : TrV μ (dP d) (pM q) fx g fr) (hG : FxG (dP d) (pM q) fx g) (hgs : ∀ p m, p < dP d → g p = some m → suS q d p m = true) {at_ : Nat} {n0 qa : Nat} {qf0 : Nat → Nat} {fo0 : Nat → Option Nat} (ha : at_ < n0) (hqa : qf0 at_ = qa) (hqm : qa < pM q) {Q : Oc → Wd → Prop} (kx : ∀ (W : Wd) (n : Nat) (qf : Nat → Nat) (fo : Nat → Option Nat), Out sFq μ W → QW W n qf fo (pM q) → QB (suS q d) (dP d) k g fx (pM q) n qf fo → Gr n0 qf0 fo0 n qf fo → (∀ p, p < dP d → fx p = none → g p = some qa → ∀ m, m < pM q → suS q d p m = true → fo m ≠ none) → WP Y_X11_freeMeal R_X11_freeMeal (0, 0) W 200 [(0, .ref 338), (1, .int (nI k)), (2, .int (nI n)), (3, .int (nI at_))] [] Q) : ∀ (dd e : Nat) (W : Wd) (n : Nat) (qf : Nat → Nat) (fo : Nat → Option Nat), e + dd = dP d → Out sFq μ W → QW W n qf fo (pM q) → QB (suS q d) (dP d) k g fx (pM q) n qf fo → Gr n0 qf0 fo0 n qf fo → (∀ p, p < e → fx p = none → g p = some qa → ∀ m, m < pM q → suS q d p m = true → fo m ≠ none) → WP Y_X11_freeMeal R_X11_freeMeal (0, 0) W 83 [(0, .ref 338), (1, .int (nI k)), (2, .int (nI n)), (3, .int (nI at_)), (4, .int (nI e))] [] Q := by
  have hM4 := hv0.M4
  have hP4 := hv0.P4
  intro dd
  induction dd with
  | zero =>
    intro e W n qf fo hm hO hW hB hR hS
    obtain rfl : dP d = e := by omega
    have hw := hO.1
    have hv := hv0.fq hO
    refine lf (a_iload dX11_freeMeal_83 rfl) ?_
    refine lf (a_aload_n dX11_freeMeal_85 rfl) ?_
    refine lf (a_getR (cr_338_6 hw) dX11_freeMeal_86 fs_X11_26 rfl (co_338 hw)) ?_
    refine lf (a_iconst (3 : Int32) dX11_freeMeal_89 (by decide)) ?_
    refine lf (a_ild dX11_freeMeal_90 (ca_344 hw) (ixn (m := 3) (by omega) (by decide))) ?_
    rw [hv.s3]
    refine lf2 (a_icmp_ge (tgt := 200) dX11_freeMeal_91 (by decide)) (fun h91 => ?_) (fun h91 => absurd h91 (fun z => z (nI_le (Nat.le_refl _) (by omega))))
    exact lf (a_loc _ rfl) (kx W n qf fo hO hW hB hR hS)
  | succ dd ih =>
    intro e W n qf fo hm hO hW hB hR hS
    have hw := hO.1
    have hv := hv0.fq hO
    have hee : e < dP d := by omega
    have han : at_ < n := Nat.lt_of_lt_of_le ha hR.1
    have hqe : qf at_ = qa := (hR.2.1 at_ ha).trans hqa
    have hn12 := hB.le
    have t8 : gI W 358 e = tI (fx e) (g e) := (hO.i (fun z => by rcases z with z | z <;> omega) e).trans (hT.2.1 e hee)
    have t7 : gI W 357 e = fI (fx e) := (hO.i (fun z => by rcases z with z | z <;> omega) e).trans (hT.1 e hee)
    have t1 : gI W 361 at_ = nI qa := (hW.1 at_ han).trans (by rw [hqe])
    have ht := tI_eq (x := fx e) (y := g e) (m := qa) (by omega) (fun m z => by have := hG.2.1 e m hee z; omega) (hG.2.2 e hee)
    have hfn := fI_none (x := fx e) (fun m z => by have := hG.1 e m hee z; omega)
    refine lf (a_iload dX11_freeMeal_83 rfl) ?_
    refine lf (a_aload_n dX11_freeMeal_85 rfl) ?_
    refine lf (a_getR (cr_338_6 hw) dX11_freeMeal_86 fs_X11_26 rfl (co_338 hw)) ?_
    refine lf (a_iconst (3 : Int32) dX11_freeMeal_89 (by decide)) ?_
    refine lf (a_ild dX11_freeMeal_90 (ca_344 hw) (ixn (m := 3) (by omega) (by decide))) ?_
    rw [hv.s3]
    refine lf2 (a_icmp_ge (tgt := 200) dX11_freeMeal_91 (by decide)) (fun h91 => absurd h91 (nI_ge hee (by omega))) (fun h91 => ?_)
    refine lf (a_aload_n dX11_freeMeal_94 rfl) ?_
    refine lf (a_getR (cr_338_33 hw) dX11_freeMeal_95 fs_X11_73 rfl (co_338 hw)) ?_
    refine lf (a_iload dX11_freeMeal_98 rfl) ?_
    refine lf (a_ild dX11_freeMeal_100 (ca_358 hw) (ixn (show e < 40 by omega) (by decide))) ?_
    rw [t8]
    refine lf (a_aload_n dX11_freeMeal_101 rfl) ?_
    refine lf (a_getR (cr_338_36 hw) dX11_freeMeal_102 fs_X11_82 rfl (co_338 hw)) ?_
    refine lf (a_iload_n dX11_freeMeal_105 rfl) ?_
    refine lf (a_ild dX11_freeMeal_106 (ca_361 hw) (ixn (show at_ < 12 by omega) (by decide))) ?_
    rw [t1]
    refine lfn (a_icmp_ne (tgt := 125) dX11_freeMeal_107 (by decide)) (fun h107 => ?_) (fun h107 => ?_)
    · refine lf (a_iconst (0 : Int32) dX11_freeMeal_125 (by decide)) ?_
      refine lf (a_istore dX11_freeMeal_126 (by decide)) ?_
      refine lf (a_iconst (0 : Int32) dX11_freeMeal_128 (by decide)) ?_
      refine lf (a_istore dX11_freeMeal_129 (by decide)) ?_
      refine lf (a_iload dX11_freeMeal_131 rfl) ?_
      refine lf (a_aload_n dX11_freeMeal_133 rfl) ?_
      refine lf (a_inv (b2 := (0, 0)) (m_meals hw hv) rfl dX11_freeMeal_134 yk_X11_meals im_X11_meals se_X11_meals ml_X11_300 rfl (co_338 hw) (by decide) hc_X11 (by decide) (by decide) (Nat.le_of_ble_eq_true rfl)) ?_
      refine lf2 (a_icmp_ge (tgt := 194) dX11_freeMeal_137 (by decide)) (fun h137 => absurd h137 (nI_ge (a := 0) (b := pM q) (by omega) (by omega))) (fun h137 => ?_)
      refine lf (a_iload dX11_freeMeal_140 rfl) ?_
      refine lf2 (a_if_eq (tgt := 194) dX11_freeMeal_142 (by decide)) (fun h142 => ?_) (fun h142 => absurd h142 (by decide))
      refine lf (a_iincN dX11_freeMeal_194 rfl (by decide)) ?_
      refine lf (a_goto (tgt := 83) dX11_freeMeal_197 (by decide)) ?_
      refine lf (a_loc [(0, .ref 338), (1, .int (nI k)), (2, .int (nI n)), (3, .int (nI at_)), (4, .int (nI (e + 1)))] rfl) (ih (e + 1) W n qf fo (by omega) hO hW hB hR (fun p hp hf hg m hm2 hs => ?_))
      by_cases e1 : p = e
      · rw [e1] at hg hf
        first
        | exact absurd (ht.mpr hg) h107
        | exact absurd (hfn.mpr hf) h118
      · exact hS p (by omega) hf hg m hm2 hs
    · refine lf (a_aload_n dX11_freeMeal_110 rfl) ?_
      refine lf (a_getR (cr_338_32 hw) dX11_freeMeal_111 fs_X11_70 rfl (co_338 hw)) ?_
      refine lf (a_iload dX11_freeMeal_114 rfl) ?_
      refine lf (a_ild dX11_freeMeal_116 (ca_357 hw) (ixn (show e < 40 by omega) (by decide))) ?_
      rw [t7]
      refine lf (a_iconst (-1 : Int32) dX11_freeMeal_117 (by decide)) ?_
      refine lfn (a_icmp_ne (tgt := 125) dX11_freeMeal_118 (by decide)) (fun h118 => ?_) (fun h118 => ?_)
      · refine lf (a_iconst (0 : Int32) dX11_freeMeal_125 (by decide)) ?_
        refine lf (a_istore dX11_freeMeal_126 (by decide)) ?_
        refine lf (a_iconst (0 : Int32) dX11_freeMeal_128 (by decide)) ?_
        refine lf (a_istore dX11_freeMeal_129 (by decide)) ?_
        refine lf (a_iload dX11_freeMeal_131 rfl) ?_
        refine lf (a_aload_n dX11_freeMeal_133 rfl) ?_
        refine lf (a_inv (b2 := (0, 0)) (m_meals hw hv) rfl dX11_freeMeal_134 yk_X11_meals im_X11_meals se_X11_meals ml_X11_300 rfl (co_338 hw) (by decide) hc_X11 (by decide) (by decide) (Nat.le_of_ble_eq_true rfl)) ?_
        refine lf2 (a_icmp_ge (tgt := 194) dX11_freeMeal_137 (by decide)) (fun h137 => absurd h137 (nI_ge (a := 0) (b := pM q) (by omega) (by omega))) (fun h137 => ?_)
        refine lf (a_iload dX11_freeMeal_140 rfl) ?_
        refine lf2 (a_if_eq (tgt := 194) dX11_freeMeal_142 (by decide)) (fun h142 => ?_) (fun h142 => absurd h142 (by decide))
        refine lf (a_iincN dX11_freeMeal_194 rfl (by decide)) ?_
        refine lf (a_goto (tgt := 83) dX11_freeMeal_197 (by decide)) ?_
        refine lf (a_loc [(0, .ref 338), (1, .int (nI k)), (2, .int (nI n)), (3, .int (nI at_)), (4, .int (nI (e + 1)))] rfl) (ih (e + 1) W n qf fo (by omega) hO hW hB hR (fun p hp hf hg m hm2 hs => ?_))
        by_cases e1 : p = e
        · rw [e1] at hg hf
          first
          | exact absurd (ht.mpr hg) h107
          | exact absurd (hfn.mpr hf) h118
        · exact hS p (by omega) hf hg m hm2 hs
      · refine lf (a_iconst (1 : Int32) dX11_freeMeal_121 (by decide)) ?_
        refine lf (a_goto (tgt := 126) dX11_freeMeal_122 (by decide)) ?_
        refine lf (a_istore dX11_freeMeal_126 (by decide)) ?_
        refine lf (a_iconst (0 : Int32) dX11_freeMeal_128 (by decide)) ?_
        refine lf (a_istore dX11_freeMeal_129 (by decide)) ?_
        have hge := ht.mp h107
        have hfe := hfn.mp h118
        refine lf (a_loc [(0, .ref 338), (1, .int (nI k)), (2, .int (nI n)), (3, .int (nI at_)), (4, .int (nI e)), (5, .int 1), (6, .int (nI 0))] rfl) (fm_D hv0 hk hsp hee hfe (su_sp (hgs e qa hee hge)) (n0 := n) (qf0 := qf) (fo0 := fo) hge (fun W2 n2 qf2 fo2 g1 g2 g3 g4 g5 => ?_) (pM q) 0 W n qf fo (Nat.zero_add _) hO hW hB Gr.rfl' ⟨at_, han, hqe⟩ (fun m hm2 => absurd hm2 (Nat.not_lt_zero m)))
        have hw2 := g1.1
        refine lf (a_iincN dX11_freeMeal_194 rfl (by decide)) ?_
        refine lf (a_goto (tgt := 83) dX11_freeMeal_197 (by decide)) ?_
        refine lf (a_loc [(0, .ref 338), (1, .int (nI k)), (2, .int (nI n2)), (3, .int (nI at_)), (4, .int (nI (e + 1)))] rfl) (ih (e + 1) W2 n2 qf2 fo2 (by omega) g1 g2 g3 (hR.trans g4) (fun p hp hf hg m hm2 hs => ?_))
        by_cases e1 : p = e
        · rw [e1] at hs; exact g5 m hm2 hs
        · exact g4.2.2 m (hS p (by omega) hf hg m hm2 hs)
/-- what the search leaves -/
def FmQ (μ : Wd) (q : PDt) (d : FDt) (k : Nat) (fx : Nat → Option (Option Nat)) (g : Nat → Option Nat) (fr : Nat → Nat) (v : Option Value) (V : Wd) : Prop :=
  Out sFq μ V ∧ ∃ (n : Nat) (qf : Nat → Nat) (fo : Nat → Option Nat), QW V n qf fo (pM q) ∧ QB (suS q d) (dP d) k g fx (pM q) n qf fo ∧
    ((∃ i, i < n ∧ v = some (.int (nI (qf i))) ∧ 0 < fr (qf i)) ∨ (v = some (.int (-1)) ∧ (∀ m, m < pM q → fo m ≠ none → fr m = 0) ∧ (∀ m, m < pM q → suS q d k m = true → fo m ≠ none) ∧ ∀ p, p < dP d → fx p = none → (∃ m, g p = some m ∧ m < pM q ∧ fo m ≠ none) → ∀ m, m < pM q → suS q d p m = true → fo m ≠ none))
theorem fm_B (hv0 : MdV μ q d) (hk : k < dP d) (hsp : ¬ dF d 1 k = 0) (hT : TrV μ (dP d) (pM q) fx g fr) (hG : FxG (dP d) (pM q) fx g) (hgs : ∀ p m, p < dP d → g p = some m → suS q d p m = true) (hfb : ∀ m, m < pM q → fr m < 2 ^ 30) : ∀ (dd a : Nat) (W : Wd) (n : Nat) (qf : Nat → Nat) (fo : Nat → Option Nat), a + dd = pM q → a ≤ n → Out sFq μ W → QW W n qf fo (pM q) → QB (suS q d) (dP d) k g fx (pM q) n qf fo → (∀ m, m < pM q → suS q d k m = true → fo m ≠ none) → (∀ i, i < a → fr (qf i) = 0 ∧ ∀ p, p < dP d → fx p = none → g p = some (qf i) → ∀ m, m < pM q → suS q d p m = true → fo m ≠ none) → WP Y_X11_freeMeal R_X11_freeMeal (0, 0) W 54 [(0, .ref 338), (1, .int (nI k)), (2, .int (nI n)), (3, .int (nI a))] [] (fun o V => ∃ v, o = .inl v ∧ FmQ μ q d k fx g fr v V) := by
  have hM4 := hv0.M4
  have hP4 := hv0.P4
  have hend : ∀ (W : Wd) (n : Nat) (qf : Nat → Nat) (fo : Nat → Option Nat), Out sFq μ W → QW W n qf fo (pM q) → QB (suS q d) (dP d) k g fx (pM q) n qf fo → (∀ m, m < pM q → suS q d k m = true → fo m ≠ none) → (∀ i, i < n → fr (qf i) = 0 ∧ ∀ p, p < dP d → fx p = none → g p = some (qf i) → ∀ m, m < pM q → suS q d p m = true → fo m ≠ none) → FmQ μ q d k fx g fr (some (.int (-1))) W := fun W n qf fo hO hW hB hS hD => by
    refine ⟨hO, n, qf, fo, hW, hB, Or.inr ⟨rfl, fun m hm hf => ?_, hS, fun p hp hf ⟨m2, e2, e3, e4⟩ m hm hs => ?_⟩⟩
    · obtain ⟨i, hi, e⟩ := (hB.2.2.1 m hm).mp hf
      rw [← e]; exact (hD i hi).1
    · obtain ⟨i, hi, e⟩ := (hB.2.2.1 m2 e3).mp e4
      exact (hD i hi).2 p hp hf (by rw [e]; exact e2) m hm hs
  intro dd
  induction dd with
  | zero =>
    intro a W n qf fo hm han hO hW hB hS hD
    have hn12 := hB.le
    obtain rfl : n = a := by omega
    have hw := hO.1
    refine lf (a_iload_n dX11_freeMeal_54 rfl) ?_
    refine lf (a_iload_n dX11_freeMeal_55 rfl) ?_
    refine lf2 (a_icmp_ge (tgt := 206) dX11_freeMeal_56 (by decide)) (fun h56 => ?_) (fun h56 => absurd h56 (fun z => z (nI_le (Nat.le_refl _) (by omega))))
    refine lf (a_iconst (-1 : Int32) dX11_freeMeal_206 (by decide)) ?_
    refine ⟨_, _, (a_ireturn dX11_freeMeal_207 rfl rfl), ?_⟩
    exact ⟨_, rfl, hend W n qf fo hO hW hB hS hD⟩
  | succ dd ih =>
    intro a W n qf fo hm han hO hW hB hS hD
    have hn12 := hB.le
    have hw := hO.1
    by_cases hen : n = a
    · subst hen
      refine lf (a_iload_n dX11_freeMeal_54 rfl) ?_
      refine lf (a_iload_n dX11_freeMeal_55 rfl) ?_
      refine lf2 (a_icmp_ge (tgt := 206) dX11_freeMeal_56 (by decide)) (fun h56 => ?_) (fun h56 => absurd h56 (fun z => z (nI_le (Nat.le_refl _) (by omega))))
      refine lf (a_iconst (-1 : Int32) dX11_freeMeal_206 (by decide)) ?_
      refine ⟨_, _, (a_ireturn dX11_freeMeal_207 rfl rfl), ?_⟩
      exact ⟨_, rfl, hend W n qf fo hO hW hB hS hD⟩
    have hal : a < n := by omega
    have hqm := hB.1 a hal
    have t1 : gI W 361 a = nI (qf a) := hW.1 a hal
    have t9 : gI W 359 (qf a) = nI (fr (qf a)) := (hO.i (fun z => by rcases z with z | z <;> omega) _).trans (hT.2.2 _ hqm)
    have hfa := hfb _ hqm
    refine lf (a_iload_n dX11_freeMeal_54 rfl) ?_
    refine lf (a_iload_n dX11_freeMeal_55 rfl) ?_
    refine lf2 (a_icmp_ge (tgt := 206) dX11_freeMeal_56 (by decide)) (fun h56 => absurd h56 (nI_ge hal (by omega))) (fun h56 => ?_)
    refine lf (a_aload_n dX11_freeMeal_59 rfl) ?_
    refine lf (a_getR (cr_338_34 hw) dX11_freeMeal_60 fs_X11_76 rfl (co_338 hw)) ?_
    refine lf (a_aload_n dX11_freeMeal_63 rfl) ?_
    refine lf (a_getR (cr_338_36 hw) dX11_freeMeal_64 fs_X11_82 rfl (co_338 hw)) ?_
    refine lf (a_iload_n dX11_freeMeal_67 rfl) ?_
    refine lf (a_ild dX11_freeMeal_68 (ca_361 hw) (ixn (show a < 12 by omega) (by decide))) ?_
    rw [t1]
    refine lf (a_ild dX11_freeMeal_69 (ca_359 hw) (ixn (show qf a < 12 by omega) (by decide))) ?_
    rw [t9]
    refine lf2 (a_if_le (tgt := 80) dX11_freeMeal_70 (by decide)) (fun h70 => ?_) (fun h70 => ?_)
    · refine lf (a_iconst (0 : Int32) dX11_freeMeal_80 (by decide)) ?_
      refine lf (a_istore dX11_freeMeal_81 (by decide)) ?_
      have hz : fr (qf a) = 0 := by
        have := (nI_leI (b := 0) (by omega) (by decide)).mp h70
        omega
      refine lf (a_loc [(0, .ref 338), (1, .int (nI k)), (2, .int (nI n)), (3, .int (nI a)), (4, .int (nI 0))] rfl) (fm_C hv0 hk hsp hT hG hgs (n0 := n) (qf0 := qf) (fo0 := fo) hal rfl hqm (fun W2 n2 qf2 fo2 g1 g2 g3 g4 g5 => ?_) (dP d) 0 W n qf fo (Nat.zero_add _) hO hW hB Gr.rfl' (fun p hp => absurd hp (Nat.not_lt_zero p)))
      refine lf (a_iincN dX11_freeMeal_200 rfl (by decide)) ?_
      refine lf (a_goto (tgt := 54) dX11_freeMeal_203 (by decide)) ?_
      refine lf (a_loc [(0, .ref 338), (1, .int (nI k)), (2, .int (nI n2)), (3, .int (nI (a + 1)))] rfl) (ih (a + 1) W2 n2 qf2 fo2 (by omega) (Nat.le_trans hal g4.1) g1 g2 g3 (fun m hm2 hs => g4.2.2 m (hS m hm2 hs)) (fun i hi => ?_))
      by_cases e1 : i = a
      · rw [e1, g4.2.1 a hal]
        exact ⟨hz, g5⟩
      · rw [g4.2.1 i (by omega)]
        exact ⟨(hD i (by omega)).1, fun p hp hf hg m hm2 hs => g4.2.2 m ((hD i (by omega)).2 p hp hf hg m hm2 hs)⟩
    · refine lf (a_aload_n dX11_freeMeal_73 rfl) ?_
      refine lf (a_getR (cr_338_36 hw) dX11_freeMeal_74 fs_X11_82 rfl (co_338 hw)) ?_
      refine lf (a_iload_n dX11_freeMeal_77 rfl) ?_
      refine lf (a_ild dX11_freeMeal_78 (ca_361 hw) (ixn (show a < 12 by omega) (by decide))) ?_
      rw [t1]
      refine ⟨_, _, (a_ireturn dX11_freeMeal_79 rfl rfl), ?_⟩
      exact ⟨_, rfl, hO, n, qf, fo, hW, hB, Or.inl ⟨a, hal, rfl, Nat.pos_of_ne_zero (fun z => h70 (by rw [z]; decide))⟩⟩
theorem m_freeMeal (hw : Wf μ) (hv0 : MdV μ q d) (hk : k < dP d) (hsp : ¬ dF d 1 k = 0) (hT : TrV μ (dP d) (pM q) fx g fr) (hG : FxG (dP d) (pM q) fx g) (hgs : ∀ p m, p < dP d → g p = some m → suS q d p m = true) (hfb : ∀ m, m < pM q → fr m < 2 ^ 30) : CV Y_X11_freeMeal R_X11_freeMeal [.ref 338, .int (nI k)] μ (FmQ μ q d k fx g fr) := by
  refine CV.ent yk_X11_freeMeal (Nat.le_of_ble_eq_true rfl) ?_
  refine lf (a_iconst (0 : Int32) dX11_freeMeal_0 (by decide)) ?_
  refine lf (a_istore_n dX11_freeMeal_1 (by decide)) ?_
  refine lf (a_iconst (0 : Int32) dX11_freeMeal_2 (by decide)) ?_
  refine lf (a_istore_n dX11_freeMeal_3 (by decide)) ?_
  refine lf (a_loc [(0, .ref 338), (1, .int (nI k)), (2, .int (nI 0)), (3, .int (nI 0))] rfl) (fm_A hv0 hk hsp (g := g) (fx := fx) (fun W n qf fo h1 h2 h3 h4 => ?_) (pM q) 0 μ 0 (fun _ => 0) (fun _ => none) (Nat.zero_add _) (Out.rfl' hw) ⟨fun i hi => absurd hi (Nat.not_lt_zero i), fun i hi => absurd hi (Nat.not_lt_zero i)⟩ ⟨fun i hi => absurd hi (Nat.not_lt_zero i), fun i j h1 h2 => absurd h2 (Nat.not_lt_zero j), fun y hy => absurd hy (Nat.not_lt_zero y), fun i hi => absurd hi (Nat.not_lt_zero i)⟩ (fun y hy => absurd hy (Nat.not_lt_zero y)))
  refine lf (a_iconst (0 : Int32) dX11_freeMeal_52 (by decide)) ?_
  refine lf (a_istore_n dX11_freeMeal_53 (by decide)) ?_
  exact lf (a_loc [(0, .ref 338), (1, .int (nI k)), (2, .int (nI n)), (3, .int (nI 0))] rfl) (fm_B hv0 hk hsp hT hG hgs hfb (pM q) 0 W n qf fo (Nat.zero_add _) (Nat.zero_le _) h1 h2 h3 h4 (fun i hi => absurd hi (Nat.not_lt_zero i)))
end FREEMEAL
