section FINDS
variable {μ W V : Wd} {q : PDt} {d : FDt} {k : Nat} {fx : Nat → Option (Option Nat)} {g : Nat → Option Nat} {fr cap : Nat → Nat}
abbrev s59 : Nat → Prop := fun i => i = 359
abbrev sMa : Nat → Prop := fun i => 358 ≤ i ∧ i ≤ 361
theorem MdV.ma (h : MdV μ q d) (ho : Out sMa μ W) : MdV W q d := h.out ho (fun z => by have := z.1; omega) (fun z => by have := z.1; omega)
abbrev R_X11_laysUnits : Room := { frames := 2, cells := 0, slots := 0, locals := 44 }
abbrev RX_X11_laysUnits : Room := { frames := 2, cells := 1, slots := 6, locals := 44 }

theorem l_X11_laysUnits_2 (hv0 : MdV μ q d) {Q : Oc → Wd → Prop} (kx : ∀ W : Wd, Out s59 μ W → (∀ y, y < pM q → gI W 359 y = ldD q d y) → WP Y_X11_laysUnits R_X11_laysUnits (0, 0) W 27 [(0, .ref 338), (1, .int (nI (pM q)))] [] Q) : ∀ (dd m : Nat) (W : Wd), m + dd = pM q → Out s59 μ W → (∀ y, y < m → gI W 359 y = ldD q d y) → WP Y_X11_laysUnits R_X11_laysUnits (0, 0) W 2 [(0, .ref 338), (1, .int (nI m))] [] Q := by
  have hM4 := hv0.M4
  intro dd
  induction dd with
  | zero =>
    intro m W hm hO hI
    obtain rfl : pM q = m := by omega
    have hw := hO.1
    have hv := hv0.out hO (by decide) (by decide)
    refine lf (a_iload_n dX11_laysUnits_2 rfl) ?_
    refine lf (a_aload_n dX11_laysUnits_3 rfl) ?_
    refine lf (a_inv (b2 := (0, 0)) (m_meals hw hv) rfl dX11_laysUnits_4 yk_X11_meals im_X11_meals se_X11_meals ml_X11_300 rfl (co_338 hw) (by decide) hc_X11 (by decide) (by decide) (Nat.le_of_ble_eq_true rfl)) ?_
    refine lf2 (a_icmp_ge (tgt := 27) dX11_laysUnits_7 (by decide)) (fun h7 => ?_) (fun h7 => absurd h7 (fun z => z (nI_le (Nat.le_refl _) (by omega))))
    exact lf (a_loc _ rfl) (kx W hO hI)
  | succ dd ih =>
    intro m W hm hO hI
    have hmm : m < pM q := by omega
    have hw := hO.1
    have hv := hv0.out hO (by decide) (by decide)
    refine lf (a_iload_n dX11_laysUnits_2 rfl) ?_
    refine lf (a_aload_n dX11_laysUnits_3 rfl) ?_
    refine lf (a_inv (b2 := (0, 0)) (m_meals hw hv) rfl dX11_laysUnits_4 yk_X11_meals im_X11_meals se_X11_meals ml_X11_300 rfl (co_338 hw) (by decide) hc_X11 (by decide) (by decide) (Nat.le_of_ble_eq_true rfl)) ?_
    refine lf2 (a_icmp_ge (tgt := 27) dX11_laysUnits_7 (by decide)) (fun h7 => absurd h7 (nI_ge hmm (by omega))) (fun h7 => ?_)
    refine lf (a_aload_n dX11_laysUnits_10 rfl) ?_
    refine lf (a_getR (cr_338_34 hw) dX11_laysUnits_11 fs_X11_76 rfl (co_338 hw)) ?_
    refine lf (a_iload_n dX11_laysUnits_14 rfl) ?_
    refine lf (a_aload_n dX11_laysUnits_15 rfl) ?_
    refine lf (a_iload_n dX11_laysUnits_16 rfl) ?_
    refine lf (a_inv (b2 := (0, 0)) (m_loadedOf hw hv (show m < 12 by omega)) rfl dX11_laysUnits_17 yk_X11_loadedOf im_X11_loadedOf se_X11_loadedOf ml_X11_336 rfl (co_338 hw) (by decide) hc_X11 (by decide) (by decide) (Nat.le_of_ble_eq_true rfl)) ?_
    refine lf (a_ist dX11_laysUnits_20 (ca_359 hw) (ixn (show m < 12 by omega) (by decide))) ?_
    refine lf (a_iincN dX11_laysUnits_21 rfl (by decide)) ?_
    refine lf (a_goto (tgt := 2) dX11_laysUnits_24 (by decide)) ?_
    refine lf (a_loc _ rfl) (ih (m + 1) _ (by omega) (hO.sI (S := s59) rfl _ _) (fun y hy => ?_))
    rw [gI_sI]
    by_cases e : y = m
    · rw [if_pos ⟨rfl, e⟩, e]
    · rw [if_neg (fun z => e z.2)]; exact hI y (by omega)
theorem m_laysUnits (hw : Wf μ) (hv : MdV μ q d) : CV Y_X11_laysUnits R_X11_laysUnits [.ref 338] μ (fun v V => v = none ∧ Out s59 μ V ∧ ∀ y, y < pM q → gI V 359 y = ldD q d y) := by
  refine CV.ent yk_X11_laysUnits (Nat.le_of_ble_eq_true rfl) ?_
  refine lf (a_iconst (0 : Int32) dX11_laysUnits_0 (by decide)) ?_
  refine lf (a_istore_n dX11_laysUnits_1 (by decide)) ?_
  refine lf (a_loc [(0, .ref 338), (1, .int (nI 0))] rfl) (l_X11_laysUnits_2 hv (fun W h1 h2 => ?_) (pM q) 0 μ (Nat.zero_add _) (Out.rfl' hw) (fun y hy => absurd hy (Nat.not_lt_zero y)))
  refine ⟨_, _, (a_return dX11_laysUnits_27 rfl), ?_⟩
  exact ⟨_, rfl, rfl, h1, h2⟩
abbrev R_X11_finds : Room := { frames := 4, cells := 0, slots := 0, locals := 93 }
abbrev RX_X11_finds : Room := { frames := 4, cells := 1, slots := 6, locals := 93 }

def FiQ (μ : Wd) (q : PDt) (d : FDt) (cap : Nat → Nat) (k : Nat) (fx : Nat → Option (Option Nat)) (g : Nat → Option Nat) (fr : Nat → Nat) (v : Option Value) (V : Wd) : Prop :=
  Out sMa μ V ∧ ((v = some (.int 1) ∧ ∃ g2 fr2, TrV V (dP d) (pM q) fx g2 fr2 ∧ GA (suM q d) cap (dP d) (pM q) g2 fr2 ∧ ExF fx (dP d) (k + 1) g2 ∧ szG g2 (dP d) = szG g (dP d) + 1) ∨
    (v = some (.int 0) ∧ TrV V (dP d) (pM q) fx g fr ∧ ∃ R : Nat → Bool, (∀ m, m < pM q → R m = true → fr m = 0) ∧ ∀ p, p < dP d → fx p = none → (p = k ∨ ∃ m, g p = some m ∧ R m = true) → ∀ m, m < pM q → suS q d p m = true → R m = true))
theorem fi_L (hv0 : MdV μ q d) (hk : k < dP d) (hfk : fx k = none) (h7 : ∀ p, p < dP d → gI μ 357 p = fI (fx p)) {fr1 : Nat → Nat} {n : Nat} {qf : Nat → Nat} {fo : Nat → Option Nat} (hqb : ∀ i, i < n → qf i < pM q) (hqi : ∀ i j, i < j → j < n → qf i ≠ qf j) (hEx : ExF fx (dP d) k g) : ∀ (c i : Nat), i < c → ∀ (g1 : Nat → Option Nat) (W : Wd), i < n → Out sMa μ W → (∀ p, p < dP d → gI W 358 p = tI (fx p) (g1 p)) → (∀ m, m < pM q → gI W 359 m = nI (fr1 m)) → (∀ y, y < pM q → gI W 360 y = oI (fo y)) →
    (∀ p m, p < dP d → g1 p = some m → m < pM q ∧ bt (suM q d p) m = true) → (∀ m, m < pM q → cntG g1 (dP d) m + fr1 m + (if m = qf i then 1 else 0) = cap m) → (∀ p, p < dP d → fx p ≠ none → g1 p = g p) → (∀ p, p < dP d → g p = none → p ≠ k → g1 p = none) → g1 k = none → szG g1 (dP d) = szG g (dP d) →
    (∀ i2, i2 ≤ i → ∃ p, fo (qf i2) = some p ∧ p < dP d ∧ suS q d p (qf i2) = true ∧ (p = k ∨ (fx p = none ∧ ∃ j, j < i2 ∧ g1 p = some (qf j)))) →
    WP Y_X11_finds R_X11_finds (0, 0) W 34 [(0, .ref 338), (1, .int (nI k)), (2, .int (nI (qf i))), (3, .int (oI (fo (qf i))))] [] (fun o V => ∃ v, o = .inl v ∧ FiQ μ q d cap k fx g fr v V) := by
  have hM4 := hv0.M4
  have hP4 := hv0.P4
  intro c
  induction c with
  | zero => intro i hi; exact absurd hi (Nat.not_lt_zero i)
  | succ c ih =>
    intro i hic g1 W hi hO h8 h9 h0 hA hC hF hN hK hZ hW
    have hw := hO.1
    obtain ⟨p, e1, e2, e3, e4⟩ := hW i (Nat.le_refl i)
    have hqm := hqb i hi
    have eo : oI (fo (qf i)) = nI p := by rw [e1]; rfl
    rw [eo]
    by_cases hpk : p = k
    · subst hpk
      refine lf (a_iload_n dX11_finds_34 rfl) ?_
      refine lf (a_iload_n dX11_finds_35 rfl) ?_
      refine lf2 (a_icmp_eq (tgt := 67) dX11_finds_36 (by decide)) (fun h36 => ?_) (fun h36 => absurd h36 (fun z => z rfl))
      refine lf (a_aload_n dX11_finds_67 rfl) ?_
      refine lf (a_getR (cr_338_33 (by repeat (first | with_reducible exact hw | with_reducible exact hwc | with_reducible assumption | with_reducible apply Wf.sI | with_reducible apply Wf.sL | with_reducible apply Wf.cpI | with_reducible apply Wf.cpL | with_reducible apply Wf.cp2 | with_reducible apply Wf.sIs | with_reducible apply Wf.sLs | with_reducible apply Wf.cpU | with_reducible apply Wf.fillI | with_reducible apply Wf.clU | with_reducible apply Wf.dnF | with_reducible apply Wf.gbW))) dX11_finds_68 fs_X11_73 rfl (co_338 (by repeat (first | with_reducible exact hw | with_reducible exact hwc | with_reducible assumption | with_reducible apply Wf.sI | with_reducible apply Wf.sL | with_reducible apply Wf.cpI | with_reducible apply Wf.cpL | with_reducible apply Wf.cp2 | with_reducible apply Wf.sIs | with_reducible apply Wf.sLs | with_reducible apply Wf.cpU | with_reducible apply Wf.fillI | with_reducible apply Wf.clU | with_reducible apply Wf.dnF | with_reducible apply Wf.gbW)))) ?_
      refine lf (a_iload_n dX11_finds_71 rfl) ?_
      refine lf (a_iload_n dX11_finds_72 rfl) ?_
      refine lf (a_ist dX11_finds_73 (ca_358 (by repeat (first | with_reducible exact hw | with_reducible exact hwc | with_reducible assumption | with_reducible apply Wf.sI | with_reducible apply Wf.sL | with_reducible apply Wf.cpI | with_reducible apply Wf.cpL | with_reducible apply Wf.cp2 | with_reducible apply Wf.sIs | with_reducible apply Wf.sLs | with_reducible apply Wf.cpU | with_reducible apply Wf.fillI | with_reducible apply Wf.clU | with_reducible apply Wf.dnF | with_reducible apply Wf.gbW))) (ixn (show p < 40 by omega) (by decide))) ?_
      refine lf (a_iconst (1 : Int32) dX11_finds_74 (by decide)) ?_
      refine ⟨_, _, (a_ireturn dX11_finds_75 rfl rfl), ?_⟩
      refine ⟨_, rfl, hO.sI (S := sMa) ⟨by decide, by decide⟩ _ _, Or.inl ⟨rfl, up1 g1 p (some (qf i)), fr1, ⟨fun x hx => ?_, fun x hx => ?_, fun m hm => ?_⟩, ⟨fun x m hx ex => ?_, fun m hm => ?_⟩, fun x hx => ⟨fun v ev => ?_, fun ef hkx => ?_⟩, ?_⟩⟩
      · rw [gI_sI, if_neg (by omega), hO.i (fun z => by have := z.1; omega)]; exact h7 x hx
      · rw [gI_sI]
        by_cases e : x = p
        · rw [if_pos ⟨rfl, e⟩, e, hfk, up1_eq]; rfl
        · rw [if_neg (fun z => e z.2), up1_ne e]; exact h8 x hx
      · rw [gI_sI, if_neg (by omega)]; exact h9 m hm
      · unfold up1 at ex
        by_cases e : x = p
        · rw [if_pos e] at ex
          injection ex with ex
          rw [e, ← ex]; exact ⟨hqm, e3⟩
        · rw [if_neg e] at ex; exact hA x m hx ex
      · have z1 := cnt_up (g := g1) e2 (some (qf i)) m
        have z2 := hC m hm
        rw [hK, if_neg (show ¬ (none = some m) from fun z => nomatch z)] at z1
        simp only [Option.some.injEq] at z1
        by_cases e : m = qf i
        · rw [if_pos e] at z2; rw [if_pos e.symm] at z1; omega
        · rw [if_neg e] at z2; rw [if_neg (fun z => e z.symm)] at z1; omega
      · have e : x ≠ p := fun z => by rw [z, hfk] at ev; cases ev
        rw [up1_ne e, hF x hx (by rw [ev]; exact fun z => nomatch z)]
        exact (hEx x hx).1 v ev
      · have e : x ≠ p := by omega
        rw [up1_ne e]
        exact hN x hx ((hEx x hx).2 ef (by omega)) e
      · have z1 := sz_up (g := g1) e2 (some (qf i))
        rw [hK] at z1
        have z2 : (if (none : Option Nat).isSome = true then 1 else 0) = 0 := rfl
        have z3 : (if (some (qf i)).isSome = true then 1 else 0) = 1 := rfl
        rw [z2, z3] at z1
        omega
    obtain ⟨hfp, j, hj, hgj⟩ := e4.resolve_left hpk
    have hqj := hqb j (by omega)
    have t8 : gI W 358 p = nI (qf j) := by rw [h8 p e2, hfp, hgj]; rfl
    have t0 : gI W 360 (qf j) = oI (fo (qf j)) := h0 _ hqj
    refine lf (a_iload_n dX11_finds_34 rfl) ?_
    refine lf (a_iload_n dX11_finds_35 rfl) ?_
    refine lf2 (a_icmp_eq (tgt := 67) dX11_finds_36 (by decide)) (fun h36 => absurd h36 (fun z => hpk ((nI_eqI (by omega) (by omega)).mp z))) (fun h36 => ?_)
    refine lf (a_aload_n dX11_finds_39 rfl) ?_
    refine lf (a_getR (cr_338_33 (by repeat (first | with_reducible exact hw | with_reducible exact hwc | with_reducible assumption | with_reducible apply Wf.sI | with_reducible apply Wf.sL | with_reducible apply Wf.cpI | with_reducible apply Wf.cpL | with_reducible apply Wf.cp2 | with_reducible apply Wf.sIs | with_reducible apply Wf.sLs | with_reducible apply Wf.cpU | with_reducible apply Wf.fillI | with_reducible apply Wf.clU | with_reducible apply Wf.dnF | with_reducible apply Wf.gbW))) dX11_finds_40 fs_X11_73 rfl (co_338 (by repeat (first | with_reducible exact hw | with_reducible exact hwc | with_reducible assumption | with_reducible apply Wf.sI | with_reducible apply Wf.sL | with_reducible apply Wf.cpI | with_reducible apply Wf.cpL | with_reducible apply Wf.cp2 | with_reducible apply Wf.sIs | with_reducible apply Wf.sLs | with_reducible apply Wf.cpU | with_reducible apply Wf.fillI | with_reducible apply Wf.clU | with_reducible apply Wf.dnF | with_reducible apply Wf.gbW)))) ?_
    refine lf (a_iload_n dX11_finds_43 rfl) ?_
    refine lf (a_ild dX11_finds_44 (ca_358 (by repeat (first | with_reducible exact hw | with_reducible exact hwc | with_reducible assumption | with_reducible apply Wf.sI | with_reducible apply Wf.sL | with_reducible apply Wf.cpI | with_reducible apply Wf.cpL | with_reducible apply Wf.cp2 | with_reducible apply Wf.sIs | with_reducible apply Wf.sLs | with_reducible apply Wf.cpU | with_reducible apply Wf.fillI | with_reducible apply Wf.clU | with_reducible apply Wf.dnF | with_reducible apply Wf.gbW))) (ixn (show p < 40 by omega) (by decide))) ?_
    rw [t8]
    refine lf (a_istore dX11_finds_45 (by decide)) ?_
    refine lf (a_aload_n dX11_finds_47 rfl) ?_
    refine lf (a_getR (cr_338_33 (by repeat (first | with_reducible exact hw | with_reducible exact hwc | with_reducible assumption | with_reducible apply Wf.sI | with_reducible apply Wf.sL | with_reducible apply Wf.cpI | with_reducible apply Wf.cpL | with_reducible apply Wf.cp2 | with_reducible apply Wf.sIs | with_reducible apply Wf.sLs | with_reducible apply Wf.cpU | with_reducible apply Wf.fillI | with_reducible apply Wf.clU | with_reducible apply Wf.dnF | with_reducible apply Wf.gbW))) dX11_finds_48 fs_X11_73 rfl (co_338 (by repeat (first | with_reducible exact hw | with_reducible exact hwc | with_reducible assumption | with_reducible apply Wf.sI | with_reducible apply Wf.sL | with_reducible apply Wf.cpI | with_reducible apply Wf.cpL | with_reducible apply Wf.cp2 | with_reducible apply Wf.sIs | with_reducible apply Wf.sLs | with_reducible apply Wf.cpU | with_reducible apply Wf.fillI | with_reducible apply Wf.clU | with_reducible apply Wf.dnF | with_reducible apply Wf.gbW)))) ?_
    refine lf (a_iload_n dX11_finds_51 rfl) ?_
    refine lf (a_iload_n dX11_finds_52 rfl) ?_
    refine lf (a_ist dX11_finds_53 (ca_358 (by repeat (first | with_reducible exact hw | with_reducible exact hwc | with_reducible assumption | with_reducible apply Wf.sI | with_reducible apply Wf.sL | with_reducible apply Wf.cpI | with_reducible apply Wf.cpL | with_reducible apply Wf.cp2 | with_reducible apply Wf.sIs | with_reducible apply Wf.sLs | with_reducible apply Wf.cpU | with_reducible apply Wf.fillI | with_reducible apply Wf.clU | with_reducible apply Wf.dnF | with_reducible apply Wf.gbW))) (ixn (show p < 40 by omega) (by decide))) ?_
    refine lf (a_iload dX11_finds_54 rfl) ?_
    refine lf (a_istore_n dX11_finds_56 (by decide)) ?_
    refine lf (a_aload_n dX11_finds_57 rfl) ?_
    refine lf (a_getR (cr_338_35 (by repeat (first | with_reducible exact hw | with_reducible exact hwc | with_reducible assumption | with_reducible apply Wf.sI | with_reducible apply Wf.sL | with_reducible apply Wf.cpI | with_reducible apply Wf.cpL | with_reducible apply Wf.cp2 | with_reducible apply Wf.sIs | with_reducible apply Wf.sLs | with_reducible apply Wf.cpU | with_reducible apply Wf.fillI | with_reducible apply Wf.clU | with_reducible apply Wf.dnF | with_reducible apply Wf.gbW))) dX11_finds_58 fs_X11_79 rfl (co_338 (by repeat (first | with_reducible exact hw | with_reducible exact hwc | with_reducible assumption | with_reducible apply Wf.sI | with_reducible apply Wf.sL | with_reducible apply Wf.cpI | with_reducible apply Wf.cpL | with_reducible apply Wf.cp2 | with_reducible apply Wf.sIs | with_reducible apply Wf.sLs | with_reducible apply Wf.cpU | with_reducible apply Wf.fillI | with_reducible apply Wf.clU | with_reducible apply Wf.dnF | with_reducible apply Wf.gbW)))) ?_
    refine lf (a_iload_n dX11_finds_61 rfl) ?_
    refine lf (a_ild dX11_finds_62 (ca_360 (by repeat (first | with_reducible exact hw | with_reducible exact hwc | with_reducible assumption | with_reducible apply Wf.sI | with_reducible apply Wf.sL | with_reducible apply Wf.cpI | with_reducible apply Wf.cpL | with_reducible apply Wf.cp2 | with_reducible apply Wf.sIs | with_reducible apply Wf.sLs | with_reducible apply Wf.cpU | with_reducible apply Wf.fillI | with_reducible apply Wf.clU | with_reducible apply Wf.dnF | with_reducible apply Wf.gbW))) (ixn (show qf j < 12 by omega) (by decide))) ?_
    rw [gI_sI, if_neg (by omega), t0]
    refine lf (a_istore_n dX11_finds_63 (by decide)) ?_
    refine lf (a_goto (tgt := 34) dX11_finds_64 (by decide)) ?_
    refine lf (a_loc [(0, .ref 338), (1, .int (nI k)), (2, .int (nI (qf j))), (3, .int (oI (fo (qf j))))] rfl) (ih j (by omega) (up1 g1 p (some (qf i))) _ (by omega) (hO.sI (S := sMa) ⟨by decide, by decide⟩ _ _) (fun x hx => ?_) (fun m hm => ?_) (fun y hy => ?_) (fun x m hx ex => ?_) (fun m hm => ?_) (fun x hx ef => ?_) (fun x hx hg hxk => ?_) ?_ ?_ (fun i2 hi2 => ?_))
    · rw [gI_sI]
      by_cases e : x = p
      · rw [if_pos ⟨rfl, e⟩, e, hfp, up1_eq]; rfl
      · rw [if_neg (fun z => e z.2), up1_ne e]; exact h8 x hx
    · rw [gI_sI, if_neg (by omega)]; exact h9 m hm
    · rw [gI_sI, if_neg (by omega)]; exact h0 y hy
    · unfold up1 at ex
      by_cases e : x = p
      · rw [if_pos e] at ex
        injection ex with ex
        rw [e, ← ex]; exact ⟨hqm, e3⟩
      · rw [if_neg e] at ex; exact hA x m hx ex
    · have z1 := cnt_up (g := g1) e2 (some (qf i)) m
      have z2 := hC m hm
      rw [hgj] at z1
      simp only [Option.some.injEq] at z1
      have yy : ∀ a : Nat, (if a = m then 1 else 0) = (if m = a then 1 else 0) := fun a => by
        by_cases hz : a = m
        · rw [if_pos hz, if_pos hz.symm]
        · rw [if_neg hz, if_neg (fun z => hz z.symm)]
      rw [yy, yy] at z1
      omega
    · have e : x ≠ p := fun z => ef (by rw [z]; exact hfp)
      rw [up1_ne e]; exact hF x hx ef
    · have e : x ≠ p := fun z => by
        have := hN x hx hg hxk
        rw [z, hgj] at this
        cases this
      rw [up1_ne e]; exact hN x hx hg hxk
    · rw [up1_ne (fun z => hpk z.symm)]; exact hK
    · have z1 := sz_up (g := g1) e2 (some (qf i))
      rw [hgj] at z1
      have z2 : (if (some (qf j)).isSome = true then 1 else 0) = 1 := rfl
      have z3 : (if (some (qf i)).isSome = true then 1 else 0) = 1 := rfl
      rw [z2, z3] at z1
      omega
    · obtain ⟨p2, f1, f2, f3, f4⟩ := hW i2 (by omega)
      refine ⟨p2, f1, f2, f3, f4.imp (fun z => z) (fun z => ⟨z.1, ?_⟩)⟩
      obtain ⟨j2, hj2, hg2⟩ := z.2
      refine ⟨j2, hj2, ?_⟩
      have e : p2 ≠ p := fun z => by
        rw [z, hgj] at hg2
        injection hg2 with hg2
        exact hqi j2 j (by omega) (by omega) hg2.symm
      rw [up1_ne e]; exact hg2
theorem m_finds (hw : Wf μ) (hv0 : MdV μ q d) (hk : k < dP d) (hsp : ¬ dF d 1 k = 0) (hfk : fx k = none) (hfm : ∀ p m, p < dP d → fx p = some (some m) → m < pM q) (hT : TrV μ (dP d) (pM q) fx g fr) (hA : GA (suM q d) cap (dP d) (pM q) g fr) (hEx : ExF fx (dP d) k g) (hcb : ∀ m, m < pM q → cap m < 2 ^ 30) : CV Y_X11_finds R_X11_finds [.ref 338, .int (nI k)] μ (FiQ μ q d cap k fx g fr) := by
  have hM4 := hv0.M4
  have hP4 := hv0.P4
  have hG : FxG (dP d) (pM q) fx g := ⟨hfm, fun p m hp e => (hA.1 p m hp e).1, fun p hp e => (hEx p hp).1 none e⟩
  have hfb : ∀ m, m < pM q → fr m < 2 ^ 30 := fun m hm => by
    have := hA.2 m hm
    have := hcb m hm
    omega
  obtain ⟨v, V, hc, hO, n, qf, fo, hW, hB, hr⟩ := m_freeMeal hw hv0 hk hsp hT hG (fun p m hp e => (hA.1 p m hp e).2) hfb
  have hO2 : Out sMa μ V := hO.mono (fun i y => by rcases y with y | y <;> exact ⟨by omega, by omega⟩)
  have hwc := hO.1
  have hT2 : TrV V (dP d) (pM q) fx g fr := ⟨fun p hp => (hO.i (fun z => by rcases z with z | z <;> omega) p).trans (hT.1 p hp), fun p hp => (hO.i (fun z => by rcases z with z | z <;> omega) p).trans (hT.2.1 p hp), fun m hm => (hO.i (fun z => by rcases z with z | z <;> omega) m).trans (hT.2.2 m hm)⟩
  refine CV.ent yk_X11_finds (Nat.le_of_ble_eq_true rfl) ?_
  rcases hr with ⟨i, hi, rfl, hpos⟩ | ⟨rfl, r1, r2, r3⟩
  · have hqm := hB.1 i hi
    obtain ⟨c, hcc⟩ : ∃ c, fr (qf i) = c + 1 := ⟨fr (qf i) - 1, by omega⟩
    have t9 : gI V 359 (qf i) = nI (c + 1) := by rw [hT2.2.2 _ hqm, hcc]
    have t0 : gI V 360 (qf i) = oI (fo (qf i)) := hW.2 _ hqm
    refine lf (a_aload_n dX11_finds_0 rfl) ?_
    refine lf (a_iload_n dX11_finds_1 rfl) ?_
    refine lf (a_inv (b2 := (0, 0)) hc rfl dX11_finds_2 yk_X11_freeMeal im_X11_freeMeal se_X11_freeMeal ml_X11_440 rfl (co_338 (by repeat (first | with_reducible exact hw | with_reducible exact hwc | with_reducible assumption | with_reducible apply Wf.sI | with_reducible apply Wf.sL | with_reducible apply Wf.cpI | with_reducible apply Wf.cpL | with_reducible apply Wf.cp2 | with_reducible apply Wf.sIs | with_reducible apply Wf.sLs | with_reducible apply Wf.cpU | with_reducible apply Wf.fillI | with_reducible apply Wf.clU | with_reducible apply Wf.dnF | with_reducible apply Wf.gbW))) (by decide) hc_X11 (by decide) (by decide) (Nat.le_of_ble_eq_true rfl)) ?_
    refine lf (a_istore_n dX11_finds_5 (by decide)) ?_
    refine lf (a_iload_n dX11_finds_6 rfl) ?_
    refine lf (a_iconst (-1 : Int32) dX11_finds_7 (by decide)) ?_
    refine lfn (a_icmp_ne (tgt := 13) dX11_finds_8 (by decide)) (fun h8 => ?_) (fun h8 => absurd h8 (nI_ne1 (n := qf i) (by omega)))
    refine lf (a_aload_n dX11_finds_13 rfl) ?_
    refine lf (a_getR (cr_338_34 (by repeat (first | with_reducible exact hw | with_reducible exact hwc | with_reducible assumption | with_reducible apply Wf.sI | with_reducible apply Wf.sL | with_reducible apply Wf.cpI | with_reducible apply Wf.cpL | with_reducible apply Wf.cp2 | with_reducible apply Wf.sIs | with_reducible apply Wf.sLs | with_reducible apply Wf.cpU | with_reducible apply Wf.fillI | with_reducible apply Wf.clU | with_reducible apply Wf.dnF | with_reducible apply Wf.gbW))) dX11_finds_14 fs_X11_76 rfl (co_338 (by repeat (first | with_reducible exact hw | with_reducible exact hwc | with_reducible assumption | with_reducible apply Wf.sI | with_reducible apply Wf.sL | with_reducible apply Wf.cpI | with_reducible apply Wf.cpL | with_reducible apply Wf.cp2 | with_reducible apply Wf.sIs | with_reducible apply Wf.sLs | with_reducible apply Wf.cpU | with_reducible apply Wf.fillI | with_reducible apply Wf.clU | with_reducible apply Wf.dnF | with_reducible apply Wf.gbW)))) ?_
    refine lf (a_iload_n dX11_finds_17 rfl) ?_
    refine lf (a_aload_n dX11_finds_18 rfl) ?_
    refine lf (a_getR (cr_338_34 (by repeat (first | with_reducible exact hw | with_reducible exact hwc | with_reducible assumption | with_reducible apply Wf.sI | with_reducible apply Wf.sL | with_reducible apply Wf.cpI | with_reducible apply Wf.cpL | with_reducible apply Wf.cp2 | with_reducible apply Wf.sIs | with_reducible apply Wf.sLs | with_reducible apply Wf.cpU | with_reducible apply Wf.fillI | with_reducible apply Wf.clU | with_reducible apply Wf.dnF | with_reducible apply Wf.gbW))) dX11_finds_19 fs_X11_76 rfl (co_338 (by repeat (first | with_reducible exact hw | with_reducible exact hwc | with_reducible assumption | with_reducible apply Wf.sI | with_reducible apply Wf.sL | with_reducible apply Wf.cpI | with_reducible apply Wf.cpL | with_reducible apply Wf.cp2 | with_reducible apply Wf.sIs | with_reducible apply Wf.sLs | with_reducible apply Wf.cpU | with_reducible apply Wf.fillI | with_reducible apply Wf.clU | with_reducible apply Wf.dnF | with_reducible apply Wf.gbW)))) ?_
    refine lf (a_iload_n dX11_finds_22 rfl) ?_
    refine lf (a_ild dX11_finds_23 (ca_359 (by repeat (first | with_reducible exact hw | with_reducible exact hwc | with_reducible assumption | with_reducible apply Wf.sI | with_reducible apply Wf.sL | with_reducible apply Wf.cpI | with_reducible apply Wf.cpL | with_reducible apply Wf.cp2 | with_reducible apply Wf.sIs | with_reducible apply Wf.sLs | with_reducible apply Wf.cpU | with_reducible apply Wf.fillI | with_reducible apply Wf.clU | with_reducible apply Wf.dnF | with_reducible apply Wf.gbW))) (ixn (show qf i < 12 by omega) (by decide))) ?_
    rw [t9]
    refine lf (a_iconst (1 : Int32) dX11_finds_24 (by decide)) ?_
    refine lf (a_isub dX11_finds_25) ?_
    rw [nI_sub1]
    refine lf (a_ist dX11_finds_26 (ca_359 (by repeat (first | with_reducible exact hw | with_reducible exact hwc | with_reducible assumption | with_reducible apply Wf.sI | with_reducible apply Wf.sL | with_reducible apply Wf.cpI | with_reducible apply Wf.cpL | with_reducible apply Wf.cp2 | with_reducible apply Wf.sIs | with_reducible apply Wf.sLs | with_reducible apply Wf.cpU | with_reducible apply Wf.fillI | with_reducible apply Wf.clU | with_reducible apply Wf.dnF | with_reducible apply Wf.gbW))) (ixn (show qf i < 12 by omega) (by decide))) ?_
    refine lf (a_aload_n dX11_finds_27 rfl) ?_
    refine lf (a_getR (cr_338_35 (by repeat (first | with_reducible exact hw | with_reducible exact hwc | with_reducible assumption | with_reducible apply Wf.sI | with_reducible apply Wf.sL | with_reducible apply Wf.cpI | with_reducible apply Wf.cpL | with_reducible apply Wf.cp2 | with_reducible apply Wf.sIs | with_reducible apply Wf.sLs | with_reducible apply Wf.cpU | with_reducible apply Wf.fillI | with_reducible apply Wf.clU | with_reducible apply Wf.dnF | with_reducible apply Wf.gbW))) dX11_finds_28 fs_X11_79 rfl (co_338 (by repeat (first | with_reducible exact hw | with_reducible exact hwc | with_reducible assumption | with_reducible apply Wf.sI | with_reducible apply Wf.sL | with_reducible apply Wf.cpI | with_reducible apply Wf.cpL | with_reducible apply Wf.cp2 | with_reducible apply Wf.sIs | with_reducible apply Wf.sLs | with_reducible apply Wf.cpU | with_reducible apply Wf.fillI | with_reducible apply Wf.clU | with_reducible apply Wf.dnF | with_reducible apply Wf.gbW)))) ?_
    refine lf (a_iload_n dX11_finds_31 rfl) ?_
    refine lf (a_ild dX11_finds_32 (ca_360 (by repeat (first | with_reducible exact hw | with_reducible exact hwc | with_reducible assumption | with_reducible apply Wf.sI | with_reducible apply Wf.sL | with_reducible apply Wf.cpI | with_reducible apply Wf.cpL | with_reducible apply Wf.cp2 | with_reducible apply Wf.sIs | with_reducible apply Wf.sLs | with_reducible apply Wf.cpU | with_reducible apply Wf.fillI | with_reducible apply Wf.clU | with_reducible apply Wf.dnF | with_reducible apply Wf.gbW))) (ixn (show qf i < 12 by omega) (by decide))) ?_
    rw [gI_sI, if_neg (by omega), t0]
    refine lf (a_istore_n dX11_finds_33 (by decide)) ?_
    refine lf (a_loc [(0, .ref 338), (1, .int (nI k)), (2, .int (nI (qf i))), (3, .int (oI (fo (qf i))))] rfl) (fi_L hv0 hk hfk hT.1 (fr1 := up1 fr (qf i) c) (n := n) hB.1 hB.2.1 hEx (i + 1) i (Nat.lt_succ_self i) g _ hi (hO2.sI (S := sMa) ⟨by decide, by decide⟩ _ _) (fun x hx => ?_) (fun m hm => ?_) (fun y hy => ?_) hA.1 (fun m hm => ?_) (fun _ _ _ => rfl) (fun _ _ e _ => e) ((hEx k hk).2 hfk (Nat.le_refl k)) rfl (fun i2 hi2 => hB.2.2.2 i2 (by omega)))
    · rw [gI_sI, if_neg (by omega)]; exact hT2.2.1 x hx
    · rw [gI_sI]
      by_cases e : m = qf i
      · rw [if_pos ⟨rfl, e⟩, e, up1_eq]
      · rw [if_neg (fun z => e z.2), up1_ne e]; exact hT2.2.2 m hm
    · rw [gI_sI, if_neg (by omega)]; exact hW.2 y hy
    · have z := hA.2 m hm
      by_cases e : m = qf i
      · rw [if_pos e, e, up1_eq]; rw [e] at z; omega
      · rw [if_neg e, up1_ne e]; omega
  · refine lf (a_aload_n dX11_finds_0 rfl) ?_
    refine lf (a_iload_n dX11_finds_1 rfl) ?_
    refine lf (a_inv (b2 := (0, 0)) hc rfl dX11_finds_2 yk_X11_freeMeal im_X11_freeMeal se_X11_freeMeal ml_X11_440 rfl (co_338 (by repeat (first | with_reducible exact hw | with_reducible exact hwc | with_reducible assumption | with_reducible apply Wf.sI | with_reducible apply Wf.sL | with_reducible apply Wf.cpI | with_reducible apply Wf.cpL | with_reducible apply Wf.cp2 | with_reducible apply Wf.sIs | with_reducible apply Wf.sLs | with_reducible apply Wf.cpU | with_reducible apply Wf.fillI | with_reducible apply Wf.clU | with_reducible apply Wf.dnF | with_reducible apply Wf.gbW))) (by decide) hc_X11 (by decide) (by decide) (Nat.le_of_ble_eq_true rfl)) ?_
    refine lf (a_istore_n dX11_finds_5 (by decide)) ?_
    refine lf (a_iload_n dX11_finds_6 rfl) ?_
    refine lf (a_iconst (-1 : Int32) dX11_finds_7 (by decide)) ?_
    refine lfn (a_icmp_ne (tgt := 13) dX11_finds_8 (by decide)) (fun h8 => absurd h8 (fun z => z rfl)) (fun h8 => ?_)
    refine lf (a_iconst (0 : Int32) dX11_finds_11 (by decide)) ?_
    refine ⟨_, _, (a_ireturn dX11_finds_12 rfl rfl), ?_⟩
    refine ⟨_, rfl, hO2, Or.inr ⟨rfl, hT2, fun m => (fo m).isSome, fun m hm (hR : (fo m).isSome = true) => r1 m hm (fun z => by rw [z] at hR; cases hR), fun p hp hf hR m hm hs => ?_⟩⟩
    have hz : fo m ≠ none := by
      rcases hR with e | ⟨m2, e5, e6⟩
      · rw [e] at hs; exact r2 m hm hs
      · exact r3 p hp hf ⟨m2, e5, (hA.1 p m2 hp e5).1, fun z => by
          have e6 : (fo m2).isSome = true := e6
          rw [z] at e6; cases e6⟩ m hm hs
    show (fo m).isSome = true
    cases ez : fo m with
    | none => exact absurd ez hz
    | some x => rfl
abbrev R_X11_matches : Room := { frames := 5, cells := 0, slots := 0, locals := 117 }
abbrev RX_X11_matches : Room := { frames := 5, cells := 1, slots := 6, locals := 117 }

/-- the largest matching with what is fixed, if there is one -/
def MaQ2 (μ : Wd) (q : PDt) (d : FDt) (cap : Nat → Nat) (fx : Nat → Option (Option Nat)) (v : Option Value) (V : Wd) : Prop :=
  Out sMa μ V ∧ ((v = some (.int (-1)) ∧ ∀ h, ¬ AlF (suS q d) cap (dP d) (pM q) fx (dP d) h) ∨ ∃ h, AlF (suS q d) cap (dP d) (pM q) fx (dP d) h ∧ v = some (.int (nI (szG h (dP d)))) ∧ ∀ h2, AlF (suS q d) cap (dP d) (pM q) fx (dP d) h2 → szG h2 (dP d) ≤ szG h (dP d))
theorem ma_1 (hv0 : MdV μ q d) (h7 : ∀ p, p < dP d → gI μ 357 p = fI (fx p)) (hfm : ∀ p m, p < dP d → fx p = some (some m) → m < pM q) (hcb : ∀ m, m < pM q → cap m < 2 ^ 30)
    (kx : ∀ W : Wd, Out sMa μ W → (∀ i, i < dP d → gI W 358 i = fI (fx i)) → (∀ m, m < pM q → gI W 359 m = nI (cap m - cntG (joF fx) (dP d) m) ∧ cntG (joF fx) (dP d) m ≤ cap m) → WP Y_X11_matches R_X11_matches (0, 0) W 89 [(0, .ref 338), (1, .int (nI (szG (joF fx) (dP d)))), (2, .int (nI (dP d)))] [] (fun o V => ∃ v, o = .inl v ∧ MaQ2 μ q d cap fx v V)) : ∀ (dd p : Nat) (W : Wd), p + dd = dP d → Out sMa μ W → (∀ i, i < p → gI W 358 i = fI (fx i)) → (∀ m, m < pM q → gI W 359 m = nI (cap m - cntG (joF fx) p m) ∧ cntG (joF fx) p m ≤ cap m) → WP Y_X11_matches R_X11_matches (0, 0) W 8 [(0, .ref 338), (1, .int (nI (szG (joF fx) p))), (2, .int (nI p))] [] (fun o V => ∃ v, o = .inl v ∧ MaQ2 μ q d cap fx v V) := by
  have hM4 := hv0.M4
  have hP4 := hv0.P4
  intro dd
  induction dd with
  | zero =>
    intro p W hp hO h8 h9
    obtain rfl : dP d = p := by omega
    have hw := hO.1
    have hv := hv0.ma hO
    refine lf (a_iload_n dX11_matches_8 rfl) ?_
    refine lf (a_aload_n dX11_matches_9 rfl) ?_
    refine lf (a_getR (cr_338_6 hw) dX11_matches_10 fs_X11_26 rfl (co_338 hw)) ?_
    refine lf (a_iconst (3 : Int32) dX11_matches_13 (by decide)) ?_
    refine lf (a_ild dX11_matches_14 (ca_344 hw) (ixn (m := 3) (by omega) (by decide))) ?_
    rw [hv.s3]
    refine lf2 (a_icmp_ge (tgt := 89) dX11_matches_15 (by decide)) (fun h15 => ?_) (fun h15 => absurd h15 (fun z => z (nI_le (Nat.le_refl _) (by omega))))
    exact lf (a_loc _ rfl) (kx W hO h8 h9)
  | succ dd ih =>
    intro p W hp hO h8 h9
    have hpp : p < dP d := by omega
    have hw := hO.1
    have hv := hv0.ma hO
    have t7 : gI W 357 p = fI (fx p) := (hO.i (fun z => by have := z.1; omega) p).trans (h7 p hpp)
    have hO1 : Out sMa μ (sI W 358 p (fI (fx p))) := hO.sI (S := sMa) ⟨by decide, by decide⟩ _ _
    have h81 : ∀ (X : Wd), (∀ i, gI X 358 i = gI (sI W 358 p (fI (fx p))) 358 i) → ∀ i, i < p + 1 → gI X 358 i = fI (fx i) := fun X hX i hi => by
      rw [hX, gI_sI]
      by_cases e : i = p
      · rw [if_pos ⟨rfl, e⟩, e]
      · rw [if_neg (fun z => e z.2)]; exact h8 i (by omega)
    have hlo : ∀ m, joF fx p ≠ some m → cntG (joF fx) (p + 1) m = cntG (joF fx) p m := fun m hm => by rw [cnt_succ, if_neg hm]; rfl
    have hs0 : joF fx p = none → szG (joF fx) (p + 1) = szG (joF fx) p := fun e => by rw [sz_succ, e]; rfl
    by_cases hno : joF fx p = none
    · have hneg : fI (fx p) < 0 := by
        unfold joF at hno
        cases e : fx p with
        | none => decide
        | some x =>
          rw [e] at hno
          have : x = none := hno
          rw [this]; decide
      refine lf (a_iload_n dX11_matches_8 rfl) ?_
      refine lf (a_aload_n dX11_matches_9 rfl) ?_
      refine lf (a_getR (cr_338_6 (by repeat (first | with_reducible exact hw | with_reducible exact hwc | with_reducible assumption | with_reducible apply Wf.sI | with_reducible apply Wf.sL | with_reducible apply Wf.cpI | with_reducible apply Wf.cpL | with_reducible apply Wf.cp2 | with_reducible apply Wf.sIs | with_reducible apply Wf.sLs | with_reducible apply Wf.cpU | with_reducible apply Wf.fillI | with_reducible apply Wf.clU | with_reducible apply Wf.dnF | with_reducible apply Wf.gbW))) dX11_matches_10 fs_X11_26 rfl (co_338 (by repeat (first | with_reducible exact hw | with_reducible exact hwc | with_reducible assumption | with_reducible apply Wf.sI | with_reducible apply Wf.sL | with_reducible apply Wf.cpI | with_reducible apply Wf.cpL | with_reducible apply Wf.cp2 | with_reducible apply Wf.sIs | with_reducible apply Wf.sLs | with_reducible apply Wf.cpU | with_reducible apply Wf.fillI | with_reducible apply Wf.clU | with_reducible apply Wf.dnF | with_reducible apply Wf.gbW)))) ?_
      refine lf (a_iconst (3 : Int32) dX11_matches_13 (by decide)) ?_
      refine lf (a_ild dX11_matches_14 (ca_344 (by repeat (first | with_reducible exact hw | with_reducible exact hwc | with_reducible assumption | with_reducible apply Wf.sI | with_reducible apply Wf.sL | with_reducible apply Wf.cpI | with_reducible apply Wf.cpL | with_reducible apply Wf.cp2 | with_reducible apply Wf.sIs | with_reducible apply Wf.sLs | with_reducible apply Wf.cpU | with_reducible apply Wf.fillI | with_reducible apply Wf.clU | with_reducible apply Wf.dnF | with_reducible apply Wf.gbW))) (ixn (m := 3) (by omega) (by decide))) ?_
      rw [hv.s3]
      refine lf2 (a_icmp_ge (tgt := 89) dX11_matches_15 (by decide)) (fun h15 => absurd h15 (nI_ge hpp (by omega))) (fun h15 => ?_)
      refine lf (a_aload_n dX11_matches_18 rfl) ?_
      refine lf (a_getR (cr_338_33 (by repeat (first | with_reducible exact hw | with_reducible exact hwc | with_reducible assumption | with_reducible apply Wf.sI | with_reducible apply Wf.sL | with_reducible apply Wf.cpI | with_reducible apply Wf.cpL | with_reducible apply Wf.cp2 | with_reducible apply Wf.sIs | with_reducible apply Wf.sLs | with_reducible apply Wf.cpU | with_reducible apply Wf.fillI | with_reducible apply Wf.clU | with_reducible apply Wf.dnF | with_reducible apply Wf.gbW))) dX11_matches_19 fs_X11_73 rfl (co_338 (by repeat (first | with_reducible exact hw | with_reducible exact hwc | with_reducible assumption | with_reducible apply Wf.sI | with_reducible apply Wf.sL | with_reducible apply Wf.cpI | with_reducible apply Wf.cpL | with_reducible apply Wf.cp2 | with_reducible apply Wf.sIs | with_reducible apply Wf.sLs | with_reducible apply Wf.cpU | with_reducible apply Wf.fillI | with_reducible apply Wf.clU | with_reducible apply Wf.dnF | with_reducible apply Wf.gbW)))) ?_
      refine lf (a_iload_n dX11_matches_22 rfl) ?_
      refine lf (a_aload_n dX11_matches_23 rfl) ?_
      refine lf (a_getR (cr_338_32 (by repeat (first | with_reducible exact hw | with_reducible exact hwc | with_reducible assumption | with_reducible apply Wf.sI | with_reducible apply Wf.sL | with_reducible apply Wf.cpI | with_reducible apply Wf.cpL | with_reducible apply Wf.cp2 | with_reducible apply Wf.sIs | with_reducible apply Wf.sLs | with_reducible apply Wf.cpU | with_reducible apply Wf.fillI | with_reducible apply Wf.clU | with_reducible apply Wf.dnF | with_reducible apply Wf.gbW))) dX11_matches_24 fs_X11_70 rfl (co_338 (by repeat (first | with_reducible exact hw | with_reducible exact hwc | with_reducible assumption | with_reducible apply Wf.sI | with_reducible apply Wf.sL | with_reducible apply Wf.cpI | with_reducible apply Wf.cpL | with_reducible apply Wf.cp2 | with_reducible apply Wf.sIs | with_reducible apply Wf.sLs | with_reducible apply Wf.cpU | with_reducible apply Wf.fillI | with_reducible apply Wf.clU | with_reducible apply Wf.dnF | with_reducible apply Wf.gbW)))) ?_
      refine lf (a_iload_n dX11_matches_27 rfl) ?_
      refine lf (a_ild dX11_matches_28 (ca_357 (by repeat (first | with_reducible exact hw | with_reducible exact hwc | with_reducible assumption | with_reducible apply Wf.sI | with_reducible apply Wf.sL | with_reducible apply Wf.cpI | with_reducible apply Wf.cpL | with_reducible apply Wf.cp2 | with_reducible apply Wf.sIs | with_reducible apply Wf.sLs | with_reducible apply Wf.cpU | with_reducible apply Wf.fillI | with_reducible apply Wf.clU | with_reducible apply Wf.dnF | with_reducible apply Wf.gbW))) (ixn (show p < 40 by omega) (by decide))) ?_
      rw [t7]
      refine lf (a_ist dX11_matches_29 (ca_358 (by repeat (first | with_reducible exact hw | with_reducible exact hwc | with_reducible assumption | with_reducible apply Wf.sI | with_reducible apply Wf.sL | with_reducible apply Wf.cpI | with_reducible apply Wf.cpL | with_reducible apply Wf.cp2 | with_reducible apply Wf.sIs | with_reducible apply Wf.sLs | with_reducible apply Wf.cpU | with_reducible apply Wf.fillI | with_reducible apply Wf.clU | with_reducible apply Wf.dnF | with_reducible apply Wf.gbW))) (ixn (show p < 40 by omega) (by decide))) ?_
      refine lf (a_aload_n dX11_matches_30 rfl) ?_
      refine lf (a_getR (cr_338_32 (by repeat (first | with_reducible exact hw | with_reducible exact hwc | with_reducible assumption | with_reducible apply Wf.sI | with_reducible apply Wf.sL | with_reducible apply Wf.cpI | with_reducible apply Wf.cpL | with_reducible apply Wf.cp2 | with_reducible apply Wf.sIs | with_reducible apply Wf.sLs | with_reducible apply Wf.cpU | with_reducible apply Wf.fillI | with_reducible apply Wf.clU | with_reducible apply Wf.dnF | with_reducible apply Wf.gbW))) dX11_matches_31 fs_X11_70 rfl (co_338 (by repeat (first | with_reducible exact hw | with_reducible exact hwc | with_reducible assumption | with_reducible apply Wf.sI | with_reducible apply Wf.sL | with_reducible apply Wf.cpI | with_reducible apply Wf.cpL | with_reducible apply Wf.cp2 | with_reducible apply Wf.sIs | with_reducible apply Wf.sLs | with_reducible apply Wf.cpU | with_reducible apply Wf.fillI | with_reducible apply Wf.clU | with_reducible apply Wf.dnF | with_reducible apply Wf.gbW)))) ?_
      refine lf (a_iload_n dX11_matches_34 rfl) ?_
      refine lf (a_ild dX11_matches_35 (ca_357 (by repeat (first | with_reducible exact hw | with_reducible exact hwc | with_reducible assumption | with_reducible apply Wf.sI | with_reducible apply Wf.sL | with_reducible apply Wf.cpI | with_reducible apply Wf.cpL | with_reducible apply Wf.cp2 | with_reducible apply Wf.sIs | with_reducible apply Wf.sLs | with_reducible apply Wf.cpU | with_reducible apply Wf.fillI | with_reducible apply Wf.clU | with_reducible apply Wf.dnF | with_reducible apply Wf.gbW))) (ixn (show p < 40 by omega) (by decide))) ?_
      rw [gI_sI, if_neg (by omega), t7]
      refine lf2 (a_if_lt (tgt := 83) dX11_matches_36 (by decide)) (fun h36 => ?_) (fun h36 => absurd h36 (fun z => z hneg))
      refine lf (a_iincN dX11_matches_83 rfl (by decide)) ?_
      refine lf (a_goto (tgt := 8) dX11_matches_86 (by decide)) ?_
      refine lf (a_loc [(0, .ref 338), (1, .int (nI (szG (joF fx) (p + 1)))), (2, .int (nI (p + 1)))] (by rw [hs0 hno]; rfl)) (ih (p + 1) _ (by omega) hO1 (h81 _ (fun _ => rfl)) (fun m hm => ?_))
      rw [gI_sI, if_neg (by omega), hlo m (by rw [hno]; exact fun z => nomatch z)]
      exact h9 m hm
    obtain ⟨x, hx⟩ : ∃ x, joF fx p = some x := by
      cases e : joF fx p with
      | none => exact absurd e hno
      | some x => exact ⟨x, rfl⟩
    have hfx : fx p = some (some x) := by
      unfold joF at hx
      cases e : fx p with
      | none => rw [e] at hx; cases hx
      | some y2 => rw [e] at hx; exact congrArg some hx
    have hxm := hfm p x hpp hfx
    have eF : fI (fx p) = nI x := by rw [hfx]; rfl
    obtain ⟨h9a, h9b⟩ := h9 x hxm
    have hcx := hcb x hxm
    have hs1 : szG (joF fx) (p + 1) = szG (joF fx) p + 1 := by rw [sz_succ, hx]; rfl
    have hcs : cntG (joF fx) (p + 1) x = cntG (joF fx) p x + 1 := by rw [cnt_succ, if_pos hx]
    have hsz : szG (joF fx) p ≤ p := fb_ct_le _ _
    rw [eF] at t7 hO1 h81
    by_cases hz : cap x - cntG (joF fx) p x = 0
    · have hb : cap x < cntG (joF fx) (p + 1) x := by omega
      refine lf (a_iload_n dX11_matches_8 rfl) ?_
      refine lf (a_aload_n dX11_matches_9 rfl) ?_
      refine lf (a_getR (cr_338_6 (by repeat (first | with_reducible exact hw | with_reducible exact hwc | with_reducible assumption | with_reducible apply Wf.sI | with_reducible apply Wf.sL | with_reducible apply Wf.cpI | with_reducible apply Wf.cpL | with_reducible apply Wf.cp2 | with_reducible apply Wf.sIs | with_reducible apply Wf.sLs | with_reducible apply Wf.cpU | with_reducible apply Wf.fillI | with_reducible apply Wf.clU | with_reducible apply Wf.dnF | with_reducible apply Wf.gbW))) dX11_matches_10 fs_X11_26 rfl (co_338 (by repeat (first | with_reducible exact hw | with_reducible exact hwc | with_reducible assumption | with_reducible apply Wf.sI | with_reducible apply Wf.sL | with_reducible apply Wf.cpI | with_reducible apply Wf.cpL | with_reducible apply Wf.cp2 | with_reducible apply Wf.sIs | with_reducible apply Wf.sLs | with_reducible apply Wf.cpU | with_reducible apply Wf.fillI | with_reducible apply Wf.clU | with_reducible apply Wf.dnF | with_reducible apply Wf.gbW)))) ?_
      refine lf (a_iconst (3 : Int32) dX11_matches_13 (by decide)) ?_
      refine lf (a_ild dX11_matches_14 (ca_344 (by repeat (first | with_reducible exact hw | with_reducible exact hwc | with_reducible assumption | with_reducible apply Wf.sI | with_reducible apply Wf.sL | with_reducible apply Wf.cpI | with_reducible apply Wf.cpL | with_reducible apply Wf.cp2 | with_reducible apply Wf.sIs | with_reducible apply Wf.sLs | with_reducible apply Wf.cpU | with_reducible apply Wf.fillI | with_reducible apply Wf.clU | with_reducible apply Wf.dnF | with_reducible apply Wf.gbW))) (ixn (m := 3) (by omega) (by decide))) ?_
      rw [hv.s3]
      refine lf2 (a_icmp_ge (tgt := 89) dX11_matches_15 (by decide)) (fun h15 => absurd h15 (nI_ge hpp (by omega))) (fun h15 => ?_)
      refine lf (a_aload_n dX11_matches_18 rfl) ?_
      refine lf (a_getR (cr_338_33 (by repeat (first | with_reducible exact hw | with_reducible exact hwc | with_reducible assumption | with_reducible apply Wf.sI | with_reducible apply Wf.sL | with_reducible apply Wf.cpI | with_reducible apply Wf.cpL | with_reducible apply Wf.cp2 | with_reducible apply Wf.sIs | with_reducible apply Wf.sLs | with_reducible apply Wf.cpU | with_reducible apply Wf.fillI | with_reducible apply Wf.clU | with_reducible apply Wf.dnF | with_reducible apply Wf.gbW))) dX11_matches_19 fs_X11_73 rfl (co_338 (by repeat (first | with_reducible exact hw | with_reducible exact hwc | with_reducible assumption | with_reducible apply Wf.sI | with_reducible apply Wf.sL | with_reducible apply Wf.cpI | with_reducible apply Wf.cpL | with_reducible apply Wf.cp2 | with_reducible apply Wf.sIs | with_reducible apply Wf.sLs | with_reducible apply Wf.cpU | with_reducible apply Wf.fillI | with_reducible apply Wf.clU | with_reducible apply Wf.dnF | with_reducible apply Wf.gbW)))) ?_
      refine lf (a_iload_n dX11_matches_22 rfl) ?_
      refine lf (a_aload_n dX11_matches_23 rfl) ?_
      refine lf (a_getR (cr_338_32 (by repeat (first | with_reducible exact hw | with_reducible exact hwc | with_reducible assumption | with_reducible apply Wf.sI | with_reducible apply Wf.sL | with_reducible apply Wf.cpI | with_reducible apply Wf.cpL | with_reducible apply Wf.cp2 | with_reducible apply Wf.sIs | with_reducible apply Wf.sLs | with_reducible apply Wf.cpU | with_reducible apply Wf.fillI | with_reducible apply Wf.clU | with_reducible apply Wf.dnF | with_reducible apply Wf.gbW))) dX11_matches_24 fs_X11_70 rfl (co_338 (by repeat (first | with_reducible exact hw | with_reducible exact hwc | with_reducible assumption | with_reducible apply Wf.sI | with_reducible apply Wf.sL | with_reducible apply Wf.cpI | with_reducible apply Wf.cpL | with_reducible apply Wf.cp2 | with_reducible apply Wf.sIs | with_reducible apply Wf.sLs | with_reducible apply Wf.cpU | with_reducible apply Wf.fillI | with_reducible apply Wf.clU | with_reducible apply Wf.dnF | with_reducible apply Wf.gbW)))) ?_
      refine lf (a_iload_n dX11_matches_27 rfl) ?_
      refine lf (a_ild dX11_matches_28 (ca_357 (by repeat (first | with_reducible exact hw | with_reducible exact hwc | with_reducible assumption | with_reducible apply Wf.sI | with_reducible apply Wf.sL | with_reducible apply Wf.cpI | with_reducible apply Wf.cpL | with_reducible apply Wf.cp2 | with_reducible apply Wf.sIs | with_reducible apply Wf.sLs | with_reducible apply Wf.cpU | with_reducible apply Wf.fillI | with_reducible apply Wf.clU | with_reducible apply Wf.dnF | with_reducible apply Wf.gbW))) (ixn (show p < 40 by omega) (by decide))) ?_
      rw [t7]
      refine lf (a_ist dX11_matches_29 (ca_358 (by repeat (first | with_reducible exact hw | with_reducible exact hwc | with_reducible assumption | with_reducible apply Wf.sI | with_reducible apply Wf.sL | with_reducible apply Wf.cpI | with_reducible apply Wf.cpL | with_reducible apply Wf.cp2 | with_reducible apply Wf.sIs | with_reducible apply Wf.sLs | with_reducible apply Wf.cpU | with_reducible apply Wf.fillI | with_reducible apply Wf.clU | with_reducible apply Wf.dnF | with_reducible apply Wf.gbW))) (ixn (show p < 40 by omega) (by decide))) ?_
      refine lf (a_aload_n dX11_matches_30 rfl) ?_
      refine lf (a_getR (cr_338_32 (by repeat (first | with_reducible exact hw | with_reducible exact hwc | with_reducible assumption | with_reducible apply Wf.sI | with_reducible apply Wf.sL | with_reducible apply Wf.cpI | with_reducible apply Wf.cpL | with_reducible apply Wf.cp2 | with_reducible apply Wf.sIs | with_reducible apply Wf.sLs | with_reducible apply Wf.cpU | with_reducible apply Wf.fillI | with_reducible apply Wf.clU | with_reducible apply Wf.dnF | with_reducible apply Wf.gbW))) dX11_matches_31 fs_X11_70 rfl (co_338 (by repeat (first | with_reducible exact hw | with_reducible exact hwc | with_reducible assumption | with_reducible apply Wf.sI | with_reducible apply Wf.sL | with_reducible apply Wf.cpI | with_reducible apply Wf.cpL | with_reducible apply Wf.cp2 | with_reducible apply Wf.sIs | with_reducible apply Wf.sLs | with_reducible apply Wf.cpU | with_reducible apply Wf.fillI | with_reducible apply Wf.clU | with_reducible apply Wf.dnF | with_reducible apply Wf.gbW)))) ?_
      refine lf (a_iload_n dX11_matches_34 rfl) ?_
      refine lf (a_ild dX11_matches_35 (ca_357 (by repeat (first | with_reducible exact hw | with_reducible exact hwc | with_reducible assumption | with_reducible apply Wf.sI | with_reducible apply Wf.sL | with_reducible apply Wf.cpI | with_reducible apply Wf.cpL | with_reducible apply Wf.cp2 | with_reducible apply Wf.sIs | with_reducible apply Wf.sLs | with_reducible apply Wf.cpU | with_reducible apply Wf.fillI | with_reducible apply Wf.clU | with_reducible apply Wf.dnF | with_reducible apply Wf.gbW))) (ixn (show p < 40 by omega) (by decide))) ?_
      rw [gI_sI, if_neg (by omega), t7]
      refine lf2 (a_if_lt (tgt := 83) dX11_matches_36 (by decide)) (fun h36 => absurd h36 (nI_pos (n := x) (by omega))) (fun h36 => ?_)
      refine lf (a_aload_n dX11_matches_39 rfl) ?_
      refine lf (a_getR (cr_338_34 (by repeat (first | with_reducible exact hw | with_reducible exact hwc | with_reducible assumption | with_reducible apply Wf.sI | with_reducible apply Wf.sL | with_reducible apply Wf.cpI | with_reducible apply Wf.cpL | with_reducible apply Wf.cp2 | with_reducible apply Wf.sIs | with_reducible apply Wf.sLs | with_reducible apply Wf.cpU | with_reducible apply Wf.fillI | with_reducible apply Wf.clU | with_reducible apply Wf.dnF | with_reducible apply Wf.gbW))) dX11_matches_40 fs_X11_76 rfl (co_338 (by repeat (first | with_reducible exact hw | with_reducible exact hwc | with_reducible assumption | with_reducible apply Wf.sI | with_reducible apply Wf.sL | with_reducible apply Wf.cpI | with_reducible apply Wf.cpL | with_reducible apply Wf.cp2 | with_reducible apply Wf.sIs | with_reducible apply Wf.sLs | with_reducible apply Wf.cpU | with_reducible apply Wf.fillI | with_reducible apply Wf.clU | with_reducible apply Wf.dnF | with_reducible apply Wf.gbW)))) ?_
      refine lf (a_aload_n dX11_matches_43 rfl) ?_
      refine lf (a_getR (cr_338_32 (by repeat (first | with_reducible exact hw | with_reducible exact hwc | with_reducible assumption | with_reducible apply Wf.sI | with_reducible apply Wf.sL | with_reducible apply Wf.cpI | with_reducible apply Wf.cpL | with_reducible apply Wf.cp2 | with_reducible apply Wf.sIs | with_reducible apply Wf.sLs | with_reducible apply Wf.cpU | with_reducible apply Wf.fillI | with_reducible apply Wf.clU | with_reducible apply Wf.dnF | with_reducible apply Wf.gbW))) dX11_matches_44 fs_X11_70 rfl (co_338 (by repeat (first | with_reducible exact hw | with_reducible exact hwc | with_reducible assumption | with_reducible apply Wf.sI | with_reducible apply Wf.sL | with_reducible apply Wf.cpI | with_reducible apply Wf.cpL | with_reducible apply Wf.cp2 | with_reducible apply Wf.sIs | with_reducible apply Wf.sLs | with_reducible apply Wf.cpU | with_reducible apply Wf.fillI | with_reducible apply Wf.clU | with_reducible apply Wf.dnF | with_reducible apply Wf.gbW)))) ?_
      refine lf (a_iload_n dX11_matches_47 rfl) ?_
      refine lf (a_ild dX11_matches_48 (ca_357 (by repeat (first | with_reducible exact hw | with_reducible exact hwc | with_reducible assumption | with_reducible apply Wf.sI | with_reducible apply Wf.sL | with_reducible apply Wf.cpI | with_reducible apply Wf.cpL | with_reducible apply Wf.cp2 | with_reducible apply Wf.sIs | with_reducible apply Wf.sLs | with_reducible apply Wf.cpU | with_reducible apply Wf.fillI | with_reducible apply Wf.clU | with_reducible apply Wf.dnF | with_reducible apply Wf.gbW))) (ixn (show p < 40 by omega) (by decide))) ?_
      rw [gI_sI, if_neg (by omega), t7]
      refine lf (a_aload_n dX11_matches_49 rfl) ?_
      refine lf (a_getR (cr_338_34 (by repeat (first | with_reducible exact hw | with_reducible exact hwc | with_reducible assumption | with_reducible apply Wf.sI | with_reducible apply Wf.sL | with_reducible apply Wf.cpI | with_reducible apply Wf.cpL | with_reducible apply Wf.cp2 | with_reducible apply Wf.sIs | with_reducible apply Wf.sLs | with_reducible apply Wf.cpU | with_reducible apply Wf.fillI | with_reducible apply Wf.clU | with_reducible apply Wf.dnF | with_reducible apply Wf.gbW))) dX11_matches_50 fs_X11_76 rfl (co_338 (by repeat (first | with_reducible exact hw | with_reducible exact hwc | with_reducible assumption | with_reducible apply Wf.sI | with_reducible apply Wf.sL | with_reducible apply Wf.cpI | with_reducible apply Wf.cpL | with_reducible apply Wf.cp2 | with_reducible apply Wf.sIs | with_reducible apply Wf.sLs | with_reducible apply Wf.cpU | with_reducible apply Wf.fillI | with_reducible apply Wf.clU | with_reducible apply Wf.dnF | with_reducible apply Wf.gbW)))) ?_
      refine lf (a_aload_n dX11_matches_53 rfl) ?_
      refine lf (a_getR (cr_338_32 (by repeat (first | with_reducible exact hw | with_reducible exact hwc | with_reducible assumption | with_reducible apply Wf.sI | with_reducible apply Wf.sL | with_reducible apply Wf.cpI | with_reducible apply Wf.cpL | with_reducible apply Wf.cp2 | with_reducible apply Wf.sIs | with_reducible apply Wf.sLs | with_reducible apply Wf.cpU | with_reducible apply Wf.fillI | with_reducible apply Wf.clU | with_reducible apply Wf.dnF | with_reducible apply Wf.gbW))) dX11_matches_54 fs_X11_70 rfl (co_338 (by repeat (first | with_reducible exact hw | with_reducible exact hwc | with_reducible assumption | with_reducible apply Wf.sI | with_reducible apply Wf.sL | with_reducible apply Wf.cpI | with_reducible apply Wf.cpL | with_reducible apply Wf.cp2 | with_reducible apply Wf.sIs | with_reducible apply Wf.sLs | with_reducible apply Wf.cpU | with_reducible apply Wf.fillI | with_reducible apply Wf.clU | with_reducible apply Wf.dnF | with_reducible apply Wf.gbW)))) ?_
      refine lf (a_iload_n dX11_matches_57 rfl) ?_
      refine lf (a_ild dX11_matches_58 (ca_357 (by repeat (first | with_reducible exact hw | with_reducible exact hwc | with_reducible assumption | with_reducible apply Wf.sI | with_reducible apply Wf.sL | with_reducible apply Wf.cpI | with_reducible apply Wf.cpL | with_reducible apply Wf.cp2 | with_reducible apply Wf.sIs | with_reducible apply Wf.sLs | with_reducible apply Wf.cpU | with_reducible apply Wf.fillI | with_reducible apply Wf.clU | with_reducible apply Wf.dnF | with_reducible apply Wf.gbW))) (ixn (show p < 40 by omega) (by decide))) ?_
      rw [gI_sI, if_neg (by omega), t7]
      refine lf (a_ild dX11_matches_59 (ca_359 (by repeat (first | with_reducible exact hw | with_reducible exact hwc | with_reducible assumption | with_reducible apply Wf.sI | with_reducible apply Wf.sL | with_reducible apply Wf.cpI | with_reducible apply Wf.cpL | with_reducible apply Wf.cp2 | with_reducible apply Wf.sIs | with_reducible apply Wf.sLs | with_reducible apply Wf.cpU | with_reducible apply Wf.fillI | with_reducible apply Wf.clU | with_reducible apply Wf.dnF | with_reducible apply Wf.gbW))) (ixn (show x < 12 by omega) (by decide))) ?_
      rw [gI_sI, if_neg (by omega), h9a, hz]
      refine lf (a_iconst (1 : Int32) dX11_matches_60 (by decide)) ?_
      refine lf (a_isub dX11_matches_61) ?_
      rw [show nI 0 - 1 = (-1 : Int32) from by decide]
      refine lf (a_ist dX11_matches_62 (ca_359 (by repeat (first | with_reducible exact hw | with_reducible exact hwc | with_reducible assumption | with_reducible apply Wf.sI | with_reducible apply Wf.sL | with_reducible apply Wf.cpI | with_reducible apply Wf.cpL | with_reducible apply Wf.cp2 | with_reducible apply Wf.sIs | with_reducible apply Wf.sLs | with_reducible apply Wf.cpU | with_reducible apply Wf.fillI | with_reducible apply Wf.clU | with_reducible apply Wf.dnF | with_reducible apply Wf.gbW))) (ixn (show x < 12 by omega) (by decide))) ?_
      refine lf (a_iload_n dX11_matches_63 rfl) ?_
      refine lf (a_iconst (1 : Int32) dX11_matches_64 (by decide)) ?_
      refine lf (a_iadd dX11_matches_65) ?_
      refine lf (a_istore_n dX11_matches_66 (by decide)) ?_
      refine lf (a_aload_n dX11_matches_67 rfl) ?_
      refine lf (a_getR (cr_338_34 (by repeat (first | with_reducible exact hw | with_reducible exact hwc | with_reducible assumption | with_reducible apply Wf.sI | with_reducible apply Wf.sL | with_reducible apply Wf.cpI | with_reducible apply Wf.cpL | with_reducible apply Wf.cp2 | with_reducible apply Wf.sIs | with_reducible apply Wf.sLs | with_reducible apply Wf.cpU | with_reducible apply Wf.fillI | with_reducible apply Wf.clU | with_reducible apply Wf.dnF | with_reducible apply Wf.gbW))) dX11_matches_68 fs_X11_76 rfl (co_338 (by repeat (first | with_reducible exact hw | with_reducible exact hwc | with_reducible assumption | with_reducible apply Wf.sI | with_reducible apply Wf.sL | with_reducible apply Wf.cpI | with_reducible apply Wf.cpL | with_reducible apply Wf.cp2 | with_reducible apply Wf.sIs | with_reducible apply Wf.sLs | with_reducible apply Wf.cpU | with_reducible apply Wf.fillI | with_reducible apply Wf.clU | with_reducible apply Wf.dnF | with_reducible apply Wf.gbW)))) ?_
      refine lf (a_aload_n dX11_matches_71 rfl) ?_
      refine lf (a_getR (cr_338_32 (by repeat (first | with_reducible exact hw | with_reducible exact hwc | with_reducible assumption | with_reducible apply Wf.sI | with_reducible apply Wf.sL | with_reducible apply Wf.cpI | with_reducible apply Wf.cpL | with_reducible apply Wf.cp2 | with_reducible apply Wf.sIs | with_reducible apply Wf.sLs | with_reducible apply Wf.cpU | with_reducible apply Wf.fillI | with_reducible apply Wf.clU | with_reducible apply Wf.dnF | with_reducible apply Wf.gbW))) dX11_matches_72 fs_X11_70 rfl (co_338 (by repeat (first | with_reducible exact hw | with_reducible exact hwc | with_reducible assumption | with_reducible apply Wf.sI | with_reducible apply Wf.sL | with_reducible apply Wf.cpI | with_reducible apply Wf.cpL | with_reducible apply Wf.cp2 | with_reducible apply Wf.sIs | with_reducible apply Wf.sLs | with_reducible apply Wf.cpU | with_reducible apply Wf.fillI | with_reducible apply Wf.clU | with_reducible apply Wf.dnF | with_reducible apply Wf.gbW)))) ?_
      refine lf (a_iload_n dX11_matches_75 rfl) ?_
      refine lf (a_ild dX11_matches_76 (ca_357 (by repeat (first | with_reducible exact hw | with_reducible exact hwc | with_reducible assumption | with_reducible apply Wf.sI | with_reducible apply Wf.sL | with_reducible apply Wf.cpI | with_reducible apply Wf.cpL | with_reducible apply Wf.cp2 | with_reducible apply Wf.sIs | with_reducible apply Wf.sLs | with_reducible apply Wf.cpU | with_reducible apply Wf.fillI | with_reducible apply Wf.clU | with_reducible apply Wf.dnF | with_reducible apply Wf.gbW))) (ixn (show p < 40 by omega) (by decide))) ?_
      rw [gI_sI, if_neg (by omega), gI_sI, if_neg (by omega), t7]
      refine lf (a_ild dX11_matches_77 (ca_359 (by repeat (first | with_reducible exact hw | with_reducible exact hwc | with_reducible assumption | with_reducible apply Wf.sI | with_reducible apply Wf.sL | with_reducible apply Wf.cpI | with_reducible apply Wf.cpL | with_reducible apply Wf.cp2 | with_reducible apply Wf.sIs | with_reducible apply Wf.sLs | with_reducible apply Wf.cpU | with_reducible apply Wf.fillI | with_reducible apply Wf.clU | with_reducible apply Wf.dnF | with_reducible apply Wf.gbW))) (ixn (show x < 12 by omega) (by decide))) ?_
      rw [gI_sI, if_pos ⟨rfl, rfl⟩]
      refine lf2 (a_if_ge (tgt := 83) dX11_matches_78 (by decide)) (fun h78 => absurd h78 (by decide)) (fun h78 => ?_)
      refine lf (a_iconst (-1 : Int32) dX11_matches_81 (by decide)) ?_
      refine ⟨_, _, (a_ireturn dX11_matches_82 rfl rfl), ?_⟩
      exact ⟨_, rfl, hO1.sI (S := sMa) ⟨by decide, by decide⟩ _ _, Or.inl ⟨rfl, fun h hh => jo_bad hpp hxm hb hh⟩⟩
    obtain ⟨c, hc⟩ : ∃ c, cap x - cntG (joF fx) p x = c + 1 := ⟨cap x - cntG (joF fx) p x - 1, by omega⟩
    refine lf (a_iload_n dX11_matches_8 rfl) ?_
    refine lf (a_aload_n dX11_matches_9 rfl) ?_
    refine lf (a_getR (cr_338_6 (by repeat (first | with_reducible exact hw | with_reducible exact hwc | with_reducible assumption | with_reducible apply Wf.sI | with_reducible apply Wf.sL | with_reducible apply Wf.cpI | with_reducible apply Wf.cpL | with_reducible apply Wf.cp2 | with_reducible apply Wf.sIs | with_reducible apply Wf.sLs | with_reducible apply Wf.cpU | with_reducible apply Wf.fillI | with_reducible apply Wf.clU | with_reducible apply Wf.dnF | with_reducible apply Wf.gbW))) dX11_matches_10 fs_X11_26 rfl (co_338 (by repeat (first | with_reducible exact hw | with_reducible exact hwc | with_reducible assumption | with_reducible apply Wf.sI | with_reducible apply Wf.sL | with_reducible apply Wf.cpI | with_reducible apply Wf.cpL | with_reducible apply Wf.cp2 | with_reducible apply Wf.sIs | with_reducible apply Wf.sLs | with_reducible apply Wf.cpU | with_reducible apply Wf.fillI | with_reducible apply Wf.clU | with_reducible apply Wf.dnF | with_reducible apply Wf.gbW)))) ?_
    refine lf (a_iconst (3 : Int32) dX11_matches_13 (by decide)) ?_
    refine lf (a_ild dX11_matches_14 (ca_344 (by repeat (first | with_reducible exact hw | with_reducible exact hwc | with_reducible assumption | with_reducible apply Wf.sI | with_reducible apply Wf.sL | with_reducible apply Wf.cpI | with_reducible apply Wf.cpL | with_reducible apply Wf.cp2 | with_reducible apply Wf.sIs | with_reducible apply Wf.sLs | with_reducible apply Wf.cpU | with_reducible apply Wf.fillI | with_reducible apply Wf.clU | with_reducible apply Wf.dnF | with_reducible apply Wf.gbW))) (ixn (m := 3) (by omega) (by decide))) ?_
    rw [hv.s3]
    refine lf2 (a_icmp_ge (tgt := 89) dX11_matches_15 (by decide)) (fun h15 => absurd h15 (nI_ge hpp (by omega))) (fun h15 => ?_)
    refine lf (a_aload_n dX11_matches_18 rfl) ?_
    refine lf (a_getR (cr_338_33 (by repeat (first | with_reducible exact hw | with_reducible exact hwc | with_reducible assumption | with_reducible apply Wf.sI | with_reducible apply Wf.sL | with_reducible apply Wf.cpI | with_reducible apply Wf.cpL | with_reducible apply Wf.cp2 | with_reducible apply Wf.sIs | with_reducible apply Wf.sLs | with_reducible apply Wf.cpU | with_reducible apply Wf.fillI | with_reducible apply Wf.clU | with_reducible apply Wf.dnF | with_reducible apply Wf.gbW))) dX11_matches_19 fs_X11_73 rfl (co_338 (by repeat (first | with_reducible exact hw | with_reducible exact hwc | with_reducible assumption | with_reducible apply Wf.sI | with_reducible apply Wf.sL | with_reducible apply Wf.cpI | with_reducible apply Wf.cpL | with_reducible apply Wf.cp2 | with_reducible apply Wf.sIs | with_reducible apply Wf.sLs | with_reducible apply Wf.cpU | with_reducible apply Wf.fillI | with_reducible apply Wf.clU | with_reducible apply Wf.dnF | with_reducible apply Wf.gbW)))) ?_
    refine lf (a_iload_n dX11_matches_22 rfl) ?_
    refine lf (a_aload_n dX11_matches_23 rfl) ?_
    refine lf (a_getR (cr_338_32 (by repeat (first | with_reducible exact hw | with_reducible exact hwc | with_reducible assumption | with_reducible apply Wf.sI | with_reducible apply Wf.sL | with_reducible apply Wf.cpI | with_reducible apply Wf.cpL | with_reducible apply Wf.cp2 | with_reducible apply Wf.sIs | with_reducible apply Wf.sLs | with_reducible apply Wf.cpU | with_reducible apply Wf.fillI | with_reducible apply Wf.clU | with_reducible apply Wf.dnF | with_reducible apply Wf.gbW))) dX11_matches_24 fs_X11_70 rfl (co_338 (by repeat (first | with_reducible exact hw | with_reducible exact hwc | with_reducible assumption | with_reducible apply Wf.sI | with_reducible apply Wf.sL | with_reducible apply Wf.cpI | with_reducible apply Wf.cpL | with_reducible apply Wf.cp2 | with_reducible apply Wf.sIs | with_reducible apply Wf.sLs | with_reducible apply Wf.cpU | with_reducible apply Wf.fillI | with_reducible apply Wf.clU | with_reducible apply Wf.dnF | with_reducible apply Wf.gbW)))) ?_
    refine lf (a_iload_n dX11_matches_27 rfl) ?_
    refine lf (a_ild dX11_matches_28 (ca_357 (by repeat (first | with_reducible exact hw | with_reducible exact hwc | with_reducible assumption | with_reducible apply Wf.sI | with_reducible apply Wf.sL | with_reducible apply Wf.cpI | with_reducible apply Wf.cpL | with_reducible apply Wf.cp2 | with_reducible apply Wf.sIs | with_reducible apply Wf.sLs | with_reducible apply Wf.cpU | with_reducible apply Wf.fillI | with_reducible apply Wf.clU | with_reducible apply Wf.dnF | with_reducible apply Wf.gbW))) (ixn (show p < 40 by omega) (by decide))) ?_
    rw [t7]
    refine lf (a_ist dX11_matches_29 (ca_358 (by repeat (first | with_reducible exact hw | with_reducible exact hwc | with_reducible assumption | with_reducible apply Wf.sI | with_reducible apply Wf.sL | with_reducible apply Wf.cpI | with_reducible apply Wf.cpL | with_reducible apply Wf.cp2 | with_reducible apply Wf.sIs | with_reducible apply Wf.sLs | with_reducible apply Wf.cpU | with_reducible apply Wf.fillI | with_reducible apply Wf.clU | with_reducible apply Wf.dnF | with_reducible apply Wf.gbW))) (ixn (show p < 40 by omega) (by decide))) ?_
    refine lf (a_aload_n dX11_matches_30 rfl) ?_
    refine lf (a_getR (cr_338_32 (by repeat (first | with_reducible exact hw | with_reducible exact hwc | with_reducible assumption | with_reducible apply Wf.sI | with_reducible apply Wf.sL | with_reducible apply Wf.cpI | with_reducible apply Wf.cpL | with_reducible apply Wf.cp2 | with_reducible apply Wf.sIs | with_reducible apply Wf.sLs | with_reducible apply Wf.cpU | with_reducible apply Wf.fillI | with_reducible apply Wf.clU | with_reducible apply Wf.dnF | with_reducible apply Wf.gbW))) dX11_matches_31 fs_X11_70 rfl (co_338 (by repeat (first | with_reducible exact hw | with_reducible exact hwc | with_reducible assumption | with_reducible apply Wf.sI | with_reducible apply Wf.sL | with_reducible apply Wf.cpI | with_reducible apply Wf.cpL | with_reducible apply Wf.cp2 | with_reducible apply Wf.sIs | with_reducible apply Wf.sLs | with_reducible apply Wf.cpU | with_reducible apply Wf.fillI | with_reducible apply Wf.clU | with_reducible apply Wf.dnF | with_reducible apply Wf.gbW)))) ?_
    refine lf (a_iload_n dX11_matches_34 rfl) ?_
    refine lf (a_ild dX11_matches_35 (ca_357 (by repeat (first | with_reducible exact hw | with_reducible exact hwc | with_reducible assumption | with_reducible apply Wf.sI | with_reducible apply Wf.sL | with_reducible apply Wf.cpI | with_reducible apply Wf.cpL | with_reducible apply Wf.cp2 | with_reducible apply Wf.sIs | with_reducible apply Wf.sLs | with_reducible apply Wf.cpU | with_reducible apply Wf.fillI | with_reducible apply Wf.clU | with_reducible apply Wf.dnF | with_reducible apply Wf.gbW))) (ixn (show p < 40 by omega) (by decide))) ?_
    rw [gI_sI, if_neg (by omega), t7]
    refine lf2 (a_if_lt (tgt := 83) dX11_matches_36 (by decide)) (fun h36 => absurd h36 (nI_pos (n := x) (by omega))) (fun h36 => ?_)
    refine lf (a_aload_n dX11_matches_39 rfl) ?_
    refine lf (a_getR (cr_338_34 (by repeat (first | with_reducible exact hw | with_reducible exact hwc | with_reducible assumption | with_reducible apply Wf.sI | with_reducible apply Wf.sL | with_reducible apply Wf.cpI | with_reducible apply Wf.cpL | with_reducible apply Wf.cp2 | with_reducible apply Wf.sIs | with_reducible apply Wf.sLs | with_reducible apply Wf.cpU | with_reducible apply Wf.fillI | with_reducible apply Wf.clU | with_reducible apply Wf.dnF | with_reducible apply Wf.gbW))) dX11_matches_40 fs_X11_76 rfl (co_338 (by repeat (first | with_reducible exact hw | with_reducible exact hwc | with_reducible assumption | with_reducible apply Wf.sI | with_reducible apply Wf.sL | with_reducible apply Wf.cpI | with_reducible apply Wf.cpL | with_reducible apply Wf.cp2 | with_reducible apply Wf.sIs | with_reducible apply Wf.sLs | with_reducible apply Wf.cpU | with_reducible apply Wf.fillI | with_reducible apply Wf.clU | with_reducible apply Wf.dnF | with_reducible apply Wf.gbW)))) ?_
    refine lf (a_aload_n dX11_matches_43 rfl) ?_
    refine lf (a_getR (cr_338_32 (by repeat (first | with_reducible exact hw | with_reducible exact hwc | with_reducible assumption | with_reducible apply Wf.sI | with_reducible apply Wf.sL | with_reducible apply Wf.cpI | with_reducible apply Wf.cpL | with_reducible apply Wf.cp2 | with_reducible apply Wf.sIs | with_reducible apply Wf.sLs | with_reducible apply Wf.cpU | with_reducible apply Wf.fillI | with_reducible apply Wf.clU | with_reducible apply Wf.dnF | with_reducible apply Wf.gbW))) dX11_matches_44 fs_X11_70 rfl (co_338 (by repeat (first | with_reducible exact hw | with_reducible exact hwc | with_reducible assumption | with_reducible apply Wf.sI | with_reducible apply Wf.sL | with_reducible apply Wf.cpI | with_reducible apply Wf.cpL | with_reducible apply Wf.cp2 | with_reducible apply Wf.sIs | with_reducible apply Wf.sLs | with_reducible apply Wf.cpU | with_reducible apply Wf.fillI | with_reducible apply Wf.clU | with_reducible apply Wf.dnF | with_reducible apply Wf.gbW)))) ?_
    refine lf (a_iload_n dX11_matches_47 rfl) ?_
    refine lf (a_ild dX11_matches_48 (ca_357 (by repeat (first | with_reducible exact hw | with_reducible exact hwc | with_reducible assumption | with_reducible apply Wf.sI | with_reducible apply Wf.sL | with_reducible apply Wf.cpI | with_reducible apply Wf.cpL | with_reducible apply Wf.cp2 | with_reducible apply Wf.sIs | with_reducible apply Wf.sLs | with_reducible apply Wf.cpU | with_reducible apply Wf.fillI | with_reducible apply Wf.clU | with_reducible apply Wf.dnF | with_reducible apply Wf.gbW))) (ixn (show p < 40 by omega) (by decide))) ?_
    rw [gI_sI, if_neg (by omega), t7]
    refine lf (a_aload_n dX11_matches_49 rfl) ?_
    refine lf (a_getR (cr_338_34 (by repeat (first | with_reducible exact hw | with_reducible exact hwc | with_reducible assumption | with_reducible apply Wf.sI | with_reducible apply Wf.sL | with_reducible apply Wf.cpI | with_reducible apply Wf.cpL | with_reducible apply Wf.cp2 | with_reducible apply Wf.sIs | with_reducible apply Wf.sLs | with_reducible apply Wf.cpU | with_reducible apply Wf.fillI | with_reducible apply Wf.clU | with_reducible apply Wf.dnF | with_reducible apply Wf.gbW))) dX11_matches_50 fs_X11_76 rfl (co_338 (by repeat (first | with_reducible exact hw | with_reducible exact hwc | with_reducible assumption | with_reducible apply Wf.sI | with_reducible apply Wf.sL | with_reducible apply Wf.cpI | with_reducible apply Wf.cpL | with_reducible apply Wf.cp2 | with_reducible apply Wf.sIs | with_reducible apply Wf.sLs | with_reducible apply Wf.cpU | with_reducible apply Wf.fillI | with_reducible apply Wf.clU | with_reducible apply Wf.dnF | with_reducible apply Wf.gbW)))) ?_
    refine lf (a_aload_n dX11_matches_53 rfl) ?_
    refine lf (a_getR (cr_338_32 (by repeat (first | with_reducible exact hw | with_reducible exact hwc | with_reducible assumption | with_reducible apply Wf.sI | with_reducible apply Wf.sL | with_reducible apply Wf.cpI | with_reducible apply Wf.cpL | with_reducible apply Wf.cp2 | with_reducible apply Wf.sIs | with_reducible apply Wf.sLs | with_reducible apply Wf.cpU | with_reducible apply Wf.fillI | with_reducible apply Wf.clU | with_reducible apply Wf.dnF | with_reducible apply Wf.gbW))) dX11_matches_54 fs_X11_70 rfl (co_338 (by repeat (first | with_reducible exact hw | with_reducible exact hwc | with_reducible assumption | with_reducible apply Wf.sI | with_reducible apply Wf.sL | with_reducible apply Wf.cpI | with_reducible apply Wf.cpL | with_reducible apply Wf.cp2 | with_reducible apply Wf.sIs | with_reducible apply Wf.sLs | with_reducible apply Wf.cpU | with_reducible apply Wf.fillI | with_reducible apply Wf.clU | with_reducible apply Wf.dnF | with_reducible apply Wf.gbW)))) ?_
    refine lf (a_iload_n dX11_matches_57 rfl) ?_
    refine lf (a_ild dX11_matches_58 (ca_357 (by repeat (first | with_reducible exact hw | with_reducible exact hwc | with_reducible assumption | with_reducible apply Wf.sI | with_reducible apply Wf.sL | with_reducible apply Wf.cpI | with_reducible apply Wf.cpL | with_reducible apply Wf.cp2 | with_reducible apply Wf.sIs | with_reducible apply Wf.sLs | with_reducible apply Wf.cpU | with_reducible apply Wf.fillI | with_reducible apply Wf.clU | with_reducible apply Wf.dnF | with_reducible apply Wf.gbW))) (ixn (show p < 40 by omega) (by decide))) ?_
    rw [gI_sI, if_neg (by omega), t7]
    refine lf (a_ild dX11_matches_59 (ca_359 (by repeat (first | with_reducible exact hw | with_reducible exact hwc | with_reducible assumption | with_reducible apply Wf.sI | with_reducible apply Wf.sL | with_reducible apply Wf.cpI | with_reducible apply Wf.cpL | with_reducible apply Wf.cp2 | with_reducible apply Wf.sIs | with_reducible apply Wf.sLs | with_reducible apply Wf.cpU | with_reducible apply Wf.fillI | with_reducible apply Wf.clU | with_reducible apply Wf.dnF | with_reducible apply Wf.gbW))) (ixn (show x < 12 by omega) (by decide))) ?_
    rw [gI_sI, if_neg (by omega), h9a, hc]
    refine lf (a_iconst (1 : Int32) dX11_matches_60 (by decide)) ?_
    refine lf (a_isub dX11_matches_61) ?_
    rw [nI_sub1]
    refine lf (a_ist dX11_matches_62 (ca_359 (by repeat (first | with_reducible exact hw | with_reducible exact hwc | with_reducible assumption | with_reducible apply Wf.sI | with_reducible apply Wf.sL | with_reducible apply Wf.cpI | with_reducible apply Wf.cpL | with_reducible apply Wf.cp2 | with_reducible apply Wf.sIs | with_reducible apply Wf.sLs | with_reducible apply Wf.cpU | with_reducible apply Wf.fillI | with_reducible apply Wf.clU | with_reducible apply Wf.dnF | with_reducible apply Wf.gbW))) (ixn (show x < 12 by omega) (by decide))) ?_
    refine lf (a_iload_n dX11_matches_63 rfl) ?_
    refine lf (a_iconst (1 : Int32) dX11_matches_64 (by decide)) ?_
    refine lf (a_iadd dX11_matches_65) ?_
    rw [nI_1]
    refine lf (a_istore_n dX11_matches_66 (by decide)) ?_
    refine lf (a_aload_n dX11_matches_67 rfl) ?_
    refine lf (a_getR (cr_338_34 (by repeat (first | with_reducible exact hw | with_reducible exact hwc | with_reducible assumption | with_reducible apply Wf.sI | with_reducible apply Wf.sL | with_reducible apply Wf.cpI | with_reducible apply Wf.cpL | with_reducible apply Wf.cp2 | with_reducible apply Wf.sIs | with_reducible apply Wf.sLs | with_reducible apply Wf.cpU | with_reducible apply Wf.fillI | with_reducible apply Wf.clU | with_reducible apply Wf.dnF | with_reducible apply Wf.gbW))) dX11_matches_68 fs_X11_76 rfl (co_338 (by repeat (first | with_reducible exact hw | with_reducible exact hwc | with_reducible assumption | with_reducible apply Wf.sI | with_reducible apply Wf.sL | with_reducible apply Wf.cpI | with_reducible apply Wf.cpL | with_reducible apply Wf.cp2 | with_reducible apply Wf.sIs | with_reducible apply Wf.sLs | with_reducible apply Wf.cpU | with_reducible apply Wf.fillI | with_reducible apply Wf.clU | with_reducible apply Wf.dnF | with_reducible apply Wf.gbW)))) ?_
    refine lf (a_aload_n dX11_matches_71 rfl) ?_
    refine lf (a_getR (cr_338_32 (by repeat (first | with_reducible exact hw | with_reducible exact hwc | with_reducible assumption | with_reducible apply Wf.sI | with_reducible apply Wf.sL | with_reducible apply Wf.cpI | with_reducible apply Wf.cpL | with_reducible apply Wf.cp2 | with_reducible apply Wf.sIs | with_reducible apply Wf.sLs | with_reducible apply Wf.cpU | with_reducible apply Wf.fillI | with_reducible apply Wf.clU | with_reducible apply Wf.dnF | with_reducible apply Wf.gbW))) dX11_matches_72 fs_X11_70 rfl (co_338 (by repeat (first | with_reducible exact hw | with_reducible exact hwc | with_reducible assumption | with_reducible apply Wf.sI | with_reducible apply Wf.sL | with_reducible apply Wf.cpI | with_reducible apply Wf.cpL | with_reducible apply Wf.cp2 | with_reducible apply Wf.sIs | with_reducible apply Wf.sLs | with_reducible apply Wf.cpU | with_reducible apply Wf.fillI | with_reducible apply Wf.clU | with_reducible apply Wf.dnF | with_reducible apply Wf.gbW)))) ?_
    refine lf (a_iload_n dX11_matches_75 rfl) ?_
    refine lf (a_ild dX11_matches_76 (ca_357 (by repeat (first | with_reducible exact hw | with_reducible exact hwc | with_reducible assumption | with_reducible apply Wf.sI | with_reducible apply Wf.sL | with_reducible apply Wf.cpI | with_reducible apply Wf.cpL | with_reducible apply Wf.cp2 | with_reducible apply Wf.sIs | with_reducible apply Wf.sLs | with_reducible apply Wf.cpU | with_reducible apply Wf.fillI | with_reducible apply Wf.clU | with_reducible apply Wf.dnF | with_reducible apply Wf.gbW))) (ixn (show p < 40 by omega) (by decide))) ?_
    rw [gI_sI, if_neg (by omega), gI_sI, if_neg (by omega), t7]
    refine lf (a_ild dX11_matches_77 (ca_359 (by repeat (first | with_reducible exact hw | with_reducible exact hwc | with_reducible assumption | with_reducible apply Wf.sI | with_reducible apply Wf.sL | with_reducible apply Wf.cpI | with_reducible apply Wf.cpL | with_reducible apply Wf.cp2 | with_reducible apply Wf.sIs | with_reducible apply Wf.sLs | with_reducible apply Wf.cpU | with_reducible apply Wf.fillI | with_reducible apply Wf.clU | with_reducible apply Wf.dnF | with_reducible apply Wf.gbW))) (ixn (show x < 12 by omega) (by decide))) ?_
    rw [gI_sI, if_pos ⟨rfl, rfl⟩]
    refine lf2 (a_if_ge (tgt := 83) dX11_matches_78 (by decide)) (fun h78 => ?_) (fun h78 => absurd h78 (fun z => z (nI_pos' (n := c) (by omega))))
    refine lf (a_iincN dX11_matches_83 rfl (by decide)) ?_
    refine lf (a_goto (tgt := 8) dX11_matches_86 (by decide)) ?_
    refine lf (a_loc [(0, .ref 338), (1, .int (nI (szG (joF fx) (p + 1)))), (2, .int (nI (p + 1)))] (by rw [hs1]; rfl)) (ih (p + 1) _ (by omega) (hO1.sI (S := sMa) ⟨by decide, by decide⟩ _ _) (h81 _ (fun i => by rw [gI_sI, if_neg (by omega)])) (fun m hm => ?_))
    rw [gI_sI]
    by_cases e : m = x
    · rw [if_pos ⟨rfl, e⟩, e, hcs]
      exact ⟨congrArg nI (by omega), by omega⟩
    · rw [if_neg (fun z => e z.2), gI_sI, if_neg (by omega), hlo m (by rw [hx]; exact fun z => e (Option.some.inj z).symm)]
      exact h9 m hm
theorem ma_2 (hv0 : MdV μ q d) (h7 : ∀ p, p < dP d → gI μ 357 p = fI (fx p)) (hfm : ∀ p m, p < dP d → fx p = some (some m) → m < pM q) (hcb : ∀ m, m < pM q → cap m < 2 ^ 30) : ∀ (dd k : Nat) (W : Wd) (g : Nat → Option Nat) (fr : Nat → Nat), k + dd = dP d → Out sMa μ W → TrV W (dP d) (pM q) fx g fr → GA (suM q d) cap (dP d) (pM q) g fr → ExF fx (dP d) k g → (∀ h, AlF (suS q d) cap (dP d) (pM q) fx k h → szG h (dP d) ≤ szG g (dP d)) → WP Y_X11_matches R_X11_matches (0, 0) W 91 [(0, .ref 338), (1, .int (nI (szG g (dP d)))), (2, .int (nI k))] [] (fun o V => ∃ v, o = .inl v ∧ MaQ2 μ q d cap fx v V) := by
  have hM4 := hv0.M4
  have hP4 := hv0.P4
  intro dd
  induction dd with
  | zero =>
    intro k W g fr hk hO hT hA hE hX
    obtain rfl : dP d = k := by omega
    have hw := hO.1
    have hv := hv0.ma hO
    refine lf (a_iload_n dX11_matches_91 rfl) ?_
    refine lf (a_aload_n dX11_matches_92 rfl) ?_
    refine lf (a_getR (cr_338_6 hw) dX11_matches_93 fs_X11_26 rfl (co_338 hw)) ?_
    refine lf (a_iconst (3 : Int32) dX11_matches_96 (by decide)) ?_
    refine lf (a_ild dX11_matches_97 (ca_344 hw) (ixn (m := 3) (by omega) (by decide))) ?_
    rw [hv.s3]
    refine lf2 (a_icmp_ge (tgt := 137) dX11_matches_98 (by decide)) (fun h98 => ?_) (fun h98 => absurd h98 (fun z => z (nI_le (Nat.le_refl _) (by omega))))
    refine lf (a_iload_n dX11_matches_137 rfl) ?_
    refine ⟨_, _, (a_ireturn dX11_matches_138 rfl rfl), ?_⟩
    exact ⟨_, rfl, hO, Or.inr ⟨g, ⟨hA.mt, hE⟩, rfl, hX⟩⟩
  | succ dd ih =>
    intro k W g fr hk hO hT hA hE hX
    have hkk : k < dP d := by omega
    have hw := hO.1
    have hv := hv0.ma hO
    have t7 := hT.1 k hkk
    have hfn := fI_none (x := fx k) (fun m z => by have := hfm k m hkk z; omega)
    have hsz : szG g (dP d) ≤ dP d := fb_ct_le _ _
    by_cases hf : fx k = none
    · by_cases hsp : dF d 1 k = 0
      · refine lf (a_iload_n dX11_matches_91 rfl) ?_
        refine lf (a_aload_n dX11_matches_92 rfl) ?_
        refine lf (a_getR (cr_338_6 hw) dX11_matches_93 fs_X11_26 rfl (co_338 hw)) ?_
        refine lf (a_iconst (3 : Int32) dX11_matches_96 (by decide)) ?_
        refine lf (a_ild dX11_matches_97 (ca_344 hw) (ixn (m := 3) (by omega) (by decide))) ?_
        rw [hv.s3]
        refine lf2 (a_icmp_ge (tgt := 137) dX11_matches_98 (by decide)) (fun h98 => absurd h98 (nI_ge hkk (by omega))) (fun h98 => ?_)
        refine lf (a_aload_n dX11_matches_101 rfl) ?_
        refine lf (a_getR (cr_338_32 hw) dX11_matches_102 fs_X11_70 rfl (co_338 hw)) ?_
        refine lf (a_iload_n dX11_matches_105 rfl) ?_
        refine lf (a_ild dX11_matches_106 (ca_357 hw) (ixn (show k < 40 by omega) (by decide))) ?_
        rw [t7]
        refine lf (a_iconst (-1 : Int32) dX11_matches_107 (by decide)) ?_
        refine lfn (a_icmp_ne (tgt := 131) dX11_matches_108 (by decide)) (fun h108 => absurd h108 (fun z => z (hfn.mpr hf))) (fun h108 => ?_)
        refine lf (a_aload_n dX11_matches_111 rfl) ?_
        refine lf (a_iload_n dX11_matches_112 rfl) ?_
        refine lf (a_inv (b2 := (0, 0)) (Ct.int (if_pos hsp) (m_isSpecial hw hv hkk)) rfl dX11_matches_113 yk_X11_isSpecial im_X11_isSpecial se_X11_isSpecial ml_X11_306 rfl (co_338 hw) (by decide) hc_X11 (by decide) (by decide) (Nat.le_of_ble_eq_true rfl)) ?_
        refine lf2 (a_if_eq (tgt := 131) dX11_matches_116 (by decide)) (fun h116 => ?_) (fun h116 => absurd h116 (fun z => z rfl))
        refine lf (a_iincN dX11_matches_131 rfl (by decide)) ?_
        refine lf (a_goto (tgt := 91) dX11_matches_134 (by decide)) ?_
        exact lf (a_loc _ rfl) (ih (k + 1) W g fr (by omega) hO hT hA hE.up (fun h hh => max_skip hX hkk (Or.inr (fun m hm => suM0 hsp m)) hh))
      obtain ⟨v, U, hc, hO2, hr⟩ := m_finds hw hv hkk hsp hf hfm hT hA hE hcb
      have hwc := hO2.1
      have hO3 := hO.trans hO2
      rcases hr with ⟨rfl, g2, fr2, hT2, hA2, hE2, hz2⟩ | ⟨rfl, hT2, R, hR1, hR2⟩
      · refine lf (a_iload_n dX11_matches_91 rfl) ?_
        refine lf (a_aload_n dX11_matches_92 rfl) ?_
        refine lf (a_getR (cr_338_6 hw) dX11_matches_93 fs_X11_26 rfl (co_338 hw)) ?_
        refine lf (a_iconst (3 : Int32) dX11_matches_96 (by decide)) ?_
        refine lf (a_ild dX11_matches_97 (ca_344 hw) (ixn (m := 3) (by omega) (by decide))) ?_
        rw [hv.s3]
        refine lf2 (a_icmp_ge (tgt := 137) dX11_matches_98 (by decide)) (fun h98 => absurd h98 (nI_ge hkk (by omega))) (fun h98 => ?_)
        refine lf (a_aload_n dX11_matches_101 rfl) ?_
        refine lf (a_getR (cr_338_32 hw) dX11_matches_102 fs_X11_70 rfl (co_338 hw)) ?_
        refine lf (a_iload_n dX11_matches_105 rfl) ?_
        refine lf (a_ild dX11_matches_106 (ca_357 hw) (ixn (show k < 40 by omega) (by decide))) ?_
        rw [t7]
        refine lf (a_iconst (-1 : Int32) dX11_matches_107 (by decide)) ?_
        refine lfn (a_icmp_ne (tgt := 131) dX11_matches_108 (by decide)) (fun h108 => absurd h108 (fun z => z (hfn.mpr hf))) (fun h108 => ?_)
        refine lf (a_aload_n dX11_matches_111 rfl) ?_
        refine lf (a_iload_n dX11_matches_112 rfl) ?_
        refine lf (a_inv (b2 := (0, 0)) (Ct.int (if_neg hsp) (m_isSpecial hw hv hkk)) rfl dX11_matches_113 yk_X11_isSpecial im_X11_isSpecial se_X11_isSpecial ml_X11_306 rfl (co_338 hw) (by decide) hc_X11 (by decide) (by decide) (Nat.le_of_ble_eq_true rfl)) ?_
        refine lf2 (a_if_eq (tgt := 131) dX11_matches_116 (by decide)) (fun h116 => absurd h116 (by decide)) (fun h116 => ?_)
        refine lf (a_aload_n dX11_matches_119 rfl) ?_
        refine lf (a_iload_n dX11_matches_120 rfl) ?_
        refine lf (a_inv (b2 := (0, 0)) hc rfl dX11_matches_121 yk_X11_finds im_X11_finds se_X11_finds ml_X11_446 rfl (co_338 hw) (by decide) hc_X11 (by decide) (by decide) (Nat.le_of_ble_eq_true rfl)) ?_
        refine lf2 (a_if_eq (tgt := 131) dX11_matches_124 (by decide)) (fun h124 => absurd h124 (by decide)) (fun h124 => ?_)
        refine lf (a_iload_n dX11_matches_127 rfl) ?_
        refine lf (a_iconst (1 : Int32) dX11_matches_128 (by decide)) ?_
        refine lf (a_iadd dX11_matches_129) ?_
        rw [nI_1]
        refine lf (a_istore_n dX11_matches_130 (by decide)) ?_
        refine lf (a_iincN dX11_matches_131 rfl (by decide)) ?_
        refine lf (a_goto (tgt := 91) dX11_matches_134 (by decide)) ?_
        rw [← hz2]
        exact lf (a_loc _ rfl) (ih (k + 1) U g2 fr2 (by omega) hO3 hT2 hA2 hE2 (fun h hh => by rw [hz2]; exact max_one hkk hX hf hh))
      · refine lf (a_iload_n dX11_matches_91 rfl) ?_
        refine lf (a_aload_n dX11_matches_92 rfl) ?_
        refine lf (a_getR (cr_338_6 hw) dX11_matches_93 fs_X11_26 rfl (co_338 hw)) ?_
        refine lf (a_iconst (3 : Int32) dX11_matches_96 (by decide)) ?_
        refine lf (a_ild dX11_matches_97 (ca_344 hw) (ixn (m := 3) (by omega) (by decide))) ?_
        rw [hv.s3]
        refine lf2 (a_icmp_ge (tgt := 137) dX11_matches_98 (by decide)) (fun h98 => absurd h98 (nI_ge hkk (by omega))) (fun h98 => ?_)
        refine lf (a_aload_n dX11_matches_101 rfl) ?_
        refine lf (a_getR (cr_338_32 hw) dX11_matches_102 fs_X11_70 rfl (co_338 hw)) ?_
        refine lf (a_iload_n dX11_matches_105 rfl) ?_
        refine lf (a_ild dX11_matches_106 (ca_357 hw) (ixn (show k < 40 by omega) (by decide))) ?_
        rw [t7]
        refine lf (a_iconst (-1 : Int32) dX11_matches_107 (by decide)) ?_
        refine lfn (a_icmp_ne (tgt := 131) dX11_matches_108 (by decide)) (fun h108 => absurd h108 (fun z => z (hfn.mpr hf))) (fun h108 => ?_)
        refine lf (a_aload_n dX11_matches_111 rfl) ?_
        refine lf (a_iload_n dX11_matches_112 rfl) ?_
        refine lf (a_inv (b2 := (0, 0)) (Ct.int (if_neg hsp) (m_isSpecial hw hv hkk)) rfl dX11_matches_113 yk_X11_isSpecial im_X11_isSpecial se_X11_isSpecial ml_X11_306 rfl (co_338 hw) (by decide) hc_X11 (by decide) (by decide) (Nat.le_of_ble_eq_true rfl)) ?_
        refine lf2 (a_if_eq (tgt := 131) dX11_matches_116 (by decide)) (fun h116 => absurd h116 (by decide)) (fun h116 => ?_)
        refine lf (a_aload_n dX11_matches_119 rfl) ?_
        refine lf (a_iload_n dX11_matches_120 rfl) ?_
        refine lf (a_inv (b2 := (0, 0)) hc rfl dX11_matches_121 yk_X11_finds im_X11_finds se_X11_finds ml_X11_446 rfl (co_338 hw) (by decide) hc_X11 (by decide) (by decide) (Nat.le_of_ble_eq_true rfl)) ?_
        refine lf2 (a_if_eq (tgt := 131) dX11_matches_124 (by decide)) (fun h124 => ?_) (fun h124 => absurd h124 (fun z => z rfl))
        refine lf (a_iincN dX11_matches_131 rfl (by decide)) ?_
        refine lf (a_goto (tgt := 91) dX11_matches_134 (by decide)) ?_
        exact lf (a_loc _ rfl) (ih (k + 1) U g fr (by omega) hO3 hT2 hA hE.up (fun h hh => koe1 hkk ⟨hA.mt, hE⟩ hX (fun m hm hR => by
          have z1 := hA.2 m hm
          have z2 := hR1 m hm hR
          omega) hR2 hh))
    · refine lf (a_iload_n dX11_matches_91 rfl) ?_
      refine lf (a_aload_n dX11_matches_92 rfl) ?_
      refine lf (a_getR (cr_338_6 hw) dX11_matches_93 fs_X11_26 rfl (co_338 hw)) ?_
      refine lf (a_iconst (3 : Int32) dX11_matches_96 (by decide)) ?_
      refine lf (a_ild dX11_matches_97 (ca_344 hw) (ixn (m := 3) (by omega) (by decide))) ?_
      rw [hv.s3]
      refine lf2 (a_icmp_ge (tgt := 137) dX11_matches_98 (by decide)) (fun h98 => absurd h98 (nI_ge hkk (by omega))) (fun h98 => ?_)
      refine lf (a_aload_n dX11_matches_101 rfl) ?_
      refine lf (a_getR (cr_338_32 hw) dX11_matches_102 fs_X11_70 rfl (co_338 hw)) ?_
      refine lf (a_iload_n dX11_matches_105 rfl) ?_
      refine lf (a_ild dX11_matches_106 (ca_357 hw) (ixn (show k < 40 by omega) (by decide))) ?_
      rw [t7]
      refine lf (a_iconst (-1 : Int32) dX11_matches_107 (by decide)) ?_
      refine lfn (a_icmp_ne (tgt := 131) dX11_matches_108 (by decide)) (fun h108 => ?_) (fun h108 => absurd h108 (fun z => hf (hfn.mp z)))
      refine lf (a_iincN dX11_matches_131 rfl (by decide)) ?_
      refine lf (a_goto (tgt := 91) dX11_matches_134 (by decide)) ?_
      exact lf (a_loc _ rfl) (ih (k + 1) W g fr (by omega) hO hT hA hE.up (fun h hh => max_skip hX hkk (Or.inl hf) hh))
theorem m_matches (hw : Wf μ) (hv0 : MdV μ q d) (h7 : ∀ p, p < dP d → gI μ 357 p = fI (fx p)) (hfm : ∀ p m, p < dP d → fx p = some (some m) → m < pM q ∧ suS q d p m = true) (hcap : ∀ m, m < pM q → ldD q d m = nI (cap m)) (hcb : ∀ m, m < pM q → cap m < 2 ^ 30) : CV Y_X11_matches R_X11_matches [.ref 338] μ (MaQ2 μ q d cap fx) := by
  have hM4 := hv0.M4
  have hP4 := hv0.P4
  obtain ⟨v, U, hc, rfl, hO, hU⟩ := m_laysUnits hw hv0
  have hwc := hO.1
  refine CV.ent yk_X11_matches (Nat.le_of_ble_eq_true rfl) ?_
  refine lf (a_aload_n dX11_matches_0 rfl) ?_
  refine lf (a_inv (b2 := (0, 0)) hc rfl dX11_matches_1 yk_X11_laysUnits im_X11_laysUnits se_X11_laysUnits ml_X11_443 rfl (co_338 hw) (by decide) hc_X11 (by decide) (by decide) (Nat.le_of_ble_eq_true rfl)) ?_
  refine lf (a_iconst (0 : Int32) dX11_matches_4 (by decide)) ?_
  refine lf (a_istore_n dX11_matches_5 (by decide)) ?_
  refine lf (a_iconst (0 : Int32) dX11_matches_6 (by decide)) ?_
  refine lf (a_istore_n dX11_matches_7 (by decide)) ?_
  refine lf (a_loc [(0, .ref 338), (1, .int (nI (szG (joF fx) 0))), (2, .int (nI 0))] rfl) (ma_1 hv0 h7 (fun p m hp e => (hfm p m hp e).1) hcb (fun W h1 h2 h3 => ?_) (dP d) 0 U (Nat.zero_add _) (hO.mono (fun i y => ⟨by omega, by omega⟩)) (fun i hi => absurd hi (Nat.not_lt_zero i)) (fun m hm => ⟨(hU m hm).trans ((hcap m hm).trans (congrArg nI (Nat.sub_zero _).symm)), Nat.zero_le _⟩))
  refine lf (a_iconst (0 : Int32) dX11_matches_89 (by decide)) ?_
  refine lf (a_istore_n dX11_matches_90 (by decide)) ?_
  refine lf (a_loc [(0, .ref 338), (1, .int (nI (szG (joF fx) (dP d)))), (2, .int (nI 0))] rfl) (ma_2 hv0 h7 (fun p m hp e => (hfm p m hp e).1) hcb (dP d) 0 W (joF fx) (fun m => cap m - cntG (joF fx) (dP d) m) (Nat.zero_add _) h1 ⟨fun p hp => (h1.i (fun z => by have := z.1; omega) p).trans (h7 p hp), fun p hp => (h2 p hp).trans (f_t (fx p)), fun m hm => (h3 m hm).1⟩ ⟨fun p m hp e => ?_, fun m hm => by
    have := (h3 m hm).2
    show cntG (joF fx) (dP d) m + (cap m - cntG (joF fx) (dP d) m) = cap m
    omega⟩ jo_ex (fun h hh => jo_max hh.2))
  unfold joF at e
  cases e2 : fx p with
  | none => rw [e2] at e; cases e
  | some x =>
    rw [e2] at e
    exact hfm p m hp (e2.trans (congrArg some e))
end FINDS
