section FIXES
variable {μ W V : Wd} {q : PDt} {d : FDt} {k : Nat} {fx : Nat → Option (Option Nat)} {g : Nat → Option Nat} {fr cap : Nat → Nat}
abbrev sMb : Nat → Prop := fun i => 357 ≤ i ∧ i ≤ 361
theorem MdV.mb (h : MdV μ q d) (ho : Out sMb μ W) : MdV W q d := h.out ho (fun z => by have := z.1; omega) (fun z => by have := z.1; omega)
theorem AlF.set {S : Nat → Nat → Bool} {P M p : Nat} {x : Option Nat} {h : Nat → Option Nat} (hh : AlF S cap P M fx P h) (hp : h p = x) : AlF S cap P M (up1 fx p (some x)) P h := by
  refine ⟨hh.1, fun i hi => ⟨fun y e => ?_, fun _ hle => absurd hi (by omega)⟩⟩
  by_cases z : i = p
  · rw [z, up1_eq] at e
    rw [z, hp]
    exact Option.some.inj e
  · rw [up1_ne z] at e; exact (hh.2 i hi).1 y e
theorem AlF.un {S : Nat → Nat → Bool} {P M p : Nat} {x : Option Nat} {h : Nat → Option Nat} (hf : fx p = none) (hh : AlF S cap P M (up1 fx p (some x)) P h) : AlF S cap P M fx P h := by
  refine ⟨hh.1, fun i hi => ⟨fun y e => ?_, fun _ hle => absurd hi (by omega)⟩⟩
  have z : i ≠ p := fun z => by rw [z, hf] at e; cases e
  exact (hh.2 i hi).1 y (by rw [up1_ne z]; exact e)
theorem fI_up {P p : Nat} {x : Option (Option Nat)} {v : Int32} (hv : v = fI x) (h : ∀ i, i < P → i ≠ p → gI W 357 i = fI (fx i)) : ∀ i, i < P → gI (sI W 357 p v) 357 i = fI (up1 fx p x i) := fun i hi => by
  rw [gI_sI]
  by_cases e : i = p
  · rw [if_pos ⟨rfl, e⟩, e, up1_eq, hv]
  · rw [if_neg (fun z => e z.2), up1_ne e]; exact h i hi e
/-- p is settled -/
def FsQ (μ : Wd) (q : PDt) (d : FDt) (cap : Nat → Nat) (fx : Nat → Option (Option Nat)) (p n : Nat) (V : Wd) : Prop :=
  Out sMb μ V ∧ ∃ x : Option Nat, (∀ i, i < dP d → gI V 357 i = fI (up1 fx p (some x) i)) ∧ (∀ m, x = some m → m < pM q ∧ suS q d p m = true) ∧ (∃ h, AlF (suS q d) cap (dP d) (pM q) (up1 fx p (some x)) (dP d) h ∧ szG h (dP d) = n) ∧ ∀ h, AlF (suS q d) cap (dP d) (pM q) fx (dP d) h → szG h (dP d) = n → leO x (h p)
abbrev R_X11_fixes : Room := { frames := 6, cells := 0, slots := 0, locals := 139 }
abbrev RX_X11_fixes : Room := { frames := 6, cells := 1, slots := 6, locals := 139 }

theorem fx_L (hv0 : MdV μ q d) {p n : Nat} (hp : p < dP d) (hsp : ¬ dF d 1 p = 0) (hfp : fx p = none) (hfm : ∀ p m, p < dP d → fx p = some (some m) → m < pM q ∧ suS q d p m = true) (hcap : ∀ m, m < pM q → ldD q d m = nI (cap m)) (hcb : ∀ m, m < pM q → cap m < 2 ^ 30) (hn : n ≤ 40) (hex : ∃ h, AlF (suS q d) cap (dP d) (pM q) fx (dP d) h ∧ szG h (dP d) = n) (hmx : ∀ h, MtG (suS q d) cap (dP d) (pM q) h → szG h (dP d) ≤ n) : ∀ (dd m : Nat) (W : Wd), m + dd = pM q → Out sMb μ W → (∀ i, i < dP d → i ≠ p → gI W 357 i = fI (fx i)) → (∀ y, y < m → ∀ h, AlF (suS q d) cap (dP d) (pM q) fx (dP d) h → szG h (dP d) = n → h p ≠ some y) →
    WP Y_X11_fixes R_X11_fixes (0, 0) W 2 [(0, .ref 338), (1, .int (nI p)), (2, .int (nI n)), (3, .int (nI m))] [] (fun o V => ∃ v, o = .inl v ∧ v = none ∧ FsQ μ q d cap fx p n V) := by
  have hM4 := hv0.M4
  have hP4 := hv0.P4
  intro dd
  induction dd with
  | zero =>
    intro m W hm hO hr7 hN
    obtain rfl : pM q = m := by omega
    have hw := hO.1
    have hv := hv0.mb hO
    have hnone : ∀ h, AlF (suS q d) cap (dP d) (pM q) fx (dP d) h → szG h (dP d) = n → h p = none := fun h h1 h2 => by
      cases e : h p with
      | none => rfl
      | some y => exact absurd e (hN y (h1.1.1 p y hp e).1 h h1 h2)
    obtain ⟨h0, h01, h02⟩ := hex
    refine lf (a_iload_n dX11_fixes_2 rfl) ?_
    refine lf (a_aload_n dX11_fixes_3 rfl) ?_
    refine lf (a_inv (b2 := (0, 0)) (m_meals (by repeat (first | with_reducible exact hw | with_reducible exact hwc | with_reducible assumption | with_reducible apply Wf.sI | with_reducible apply Wf.sL | with_reducible apply Wf.cpI | with_reducible apply Wf.cpL | with_reducible apply Wf.cp2 | with_reducible apply Wf.sIs | with_reducible apply Wf.sLs | with_reducible apply Wf.cpU | with_reducible apply Wf.fillI | with_reducible apply Wf.clU | with_reducible apply Wf.dnF | with_reducible apply Wf.gbW)) hv) rfl dX11_fixes_4 yk_X11_meals im_X11_meals se_X11_meals ml_X11_300 rfl (co_338 (by repeat (first | with_reducible exact hw | with_reducible exact hwc | with_reducible assumption | with_reducible apply Wf.sI | with_reducible apply Wf.sL | with_reducible apply Wf.cpI | with_reducible apply Wf.cpL | with_reducible apply Wf.cp2 | with_reducible apply Wf.sIs | with_reducible apply Wf.sLs | with_reducible apply Wf.cpU | with_reducible apply Wf.fillI | with_reducible apply Wf.clU | with_reducible apply Wf.dnF | with_reducible apply Wf.gbW))) (by decide) hc_X11 (by decide) (by decide) (Nat.le_of_ble_eq_true rfl)) ?_
    refine lf2 (a_icmp_ge (tgt := 41) dX11_fixes_7 (by decide)) (fun h7 => ?_) (fun h7 => absurd h7 (fun z => z (nI_le (Nat.le_refl _) (by omega))))
    refine lf (a_aload_n dX11_fixes_41 rfl) ?_
    refine lf (a_getR (cr_338_32 (by repeat (first | with_reducible exact hw | with_reducible exact hwc | with_reducible assumption | with_reducible apply Wf.sI | with_reducible apply Wf.sL | with_reducible apply Wf.cpI | with_reducible apply Wf.cpL | with_reducible apply Wf.cp2 | with_reducible apply Wf.sIs | with_reducible apply Wf.sLs | with_reducible apply Wf.cpU | with_reducible apply Wf.fillI | with_reducible apply Wf.clU | with_reducible apply Wf.dnF | with_reducible apply Wf.gbW))) dX11_fixes_42 fs_X11_70 rfl (co_338 (by repeat (first | with_reducible exact hw | with_reducible exact hwc | with_reducible assumption | with_reducible apply Wf.sI | with_reducible apply Wf.sL | with_reducible apply Wf.cpI | with_reducible apply Wf.cpL | with_reducible apply Wf.cp2 | with_reducible apply Wf.sIs | with_reducible apply Wf.sLs | with_reducible apply Wf.cpU | with_reducible apply Wf.fillI | with_reducible apply Wf.clU | with_reducible apply Wf.dnF | with_reducible apply Wf.gbW)))) ?_
    refine lf (a_iload_n dX11_fixes_45 rfl) ?_
    refine lf (a_bipush (-2 : Int32) dX11_fixes_46 (by decide)) ?_
    refine lf (a_ist dX11_fixes_48 (ca_357 (by repeat (first | with_reducible exact hw | with_reducible exact hwc | with_reducible assumption | with_reducible apply Wf.sI | with_reducible apply Wf.sL | with_reducible apply Wf.cpI | with_reducible apply Wf.cpL | with_reducible apply Wf.cp2 | with_reducible apply Wf.sIs | with_reducible apply Wf.sLs | with_reducible apply Wf.cpU | with_reducible apply Wf.fillI | with_reducible apply Wf.clU | with_reducible apply Wf.dnF | with_reducible apply Wf.gbW))) (ixn (show p < 40 by omega) (by decide))) ?_
    refine ⟨_, _, (a_return dX11_fixes_49 rfl), ?_⟩
    exact ⟨_, rfl, rfl, hO.sI (S := sMb) ⟨by decide, by decide⟩ _ _, none, fI_up rfl hr7, fun m e => (nomatch e), ⟨h0, h01.set (hnone h0 h01 h02), h02⟩, fun h h1 h2 => by rw [hnone h h1 h2]; exact True.intro⟩
  | succ dd ih =>
    intro m W hm hO hr7 hN
    have hmm : m < pM q := by omega
    have hw := hO.1
    have hv := hv0.mb hO
    have hO1 : Out sMb μ (sI W 357 p (nI m)) := hO.sI (S := sMb) ⟨by decide, by decide⟩ _ _
    have hw1 := hO1.1
    have hv1 := hv0.mb hO1
    have h71 : ∀ i, i < dP d → gI (sI W 357 p (nI m)) 357 i = fI (up1 fx p (some (some m)) i) := fI_up rfl hr7
    by_cases hs : suS q d p m = true
    · have hfm1 : ∀ i y, i < dP d → up1 fx p (some (some m)) i = some (some y) → y < pM q ∧ suS q d i y = true := fun i y hi e => by
        by_cases z : i = p
        · rw [z, up1_eq] at e
          injection e with e
          injection e with e
          rw [z, ← e]; exact ⟨hmm, hs⟩
        · rw [up1_ne z] at e; exact hfm i y hi e
      obtain ⟨v, U, hc, hO2, hr⟩ := m_matches hw1 hv1 h71 hfm1 hcap hcb
      have hO3 : Out sMb μ U := hO1.trans (hO2.mono (fun i y => ⟨by have := y.1; omega, y.2⟩))
      have hwc := hO2.1
      have h7U : ∀ i, i < dP d → gI U 357 i = fI (up1 fx p (some (some m)) i) := fun i hi => (hO2.i (fun z => by have := z.1; omega) i).trans (h71 i hi)
      have hgo : (∀ h, AlF (suS q d) cap (dP d) (pM q) fx (dP d) h → szG h (dP d) = n → h p ≠ some m) → ∀ y, y < m + 1 → ∀ h, AlF (suS q d) cap (dP d) (pM q) fx (dP d) h → szG h (dP d) = n → h p ≠ some y := fun hz y hy h h1 h2 => by
        by_cases e : y = m
        · rw [e]; exact hz h h1 h2
        · exact hN y (by omega) h h1 h2
      have h7n : ∀ i, i < dP d → i ≠ p → gI U 357 i = fI (fx i) := fun i hi hip => by rw [h7U i hi, up1_ne hip]
      rcases hr with ⟨rfl, hbad⟩ | ⟨h1, hal, rfl, hmax⟩
      · refine lf (a_iload_n dX11_fixes_2 rfl) ?_
        refine lf (a_aload_n dX11_fixes_3 rfl) ?_
        refine lf (a_inv (b2 := (0, 0)) (m_meals (by repeat (first | with_reducible exact hw | with_reducible exact hwc | with_reducible assumption | with_reducible apply Wf.sI | with_reducible apply Wf.sL | with_reducible apply Wf.cpI | with_reducible apply Wf.cpL | with_reducible apply Wf.cp2 | with_reducible apply Wf.sIs | with_reducible apply Wf.sLs | with_reducible apply Wf.cpU | with_reducible apply Wf.fillI | with_reducible apply Wf.clU | with_reducible apply Wf.dnF | with_reducible apply Wf.gbW)) hv) rfl dX11_fixes_4 yk_X11_meals im_X11_meals se_X11_meals ml_X11_300 rfl (co_338 (by repeat (first | with_reducible exact hw | with_reducible exact hwc | with_reducible assumption | with_reducible apply Wf.sI | with_reducible apply Wf.sL | with_reducible apply Wf.cpI | with_reducible apply Wf.cpL | with_reducible apply Wf.cp2 | with_reducible apply Wf.sIs | with_reducible apply Wf.sLs | with_reducible apply Wf.cpU | with_reducible apply Wf.fillI | with_reducible apply Wf.clU | with_reducible apply Wf.dnF | with_reducible apply Wf.gbW))) (by decide) hc_X11 (by decide) (by decide) (Nat.le_of_ble_eq_true rfl)) ?_
        refine lf2 (a_icmp_ge (tgt := 41) dX11_fixes_7 (by decide)) (fun h7 => absurd h7 (nI_ge hmm (by omega))) (fun h7 => ?_)
        refine lf (a_aload_n dX11_fixes_10 rfl) ?_
        refine lf (a_getR (cr_338_32 (by repeat (first | with_reducible exact hw | with_reducible exact hwc | with_reducible assumption | with_reducible apply Wf.sI | with_reducible apply Wf.sL | with_reducible apply Wf.cpI | with_reducible apply Wf.cpL | with_reducible apply Wf.cp2 | with_reducible apply Wf.sIs | with_reducible apply Wf.sLs | with_reducible apply Wf.cpU | with_reducible apply Wf.fillI | with_reducible apply Wf.clU | with_reducible apply Wf.dnF | with_reducible apply Wf.gbW))) dX11_fixes_11 fs_X11_70 rfl (co_338 (by repeat (first | with_reducible exact hw | with_reducible exact hwc | with_reducible assumption | with_reducible apply Wf.sI | with_reducible apply Wf.sL | with_reducible apply Wf.cpI | with_reducible apply Wf.cpL | with_reducible apply Wf.cp2 | with_reducible apply Wf.sIs | with_reducible apply Wf.sLs | with_reducible apply Wf.cpU | with_reducible apply Wf.fillI | with_reducible apply Wf.clU | with_reducible apply Wf.dnF | with_reducible apply Wf.gbW)))) ?_
        refine lf (a_iload_n dX11_fixes_14 rfl) ?_
        refine lf (a_iload_n dX11_fixes_15 rfl) ?_
        refine lf (a_ist dX11_fixes_16 (ca_357 (by repeat (first | with_reducible exact hw | with_reducible exact hwc | with_reducible assumption | with_reducible apply Wf.sI | with_reducible apply Wf.sL | with_reducible apply Wf.cpI | with_reducible apply Wf.cpL | with_reducible apply Wf.cp2 | with_reducible apply Wf.sIs | with_reducible apply Wf.sLs | with_reducible apply Wf.cpU | with_reducible apply Wf.fillI | with_reducible apply Wf.clU | with_reducible apply Wf.dnF | with_reducible apply Wf.gbW))) (ixn (show p < 40 by omega) (by decide))) ?_
        refine lf (a_aload_n dX11_fixes_17 rfl) ?_
        refine lf (a_iload_n dX11_fixes_18 rfl) ?_
        refine lf (a_iload_n dX11_fixes_19 rfl) ?_
        refine lf (a_inv (b2 := (0, 0)) (Ct.int (if_pos ((su_fit hM4 hsp hmm).mpr hs)) (m_suits (by repeat (first | with_reducible exact hw | with_reducible exact hwc | with_reducible assumption | with_reducible apply Wf.sI | with_reducible apply Wf.sL | with_reducible apply Wf.cpI | with_reducible apply Wf.cpL | with_reducible apply Wf.cp2 | with_reducible apply Wf.sIs | with_reducible apply Wf.sLs | with_reducible apply Wf.cpU | with_reducible apply Wf.fillI | with_reducible apply Wf.clU | with_reducible apply Wf.dnF | with_reducible apply Wf.gbW)) hv1 hmm hp)) rfl dX11_fixes_20 yk_X11_suits im_X11_suits se_X11_suits ml_X11_303 rfl (co_338 (by repeat (first | with_reducible exact hw | with_reducible exact hwc | with_reducible assumption | with_reducible apply Wf.sI | with_reducible apply Wf.sL | with_reducible apply Wf.cpI | with_reducible apply Wf.cpL | with_reducible apply Wf.cp2 | with_reducible apply Wf.sIs | with_reducible apply Wf.sLs | with_reducible apply Wf.cpU | with_reducible apply Wf.fillI | with_reducible apply Wf.clU | with_reducible apply Wf.dnF | with_reducible apply Wf.gbW))) (by decide) hc_X11 (by decide) (by decide) (Nat.le_of_ble_eq_true rfl)) ?_
        refine lf2 (a_if_eq (tgt := 35) dX11_fixes_23 (by decide)) (fun h23 => absurd h23 (by decide)) (fun h23 => ?_)
        refine lf (a_aload_n dX11_fixes_26 rfl) ?_
        refine lf (a_inv (b2 := (0, 0)) hc rfl dX11_fixes_27 yk_X11_matches im_X11_matches se_X11_matches ml_X11_449 rfl (co_338 (by repeat (first | with_reducible exact hw | with_reducible exact hwc | with_reducible assumption | with_reducible apply Wf.sI | with_reducible apply Wf.sL | with_reducible apply Wf.cpI | with_reducible apply Wf.cpL | with_reducible apply Wf.cp2 | with_reducible apply Wf.sIs | with_reducible apply Wf.sLs | with_reducible apply Wf.cpU | with_reducible apply Wf.fillI | with_reducible apply Wf.clU | with_reducible apply Wf.dnF | with_reducible apply Wf.gbW))) (by decide) hc_X11 (by decide) (by decide) (Nat.le_of_ble_eq_true rfl)) ?_
        refine lf (a_iload_n dX11_fixes_30 rfl) ?_
        refine lfn (a_icmp_ne (tgt := 35) dX11_fixes_31 (by decide)) (fun h31 => ?_) (fun h31 => absurd h31 (fun z => nI_ne1 (n := n) (by omega) z.symm))
        refine lf (a_iincN dX11_fixes_35 rfl (by decide)) ?_
        refine lf (a_goto (tgt := 2) dX11_fixes_38 (by decide)) ?_
        exact lf (a_loc _ rfl) (ih (m + 1) U (by omega) hO3 h7n (hgo (fun h g1 g2 g3 => hbad h (g1.set g3))))
      · have hs1 : szG h1 (dP d) ≤ dP d := fb_ct_le _ _
        by_cases hzn : szG h1 (dP d) = n
        · refine lf (a_iload_n dX11_fixes_2 rfl) ?_
          refine lf (a_aload_n dX11_fixes_3 rfl) ?_
          refine lf (a_inv (b2 := (0, 0)) (m_meals (by repeat (first | with_reducible exact hw | with_reducible exact hwc | with_reducible assumption | with_reducible apply Wf.sI | with_reducible apply Wf.sL | with_reducible apply Wf.cpI | with_reducible apply Wf.cpL | with_reducible apply Wf.cp2 | with_reducible apply Wf.sIs | with_reducible apply Wf.sLs | with_reducible apply Wf.cpU | with_reducible apply Wf.fillI | with_reducible apply Wf.clU | with_reducible apply Wf.dnF | with_reducible apply Wf.gbW)) hv) rfl dX11_fixes_4 yk_X11_meals im_X11_meals se_X11_meals ml_X11_300 rfl (co_338 (by repeat (first | with_reducible exact hw | with_reducible exact hwc | with_reducible assumption | with_reducible apply Wf.sI | with_reducible apply Wf.sL | with_reducible apply Wf.cpI | with_reducible apply Wf.cpL | with_reducible apply Wf.cp2 | with_reducible apply Wf.sIs | with_reducible apply Wf.sLs | with_reducible apply Wf.cpU | with_reducible apply Wf.fillI | with_reducible apply Wf.clU | with_reducible apply Wf.dnF | with_reducible apply Wf.gbW))) (by decide) hc_X11 (by decide) (by decide) (Nat.le_of_ble_eq_true rfl)) ?_
          refine lf2 (a_icmp_ge (tgt := 41) dX11_fixes_7 (by decide)) (fun h7 => absurd h7 (nI_ge hmm (by omega))) (fun h7 => ?_)
          refine lf (a_aload_n dX11_fixes_10 rfl) ?_
          refine lf (a_getR (cr_338_32 (by repeat (first | with_reducible exact hw | with_reducible exact hwc | with_reducible assumption | with_reducible apply Wf.sI | with_reducible apply Wf.sL | with_reducible apply Wf.cpI | with_reducible apply Wf.cpL | with_reducible apply Wf.cp2 | with_reducible apply Wf.sIs | with_reducible apply Wf.sLs | with_reducible apply Wf.cpU | with_reducible apply Wf.fillI | with_reducible apply Wf.clU | with_reducible apply Wf.dnF | with_reducible apply Wf.gbW))) dX11_fixes_11 fs_X11_70 rfl (co_338 (by repeat (first | with_reducible exact hw | with_reducible exact hwc | with_reducible assumption | with_reducible apply Wf.sI | with_reducible apply Wf.sL | with_reducible apply Wf.cpI | with_reducible apply Wf.cpL | with_reducible apply Wf.cp2 | with_reducible apply Wf.sIs | with_reducible apply Wf.sLs | with_reducible apply Wf.cpU | with_reducible apply Wf.fillI | with_reducible apply Wf.clU | with_reducible apply Wf.dnF | with_reducible apply Wf.gbW)))) ?_
          refine lf (a_iload_n dX11_fixes_14 rfl) ?_
          refine lf (a_iload_n dX11_fixes_15 rfl) ?_
          refine lf (a_ist dX11_fixes_16 (ca_357 (by repeat (first | with_reducible exact hw | with_reducible exact hwc | with_reducible assumption | with_reducible apply Wf.sI | with_reducible apply Wf.sL | with_reducible apply Wf.cpI | with_reducible apply Wf.cpL | with_reducible apply Wf.cp2 | with_reducible apply Wf.sIs | with_reducible apply Wf.sLs | with_reducible apply Wf.cpU | with_reducible apply Wf.fillI | with_reducible apply Wf.clU | with_reducible apply Wf.dnF | with_reducible apply Wf.gbW))) (ixn (show p < 40 by omega) (by decide))) ?_
          refine lf (a_aload_n dX11_fixes_17 rfl) ?_
          refine lf (a_iload_n dX11_fixes_18 rfl) ?_
          refine lf (a_iload_n dX11_fixes_19 rfl) ?_
          refine lf (a_inv (b2 := (0, 0)) (Ct.int (if_pos ((su_fit hM4 hsp hmm).mpr hs)) (m_suits (by repeat (first | with_reducible exact hw | with_reducible exact hwc | with_reducible assumption | with_reducible apply Wf.sI | with_reducible apply Wf.sL | with_reducible apply Wf.cpI | with_reducible apply Wf.cpL | with_reducible apply Wf.cp2 | with_reducible apply Wf.sIs | with_reducible apply Wf.sLs | with_reducible apply Wf.cpU | with_reducible apply Wf.fillI | with_reducible apply Wf.clU | with_reducible apply Wf.dnF | with_reducible apply Wf.gbW)) hv1 hmm hp)) rfl dX11_fixes_20 yk_X11_suits im_X11_suits se_X11_suits ml_X11_303 rfl (co_338 (by repeat (first | with_reducible exact hw | with_reducible exact hwc | with_reducible assumption | with_reducible apply Wf.sI | with_reducible apply Wf.sL | with_reducible apply Wf.cpI | with_reducible apply Wf.cpL | with_reducible apply Wf.cp2 | with_reducible apply Wf.sIs | with_reducible apply Wf.sLs | with_reducible apply Wf.cpU | with_reducible apply Wf.fillI | with_reducible apply Wf.clU | with_reducible apply Wf.dnF | with_reducible apply Wf.gbW))) (by decide) hc_X11 (by decide) (by decide) (Nat.le_of_ble_eq_true rfl)) ?_
          refine lf2 (a_if_eq (tgt := 35) dX11_fixes_23 (by decide)) (fun h23 => absurd h23 (by decide)) (fun h23 => ?_)
          refine lf (a_aload_n dX11_fixes_26 rfl) ?_
          refine lf (a_inv (b2 := (0, 0)) hc rfl dX11_fixes_27 yk_X11_matches im_X11_matches se_X11_matches ml_X11_449 rfl (co_338 (by repeat (first | with_reducible exact hw | with_reducible exact hwc | with_reducible assumption | with_reducible apply Wf.sI | with_reducible apply Wf.sL | with_reducible apply Wf.cpI | with_reducible apply Wf.cpL | with_reducible apply Wf.cp2 | with_reducible apply Wf.sIs | with_reducible apply Wf.sLs | with_reducible apply Wf.cpU | with_reducible apply Wf.fillI | with_reducible apply Wf.clU | with_reducible apply Wf.dnF | with_reducible apply Wf.gbW))) (by decide) hc_X11 (by decide) (by decide) (Nat.le_of_ble_eq_true rfl)) ?_
          refine lf (a_iload_n dX11_fixes_30 rfl) ?_
          refine lfn (a_icmp_ne (tgt := 35) dX11_fixes_31 (by decide)) (fun h31 => absurd h31 (fun z => z (congrArg nI hzn))) (fun h31 => ?_)
          refine ⟨_, _, (a_return dX11_fixes_34 rfl), ?_⟩
          refine ⟨_, rfl, rfl, hO3, some m, h7U, fun m2 e => ?_, ⟨h1, hal, hzn⟩, fun h g1 g2 => ?_⟩
          · injection e with e
            rw [← e]; exact ⟨hmm, hs⟩
          · cases e : h p with
            | none => exact True.intro
            | some y => exact Nat.le_of_not_lt (fun z => hN y z h g1 g2 e)
        · refine lf (a_iload_n dX11_fixes_2 rfl) ?_
          refine lf (a_aload_n dX11_fixes_3 rfl) ?_
          refine lf (a_inv (b2 := (0, 0)) (m_meals (by repeat (first | with_reducible exact hw | with_reducible exact hwc | with_reducible assumption | with_reducible apply Wf.sI | with_reducible apply Wf.sL | with_reducible apply Wf.cpI | with_reducible apply Wf.cpL | with_reducible apply Wf.cp2 | with_reducible apply Wf.sIs | with_reducible apply Wf.sLs | with_reducible apply Wf.cpU | with_reducible apply Wf.fillI | with_reducible apply Wf.clU | with_reducible apply Wf.dnF | with_reducible apply Wf.gbW)) hv) rfl dX11_fixes_4 yk_X11_meals im_X11_meals se_X11_meals ml_X11_300 rfl (co_338 (by repeat (first | with_reducible exact hw | with_reducible exact hwc | with_reducible assumption | with_reducible apply Wf.sI | with_reducible apply Wf.sL | with_reducible apply Wf.cpI | with_reducible apply Wf.cpL | with_reducible apply Wf.cp2 | with_reducible apply Wf.sIs | with_reducible apply Wf.sLs | with_reducible apply Wf.cpU | with_reducible apply Wf.fillI | with_reducible apply Wf.clU | with_reducible apply Wf.dnF | with_reducible apply Wf.gbW))) (by decide) hc_X11 (by decide) (by decide) (Nat.le_of_ble_eq_true rfl)) ?_
          refine lf2 (a_icmp_ge (tgt := 41) dX11_fixes_7 (by decide)) (fun h7 => absurd h7 (nI_ge hmm (by omega))) (fun h7 => ?_)
          refine lf (a_aload_n dX11_fixes_10 rfl) ?_
          refine lf (a_getR (cr_338_32 (by repeat (first | with_reducible exact hw | with_reducible exact hwc | with_reducible assumption | with_reducible apply Wf.sI | with_reducible apply Wf.sL | with_reducible apply Wf.cpI | with_reducible apply Wf.cpL | with_reducible apply Wf.cp2 | with_reducible apply Wf.sIs | with_reducible apply Wf.sLs | with_reducible apply Wf.cpU | with_reducible apply Wf.fillI | with_reducible apply Wf.clU | with_reducible apply Wf.dnF | with_reducible apply Wf.gbW))) dX11_fixes_11 fs_X11_70 rfl (co_338 (by repeat (first | with_reducible exact hw | with_reducible exact hwc | with_reducible assumption | with_reducible apply Wf.sI | with_reducible apply Wf.sL | with_reducible apply Wf.cpI | with_reducible apply Wf.cpL | with_reducible apply Wf.cp2 | with_reducible apply Wf.sIs | with_reducible apply Wf.sLs | with_reducible apply Wf.cpU | with_reducible apply Wf.fillI | with_reducible apply Wf.clU | with_reducible apply Wf.dnF | with_reducible apply Wf.gbW)))) ?_
          refine lf (a_iload_n dX11_fixes_14 rfl) ?_
          refine lf (a_iload_n dX11_fixes_15 rfl) ?_
          refine lf (a_ist dX11_fixes_16 (ca_357 (by repeat (first | with_reducible exact hw | with_reducible exact hwc | with_reducible assumption | with_reducible apply Wf.sI | with_reducible apply Wf.sL | with_reducible apply Wf.cpI | with_reducible apply Wf.cpL | with_reducible apply Wf.cp2 | with_reducible apply Wf.sIs | with_reducible apply Wf.sLs | with_reducible apply Wf.cpU | with_reducible apply Wf.fillI | with_reducible apply Wf.clU | with_reducible apply Wf.dnF | with_reducible apply Wf.gbW))) (ixn (show p < 40 by omega) (by decide))) ?_
          refine lf (a_aload_n dX11_fixes_17 rfl) ?_
          refine lf (a_iload_n dX11_fixes_18 rfl) ?_
          refine lf (a_iload_n dX11_fixes_19 rfl) ?_
          refine lf (a_inv (b2 := (0, 0)) (Ct.int (if_pos ((su_fit hM4 hsp hmm).mpr hs)) (m_suits (by repeat (first | with_reducible exact hw | with_reducible exact hwc | with_reducible assumption | with_reducible apply Wf.sI | with_reducible apply Wf.sL | with_reducible apply Wf.cpI | with_reducible apply Wf.cpL | with_reducible apply Wf.cp2 | with_reducible apply Wf.sIs | with_reducible apply Wf.sLs | with_reducible apply Wf.cpU | with_reducible apply Wf.fillI | with_reducible apply Wf.clU | with_reducible apply Wf.dnF | with_reducible apply Wf.gbW)) hv1 hmm hp)) rfl dX11_fixes_20 yk_X11_suits im_X11_suits se_X11_suits ml_X11_303 rfl (co_338 (by repeat (first | with_reducible exact hw | with_reducible exact hwc | with_reducible assumption | with_reducible apply Wf.sI | with_reducible apply Wf.sL | with_reducible apply Wf.cpI | with_reducible apply Wf.cpL | with_reducible apply Wf.cp2 | with_reducible apply Wf.sIs | with_reducible apply Wf.sLs | with_reducible apply Wf.cpU | with_reducible apply Wf.fillI | with_reducible apply Wf.clU | with_reducible apply Wf.dnF | with_reducible apply Wf.gbW))) (by decide) hc_X11 (by decide) (by decide) (Nat.le_of_ble_eq_true rfl)) ?_
          refine lf2 (a_if_eq (tgt := 35) dX11_fixes_23 (by decide)) (fun h23 => absurd h23 (by decide)) (fun h23 => ?_)
          refine lf (a_aload_n dX11_fixes_26 rfl) ?_
          refine lf (a_inv (b2 := (0, 0)) hc rfl dX11_fixes_27 yk_X11_matches im_X11_matches se_X11_matches ml_X11_449 rfl (co_338 (by repeat (first | with_reducible exact hw | with_reducible exact hwc | with_reducible assumption | with_reducible apply Wf.sI | with_reducible apply Wf.sL | with_reducible apply Wf.cpI | with_reducible apply Wf.cpL | with_reducible apply Wf.cp2 | with_reducible apply Wf.sIs | with_reducible apply Wf.sLs | with_reducible apply Wf.cpU | with_reducible apply Wf.fillI | with_reducible apply Wf.clU | with_reducible apply Wf.dnF | with_reducible apply Wf.gbW))) (by decide) hc_X11 (by decide) (by decide) (Nat.le_of_ble_eq_true rfl)) ?_
          refine lf (a_iload_n dX11_fixes_30 rfl) ?_
          refine lfn (a_icmp_ne (tgt := 35) dX11_fixes_31 (by decide)) (fun h31 => ?_) (fun h31 => absurd h31 (fun z => hzn ((nI_eqI (by omega) (by omega)).mp z)))
          refine lf (a_iincN dX11_fixes_35 rfl (by decide)) ?_
          refine lf (a_goto (tgt := 2) dX11_fixes_38 (by decide)) ?_
          refine lf (a_loc _ rfl) (ih (m + 1) U (by omega) hO3 h7n (hgo (fun h g1 g2 g3 => ?_)))
          have z1 := hmax h (g1.set g3)
          have z2 := hmx h1 hal.1
          omega
    · refine lf (a_iload_n dX11_fixes_2 rfl) ?_
      refine lf (a_aload_n dX11_fixes_3 rfl) ?_
      refine lf (a_inv (b2 := (0, 0)) (m_meals (by repeat (first | with_reducible exact hw | with_reducible exact hwc | with_reducible assumption | with_reducible apply Wf.sI | with_reducible apply Wf.sL | with_reducible apply Wf.cpI | with_reducible apply Wf.cpL | with_reducible apply Wf.cp2 | with_reducible apply Wf.sIs | with_reducible apply Wf.sLs | with_reducible apply Wf.cpU | with_reducible apply Wf.fillI | with_reducible apply Wf.clU | with_reducible apply Wf.dnF | with_reducible apply Wf.gbW)) hv) rfl dX11_fixes_4 yk_X11_meals im_X11_meals se_X11_meals ml_X11_300 rfl (co_338 (by repeat (first | with_reducible exact hw | with_reducible exact hwc | with_reducible assumption | with_reducible apply Wf.sI | with_reducible apply Wf.sL | with_reducible apply Wf.cpI | with_reducible apply Wf.cpL | with_reducible apply Wf.cp2 | with_reducible apply Wf.sIs | with_reducible apply Wf.sLs | with_reducible apply Wf.cpU | with_reducible apply Wf.fillI | with_reducible apply Wf.clU | with_reducible apply Wf.dnF | with_reducible apply Wf.gbW))) (by decide) hc_X11 (by decide) (by decide) (Nat.le_of_ble_eq_true rfl)) ?_
      refine lf2 (a_icmp_ge (tgt := 41) dX11_fixes_7 (by decide)) (fun h7 => absurd h7 (nI_ge hmm (by omega))) (fun h7 => ?_)
      refine lf (a_aload_n dX11_fixes_10 rfl) ?_
      refine lf (a_getR (cr_338_32 (by repeat (first | with_reducible exact hw | with_reducible exact hwc | with_reducible assumption | with_reducible apply Wf.sI | with_reducible apply Wf.sL | with_reducible apply Wf.cpI | with_reducible apply Wf.cpL | with_reducible apply Wf.cp2 | with_reducible apply Wf.sIs | with_reducible apply Wf.sLs | with_reducible apply Wf.cpU | with_reducible apply Wf.fillI | with_reducible apply Wf.clU | with_reducible apply Wf.dnF | with_reducible apply Wf.gbW))) dX11_fixes_11 fs_X11_70 rfl (co_338 (by repeat (first | with_reducible exact hw | with_reducible exact hwc | with_reducible assumption | with_reducible apply Wf.sI | with_reducible apply Wf.sL | with_reducible apply Wf.cpI | with_reducible apply Wf.cpL | with_reducible apply Wf.cp2 | with_reducible apply Wf.sIs | with_reducible apply Wf.sLs | with_reducible apply Wf.cpU | with_reducible apply Wf.fillI | with_reducible apply Wf.clU | with_reducible apply Wf.dnF | with_reducible apply Wf.gbW)))) ?_
      refine lf (a_iload_n dX11_fixes_14 rfl) ?_
      refine lf (a_iload_n dX11_fixes_15 rfl) ?_
      refine lf (a_ist dX11_fixes_16 (ca_357 (by repeat (first | with_reducible exact hw | with_reducible exact hwc | with_reducible assumption | with_reducible apply Wf.sI | with_reducible apply Wf.sL | with_reducible apply Wf.cpI | with_reducible apply Wf.cpL | with_reducible apply Wf.cp2 | with_reducible apply Wf.sIs | with_reducible apply Wf.sLs | with_reducible apply Wf.cpU | with_reducible apply Wf.fillI | with_reducible apply Wf.clU | with_reducible apply Wf.dnF | with_reducible apply Wf.gbW))) (ixn (show p < 40 by omega) (by decide))) ?_
      refine lf (a_aload_n dX11_fixes_17 rfl) ?_
      refine lf (a_iload_n dX11_fixes_18 rfl) ?_
      refine lf (a_iload_n dX11_fixes_19 rfl) ?_
      refine lf (a_inv (b2 := (0, 0)) (Ct.int (if_neg (fun z => hs ((su_fit hM4 hsp hmm).mp z))) (m_suits (by repeat (first | with_reducible exact hw | with_reducible exact hwc | with_reducible assumption | with_reducible apply Wf.sI | with_reducible apply Wf.sL | with_reducible apply Wf.cpI | with_reducible apply Wf.cpL | with_reducible apply Wf.cp2 | with_reducible apply Wf.sIs | with_reducible apply Wf.sLs | with_reducible apply Wf.cpU | with_reducible apply Wf.fillI | with_reducible apply Wf.clU | with_reducible apply Wf.dnF | with_reducible apply Wf.gbW)) hv1 hmm hp)) rfl dX11_fixes_20 yk_X11_suits im_X11_suits se_X11_suits ml_X11_303 rfl (co_338 (by repeat (first | with_reducible exact hw | with_reducible exact hwc | with_reducible assumption | with_reducible apply Wf.sI | with_reducible apply Wf.sL | with_reducible apply Wf.cpI | with_reducible apply Wf.cpL | with_reducible apply Wf.cp2 | with_reducible apply Wf.sIs | with_reducible apply Wf.sLs | with_reducible apply Wf.cpU | with_reducible apply Wf.fillI | with_reducible apply Wf.clU | with_reducible apply Wf.dnF | with_reducible apply Wf.gbW))) (by decide) hc_X11 (by decide) (by decide) (Nat.le_of_ble_eq_true rfl)) ?_
      refine lf2 (a_if_eq (tgt := 35) dX11_fixes_23 (by decide)) (fun h23 => ?_) (fun h23 => absurd h23 (fun z => z rfl))
      refine lf (a_iincN dX11_fixes_35 rfl (by decide)) ?_
      refine lf (a_goto (tgt := 2) dX11_fixes_38 (by decide)) ?_
      refine lf (a_loc _ rfl) (ih (m + 1) _ (by omega) hO1 (fun i hi hip => by rw [h71 i hi, up1_ne hip]) (fun y hy h g1 g2 => ?_))
      by_cases e : y = m
      · rw [e]; exact fun z => hs (g1.1.1 p m hp z).2
      · exact hN y (by omega) h g1 g2
theorem m_fixes (hw : Wf μ) (hv0 : MdV μ q d) {p n : Nat} (hp : p < dP d) (hsp : ¬ dF d 1 p = 0) (hfp : fx p = none) (hr7 : ∀ i, i < dP d → gI μ 357 i = fI (fx i)) (hfm : ∀ p m, p < dP d → fx p = some (some m) → m < pM q ∧ suS q d p m = true) (hcap : ∀ m, m < pM q → ldD q d m = nI (cap m)) (hcb : ∀ m, m < pM q → cap m < 2 ^ 30) (hn : n ≤ 40) (hex : ∃ h, AlF (suS q d) cap (dP d) (pM q) fx (dP d) h ∧ szG h (dP d) = n) (hmx : ∀ h, MtG (suS q d) cap (dP d) (pM q) h → szG h (dP d) ≤ n) : CV Y_X11_fixes R_X11_fixes [.ref 338, .int (nI p), .int (nI n)] μ (fun v V => v = none ∧ FsQ μ q d cap fx p n V) := by
  refine CV.ent yk_X11_fixes (Nat.le_of_ble_eq_true rfl) ?_
  refine lf (a_iconst (0 : Int32) dX11_fixes_0 (by decide)) ?_
  refine lf (a_istore_n dX11_fixes_1 (by decide)) ?_
  exact lf (a_loc [(0, .ref 338), (1, .int (nI p)), (2, .int (nI n)), (3, .int (nI 0))] rfl) (fx_L hv0 hp hsp hfp hfm hcap hcb hn hex hmx (pM q) 0 μ (Nat.zero_add _) (Out.rfl' hw) (fun i hi _ => hr7 i hi) (fun y hy => absurd hy (Nat.not_lt_zero y)))
abbrev R_X11_matchesSpecial : Room := { frames := 7, cells := 0, slots := 0, locals := 162 }
abbrev RX_X11_matchesSpecial : Room := { frames := 7, cells := 1, slots := 6, locals := 162 }

/-- each of the first k in turn has the first meal that can be -/
def LxTo (q : PDt) (d : FDt) (cap : Nat → Nat) (n : Nat) (g : Nat → Option Nat) (k : Nat) : Prop := ∀ p, p < k → ∀ h, MtG (suS q d) cap (dP d) (pM q) h → szG h (dP d) = n → (∀ i, i < p → h i = g i) → leO (g p) (h p)
def MspQ (μ : Wd) (q : PDt) (d : FDt) (cap : Nat → Nat) (V : Wd) : Prop := Out sMb μ V ∧ ∃ (fx : Nat → Option (Option Nat)) (n : Nat), (∀ i, i < dP d → gI V 357 i = fI (fx i)) ∧ LexG (fun p m => bt (suM q d p) m) cap (dP d) (pM q) (joF fx) n
theorem sp_1 (hv0 : MdV μ q d) {Q : Oc → Wd → Prop} (kx : ∀ W : Wd, Out sMb μ W → (∀ i, i < dP d → gI W 357 i = -1) → WP Y_X11_matchesSpecial R_X11_matchesSpecial (0, 0) W 25 [(0, .ref 338), (1, .int (nI (dP d)))] [] Q) : ∀ (dd m : Nat) (W : Wd), m + dd = dP d → Out sMb μ W → (∀ i, i < m → gI W 357 i = -1) → WP Y_X11_matchesSpecial R_X11_matchesSpecial (0, 0) W 2 [(0, .ref 338), (1, .int (nI m))] [] Q := by
  have hP4 := hv0.P4
  intro dd
  induction dd with
  | zero =>
    intro m W hm hO hI
    obtain rfl : dP d = m := by omega
    have hw := hO.1
    have hv := hv0.mb hO
    refine lf (a_iload_n dX11_matchesSpecial_2 rfl) ?_
    refine lf (a_aload_n dX11_matchesSpecial_3 rfl) ?_
    refine lf (a_getR (cr_338_6 hw) dX11_matchesSpecial_4 fs_X11_26 rfl (co_338 hw)) ?_
    refine lf (a_iconst (3 : Int32) dX11_matchesSpecial_7 (by decide)) ?_
    refine lf (a_ild dX11_matchesSpecial_8 (ca_344 hw) (ixn (m := 3) (by omega) (by decide))) ?_
    rw [hv.s3]
    refine lf2 (a_icmp_ge (tgt := 25) dX11_matchesSpecial_9 (by decide)) (fun h9 => ?_) (fun h9 => absurd h9 (fun z => z (nI_le (Nat.le_refl _) (by omega))))
    exact lf (a_loc _ rfl) (kx W hO hI)
  | succ dd ih =>
    intro m W hm hO hI
    have hw := hO.1
    have hv := hv0.mb hO
    refine lf (a_iload_n dX11_matchesSpecial_2 rfl) ?_
    refine lf (a_aload_n dX11_matchesSpecial_3 rfl) ?_
    refine lf (a_getR (cr_338_6 (by repeat (first | with_reducible exact hw | with_reducible exact hwc | with_reducible assumption | with_reducible apply Wf.sI | with_reducible apply Wf.sL | with_reducible apply Wf.cpI | with_reducible apply Wf.cpL | with_reducible apply Wf.cp2 | with_reducible apply Wf.sIs | with_reducible apply Wf.sLs | with_reducible apply Wf.cpU | with_reducible apply Wf.fillI | with_reducible apply Wf.clU | with_reducible apply Wf.dnF | with_reducible apply Wf.gbW))) dX11_matchesSpecial_4 fs_X11_26 rfl (co_338 (by repeat (first | with_reducible exact hw | with_reducible exact hwc | with_reducible assumption | with_reducible apply Wf.sI | with_reducible apply Wf.sL | with_reducible apply Wf.cpI | with_reducible apply Wf.cpL | with_reducible apply Wf.cp2 | with_reducible apply Wf.sIs | with_reducible apply Wf.sLs | with_reducible apply Wf.cpU | with_reducible apply Wf.fillI | with_reducible apply Wf.clU | with_reducible apply Wf.dnF | with_reducible apply Wf.gbW)))) ?_
    refine lf (a_iconst (3 : Int32) dX11_matchesSpecial_7 (by decide)) ?_
    refine lf (a_ild dX11_matchesSpecial_8 (ca_344 (by repeat (first | with_reducible exact hw | with_reducible exact hwc | with_reducible assumption | with_reducible apply Wf.sI | with_reducible apply Wf.sL | with_reducible apply Wf.cpI | with_reducible apply Wf.cpL | with_reducible apply Wf.cp2 | with_reducible apply Wf.sIs | with_reducible apply Wf.sLs | with_reducible apply Wf.cpU | with_reducible apply Wf.fillI | with_reducible apply Wf.clU | with_reducible apply Wf.dnF | with_reducible apply Wf.gbW))) (ixn (m := 3) (by omega) (by decide))) ?_
    rw [hv.s3]
    refine lf2 (a_icmp_ge (tgt := 25) dX11_matchesSpecial_9 (by decide)) (fun h9 => absurd h9 (nI_ge (show m < dP d by omega) (by omega))) (fun h9 => ?_)
    refine lf (a_aload_n dX11_matchesSpecial_12 rfl) ?_
    refine lf (a_getR (cr_338_32 (by repeat (first | with_reducible exact hw | with_reducible exact hwc | with_reducible assumption | with_reducible apply Wf.sI | with_reducible apply Wf.sL | with_reducible apply Wf.cpI | with_reducible apply Wf.cpL | with_reducible apply Wf.cp2 | with_reducible apply Wf.sIs | with_reducible apply Wf.sLs | with_reducible apply Wf.cpU | with_reducible apply Wf.fillI | with_reducible apply Wf.clU | with_reducible apply Wf.dnF | with_reducible apply Wf.gbW))) dX11_matchesSpecial_13 fs_X11_70 rfl (co_338 (by repeat (first | with_reducible exact hw | with_reducible exact hwc | with_reducible assumption | with_reducible apply Wf.sI | with_reducible apply Wf.sL | with_reducible apply Wf.cpI | with_reducible apply Wf.cpL | with_reducible apply Wf.cp2 | with_reducible apply Wf.sIs | with_reducible apply Wf.sLs | with_reducible apply Wf.cpU | with_reducible apply Wf.fillI | with_reducible apply Wf.clU | with_reducible apply Wf.dnF | with_reducible apply Wf.gbW)))) ?_
    refine lf (a_iload_n dX11_matchesSpecial_16 rfl) ?_
    refine lf (a_iconst (-1 : Int32) dX11_matchesSpecial_17 (by decide)) ?_
    refine lf (a_ist dX11_matchesSpecial_18 (ca_357 (by repeat (first | with_reducible exact hw | with_reducible exact hwc | with_reducible assumption | with_reducible apply Wf.sI | with_reducible apply Wf.sL | with_reducible apply Wf.cpI | with_reducible apply Wf.cpL | with_reducible apply Wf.cp2 | with_reducible apply Wf.sIs | with_reducible apply Wf.sLs | with_reducible apply Wf.cpU | with_reducible apply Wf.fillI | with_reducible apply Wf.clU | with_reducible apply Wf.dnF | with_reducible apply Wf.gbW))) (ixn (show m < 40 by omega) (by decide))) ?_
    refine lf (a_iincN dX11_matchesSpecial_19 rfl (by decide)) ?_
    refine lf (a_goto (tgt := 2) dX11_matchesSpecial_22 (by decide)) ?_
    refine lf (a_loc _ rfl) (ih (m + 1) _ (by omega) (hO.sI (S := sMb) ⟨by decide, by decide⟩ _ _) (fun i hi => ?_))
    rw [gI_sI]
    by_cases e : i = m
    · rw [if_pos ⟨rfl, e⟩]
    · rw [if_neg (fun z => e z.2)]; exact hI i (by omega)
theorem sp_2 (hv0 : MdV μ q d) {n : Nat} (hcap : ∀ m, m < pM q → ldD q d m = nI (cap m)) (hcb : ∀ m, m < pM q → cap m < 2 ^ 30) (hn : n ≤ 40) (hmx : ∀ h, MtG (suS q d) cap (dP d) (pM q) h → szG h (dP d) ≤ n) : ∀ (dd k : Nat) (W : Wd) (fx : Nat → Option (Option Nat)), k + dd = dP d → Out sMb μ W → (∀ i, i < dP d → gI W 357 i = fI (fx i)) → (∀ p m, p < dP d → fx p = some (some m) → m < pM q ∧ suS q d p m = true) → (∀ i, k ≤ i → fx i = none) → (∀ i, i < k → ¬ dF d 1 i = 0 → fx i ≠ none) → (∀ i, dF d 1 i = 0 → fx i = none) → (∃ h, AlF (suS q d) cap (dP d) (pM q) fx (dP d) h ∧ szG h (dP d) = n) → LxTo q d cap n (joF fx) k →
    WP Y_X11_matchesSpecial R_X11_matchesSpecial (0, 0) W 32 [(0, .ref 338), (1, .int (nI n)), (2, .int (nI k))] [] (fun o V => ∃ v, o = .inl v ∧ v = none ∧ MspQ μ q d cap V) := by
  have hM4 := hv0.M4
  have hP4 := hv0.P4
  intro dd
  induction dd with
  | zero =>
    intro k W fx hk hO hr7 hfm hF1 hF2 hF3 hex hL
    obtain rfl : dP d = k := by omega
    have hw := hO.1
    have hv := hv0.mb hO
    obtain ⟨h, h1, h2⟩ := hex
    have he : ∀ i, i < dP d → h i = joF fx i := fun i hi => by
      unfold joF
      cases e : fx i with
      | some x => exact (h1.2 i hi).1 x e
      | none =>
        have h0 : dF d 1 i = 0 := Classical.byContradiction fun z => hF2 i hi z e
        cases e2 : h i with
        | none => rfl
        | some m =>
          have := (h1.1.1 i m hi e2).2
          exact absurd h0 (su_sp this)
    refine lf (a_iload_n dX11_matchesSpecial_32 rfl) ?_
    refine lf (a_aload_n dX11_matchesSpecial_33 rfl) ?_
    refine lf (a_getR (cr_338_6 hw) dX11_matchesSpecial_34 fs_X11_26 rfl (co_338 hw)) ?_
    refine lf (a_iconst (3 : Int32) dX11_matchesSpecial_37 (by decide)) ?_
    refine lf (a_ild dX11_matchesSpecial_38 (ca_344 hw) (ixn (m := 3) (by omega) (by decide))) ?_
    rw [hv.s3]
    refine lf2 (a_icmp_ge (tgt := 62) dX11_matchesSpecial_39 (by decide)) (fun h39 => ?_) (fun h39 => absurd h39 (fun z => z (nI_le (Nat.le_refl _) (by omega))))
    refine ⟨_, _, (a_return dX11_matchesSpecial_62 rfl), ?_⟩
    exact ⟨_, rfl, rfl, hO, fx, n, hr7, ⟨h1.1.cg he, (sz_cg he).symm.trans h2, hmx⟩, hL⟩
  | succ dd ih =>
    intro k W fx hk hO hr7 hfm hF1 hF2 hF3 hex hL
    have hkk : k < dP d := by omega
    have hw := hO.1
    have hv := hv0.mb hO
    have hfk := hF1 k (Nat.le_refl k)
    by_cases hsp : dF d 1 k = 0
    · refine lf (a_iload_n dX11_matchesSpecial_32 rfl) ?_
      refine lf (a_aload_n dX11_matchesSpecial_33 rfl) ?_
      refine lf (a_getR (cr_338_6 hw) dX11_matchesSpecial_34 fs_X11_26 rfl (co_338 hw)) ?_
      refine lf (a_iconst (3 : Int32) dX11_matchesSpecial_37 (by decide)) ?_
      refine lf (a_ild dX11_matchesSpecial_38 (ca_344 hw) (ixn (m := 3) (by omega) (by decide))) ?_
      rw [hv.s3]
      refine lf2 (a_icmp_ge (tgt := 62) dX11_matchesSpecial_39 (by decide)) (fun h39 => absurd h39 (nI_ge hkk (by omega))) (fun h39 => ?_)
      refine lf (a_aload_n dX11_matchesSpecial_42 rfl) ?_
      refine lf (a_iload_n dX11_matchesSpecial_43 rfl) ?_
      refine lf (a_inv (b2 := (0, 0)) (Ct.int (if_pos hsp) (m_isSpecial hw hv hkk)) rfl dX11_matchesSpecial_44 yk_X11_isSpecial im_X11_isSpecial se_X11_isSpecial ml_X11_306 rfl (co_338 hw) (by decide) hc_X11 (by decide) (by decide) (Nat.le_of_ble_eq_true rfl)) ?_
      refine lf2 (a_if_eq (tgt := 56) dX11_matchesSpecial_47 (by decide)) (fun h47 => ?_) (fun h47 => absurd h47 (fun z => z rfl))
      refine lf (a_iincN dX11_matchesSpecial_56 rfl (by decide)) ?_
      refine lf (a_goto (tgt := 32) dX11_matchesSpecial_59 (by decide)) ?_
      refine lf (a_loc _ rfl) (ih (k + 1) W fx (by omega) hO hr7 hfm (fun i hi => hF1 i (by omega)) (fun i hi hs => ?_) hF3 hex (fun p hp h g1 g2 g3 => ?_))
      · by_cases e : i = k
        · rw [e] at hs; exact absurd hsp hs
        · exact hF2 i (by omega) hs
      · by_cases e : p = k
        · rw [e]
          have j0 : joF fx k = none := by unfold joF; rw [hfk]; rfl
          have h0 : h k = none := by
            cases e2 : h k with
            | none => rfl
            | some m => exact absurd hsp (su_sp (g1.1 k m hkk e2).2)
          rw [j0, h0]; exact True.intro
        · exact hL p (by omega) h g1 g2 g3
    obtain ⟨v, U, hc, rfl, hO2, x, hx1, hx2, hx3, hx4⟩ := m_fixes hw hv hkk hsp hfk hr7 hfm hcap hcb hn hex hmx
    have hwc := hO2.1
    have hO3 := hO.trans hO2
    have hjl : ∀ i, i ≠ k → joF (up1 fx k (some x)) i = joF fx i := fun i hi => by unfold joF; rw [up1_ne hi]
    have hjk : joF (up1 fx k (some x)) k = x := by unfold joF; rw [up1_eq]; rfl
    refine lf (a_iload_n dX11_matchesSpecial_32 rfl) ?_
    refine lf (a_aload_n dX11_matchesSpecial_33 rfl) ?_
    refine lf (a_getR (cr_338_6 hw) dX11_matchesSpecial_34 fs_X11_26 rfl (co_338 hw)) ?_
    refine lf (a_iconst (3 : Int32) dX11_matchesSpecial_37 (by decide)) ?_
    refine lf (a_ild dX11_matchesSpecial_38 (ca_344 hw) (ixn (m := 3) (by omega) (by decide))) ?_
    rw [hv.s3]
    refine lf2 (a_icmp_ge (tgt := 62) dX11_matchesSpecial_39 (by decide)) (fun h39 => absurd h39 (nI_ge hkk (by omega))) (fun h39 => ?_)
    refine lf (a_aload_n dX11_matchesSpecial_42 rfl) ?_
    refine lf (a_iload_n dX11_matchesSpecial_43 rfl) ?_
    refine lf (a_inv (b2 := (0, 0)) (Ct.int (if_neg hsp) (m_isSpecial hw hv hkk)) rfl dX11_matchesSpecial_44 yk_X11_isSpecial im_X11_isSpecial se_X11_isSpecial ml_X11_306 rfl (co_338 hw) (by decide) hc_X11 (by decide) (by decide) (Nat.le_of_ble_eq_true rfl)) ?_
    refine lf2 (a_if_eq (tgt := 56) dX11_matchesSpecial_47 (by decide)) (fun h47 => absurd h47 (by decide)) (fun h47 => ?_)
    refine lf (a_aload_n dX11_matchesSpecial_50 rfl) ?_
    refine lf (a_iload_n dX11_matchesSpecial_51 rfl) ?_
    refine lf (a_iload_n dX11_matchesSpecial_52 rfl) ?_
    refine lf (a_inv (b2 := (0, 0)) hc rfl dX11_matchesSpecial_53 yk_X11_fixes im_X11_fixes se_X11_fixes ml_X11_455 rfl (co_338 hw) (by decide) hc_X11 (by decide) (by decide) (Nat.le_of_ble_eq_true rfl)) ?_
    refine lf (a_iincN dX11_matchesSpecial_56 rfl (by decide)) ?_
    refine lf (a_goto (tgt := 32) dX11_matchesSpecial_59 (by decide)) ?_
    refine lf (a_loc _ rfl) (ih (k + 1) U (up1 fx k (some x)) (by omega) hO3 hx1 (fun p m hp e => ?_) (fun i hi => ?_) (fun i hi hs => ?_) (fun i hi => ?_) hx3 (fun p hp h g1 g2 g3 => ?_))
    · by_cases z : p = k
      · rw [z, up1_eq] at e
        rw [z]; exact hx2 m (Option.some.inj e)
      · rw [up1_ne z] at e; exact hfm p m hp e
    · rw [up1_ne (by omega)]; exact hF1 i (by omega)
    · by_cases z : i = k
      · rw [z, up1_eq]; exact fun y => nomatch y
      · rw [up1_ne z]; exact hF2 i (by omega) hs
    · have z : i ≠ k := fun z => hsp (by rw [← z]; exact hi)
      rw [up1_ne z]; exact hF3 i hi
    · by_cases e : p = k
      · subst e
        rw [hjk]
        refine hx4 h ⟨g1, fun i hi => ⟨fun y ey => ?_, fun _ hle => absurd hi (by omega)⟩⟩ g2
        have hip : i < p := Classical.byContradiction fun z => by rw [hF1 i (by omega)] at ey; cases ey
        rw [g3 i hip, hjl i (by omega)]
        unfold joF
        rw [ey]; rfl
      · rw [hjl p e]
        exact hL p (by omega) h g1 g2 (fun i hi => (g3 i hi).trans (hjl i (by omega)))
theorem m_matchesSpecial (hw : Wf μ) (hv0 : MdV μ q d) (hcap : ∀ m, m < pM q → ldD q d m = nI (cap m)) (hcb : ∀ m, m < pM q → cap m < 2 ^ 30) : CV Y_X11_matchesSpecial R_X11_matchesSpecial [.ref 338] μ (fun v V => v = none ∧ MspQ μ q d cap V) := by
  have hM4 := hv0.M4
  have hP4 := hv0.P4
  refine CV.ent yk_X11_matchesSpecial (Nat.le_of_ble_eq_true rfl) ?_
  refine lf (a_iconst (0 : Int32) dX11_matchesSpecial_0 (by decide)) ?_
  refine lf (a_istore_n dX11_matchesSpecial_1 (by decide)) ?_
  refine lf (a_loc [(0, .ref 338), (1, .int (nI 0))] rfl) (sp_1 hv0 (fun W hO hr7 => ?_) (dP d) 0 μ (Nat.zero_add _) (Out.rfl' hw) (fun i hi => absurd hi (Nat.not_lt_zero i)))
  have hw1 := hO.1
  have hv1 := hv0.mb hO
  obtain ⟨v, U, hc, hO2, hr⟩ := m_matches (fx := fun _ => none) (cap := cap) hw1 hv1 hr7 (fun p m hp e => nomatch e) hcap hcb
  have hO3 : Out sMb μ U := hO.trans (hO2.mono (fun i y => ⟨by have := y.1; omega, y.2⟩))
  have hwc := hO2.1
  rcases hr with ⟨_, hbad⟩ | ⟨h1, hal, rfl, hmax⟩
  · refine absurd (show AlF (suS q d) cap (dP d) (pM q) (fun _ => none) (dP d) (fun _ => none) from ⟨⟨fun p m hp e => (nomatch e), fun m hm => ?_⟩, fun p hp => ⟨fun x e => (nomatch e), fun _ _ => rfl⟩⟩) (hbad _)
    have : cntG (fun _ => none) (dP d) m = 0 := fb_ct_zero.mpr (fun k _ => rfl)
    rw [this]; exact Nat.zero_le _
  have hsz : szG h1 (dP d) ≤ dP d := fb_ct_le _ _
  generalize hn : szG h1 (dP d) = n at hc hmax hsz
  refine lf (a_aload_n dX11_matchesSpecial_25 rfl) ?_
  refine lf (a_inv (b2 := (0, 0)) hc rfl dX11_matchesSpecial_26 yk_X11_matches im_X11_matches se_X11_matches ml_X11_449 rfl (co_338 hw1) (by decide) hc_X11 (by decide) (by decide) (Nat.le_of_ble_eq_true rfl)) ?_
  refine lf (a_istore_n dX11_matchesSpecial_29 (by decide)) ?_
  refine lf (a_iconst (0 : Int32) dX11_matchesSpecial_30 (by decide)) ?_
  refine lf (a_istore_n dX11_matchesSpecial_31 (by decide)) ?_
  refine lf (a_loc [(0, .ref 338), (1, .int (nI n)), (2, .int (nI 0))] rfl) (sp_2 hv0 hcap hcb (by omega) (fun h hh => hmax h ⟨hh, fun p hp => ⟨fun x e => (nomatch e), fun _ hle => absurd hp (by omega)⟩⟩) (dP d) 0 U (fun _ => none) (Nat.zero_add _) hO3 (fun i hi => (hO2.i (fun z => by have := z.1; omega) i).trans (hr7 i hi)) (fun p m hp e => nomatch e) (fun _ _ => rfl) (fun i hi => absurd hi (Nat.not_lt_zero i)) (fun _ _ => rfl) ⟨h1, hal, hn⟩ (fun p hp => absurd hp (Nat.not_lt_zero p)))
end FIXES
