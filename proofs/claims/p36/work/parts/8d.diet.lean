section DIET
variable {μ W : Wd} {lo a : Nat} {l s : List Nat}
theorem cw_SBL : Cond.classLink RL 36 RJ4 ∈ lwa := lwa_in 1110 (by decide +kernel) rfl
/-- a builder that has just been made -/
theorem FlI.start {k : Nat} {v : Option Value} {V : Wd} (hw : Wf μ) (h : BnQ (wn μ) (mk μ 12) (wn μ) l k v V) : FlI (wn μ) μ V (wn μ) l (k + 1) l.length := by
  obtain ⟨-, he, hn, hs⟩ := h
  refine ⟨hs, ((Ex.mk hw 12).trans he).mono (fun i hi z => absurd hi (by omega)), by have e : wn (mk μ 12) = wn μ + 1 := rfl; omega, Nat.le_refl _⟩
theorem sb_new (hw : Wf μ) : Wf (mk μ 12) ∧ Ob (mk μ 12) (wn μ) 12 ∧ gI (mk μ 12) (wn μ) 3 = 0 := ⟨hw.mk 12, ⟨Nat.lt_succ_self _, km_new (len := 0) (t := 12) hw.1 (by decide)⟩, by rw [gI_mk, if_pos rfl]⟩
theorem FlI.old {V : Wd} {k k2 L : Nat} (h : FlI lo μ W a l k L) (he : Ex s338 W V) (hn : wn V ≤ wn W + k2) : FlI lo μ V a l (k + k2) L := by
  have hl := h.1.late
  exact ⟨h.1.of he (by show ¬ a = 338; omega) (fun v e => by show ¬ v = 338; have := hl.2.2 v e; omega), h.2.1.trans (he.mono (fun _ _ z => Or.inr z)), by have := h.2.2.1; omega, h.2.2.2⟩
/-- some of the first letters, in their order -/
def DS : Nat → List (List Nat)
  | 0 => [[]]
  | m + 1 => DS m ++ (DS m).map (fun l => l ++ [97 + m])
theorem DS_l {m : Nat} (h : l ∈ DS m) : l ∈ DS (m + 1) := List.mem_append_left _ h
theorem DS_r {m : Nat} (h : l ∈ DS m) : l ++ [97 + m] ∈ DS (m + 1) := List.mem_append_right _ (List.mem_map.mpr ⟨l, h, rfl⟩)
/-- diets as the law writes them -/
def DtL : List (List Nat) := [[97], [98], [99], [97, 98], [97, 99], [98, 99], [97, 98, 99]]
theorem DS_3 (h : l ∈ DS 3) (hl : l ≠ []) : l ∈ DtL := by
  have q : ∀ l ∈ DS 3, l = [] ∨ l ∈ DtL := by decide +kernel
  exact (q l h).resolve_left hl
theorem DtL_len (h : l ∈ DtL) : l.length ≤ 3 ∧ 1 ≤ l.length ∧ ∀ x ∈ l, x < 128 := by
  have q : ∀ l ∈ DtL, l.length ≤ 3 ∧ 1 ≤ l.length ∧ ∀ x ∈ l, x < 128 := by decide +kernel
  exact q l h
/-- a text of diets has been made -/
def DiQ (μ : Wd) (v : Option Value) (V : Wd) : Prop := ∃ r l, v = some (.ref r) ∧ StrV V r l ∧ l ∈ DtL ∧ Ex s338 μ V ∧ wn V ≤ wn μ + 7
abbrev R_L_diets : Room := { frames := 16, cells := 7, slots := 7640, locals := 900 }
theorem l_L_diets_10 (hμ : wn μ + 20 < 1000000) {Q : Oc → Wd → Prop} (kx : ∀ v V, DiQ μ v V → Q (.inl v) V) : ∀ dd m (l : List Nat) (W : Wd) (k L9 : Nat), m + dd = 3 → FlI (wn μ) μ W a l k L9 → k ≤ 2 + m → L9 ≤ m → l ∈ DS m → WP Y_L_diets R_L_diets (2 + dd, 1904 + 1900 * dd) W 10 [(0, .ref 338), (1, .int (nI 3)), (2, .ref a), (3, .int (nI m))] [] Q := by
  intro dd
  induction dd with
  | zero =>
    intro m l W k L9 hm hF hk hL hD
    obtain rfl : 3 = m := by omega
    have hw := hF.wf
    have hct := hF.1.len
    refine lf (a_iload_n dL_diets_10 rfl) ?_
    refine lf (a_iload_n dL_diets_11 rfl) ?_
    refine lf2 (a_icmp_ge (tgt := 40) dL_diets_12 (by decide)) (fun h12 => ?_) (fun h12 => absurd h12 (fun z => z (Int32.le_refl _)))
    refine lf (a_aload_n dL_diets_40 rfl) ?_
    refine lf (a_inv (b2 := (2, 1904)) (t_J4_length_8abf5 hF.ob hct) rfl dL_diets_41 yk_J4_length_8abf5 im_J4_length_8abf5 se_J4_length_8abf5 ml_L_47 rfl hF.ob (by decide) hc_J4 (by decide) (by decide) (Nat.le_of_ble_eq_true rfl)) ?_
    refine lfn (a_if_ne (tgt := 52) dL_diets_44 (by decide)) (fun h44 => ?_) (fun h44 => ?_)
    · have hl : l ≠ [] := fun z => h44 (by rw [z]; rfl)
      refine lf (a_aload_n dL_diets_52 rfl) ?_
      obtain ⟨v_, W53, k53, rfl, he52, hn52, hs52, hr52⟩ := (t_J4_toString_0e30d hw hF.1 (by have := hF.2.2.1; omega))
      refine lf (a_inv (b2 := (0, 0)) k53 rfl dL_diets_53 yk_J4_toString_0e30d im_J4_toString_0e30d se_J4_toString_0e30d ml_L_50 rfl hF.ob (by decide) hc_J4 (by decide) ⟨Nat.le_refl _, Nat.le_refl _⟩ (Nat.le_of_ble_eq_true rfl)) ?_
      refine ⟨_, _, (a_areturn dL_diets_56 rfl (by first | exact Or.inl ⟨_, rfl⟩ | exact Or.inr ⟨_, rfl⟩)), ?_⟩
      refine kx _ _ ?_
      first
      | exact ⟨_, _, rfl, hs52, DS_3 hD hl, ((hF.2.1).trans (he52.mono (fun _ _ z => z.elim))).mono (fun i hi z => by show i = 338; omega), by have := hF.2.2.1; omega⟩
      | exact ⟨_, [97], rfl, ks W (c := 38) (by decide), by decide, hF.2.1.mono (fun i hi z => by show i = 338; omega), by have := hF.2.2.1; omega⟩
    · refine lf (a_ldcS (n := 38) (tx := "a") dL_diets_47 rfl) ?_
      refine lf (a_goto (tgt := 56) dL_diets_49 (by decide)) ?_
      refine ⟨_, _, (a_areturn dL_diets_56 rfl (by first | exact Or.inl ⟨_, rfl⟩ | exact Or.inr ⟨_, rfl⟩)), ?_⟩
      refine kx _ _ ?_
      first
      | exact ⟨_, _, rfl, hs52, DS_3 hD hl, ((hF.2.1).trans (he52.mono (fun _ _ z => z.elim))).mono (fun i hi z => by show i = 338; omega), by have := hF.2.2.1; omega⟩
      | exact ⟨_, [97], rfl, ks W (c := 38) (by decide), by decide, hF.2.1.mono (fun i hi z => by show i = 338; omega), by have := hF.2.2.1; omega⟩
  | succ dd ih =>
    intro m l W k L9 hm hF hk hL hD
    have hw := hF.wf
    refine lf (a_iload_n dL_diets_10 rfl) ?_
    refine lf (a_iload_n dL_diets_11 rfl) ?_
    refine lf2 (a_icmp_ge (tgt := 40) dL_diets_12 (by decide)) (fun h12 => absurd h12 (nI_ge (a := m) (b := 3) (by omega) (by decide))) (fun h12 => ?_)
    refine lf (a_aload_n dL_diets_15 rfl) ?_
    obtain ⟨v_, W16, k16, n, hn, rfl, hF16⟩ := fs_nx hF
    have hw16 := hF16.wf
    refine lf (a_invS (b2 := (2 + (dd + 1), 1904 + 1900 * (dd + 1))) k16 rfl dL_diets_16 yk_L_next sm_L_next ml_L_39 rfl (by decide) ⟨by show 0 + (2 + (dd + 1)) ≤ _; omega, by show 0 + (1904 + 1900 * (dd + 1)) ≤ _; omega⟩ (Nat.le_of_ble_eq_true rfl)) ?_
    refine lf (a_iconst (2 : Int32) dL_diets_19 (by decide)) ?_
    refine lf (a_irem dL_diets_20 (by decide)) ?_
    rw [show nI n - nI n / 2 * 2 = nI (n % 2) from pk_rem (d := 2) (by omega) (by decide) (by decide)]
    refine lfn (a_if_ne (tgt := 34) dL_diets_21 (by decide)) (fun h21 => ?_) (fun h21 => ?_)
    · refine lf (a_iincN dL_diets_34 rfl (by decide)) ?_
      refine lf (a_goto (tgt := 10) dL_diets_37 (by decide)) ?_
      first
      | exact lf (a_loc _ rfl) (ih (m + 1) (l ++ [97 + m]) _ (k + 1) (L9 + 1) (by omega) hF30 (by omega) (by omega) (DS_r hD))
      | exact lf (a_room (b' := (2 + dd, 1904 + 1900 * dd)) (by show 2 + dd ≤ 2 + (dd + 1); omega) (by show 1904 + 1900 * dd ≤ 1904 + 1900 * (dd + 1); omega)) (lf (a_loc _ rfl) (ih (m + 1) l _ k L9 (by omega) hF16 (by omega) (by omega) (DS_l hD)))
    · refine lf (a_aload_n dL_diets_24 rfl) ?_
      refine lf (a_bipush (97 : Int32) dL_diets_25 (by decide)) ?_
      refine lf (a_iload_n dL_diets_27 rfl) ?_
      refine lf (a_iadd dL_diets_28) ?_
      rw [show (97 : Int32) + nI m = nI (97 + m) from nI_add 97 m]
      refine lf (a_i2c dL_diets_29) ?_
      rw [(by255 (n := 97 + m) (by omega)).2]
      obtain ⟨v_, W30, k30, rfl, hF30⟩ := fs_C hF16 (x := 97 + m) (by omega) (by omega) (by omega)
      refine lf (a_inv (b2 := (2 + dd, 1904 + 1900 * dd)) k30 rfl dL_diets_30 yk_J4_append_cf468 im_J4_append_cf468 se_J4_append_cf468 ml_L_43 rfl hF16.ob (by decide) hc_J4 (by decide) ⟨by show 1 + (2 + dd) ≤ _; omega, by show 1900 + (1904 + 1900 * dd) ≤ _; omega⟩ (Nat.le_of_ble_eq_true rfl)) ?_
      refine lf (a_pop dL_diets_33 rfl) ?_
      refine lf (a_iincN dL_diets_34 rfl (by decide)) ?_
      refine lf (a_goto (tgt := 10) dL_diets_37 (by decide)) ?_
      first
      | exact lf (a_loc _ rfl) (ih (m + 1) (l ++ [97 + m]) _ (k + 1) (L9 + 1) (by omega) hF30 (by omega) (by omega) (DS_r hD))
      | exact lf (a_room (b' := (2 + dd, 1904 + 1900 * dd)) (by show 2 + dd ≤ 2 + (dd + 1); omega) (by show 1904 + 1900 * dd ≤ 1904 + 1900 * (dd + 1); omega)) (lf (a_loc _ rfl) (ih (m + 1) l _ k L9 (by omega) hF16 (by omega) (by omega) (DS_l hD)))
theorem t_L_diets (hw : Wf μ) (hm : wn μ + 20 < 1000000) : CV Y_L_diets R_L_diets [.ref 338, .int (nI 3)] μ (DiQ μ) := by
  refine CV.ent yk_L_diets (Nat.le_of_ble_eq_true rfl) ?_
  obtain ⟨hw1, ho1, h01⟩ := sb_new hw
  refine lf (a_new (c9 := 12) (b' := (6, 7636)) dL_diets_0 cls_J4 cw_SBL in_SB ini_RJ4 (fun j hj => by rcases (by omega : j = 0 ∨ j = 1 ∨ j = 2 ∨ j = 3) with e | e | e | e <;> subst e <;> rfl) (km_new (len := 0) (t := 12) hw.1 (by decide)) (by omega) rfl) ?_
  refine lf (a_dup dL_diets_3 rfl) ?_
  obtain ⟨v_, W4, k4, rfl, hE, hn4, hS⟩ := (t_J4_init_da8c8 (lo := wn μ) hw1 ho1 h01 hw.1 (Nat.le_refl _) (by show wn μ + 1 + 1 < _; omega))
  refine lf (a_invI (b2 := (5, 7620)) k4 rfl dL_diets_4 yk_J4_init_da8c8 rfl rfl im_J4_init_da8c8 ml_L_38 rfl (by decide) (by decide) (Nat.le_of_ble_eq_true rfl)) ?_
  refine lf (a_astore_n dL_diets_7 (by decide)) ?_
  refine lf (a_iconst (0 : Int32) dL_diets_8 (by decide)) ?_
  refine lf (a_istore_n dL_diets_9 (by decide)) ?_
  have hF := FlI.start hw ⟨rfl, hE, hn4, hS⟩
  refine lf (a_room (b' := (2 + 3, 1904 + 1900 * 3)) (by decide) (by decide)) (lf (a_loc [(0, .ref 338), (1, .int (nI 3)), (2, .ref (wn μ)), (3, .int (nI 0))] rfl) (l_L_diets_10 hm (fun v V h => ⟨v, rfl, h⟩) 3 0 [] _ 2 0 rfl hF (by decide) (by decide) (by decide)))
end DIET
