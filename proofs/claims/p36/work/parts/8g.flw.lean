section FLW
variable {μ W : Wd} {lo a : Nat} {l s : List Nat}
abbrev R_L_flight : Room := { frames := 20, cells := 290, slots := 370000, locals := 1200 }
/-- an inner builder is done: the outer one is as it was -/
theorem FlI.inn {V V2 : Wd} {k k2 L L2 ai : Nat} {li : List Nat} (h : FlI lo μ W a l k L) (hi : FlI (wn W) W V ai li k2 L2) (he : Ex (fun _ => False) V V2) (hn : wn V2 ≤ wn V + 2) : FlI lo μ V2 a l (k + (k2 + 2)) L := h.old (k2 := k2 + 2) ((hi.2.1.mono (fun i hi z => by show i = 338; omega)).trans (he.mono (fun _ _ z => z.elim))) (by have := hi.2.2.1; omega)
/-- a flight's text has been made -/
def FgQ (μ : Wd) (v : Option Value) (V : Wd) : Prop := ∃ r l, v = some (.ref r) ∧ StrV V r l ∧ l.length ≤ 800 ∧ TxI (ZG 0) l ∧ Ex s338 μ V ∧ wn V ≤ wn μ + 700
theorem l_L_flight_343 (hμ : wn μ + 1000 < 1000000) : ∀ kk (l : List Nat) (W : Wd) (k9 L9 : Nat), FlI (wn μ) μ W a l k9 L9 → k9 + 12 * kk ≤ 690 → L9 + 18 * kk ≤ 800 → kk ≤ 3 → TxI (ZG kk) l → WP Y_L_flight R_L_flight (2 + 12 * kk, 1904 + 16000 * kk) W 343 [(0, .ref 338), (1, .ref a), (2, .int (nI kk))] [] (fun o V => ∃ v, o = .inl v ∧ FgQ μ v V) := by
  intro kk
  induction kk with
  | zero =>
    intro l W k9 L9 hF hk hL h3 hT
    have hw := hF.wf
    have ho := hF.ob
    refine lf (a_iload_n dL_flight_343 rfl) ?_
    refine lf2 (a_if_le (tgt := 389) dL_flight_344 (by decide)) (fun h344 => ?_) (fun h344 => absurd h344 (fun z => z (by decide)))
    refine lf (a_aload_n dL_flight_389 rfl) ?_
    obtain ⟨v_, W390, k390, rfl, he9, hn9, hs9, hr9⟩ := (t_J4_toString_0e30d hw hF.1 (by have := hF.2.2.1; omega))
    refine lf (a_inv (b2 := (0, 0)) k390 rfl dL_flight_390 yk_J4_toString_0e30d im_J4_toString_0e30d se_J4_toString_0e30d ml_L_50 rfl ho (by decide) hc_J4 (by decide) ⟨Nat.le_refl _, Nat.le_refl _⟩ (Nat.le_of_ble_eq_true rfl)) ?_
    refine ⟨_, _, (a_areturn dL_flight_393 rfl (by first | exact Or.inl ⟨_, rfl⟩ | exact Or.inr ⟨_, rfl⟩)), ?_⟩
    exact ⟨_, rfl, _, _, rfl, hs9, by have := hF.2.2.2; omega, hT, (hF.2.1.mono (fun i hi z => by show i = 338; omega)).trans (he9.mono (fun _ _ z => z.elim)), by have := hF.2.2.1; omega⟩
  | succ kk ih =>
    intro l W k9 L9 hF hk hL h3 hT
    have hw := hF.wf
    have ho := hF.ob
    refine lf (a_iload_n dL_flight_343 rfl) ?_
    refine lf2 (a_if_le (tgt := 389) dL_flight_344 (by decide)) (fun h344 => absurd h344 (nI_ge (a := 0) (b := kk + 1) (by omega) (by omega))) (fun h344 => ?_)
    refine lf (a_aload_n dL_flight_347 rfl) ?_
    refine lf (a_ldcS (n := 42) (tx := "guest ") dL_flight_348 rfl) ?_
    obtain ⟨v_, W350, k350, rfl, hF350⟩ := fs_S hF (ks _ (c := 42) (by decide)) (m := 6) (by decide +kernel) (by omega) (by omega)
    refine lf (a_inv (b2 := (13 + 12 * kk, 16004 + 16000 * kk)) k350 rfl dL_flight_350 yk_J4_append_15ec4 im_J4_append_15ec4 se_J4_append_15ec4 ml_L_64 rfl hF.ob (by decide) hc_J4 (by decide) ⟨by show 1 + (13 + 12 * kk) ≤ _; omega, by show 1900 + (16004 + 16000 * kk) ≤ _; omega⟩ (Nat.le_of_ble_eq_true rfl)) ?_
    refine lf (a_iload_n dL_flight_353 rfl) ?_
    refine lf (a_iconst (2 : Int32) dL_flight_354 (by decide)) ?_
    refine lf (a_irem dL_flight_355 (by decide)) ?_
    refine lfn (a_if_ne (tgt := 364) dL_flight_356 (by decide)) (fun h356 => ?_) (fun h356 => ?_)
    · have hc9 : 44 < 59 := by decide
      refine lf (a_ldcS (n := 44) (tx := "y needs ") dL_flight_364 rfl) ?_
      obtain ⟨v_, W366, k366, rfl, hF366⟩ := fs_S hF350 (ks _ hc9) (m := 8) (by decide +kernel) (by omega) (by omega)
      refine lf (a_inv (b2 := (12 + 12 * kk, 14104 + 16000 * kk)) k366 rfl dL_flight_366 yk_J4_append_15ec4 im_J4_append_15ec4 se_J4_append_15ec4 ml_L_64 rfl hF350.ob (by decide) hc_J4 (by decide) ⟨by show 1 + (12 + 12 * kk) ≤ _; omega, by show 1900 + (14104 + 16000 * kk) ≤ _; omega⟩ (Nat.le_of_ble_eq_true rfl)) ?_
      refine lf (a_aload_n dL_flight_369 rfl) ?_
      refine lf (a_iconst (3 : Int32) dL_flight_370 (by decide)) ?_
      obtain ⟨v_, W371, k371, r7, d7, rfl, hs7, hd7, he7, hn7⟩ := t_L_diets hF366.wf (by have := hF366.2.2.1; omega)
      have hF371 := hF366.old he7 hn7
      have hl7 := (DtL_len hd7).1
      refine lf (a_invS (b2 := (5 + 12 * kk, 6464 + 16000 * kk)) k371 rfl dL_flight_371 yk_L_diets sm_L_diets ml_L_85 rfl (by decide) ⟨by show 7 + (5 + 12 * kk) ≤ _; omega, by show 7640 + (6464 + 16000 * kk) ≤ _; omega⟩ (Nat.le_of_ble_eq_true rfl)) ?_
      obtain ⟨v_, W374, k374, rfl, hF374⟩ := fs_S hF371 hs7 (m := 3) hl7 (by omega) (by omega)
      refine lf (a_inv (b2 := (4 + 12 * kk, 4564 + 16000 * kk)) k374 rfl dL_flight_374 yk_J4_append_15ec4 im_J4_append_15ec4 se_J4_append_15ec4 ml_L_64 rfl hF371.ob (by decide) hc_J4 (by decide) ⟨by show 1 + (4 + 12 * kk) ≤ _; omega, by show 1900 + (4564 + 16000 * kk) ≤ _; omega⟩ (Nat.le_of_ble_eq_true rfl)) ?_
      refine lf (a_bipush (59 : Int32) dL_flight_377 (by decide)) ?_
      obtain ⟨v_, W379, k379, rfl, hF379⟩ := fs_C hF374 (x := 59) (by decide) (by omega) (by omega)
      refine lf (a_inv (b2 := (3 + 12 * kk, 2664 + 16000 * kk)) k379 rfl dL_flight_379 yk_J4_append_cf468 im_J4_append_cf468 se_J4_append_cf468 ml_L_43 rfl hF374.ob (by decide) hc_J4 (by decide) ⟨by show 1 + (3 + 12 * kk) ≤ _; omega, by show 1900 + (2664 + 16000 * kk) ≤ _; omega⟩ (Nat.le_of_ble_eq_true rfl)) ?_
      refine lf (a_pop dL_flight_382 rfl) ?_
      refine lf (a_iincD dL_flight_383 rfl (by decide)) ?_
      refine lf (a_goto (tgt := 343) dL_flight_386 (by decide)) ?_
      first
      | exact lf (a_loc _ rfl) (lf (a_room (b' := (2 + 12 * kk, 1904 + 16000 * kk)) (by show 2 + 12 * kk ≤ _; omega) (by show 1904 + 16000 * kk ≤ _; omega)) (ih _ _ _ _ hF379 (by omega) (by omega) (by omega) (tx_gx hT hd7)))
      | exact lf (a_loc _ rfl) (lf (a_room (b' := (2 + 12 * kk, 1904 + 16000 * kk)) (by show 2 + 12 * kk ≤ _; omega) (by show 1904 + 16000 * kk ≤ _; omega)) (ih _ _ _ _ hF379 (by omega) (by omega) (by omega) (tx_gy hT hd7)))
    · have hc9 : 43 < 59 := by decide
      refine lf (a_ldcS (n := 43) (tx := "x needs ") dL_flight_359 rfl) ?_
      refine lf (a_goto (tgt := 366) dL_flight_361 (by decide)) ?_
      obtain ⟨v_, W366, k366, rfl, hF366⟩ := fs_S hF350 (ks _ hc9) (m := 8) (by decide +kernel) (by omega) (by omega)
      refine lf (a_inv (b2 := (12 + 12 * kk, 14104 + 16000 * kk)) k366 rfl dL_flight_366 yk_J4_append_15ec4 im_J4_append_15ec4 se_J4_append_15ec4 ml_L_64 rfl hF350.ob (by decide) hc_J4 (by decide) ⟨by show 1 + (12 + 12 * kk) ≤ _; omega, by show 1900 + (14104 + 16000 * kk) ≤ _; omega⟩ (Nat.le_of_ble_eq_true rfl)) ?_
      refine lf (a_aload_n dL_flight_369 rfl) ?_
      refine lf (a_iconst (3 : Int32) dL_flight_370 (by decide)) ?_
      obtain ⟨v_, W371, k371, r7, d7, rfl, hs7, hd7, he7, hn7⟩ := t_L_diets hF366.wf (by have := hF366.2.2.1; omega)
      have hF371 := hF366.old he7 hn7
      have hl7 := (DtL_len hd7).1
      refine lf (a_invS (b2 := (5 + 12 * kk, 6464 + 16000 * kk)) k371 rfl dL_flight_371 yk_L_diets sm_L_diets ml_L_85 rfl (by decide) ⟨by show 7 + (5 + 12 * kk) ≤ _; omega, by show 7640 + (6464 + 16000 * kk) ≤ _; omega⟩ (Nat.le_of_ble_eq_true rfl)) ?_
      obtain ⟨v_, W374, k374, rfl, hF374⟩ := fs_S hF371 hs7 (m := 3) hl7 (by omega) (by omega)
      refine lf (a_inv (b2 := (4 + 12 * kk, 4564 + 16000 * kk)) k374 rfl dL_flight_374 yk_J4_append_15ec4 im_J4_append_15ec4 se_J4_append_15ec4 ml_L_64 rfl hF371.ob (by decide) hc_J4 (by decide) ⟨by show 1 + (4 + 12 * kk) ≤ _; omega, by show 1900 + (4564 + 16000 * kk) ≤ _; omega⟩ (Nat.le_of_ble_eq_true rfl)) ?_
      refine lf (a_bipush (59 : Int32) dL_flight_377 (by decide)) ?_
      obtain ⟨v_, W379, k379, rfl, hF379⟩ := fs_C hF374 (x := 59) (by decide) (by omega) (by omega)
      refine lf (a_inv (b2 := (3 + 12 * kk, 2664 + 16000 * kk)) k379 rfl dL_flight_379 yk_J4_append_cf468 im_J4_append_cf468 se_J4_append_cf468 ml_L_43 rfl hF374.ob (by decide) hc_J4 (by decide) ⟨by show 1 + (3 + 12 * kk) ≤ _; omega, by show 1900 + (2664 + 16000 * kk) ≤ _; omega⟩ (Nat.le_of_ble_eq_true rfl)) ?_
      refine lf (a_pop dL_flight_382 rfl) ?_
      refine lf (a_iincD dL_flight_383 rfl (by decide)) ?_
      refine lf (a_goto (tgt := 343) dL_flight_386 (by decide)) ?_
      first
      | exact lf (a_loc _ rfl) (lf (a_room (b' := (2 + 12 * kk, 1904 + 16000 * kk)) (by show 2 + 12 * kk ≤ _; omega) (by show 1904 + 16000 * kk ≤ _; omega)) (ih _ _ _ _ hF379 (by omega) (by omega) (by omega) (tx_gx hT hd7)))
      | exact lf (a_loc _ rfl) (lf (a_room (b' := (2 + 12 * kk, 1904 + 16000 * kk)) (by show 2 + 12 * kk ≤ _; omega) (by show 1904 + 16000 * kk ≤ _; omega)) (ih _ _ _ _ hF379 (by omega) (by omega) (by omega) (tx_gy hT hd7)))
theorem l_L_flight_244 (hμ : wn μ + 1000 < 1000000) : ∀ kk (l : List Nat) (W : Wd) (k9 L9 : Nat), FlI (wn μ) μ W a l k9 L9 → k9 + 4 * kk ≤ 640 → L9 + 13 * kk ≤ 700 → kk ≤ 4 → TxI (ZT kk) l → WP Y_L_flight R_L_flight (43 + 4 * kk, 59404 + 7600 * kk) W 244 [(0, .ref 338), (1, .ref a), (2, .int (nI kk))] [] (fun o V => ∃ v, o = .inl v ∧ FgQ μ v V) := by
  intro kk
  induction kk with
  | zero =>
    intro l W k9 L9 hF hk hL h3 hT
    have hw := hF.wf
    have ho := hF.ob
    refine lf (a_iload_n dL_flight_244 rfl) ?_
    refine lf2 (a_if_le (tgt := 297) dL_flight_245 (by decide)) (fun h245 => ?_) (fun h245 => absurd h245 (fun z => z (by decide)))
    refine lf (a_aload_n dL_flight_297 rfl) ?_
    refine lf (a_ldcS (n := 40) (tx := "guests x ") dL_flight_298 rfl) ?_
    obtain ⟨v_, W300, k300, rfl, hF300⟩ := fs_S hF (ks _ (c := 40) (by decide)) (m := 9) (by decide +kernel) (by omega) (by omega)
    refine lf (a_inv (b2 := (42, 57504)) k300 rfl dL_flight_300 yk_J4_append_15ec4 im_J4_append_15ec4 se_J4_append_15ec4 ml_L_64 rfl hF.ob (by decide) hc_J4 (by decide) ⟨by decide, by decide⟩ (Nat.le_of_ble_eq_true rfl)) ?_
    refine lf (a_iconst (1 : Int32) dL_flight_303 (by decide)) ?_
    refine lf (a_aload_n dL_flight_304 rfl) ?_
    obtain ⟨v_, W305, k305, n1, hn1, rfl, hF305⟩ := fs_nx hF300
    refine lf (a_invS (b2 := (42, 57504)) k305 rfl dL_flight_305 yk_L_next sm_L_next ml_L_39 rfl (by decide) ⟨by decide, by decide⟩ (Nat.le_of_ble_eq_true rfl)) ?_
    refine lf (a_iconst (3 : Int32) dL_flight_308 (by decide)) ?_
    refine lf (a_irem dL_flight_309 (by decide)) ?_
    rw [show nI n1 - nI n1 / 3 * 3 = nI (n1 % 3) from pk_rem (d := 3) (by omega) (by decide) (by decide)]
    refine lf (a_iadd dL_flight_310) ?_
    rw [show (1 : Int32) + nI (n1 % 3) = nI (1 + n1 % 3) from nI_add 1 (n1 % 3)]
    obtain ⟨v_, W311, k311, rfl, hF311⟩ := fs_I hF305 (n := 1 + n1 % 3) (by omega) (by omega) (by omega)
    refine lf (a_inv (b2 := (41, 55604)) k311 rfl dL_flight_311 yk_J4_append_bf812 im_J4_append_bf812 se_J4_append_bf812 ml_L_59 rfl hF305.ob (by decide) hc_J4 (by decide) ⟨by decide, by decide⟩ (Nat.le_of_ble_eq_true rfl)) ?_
    refine lf (a_ldcS (n := 41) (tx := ";guests y ") dL_flight_314 rfl) ?_
    obtain ⟨v_, W316, k316, rfl, hF316⟩ := fs_S hF311 (ks _ (c := 41) (by decide)) (m := 10) (by decide +kernel) (by omega) (by omega)
    refine lf (a_inv (b2 := (40, 53704)) k316 rfl dL_flight_316 yk_J4_append_15ec4 im_J4_append_15ec4 se_J4_append_15ec4 ml_L_64 rfl hF311.ob (by decide) hc_J4 (by decide) ⟨by decide, by decide⟩ (Nat.le_of_ble_eq_true rfl)) ?_
    refine lf (a_iconst (1 : Int32) dL_flight_319 (by decide)) ?_
    refine lf (a_aload_n dL_flight_320 rfl) ?_
    obtain ⟨v_, W321, k321, n2, hn2, rfl, hF321⟩ := fs_nx hF316
    refine lf (a_invS (b2 := (40, 53704)) k321 rfl dL_flight_321 yk_L_next sm_L_next ml_L_39 rfl (by decide) ⟨by decide, by decide⟩ (Nat.le_of_ble_eq_true rfl)) ?_
    refine lf (a_iconst (2 : Int32) dL_flight_324 (by decide)) ?_
    refine lf (a_irem dL_flight_325 (by decide)) ?_
    rw [show nI n2 - nI n2 / 2 * 2 = nI (n2 % 2) from pk_rem (d := 2) (by omega) (by decide) (by decide)]
    refine lf (a_iadd dL_flight_326) ?_
    rw [show (1 : Int32) + nI (n2 % 2) = nI (1 + n2 % 2) from nI_add 1 (n2 % 2)]
    obtain ⟨v_, W327, k327, rfl, hF327⟩ := fs_I hF321 (n := 1 + n2 % 2) (by omega) (by omega) (by omega)
    refine lf (a_inv (b2 := (39, 51804)) k327 rfl dL_flight_327 yk_J4_append_bf812 im_J4_append_bf812 se_J4_append_bf812 ml_L_59 rfl hF321.ob (by decide) hc_J4 (by decide) ⟨by decide, by decide⟩ (Nat.le_of_ble_eq_true rfl)) ?_
    refine lf (a_bipush (59 : Int32) dL_flight_330 (by decide)) ?_
    obtain ⟨v_, W332, k332, rfl, hF332⟩ := fs_C hF327 (x := 59) (by decide) (by omega) (by omega)
    refine lf (a_inv (b2 := (38, 49904)) k332 rfl dL_flight_332 yk_J4_append_cf468 im_J4_append_cf468 se_J4_append_cf468 ml_L_43 rfl hF327.ob (by decide) hc_J4 (by decide) ⟨by decide, by decide⟩ (Nat.le_of_ble_eq_true rfl)) ?_
    refine lf (a_pop dL_flight_335 rfl) ?_
    refine lf (a_aload_n dL_flight_336 rfl) ?_
    obtain ⟨v_, W337, k337, n3, hn3, rfl, hF337⟩ := fs_nx hF332
    refine lf (a_invS (b2 := (38, 49904)) k337 rfl dL_flight_337 yk_L_next sm_L_next ml_L_39 rfl (by decide) ⟨by decide, by decide⟩ (Nat.le_of_ble_eq_true rfl)) ?_
    refine lf (a_iconst (4 : Int32) dL_flight_340 (by decide)) ?_
    refine lf (a_irem dL_flight_341 (by decide)) ?_
    rw [show nI n3 - nI n3 / 4 * 4 = nI (n3 % 4) from pk_rem (d := 4) (by omega) (by decide) (by decide)]
    refine lf (a_istore_n dL_flight_342 (by decide)) ?_
    refine lf (a_loc [(0, .ref 338), (1, .ref a), (2, .int (nI (n3 % 4)))] rfl) (lf (a_room (b' := (2 + 12 * (n3 % 4), 1904 + 16000 * (n3 % 4))) (by show 2 + 12 * (n3 % 4) ≤ 38; omega) (by show 1904 + 16000 * (n3 % 4) ≤ 49904; omega)) (l_L_flight_343 hμ (n3 % 4) _ _ _ _ hF337 (by omega) (by omega) (by omega) ((tx_gs hT ⟨by omega, by omega⟩ ⟨by omega, by omega⟩).gk (by omega))))
  | succ kk ih =>
    intro l W k9 L9 hF hk hL h3 hT
    have hw := hF.wf
    have ho := hF.ob
    refine lf (a_iload_n dL_flight_244 rfl) ?_
    refine lf2 (a_if_le (tgt := 297) dL_flight_245 (by decide)) (fun h245 => absurd h245 (nI_ge (a := 0) (b := kk + 1) (by omega) (by omega))) (fun h245 => ?_)
    refine lf (a_aload_n dL_flight_248 rfl) ?_
    refine lf (a_ldcS (n := 39) (tx := "trolley ") dL_flight_249 rfl) ?_
    obtain ⟨v_, W251, k251, rfl, hF251⟩ := fs_S hF (ks _ (c := 39) (by decide)) (m := 8) (by decide +kernel) (by omega) (by omega)
    refine lf (a_inv (b2 := (46 + 4 * kk, 65104 + 7600 * kk)) k251 rfl dL_flight_251 yk_J4_append_15ec4 im_J4_append_15ec4 se_J4_append_15ec4 ml_L_64 rfl hF.ob (by decide) hc_J4 (by decide) ⟨by show 1 + (46 + 4 * kk) ≤ _; omega, by show 1900 + (65104 + 7600 * kk) ≤ _; omega⟩ (Nat.le_of_ble_eq_true rfl)) ?_
    refine lf (a_aload_n dL_flight_254 rfl) ?_
    obtain ⟨v_, W255, k255, n1, hn1, rfl, hF255⟩ := fs_nx hF251
    refine lf (a_invS (b2 := (46 + 4 * kk, 65104 + 7600 * kk)) k255 rfl dL_flight_255 yk_L_next sm_L_next ml_L_39 rfl (by decide) ⟨by show 0 + (46 + 4 * kk) ≤ _; omega, by show 0 + (65104 + 7600 * kk) ≤ _; omega⟩ (Nat.le_of_ble_eq_true rfl)) ?_
    refine lf (a_iconst (2 : Int32) dL_flight_258 (by decide)) ?_
    refine lf (a_irem dL_flight_259 (by decide)) ?_
    rw [show nI n1 - nI n1 / 2 * 2 = nI (n1 % 2) from pk_rem (d := 2) (by omega) (by decide) (by decide)]
    refine lfn (a_if_ne (tgt := 268) dL_flight_260 (by decide)) (fun h260 => ?_) (fun h260 => ?_)
    · have hc9 : 34 < 59 := by decide
      refine lf (a_ldcS (n := 34) (tx := "y ") dL_flight_268 rfl) ?_
      obtain ⟨v_, W270, k270, rfl, hF270⟩ := fs_S hF255 (ks _ hc9) (m := 2) (by decide +kernel) (by omega) (by omega)
      refine lf (a_inv (b2 := (45 + 4 * kk, 63204 + 7600 * kk)) k270 rfl dL_flight_270 yk_J4_append_15ec4 im_J4_append_15ec4 se_J4_append_15ec4 ml_L_64 rfl hF255.ob (by decide) hc_J4 (by decide) ⟨by show 1 + (45 + 4 * kk) ≤ _; omega, by show 1900 + (63204 + 7600 * kk) ≤ _; omega⟩ (Nat.le_of_ble_eq_true rfl)) ?_
      refine lf (a_iconst (1 : Int32) dL_flight_273 (by decide)) ?_
      refine lf (a_aload_n dL_flight_274 rfl) ?_
      obtain ⟨v_, W275, k275, n2, hn2, rfl, hF275⟩ := fs_nx hF270
      refine lf (a_invS (b2 := (45 + 4 * kk, 63204 + 7600 * kk)) k275 rfl dL_flight_275 yk_L_next sm_L_next ml_L_39 rfl (by decide) ⟨by show 0 + (45 + 4 * kk) ≤ _; omega, by show 0 + (63204 + 7600 * kk) ≤ _; omega⟩ (Nat.le_of_ble_eq_true rfl)) ?_
      refine lf (a_bipush (12 : Int32) dL_flight_278 (by decide)) ?_
      refine lf (a_irem dL_flight_280 (by decide)) ?_
      rw [show nI n2 - nI n2 / 12 * 12 = nI (n2 % 12) from pk_rem (d := 12) (by omega) (by decide) (by decide)]
      refine lf (a_iadd dL_flight_281) ?_
      rw [show (1 : Int32) + nI (n2 % 12) = nI (1 + n2 % 12) from nI_add 1 (n2 % 12)]
      obtain ⟨v_, W282, k282, rfl, hF282⟩ := fs_I hF275 (n := 1 + n2 % 12) (by omega) (by omega) (by omega)
      refine lf (a_inv (b2 := (44 + 4 * kk, 61304 + 7600 * kk)) k282 rfl dL_flight_282 yk_J4_append_bf812 im_J4_append_bf812 se_J4_append_bf812 ml_L_59 rfl hF275.ob (by decide) hc_J4 (by decide) ⟨by show 1 + (44 + 4 * kk) ≤ _; omega, by show 1900 + (61304 + 7600 * kk) ≤ _; omega⟩ (Nat.le_of_ble_eq_true rfl)) ?_
      refine lf (a_bipush (59 : Int32) dL_flight_285 (by decide)) ?_
      obtain ⟨v_, W287, k287, rfl, hF287⟩ := fs_C hF282 (x := 59) (by decide) (by omega) (by omega)
      refine lf (a_inv (b2 := (43 + 4 * kk, 59404 + 7600 * kk)) k287 rfl dL_flight_287 yk_J4_append_cf468 im_J4_append_cf468 se_J4_append_cf468 ml_L_43 rfl hF282.ob (by decide) hc_J4 (by decide) ⟨by show 1 + (43 + 4 * kk) ≤ _; omega, by show 1900 + (59404 + 7600 * kk) ≤ _; omega⟩ (Nat.le_of_ble_eq_true rfl)) ?_
      refine lf (a_pop dL_flight_290 rfl) ?_
      refine lf (a_iincD dL_flight_291 rfl (by decide)) ?_
      refine lf (a_goto (tgt := 244) dL_flight_294 (by decide)) ?_
      first
      | exact lf (a_loc _ rfl) (lf (a_room (b' := (43 + 4 * kk, 59404 + 7600 * kk)) (by show 43 + 4 * kk ≤ _; omega) (by show 59404 + 7600 * kk ≤ _; omega)) (ih _ _ _ _ hF287 (by omega) (by omega) (by omega) (tx_tx hT ⟨by omega, by omega⟩)))
      | exact lf (a_loc _ rfl) (lf (a_room (b' := (43 + 4 * kk, 59404 + 7600 * kk)) (by show 43 + 4 * kk ≤ _; omega) (by show 59404 + 7600 * kk ≤ _; omega)) (ih _ _ _ _ hF287 (by omega) (by omega) (by omega) (tx_ty hT ⟨by omega, by omega⟩)))
    · have hc9 : 33 < 59 := by decide
      refine lf (a_ldcS (n := 33) (tx := "x ") dL_flight_263 rfl) ?_
      refine lf (a_goto (tgt := 270) dL_flight_265 (by decide)) ?_
      obtain ⟨v_, W270, k270, rfl, hF270⟩ := fs_S hF255 (ks _ hc9) (m := 2) (by decide +kernel) (by omega) (by omega)
      refine lf (a_inv (b2 := (45 + 4 * kk, 63204 + 7600 * kk)) k270 rfl dL_flight_270 yk_J4_append_15ec4 im_J4_append_15ec4 se_J4_append_15ec4 ml_L_64 rfl hF255.ob (by decide) hc_J4 (by decide) ⟨by show 1 + (45 + 4 * kk) ≤ _; omega, by show 1900 + (63204 + 7600 * kk) ≤ _; omega⟩ (Nat.le_of_ble_eq_true rfl)) ?_
      refine lf (a_iconst (1 : Int32) dL_flight_273 (by decide)) ?_
      refine lf (a_aload_n dL_flight_274 rfl) ?_
      obtain ⟨v_, W275, k275, n2, hn2, rfl, hF275⟩ := fs_nx hF270
      refine lf (a_invS (b2 := (45 + 4 * kk, 63204 + 7600 * kk)) k275 rfl dL_flight_275 yk_L_next sm_L_next ml_L_39 rfl (by decide) ⟨by show 0 + (45 + 4 * kk) ≤ _; omega, by show 0 + (63204 + 7600 * kk) ≤ _; omega⟩ (Nat.le_of_ble_eq_true rfl)) ?_
      refine lf (a_bipush (12 : Int32) dL_flight_278 (by decide)) ?_
      refine lf (a_irem dL_flight_280 (by decide)) ?_
      rw [show nI n2 - nI n2 / 12 * 12 = nI (n2 % 12) from pk_rem (d := 12) (by omega) (by decide) (by decide)]
      refine lf (a_iadd dL_flight_281) ?_
      rw [show (1 : Int32) + nI (n2 % 12) = nI (1 + n2 % 12) from nI_add 1 (n2 % 12)]
      obtain ⟨v_, W282, k282, rfl, hF282⟩ := fs_I hF275 (n := 1 + n2 % 12) (by omega) (by omega) (by omega)
      refine lf (a_inv (b2 := (44 + 4 * kk, 61304 + 7600 * kk)) k282 rfl dL_flight_282 yk_J4_append_bf812 im_J4_append_bf812 se_J4_append_bf812 ml_L_59 rfl hF275.ob (by decide) hc_J4 (by decide) ⟨by show 1 + (44 + 4 * kk) ≤ _; omega, by show 1900 + (61304 + 7600 * kk) ≤ _; omega⟩ (Nat.le_of_ble_eq_true rfl)) ?_
      refine lf (a_bipush (59 : Int32) dL_flight_285 (by decide)) ?_
      obtain ⟨v_, W287, k287, rfl, hF287⟩ := fs_C hF282 (x := 59) (by decide) (by omega) (by omega)
      refine lf (a_inv (b2 := (43 + 4 * kk, 59404 + 7600 * kk)) k287 rfl dL_flight_287 yk_J4_append_cf468 im_J4_append_cf468 se_J4_append_cf468 ml_L_43 rfl hF282.ob (by decide) hc_J4 (by decide) ⟨by show 1 + (43 + 4 * kk) ≤ _; omega, by show 1900 + (59404 + 7600 * kk) ≤ _; omega⟩ (Nat.le_of_ble_eq_true rfl)) ?_
      refine lf (a_pop dL_flight_290 rfl) ?_
      refine lf (a_iincD dL_flight_291 rfl (by decide)) ?_
      refine lf (a_goto (tgt := 244) dL_flight_294 (by decide)) ?_
      first
      | exact lf (a_loc _ rfl) (lf (a_room (b' := (43 + 4 * kk, 59404 + 7600 * kk)) (by show 43 + 4 * kk ≤ _; omega) (by show 59404 + 7600 * kk ≤ _; omega)) (ih _ _ _ _ hF287 (by omega) (by omega) (by omega) (tx_tx hT ⟨by omega, by omega⟩)))
      | exact lf (a_loc _ rfl) (lf (a_room (b' := (43 + 4 * kk, 59404 + 7600 * kk)) (by show 43 + 4 * kk ≤ _; omega) (by show 59404 + 7600 * kk ≤ _; omega)) (ih _ _ _ _ hF287 (by omega) (by omega) (by omega) (tx_ty hT ⟨by omega, by omega⟩)))
theorem l_L_flight_83 (hμ : wn μ + 1000 < 1000000) : ∀ kk (l : List Nat) (W : Wd) (k9 L9 : Nat), FlI (wn μ) μ W a l k9 L9 → k9 + 30 * kk ≤ 600 → L9 + 40 * kk ≤ 600 → kk ≤ 7 → TxI (ZM kk) l → WP Y_L_flight R_L_flight (59 + 30 * kk, 89804 + 36000 * kk) W 83 [(0, .ref 338), (1, .ref a), (2, .int (nI kk))] [] (fun o V => ∃ v, o = .inl v ∧ FgQ μ v V) := by
  intro kk
  induction kk with
  | zero =>
    intro l W k9 L9 hF hk hL h3 hT
    have hw := hF.wf
    have ho := hF.ob
    refine lf (a_iload_n dL_flight_83 rfl) ?_
    refine lf2 (a_if_le (tgt := 235) dL_flight_84 (by decide)) (fun h84 => ?_) (fun h84 => absurd h84 (fun z => z (by decide)))
    refine lf (a_iconst (1 : Int32) dL_flight_235 (by decide)) ?_
    refine lf (a_aload_n dL_flight_236 rfl) ?_
    obtain ⟨v_, W237, k237, n1, hn1, rfl, hF237⟩ := fs_nx hF
    refine lf (a_invS (b2 := (59, 89804)) k237 rfl dL_flight_237 yk_L_next sm_L_next ml_L_39 rfl (by decide) ⟨by decide, by decide⟩ (Nat.le_of_ble_eq_true rfl)) ?_
    refine lf (a_iconst (4 : Int32) dL_flight_240 (by decide)) ?_
    refine lf (a_irem dL_flight_241 (by decide)) ?_
    rw [show nI n1 - nI n1 / 4 * 4 = nI (n1 % 4) from pk_rem (d := 4) (by omega) (by decide) (by decide)]
    refine lf (a_iadd dL_flight_242) ?_
    rw [show (1 : Int32) + nI (n1 % 4) = nI (1 + n1 % 4) from nI_add 1 (n1 % 4)]
    refine lf (a_istore_n dL_flight_243 (by decide)) ?_
    refine lf (a_loc [(0, .ref 338), (1, .ref a), (2, .int (nI (1 + n1 % 4)))] rfl) (lf (a_room (b' := (43 + 4 * (1 + n1 % 4), 59404 + 7600 * (1 + n1 % 4))) (by show 43 + 4 * (1 + n1 % 4) ≤ 59; omega) (by show 59404 + 7600 * (1 + n1 % 4) ≤ 89804; omega)) (l_L_flight_244 hμ (1 + n1 % 4) _ _ _ _ hF237 (by omega) (by omega) (by omega) (hT.mono fun z g => ZM.tt (by omega) g)))
  | succ kk ih =>
    intro l W k9 L9 hF hk hL h3 hT
    have hw := hF.wf
    have ho := hF.ob
    refine lf (a_iload_n dL_flight_83 rfl) ?_
    refine lf2 (a_if_le (tgt := 235) dL_flight_84 (by decide)) (fun h84 => absurd h84 (nI_ge (a := 0) (b := kk + 1) (by omega) (by omega))) (fun h84 => ?_)
    refine lf (a_aload_n dL_flight_87 rfl) ?_
    refine lf (a_ldcS (n := 30) (tx := "meal ") dL_flight_88 rfl) ?_
    obtain ⟨v_, W90, k90, rfl, hF90⟩ := fs_S hF (ks _ (c := 30) (by decide)) (m := 5) (by decide +kernel) (by omega) (by omega)
    refine lf (a_inv (b2 := (88 + 30 * kk, 123904 + 36000 * kk)) k90 rfl dL_flight_90 yk_J4_append_15ec4 im_J4_append_15ec4 se_J4_append_15ec4 ml_L_64 rfl hF.ob (by decide) hc_J4 (by decide) ⟨by show 1 + (88 + 30 * kk) ≤ _; omega, by show 1900 + (123904 + 36000 * kk) ≤ _; omega⟩ (Nat.le_of_ble_eq_true rfl)) ?_
    refine lf (a_bipush (97 : Int32) dL_flight_93 (by decide)) ?_
    refine lf (a_iload_n dL_flight_95 rfl) ?_
    refine lf (a_iadd dL_flight_96) ?_
    rw [show (97 : Int32) + nI (kk + 1) = nI (97 + (kk + 1)) from nI_add 97 (kk + 1)]
    refine lf (a_i2c dL_flight_97) ?_
    rw [(by255 (n := 97 + (kk + 1)) (by omega)).2]
    obtain ⟨v_, W98, k98, rfl, hF98⟩ := fs_C hF90 (x := 97 + (kk + 1)) (by omega) (by omega) (by omega)
    refine lf (a_inv (b2 := (87 + 30 * kk, 122004 + 36000 * kk)) k98 rfl dL_flight_98 yk_J4_append_cf468 im_J4_append_cf468 se_J4_append_cf468 ml_L_43 rfl hF90.ob (by decide) hc_J4 (by decide) ⟨by show 1 + (87 + 30 * kk) ≤ _; omega, by show 1900 + (122004 + 36000 * kk) ≤ _; omega⟩ (Nat.le_of_ble_eq_true rfl)) ?_
    refine lf (a_aload_n dL_flight_101 rfl) ?_
    obtain ⟨v_, W102, k102, n1, hn1, rfl, hF102⟩ := fs_nx hF98
    refine lf (a_invS (b2 := (87 + 30 * kk, 122004 + 36000 * kk)) k102 rfl dL_flight_102 yk_L_next sm_L_next ml_L_39 rfl (by decide) ⟨by show 0 + (87 + 30 * kk) ≤ _; omega, by show 0 + (122004 + 36000 * kk) ≤ _; omega⟩ (Nat.le_of_ble_eq_true rfl)) ?_
    refine lf (a_iconst (3 : Int32) dL_flight_105 (by decide)) ?_
    refine lf (a_irem dL_flight_106 (by decide)) ?_
    rw [show nI n1 - nI n1 / 3 * 3 = nI (n1 % 3) from pk_rem (d := 3) (by omega) (by decide) (by decide)]
    refine lfn (a_if_ne (tgt := 115) dL_flight_107 (by decide)) (fun h107 => ?_) (fun h107 => ?_)
    · obtain ⟨hwI, hoI, h0I⟩ := sb_new hF102.wf
      refine lf (a_new (Y := Y_L_flight) (c9 := 12) (b' := (86 + 30 * kk, 122000 + 36000 * kk)) dL_flight_115 cls_J4 cw_SBL in_SB ini_RJ4 (fun j hj => by rcases (by omega : j = 0 ∨ j = 1 ∨ j = 2 ∨ j = 3) with e | e | e | e <;> subst e <;> rfl) (km_new (len := 0) (t := 12) hF102.wf.1 (by decide)) (by have := hF102.2.2.1; omega) (by show ((_ : Nat), (_ : Nat)) = (_ + 1, _ + 4); congr 1 <;> omega)) ?_
      refine lf (a_dup dL_flight_118 rfl) ?_
      obtain ⟨v_, W119, k119, hB119⟩ := t_J4_init_da8c8 (lo := wn W102) hwI hoI h0I hF102.wf.1 (Nat.le_refl _) (by have := hF102.2.2.1; show wn W102 + 1 + 1 < _; omega)
      have hI119 := FlI.start hF102.wf hB119
      obtain rfl : v_ = none := hB119.1
      refine lf (a_invI (b2 := (85 + 30 * kk, 121984 + 36000 * kk)) k119 rfl dL_flight_119 yk_J4_init_da8c8 rfl rfl im_J4_init_da8c8 ml_L_38 rfl (by decide) ⟨by show 1 + (85 + 30 * kk) ≤ _; omega, by show 16 + (121984 + 36000 * kk) ≤ _; omega⟩ (Nat.le_of_ble_eq_true rfl)) ?_
      refine lf (a_ldcS (n := 32) (tx := " menu ") dL_flight_122 rfl) ?_
      obtain ⟨v_, W124, k124, rfl, hI124⟩ := fs_S hI119 (ks _ (c := 32) (by decide)) (m := 6) (by decide +kernel) (by decide) (by have := hF102.2.2.1; omega)
      refine lf (a_inv (b2 := (84 + 30 * kk, 120084 + 36000 * kk)) k124 rfl dL_flight_124 yk_J4_append_15ec4 im_J4_append_15ec4 se_J4_append_15ec4 ml_L_64 rfl hI119.ob (by decide) hc_J4 (by decide) ⟨by show 1 + (84 + 30 * kk) ≤ _; omega, by show 1900 + (120084 + 36000 * kk) ≤ _; omega⟩ (Nat.le_of_ble_eq_true rfl)) ?_
      refine lf (a_aload_n dL_flight_127 rfl) ?_
      obtain ⟨v_, W128, k128, n2, hn2, rfl, hI128⟩ := fs_nx hI124
      refine lf (a_invS (b2 := (84 + 30 * kk, 120084 + 36000 * kk)) k128 rfl dL_flight_128 yk_L_next sm_L_next ml_L_39 rfl (by decide) ⟨by show 0 + (84 + 30 * kk) ≤ _; omega, by show 0 + (120084 + 36000 * kk) ≤ _; omega⟩ (Nat.le_of_ble_eq_true rfl)) ?_
      refine lf (a_iconst (2 : Int32) dL_flight_131 (by decide)) ?_
      refine lf (a_irem dL_flight_132 (by decide)) ?_
      rw [show nI n2 - nI n2 / 2 * 2 = nI (n2 % 2) from pk_rem (d := 2) (by omega) (by decide) (by decide)]
      refine lfn (a_if_ne (tgt := 141) dL_flight_133 (by decide)) (fun h133 => ?_) (fun h133 => ?_)
      · have mk_my := trivial
        have hc9 : 34 < 59 := by decide
        refine lf (a_ldcS (n := 34) (tx := "y ") dL_flight_141 rfl) ?_
        obtain ⟨v_, W143, k143, rfl, hI143⟩ := fs_S hI128 (ks _ hc9) (m := 2) (by decide +kernel) (by decide) (by have := hF102.2.2.1; omega)
        refine lf (a_inv (b2 := (83 + 30 * kk, 118184 + 36000 * kk)) k143 rfl dL_flight_143 yk_J4_append_15ec4 im_J4_append_15ec4 se_J4_append_15ec4 ml_L_64 rfl hI128.ob (by decide) hc_J4 (by decide) ⟨by show 1 + (83 + 30 * kk) ≤ _; omega, by show 1900 + (118184 + 36000 * kk) ≤ _; omega⟩ (Nat.le_of_ble_eq_true rfl)) ?_
        refine lf (a_iconst (1 : Int32) dL_flight_146 (by decide)) ?_
        refine lf (a_aload_n dL_flight_147 rfl) ?_
        obtain ⟨v_, W148, k148, n3, hn3, rfl, hI148⟩ := fs_nx hI143
        refine lf (a_invS (b2 := (83 + 30 * kk, 118184 + 36000 * kk)) k148 rfl dL_flight_148 yk_L_next sm_L_next ml_L_39 rfl (by decide) ⟨by show 0 + (83 + 30 * kk) ≤ _; omega, by show 0 + (118184 + 36000 * kk) ≤ _; omega⟩ (Nat.le_of_ble_eq_true rfl)) ?_
        refine lf (a_bipush (9 : Int32) dL_flight_151 (by decide)) ?_
        refine lf (a_irem dL_flight_153 (by decide)) ?_
        rw [show nI n3 - nI n3 / 9 * 9 = nI (n3 % 9) from pk_rem (d := 9) (by omega) (by decide) (by decide)]
        refine lf (a_iadd dL_flight_154) ?_
        rw [show (1 : Int32) + nI (n3 % 9) = nI (1 + n3 % 9) from nI_add 1 (n3 % 9)]
        obtain ⟨v_, W155, k155, rfl, hI155⟩ := fs_I hI148 (n := 1 + n3 % 9) (by omega) (by decide) (by have := hF102.2.2.1; omega)
        refine lf (a_inv (b2 := (82 + 30 * kk, 116284 + 36000 * kk)) k155 rfl dL_flight_155 yk_J4_append_bf812 im_J4_append_bf812 se_J4_append_bf812 ml_L_59 rfl hI148.ob (by decide) hc_J4 (by decide) ⟨by show 1 + (82 + 30 * kk) ≤ _; omega, by show 1900 + (116284 + 36000 * kk) ≤ _; omega⟩ (Nat.le_of_ble_eq_true rfl)) ?_
        refine lf (a_ldcS (n := 35) (tx := " ") dL_flight_158 rfl) ?_
        obtain ⟨v_, W160, k160, rfl, hI160⟩ := fs_S hI155 (ks _ (c := 35) (by decide)) (m := 1) (by decide +kernel) (by decide) (by have := hF102.2.2.1; omega)
        refine lf (a_inv (b2 := (81 + 30 * kk, 114384 + 36000 * kk)) k160 rfl dL_flight_160 yk_J4_append_15ec4 im_J4_append_15ec4 se_J4_append_15ec4 ml_L_64 rfl hI155.ob (by decide) hc_J4 (by decide) ⟨by show 1 + (81 + 30 * kk) ≤ _; omega, by show 1900 + (114384 + 36000 * kk) ≤ _; omega⟩ (Nat.le_of_ble_eq_true rfl)) ?_
        obtain ⟨v_, W163, k163, rfl, heT, hnT, hsX, hrT⟩ := t_J4_toString_0e30d hI160.wf hI160.1 (by have := hI160.2.2.1; have := hF102.2.2.1; omega)
        have hO := hF102.inn hI160 heT (by omega)
        have hlX := hI160.2.2.2
        refine lf (a_inv (b2 := (79 + 30 * kk, 112480 + 36000 * kk)) k163 rfl dL_flight_163 yk_J4_toString_0e30d im_J4_toString_0e30d se_J4_toString_0e30d ml_L_50 rfl hI160.ob (by decide) hc_J4 (by decide) ⟨by show 2 + (79 + 30 * kk) ≤ _; omega, by show 1904 + (112480 + 36000 * kk) ≤ _; omega⟩ (Nat.le_of_ble_eq_true rfl)) ?_
        obtain ⟨v_, W166, k166, rfl, hF166⟩ := fs_S hO hsX (m := 11) hlX (by omega) (by omega)
        refine lf (a_inv (b2 := (78 + 30 * kk, 110580 + 36000 * kk)) k166 rfl dL_flight_166 yk_J4_append_15ec4 im_J4_append_15ec4 se_J4_append_15ec4 ml_L_64 rfl hO.ob (by decide) hc_J4 (by decide) ⟨by show 1 + (78 + 30 * kk) ≤ _; omega, by show 1900 + (110580 + 36000 * kk) ≤ _; omega⟩ (Nat.le_of_ble_eq_true rfl)) ?_
        refine lf (a_iconst (1 : Int32) dL_flight_169 (by decide)) ?_
        refine lf (a_aload_n dL_flight_170 rfl) ?_
        obtain ⟨v_, W171, k171, n4, hn4, rfl, hF171⟩ := fs_nx hF166
        refine lf (a_invS (b2 := (78 + 30 * kk, 110580 + 36000 * kk)) k171 rfl dL_flight_171 yk_L_next sm_L_next ml_L_39 rfl (by decide) ⟨by show 0 + (78 + 30 * kk) ≤ _; omega, by show 0 + (110580 + 36000 * kk) ≤ _; omega⟩ (Nat.le_of_ble_eq_true rfl)) ?_
        refine lf (a_iconst (3 : Int32) dL_flight_174 (by decide)) ?_
        refine lf (a_irem dL_flight_175 (by decide)) ?_
        rw [show nI n4 - nI n4 / 3 * 3 = nI (n4 % 3) from pk_rem (d := 3) (by omega) (by decide) (by decide)]
        refine lf (a_iadd dL_flight_176) ?_
        rw [show (1 : Int32) + nI (n4 % 3) = nI (1 + n4 % 3) from nI_add 1 (n4 % 3)]
        obtain ⟨v_, W177, k177, rfl, hF177⟩ := fs_I hF171 (n := 1 + n4 % 3) (by omega) (by omega) (by omega)
        refine lf (a_inv (b2 := (77 + 30 * kk, 108680 + 36000 * kk)) k177 rfl dL_flight_177 yk_J4_append_bf812 im_J4_append_bf812 se_J4_append_bf812 ml_L_59 rfl hF171.ob (by decide) hc_J4 (by decide) ⟨by show 1 + (77 + 30 * kk) ≤ _; omega, by show 1900 + (108680 + 36000 * kk) ≤ _; omega⟩ (Nat.le_of_ble_eq_true rfl)) ?_
        refine lf (a_bipush (32 : Int32) dL_flight_180 (by decide)) ?_
        obtain ⟨v_, W182, k182, rfl, hF182⟩ := fs_C hF177 (x := 32) (by decide) (by omega) (by omega)
        refine lf (a_inv (b2 := (76 + 30 * kk, 106780 + 36000 * kk)) k182 rfl dL_flight_182 yk_J4_append_cf468 im_J4_append_cf468 se_J4_append_cf468 ml_L_43 rfl hF177.ob (by decide) hc_J4 (by decide) ⟨by show 1 + (76 + 30 * kk) ≤ _; omega, by show 1900 + (106780 + 36000 * kk) ≤ _; omega⟩ (Nat.le_of_ble_eq_true rfl)) ?_
        refine lf (a_iconst (1 : Int32) dL_flight_185 (by decide)) ?_
        refine lf (a_aload_n dL_flight_186 rfl) ?_
        obtain ⟨v_, W187, k187, n5, hn5, rfl, hF187⟩ := fs_nx hF182
        refine lf (a_invS (b2 := (76 + 30 * kk, 106780 + 36000 * kk)) k187 rfl dL_flight_187 yk_L_next sm_L_next ml_L_39 rfl (by decide) ⟨by show 0 + (76 + 30 * kk) ≤ _; omega, by show 0 + (106780 + 36000 * kk) ≤ _; omega⟩ (Nat.le_of_ble_eq_true rfl)) ?_
        refine lf (a_bipush (30 : Int32) dL_flight_190 (by decide)) ?_
        refine lf (a_irem dL_flight_192 (by decide)) ?_
        rw [show nI n5 - nI n5 / 30 * 30 = nI (n5 % 30) from pk_rem (d := 30) (by omega) (by decide) (by decide)]
        refine lf (a_iadd dL_flight_193) ?_
        rw [show (1 : Int32) + nI (n5 % 30) = nI (1 + n5 % 30) from nI_add 1 (n5 % 30)]
        obtain ⟨v_, W194, k194, rfl, hF194⟩ := fs_I hF187 (n := 1 + n5 % 30) (by omega) (by omega) (by omega)
        refine lf (a_inv (b2 := (75 + 30 * kk, 104880 + 36000 * kk)) k194 rfl dL_flight_194 yk_J4_append_bf812 im_J4_append_bf812 se_J4_append_bf812 ml_L_59 rfl hF187.ob (by decide) hc_J4 (by decide) ⟨by show 1 + (75 + 30 * kk) ≤ _; omega, by show 1900 + (104880 + 36000 * kk) ≤ _; omega⟩ (Nat.le_of_ble_eq_true rfl)) ?_
        refine lf (a_pop dL_flight_197 rfl) ?_
        refine lf (a_aload_n dL_flight_198 rfl) ?_
        obtain ⟨v_, W199, k199, n6, hn6, rfl, hF199⟩ := fs_nx hF194
        refine lf (a_invS (b2 := (75 + 30 * kk, 104880 + 36000 * kk)) k199 rfl dL_flight_199 yk_L_next sm_L_next ml_L_39 rfl (by decide) ⟨by show 0 + (75 + 30 * kk) ≤ _; omega, by show 0 + (104880 + 36000 * kk) ≤ _; omega⟩ (Nat.le_of_ble_eq_true rfl)) ?_
        refine lf (a_iconst (3 : Int32) dL_flight_202 (by decide)) ?_
        refine lf (a_irem dL_flight_203 (by decide)) ?_
        rw [show nI n6 - nI n6 / 3 * 3 = nI (n6 % 3) from pk_rem (d := 3) (by omega) (by decide) (by decide)]
        refine lf2 (a_if_le (tgt := 222) dL_flight_204 (by decide)) (fun h204 => ?_) (fun h204 => ?_)
        · have mk_no := trivial
          have hZ := hF199
          refine lf (a_room (b' := (66 + 30 * kk, 93440 + 36000 * kk)) (by show 66 + 30 * kk ≤ _; omega) (by show 93440 + 36000 * kk ≤ _; omega)) ?_
          refine lf (a_aload_n dL_flight_222 rfl) ?_
          refine lf (a_bipush (59 : Int32) dL_flight_223 (by decide)) ?_
          obtain ⟨v_, W225, k225, rfl, hF225⟩ := fs_C hZ (x := 59) (by decide) (by omega) (by omega)
          refine lf (a_inv (b2 := (65 + 30 * kk, 91540 + 36000 * kk)) k225 rfl dL_flight_225 yk_J4_append_cf468 im_J4_append_cf468 se_J4_append_cf468 ml_L_43 rfl hZ.ob (by decide) hc_J4 (by decide) ⟨by show 1 + (65 + 30 * kk) ≤ _; omega, by show 1900 + (91540 + 36000 * kk) ≤ _; omega⟩ (Nat.le_of_ble_eq_true rfl)) ?_
          refine lf (a_pop dL_flight_228 rfl) ?_
          refine lf (a_iincD dL_flight_229 rfl (by decide)) ?_
          refine lf (a_goto (tgt := 83) dL_flight_232 (by decide)) ?_
          first
          | (have _ := mk_sp; have _ := mk_no; exact lf (a_loc _ rfl) (lf (a_room (b' := (59 + 30 * kk, 89804 + 36000 * kk)) (by show 59 + 30 * kk ≤ _; omega) (by show 89804 + 36000 * kk ≤ _; omega)) (ih _ _ _ _ hF225 (by omega) (by omega) (by omega) (tx_sp0 hT ⟨by omega, by omega⟩ ⟨by omega, by omega⟩))))
          | (have _ := mk_sp; have _ := mk_of; exact lf (a_loc _ rfl) (lf (a_room (b' := (59 + 30 * kk, 89804 + 36000 * kk)) (by show 59 + 30 * kk ≤ _; omega) (by show 89804 + 36000 * kk ≤ _; omega)) (ih _ _ _ _ hF225 (by omega) (by omega) (by omega) (tx_sp1 hT ⟨by omega, by omega⟩ ⟨by omega, by omega⟩ hd7))))
          | (have _ := mk_mx; have _ := mk_no; exact lf (a_loc _ rfl) (lf (a_room (b' := (59 + 30 * kk, 89804 + 36000 * kk)) (by show 59 + 30 * kk ≤ _; omega) (by show 89804 + 36000 * kk ≤ _; omega)) (ih _ _ _ _ hF225 (by omega) (by omega) (by omega) (tx_mx0 hT ⟨by omega, by omega⟩ ⟨by omega, by omega⟩ ⟨by omega, by omega⟩))))
          | (have _ := mk_mx; have _ := mk_of; exact lf (a_loc _ rfl) (lf (a_room (b' := (59 + 30 * kk, 89804 + 36000 * kk)) (by show 59 + 30 * kk ≤ _; omega) (by show 89804 + 36000 * kk ≤ _; omega)) (ih _ _ _ _ hF225 (by omega) (by omega) (by omega) (tx_mx1 hT ⟨by omega, by omega⟩ ⟨by omega, by omega⟩ ⟨by omega, by omega⟩ hd7))))
          | (have _ := mk_my; have _ := mk_no; exact lf (a_loc _ rfl) (lf (a_room (b' := (59 + 30 * kk, 89804 + 36000 * kk)) (by show 59 + 30 * kk ≤ _; omega) (by show 89804 + 36000 * kk ≤ _; omega)) (ih _ _ _ _ hF225 (by omega) (by omega) (by omega) (tx_my0 hT ⟨by omega, by omega⟩ ⟨by omega, by omega⟩ ⟨by omega, by omega⟩))))
          | (have _ := mk_my; have _ := mk_of; exact lf (a_loc _ rfl) (lf (a_room (b' := (59 + 30 * kk, 89804 + 36000 * kk)) (by show 59 + 30 * kk ≤ _; omega) (by show 89804 + 36000 * kk ≤ _; omega)) (ih _ _ _ _ hF225 (by omega) (by omega) (by omega) (tx_my1 hT ⟨by omega, by omega⟩ ⟨by omega, by omega⟩ ⟨by omega, by omega⟩ hd7))))
        · refine lf (a_aload_n dL_flight_207 rfl) ?_
          have mk_of := trivial
          refine lf (a_ldcS (n := 37) (tx := " offers ") dL_flight_208 rfl) ?_
          obtain ⟨v_, W210, k210, rfl, hF210⟩ := fs_S hF199 (ks _ (c := 37) (by decide)) (m := 8) (by decide +kernel) (by omega) (by omega)
          refine lf (a_inv (b2 := (74 + 30 * kk, 102980 + 36000 * kk)) k210 rfl dL_flight_210 yk_J4_append_15ec4 im_J4_append_15ec4 se_J4_append_15ec4 ml_L_64 rfl hF199.ob (by decide) hc_J4 (by decide) ⟨by show 1 + (74 + 30 * kk) ≤ _; omega, by show 1900 + (102980 + 36000 * kk) ≤ _; omega⟩ (Nat.le_of_ble_eq_true rfl)) ?_
          refine lf (a_aload_n dL_flight_213 rfl) ?_
          refine lf (a_iconst (3 : Int32) dL_flight_214 (by decide)) ?_
          obtain ⟨v_, W215, k215, r7, d7, rfl, hs7, hd7, he7, hn7⟩ := t_L_diets hF210.wf (by have := hF210.2.2.1; omega)
          have hF215 := hF210.old he7 hn7
          have hl7 := (DtL_len hd7).1
          refine lf (a_invS (b2 := (67 + 30 * kk, 95340 + 36000 * kk)) k215 rfl dL_flight_215 yk_L_diets sm_L_diets ml_L_85 rfl (by decide) ⟨by show 7 + (67 + 30 * kk) ≤ _; omega, by show 7640 + (95340 + 36000 * kk) ≤ _; omega⟩ (Nat.le_of_ble_eq_true rfl)) ?_
          obtain ⟨v_, W218, k218, rfl, hF218⟩ := fs_S hF215 hs7 (m := 3) hl7 (by omega) (by omega)
          refine lf (a_inv (b2 := (66 + 30 * kk, 93440 + 36000 * kk)) k218 rfl dL_flight_218 yk_J4_append_15ec4 im_J4_append_15ec4 se_J4_append_15ec4 ml_L_64 rfl hF215.ob (by decide) hc_J4 (by decide) ⟨by show 1 + (66 + 30 * kk) ≤ _; omega, by show 1900 + (93440 + 36000 * kk) ≤ _; omega⟩ (Nat.le_of_ble_eq_true rfl)) ?_
          have hZ := hF218
          refine lf (a_pop dL_flight_221 rfl) ?_
          refine lf (a_aload_n dL_flight_222 rfl) ?_
          refine lf (a_bipush (59 : Int32) dL_flight_223 (by decide)) ?_
          obtain ⟨v_, W225, k225, rfl, hF225⟩ := fs_C hZ (x := 59) (by decide) (by omega) (by omega)
          refine lf (a_inv (b2 := (65 + 30 * kk, 91540 + 36000 * kk)) k225 rfl dL_flight_225 yk_J4_append_cf468 im_J4_append_cf468 se_J4_append_cf468 ml_L_43 rfl hZ.ob (by decide) hc_J4 (by decide) ⟨by show 1 + (65 + 30 * kk) ≤ _; omega, by show 1900 + (91540 + 36000 * kk) ≤ _; omega⟩ (Nat.le_of_ble_eq_true rfl)) ?_
          refine lf (a_pop dL_flight_228 rfl) ?_
          refine lf (a_iincD dL_flight_229 rfl (by decide)) ?_
          refine lf (a_goto (tgt := 83) dL_flight_232 (by decide)) ?_
          first
          | (have _ := mk_sp; have _ := mk_no; exact lf (a_loc _ rfl) (lf (a_room (b' := (59 + 30 * kk, 89804 + 36000 * kk)) (by show 59 + 30 * kk ≤ _; omega) (by show 89804 + 36000 * kk ≤ _; omega)) (ih _ _ _ _ hF225 (by omega) (by omega) (by omega) (tx_sp0 hT ⟨by omega, by omega⟩ ⟨by omega, by omega⟩))))
          | (have _ := mk_sp; have _ := mk_of; exact lf (a_loc _ rfl) (lf (a_room (b' := (59 + 30 * kk, 89804 + 36000 * kk)) (by show 59 + 30 * kk ≤ _; omega) (by show 89804 + 36000 * kk ≤ _; omega)) (ih _ _ _ _ hF225 (by omega) (by omega) (by omega) (tx_sp1 hT ⟨by omega, by omega⟩ ⟨by omega, by omega⟩ hd7))))
          | (have _ := mk_mx; have _ := mk_no; exact lf (a_loc _ rfl) (lf (a_room (b' := (59 + 30 * kk, 89804 + 36000 * kk)) (by show 59 + 30 * kk ≤ _; omega) (by show 89804 + 36000 * kk ≤ _; omega)) (ih _ _ _ _ hF225 (by omega) (by omega) (by omega) (tx_mx0 hT ⟨by omega, by omega⟩ ⟨by omega, by omega⟩ ⟨by omega, by omega⟩))))
          | (have _ := mk_mx; have _ := mk_of; exact lf (a_loc _ rfl) (lf (a_room (b' := (59 + 30 * kk, 89804 + 36000 * kk)) (by show 59 + 30 * kk ≤ _; omega) (by show 89804 + 36000 * kk ≤ _; omega)) (ih _ _ _ _ hF225 (by omega) (by omega) (by omega) (tx_mx1 hT ⟨by omega, by omega⟩ ⟨by omega, by omega⟩ ⟨by omega, by omega⟩ hd7))))
          | (have _ := mk_my; have _ := mk_no; exact lf (a_loc _ rfl) (lf (a_room (b' := (59 + 30 * kk, 89804 + 36000 * kk)) (by show 59 + 30 * kk ≤ _; omega) (by show 89804 + 36000 * kk ≤ _; omega)) (ih _ _ _ _ hF225 (by omega) (by omega) (by omega) (tx_my0 hT ⟨by omega, by omega⟩ ⟨by omega, by omega⟩ ⟨by omega, by omega⟩))))
          | (have _ := mk_my; have _ := mk_of; exact lf (a_loc _ rfl) (lf (a_room (b' := (59 + 30 * kk, 89804 + 36000 * kk)) (by show 59 + 30 * kk ≤ _; omega) (by show 89804 + 36000 * kk ≤ _; omega)) (ih _ _ _ _ hF225 (by omega) (by omega) (by omega) (tx_my1 hT ⟨by omega, by omega⟩ ⟨by omega, by omega⟩ ⟨by omega, by omega⟩ hd7))))
      · have mk_mx := trivial
        have hc9 : 33 < 59 := by decide
        refine lf (a_ldcS (n := 33) (tx := "x ") dL_flight_136 rfl) ?_
        refine lf (a_goto (tgt := 143) dL_flight_138 (by decide)) ?_
        obtain ⟨v_, W143, k143, rfl, hI143⟩ := fs_S hI128 (ks _ hc9) (m := 2) (by decide +kernel) (by decide) (by have := hF102.2.2.1; omega)
        refine lf (a_inv (b2 := (83 + 30 * kk, 118184 + 36000 * kk)) k143 rfl dL_flight_143 yk_J4_append_15ec4 im_J4_append_15ec4 se_J4_append_15ec4 ml_L_64 rfl hI128.ob (by decide) hc_J4 (by decide) ⟨by show 1 + (83 + 30 * kk) ≤ _; omega, by show 1900 + (118184 + 36000 * kk) ≤ _; omega⟩ (Nat.le_of_ble_eq_true rfl)) ?_
        refine lf (a_iconst (1 : Int32) dL_flight_146 (by decide)) ?_
        refine lf (a_aload_n dL_flight_147 rfl) ?_
        obtain ⟨v_, W148, k148, n3, hn3, rfl, hI148⟩ := fs_nx hI143
        refine lf (a_invS (b2 := (83 + 30 * kk, 118184 + 36000 * kk)) k148 rfl dL_flight_148 yk_L_next sm_L_next ml_L_39 rfl (by decide) ⟨by show 0 + (83 + 30 * kk) ≤ _; omega, by show 0 + (118184 + 36000 * kk) ≤ _; omega⟩ (Nat.le_of_ble_eq_true rfl)) ?_
        refine lf (a_bipush (9 : Int32) dL_flight_151 (by decide)) ?_
        refine lf (a_irem dL_flight_153 (by decide)) ?_
        rw [show nI n3 - nI n3 / 9 * 9 = nI (n3 % 9) from pk_rem (d := 9) (by omega) (by decide) (by decide)]
        refine lf (a_iadd dL_flight_154) ?_
        rw [show (1 : Int32) + nI (n3 % 9) = nI (1 + n3 % 9) from nI_add 1 (n3 % 9)]
        obtain ⟨v_, W155, k155, rfl, hI155⟩ := fs_I hI148 (n := 1 + n3 % 9) (by omega) (by decide) (by have := hF102.2.2.1; omega)
        refine lf (a_inv (b2 := (82 + 30 * kk, 116284 + 36000 * kk)) k155 rfl dL_flight_155 yk_J4_append_bf812 im_J4_append_bf812 se_J4_append_bf812 ml_L_59 rfl hI148.ob (by decide) hc_J4 (by decide) ⟨by show 1 + (82 + 30 * kk) ≤ _; omega, by show 1900 + (116284 + 36000 * kk) ≤ _; omega⟩ (Nat.le_of_ble_eq_true rfl)) ?_
        refine lf (a_ldcS (n := 35) (tx := " ") dL_flight_158 rfl) ?_
        obtain ⟨v_, W160, k160, rfl, hI160⟩ := fs_S hI155 (ks _ (c := 35) (by decide)) (m := 1) (by decide +kernel) (by decide) (by have := hF102.2.2.1; omega)
        refine lf (a_inv (b2 := (81 + 30 * kk, 114384 + 36000 * kk)) k160 rfl dL_flight_160 yk_J4_append_15ec4 im_J4_append_15ec4 se_J4_append_15ec4 ml_L_64 rfl hI155.ob (by decide) hc_J4 (by decide) ⟨by show 1 + (81 + 30 * kk) ≤ _; omega, by show 1900 + (114384 + 36000 * kk) ≤ _; omega⟩ (Nat.le_of_ble_eq_true rfl)) ?_
        obtain ⟨v_, W163, k163, rfl, heT, hnT, hsX, hrT⟩ := t_J4_toString_0e30d hI160.wf hI160.1 (by have := hI160.2.2.1; have := hF102.2.2.1; omega)
        have hO := hF102.inn hI160 heT (by omega)
        have hlX := hI160.2.2.2
        refine lf (a_inv (b2 := (79 + 30 * kk, 112480 + 36000 * kk)) k163 rfl dL_flight_163 yk_J4_toString_0e30d im_J4_toString_0e30d se_J4_toString_0e30d ml_L_50 rfl hI160.ob (by decide) hc_J4 (by decide) ⟨by show 2 + (79 + 30 * kk) ≤ _; omega, by show 1904 + (112480 + 36000 * kk) ≤ _; omega⟩ (Nat.le_of_ble_eq_true rfl)) ?_
        obtain ⟨v_, W166, k166, rfl, hF166⟩ := fs_S hO hsX (m := 11) hlX (by omega) (by omega)
        refine lf (a_inv (b2 := (78 + 30 * kk, 110580 + 36000 * kk)) k166 rfl dL_flight_166 yk_J4_append_15ec4 im_J4_append_15ec4 se_J4_append_15ec4 ml_L_64 rfl hO.ob (by decide) hc_J4 (by decide) ⟨by show 1 + (78 + 30 * kk) ≤ _; omega, by show 1900 + (110580 + 36000 * kk) ≤ _; omega⟩ (Nat.le_of_ble_eq_true rfl)) ?_
        refine lf (a_iconst (1 : Int32) dL_flight_169 (by decide)) ?_
        refine lf (a_aload_n dL_flight_170 rfl) ?_
        obtain ⟨v_, W171, k171, n4, hn4, rfl, hF171⟩ := fs_nx hF166
        refine lf (a_invS (b2 := (78 + 30 * kk, 110580 + 36000 * kk)) k171 rfl dL_flight_171 yk_L_next sm_L_next ml_L_39 rfl (by decide) ⟨by show 0 + (78 + 30 * kk) ≤ _; omega, by show 0 + (110580 + 36000 * kk) ≤ _; omega⟩ (Nat.le_of_ble_eq_true rfl)) ?_
        refine lf (a_iconst (3 : Int32) dL_flight_174 (by decide)) ?_
        refine lf (a_irem dL_flight_175 (by decide)) ?_
        rw [show nI n4 - nI n4 / 3 * 3 = nI (n4 % 3) from pk_rem (d := 3) (by omega) (by decide) (by decide)]
        refine lf (a_iadd dL_flight_176) ?_
        rw [show (1 : Int32) + nI (n4 % 3) = nI (1 + n4 % 3) from nI_add 1 (n4 % 3)]
        obtain ⟨v_, W177, k177, rfl, hF177⟩ := fs_I hF171 (n := 1 + n4 % 3) (by omega) (by omega) (by omega)
        refine lf (a_inv (b2 := (77 + 30 * kk, 108680 + 36000 * kk)) k177 rfl dL_flight_177 yk_J4_append_bf812 im_J4_append_bf812 se_J4_append_bf812 ml_L_59 rfl hF171.ob (by decide) hc_J4 (by decide) ⟨by show 1 + (77 + 30 * kk) ≤ _; omega, by show 1900 + (108680 + 36000 * kk) ≤ _; omega⟩ (Nat.le_of_ble_eq_true rfl)) ?_
        refine lf (a_bipush (32 : Int32) dL_flight_180 (by decide)) ?_
        obtain ⟨v_, W182, k182, rfl, hF182⟩ := fs_C hF177 (x := 32) (by decide) (by omega) (by omega)
        refine lf (a_inv (b2 := (76 + 30 * kk, 106780 + 36000 * kk)) k182 rfl dL_flight_182 yk_J4_append_cf468 im_J4_append_cf468 se_J4_append_cf468 ml_L_43 rfl hF177.ob (by decide) hc_J4 (by decide) ⟨by show 1 + (76 + 30 * kk) ≤ _; omega, by show 1900 + (106780 + 36000 * kk) ≤ _; omega⟩ (Nat.le_of_ble_eq_true rfl)) ?_
        refine lf (a_iconst (1 : Int32) dL_flight_185 (by decide)) ?_
        refine lf (a_aload_n dL_flight_186 rfl) ?_
        obtain ⟨v_, W187, k187, n5, hn5, rfl, hF187⟩ := fs_nx hF182
        refine lf (a_invS (b2 := (76 + 30 * kk, 106780 + 36000 * kk)) k187 rfl dL_flight_187 yk_L_next sm_L_next ml_L_39 rfl (by decide) ⟨by show 0 + (76 + 30 * kk) ≤ _; omega, by show 0 + (106780 + 36000 * kk) ≤ _; omega⟩ (Nat.le_of_ble_eq_true rfl)) ?_
        refine lf (a_bipush (30 : Int32) dL_flight_190 (by decide)) ?_
        refine lf (a_irem dL_flight_192 (by decide)) ?_
        rw [show nI n5 - nI n5 / 30 * 30 = nI (n5 % 30) from pk_rem (d := 30) (by omega) (by decide) (by decide)]
        refine lf (a_iadd dL_flight_193) ?_
        rw [show (1 : Int32) + nI (n5 % 30) = nI (1 + n5 % 30) from nI_add 1 (n5 % 30)]
        obtain ⟨v_, W194, k194, rfl, hF194⟩ := fs_I hF187 (n := 1 + n5 % 30) (by omega) (by omega) (by omega)
        refine lf (a_inv (b2 := (75 + 30 * kk, 104880 + 36000 * kk)) k194 rfl dL_flight_194 yk_J4_append_bf812 im_J4_append_bf812 se_J4_append_bf812 ml_L_59 rfl hF187.ob (by decide) hc_J4 (by decide) ⟨by show 1 + (75 + 30 * kk) ≤ _; omega, by show 1900 + (104880 + 36000 * kk) ≤ _; omega⟩ (Nat.le_of_ble_eq_true rfl)) ?_
        refine lf (a_pop dL_flight_197 rfl) ?_
        refine lf (a_aload_n dL_flight_198 rfl) ?_
        obtain ⟨v_, W199, k199, n6, hn6, rfl, hF199⟩ := fs_nx hF194
        refine lf (a_invS (b2 := (75 + 30 * kk, 104880 + 36000 * kk)) k199 rfl dL_flight_199 yk_L_next sm_L_next ml_L_39 rfl (by decide) ⟨by show 0 + (75 + 30 * kk) ≤ _; omega, by show 0 + (104880 + 36000 * kk) ≤ _; omega⟩ (Nat.le_of_ble_eq_true rfl)) ?_
        refine lf (a_iconst (3 : Int32) dL_flight_202 (by decide)) ?_
        refine lf (a_irem dL_flight_203 (by decide)) ?_
        rw [show nI n6 - nI n6 / 3 * 3 = nI (n6 % 3) from pk_rem (d := 3) (by omega) (by decide) (by decide)]
        refine lf2 (a_if_le (tgt := 222) dL_flight_204 (by decide)) (fun h204 => ?_) (fun h204 => ?_)
        · have mk_no := trivial
          have hZ := hF199
          refine lf (a_room (b' := (66 + 30 * kk, 93440 + 36000 * kk)) (by show 66 + 30 * kk ≤ _; omega) (by show 93440 + 36000 * kk ≤ _; omega)) ?_
          refine lf (a_aload_n dL_flight_222 rfl) ?_
          refine lf (a_bipush (59 : Int32) dL_flight_223 (by decide)) ?_
          obtain ⟨v_, W225, k225, rfl, hF225⟩ := fs_C hZ (x := 59) (by decide) (by omega) (by omega)
          refine lf (a_inv (b2 := (65 + 30 * kk, 91540 + 36000 * kk)) k225 rfl dL_flight_225 yk_J4_append_cf468 im_J4_append_cf468 se_J4_append_cf468 ml_L_43 rfl hZ.ob (by decide) hc_J4 (by decide) ⟨by show 1 + (65 + 30 * kk) ≤ _; omega, by show 1900 + (91540 + 36000 * kk) ≤ _; omega⟩ (Nat.le_of_ble_eq_true rfl)) ?_
          refine lf (a_pop dL_flight_228 rfl) ?_
          refine lf (a_iincD dL_flight_229 rfl (by decide)) ?_
          refine lf (a_goto (tgt := 83) dL_flight_232 (by decide)) ?_
          first
          | (have _ := mk_sp; have _ := mk_no; exact lf (a_loc _ rfl) (lf (a_room (b' := (59 + 30 * kk, 89804 + 36000 * kk)) (by show 59 + 30 * kk ≤ _; omega) (by show 89804 + 36000 * kk ≤ _; omega)) (ih _ _ _ _ hF225 (by omega) (by omega) (by omega) (tx_sp0 hT ⟨by omega, by omega⟩ ⟨by omega, by omega⟩))))
          | (have _ := mk_sp; have _ := mk_of; exact lf (a_loc _ rfl) (lf (a_room (b' := (59 + 30 * kk, 89804 + 36000 * kk)) (by show 59 + 30 * kk ≤ _; omega) (by show 89804 + 36000 * kk ≤ _; omega)) (ih _ _ _ _ hF225 (by omega) (by omega) (by omega) (tx_sp1 hT ⟨by omega, by omega⟩ ⟨by omega, by omega⟩ hd7))))
          | (have _ := mk_mx; have _ := mk_no; exact lf (a_loc _ rfl) (lf (a_room (b' := (59 + 30 * kk, 89804 + 36000 * kk)) (by show 59 + 30 * kk ≤ _; omega) (by show 89804 + 36000 * kk ≤ _; omega)) (ih _ _ _ _ hF225 (by omega) (by omega) (by omega) (tx_mx0 hT ⟨by omega, by omega⟩ ⟨by omega, by omega⟩ ⟨by omega, by omega⟩))))
          | (have _ := mk_mx; have _ := mk_of; exact lf (a_loc _ rfl) (lf (a_room (b' := (59 + 30 * kk, 89804 + 36000 * kk)) (by show 59 + 30 * kk ≤ _; omega) (by show 89804 + 36000 * kk ≤ _; omega)) (ih _ _ _ _ hF225 (by omega) (by omega) (by omega) (tx_mx1 hT ⟨by omega, by omega⟩ ⟨by omega, by omega⟩ ⟨by omega, by omega⟩ hd7))))
          | (have _ := mk_my; have _ := mk_no; exact lf (a_loc _ rfl) (lf (a_room (b' := (59 + 30 * kk, 89804 + 36000 * kk)) (by show 59 + 30 * kk ≤ _; omega) (by show 89804 + 36000 * kk ≤ _; omega)) (ih _ _ _ _ hF225 (by omega) (by omega) (by omega) (tx_my0 hT ⟨by omega, by omega⟩ ⟨by omega, by omega⟩ ⟨by omega, by omega⟩))))
          | (have _ := mk_my; have _ := mk_of; exact lf (a_loc _ rfl) (lf (a_room (b' := (59 + 30 * kk, 89804 + 36000 * kk)) (by show 59 + 30 * kk ≤ _; omega) (by show 89804 + 36000 * kk ≤ _; omega)) (ih _ _ _ _ hF225 (by omega) (by omega) (by omega) (tx_my1 hT ⟨by omega, by omega⟩ ⟨by omega, by omega⟩ ⟨by omega, by omega⟩ hd7))))
        · refine lf (a_aload_n dL_flight_207 rfl) ?_
          have mk_of := trivial
          refine lf (a_ldcS (n := 37) (tx := " offers ") dL_flight_208 rfl) ?_
          obtain ⟨v_, W210, k210, rfl, hF210⟩ := fs_S hF199 (ks _ (c := 37) (by decide)) (m := 8) (by decide +kernel) (by omega) (by omega)
          refine lf (a_inv (b2 := (74 + 30 * kk, 102980 + 36000 * kk)) k210 rfl dL_flight_210 yk_J4_append_15ec4 im_J4_append_15ec4 se_J4_append_15ec4 ml_L_64 rfl hF199.ob (by decide) hc_J4 (by decide) ⟨by show 1 + (74 + 30 * kk) ≤ _; omega, by show 1900 + (102980 + 36000 * kk) ≤ _; omega⟩ (Nat.le_of_ble_eq_true rfl)) ?_
          refine lf (a_aload_n dL_flight_213 rfl) ?_
          refine lf (a_iconst (3 : Int32) dL_flight_214 (by decide)) ?_
          obtain ⟨v_, W215, k215, r7, d7, rfl, hs7, hd7, he7, hn7⟩ := t_L_diets hF210.wf (by have := hF210.2.2.1; omega)
          have hF215 := hF210.old he7 hn7
          have hl7 := (DtL_len hd7).1
          refine lf (a_invS (b2 := (67 + 30 * kk, 95340 + 36000 * kk)) k215 rfl dL_flight_215 yk_L_diets sm_L_diets ml_L_85 rfl (by decide) ⟨by show 7 + (67 + 30 * kk) ≤ _; omega, by show 7640 + (95340 + 36000 * kk) ≤ _; omega⟩ (Nat.le_of_ble_eq_true rfl)) ?_
          obtain ⟨v_, W218, k218, rfl, hF218⟩ := fs_S hF215 hs7 (m := 3) hl7 (by omega) (by omega)
          refine lf (a_inv (b2 := (66 + 30 * kk, 93440 + 36000 * kk)) k218 rfl dL_flight_218 yk_J4_append_15ec4 im_J4_append_15ec4 se_J4_append_15ec4 ml_L_64 rfl hF215.ob (by decide) hc_J4 (by decide) ⟨by show 1 + (66 + 30 * kk) ≤ _; omega, by show 1900 + (93440 + 36000 * kk) ≤ _; omega⟩ (Nat.le_of_ble_eq_true rfl)) ?_
          have hZ := hF218
          refine lf (a_pop dL_flight_221 rfl) ?_
          refine lf (a_aload_n dL_flight_222 rfl) ?_
          refine lf (a_bipush (59 : Int32) dL_flight_223 (by decide)) ?_
          obtain ⟨v_, W225, k225, rfl, hF225⟩ := fs_C hZ (x := 59) (by decide) (by omega) (by omega)
          refine lf (a_inv (b2 := (65 + 30 * kk, 91540 + 36000 * kk)) k225 rfl dL_flight_225 yk_J4_append_cf468 im_J4_append_cf468 se_J4_append_cf468 ml_L_43 rfl hZ.ob (by decide) hc_J4 (by decide) ⟨by show 1 + (65 + 30 * kk) ≤ _; omega, by show 1900 + (91540 + 36000 * kk) ≤ _; omega⟩ (Nat.le_of_ble_eq_true rfl)) ?_
          refine lf (a_pop dL_flight_228 rfl) ?_
          refine lf (a_iincD dL_flight_229 rfl (by decide)) ?_
          refine lf (a_goto (tgt := 83) dL_flight_232 (by decide)) ?_
          first
          | (have _ := mk_sp; have _ := mk_no; exact lf (a_loc _ rfl) (lf (a_room (b' := (59 + 30 * kk, 89804 + 36000 * kk)) (by show 59 + 30 * kk ≤ _; omega) (by show 89804 + 36000 * kk ≤ _; omega)) (ih _ _ _ _ hF225 (by omega) (by omega) (by omega) (tx_sp0 hT ⟨by omega, by omega⟩ ⟨by omega, by omega⟩))))
          | (have _ := mk_sp; have _ := mk_of; exact lf (a_loc _ rfl) (lf (a_room (b' := (59 + 30 * kk, 89804 + 36000 * kk)) (by show 59 + 30 * kk ≤ _; omega) (by show 89804 + 36000 * kk ≤ _; omega)) (ih _ _ _ _ hF225 (by omega) (by omega) (by omega) (tx_sp1 hT ⟨by omega, by omega⟩ ⟨by omega, by omega⟩ hd7))))
          | (have _ := mk_mx; have _ := mk_no; exact lf (a_loc _ rfl) (lf (a_room (b' := (59 + 30 * kk, 89804 + 36000 * kk)) (by show 59 + 30 * kk ≤ _; omega) (by show 89804 + 36000 * kk ≤ _; omega)) (ih _ _ _ _ hF225 (by omega) (by omega) (by omega) (tx_mx0 hT ⟨by omega, by omega⟩ ⟨by omega, by omega⟩ ⟨by omega, by omega⟩))))
          | (have _ := mk_mx; have _ := mk_of; exact lf (a_loc _ rfl) (lf (a_room (b' := (59 + 30 * kk, 89804 + 36000 * kk)) (by show 59 + 30 * kk ≤ _; omega) (by show 89804 + 36000 * kk ≤ _; omega)) (ih _ _ _ _ hF225 (by omega) (by omega) (by omega) (tx_mx1 hT ⟨by omega, by omega⟩ ⟨by omega, by omega⟩ ⟨by omega, by omega⟩ hd7))))
          | (have _ := mk_my; have _ := mk_no; exact lf (a_loc _ rfl) (lf (a_room (b' := (59 + 30 * kk, 89804 + 36000 * kk)) (by show 59 + 30 * kk ≤ _; omega) (by show 89804 + 36000 * kk ≤ _; omega)) (ih _ _ _ _ hF225 (by omega) (by omega) (by omega) (tx_my0 hT ⟨by omega, by omega⟩ ⟨by omega, by omega⟩ ⟨by omega, by omega⟩))))
          | (have _ := mk_my; have _ := mk_of; exact lf (a_loc _ rfl) (lf (a_room (b' := (59 + 30 * kk, 89804 + 36000 * kk)) (by show 59 + 30 * kk ≤ _; omega) (by show 89804 + 36000 * kk ≤ _; omega)) (ih _ _ _ _ hF225 (by omega) (by omega) (by omega) (tx_my1 hT ⟨by omega, by omega⟩ ⟨by omega, by omega⟩ ⟨by omega, by omega⟩ hd7))))
    · have mk_sp := trivial
      have hO := hF102
      have hsX : StrV W102 (1000000 + 31) (kby 31) := ks _ (by decide)
      have hlX : (kby 31).length ≤ 11 := by decide +kernel
      refine lf (a_room (b' := (79 + 30 * kk, 112480 + 36000 * kk)) (by show 79 + 30 * kk ≤ _; omega) (by show 112480 + 36000 * kk ≤ _; omega)) ?_
      refine lf (a_ldcS (n := 31) (tx := " special ") dL_flight_110 rfl) ?_
      refine lf (a_goto (tgt := 166) dL_flight_112 (by decide)) ?_
      obtain ⟨v_, W166, k166, rfl, hF166⟩ := fs_S hO hsX (m := 11) hlX (by omega) (by omega)
      refine lf (a_inv (b2 := (78 + 30 * kk, 110580 + 36000 * kk)) k166 rfl dL_flight_166 yk_J4_append_15ec4 im_J4_append_15ec4 se_J4_append_15ec4 ml_L_64 rfl hO.ob (by decide) hc_J4 (by decide) ⟨by show 1 + (78 + 30 * kk) ≤ _; omega, by show 1900 + (110580 + 36000 * kk) ≤ _; omega⟩ (Nat.le_of_ble_eq_true rfl)) ?_
      refine lf (a_iconst (1 : Int32) dL_flight_169 (by decide)) ?_
      refine lf (a_aload_n dL_flight_170 rfl) ?_
      obtain ⟨v_, W171, k171, n4, hn4, rfl, hF171⟩ := fs_nx hF166
      refine lf (a_invS (b2 := (78 + 30 * kk, 110580 + 36000 * kk)) k171 rfl dL_flight_171 yk_L_next sm_L_next ml_L_39 rfl (by decide) ⟨by show 0 + (78 + 30 * kk) ≤ _; omega, by show 0 + (110580 + 36000 * kk) ≤ _; omega⟩ (Nat.le_of_ble_eq_true rfl)) ?_
      refine lf (a_iconst (3 : Int32) dL_flight_174 (by decide)) ?_
      refine lf (a_irem dL_flight_175 (by decide)) ?_
      rw [show nI n4 - nI n4 / 3 * 3 = nI (n4 % 3) from pk_rem (d := 3) (by omega) (by decide) (by decide)]
      refine lf (a_iadd dL_flight_176) ?_
      rw [show (1 : Int32) + nI (n4 % 3) = nI (1 + n4 % 3) from nI_add 1 (n4 % 3)]
      obtain ⟨v_, W177, k177, rfl, hF177⟩ := fs_I hF171 (n := 1 + n4 % 3) (by omega) (by omega) (by omega)
      refine lf (a_inv (b2 := (77 + 30 * kk, 108680 + 36000 * kk)) k177 rfl dL_flight_177 yk_J4_append_bf812 im_J4_append_bf812 se_J4_append_bf812 ml_L_59 rfl hF171.ob (by decide) hc_J4 (by decide) ⟨by show 1 + (77 + 30 * kk) ≤ _; omega, by show 1900 + (108680 + 36000 * kk) ≤ _; omega⟩ (Nat.le_of_ble_eq_true rfl)) ?_
      refine lf (a_bipush (32 : Int32) dL_flight_180 (by decide)) ?_
      obtain ⟨v_, W182, k182, rfl, hF182⟩ := fs_C hF177 (x := 32) (by decide) (by omega) (by omega)
      refine lf (a_inv (b2 := (76 + 30 * kk, 106780 + 36000 * kk)) k182 rfl dL_flight_182 yk_J4_append_cf468 im_J4_append_cf468 se_J4_append_cf468 ml_L_43 rfl hF177.ob (by decide) hc_J4 (by decide) ⟨by show 1 + (76 + 30 * kk) ≤ _; omega, by show 1900 + (106780 + 36000 * kk) ≤ _; omega⟩ (Nat.le_of_ble_eq_true rfl)) ?_
      refine lf (a_iconst (1 : Int32) dL_flight_185 (by decide)) ?_
      refine lf (a_aload_n dL_flight_186 rfl) ?_
      obtain ⟨v_, W187, k187, n5, hn5, rfl, hF187⟩ := fs_nx hF182
      refine lf (a_invS (b2 := (76 + 30 * kk, 106780 + 36000 * kk)) k187 rfl dL_flight_187 yk_L_next sm_L_next ml_L_39 rfl (by decide) ⟨by show 0 + (76 + 30 * kk) ≤ _; omega, by show 0 + (106780 + 36000 * kk) ≤ _; omega⟩ (Nat.le_of_ble_eq_true rfl)) ?_
      refine lf (a_bipush (30 : Int32) dL_flight_190 (by decide)) ?_
      refine lf (a_irem dL_flight_192 (by decide)) ?_
      rw [show nI n5 - nI n5 / 30 * 30 = nI (n5 % 30) from pk_rem (d := 30) (by omega) (by decide) (by decide)]
      refine lf (a_iadd dL_flight_193) ?_
      rw [show (1 : Int32) + nI (n5 % 30) = nI (1 + n5 % 30) from nI_add 1 (n5 % 30)]
      obtain ⟨v_, W194, k194, rfl, hF194⟩ := fs_I hF187 (n := 1 + n5 % 30) (by omega) (by omega) (by omega)
      refine lf (a_inv (b2 := (75 + 30 * kk, 104880 + 36000 * kk)) k194 rfl dL_flight_194 yk_J4_append_bf812 im_J4_append_bf812 se_J4_append_bf812 ml_L_59 rfl hF187.ob (by decide) hc_J4 (by decide) ⟨by show 1 + (75 + 30 * kk) ≤ _; omega, by show 1900 + (104880 + 36000 * kk) ≤ _; omega⟩ (Nat.le_of_ble_eq_true rfl)) ?_
      refine lf (a_pop dL_flight_197 rfl) ?_
      refine lf (a_aload_n dL_flight_198 rfl) ?_
      obtain ⟨v_, W199, k199, n6, hn6, rfl, hF199⟩ := fs_nx hF194
      refine lf (a_invS (b2 := (75 + 30 * kk, 104880 + 36000 * kk)) k199 rfl dL_flight_199 yk_L_next sm_L_next ml_L_39 rfl (by decide) ⟨by show 0 + (75 + 30 * kk) ≤ _; omega, by show 0 + (104880 + 36000 * kk) ≤ _; omega⟩ (Nat.le_of_ble_eq_true rfl)) ?_
      refine lf (a_iconst (3 : Int32) dL_flight_202 (by decide)) ?_
      refine lf (a_irem dL_flight_203 (by decide)) ?_
      rw [show nI n6 - nI n6 / 3 * 3 = nI (n6 % 3) from pk_rem (d := 3) (by omega) (by decide) (by decide)]
      refine lf2 (a_if_le (tgt := 222) dL_flight_204 (by decide)) (fun h204 => ?_) (fun h204 => ?_)
      · have mk_no := trivial
        have hZ := hF199
        refine lf (a_room (b' := (66 + 30 * kk, 93440 + 36000 * kk)) (by show 66 + 30 * kk ≤ _; omega) (by show 93440 + 36000 * kk ≤ _; omega)) ?_
        refine lf (a_aload_n dL_flight_222 rfl) ?_
        refine lf (a_bipush (59 : Int32) dL_flight_223 (by decide)) ?_
        obtain ⟨v_, W225, k225, rfl, hF225⟩ := fs_C hZ (x := 59) (by decide) (by omega) (by omega)
        refine lf (a_inv (b2 := (65 + 30 * kk, 91540 + 36000 * kk)) k225 rfl dL_flight_225 yk_J4_append_cf468 im_J4_append_cf468 se_J4_append_cf468 ml_L_43 rfl hZ.ob (by decide) hc_J4 (by decide) ⟨by show 1 + (65 + 30 * kk) ≤ _; omega, by show 1900 + (91540 + 36000 * kk) ≤ _; omega⟩ (Nat.le_of_ble_eq_true rfl)) ?_
        refine lf (a_pop dL_flight_228 rfl) ?_
        refine lf (a_iincD dL_flight_229 rfl (by decide)) ?_
        refine lf (a_goto (tgt := 83) dL_flight_232 (by decide)) ?_
        first
        | (have _ := mk_sp; have _ := mk_no; exact lf (a_loc _ rfl) (lf (a_room (b' := (59 + 30 * kk, 89804 + 36000 * kk)) (by show 59 + 30 * kk ≤ _; omega) (by show 89804 + 36000 * kk ≤ _; omega)) (ih _ _ _ _ hF225 (by omega) (by omega) (by omega) (tx_sp0 hT ⟨by omega, by omega⟩ ⟨by omega, by omega⟩))))
        | (have _ := mk_sp; have _ := mk_of; exact lf (a_loc _ rfl) (lf (a_room (b' := (59 + 30 * kk, 89804 + 36000 * kk)) (by show 59 + 30 * kk ≤ _; omega) (by show 89804 + 36000 * kk ≤ _; omega)) (ih _ _ _ _ hF225 (by omega) (by omega) (by omega) (tx_sp1 hT ⟨by omega, by omega⟩ ⟨by omega, by omega⟩ hd7))))
        | (have _ := mk_mx; have _ := mk_no; exact lf (a_loc _ rfl) (lf (a_room (b' := (59 + 30 * kk, 89804 + 36000 * kk)) (by show 59 + 30 * kk ≤ _; omega) (by show 89804 + 36000 * kk ≤ _; omega)) (ih _ _ _ _ hF225 (by omega) (by omega) (by omega) (tx_mx0 hT ⟨by omega, by omega⟩ ⟨by omega, by omega⟩ ⟨by omega, by omega⟩))))
        | (have _ := mk_mx; have _ := mk_of; exact lf (a_loc _ rfl) (lf (a_room (b' := (59 + 30 * kk, 89804 + 36000 * kk)) (by show 59 + 30 * kk ≤ _; omega) (by show 89804 + 36000 * kk ≤ _; omega)) (ih _ _ _ _ hF225 (by omega) (by omega) (by omega) (tx_mx1 hT ⟨by omega, by omega⟩ ⟨by omega, by omega⟩ ⟨by omega, by omega⟩ hd7))))
        | (have _ := mk_my; have _ := mk_no; exact lf (a_loc _ rfl) (lf (a_room (b' := (59 + 30 * kk, 89804 + 36000 * kk)) (by show 59 + 30 * kk ≤ _; omega) (by show 89804 + 36000 * kk ≤ _; omega)) (ih _ _ _ _ hF225 (by omega) (by omega) (by omega) (tx_my0 hT ⟨by omega, by omega⟩ ⟨by omega, by omega⟩ ⟨by omega, by omega⟩))))
        | (have _ := mk_my; have _ := mk_of; exact lf (a_loc _ rfl) (lf (a_room (b' := (59 + 30 * kk, 89804 + 36000 * kk)) (by show 59 + 30 * kk ≤ _; omega) (by show 89804 + 36000 * kk ≤ _; omega)) (ih _ _ _ _ hF225 (by omega) (by omega) (by omega) (tx_my1 hT ⟨by omega, by omega⟩ ⟨by omega, by omega⟩ ⟨by omega, by omega⟩ hd7))))
      · refine lf (a_aload_n dL_flight_207 rfl) ?_
        have mk_of := trivial
        refine lf (a_ldcS (n := 37) (tx := " offers ") dL_flight_208 rfl) ?_
        obtain ⟨v_, W210, k210, rfl, hF210⟩ := fs_S hF199 (ks _ (c := 37) (by decide)) (m := 8) (by decide +kernel) (by omega) (by omega)
        refine lf (a_inv (b2 := (74 + 30 * kk, 102980 + 36000 * kk)) k210 rfl dL_flight_210 yk_J4_append_15ec4 im_J4_append_15ec4 se_J4_append_15ec4 ml_L_64 rfl hF199.ob (by decide) hc_J4 (by decide) ⟨by show 1 + (74 + 30 * kk) ≤ _; omega, by show 1900 + (102980 + 36000 * kk) ≤ _; omega⟩ (Nat.le_of_ble_eq_true rfl)) ?_
        refine lf (a_aload_n dL_flight_213 rfl) ?_
        refine lf (a_iconst (3 : Int32) dL_flight_214 (by decide)) ?_
        obtain ⟨v_, W215, k215, r7, d7, rfl, hs7, hd7, he7, hn7⟩ := t_L_diets hF210.wf (by have := hF210.2.2.1; omega)
        have hF215 := hF210.old he7 hn7
        have hl7 := (DtL_len hd7).1
        refine lf (a_invS (b2 := (67 + 30 * kk, 95340 + 36000 * kk)) k215 rfl dL_flight_215 yk_L_diets sm_L_diets ml_L_85 rfl (by decide) ⟨by show 7 + (67 + 30 * kk) ≤ _; omega, by show 7640 + (95340 + 36000 * kk) ≤ _; omega⟩ (Nat.le_of_ble_eq_true rfl)) ?_
        obtain ⟨v_, W218, k218, rfl, hF218⟩ := fs_S hF215 hs7 (m := 3) hl7 (by omega) (by omega)
        refine lf (a_inv (b2 := (66 + 30 * kk, 93440 + 36000 * kk)) k218 rfl dL_flight_218 yk_J4_append_15ec4 im_J4_append_15ec4 se_J4_append_15ec4 ml_L_64 rfl hF215.ob (by decide) hc_J4 (by decide) ⟨by show 1 + (66 + 30 * kk) ≤ _; omega, by show 1900 + (93440 + 36000 * kk) ≤ _; omega⟩ (Nat.le_of_ble_eq_true rfl)) ?_
        have hZ := hF218
        refine lf (a_pop dL_flight_221 rfl) ?_
        refine lf (a_aload_n dL_flight_222 rfl) ?_
        refine lf (a_bipush (59 : Int32) dL_flight_223 (by decide)) ?_
        obtain ⟨v_, W225, k225, rfl, hF225⟩ := fs_C hZ (x := 59) (by decide) (by omega) (by omega)
        refine lf (a_inv (b2 := (65 + 30 * kk, 91540 + 36000 * kk)) k225 rfl dL_flight_225 yk_J4_append_cf468 im_J4_append_cf468 se_J4_append_cf468 ml_L_43 rfl hZ.ob (by decide) hc_J4 (by decide) ⟨by show 1 + (65 + 30 * kk) ≤ _; omega, by show 1900 + (91540 + 36000 * kk) ≤ _; omega⟩ (Nat.le_of_ble_eq_true rfl)) ?_
        refine lf (a_pop dL_flight_228 rfl) ?_
        refine lf (a_iincD dL_flight_229 rfl (by decide)) ?_
        refine lf (a_goto (tgt := 83) dL_flight_232 (by decide)) ?_
        first
        | (have _ := mk_sp; have _ := mk_no; exact lf (a_loc _ rfl) (lf (a_room (b' := (59 + 30 * kk, 89804 + 36000 * kk)) (by show 59 + 30 * kk ≤ _; omega) (by show 89804 + 36000 * kk ≤ _; omega)) (ih _ _ _ _ hF225 (by omega) (by omega) (by omega) (tx_sp0 hT ⟨by omega, by omega⟩ ⟨by omega, by omega⟩))))
        | (have _ := mk_sp; have _ := mk_of; exact lf (a_loc _ rfl) (lf (a_room (b' := (59 + 30 * kk, 89804 + 36000 * kk)) (by show 59 + 30 * kk ≤ _; omega) (by show 89804 + 36000 * kk ≤ _; omega)) (ih _ _ _ _ hF225 (by omega) (by omega) (by omega) (tx_sp1 hT ⟨by omega, by omega⟩ ⟨by omega, by omega⟩ hd7))))
        | (have _ := mk_mx; have _ := mk_no; exact lf (a_loc _ rfl) (lf (a_room (b' := (59 + 30 * kk, 89804 + 36000 * kk)) (by show 59 + 30 * kk ≤ _; omega) (by show 89804 + 36000 * kk ≤ _; omega)) (ih _ _ _ _ hF225 (by omega) (by omega) (by omega) (tx_mx0 hT ⟨by omega, by omega⟩ ⟨by omega, by omega⟩ ⟨by omega, by omega⟩))))
        | (have _ := mk_mx; have _ := mk_of; exact lf (a_loc _ rfl) (lf (a_room (b' := (59 + 30 * kk, 89804 + 36000 * kk)) (by show 59 + 30 * kk ≤ _; omega) (by show 89804 + 36000 * kk ≤ _; omega)) (ih _ _ _ _ hF225 (by omega) (by omega) (by omega) (tx_mx1 hT ⟨by omega, by omega⟩ ⟨by omega, by omega⟩ ⟨by omega, by omega⟩ hd7))))
        | (have _ := mk_my; have _ := mk_no; exact lf (a_loc _ rfl) (lf (a_room (b' := (59 + 30 * kk, 89804 + 36000 * kk)) (by show 59 + 30 * kk ≤ _; omega) (by show 89804 + 36000 * kk ≤ _; omega)) (ih _ _ _ _ hF225 (by omega) (by omega) (by omega) (tx_my0 hT ⟨by omega, by omega⟩ ⟨by omega, by omega⟩ ⟨by omega, by omega⟩))))
        | (have _ := mk_my; have _ := mk_of; exact lf (a_loc _ rfl) (lf (a_room (b' := (59 + 30 * kk, 89804 + 36000 * kk)) (by show 59 + 30 * kk ≤ _; omega) (by show 89804 + 36000 * kk ≤ _; omega)) (ih _ _ _ _ hF225 (by omega) (by omega) (by omega) (tx_my1 hT ⟨by omega, by omega⟩ ⟨by omega, by omega⟩ ⟨by omega, by omega⟩ hd7))))
theorem t_L_flight (hw : Wf μ) (hμ : wn μ + 1000 < 1000000) : CV Y_L_flight R_L_flight [.ref 338] μ (FgQ μ) := by
  refine CV.ent yk_L_flight (Nat.le_of_ble_eq_true rfl) ?_
  obtain ⟨hw1, ho1, h01⟩ := sb_new hw
  refine lf (a_new (Y := Y_L_flight) (c9 := 12) (b' := (289, 369996)) dL_flight_0 cls_J4 cw_SBL in_SB ini_RJ4 (fun j hj => by rcases (by omega : j = 0 ∨ j = 1 ∨ j = 2 ∨ j = 3) with e | e | e | e <;> subst e <;> rfl) (km_new (len := 0) (t := 12) hw.1 (by decide)) (by omega) rfl) ?_
  refine lf (a_dup dL_flight_3 rfl) ?_
  refine lf (a_ldcS (n := 26) (tx := "time ") dL_flight_4 rfl) ?_
  obtain ⟨v_, W6, k6, hB6⟩ := t_J4_init_a7421 (lo := wn μ) hw1 ho1 h01 hw.1 (Nat.le_refl _) (ks _ (c := 26) (by decide)) (by omega) (by show wn μ + 1 + 2 < _; omega)
  have hF6 := FlI.start hw hB6
  have hl6 : (kby 26).length = 5 := by decide +kernel
  obtain rfl : v_ = none := hB6.1
  refine lf (a_invI (b2 := (287, 367096)) k6 rfl dL_flight_6 yk_J4_init_a7421 rfl rfl im_J4_init_a7421 ml_L_56 rfl (by decide) ⟨by decide, by decide⟩ (Nat.le_of_ble_eq_true rfl)) ?_
  refine lf (a_bipush (30 : Int32) dL_flight_9 (by decide)) ?_
  refine lf (a_aload_n dL_flight_11 rfl) ?_
  obtain ⟨v_, W12, k12, n1, hn1, rfl, hF12⟩ := fs_nx hF6
  refine lf (a_invS (b2 := (287, 367096)) k12 rfl dL_flight_12 yk_L_next sm_L_next ml_L_39 rfl (by decide) ⟨by decide, by decide⟩ (Nat.le_of_ble_eq_true rfl)) ?_
  refine lf (a_bipush (60 : Int32) dL_flight_15 (by decide)) ?_
  refine lf (a_irem dL_flight_17 (by decide)) ?_
  rw [show nI n1 - nI n1 / 60 * 60 = nI (n1 % 60) from pk_rem (d := 60) (by omega) (by decide) (by decide)]
  refine lf (a_iadd dL_flight_18) ?_
  rw [show (30 : Int32) + nI (n1 % 60) = nI (30 + n1 % 60) from nI_add 30 (n1 % 60)]
  obtain ⟨v_, W19, k19, rfl, hF19⟩ := fs_I hF12 (n := 30 + n1 % 60) (by omega) (by omega) (by omega)
  refine lf (a_inv (b2 := (286, 365196)) k19 rfl dL_flight_19 yk_J4_append_bf812 im_J4_append_bf812 se_J4_append_bf812 ml_L_59 rfl hF12.ob (by decide) hc_J4 (by decide) ⟨by decide, by decide⟩ (Nat.le_of_ble_eq_true rfl)) ?_
  refine lf (a_bipush (32 : Int32) dL_flight_22 (by decide)) ?_
  obtain ⟨v_, W24, k24, rfl, hF24⟩ := fs_C hF19 (x := 32) (by decide) (by omega) (by omega)
  refine lf (a_inv (b2 := (285, 363296)) k24 rfl dL_flight_24 yk_J4_append_cf468 im_J4_append_cf468 se_J4_append_cf468 ml_L_43 rfl hF19.ob (by decide) hc_J4 (by decide) ⟨by decide, by decide⟩ (Nat.le_of_ble_eq_true rfl)) ?_
  refine lf (a_aload_n dL_flight_27 rfl) ?_
  obtain ⟨v_, W28, k28, n2, hn2, rfl, hF28⟩ := fs_nx hF24
  refine lf (a_invS (b2 := (285, 363296)) k28 rfl dL_flight_28 yk_L_next sm_L_next ml_L_39 rfl (by decide) ⟨by decide, by decide⟩ (Nat.le_of_ble_eq_true rfl)) ?_
  refine lf (a_bipush (30 : Int32) dL_flight_31 (by decide)) ?_
  refine lf (a_irem dL_flight_33 (by decide)) ?_
  rw [show nI n2 - nI n2 / 30 * 30 = nI (n2 % 30) from pk_rem (d := 30) (by omega) (by decide) (by decide)]
  obtain ⟨v_, W34, k34, rfl, hF34⟩ := fs_I hF28 (n := n2 % 30) (by omega) (by omega) (by omega)
  refine lf (a_inv (b2 := (284, 361396)) k34 rfl dL_flight_34 yk_J4_append_bf812 im_J4_append_bf812 se_J4_append_bf812 ml_L_59 rfl hF28.ob (by decide) hc_J4 (by decide) ⟨by decide, by decide⟩ (Nat.le_of_ble_eq_true rfl)) ?_
  refine lf (a_ldcS (n := 27) (tx := ";lead ") dL_flight_37 rfl) ?_
  obtain ⟨v_, W39, k39, rfl, hF39⟩ := fs_S hF34 (ks _ (c := 27) (by decide)) (m := 6) (by decide +kernel) (by omega) (by omega)
  refine lf (a_inv (b2 := (283, 359496)) k39 rfl dL_flight_39 yk_J4_append_15ec4 im_J4_append_15ec4 se_J4_append_15ec4 ml_L_64 rfl hF34.ob (by decide) hc_J4 (by decide) ⟨by decide, by decide⟩ (Nat.le_of_ble_eq_true rfl)) ?_
  refine lf (a_aload_n dL_flight_42 rfl) ?_
  obtain ⟨v_, W43, k43, n3, hn3, rfl, hF43⟩ := fs_nx hF39
  refine lf (a_invS (b2 := (283, 359496)) k43 rfl dL_flight_43 yk_L_next sm_L_next ml_L_39 rfl (by decide) ⟨by decide, by decide⟩ (Nat.le_of_ble_eq_true rfl)) ?_
  refine lf (a_iconst (3 : Int32) dL_flight_46 (by decide)) ?_
  refine lf (a_irem dL_flight_47 (by decide)) ?_
  rw [show nI n3 - nI n3 / 3 * 3 = nI (n3 % 3) from pk_rem (d := 3) (by omega) (by decide) (by decide)]
  refine lf (a_iconst (5 : Int32) dL_flight_48 (by decide)) ?_
  refine lf (a_imul dL_flight_49) ?_
  rw [show nI (n3 % 3) * (5 : Int32) = nI (n3 % 3 * 5) from (Int32.ofNat_mul _ _).symm]
  obtain ⟨v_, W50, k50, rfl, hF50⟩ := fs_I hF43 (n := n3 % 3 * 5) (by omega) (by omega) (by omega)
  refine lf (a_inv (b2 := (282, 357596)) k50 rfl dL_flight_50 yk_J4_append_bf812 im_J4_append_bf812 se_J4_append_bf812 ml_L_59 rfl hF43.ob (by decide) hc_J4 (by decide) ⟨by decide, by decide⟩ (Nat.le_of_ble_eq_true rfl)) ?_
  refine lf (a_ldcS (n := 28) (tx := ";cabin x 6 ") dL_flight_53 rfl) ?_
  obtain ⟨v_, W55, k55, rfl, hF55⟩ := fs_S hF50 (ks _ (c := 28) (by decide)) (m := 11) (by decide +kernel) (by omega) (by omega)
  refine lf (a_inv (b2 := (281, 355696)) k55 rfl dL_flight_55 yk_J4_append_15ec4 im_J4_append_15ec4 se_J4_append_15ec4 ml_L_64 rfl hF50.ob (by decide) hc_J4 (by decide) ⟨by decide, by decide⟩ (Nat.le_of_ble_eq_true rfl)) ?_
  refine lf (a_aload_n dL_flight_58 rfl) ?_
  obtain ⟨v_, W59, k59, n4, hn4, rfl, hF59⟩ := fs_nx hF55
  refine lf (a_invS (b2 := (281, 355696)) k59 rfl dL_flight_59 yk_L_next sm_L_next ml_L_39 rfl (by decide) ⟨by decide, by decide⟩ (Nat.le_of_ble_eq_true rfl)) ?_
  refine lf (a_bipush (51 : Int32) dL_flight_62 (by decide)) ?_
  refine lf (a_irem dL_flight_64 (by decide)) ?_
  rw [show nI n4 - nI n4 / 51 * 51 = nI (n4 % 51) from pk_rem (d := 51) (by omega) (by decide) (by decide)]
  obtain ⟨v_, W65, k65, rfl, hF65⟩ := fs_I hF59 (n := n4 % 51) (by omega) (by omega) (by omega)
  refine lf (a_inv (b2 := (280, 353796)) k65 rfl dL_flight_65 yk_J4_append_bf812 im_J4_append_bf812 se_J4_append_bf812 ml_L_59 rfl hF59.ob (by decide) hc_J4 (by decide) ⟨by decide, by decide⟩ (Nat.le_of_ble_eq_true rfl)) ?_
  refine lf (a_ldcS (n := 29) (tx := ";cabin y 5;") dL_flight_68 rfl) ?_
  obtain ⟨v_, W70, k70, rfl, hF70⟩ := fs_S hF65 (ks _ (c := 29) (by decide)) (m := 11) (by decide +kernel) (by omega) (by omega)
  refine lf (a_inv (b2 := (279, 351896)) k70 rfl dL_flight_70 yk_J4_append_15ec4 im_J4_append_15ec4 se_J4_append_15ec4 ml_L_64 rfl hF65.ob (by decide) hc_J4 (by decide) ⟨by decide, by decide⟩ (Nat.le_of_ble_eq_true rfl)) ?_
  refine lf (a_astore_n dL_flight_73 (by decide)) ?_
  refine lf (a_iconst (4 : Int32) dL_flight_74 (by decide)) ?_
  refine lf (a_aload_n dL_flight_75 rfl) ?_
  obtain ⟨v_, W76, k76, n5, hn5, rfl, hF76⟩ := fs_nx hF70
  refine lf (a_invS (b2 := (279, 351896)) k76 rfl dL_flight_76 yk_L_next sm_L_next ml_L_39 rfl (by decide) ⟨by decide, by decide⟩ (Nat.le_of_ble_eq_true rfl)) ?_
  refine lf (a_iconst (4 : Int32) dL_flight_79 (by decide)) ?_
  refine lf (a_irem dL_flight_80 (by decide)) ?_
  rw [show nI n5 - nI n5 / 4 * 4 = nI (n5 % 4) from pk_rem (d := 4) (by omega) (by decide) (by decide)]
  refine lf (a_iadd dL_flight_81) ?_
  rw [show (4 : Int32) + nI (n5 % 4) = nI (4 + n5 % 4) from nI_add 4 (n5 % 4)]
  refine lf (a_istore_n dL_flight_82 (by decide)) ?_
  refine lf (a_loc [(0, .ref 338), (1, .ref (wn μ)), (2, .int (nI (4 + n5 % 4)))] rfl) (lf (a_room (b' := (59 + 30 * (4 + n5 % 4), 89804 + 36000 * (4 + n5 % 4))) (by show 59 + 30 * (4 + n5 % 4) ≤ 279; omega) (by show 89804 + 36000 * (4 + n5 % 4) ≤ 351896; omega)) (l_L_flight_83 hμ (4 + n5 % 4) _ _ _ _ hF76 (by omega) (by omega) (by omega) (tx_head (a := 30 + n1 % 60) (b := n2 % 30) (c := n3 % 3 * 5) (s := n4 % 51) (by omega) (by omega) (by omega) (by omega) ⟨by omega, by omega⟩)))
end FLW
