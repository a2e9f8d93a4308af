section MOUT
variable {μ W V : Wd} {q : PDt} {d : FDt} {os : List Int32} {nm : Nat → List Nat} {t k : Nat}
def MoV (μ : Wd) (os : List Int32) : Prop := gI μ 338 38 = nI os.length ∧ os.length ≤ 120 ∧ ∀ k, k < os.length → gI μ 362 k = os.getD k 0
abbrev sMw : Nat → Prop := fun i => i = 338 ∨ i = 362
def MwQ (μ V : Wd) : Prop := Out sMw μ V ∧ (∀ k, k ≠ 38 → gI V 338 k = gI μ 338 k) ∧ ∀ k, gL V 338 k = gL μ 338 k
theorem MwQ.rfl' (hw : Wf μ) : MwQ μ μ := ⟨Out.rfl' hw, fun _ _ => rfl, fun _ => rfl⟩
theorem MwQ.trans (h1 : MwQ μ W) (h2 : MwQ W V) : MwQ μ V := ⟨h1.1.trans h2.1, fun k hk => (h2.2.1 k hk).trans (h1.2.1 k hk), fun k => (h2.2.2 k).trans (h1.2.2 k)⟩
theorem wb_id : ∀ c, c < 128 → wb (nI c) = nI c := by decide +kernel
theorem sgD_in {x : Int32} (h : os.length < 120) : sgD os x = os ++ [wb x] := if_pos h
theorem sgD_len (os : List Int32) (x : Int32) : os.length ≤ (sgD os x).length ∧ (sgD os x).length ≤ os.length + 1 := by
  unfold sgD
  by_cases h : os.length < 120
  · rw [if_pos h, List.length_append, List.length_singleton]; omega
  · rw [if_neg h]; omega
theorem wnD_len (l : List Nat) (os : List Int32) : ∀ k, (wnD l os k).length ≤ os.length + k
  | 0 => Nat.le_refl _
  | k + 1 => by
    have h1 := wnD_len l os k
    have h2 := (sgD_len (wnD l os k) (nI (l.getD k 0))).2
    show (sgD (wnD l os k) (nI (l.getD k 0))).length ≤ _
    omega
abbrev R_X11_says : Room := { frames := 0, cells := 0, slots := 0, locals := 0 }
abbrev RX_X11_says : Room := { frames := 0, cells := 1, slots := 6, locals := 0 }

theorem m_says (hw : Wf μ) (hu : MoV μ os) (hl : os.length < 120) {c : Nat} (hc : c < 128) : CV Y_X11_says R_X11_says [.ref 338, .int (nI c)] μ (fun v V => v = none ∧ MoV V (sgD os (nI c)) ∧ MwQ μ V) := by
  have h38 := hu.1
  refine ⟨none, sI (sI μ 362 os.length (nI c)) 338 38 (nI (os.length + 1)), ?_, rfl, ?_, ((Out.rfl' hw).sI (S := sMw) (Or.inr rfl) _ _).sI (S := sMw) (Or.inl rfl) _ _, fun k hk => by rw [gI_sI, if_neg (by omega), gI_sI, if_neg (by omega)], fun k => rfl⟩
  · refine Ct.ent yk_X11_says (Nat.le_of_ble_eq_true rfl) ?_
    refine a_aload_n dX11_says_0 rfl ?_
    refine a_getR (cr_338_37 (by repeat (first | with_reducible exact hw | with_reducible exact hwc | with_reducible assumption | with_reducible apply Wf.sI | with_reducible apply Wf.sL | with_reducible apply Wf.cpI | with_reducible apply Wf.cpL | with_reducible apply Wf.cp2 | with_reducible apply Wf.sIs | with_reducible apply Wf.sLs | with_reducible apply Wf.cpU | with_reducible apply Wf.fillI | with_reducible apply Wf.clU | with_reducible apply Wf.dnF | with_reducible apply Wf.gbW))) dX11_says_1 fs_X11_85 rfl (co_338 (by repeat (first | with_reducible exact hw | with_reducible exact hwc | with_reducible assumption | with_reducible apply Wf.sI | with_reducible apply Wf.sL | with_reducible apply Wf.cpI | with_reducible apply Wf.cpL | with_reducible apply Wf.cp2 | with_reducible apply Wf.sIs | with_reducible apply Wf.sLs | with_reducible apply Wf.cpU | with_reducible apply Wf.fillI | with_reducible apply Wf.clU | with_reducible apply Wf.dnF | with_reducible apply Wf.gbW))) ?_
    refine a_aload_n dX11_says_4 rfl ?_
    refine a_getI dX11_says_5 fs_X11_499 rfl (co_338 (by repeat (first | with_reducible exact hw | with_reducible exact hwc | with_reducible assumption | with_reducible apply Wf.sI | with_reducible apply Wf.sL | with_reducible apply Wf.cpI | with_reducible apply Wf.cpL | with_reducible apply Wf.cp2 | with_reducible apply Wf.sIs | with_reducible apply Wf.sLs | with_reducible apply Wf.cpU | with_reducible apply Wf.fillI | with_reducible apply Wf.clU | with_reducible apply Wf.dnF | with_reducible apply Wf.gbW))) ?_
    rw [h38]
    refine a_iload_n dX11_says_8 rfl ?_
    refine a_ist dX11_says_9 (ca_362 (by repeat (first | with_reducible exact hw | with_reducible exact hwc | with_reducible assumption | with_reducible apply Wf.sI | with_reducible apply Wf.sL | with_reducible apply Wf.cpI | with_reducible apply Wf.cpL | with_reducible apply Wf.cp2 | with_reducible apply Wf.sIs | with_reducible apply Wf.sLs | with_reducible apply Wf.cpU | with_reducible apply Wf.fillI | with_reducible apply Wf.clU | with_reducible apply Wf.dnF | with_reducible apply Wf.gbW))) (ixn (show os.length < 150 by omega) (by decide)) ?_
    refine a_aload_n dX11_says_10 rfl ?_
    refine a_aload_n dX11_says_11 rfl ?_
    refine a_getI dX11_says_12 fs_X11_499 rfl (co_338 (by repeat (first | with_reducible exact hw | with_reducible exact hwc | with_reducible assumption | with_reducible apply Wf.sI | with_reducible apply Wf.sL | with_reducible apply Wf.cpI | with_reducible apply Wf.cpL | with_reducible apply Wf.cp2 | with_reducible apply Wf.sIs | with_reducible apply Wf.sLs | with_reducible apply Wf.cpU | with_reducible apply Wf.fillI | with_reducible apply Wf.clU | with_reducible apply Wf.dnF | with_reducible apply Wf.gbW))) ?_
    rw [gI_sI, if_neg (by omega), h38]
    refine a_iconst (1 : Int32) dX11_says_15 (by decide) ?_
    refine a_iadd dX11_says_16 ?_
    rw [nI_1]
    refine a_putI dX11_says_17 fs_X11_499 rfl rfl rfl (co_338 (by repeat (first | with_reducible exact hw | with_reducible exact hwc | with_reducible assumption | with_reducible apply Wf.sI | with_reducible apply Wf.sL | with_reducible apply Wf.cpI | with_reducible apply Wf.cpL | with_reducible apply Wf.cp2 | with_reducible apply Wf.sIs | with_reducible apply Wf.sLs | with_reducible apply Wf.cpU | with_reducible apply Wf.fillI | with_reducible apply Wf.clU | with_reducible apply Wf.dnF | with_reducible apply Wf.gbW))) ?_
    exact a_out rfl rfl (a_return dX11_says_20 rfl)
  · rw [sgD_in hl, wb_id c hc]
    refine ⟨by rw [gI_sI, if_pos ⟨rfl, rfl⟩, List.length_append]; rfl, by rw [List.length_append, List.length_singleton]; omega, fun k hk => ?_⟩
    rw [List.length_append, List.length_singleton] at hk
    rw [gI_sI, if_neg (by omega), gI_sI]
    by_cases hx : k = os.length
    · subst hx
      rw [if_pos ⟨rfl, rfl⟩, List.getD_eq_getElem?_getD, List.getElem?_append_right (Nat.le_refl _), Nat.sub_self]; rfl
    · rw [if_neg (fun y => hx y.2), hu.2.2 k (by omega), List.getD_eq_getElem?_getD, List.getD_eq_getElem?_getD, List.getElem?_append_left (by omega)]
abbrev R_X11_saysNumber : Room := { frames := 1, cells := 0, slots := 0, locals := 21 }
abbrev RX_X11_saysNumber : Room := { frames := 1, cells := 1, slots := 6, locals := 21 }

theorem num2 : ∀ u, u < 100 → chI (48 + nI u / 10) = nI (48 + u / 10) ∧ (48 : Int32) + nI u / 10 = nI (48 + u / 10) ∧ chI (48 + (nI u - (nI u / 10) * 10)) = nI (48 + u % 10) ∧ (48 : Int32) + (nI u - (nI u / 10) * 10) = nI (48 + u % 10) := by decide +kernel
def snD (x : Int32) (os : List Int32) : List Int32 := sgD (if x ≤ 9 then os else sgD os (chI (48 + x / 10))) (chI (48 + (x - (x / 10) * 10)))
theorem snD_len (x : Int32) (os : List Int32) : (snD x os).length ≤ os.length + 2 := by
  unfold snD
  have h1 := (sgD_len os (chI (48 + x / 10))).2
  split
  · have h2 := (sgD_len os (chI (48 + (x - (x / 10) * 10)))).2
    omega
  · have h2 := (sgD_len (sgD os (chI (48 + x / 10))) (chI (48 + (x - (x / 10) * 10)))).2
    omega
theorem m_saysNumber (hw : Wf μ) (hu : MoV μ os) (hl : os.length + 1 < 120) {u : Nat} (h100 : u < 100) : CV Y_X11_saysNumber R_X11_saysNumber [.ref 338, .int (nI u)] μ (fun v V => v = none ∧ MoV V (snD (nI u) os) ∧ MwQ μ V) := by
  refine CV.ent yk_X11_saysNumber (Nat.le_of_ble_eq_true rfl) ?_
  have hn := num2 u h100
  unfold snD
  rw [hn.1, hn.2.2.1]
  refine lf (a_iload_n dX11_saysNumber_0 rfl) ?_
  refine lf (a_bipush (9 : Int32) dX11_saysNumber_1 (by decide)) ?_
  refine lf2 (a_icmp_le (tgt := 17) dX11_saysNumber_3 (by decide)) (fun h3 => ?_) (fun h3 => ?_)
  · rw [if_pos h3]
    refine lf (a_aload_n dX11_saysNumber_17 rfl) ?_
    refine lf (a_bipush (48 : Int32) dX11_saysNumber_18 (by decide)) ?_
    refine lf (a_iload_n dX11_saysNumber_20 rfl) ?_
    refine lf (a_bipush (10 : Int32) dX11_saysNumber_21 (by decide)) ?_
    refine lf (a_irem dX11_saysNumber_23 (by decide)) ?_
    refine lf (a_iadd dX11_saysNumber_24) ?_
    rw [hn.2.2.2]
    obtain ⟨v_, W25, k25, rfl, hu2, hq2⟩ := (m_says hw hu (by omega) (c := 48 + u % 10) (by omega))
    refine lf (a_inv (b2 := (0, 0)) k25 rfl dX11_saysNumber_25 yk_X11_says im_X11_says se_X11_says ml_X11_502 rfl (co_338 (by repeat (first | with_reducible exact hw | with_reducible exact hwc | with_reducible assumption | with_reducible apply Wf.sI | with_reducible apply Wf.sL | with_reducible apply Wf.cpI | with_reducible apply Wf.cpL | with_reducible apply Wf.cp2 | with_reducible apply Wf.sIs | with_reducible apply Wf.sLs | with_reducible apply Wf.cpU | with_reducible apply Wf.fillI | with_reducible apply Wf.clU | with_reducible apply Wf.dnF | with_reducible apply Wf.gbW))) (by decide) hc_X11 (by decide) (by decide) (Nat.le_of_ble_eq_true rfl)) ?_
    refine ⟨_, _, (a_return dX11_saysNumber_28 rfl), ?_⟩
    exact ⟨_, rfl, rfl, hu2, hq2⟩
  · rw [if_neg h3]
    refine lf (a_aload_n dX11_saysNumber_6 rfl) ?_
    refine lf (a_bipush (48 : Int32) dX11_saysNumber_7 (by decide)) ?_
    refine lf (a_iload_n dX11_saysNumber_9 rfl) ?_
    refine lf (a_bipush (10 : Int32) dX11_saysNumber_10 (by decide)) ?_
    refine lf (a_idiv dX11_saysNumber_12 (by decide)) ?_
    refine lf (a_iadd dX11_saysNumber_13) ?_
    rw [hn.2.1]
    obtain ⟨v_, W14, k14, rfl, hu1, hq1⟩ := (m_says hw hu (by omega) (c := 48 + u / 10) (by omega))
    have hw1 := hq1.1.1
    have hl1 := (sgD_len os (nI (48 + u / 10))).2
    refine lf (a_inv (b2 := (0, 0)) k14 rfl dX11_saysNumber_14 yk_X11_says im_X11_says se_X11_says ml_X11_502 rfl (co_338 (by repeat (first | with_reducible exact hw | with_reducible exact hwc | with_reducible assumption | with_reducible apply Wf.sI | with_reducible apply Wf.sL | with_reducible apply Wf.cpI | with_reducible apply Wf.cpL | with_reducible apply Wf.cp2 | with_reducible apply Wf.sIs | with_reducible apply Wf.sLs | with_reducible apply Wf.cpU | with_reducible apply Wf.fillI | with_reducible apply Wf.clU | with_reducible apply Wf.dnF | with_reducible apply Wf.gbW))) (by decide) hc_X11 (by decide) (by decide) (Nat.le_of_ble_eq_true rfl)) ?_
    refine lf (a_aload_n dX11_saysNumber_17 rfl) ?_
    refine lf (a_bipush (48 : Int32) dX11_saysNumber_18 (by decide)) ?_
    refine lf (a_iload_n dX11_saysNumber_20 rfl) ?_
    refine lf (a_bipush (10 : Int32) dX11_saysNumber_21 (by decide)) ?_
    refine lf (a_irem dX11_saysNumber_23 (by decide)) ?_
    refine lf (a_iadd dX11_saysNumber_24) ?_
    rw [hn.2.2.2]
    obtain ⟨v_, W25, k25, rfl, hu2, hq2⟩ := (m_says hw1 hu1 (by omega) (c := 48 + u % 10) (by omega))
    refine lf (a_inv (b2 := (0, 0)) k25 rfl dX11_saysNumber_25 yk_X11_says im_X11_says se_X11_says ml_X11_502 rfl (co_338 (by repeat (first | with_reducible exact hw | with_reducible exact hwc | with_reducible assumption | with_reducible apply Wf.sI | with_reducible apply Wf.sL | with_reducible apply Wf.cpI | with_reducible apply Wf.cpL | with_reducible apply Wf.cp2 | with_reducible apply Wf.sIs | with_reducible apply Wf.sLs | with_reducible apply Wf.cpU | with_reducible apply Wf.fillI | with_reducible apply Wf.clU | with_reducible apply Wf.dnF | with_reducible apply Wf.gbW))) (by decide) hc_X11 (by decide) (by decide) (Nat.le_of_ble_eq_true rfl)) ?_
    refine ⟨_, _, (a_return dX11_saysNumber_28 rfl), ?_⟩
    exact ⟨_, rfl, rfl, hu2, hq1.trans hq2⟩
abbrev R_X11_saysName : Room := { frames := 1, cells := 0, slots := 0, locals := 21 }
abbrev RX_X11_saysName : Room := { frames := 1, cells := 1, slots := 6, locals := 21 }

theorem shr64 {w s : Nat} (hw : w < 2 ^ 40) (hs : (lN s).toBitVec.smod 64 = BitVec.ofNat 64 s) (h64 : s < 64) : (lN w >>> lN s).toBitVec.toNat = w / 2 ^ s := by
  rw [Int64.toBitVec_shiftRight, hs, BitVec.sshiftRight_eq']
  have hm : (lN w).toBitVec.msb = false := BitVec.msb_eq_false_iff_two_mul_lt.mpr (by rw [lN_bit]; omega)
  rw [BitVec.sshiftRight_eq_of_msb_false hm, BitVec.toNat_ushiftRight, lN_bit, BitVec.toNat_ofNat, Nat.mod_eq_of_lt (show w < 2 ^ 64 by omega), Nat.mod_eq_of_lt (show s < 2 ^ 64 by omega), Nat.shiftRight_eq_div_pow]
theorem sh63 : ∀ i, i < 6 → (nI (5 * i)).toInt64 &&& 63 = lN (5 * i) ∧ (lN (5 * i)).toBitVec.smod 64 = BitVec.ofNat 64 (5 * i) := by decide +kernel
theorem dig64 {w i : Nat} (hw : w < 2 ^ 40) (hi : i < 6) : ((lN w >>> ((nI (5 * i)).toInt64 &&& 63)) &&& 31).toInt32 = nI (w / 2 ^ (5 * i) % 32) := by
  rw [(sh63 i hi).1]
  have h := shr64 hw (sh63 i hi).2 (by omega)
  apply Int32.toBitVec.inj
  apply BitVec.eq_of_toNat_eq
  rw [Int64.toBitVec_toInt32, BitVec.signExtend_eq_setWidth_of_le _ (by decide), BitVec.toNat_setWidth, Int64.toBitVec_and, BitVec.toNat_and, h]
  show (w / 2 ^ (5 * i) &&& (2 ^ 5 - 1)) % 2 ^ 32 = (w / 2 ^ (5 * i) % 32) % 2 ^ 32
  rw [Nat.and_two_pow_sub_one_eq_mod]
theorem wvR_dig : ∀ (r : List Nat), LtL r → ∀ i, wvR r / 32 ^ i % 32 = if i < r.length then r.getD i 0 - 96 else 0
  | [], _, i => by
    rw [if_neg (show ¬ i < ([] : List Nat).length from Nat.not_lt_zero i)]
    show 0 / 32 ^ i % 32 = 0
    rw [Nat.zero_div]
  | c :: t, h, 0 => by
    have hc := h c List.mem_cons_self
    rw [if_pos (show 0 < (c :: t).length from Nat.zero_lt_succ _)]
    show ((c - 96) + 32 * wvR t) / 1 % 32 = c - 96
    omega
  | c :: t, h, i + 1 => by
    have hc := h c List.mem_cons_self
    have ih := wvR_dig t (fun x hx => h x (List.mem_cons_of_mem _ hx)) i
    have e : wvR (c :: t) / 32 ^ (i + 1) = wvR t / 32 ^ i := by
      rw [Nat.pow_succ, Nat.mul_comm, ← Nat.div_div_eq_div_mul]
      congr 1
      show ((c - 96) + 32 * wvR t) / 32 = wvR t
      omega
    rw [e, ih]
    by_cases hi : i < t.length
    · rw [if_pos hi, if_pos (show i + 1 < (c :: t).length from Nat.succ_lt_succ hi)]; rfl
    · rw [if_neg hi, if_neg (show ¬ i + 1 < (c :: t).length from fun y => hi (Nat.lt_of_succ_lt_succ y))]
theorem wvN_dig {l : List Nat} (h : LtL l) (i : Nat) : wvN l / 2 ^ (5 * i) % 32 = if i < l.length then l.getD (l.length - 1 - i) 0 - 96 else 0 := by
  rw [Nat.pow_mul]
  have := wvR_dig l.reverse h.rev i
  rw [List.length_reverse] at this
  show wvR l.reverse / 32 ^ i % 32 = _
  rw [this]
  by_cases hi : i < l.length
  · rw [if_pos hi, if_pos hi, List.getD_eq_getElem?_getD, List.getD_eq_getElem?_getD, List.getElem?_reverse hi]
  · rw [if_neg hi, if_neg hi]
def shv : Nat → Int32
  | 0 => -5
  | i + 1 => nI (5 * i)
theorem sn_l {l : List Nat} (hn : NaL l) {Q : Oc → Wd → Prop} (hl : os.length + l.length ≤ 120) (kx : ∀ V : Wd, MoV V (wnD l os l.length) → MwQ μ V → Q (.inl none) V) : ∀ (i : Nat) (W : Wd), i ≤ 6 → MwQ μ W → MoV W (wnD l os (l.length - i)) → WP Y_X11_saysName R_X11_saysName (0, 0) W 3 [(0, .ref 338), (1, .long (lN (wvN l))), (3, .int (shv i))] [] Q := by
  intro i
  induction i with
  | zero =>
    intro W hi hq hu
    have hw := hq.1.1
    refine lf (a_iload_n dX11_saysName_3 rfl) ?_
    refine lf2 (a_if_lt (tgt := 38) dX11_saysName_4 (by decide)) (fun h4 => ?_) (fun h4 => absurd h4 (fun z => z (by decide)))
    refine ⟨_, _, (a_return dX11_saysName_38 rfl), ?_⟩
    exact kx W hu hq
  | succ i ih =>
    intro W hi hq hu
    have hw := hq.1.1
    have hdg := dig64 hn.lt (show i < 6 by omega)
    rw [wvN_dig hn.1] at hdg
    have h5 : nI (5 * i) - 5 = shv i := by
      cases i with
      | zero => rfl
      | succ j =>
        show nI (5 * (j + 1)) - nI 5 = nI (5 * j)
        rw [nI_subI (by omega)]
        exact congrArg nI (by omega)
    have hsh : ¬ shv (i + 1) < 0 := nI_pos (show 5 * i < 2 ^ 31 by omega)
    have hsv : shv (i + 1) = nI (5 * i) := rfl
    by_cases hil : i < l.length
    · rw [if_pos hil] at hdg
      have hc := hn.1 (l.getD (l.length - 1 - i) 0) (by rw [List.getD_eq_getElem?_getD, List.getElem?_eq_getElem (show l.length - 1 - i < l.length by omega), Option.getD_some]; exact List.getElem_mem _)
      have hc2 : (96 : Int32) + nI (l.getD (l.length - 1 - i) 0 - 96) = nI (l.getD (l.length - 1 - i) 0) := by
        rw [show (96 : Int32) = nI 96 from rfl, nI_add]
        exact congrArg nI (by omega)
      have hle := wnD_len l os (l.length - (i + 1))
      have hst : sgD (wnD l os (l.length - (i + 1))) (nI (l.getD (l.length - 1 - i) 0)) = wnD l os (l.length - i) := by
        rw [show l.length - i = (l.length - (i + 1)) + 1 by omega, show l.length - 1 - i = l.length - (i + 1) by omega]
        rfl
      refine lf (a_iload_n dX11_saysName_3 rfl) ?_
      refine lf2 (a_if_lt (tgt := 38) dX11_saysName_4 (by decide)) (fun h4 => absurd h4 hsh) (fun h4 => ?_)
      refine lf (a_lload_n dX11_saysName_7 rfl) ?_
      refine lf (a_iload_n dX11_saysName_8 rfl) ?_
      rw [hsv]
      refine lf (a_lshr dX11_saysName_9) ?_
      refine lf (a_ldc2 (v := 31) dX11_saysName_10 (lwa_in 2236 (by decide +kernel) rfl)) ?_
      refine lf (a_land dX11_saysName_13) ?_
      refine lf (a_l2i dX11_saysName_14) ?_
      rw [hdg]
      refine lf (a_istore dX11_saysName_15 (by decide)) ?_
      refine lf (a_iload dX11_saysName_17 rfl) ?_
      refine lf2 (a_if_le (tgt := 31) dX11_saysName_19 (by decide)) (fun h19 => absurd h19 (fun y => absurd ((nI_leI (b := 0) (by omega) (by decide)).mp y) (by omega))) (fun h19 => ?_)
      refine lf (a_aload_n dX11_saysName_22 rfl) ?_
      refine lf (a_bipush (96 : Int32) dX11_saysName_23 (by decide)) ?_
      refine lf (a_iload dX11_saysName_25 rfl) ?_
      refine lf (a_iadd dX11_saysName_27) ?_
      rw [hc2]
      obtain ⟨v_, W28, k28, rfl, hu1, hq1⟩ := (m_says hw hu (by omega) (c := l.getD (l.length - 1 - i) 0) (by omega))
      rw [hst] at hu1
      have hw1 := hq1.1.1
      refine lf (a_inv (b2 := (0, 0)) k28 rfl dX11_saysName_28 yk_X11_says im_X11_says se_X11_says ml_X11_502 rfl (co_338 (by repeat (first | with_reducible exact hw | with_reducible exact hwc | with_reducible assumption | with_reducible apply Wf.sI | with_reducible apply Wf.sL | with_reducible apply Wf.cpI | with_reducible apply Wf.cpL | with_reducible apply Wf.cp2 | with_reducible apply Wf.sIs | with_reducible apply Wf.sLs | with_reducible apply Wf.cpU | with_reducible apply Wf.fillI | with_reducible apply Wf.clU | with_reducible apply Wf.dnF | with_reducible apply Wf.gbW))) (by decide) hc_X11 (by decide) (by decide) (Nat.le_of_ble_eq_true rfl)) ?_
      refine lf (a_iload_n dX11_saysName_31 rfl) ?_
      refine lf (a_iconst (5 : Int32) dX11_saysName_32 (by decide)) ?_
      refine lf (a_isub dX11_saysName_33) ?_
      rw [h5]
      refine lf (a_istore_n dX11_saysName_34 (by decide)) ?_
      refine lf (a_goto (tgt := 3) dX11_saysName_35 (by decide)) ?_
      exact lf (a_loc _ rfl) (ih _ (by omega) (hq.trans hq1) hu1)
    · rw [if_neg hil] at hdg
      rw [show l.length - (i + 1) = l.length - i by omega] at hu
      refine lf (a_iload_n dX11_saysName_3 rfl) ?_
      refine lf2 (a_if_lt (tgt := 38) dX11_saysName_4 (by decide)) (fun h4 => absurd h4 hsh) (fun h4 => ?_)
      refine lf (a_lload_n dX11_saysName_7 rfl) ?_
      refine lf (a_iload_n dX11_saysName_8 rfl) ?_
      rw [hsv]
      refine lf (a_lshr dX11_saysName_9) ?_
      refine lf (a_ldc2 (v := 31) dX11_saysName_10 (lwa_in 2236 (by decide +kernel) rfl)) ?_
      refine lf (a_land dX11_saysName_13) ?_
      refine lf (a_l2i dX11_saysName_14) ?_
      rw [hdg]
      refine lf (a_istore dX11_saysName_15 (by decide)) ?_
      refine lf (a_iload dX11_saysName_17 rfl) ?_
      refine lf2 (a_if_le (tgt := 31) dX11_saysName_19 (by decide)) (fun h19 => ?_) (fun h19 => absurd h19 (fun y => y (by decide)))
      refine lf (a_iload_n dX11_saysName_31 rfl) ?_
      refine lf (a_iconst (5 : Int32) dX11_saysName_32 (by decide)) ?_
      refine lf (a_isub dX11_saysName_33) ?_
      rw [h5]
      refine lf (a_istore_n dX11_saysName_34 (by decide)) ?_
      refine lf (a_goto (tgt := 3) dX11_saysName_35 (by decide)) ?_
      exact lf (a_loc _ rfl) (ih _ (by omega) hq hu)
theorem m_saysName (hw : Wf μ) (hu : MoV μ os) {l : List Nat} (hn : NaL l) (hl : os.length + l.length ≤ 120) : CV Y_X11_saysName R_X11_saysName [.ref 338, .long (lN (wvN l))] μ (fun v V => v = none ∧ MoV V (wnD l os l.length) ∧ MwQ μ V) := by
  refine CV.ent yk_X11_saysName (Nat.le_of_ble_eq_true rfl) ?_
  refine lf (a_bipush (25 : Int32) dX11_saysName_0 (by decide)) ?_
  refine lf (a_istore_n dX11_saysName_2 (by decide)) ?_
  refine lf (a_loc [(0, .ref 338), (1, .long (lN (wvN l))), (3, .int (shv 6))] rfl) (sn_l (os := os) hn hl (fun V a b => ⟨none, rfl, rfl, a, b⟩) 6 μ (Nat.le_refl 6) (MwQ.rfl' hw) ?_)
  rw [show l.length - 6 = 0 by have := hn.2.2; omega]
  exact hu
abbrev R_X11_writeTrolley : Room := { frames := 2, cells := 0, slots := 0, locals := 45 }
abbrev RX_X11_writeTrolley : Room := { frames := 2, cells := 1, slots := 6, locals := 45 }

theorem MwQ.md (h : MwQ μ V) (hv : MdV μ q d) : MdV V q d := hv.out h.1 (by decide) (by decide)
theorem tw_len (hN : ∀ i, i < pM q → NaL (nm i)) : ∀ k, k ≤ pM q → (twN d nm t k).length ≤ 10 * k - 1
  | 0, _ => Nat.le_refl _
  | k + 1, h => by
    have ih := tw_len hN k (by omega)
    have h6 := (hN k (by omega)).2.2
    show (if dF d (7 + t) k ≤ 0 then twN d nm t k else wuD (dF d (7 + t) k) (nm k) (if nI (twN d nm t k).length ≤ 0 then twN d nm t k else sgD (twN d nm t k) 32)).length ≤ _
    split
    · omega
    · have hb : (if nI (twN d nm t k).length ≤ 0 then twN d nm t k else sgD (twN d nm t k) 32).length ≤ 10 * k := by
        split
        · omega
        · rename_i h0
          have h2 := (sgD_len (twN d nm t k) 32).2
          by_cases hk : k = 0
          · subst hk
            exact absurd (show nI ([] : List Int32).length ≤ 0 by decide) h0
          · omega
      generalize (if nI (twN d nm t k).length ≤ 0 then twN d nm t k else sgD (twN d nm t k) 32) = os at hb
      have h1 := snD_len (dF d (7 + t) k) os
      have h2 := (sgD_len (snD (dF d (7 + t) k) os) 120).2
      have h3 := wnD_len (nm k) (sgD (snD (dF d (7 + t) k) os) 120) (nm k).length
      show (wnD (nm k) (sgD (snD (dF d (7 + t) k) os) 120) (nm k).length).length ≤ _
      omega
theorem wt_l (hN : ∀ i, i < pM q → NaL (nm i)) (hM : pM q ≤ 12) (ht : t < 8) (hun : ∀ k, k < 12 → ∃ n, n ≤ 40 ∧ dF d (7 + t) k = nI n) {Q : Oc → Wd → Prop} (kx : ∀ V : Wd, MoV V (twN d nm t (pM q)) → MwQ μ V → WP Y_X11_writeTrolley R_X11_writeTrolley (0, 0) V 95 [(0, .ref 338)] [] Q) : ∀ (c k : Nat) (W : Wd), k + c = pM q → MwQ μ W → MdV W q d → (∀ i, i < pM q → gL W 341 i = lN (wvN (nm i))) → MoV W (twN d nm t k) → WP Y_X11_writeTrolley R_X11_writeTrolley (0, 0) W 29 [(0, .ref 338), (1, .int (nI t)), (2, .int (nI k))] [] Q := by
  intro c
  induction c with
  | zero =>
    intro k W hk hq hv hnm hu
    have hw := hq.1.1
    obtain rfl : pM q = k := by omega
    refine lf (a_iload_n dX11_writeTrolley_29 rfl) ?_
    refine lf (a_aload_n dX11_writeTrolley_30 rfl) ?_
    refine lf (a_inv (b2 := (0, 0)) (m_meals hw hv) rfl dX11_writeTrolley_31 yk_X11_meals im_X11_meals se_X11_meals ml_X11_300 rfl (co_338 hw) (by decide) hc_X11 (by decide) (by decide) (Nat.le_of_ble_eq_true rfl)) ?_
    refine lf2 (a_icmp_ge (tgt := 95) dX11_writeTrolley_34 (by decide)) (fun h34 => ?_) (fun h34 => absurd h34 (fun z => z (nI_le (Nat.le_refl _) (by omega))))
    exact lf (a_loc _ rfl) (kx W hu hq)
  | succ c ih =>
    intro k W hk hq hv hnm hu
    have hw := hq.1.1
    have hkm : k < pM q := by omega
    obtain ⟨u, hu40, eu⟩ := hun k (by omega)
    have eun := hv.un ht (show k < 12 by omega)
    rw [eu] at eun
    have hlen := tw_len (d := d) (t := t) hN k (by omega)
    have hna := hN k hkm
    have h6 := hna.2.2
    have hstep : twN d nm t (k + 1) = if nI u ≤ 0 then twN d nm t k else wuD (nI u) (nm k) (if nI (twN d nm t k).length ≤ 0 then twN d nm t k else sgD (twN d nm t k) 32) := by
      show (if dF d (7 + t) k ≤ 0 then _ else _) = _
      rw [eu]
    refine lf (a_iload_n dX11_writeTrolley_29 rfl) ?_
    refine lf (a_aload_n dX11_writeTrolley_30 rfl) ?_
    refine lf (a_inv (b2 := (0, 0)) (m_meals (by repeat (first | with_reducible exact hw | with_reducible exact hwc | with_reducible assumption | with_reducible apply Wf.sI | with_reducible apply Wf.sL | with_reducible apply Wf.cpI | with_reducible apply Wf.cpL | with_reducible apply Wf.cp2 | with_reducible apply Wf.sIs | with_reducible apply Wf.sLs | with_reducible apply Wf.cpU | with_reducible apply Wf.fillI | with_reducible apply Wf.clU | with_reducible apply Wf.dnF | with_reducible apply Wf.gbW)) hv) rfl dX11_writeTrolley_31 yk_X11_meals im_X11_meals se_X11_meals ml_X11_300 rfl (co_338 (by repeat (first | with_reducible exact hw | with_reducible exact hwc | with_reducible assumption | with_reducible apply Wf.sI | with_reducible apply Wf.sL | with_reducible apply Wf.cpI | with_reducible apply Wf.cpL | with_reducible apply Wf.cp2 | with_reducible apply Wf.sIs | with_reducible apply Wf.sLs | with_reducible apply Wf.cpU | with_reducible apply Wf.fillI | with_reducible apply Wf.clU | with_reducible apply Wf.dnF | with_reducible apply Wf.gbW))) (by decide) hc_X11 (by decide) (by decide) (Nat.le_of_ble_eq_true rfl)) ?_
    refine lf2 (a_icmp_ge (tgt := 95) dX11_writeTrolley_34 (by decide)) (fun h34 => absurd h34 (nI_ge (by omega) (by omega))) (fun h34 => ?_)
    refine lf (a_aload_n dX11_writeTrolley_37 rfl) ?_
    refine lf (a_getR (cr_338_6 (by repeat (first | with_reducible exact hw | with_reducible exact hwc | with_reducible assumption | with_reducible apply Wf.sI | with_reducible apply Wf.sL | with_reducible apply Wf.cpI | with_reducible apply Wf.cpL | with_reducible apply Wf.cp2 | with_reducible apply Wf.sIs | with_reducible apply Wf.sLs | with_reducible apply Wf.cpU | with_reducible apply Wf.fillI | with_reducible apply Wf.clU | with_reducible apply Wf.dnF | with_reducible apply Wf.gbW))) dX11_writeTrolley_38 fs_X11_26 rfl (co_338 (by repeat (first | with_reducible exact hw | with_reducible exact hwc | with_reducible assumption | with_reducible apply Wf.sI | with_reducible apply Wf.sL | with_reducible apply Wf.cpI | with_reducible apply Wf.cpL | with_reducible apply Wf.cp2 | with_reducible apply Wf.sIs | with_reducible apply Wf.sLs | with_reducible apply Wf.cpU | with_reducible apply Wf.fillI | with_reducible apply Wf.clU | with_reducible apply Wf.dnF | with_reducible apply Wf.gbW)))) ?_
    refine lf (a_iload_n dX11_writeTrolley_41 rfl) ?_
    refine lf (a_iload_n dX11_writeTrolley_42 rfl) ?_
    refine lf (a_invS (b2 := (0, 0)) (m_unitAt t k) rfl dX11_writeTrolley_43 yk_X11_unitAt sm_X11_unitAt ml_X11_333 rfl (by decide) (by decide) (Nat.le_of_ble_eq_true rfl)) ?_
    refine lf (a_ild dX11_writeTrolley_46 (ca_344 (by repeat (first | with_reducible exact hw | with_reducible exact hwc | with_reducible assumption | with_reducible apply Wf.sI | with_reducible apply Wf.sL | with_reducible apply Wf.cpI | with_reducible apply Wf.cpL | with_reducible apply Wf.cp2 | with_reducible apply Wf.sIs | with_reducible apply Wf.sLs | with_reducible apply Wf.cpU | with_reducible apply Wf.fillI | with_reducible apply Wf.clU | with_reducible apply Wf.dnF | with_reducible apply Wf.gbW))) (ixn (show 165 + 12 * t + k < 291 by omega) (by decide))) ?_
    rw [eun]
    refine lf (a_istore_n dX11_writeTrolley_47 (by decide)) ?_
    refine lf (a_iload_n dX11_writeTrolley_48 rfl) ?_
    refine lfn (a_if_ne (tgt := 55) dX11_writeTrolley_49 (by decide)) (fun h49 => ?_) (fun h49 => ?_)
    · have hup : ¬ nI u ≤ 0 := fun y => h49 (by have := (nI_leI (b := 0) (by omega) (by decide)).mp y; rw [show u = 0 by omega]; rfl)
      refine lf (a_aload_n dX11_writeTrolley_55 rfl) ?_
      refine lf (a_getI dX11_writeTrolley_56 fs_X11_499 rfl (co_338 (by repeat (first | with_reducible exact hw | with_reducible exact hwc | with_reducible assumption | with_reducible apply Wf.sI | with_reducible apply Wf.sL | with_reducible apply Wf.cpI | with_reducible apply Wf.cpL | with_reducible apply Wf.cp2 | with_reducible apply Wf.sIs | with_reducible apply Wf.sLs | with_reducible apply Wf.cpU | with_reducible apply Wf.fillI | with_reducible apply Wf.clU | with_reducible apply Wf.dnF | with_reducible apply Wf.gbW)))) ?_
      rw [hu.1]
      refine lf2 (a_if_le (tgt := 68) dX11_writeTrolley_59 (by decide)) (fun h59 => ?_) (fun h59 => ?_)
      · have hlz : (if nI (twN d nm t k).length ≤ 0 then twN d nm t k else sgD (twN d nm t k) 32) = twN d nm t k := if_pos h59
        refine lf (a_aload_n dX11_writeTrolley_68 rfl) ?_
        refine lf (a_iload_n dX11_writeTrolley_69 rfl) ?_
        obtain ⟨v_, W70, k70, rfl, ua, qa⟩ := (m_saysNumber hw hu (by omega) (u := u) (by omega))
        have hwa := qa.1.1
        have hla := snD_len (nI u) (twN d nm t k)
        refine lf (a_inv (b2 := (0, 0)) k70 rfl dX11_writeTrolley_70 yk_X11_saysNumber im_X11_saysNumber se_X11_saysNumber ml_X11_507 rfl (co_338 (by repeat (first | with_reducible exact hw | with_reducible exact hwc | with_reducible assumption | with_reducible apply Wf.sI | with_reducible apply Wf.sL | with_reducible apply Wf.cpI | with_reducible apply Wf.cpL | with_reducible apply Wf.cp2 | with_reducible apply Wf.sIs | with_reducible apply Wf.sLs | with_reducible apply Wf.cpU | with_reducible apply Wf.fillI | with_reducible apply Wf.clU | with_reducible apply Wf.dnF | with_reducible apply Wf.gbW))) (by decide) hc_X11 (by decide) (by decide) (Nat.le_of_ble_eq_true rfl)) ?_
        refine lf (a_aload_n dX11_writeTrolley_73 rfl) ?_
        refine lf (a_bipush (120 : Int32) dX11_writeTrolley_74 (by decide)) ?_
        obtain ⟨v_, W76, k76, rfl, ub, qb⟩ := (m_says qa.1.1 ua (by omega) (c := 120) (by decide))
        have hwb := qb.1.1
        have hlb := (sgD_len (snD (nI u) (twN d nm t k)) (nI 120)).2
        have enm : gL W76 341 k = lN (wvN (nm k)) := (qb.1.l (by decide) k).trans ((qa.1.l (by decide) k).trans (hnm k hkm))
        refine lf (a_inv (b2 := (0, 0)) k76 rfl dX11_writeTrolley_76 yk_X11_says im_X11_says se_X11_says ml_X11_502 rfl (co_338 (by repeat (first | with_reducible exact hw | with_reducible exact hwc | with_reducible assumption | with_reducible apply Wf.sI | with_reducible apply Wf.sL | with_reducible apply Wf.cpI | with_reducible apply Wf.cpL | with_reducible apply Wf.cp2 | with_reducible apply Wf.sIs | with_reducible apply Wf.sLs | with_reducible apply Wf.cpU | with_reducible apply Wf.fillI | with_reducible apply Wf.clU | with_reducible apply Wf.dnF | with_reducible apply Wf.gbW))) (by decide) hc_X11 (by decide) (by decide) (Nat.le_of_ble_eq_true rfl)) ?_
        refine lf (a_aload_n dX11_writeTrolley_79 rfl) ?_
        refine lf (a_aload_n dX11_writeTrolley_80 rfl) ?_
        refine lf (a_getR (cr_338_3 (by repeat (first | with_reducible exact hw | with_reducible exact hwc | with_reducible assumption | with_reducible apply Wf.sI | with_reducible apply Wf.sL | with_reducible apply Wf.cpI | with_reducible apply Wf.cpL | with_reducible apply Wf.cp2 | with_reducible apply Wf.sIs | with_reducible apply Wf.sLs | with_reducible apply Wf.cpU | with_reducible apply Wf.fillI | with_reducible apply Wf.clU | with_reducible apply Wf.dnF | with_reducible apply Wf.gbW))) dX11_writeTrolley_81 fs_X11_16 rfl (co_338 (by repeat (first | with_reducible exact hw | with_reducible exact hwc | with_reducible assumption | with_reducible apply Wf.sI | with_reducible apply Wf.sL | with_reducible apply Wf.cpI | with_reducible apply Wf.cpL | with_reducible apply Wf.cp2 | with_reducible apply Wf.sIs | with_reducible apply Wf.sLs | with_reducible apply Wf.cpU | with_reducible apply Wf.fillI | with_reducible apply Wf.clU | with_reducible apply Wf.dnF | with_reducible apply Wf.gbW)))) ?_
        refine lf (a_iload_n dX11_writeTrolley_84 rfl) ?_
        refine lf (a_lld dX11_writeTrolley_85 (ca_341 (by repeat (first | with_reducible exact hw | with_reducible exact hwc | with_reducible assumption | with_reducible apply Wf.sI | with_reducible apply Wf.sL | with_reducible apply Wf.cpI | with_reducible apply Wf.cpL | with_reducible apply Wf.cp2 | with_reducible apply Wf.sIs | with_reducible apply Wf.sLs | with_reducible apply Wf.cpU | with_reducible apply Wf.fillI | with_reducible apply Wf.clU | with_reducible apply Wf.dnF | with_reducible apply Wf.gbW))) (ixn (show k < 12 by omega) (by decide))) ?_
        rw [enm]
        obtain ⟨v_, W86, k86, rfl, uc, qc⟩ := (m_saysName qb.1.1 ub hna (by omega))
        have hwc2 := qc.1.1
        refine lf (a_inv (b2 := (0, 0)) k86 rfl dX11_writeTrolley_86 yk_X11_saysName im_X11_saysName se_X11_saysName ml_X11_510 rfl (co_338 (by repeat (first | with_reducible exact hw | with_reducible exact hwc | with_reducible assumption | with_reducible apply Wf.sI | with_reducible apply Wf.sL | with_reducible apply Wf.cpI | with_reducible apply Wf.cpL | with_reducible apply Wf.cp2 | with_reducible apply Wf.sIs | with_reducible apply Wf.sLs | with_reducible apply Wf.cpU | with_reducible apply Wf.fillI | with_reducible apply Wf.clU | with_reducible apply Wf.dnF | with_reducible apply Wf.gbW))) (by decide) hc_X11 (by decide) (by decide) (Nat.le_of_ble_eq_true rfl)) ?_
        refine lf (a_iincN dX11_writeTrolley_89 rfl (by decide)) ?_
        refine lf (a_goto (tgt := 29) dX11_writeTrolley_92 (by decide)) ?_
        have hqq := (((MwQ.rfl' hw).trans qa).trans qb).trans qc
        have hq2 := hq.trans hqq
        exact lf (a_loc _ rfl) (ih (k + 1) _ (by omega) hq2 (hqq.md hv) (fun i hi => (hqq.1.l (by decide) i).trans (hnm i hi)) (by rw [hstep, if_neg hup, hlz]; exact uc))
      · refine lf (a_aload_n dX11_writeTrolley_62 rfl) ?_
        refine lf (a_bipush (32 : Int32) dX11_writeTrolley_63 (by decide)) ?_
        obtain ⟨v_, W65, k65, rfl, u1, q1⟩ := (m_says hw hu (by omega) (c := 32) (by decide))
        have hs1 := q1.1.1
        have hl1 : (sgD (twN d nm t k) (nI 32)).length ≤ 10 * k := by
          have h2 := (sgD_len (twN d nm t k) (nI 32)).2
          have h3 : ¬ (twN d nm t k).length ≤ 0 := fun y => h59 ((nI_leI (b := 0) (by omega) (by decide)).mpr y)
          omega
        refine lf (a_inv (b2 := (0, 0)) k65 rfl dX11_writeTrolley_65 yk_X11_says im_X11_says se_X11_says ml_X11_502 rfl (co_338 (by repeat (first | with_reducible exact hw | with_reducible exact hwc | with_reducible assumption | with_reducible apply Wf.sI | with_reducible apply Wf.sL | with_reducible apply Wf.cpI | with_reducible apply Wf.cpL | with_reducible apply Wf.cp2 | with_reducible apply Wf.sIs | with_reducible apply Wf.sLs | with_reducible apply Wf.cpU | with_reducible apply Wf.fillI | with_reducible apply Wf.clU | with_reducible apply Wf.dnF | with_reducible apply Wf.gbW))) (by decide) hc_X11 (by decide) (by decide) (Nat.le_of_ble_eq_true rfl)) ?_
        have hlz : (if nI (twN d nm t k).length ≤ 0 then twN d nm t k else sgD (twN d nm t k) 32) = sgD (twN d nm t k) 32 := if_neg h59
        refine lf (a_aload_n dX11_writeTrolley_68 rfl) ?_
        refine lf (a_iload_n dX11_writeTrolley_69 rfl) ?_
        obtain ⟨v_, W70, k70, rfl, ua, qa⟩ := (m_saysNumber q1.1.1 u1 (by omega) (u := u) (by omega))
        have hwa := qa.1.1
        have hla := snD_len (nI u) (sgD (twN d nm t k) (nI 32))
        refine lf (a_inv (b2 := (0, 0)) k70 rfl dX11_writeTrolley_70 yk_X11_saysNumber im_X11_saysNumber se_X11_saysNumber ml_X11_507 rfl (co_338 (by repeat (first | with_reducible exact hw | with_reducible exact hwc | with_reducible assumption | with_reducible apply Wf.sI | with_reducible apply Wf.sL | with_reducible apply Wf.cpI | with_reducible apply Wf.cpL | with_reducible apply Wf.cp2 | with_reducible apply Wf.sIs | with_reducible apply Wf.sLs | with_reducible apply Wf.cpU | with_reducible apply Wf.fillI | with_reducible apply Wf.clU | with_reducible apply Wf.dnF | with_reducible apply Wf.gbW))) (by decide) hc_X11 (by decide) (by decide) (Nat.le_of_ble_eq_true rfl)) ?_
        refine lf (a_aload_n dX11_writeTrolley_73 rfl) ?_
        refine lf (a_bipush (120 : Int32) dX11_writeTrolley_74 (by decide)) ?_
        obtain ⟨v_, W76, k76, rfl, ub, qb⟩ := (m_says qa.1.1 ua (by omega) (c := 120) (by decide))
        have hwb := qb.1.1
        have hlb := (sgD_len (snD (nI u) (sgD (twN d nm t k) (nI 32))) (nI 120)).2
        have enm : gL W76 341 k = lN (wvN (nm k)) := (qb.1.l (by decide) k).trans ((qa.1.l (by decide) k).trans ((q1.1.l (by decide) k).trans (hnm k hkm)))
        refine lf (a_inv (b2 := (0, 0)) k76 rfl dX11_writeTrolley_76 yk_X11_says im_X11_says se_X11_says ml_X11_502 rfl (co_338 (by repeat (first | with_reducible exact hw | with_reducible exact hwc | with_reducible assumption | with_reducible apply Wf.sI | with_reducible apply Wf.sL | with_reducible apply Wf.cpI | with_reducible apply Wf.cpL | with_reducible apply Wf.cp2 | with_reducible apply Wf.sIs | with_reducible apply Wf.sLs | with_reducible apply Wf.cpU | with_reducible apply Wf.fillI | with_reducible apply Wf.clU | with_reducible apply Wf.dnF | with_reducible apply Wf.gbW))) (by decide) hc_X11 (by decide) (by decide) (Nat.le_of_ble_eq_true rfl)) ?_
        refine lf (a_aload_n dX11_writeTrolley_79 rfl) ?_
        refine lf (a_aload_n dX11_writeTrolley_80 rfl) ?_
        refine lf (a_getR (cr_338_3 (by repeat (first | with_reducible exact hw | with_reducible exact hwc | with_reducible assumption | with_reducible apply Wf.sI | with_reducible apply Wf.sL | with_reducible apply Wf.cpI | with_reducible apply Wf.cpL | with_reducible apply Wf.cp2 | with_reducible apply Wf.sIs | with_reducible apply Wf.sLs | with_reducible apply Wf.cpU | with_reducible apply Wf.fillI | with_reducible apply Wf.clU | with_reducible apply Wf.dnF | with_reducible apply Wf.gbW))) dX11_writeTrolley_81 fs_X11_16 rfl (co_338 (by repeat (first | with_reducible exact hw | with_reducible exact hwc | with_reducible assumption | with_reducible apply Wf.sI | with_reducible apply Wf.sL | with_reducible apply Wf.cpI | with_reducible apply Wf.cpL | with_reducible apply Wf.cp2 | with_reducible apply Wf.sIs | with_reducible apply Wf.sLs | with_reducible apply Wf.cpU | with_reducible apply Wf.fillI | with_reducible apply Wf.clU | with_reducible apply Wf.dnF | with_reducible apply Wf.gbW)))) ?_
        refine lf (a_iload_n dX11_writeTrolley_84 rfl) ?_
        refine lf (a_lld dX11_writeTrolley_85 (ca_341 (by repeat (first | with_reducible exact hw | with_reducible exact hwc | with_reducible assumption | with_reducible apply Wf.sI | with_reducible apply Wf.sL | with_reducible apply Wf.cpI | with_reducible apply Wf.cpL | with_reducible apply Wf.cp2 | with_reducible apply Wf.sIs | with_reducible apply Wf.sLs | with_reducible apply Wf.cpU | with_reducible apply Wf.fillI | with_reducible apply Wf.clU | with_reducible apply Wf.dnF | with_reducible apply Wf.gbW))) (ixn (show k < 12 by omega) (by decide))) ?_
        rw [enm]
        obtain ⟨v_, W86, k86, rfl, uc, qc⟩ := (m_saysName qb.1.1 ub hna (by omega))
        have hwc2 := qc.1.1
        refine lf (a_inv (b2 := (0, 0)) k86 rfl dX11_writeTrolley_86 yk_X11_saysName im_X11_saysName se_X11_saysName ml_X11_510 rfl (co_338 (by repeat (first | with_reducible exact hw | with_reducible exact hwc | with_reducible assumption | with_reducible apply Wf.sI | with_reducible apply Wf.sL | with_reducible apply Wf.cpI | with_reducible apply Wf.cpL | with_reducible apply Wf.cp2 | with_reducible apply Wf.sIs | with_reducible apply Wf.sLs | with_reducible apply Wf.cpU | with_reducible apply Wf.fillI | with_reducible apply Wf.clU | with_reducible apply Wf.dnF | with_reducible apply Wf.gbW))) (by decide) hc_X11 (by decide) (by decide) (Nat.le_of_ble_eq_true rfl)) ?_
        refine lf (a_iincN dX11_writeTrolley_89 rfl (by decide)) ?_
        refine lf (a_goto (tgt := 29) dX11_writeTrolley_92 (by decide)) ?_
        have hqq := (((q1).trans qa).trans qb).trans qc
        have hq2 := hq.trans hqq
        exact lf (a_loc _ rfl) (ih (k + 1) _ (by omega) hq2 (hqq.md hv) (fun i hi => (hqq.1.l (by decide) i).trans (hnm i hi)) (by rw [hstep, if_neg hup, hlz]; exact uc))
    · have hu0 : nI u ≤ 0 := by rw [h49]; decide
      refine lf (a_goto (tgt := 89) dX11_writeTrolley_52 (by decide)) ?_
      refine lf (a_iincN dX11_writeTrolley_89 rfl (by decide)) ?_
      refine lf (a_goto (tgt := 29) dX11_writeTrolley_92 (by decide)) ?_
      exact lf (a_loc _ rfl) (ih (k + 1) _ (by omega) hq hv hnm (by rw [hstep, if_pos hu0]; exact hu))
theorem twN_0 : twN d nm t 0 = [] := rfl
theorem m_writeTrolley (hw : Wf μ) (hv : MdV μ q d) (hg : GdP q) (hd : GdD q d) (hN : ∀ i, i < pM q → NaL (nm i)) (hnm : ∀ i, i < pM q → gL μ 341 i = lN (wvN (nm i))) (ht : t < pT q) : CV Y_X11_writeTrolley R_X11_writeTrolley [.ref 338, .int (nI t)] μ (fun v V => v = some (.int (nI (twD q d nm t).length)) ∧ MoV V (twD q d nm t) ∧ Out sMw μ V ∧ gI V 338 0 = 0 ∧ ∀ k, k ≠ 0 → k ≠ 38 → gI V 338 k = gI μ 338 k) := by
  refine CV.ent yk_X11_writeTrolley (Nat.le_of_ble_eq_true rfl) ?_
  have hT8 := hv.T4
  have hM12 := hv.M4
  have hi : isO (nI t) (pT q) = 1 := isO_lt ht (by omega)
  have hlen := tw_len (d := d) (t := t) hN (pM q) (Nat.le_refl _)
  refine lf (a_aload_n dX11_writeTrolley_0 rfl) ?_
  refine lf (a_aload_n dX11_writeTrolley_1 rfl) ?_
  refine lf (a_iload_n dX11_writeTrolley_2 rfl) ?_
  refine lf (a_inv (b2 := (0, 0)) (Ct.int hi (m_isTrolley (by repeat (first | with_reducible exact hw | with_reducible exact hwc | with_reducible assumption | with_reducible apply Wf.sI | with_reducible apply Wf.sL | with_reducible apply Wf.cpI | with_reducible apply Wf.cpL | with_reducible apply Wf.cp2 | with_reducible apply Wf.sIs | with_reducible apply Wf.sLs | with_reducible apply Wf.cpU | with_reducible apply Wf.fillI | with_reducible apply Wf.clU | with_reducible apply Wf.dnF | with_reducible apply Wf.gbW)) hv (nI t))) rfl dX11_writeTrolley_3 yk_X11_isTrolley im_X11_isTrolley se_X11_isTrolley ml_X11_391 rfl (co_338 (by repeat (first | with_reducible exact hw | with_reducible exact hwc | with_reducible assumption | with_reducible apply Wf.sI | with_reducible apply Wf.sL | with_reducible apply Wf.cpI | with_reducible apply Wf.cpL | with_reducible apply Wf.cp2 | with_reducible apply Wf.sIs | with_reducible apply Wf.sLs | with_reducible apply Wf.cpU | with_reducible apply Wf.fillI | with_reducible apply Wf.clU | with_reducible apply Wf.dnF | with_reducible apply Wf.gbW))) (by decide) hc_X11 (by decide) (by decide) (Nat.le_of_ble_eq_true rfl)) ?_
  refine lf2 (a_if_eq (tgt := 13) dX11_writeTrolley_6 (by decide)) (fun h6 => absurd h6 (by decide)) (fun h6 => ?_)
  refine lf (a_iconst (0 : Int32) dX11_writeTrolley_9 (by decide)) ?_
  refine lf (a_goto (tgt := 14) dX11_writeTrolley_10 (by decide)) ?_
  refine lf (a_inv (b2 := (0, 0)) (m_isRefused0 (by repeat (first | with_reducible exact hw | with_reducible exact hwc | with_reducible assumption | with_reducible apply Wf.sI | with_reducible apply Wf.sL | with_reducible apply Wf.cpI | with_reducible apply Wf.cpL | with_reducible apply Wf.cp2 | with_reducible apply Wf.sIs | with_reducible apply Wf.sLs | with_reducible apply Wf.cpU | with_reducible apply Wf.fillI | with_reducible apply Wf.clU | with_reducible apply Wf.dnF | with_reducible apply Wf.gbW))) rfl dX11_writeTrolley_14 yk_X11_isRefused im_X11_isRefused se_X11_isRefused ml_X11_98 rfl (co_338 (by repeat (first | with_reducible exact hw | with_reducible exact hwc | with_reducible assumption | with_reducible apply Wf.sI | with_reducible apply Wf.sL | with_reducible apply Wf.cpI | with_reducible apply Wf.cpL | with_reducible apply Wf.cp2 | with_reducible apply Wf.sIs | with_reducible apply Wf.sLs | with_reducible apply Wf.cpU | with_reducible apply Wf.fillI | with_reducible apply Wf.clU | with_reducible apply Wf.dnF | with_reducible apply Wf.gbW))) (by decide) hc_X11 (by decide) (by decide) (Nat.le_of_ble_eq_true rfl)) ?_
  refine lf2 (a_if_eq (tgt := 22) dX11_writeTrolley_17 (by decide)) (fun h17 => ?_) (fun h17 => absurd h17 (by decide))
  refine lf (a_aload_n dX11_writeTrolley_22 rfl) ?_
  refine lf (a_iconst (0 : Int32) dX11_writeTrolley_23 (by decide)) ?_
  refine lf (a_putI dX11_writeTrolley_24 fs_X11_499 rfl rfl rfl (co_338 (by repeat (first | with_reducible exact hw | with_reducible exact hwc | with_reducible assumption | with_reducible apply Wf.sI | with_reducible apply Wf.sL | with_reducible apply Wf.cpI | with_reducible apply Wf.cpL | with_reducible apply Wf.cp2 | with_reducible apply Wf.sIs | with_reducible apply Wf.sLs | with_reducible apply Wf.cpU | with_reducible apply Wf.fillI | with_reducible apply Wf.clU | with_reducible apply Wf.dnF | with_reducible apply Wf.gbW)))) ?_
  refine lf (a_iconst (0 : Int32) dX11_writeTrolley_27 (by decide)) ?_
  refine lf (a_istore_n dX11_writeTrolley_28 (by decide)) ?_
  have hO0 : Out sMw μ (sI (sI μ 338 0 0) 338 38 0) := ((Out.rfl' hw).sI (S := sMw) (Or.inl rfl) _ _).sI (S := sMw) (Or.inl rfl) _ _
  have e0 : gI (sI (sI μ 338 0 0) 338 38 0) 338 0 = 0 := by rw [gI_sI, if_neg (by omega), gI_sI, if_pos ⟨rfl, rfl⟩]
  have e38 : gI (sI (sI μ 338 0 0) 338 38 0) 338 38 = 0 := by rw [gI_sI, if_pos ⟨rfl, rfl⟩]
  have ek : ∀ k, k ≠ 0 → k ≠ 38 → gI (sI (sI μ 338 0 0) 338 38 0) 338 k = gI μ 338 k := fun k h1 h2 => by rw [gI_sI, if_neg (by omega), gI_sI, if_neg (by omega)]
  refine lf (a_loc [(0, .ref 338), (1, .int (nI t)), (2, .int (nI 0))] rfl) ?_
  revert hO0 e0 e38 ek
  generalize sI (sI μ 338 0 0) 338 38 0 = U
  intro hO0 e0 e38 ek
  refine wt_l (μ := U) hN hM12 (by omega) (fun k hk => hd.un (by omega) hk) (fun V hu hq => ?_) (pM q) 0 U (by omega) (MwQ.rfl' hO0.1) (hv.out hO0 (by decide) (by decide)) (fun i hi => (hO0.l (by decide) i).trans (hnm i hi)) ⟨e38, Nat.zero_le _, fun k hk => absurd hk (Nat.not_lt_zero k)⟩
  have hwV := hq.1.1
  refine lf (a_aload_n dX11_writeTrolley_95 rfl) ?_
  refine lf (a_bipush (10 : Int32) dX11_writeTrolley_96 (by decide)) ?_
  obtain ⟨v_, W98, k98, rfl, u2, q2⟩ := (m_says hwV hu (by omega) (c := 10) (by decide))
  have hw2 := q2.1.1
  refine lf (a_inv (b2 := (0, 0)) k98 rfl dX11_writeTrolley_98 yk_X11_says im_X11_says se_X11_says ml_X11_502 rfl (co_338 (by repeat (first | with_reducible exact hw | with_reducible exact hwc | with_reducible assumption | with_reducible apply Wf.sI | with_reducible apply Wf.sL | with_reducible apply Wf.cpI | with_reducible apply Wf.cpL | with_reducible apply Wf.cp2 | with_reducible apply Wf.sIs | with_reducible apply Wf.sLs | with_reducible apply Wf.cpU | with_reducible apply Wf.fillI | with_reducible apply Wf.clU | with_reducible apply Wf.dnF | with_reducible apply Wf.gbW))) (by decide) hc_X11 (by decide) (by decide) (Nat.le_of_ble_eq_true rfl)) ?_
  refine lf (a_aload_n dX11_writeTrolley_101 rfl) ?_
  refine lf (a_getI dX11_writeTrolley_102 fs_X11_499 rfl (co_338 (by repeat (first | with_reducible exact hw | with_reducible exact hwc | with_reducible assumption | with_reducible apply Wf.sI | with_reducible apply Wf.sL | with_reducible apply Wf.cpI | with_reducible apply Wf.cpL | with_reducible apply Wf.cp2 | with_reducible apply Wf.sIs | with_reducible apply Wf.sLs | with_reducible apply Wf.cpU | with_reducible apply Wf.fillI | with_reducible apply Wf.clU | with_reducible apply Wf.dnF | with_reducible apply Wf.gbW)))) ?_
  rw [u2.1]
  refine ⟨_, _, (a_ireturn dX11_writeTrolley_105 rfl rfl), ?_⟩
  exact ⟨_, rfl, rfl, u2, (hO0.trans hq.1).trans q2.1, (q2.2.1 0 (by decide)).trans ((hq.2.1 0 (by decide)).trans e0), fun k h1 h2 => (q2.2.1 k h2).trans ((hq.2.1 k h2).trans (ek k h1 h2))⟩
theorem mx_writeTrolley (hw : Wf μ) (hv : MdV μ q d) {x : Int32} (h : ixO x (pT q) = none) : CV Y_X11_writeTrolley R_X11_writeTrolley [.ref 338, .int x] μ (fun v V => v = some (.int 0) ∧ MqQ μ 1 V) := by
  have hT8 := hv.T4
  have hi : isO x (pT q) = 0 := isO_none h
  refine ⟨some (.int 0), sI μ 338 0 1, ?_, rfl, MqQ.of hw 1⟩
  refine Ct.ent yk_X11_writeTrolley (Nat.le_of_ble_eq_true rfl) ?_
  refine a_aload_n dX11_writeTrolley_0 rfl ?_
  refine a_aload_n dX11_writeTrolley_1 rfl ?_
  refine a_iload_n dX11_writeTrolley_2 rfl ?_
  refine a_inv (b2 := (0, 0)) (Ct.int hi (m_isTrolley (by repeat (first | with_reducible exact hw | with_reducible exact hwc | with_reducible assumption | with_reducible apply Wf.sI | with_reducible apply Wf.sL | with_reducible apply Wf.cpI | with_reducible apply Wf.cpL | with_reducible apply Wf.cp2 | with_reducible apply Wf.sIs | with_reducible apply Wf.sLs | with_reducible apply Wf.cpU | with_reducible apply Wf.fillI | with_reducible apply Wf.clU | with_reducible apply Wf.dnF | with_reducible apply Wf.gbW)) hv x)) rfl dX11_writeTrolley_3 yk_X11_isTrolley im_X11_isTrolley se_X11_isTrolley ml_X11_391 rfl (co_338 (by repeat (first | with_reducible exact hw | with_reducible exact hwc | with_reducible assumption | with_reducible apply Wf.sI | with_reducible apply Wf.sL | with_reducible apply Wf.cpI | with_reducible apply Wf.cpL | with_reducible apply Wf.cp2 | with_reducible apply Wf.sIs | with_reducible apply Wf.sLs | with_reducible apply Wf.cpU | with_reducible apply Wf.fillI | with_reducible apply Wf.clU | with_reducible apply Wf.dnF | with_reducible apply Wf.gbW))) (by decide) hc_X11 (by decide) (by decide) (Nat.le_of_ble_eq_true rfl) ?_
  refine a_if_eq (tgt := 13) dX11_writeTrolley_6 (by decide) (fun h6 => ?_) (fun h6 => absurd h6 (by decide))
  refine a_iconst (1 : Int32) dX11_writeTrolley_13 (by decide) ?_
  refine a_inv (b2 := (0, 0)) (m_isRefused1 (by repeat (first | with_reducible exact hw | with_reducible exact hwc | with_reducible assumption | with_reducible apply Wf.sI | with_reducible apply Wf.sL | with_reducible apply Wf.cpI | with_reducible apply Wf.cpL | with_reducible apply Wf.cp2 | with_reducible apply Wf.sIs | with_reducible apply Wf.sLs | with_reducible apply Wf.cpU | with_reducible apply Wf.fillI | with_reducible apply Wf.clU | with_reducible apply Wf.dnF | with_reducible apply Wf.gbW)) (v := 1) (by decide)) rfl dX11_writeTrolley_14 yk_X11_isRefused im_X11_isRefused se_X11_isRefused ml_X11_98 rfl (co_338 (by repeat (first | with_reducible exact hw | with_reducible exact hwc | with_reducible assumption | with_reducible apply Wf.sI | with_reducible apply Wf.sL | with_reducible apply Wf.cpI | with_reducible apply Wf.cpL | with_reducible apply Wf.cp2 | with_reducible apply Wf.sIs | with_reducible apply Wf.sLs | with_reducible apply Wf.cpU | with_reducible apply Wf.fillI | with_reducible apply Wf.clU | with_reducible apply Wf.dnF | with_reducible apply Wf.gbW))) (by decide) hc_X11 (by decide) (by decide) (Nat.le_of_ble_eq_true rfl) ?_
  refine a_if_eq (tgt := 22) dX11_writeTrolley_17 (by decide) (fun h17 => absurd h17 (by decide)) (fun h17 => ?_)
  refine a_iconst (0 : Int32) dX11_writeTrolley_20 (by decide) ?_
  exact a_out rfl rfl (a_ireturn dX11_writeTrolley_21 rfl rfl)
end MOUT
