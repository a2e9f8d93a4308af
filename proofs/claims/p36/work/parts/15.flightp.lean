section FLIGHTP
variable {μ : Wd}
/-- a number that is not negative -/
def nN (v : Int32) : Nat := v.toNatClampNeg
theorem nN_nI {n : Nat} (h : n < 2 ^ 31) : nN (nI n) = n := nI_clamp h
/-- up to n units more of meal k into trolley t, as long as there is room: how many, the world -/
def fillT (f p M k t : Nat) (tk sz : Int32) : Nat → Wd → Nat × Wd
  | 0, μ => (0, μ)
  | n + 1, μ => if tk = 0 then (0, μ) else if frV μ f p M t < sz then (0, μ) else
      ((fillT f p M k t tk sz n (sI μ (f + 5 + t) k (gI μ (f + 5 + t) k + 1))).1 + 1, (fillT f p M k t tk sz n (sI μ (f + 5 + t) k (gI μ (f + 5 + t) k + 1))).2)
/-- the same from trolley t on, d trolleys -/
def putT (f p M k : Nat) (tk : Nat → Int32) (sz : Int32) : Nat → Nat → Nat → Wd → Nat × Wd
  | 0, _, _, μ => (0, μ)
  | d + 1, t, n, μ => ((fillT f p M k t (tk t) sz n μ).1 + (putT f p M k tk sz d (t + 1) (n - (fillT f p M k t (tk t) sz n μ).1) (fillT f p M k t (tk t) sz n μ).2).1,
      (putT f p M k tk sz d (t + 1) (n - (fillT f p M k t (tk t) sz n μ).1) (fillT f p M k t (tk t) sz n μ).2).2)
/-- what a put leaves as it is -/
def PutI (f p M T k : Nat) (tk : Nat → Int32) (sz : Int32) (μ : Wd) : Prop :=
  Wf μ ∧ gR μ f 0 = some p ∧ gI μ p 3 = nI M ∧ gI μ p 5 = nI T ∧ (∀ t, adI (gI μ (p + 7 + k) 1) (gI μ (p + 19) t) = tk t) ∧ gI μ (p + 7 + k) 3 = sz
theorem PutI.inc {f p M T k : Nat} {tk : Nat → Int32} {sz : Int32} (h : PutI f p M T k tk sz μ) (hf : Fl f) (hpl : Pl p) (hk : k < 12) {t : Nat} (ht : t < 8) (v : Int32) : PutI f p M T k tk sz (sI μ (f + 5 + t) k v) := by
  obtain ⟨h1, h2, h3, h4, h5, h6⟩ := h
  have a := pf_apart hpl hf
  refine ⟨h1.sI, h2, ?_, ?_, fun q => ?_, ?_⟩
  · rw [gI_sI, if_neg (by omega)]; exact h3
  · rw [gI_sI, if_neg (by omega)]; exact h4
  · rw [gI_sI, if_neg (by omega), gI_sI, if_neg (by omega)]; exact h5 q
  · rw [gI_sI, if_neg (by omega)]; exact h6
theorem PutI.fill {f p M T k : Nat} {tk : Nat → Int32} {sz : Int32} (hf : Fl f) (hpl : Pl p) (hk : k < 12) {t : Nat} (ht : t < 8) (b : Int32) : ∀ (n : Nat) (μ : Wd), PutI f p M T k tk sz μ → PutI f p M T k tk sz (fillT f p M k t b sz n μ).2
  | 0, _, h => h
  | n + 1, μ, h => by
    unfold fillT
    split
    · exact h
    · split
      · exact h
      · exact PutI.fill hf hpl hk ht b n _ (h.inc hf hpl hk ht _)
theorem fill_le {f p M k t : Nat} {b sz : Int32} : ∀ (n : Nat) (μ : Wd), (fillT f p M k t b sz n μ).1 ≤ n
  | 0, _ => Nat.le_refl 0
  | n + 1, μ => by
    unfold fillT
    split
    · exact Nat.zero_le _
    · split
      · exact Nat.zero_le _
      · exact Nat.succ_le_succ (fill_le n _)
theorem put_le {f p M k : Nat} {tk : Nat → Int32} {sz : Int32} : ∀ (d t n : Nat) (μ : Wd), (putT f p M k tk sz d t n μ).1 ≤ n
  | 0, _, _, _ => Nat.zero_le _
  | d + 1, t, n, μ => by
    unfold putT
    have a := fill_le (f := f) (p := p) (M := M) (k := k) (t := t) (b := tk t) (sz := sz) n μ
    have b := put_le (f := f) (p := p) (M := M) (k := k) (tk := tk) (sz := sz) d (t + 1) (n - (fillT f p M k t (tk t) sz n μ).1) (fillT f p M k t (tk t) sz n μ).2
    show _ + _ ≤ n
    omega
theorem PutI.put {f p M T k : Nat} {tk : Nat → Int32} {sz : Int32} (hf : Fl f) (hpl : Pl p) (hk : k < 12) : ∀ (d t n : Nat) (μ : Wd), t + d ≤ 8 → PutI f p M T k tk sz μ → PutI f p M T k tk sz (putT f p M k tk sz d t n μ).2
  | 0, _, _, _, _, h => h
  | d + 1, t, n, μ, ht, h => by
    unfold putT
    exact PutI.put hf hpl hk d (t + 1) _ _ (by omega) (PutI.fill hf hpl hk (by omega) _ n μ h)
abbrev R_X1_put : Room := { frames := 1, cells := 0, slots := 0, locals := 23 }
abbrev RX_X1_put : Room := { frames := 1, cells := 1, slots := 6, locals := 23 }

theorem l_X1_put_51 {f p k M T n0 t : Nat} (hf : Fl f) (hpl : Pl p) (hk : k < 12) (hM4 : M ≤ 12) (hn : n0 < 2 ^ 31) (ht : t < 8) {tk : Nat → Int32} {sz : Int32} {o : Oc} {μ1 : Wd} : ∀ (n s : Nat) (μ : Wd), PutI f p M T k tk sz μ → s + n = n0 → AW Y_X1_put R_X1_put (0, 0) (fillT f p M k t (tk t) sz n μ).2 91 [(0, .ref f), (1, .int (nI k)), (2, .int (nI n0)), (3, .int (nI (s + (fillT f p M k t (tk t) sz n μ).1))), (4, .int sz), (5, .int (nI t)), (6, .int (tk t))] [] o μ1 → AW Y_X1_put R_X1_put (0, 0) μ 51 [(0, .ref f), (1, .int (nI k)), (2, .int (nI n0)), (3, .int (nI (s))), (4, .int sz), (5, .int (nI t)), (6, .int (tk t))] [] o μ1 := by
  intro n
  induction n with
  | zero =>
    intro s μ hI hs kx
    obtain rfl : s = n0 := by omega
    have kx : AW Y_X1_put R_X1_put (0, 0) μ 91 [(0, .ref f), (1, .int (nI k)), (2, .int (nI s)), (3, .int (nI (s))), (4, .int sz), (5, .int (nI t)), (6, .int (tk t))] [] o μ1 := kx
    refine a_iload dX1_put_51 rfl ?_
    refine a_if_eq (tgt := 91) dX1_put_53 (by decide) (fun h53 => ?_) (fun h53 => ?_)
    · exact a_loc _ rfl kx
    · refine a_iload_n dX1_put_56 rfl ?_
      refine a_iload_n dX1_put_57 rfl ?_
      refine a_icmp_ge (tgt := 91) dX1_put_58 (by decide) (fun h58 => ?_) (fun h58 => absurd h58 (fun q => q (nI_le (Nat.le_refl _) hn)))
      exact a_loc _ rfl kx
  | succ n ih =>
    intro s μ hI hs kx
    unfold fillT at kx
    have hI0 := hI
    obtain ⟨hw, hp, hM, hT, htk, hsz⟩ := hI
    refine a_iload dX1_put_51 rfl ?_
    refine a_if_eq (tgt := 91) dX1_put_53 (by decide) (fun h53 => ?_) (fun h53 => ?_)
    · rw [if_pos h53] at kx
      exact a_loc _ rfl kx
    · rw [if_neg h53] at kx
      refine a_iload_n dX1_put_56 rfl ?_
      refine a_iload_n dX1_put_57 rfl ?_
      refine a_icmp_ge (tgt := 91) dX1_put_58 (by decide) (fun h58 => absurd h58 (nI_ge (by omega) hn)) (fun h58 => ?_)
      refine a_aload_n dX1_put_61 rfl ?_
      refine a_iload dX1_put_62 rfl ?_
      refine a_inv (b2 := (0, 0)) (t_X1_freeSlots hw hf hpl hp hM hM4 ht) rfl dX1_put_64 yk_X1_freeSlots im_X1_freeSlots se_X1_freeSlots ml_X1_124 rfl (fl_o hw hf) (by decide) hc_X1 (by decide) (by decide) (Nat.le_of_ble_eq_true rfl) ?_
      refine a_iload dX1_put_67 rfl ?_
      refine a_icmp_lt (tgt := 91) dX1_put_69 (by decide) (fun h69 => ?_) (fun h69 => ?_)
      · have h69 : frV μ f p M t < sz := h69
        rw [if_pos h69] at kx
        exact a_loc _ rfl kx
      · have h69 : ¬ frV μ f p M t < sz := h69
        rw [if_neg h69] at kx
        refine a_aload_n dX1_put_72 rfl ?_
        refine a_getR (fl_r7 hw hf) dX1_put_73 fs_X1_27 rfl (fl_o hw hf) ?_
        refine a_iload dX1_put_76 rfl ?_
        refine a_aald (j := t) dX1_put_78 (fl_a4 hw hf) (by decide) (ixn (by omega) (by decide)) (fl_ru hw hf (by omega)) ?_
        refine a_iload_n dX1_put_79 rfl ?_
        refine a_dup2 dX1_put_80 rfl rfl ?_
        refine a_ild dX1_put_81 (fl_u hw hf (by omega)) (ixn (by omega) (by decide)) ?_
        refine a_iconst (1 : Int32) dX1_put_82 (by decide) ?_
        refine a_iadd dX1_put_83 ?_
        refine a_ist dX1_put_84 (fl_u hw hf (by omega)) (ixn (by omega) (by decide)) ?_
        refine a_iincN dX1_put_85 rfl (by decide) ?_
        refine a_goto (tgt := 51) dX1_put_88 (by decide) ?_
        exact a_loc _ rfl (ih (s + 1) _ (hI0.inc hf hpl hk ht _) (by omega) (by rw [show ∀ x, s + 1 + x = s + (x + 1) by intro x; omega]; exact kx))
theorem l_X1_put_19 {f p k M T n0 : Nat} (hf : Fl f) (hpl : Pl p) (hk : k < 12) (hM4 : M ≤ 12) (hT4 : T ≤ 8) (hn : n0 < 2 ^ 31) {tk : Nat → Int32} {sz : Int32} {o : Oc} {μ1 : Wd} : ∀ (d t n s : Nat) (μ : Wd), PutI f p M T k tk sz μ → t + d = T → s + n = n0 → AW Y_X1_put R_X1_put (0, 0) (putT f p M k tk sz d t n μ).2 97 [(0, .ref f), (1, .int (nI k)), (2, .int (nI n0)), (3, .int (nI (s + (putT f p M k tk sz d t n μ).1))), (4, .int sz), (5, .int (nI (T)))] [] o μ1 → AW Y_X1_put R_X1_put (0, 0) μ 19 [(0, .ref f), (1, .int (nI k)), (2, .int (nI n0)), (3, .int (nI (s))), (4, .int sz), (5, .int (nI (t)))] [] o μ1 := by
  intro d
  induction d with
  | zero =>
    intro t n s μ hI ht hs kx
    obtain rfl : t = T := by omega
    obtain ⟨hw, hp, hM, hT, htk, hsz⟩ := hI
    have kx : AW Y_X1_put R_X1_put (0, 0) μ 97 [(0, .ref f), (1, .int (nI k)), (2, .int (nI n0)), (3, .int (nI (s))), (4, .int sz), (5, .int (nI (t)))] [] o μ1 := kx
    refine a_iload dX1_put_19 rfl ?_
    refine a_aload_n dX1_put_21 rfl ?_
    refine a_getR hp dX1_put_22 fs_X1_9 rfl (fl_o hw hf) ?_
    refine a_getI dX1_put_25 fs_X1_118 rfl (pl_o hw hpl) ?_
    rw [hT]
    refine a_icmp_ge (tgt := 97) dX1_put_28 (by decide) (fun h28 => ?_) (fun h28 => absurd h28 (fun q => q (nI_le (Nat.le_refl _) (by omega))))
    exact a_loc _ rfl kx
  | succ d ih =>
    intro t n s μ hI ht hs kx
    unfold putT at kx
    have hI0 := hI
    obtain ⟨hw, hp, hM, hT, htk, hsz⟩ := hI
    refine a_iload dX1_put_19 rfl ?_
    refine a_aload_n dX1_put_21 rfl ?_
    refine a_getR hp dX1_put_22 fs_X1_9 rfl (fl_o hw hf) ?_
    refine a_getI dX1_put_25 fs_X1_118 rfl (pl_o hw hpl) ?_
    rw [hT]
    refine a_icmp_ge (tgt := 97) dX1_put_28 (by decide) (fun h28 => absurd h28 (nI_ge (by omega) (by omega))) (fun h28 => ?_)
    refine a_aload_n dX1_put_31 rfl ?_
    refine a_getR hp dX1_put_32 fs_X1_9 rfl (fl_o hw hf) ?_
    refine a_aload_n dX1_put_35 rfl ?_
    refine a_getR hp dX1_put_36 fs_X1_9 rfl (fl_o hw hf) ?_
    refine a_getR (pl_r6 hw hpl) dX1_put_39 fs_X1_121 rfl (pl_o hw hpl) ?_
    refine a_iload dX1_put_42 rfl ?_
    refine a_ild dX1_put_44 (pl_a19 hw hpl) (ixn (by omega) (by decide)) ?_
    refine a_iload_n dX1_put_45 rfl ?_
    refine a_inv (b2 := (0, 0)) (t_X7_admits hw hpl (gI μ (p + 19) t) hk) rfl dX1_put_46 yk_X7_admits im_X7_admits se_X7_admits ml_X1_141 rfl (pl_o hw hpl) (by decide) hc_X7 (by decide) (by decide) (Nat.le_of_ble_eq_true rfl) ?_
    rw [htk]
    refine a_istore dX1_put_49 (by decide) ?_
    refine a_loc [(0, .ref f), (1, .int (nI k)), (2, .int (nI n0)), (3, .int (nI (s))), (4, .int sz), (5, .int (nI t)), (6, .int (tk t))] rfl (l_X1_put_51 hf hpl hk hM4 hn (by omega) n s μ hI0 hs ?_)
    have fl := fill_le (f := f) (p := p) (M := M) (k := k) (t := t) (b := tk t) (sz := sz) n μ
    refine a_iincN dX1_put_91 rfl (by decide) ?_
    refine a_goto (tgt := 19) dX1_put_94 (by decide) ?_
    exact a_loc _ rfl (ih (t + 1) (n - (fillT f p M k t (tk t) sz n μ).1) (s + (fillT f p M k t (tk t) sz n μ).1) _ (PutI.fill hf hpl hk (by omega) _ n μ hI0) (by omega) (by omega) (by rw [Nat.add_assoc]; exact kx))
/-- n units more of meal k -/
def putW (f p M T k n : Nat) (μ : Wd) : Nat × Wd := putT f p M k (fun t => adI (gI μ (p + 7 + k) 1) (gI μ (p + 19) t)) (gI μ (p + 7 + k) 3) T 0 n μ
theorem putI_of {f p M T k : Nat} (hw : Wf μ) (hp : gR μ f 0 = some p) (hM : gI μ p 3 = nI M) (hT : gI μ p 5 = nI T) : PutI f p M T k (fun t => adI (gI μ (p + 7 + k) 1) (gI μ (p + 19) t)) (gI μ (p + 7 + k) 3) μ := ⟨hw, hp, hM, hT, fun _ => rfl, rfl⟩
theorem t_X1_put (hw : Wf μ) {f p : Nat} (hf : Fl f) (hpl : Pl p) (hp : gR μ f 0 = some p) {M : Nat} (hM : gI μ p 3 = nI M) (hM4 : M ≤ 12) {T : Nat} (hT : gI μ p 5 = nI T) (hT4 : T ≤ 8) {k n : Nat} (hk : k < 12) (hn : n < 2 ^ 31) : Ct Y_X1_put R_X1_put [.ref f, .int (nI k), .int (nI n)] μ (.inl (some (.int (nI (putW f p M T k n μ).1)))) ((putW f p M T k n μ).2) := by
  refine Ct.ent yk_X1_put (Nat.le_of_ble_eq_true rfl) ?_
  refine a_iconst (0 : Int32) dX1_put_0 (by decide) ?_
  refine a_istore_n dX1_put_1 (by decide) ?_
  refine a_aload_n dX1_put_2 rfl ?_
  refine a_getR hp dX1_put_3 fs_X1_9 rfl (fl_o hw hf) ?_
  refine a_getR (pl_r4 hw hpl) dX1_put_6 fs_X1_109 rfl (pl_o hw hpl) ?_
  refine a_iload_n dX1_put_9 rfl ?_
  refine a_aald (j := k) dX1_put_10 (pl_a6 hw hpl) (by decide) (ixn (by omega) (by decide)) (pl_rm hw hpl (by omega)) ?_
  refine a_getI dX1_put_11 fs_X1_113 rfl (pl_m hw hpl (by omega)) ?_
  refine a_istore dX1_put_14 (by decide) ?_
  refine a_iconst (0 : Int32) dX1_put_16 (by decide) ?_
  refine a_istore dX1_put_17 (by decide) ?_
  refine a_loc [(0, .ref f), (1, .int (nI k)), (2, .int (nI n)), (3, .int (nI 0)), (4, .int (gI μ (p + 7 + k) 3)), (5, .int (nI 0))] rfl (l_X1_put_19 hf hpl hk hM4 hT4 hn T 0 n 0 μ (putI_of hw hp hM hT) (by omega) (by omega) ?_)
  rw [Nat.zero_add]
  exact a_out rfl rfl (a_iload_n dX1_put_97 rfl (a_ireturn dX1_put_98 rfl rfl))
end FLIGHTP
