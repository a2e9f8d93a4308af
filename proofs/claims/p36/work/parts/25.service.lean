section SERVICE
variable {μ : Wd} {W : Wd} {p f : Nat} {q : PDt} {d : FDt}
abbrev sV : Nat → Prop := fun i => 334 ≤ i ∧ i ≤ 337
theorem sV_hi : ∀ i, sV i → 323 ≤ i := fun i h => Nat.le_trans (by decide) h.1
/-- the meal of which most is left: step, result -/
def mlS (q : PDt) (rs : Nat → Nat) (c : Int32) (m : Nat) (a : Option Nat) : Option Nat := if pF q 2 m = c then (match a with
  | none => if rs m ≤ 0 then none else some m
  | some b => if rs m ≤ rs b then some b else some m) else a
def mlD (q : PDt) (rs : Nat → Nat) (c : Int32) (M : Nat) : Option Nat := itN (mlS q rs c) none M
theorem mlD_lt {q : PDt} {rs : Nat → Nat} {c : Int32} : ∀ {M b : Nat}, mlD q rs c M = some b → b < M ∧ 0 < rs b ∧ pF q 2 b = c
  | 0, b, h => nomatch h
  | M + 1, b, h => by
    have ih := fun b => mlD_lt (q := q) (rs := rs) (c := c) (M := M) (b := b)
    unfold mlD at h ih
    rw [itN_succ] at h
    generalize itN (mlS q rs c) none M = a at h ih
    unfold mlS at h
    split at h
    · cases a with
      | none =>
        simp only at h
        split at h
        · exact nomatch h
        · injection h with h; subst h; exact ⟨by omega, by omega, by assumption⟩
      | some e =>
        have := ih e rfl
        simp only at h
        split at h
        · injection h with h; subst h; exact ⟨by omega, this.2⟩
        · injection h with h; subst h; exact ⟨by omega, by omega, by assumption⟩
    · have := ih b h; exact ⟨by omega, this.2⟩
theorem mlD_congr {q : PDt} {rs rs' : Nat → Nat} {c : Int32} {M : Nat} (h : ∀ m, m < M → rs m = rs' m) : mlD q rs c M = mlD q rs' c M := by
  have hb : ∀ M', M' ≤ M → mlD q rs c M' = mlD q rs' c M' := by
    intro M'
    induction M' with
    | zero => intro _; rfl
    | succ n ih =>
      intro hn
      have e := ih (by omega)
      have l := fun b => mlD_lt (q := q) (rs := rs') (c := c) (M := n) (b := b)
      unfold mlD at e l ⊢
      rw [itN_succ, itN_succ, e]
      generalize itN (mlS q rs' c) none n = a at l ⊢
      unfold mlS
      cases a with
      | none => simp only [h n (by omega)]
      | some b => simp only [h n (by omega), h b (by have := l b rfl; omega)]
  exact hb M (Nat.le_refl M)
/-- what a plain passenger gets; one more served; all -/
def plX (q : PDt) (d : FDt) (rs : Nat → Nat) (i : Nat) : Option Nat := if dF d 2 i = -1 then mlD q rs (dF d 0 i) (pM q) else if rs (nN (dF d 2 i)) ≤ 0 then mlD q rs (dF d 0 i) (pM q) else some (nN (dF d 2 i))
def deR (rs : Nat → Nat) (x : Option Nat) : Nat → Nat := match x with
  | none => rs
  | some m => up1 rs m (rs m - 1)
def plS (q : PDt) (d : FDt) (i : Nat) (s : (Nat → Option Nat) × (Nat → Nat)) : (Nat → Option Nat) × (Nat → Nat) := if dF d 1 i = 0 then (up1 s.1 i (plX q d s.2 i), deR s.2 (plX q d s.2 i)) else s
def svD (q : PDt) (d : FDt) (g : Nat → Option Nat) (rs : Nat → Nat) (n : Nat) : (Nat → Option Nat) × (Nat → Nat) := itN (plS q d) (g, rs) n
/-- the service's rows -/
def SvV (W : Wd) (k M : Nat) (G : Nat → Option Nat) (rs ea : Nat → Nat) (fed wm : Nat) : Prop :=
  (∀ i, i < k → gI W 335 i = oI (G i)) ∧ (∀ m, m < M → gI W 336 m = nI (rs m) ∧ gI W 337 m = nI (ea m)) ∧ gI W 334 4 = nI fed ∧ gI W 334 7 = nI wm
/-- one is given a meal -/
def gvW (μ : Wd) (i : Nat) (x : Option Nat) : Wd := match x with
  | none => sI μ 335 i (-1)
  | some m => sI (sI (sI (sI μ 335 i (nI m)) 336 m (gI μ 336 m - 1)) 337 m (gI μ 337 m + 1)) 334 4 (gI μ 334 4 + 1)
abbrev R_X8_give : Room := { frames := 0, cells := 0, slots := 0, locals := 0 }
abbrev RX_X8_give : Room := { frames := 0, cells := 1, slots := 6, locals := 0 }

theorem t_X8_give (hw : Wf μ) {i : Nat} (hi : i < 40) {x : Option Nat} (hx : ∀ m, x = some m → m < 12) : Ct Y_X8_give R_X8_give [.ref 334, .int (nI i), .int (oI x)] μ (.inl none) (gvW μ i x) := by
  refine Ct.ent yk_X8_give (Nat.le_of_ble_eq_true rfl) ?_
  cases x with
  | none =>
    refine a_aload_n dX8_give_0 rfl ?_
    refine a_getR (cr_334_0 (by repeat (first | with_reducible exact hw | with_reducible exact hwc | with_reducible assumption | with_reducible apply Wf.sI | with_reducible apply Wf.sL | with_reducible apply Wf.cpI | with_reducible apply Wf.cpL | with_reducible apply Wf.cp2 | with_reducible apply Wf.sIs | with_reducible apply Wf.sLs | with_reducible apply Wf.cpU | with_reducible apply Wf.fillI | with_reducible apply Wf.clU | with_reducible apply Wf.dnF | with_reducible apply Wf.gbW))) dX8_give_1 fs_X8_9 rfl (co_334 (by repeat (first | with_reducible exact hw | with_reducible exact hwc | with_reducible assumption | with_reducible apply Wf.sI | with_reducible apply Wf.sL | with_reducible apply Wf.cpI | with_reducible apply Wf.cpL | with_reducible apply Wf.cp2 | with_reducible apply Wf.sIs | with_reducible apply Wf.sLs | with_reducible apply Wf.cpU | with_reducible apply Wf.fillI | with_reducible apply Wf.clU | with_reducible apply Wf.dnF | with_reducible apply Wf.gbW))) ?_
    refine a_iload_n dX8_give_4 rfl ?_
    refine a_iload_n dX8_give_5 rfl ?_
    refine a_ist dX8_give_6 (ca_335 (by repeat (first | with_reducible exact hw | with_reducible exact hwc | with_reducible assumption | with_reducible apply Wf.sI | with_reducible apply Wf.sL | with_reducible apply Wf.cpI | with_reducible apply Wf.cpL | with_reducible apply Wf.cp2 | with_reducible apply Wf.sIs | with_reducible apply Wf.sLs | with_reducible apply Wf.cpU | with_reducible apply Wf.fillI | with_reducible apply Wf.clU | with_reducible apply Wf.dnF | with_reducible apply Wf.gbW))) (ixn hi (by decide)) ?_
    refine a_iload_n dX8_give_7 rfl ?_
    refine a_iconst (-1 : Int32) dX8_give_8 (by decide) ?_
    refine a_icmp_eq (tgt := 42) dX8_give_9 (by decide) (fun h9 => ?_) (fun h9 => absurd h9 (fun z => z rfl))
    exact a_out rfl rfl (a_return dX8_give_42 rfl)
  | some m =>
    have hm := hx m rfl
    rw [show oI (some m) = nI m from rfl]
    refine a_aload_n dX8_give_0 rfl ?_
    refine a_getR (cr_334_0 (by repeat (first | with_reducible exact hw | with_reducible exact hwc | with_reducible assumption | with_reducible apply Wf.sI | with_reducible apply Wf.sL | with_reducible apply Wf.cpI | with_reducible apply Wf.cpL | with_reducible apply Wf.cp2 | with_reducible apply Wf.sIs | with_reducible apply Wf.sLs | with_reducible apply Wf.cpU | with_reducible apply Wf.fillI | with_reducible apply Wf.clU | with_reducible apply Wf.dnF | with_reducible apply Wf.gbW))) dX8_give_1 fs_X8_9 rfl (co_334 (by repeat (first | with_reducible exact hw | with_reducible exact hwc | with_reducible assumption | with_reducible apply Wf.sI | with_reducible apply Wf.sL | with_reducible apply Wf.cpI | with_reducible apply Wf.cpL | with_reducible apply Wf.cp2 | with_reducible apply Wf.sIs | with_reducible apply Wf.sLs | with_reducible apply Wf.cpU | with_reducible apply Wf.fillI | with_reducible apply Wf.clU | with_reducible apply Wf.dnF | with_reducible apply Wf.gbW))) ?_
    refine a_iload_n dX8_give_4 rfl ?_
    refine a_iload_n dX8_give_5 rfl ?_
    refine a_ist dX8_give_6 (ca_335 (by repeat (first | with_reducible exact hw | with_reducible exact hwc | with_reducible assumption | with_reducible apply Wf.sI | with_reducible apply Wf.sL | with_reducible apply Wf.cpI | with_reducible apply Wf.cpL | with_reducible apply Wf.cp2 | with_reducible apply Wf.sIs | with_reducible apply Wf.sLs | with_reducible apply Wf.cpU | with_reducible apply Wf.fillI | with_reducible apply Wf.clU | with_reducible apply Wf.dnF | with_reducible apply Wf.gbW))) (ixn hi (by decide)) ?_
    refine a_iload_n dX8_give_7 rfl ?_
    refine a_iconst (-1 : Int32) dX8_give_8 (by decide) ?_
    refine a_icmp_eq (tgt := 42) dX8_give_9 (by decide) (fun h9 => absurd h9 (nI_ne1 (by omega))) (fun h9 => ?_)
    refine a_aload_n dX8_give_12 rfl ?_
    refine a_getR (cr_334_1 (by repeat (first | with_reducible exact hw | with_reducible exact hwc | with_reducible assumption | with_reducible apply Wf.sI | with_reducible apply Wf.sL | with_reducible apply Wf.cpI | with_reducible apply Wf.cpL | with_reducible apply Wf.cp2 | with_reducible apply Wf.sIs | with_reducible apply Wf.sLs | with_reducible apply Wf.cpU | with_reducible apply Wf.fillI | with_reducible apply Wf.clU | with_reducible apply Wf.dnF | with_reducible apply Wf.gbW))) dX8_give_13 fs_X8_15 rfl (co_334 (by repeat (first | with_reducible exact hw | with_reducible exact hwc | with_reducible assumption | with_reducible apply Wf.sI | with_reducible apply Wf.sL | with_reducible apply Wf.cpI | with_reducible apply Wf.cpL | with_reducible apply Wf.cp2 | with_reducible apply Wf.sIs | with_reducible apply Wf.sLs | with_reducible apply Wf.cpU | with_reducible apply Wf.fillI | with_reducible apply Wf.clU | with_reducible apply Wf.dnF | with_reducible apply Wf.gbW))) ?_
    refine a_iload_n dX8_give_16 rfl ?_
    refine a_dup2 dX8_give_17 rfl rfl ?_
    refine a_ild dX8_give_18 (ca_336 (by repeat (first | with_reducible exact hw | with_reducible exact hwc | with_reducible assumption | with_reducible apply Wf.sI | with_reducible apply Wf.sL | with_reducible apply Wf.cpI | with_reducible apply Wf.cpL | with_reducible apply Wf.cp2 | with_reducible apply Wf.sIs | with_reducible apply Wf.sLs | with_reducible apply Wf.cpU | with_reducible apply Wf.fillI | with_reducible apply Wf.clU | with_reducible apply Wf.dnF | with_reducible apply Wf.gbW))) (ixn hm (by decide)) ?_
    rw [gI_sI, if_neg (by omega)]
    refine a_iconst (1 : Int32) dX8_give_19 (by decide) ?_
    refine a_isub dX8_give_20 ?_
    refine a_ist dX8_give_21 (ca_336 (by repeat (first | with_reducible exact hw | with_reducible exact hwc | with_reducible assumption | with_reducible apply Wf.sI | with_reducible apply Wf.sL | with_reducible apply Wf.cpI | with_reducible apply Wf.cpL | with_reducible apply Wf.cp2 | with_reducible apply Wf.sIs | with_reducible apply Wf.sLs | with_reducible apply Wf.cpU | with_reducible apply Wf.fillI | with_reducible apply Wf.clU | with_reducible apply Wf.dnF | with_reducible apply Wf.gbW))) (ixn hm (by decide)) ?_
    refine a_aload_n dX8_give_22 rfl ?_
    refine a_getR (cr_334_2 (by repeat (first | with_reducible exact hw | with_reducible exact hwc | with_reducible assumption | with_reducible apply Wf.sI | with_reducible apply Wf.sL | with_reducible apply Wf.cpI | with_reducible apply Wf.cpL | with_reducible apply Wf.cp2 | with_reducible apply Wf.sIs | with_reducible apply Wf.sLs | with_reducible apply Wf.cpU | with_reducible apply Wf.fillI | with_reducible apply Wf.clU | with_reducible apply Wf.dnF | with_reducible apply Wf.gbW))) dX8_give_23 fs_X8_18 rfl (co_334 (by repeat (first | with_reducible exact hw | with_reducible exact hwc | with_reducible assumption | with_reducible apply Wf.sI | with_reducible apply Wf.sL | with_reducible apply Wf.cpI | with_reducible apply Wf.cpL | with_reducible apply Wf.cp2 | with_reducible apply Wf.sIs | with_reducible apply Wf.sLs | with_reducible apply Wf.cpU | with_reducible apply Wf.fillI | with_reducible apply Wf.clU | with_reducible apply Wf.dnF | with_reducible apply Wf.gbW))) ?_
    refine a_iload_n dX8_give_26 rfl ?_
    refine a_dup2 dX8_give_27 rfl rfl ?_
    refine a_ild dX8_give_28 (ca_337 (by repeat (first | with_reducible exact hw | with_reducible exact hwc | with_reducible assumption | with_reducible apply Wf.sI | with_reducible apply Wf.sL | with_reducible apply Wf.cpI | with_reducible apply Wf.cpL | with_reducible apply Wf.cp2 | with_reducible apply Wf.sIs | with_reducible apply Wf.sLs | with_reducible apply Wf.cpU | with_reducible apply Wf.fillI | with_reducible apply Wf.clU | with_reducible apply Wf.dnF | with_reducible apply Wf.gbW))) (ixn hm (by decide)) ?_
    rw [gI_sI, if_neg (by omega), gI_sI, if_neg (by omega)]
    refine a_iconst (1 : Int32) dX8_give_29 (by decide) ?_
    refine a_iadd dX8_give_30 ?_
    refine a_ist dX8_give_31 (ca_337 (by repeat (first | with_reducible exact hw | with_reducible exact hwc | with_reducible assumption | with_reducible apply Wf.sI | with_reducible apply Wf.sL | with_reducible apply Wf.cpI | with_reducible apply Wf.cpL | with_reducible apply Wf.cp2 | with_reducible apply Wf.sIs | with_reducible apply Wf.sLs | with_reducible apply Wf.cpU | with_reducible apply Wf.fillI | with_reducible apply Wf.clU | with_reducible apply Wf.dnF | with_reducible apply Wf.gbW))) (ixn hm (by decide)) ?_
    refine a_aload_n dX8_give_32 rfl ?_
    refine a_dup dX8_give_33 rfl ?_
    refine a_getI dX8_give_34 fs_X8_21 rfl (co_334 (by repeat (first | with_reducible exact hw | with_reducible exact hwc | with_reducible assumption | with_reducible apply Wf.sI | with_reducible apply Wf.sL | with_reducible apply Wf.cpI | with_reducible apply Wf.cpL | with_reducible apply Wf.cp2 | with_reducible apply Wf.sIs | with_reducible apply Wf.sLs | with_reducible apply Wf.cpU | with_reducible apply Wf.fillI | with_reducible apply Wf.clU | with_reducible apply Wf.dnF | with_reducible apply Wf.gbW))) ?_
    rw [gI_sI, if_neg (by omega), gI_sI, if_neg (by omega), gI_sI, if_neg (by omega)]
    refine a_iconst (1 : Int32) dX8_give_37 (by decide) ?_
    refine a_iadd dX8_give_38 ?_
    refine a_putI dX8_give_39 fs_X8_21 rfl rfl rfl (co_334 (by repeat (first | with_reducible exact hw | with_reducible exact hwc | with_reducible assumption | with_reducible apply Wf.sI | with_reducible apply Wf.sL | with_reducible apply Wf.cpI | with_reducible apply Wf.cpL | with_reducible apply Wf.cp2 | with_reducible apply Wf.sIs | with_reducible apply Wf.sLs | with_reducible apply Wf.cpU | with_reducible apply Wf.fillI | with_reducible apply Wf.clU | with_reducible apply Wf.dnF | with_reducible apply Wf.gbW))) ?_
    exact a_out rfl rfl (a_return dX8_give_42 rfl)
theorem Out.gv {S : Nat → Prop} (h : Out S μ W) (h4 : S 334) (h5 : S 335) (h6 : S 336) (h7 : S 337) (i : Nat) (x : Option Nat) : Out S μ (gvW W i x) := by
  cases x with
  | none => exact h.sI h5 _ _
  | some m => exact (((h.sI h5 _ _).sI h6 _ _).sI h7 _ _).sI h4 _ _
theorem SvV.gv {k M fed wm : Nat} {G : Nat → Option Nat} {rs ea : Nat → Nat} (h : SvV W k M G rs ea fed wm) (i : Nat) {x : Option Nat} (hx : ∀ m, x = some m → m < M ∧ 0 < rs m) {k2 : Nat} (hk : ∀ j, j < k2 → j ≠ i → j < k) :
    SvV (gvW W i x) k2 M (up1 G i x) (deR rs x) (fun m => ea m + if x = some m then 1 else 0) (fed + if x.isSome then 1 else 0) wm := by
  cases x with
  | none =>
    refine ⟨fun j hj => ?_, fun m hm => ?_, ?_, ?_⟩
    · show gI (sI W 335 i (-1)) 335 j = _
      rw [gI_sI]
      by_cases e : j = i
      · subst e; rw [if_pos ⟨rfl, rfl⟩, up1_eq]; rfl
      · rw [if_neg (fun z => e z.2), up1_ne e]; exact h.1 j (hk j hj e)
    · show gI (sI W 335 i (-1)) 336 m = _ ∧ gI (sI W 335 i (-1)) 337 m = _
      rw [gI_sI, if_neg (by omega), gI_sI, if_neg (by omega)]
      exact h.2.1 m hm
    · show gI (sI W 335 i (-1)) 334 4 = _
      rw [gI_sI, if_neg (by omega)]; exact h.2.2.1
    · show gI (sI W 335 i (-1)) 334 7 = _
      rw [gI_sI, if_neg (by omega)]; exact h.2.2.2
  | some n =>
    obtain ⟨hn, hr⟩ := hx n rfl
    obtain ⟨c, hc⟩ : ∃ c, rs n = c + 1 := ⟨rs n - 1, by omega⟩
    have e6 : gI W 336 n - 1 = nI (rs n - 1) := by rw [(h.2.1 n hn).1, hc, nI_pred]; rfl
    have e7 : gI W 337 n + 1 = nI (ea n + 1) := by rw [(h.2.1 n hn).2, nI_succ]
    have e4 : gI W 334 4 + 1 = nI (fed + 1) := by rw [h.2.2.1, nI_succ]
    show SvV (sI (sI (sI (sI W 335 i (nI n)) 336 n (gI W 336 n - 1)) 337 n (gI W 337 n + 1)) 334 4 (gI W 334 4 + 1)) k2 M (up1 G i (some n)) (up1 rs n (rs n - 1)) _ _ wm
    rw [e6, e7, e4]
    refine ⟨fun j hj => ?_, fun m hm => ⟨?_, ?_⟩, ?_, ?_⟩
    · rw [gI_sI, if_neg (by omega), gI_sI, if_neg (by omega), gI_sI, if_neg (by omega), gI_sI]
      by_cases e : j = i
      · subst e; rw [if_pos ⟨rfl, rfl⟩, up1_eq]; rfl
      · rw [if_neg (fun z => e z.2), up1_ne e]; exact h.1 j (hk j hj e)
    · rw [gI_sI, if_neg (by omega), gI_sI, if_neg (by omega), gI_sI]
      by_cases e : m = n
      · subst e; rw [if_pos ⟨rfl, rfl⟩, up1_eq]
      · rw [if_neg (fun z => e z.2), up1_ne e, gI_sI, if_neg (by omega)]; exact (h.2.1 m hm).1
    · show gI _ 337 m = nI (ea m + if some n = some m then 1 else 0)
      rw [gI_sI, if_neg (by omega), gI_sI]
      by_cases e : m = n
      · subst e; rw [if_pos ⟨rfl, rfl⟩, if_pos rfl]
      · rw [if_neg (fun z => e z.2), if_neg (show ¬ some n = some m from fun z => by injection z with z; exact e z.symm), gI_sI, if_neg (by omega), gI_sI, if_neg (by omega)]; exact (h.2.1 m hm).2
    · rw [gI_sI, if_pos ⟨rfl, rfl⟩]; rfl
    · rw [gI_sI, if_neg (by omega), gI_sI, if_neg (by omega), gI_sI, if_neg (by omega), gI_sI, if_neg (by omega)]; exact h.2.2.2
theorem Wf.gvW (hw : Wf W) {i : Nat} {x : Option Nat} : Wf (gvW W i x) := by
  cases x with
  | none => exact hw.sI
  | some m => exact hw.sI.sI.sI.sI
abbrev R_X8_mostLeft : Room := { frames := 0, cells := 0, slots := 0, locals := 0 }
abbrev RX_X8_mostLeft : Room := { frames := 0, cells := 1, slots := 6, locals := 0 }

theorem l_X8_mostLeft_5 (hw : Wf μ) (hq : PV μ p q) {rs : Nat → Nat} (hrs : ∀ m, m < pM q → gI μ 336 m = nI (rs m)) (hrb : ∀ m, m < pM q → rs m < 2 ^ 30) (c : Int32) {o : Oc} {μ1 : Wd} (kx : AW Y_X8_mostLeft R_X8_mostLeft (0, 0) μ 62 [(0, .ref 334), (1, .ref p), (2, .int c), (3, .int (oI (mlD q rs c (pM q)))), (4, .int (nI (pM q)))] [] o μ1) : ∀ dd m, m + dd = pM q → AW Y_X8_mostLeft R_X8_mostLeft (0, 0) μ 5 [(0, .ref 334), (1, .ref p), (2, .int c), (3, .int (oI (mlD q rs c m))), (4, .int (nI m))] [] o μ1 := by
  have hM4 := hq.M4
  have hp := hq.pl
  intro dd
  induction dd with
  | zero =>
    intro m hm
    obtain rfl : pM q = m := by omega
    refine a_iload dX8_mostLeft_5 rfl ?_
    refine a_aload_n dX8_mostLeft_7 rfl ?_
    refine a_getI dX8_mostLeft_8 fs_X8_40 rfl (pl_o hw hp) ?_
    rw [hq.hM]
    refine a_icmp_ge (tgt := 62) dX8_mostLeft_11 (by decide) (fun h11 => ?_) (fun h11 => absurd h11 (fun z => z (nI_le (Nat.le_refl _) (by omega))))
    exact a_loc _ rfl kx
  | succ dd ih =>
    intro m hm
    have z := ih (m + 1) (by omega)
    have hlt : ∀ b, mlD q rs c m = some b → b < m := fun b e => (mlD_lt e).1
    have hbm := hrb m (by omega)
    unfold mlD at z hlt ⊢
    rw [itN_succ] at z
    generalize itN (mlS q rs c) none m = a at z hlt ⊢
    unfold mlS at z
    cases a with
    | none =>
      refine a_iload dX8_mostLeft_5 rfl ?_
      refine a_aload_n dX8_mostLeft_7 rfl ?_
      refine a_getI dX8_mostLeft_8 fs_X8_40 rfl (pl_o hw hp) ?_
      rw [hq.hM]
      refine a_icmp_ge (tgt := 62) dX8_mostLeft_11 (by decide) (fun h11 => absurd h11 (nI_ge (by omega) (by omega))) (fun h11 => ?_)
      refine a_aload_n dX8_mostLeft_14 rfl ?_
      refine a_getR (pl_r4 hw hp) dX8_mostLeft_15 fs_X8_80 rfl (pl_o hw hp) ?_
      refine a_iload dX8_mostLeft_18 rfl ?_
      refine a_aald (j := m) dX8_mostLeft_20 (pl_a6 hw hp) (by decide) (ixn (by omega) (by decide)) (pl_rm hw hp (by omega)) ?_
      refine a_getI dX8_mostLeft_21 fs_X8_84 rfl (pl_m hw hp (by omega)) ?_
      rw [hq.m1 (by omega)]
      refine a_iload_n dX8_mostLeft_24 rfl ?_
      refine a_icmp_ne (tgt := 56) dX8_mostLeft_25 (by decide) (fun h25 => ?_) (fun h25 => ?_)
      · rw [if_neg h25] at z
        refine a_iincN dX8_mostLeft_56 rfl (by decide) ?_
        refine a_goto (tgt := 5) dX8_mostLeft_59 (by decide) ?_
        exact a_loc _ rfl z
      · rw [if_pos h25] at z
        dsimp only at z
        refine a_aload_n dX8_mostLeft_28 rfl ?_
        refine a_getR (cr_334_1 hw) dX8_mostLeft_29 fs_X8_15 rfl (co_334 hw) ?_
        refine a_iload dX8_mostLeft_32 rfl ?_
        refine a_ild dX8_mostLeft_34 (ca_336 hw) (ixn (show m < 12 by omega) (by decide)) ?_
        rw [hrs m (by omega)]
        refine a_iload_n dX8_mostLeft_35 rfl ?_
        refine a_iconst (-1 : Int32) dX8_mostLeft_36 (by decide) ?_
        refine a_icmp_ne (tgt := 44) dX8_mostLeft_37 (by decide) (fun h37 => absurd h37 (fun z => z rfl)) (fun h37 => ?_)
        refine a_iconst (0 : Int32) dX8_mostLeft_40 (by decide) ?_
        refine a_goto (tgt := 50) dX8_mostLeft_41 (by decide) ?_
        refine a_icmp_le (tgt := 56) dX8_mostLeft_50 (by decide) (fun h50 => ?_) (fun h50 => ?_)
        · rw [if_pos (show rs m ≤ 0 from (nI_leI (b := 0) (by omega) (by decide)).mp h50)] at z
          refine a_iincN dX8_mostLeft_56 rfl (by decide) ?_
          refine a_goto (tgt := 5) dX8_mostLeft_59 (by decide) ?_
          exact a_loc _ rfl z
        · rw [if_neg (show ¬ rs m ≤ 0 from fun e => h50 ((nI_leI (b := 0) (by omega) (by decide)).mpr e))] at z
          refine a_iload dX8_mostLeft_53 rfl ?_
          refine a_istore_n dX8_mostLeft_55 (by decide) ?_
          refine a_iincN dX8_mostLeft_56 rfl (by decide) ?_
          refine a_goto (tgt := 5) dX8_mostLeft_59 (by decide) ?_
          exact a_loc _ rfl z
    | some b =>
      have hb : b < m := hlt b rfl
      have hbb := hrb b (by omega)
      rw [show oI (some b) = nI b from rfl]
      refine a_iload dX8_mostLeft_5 rfl ?_
      refine a_aload_n dX8_mostLeft_7 rfl ?_
      refine a_getI dX8_mostLeft_8 fs_X8_40 rfl (pl_o hw hp) ?_
      rw [hq.hM]
      refine a_icmp_ge (tgt := 62) dX8_mostLeft_11 (by decide) (fun h11 => absurd h11 (nI_ge (by omega) (by omega))) (fun h11 => ?_)
      refine a_aload_n dX8_mostLeft_14 rfl ?_
      refine a_getR (pl_r4 hw hp) dX8_mostLeft_15 fs_X8_80 rfl (pl_o hw hp) ?_
      refine a_iload dX8_mostLeft_18 rfl ?_
      refine a_aald (j := m) dX8_mostLeft_20 (pl_a6 hw hp) (by decide) (ixn (by omega) (by decide)) (pl_rm hw hp (by omega)) ?_
      refine a_getI dX8_mostLeft_21 fs_X8_84 rfl (pl_m hw hp (by omega)) ?_
      rw [hq.m1 (by omega)]
      refine a_iload_n dX8_mostLeft_24 rfl ?_
      refine a_icmp_ne (tgt := 56) dX8_mostLeft_25 (by decide) (fun h25 => ?_) (fun h25 => ?_)
      · rw [if_neg h25] at z
        refine a_iincN dX8_mostLeft_56 rfl (by decide) ?_
        refine a_goto (tgt := 5) dX8_mostLeft_59 (by decide) ?_
        exact a_loc _ rfl z
      · rw [if_pos h25] at z
        dsimp only at z
        refine a_aload_n dX8_mostLeft_28 rfl ?_
        refine a_getR (cr_334_1 hw) dX8_mostLeft_29 fs_X8_15 rfl (co_334 hw) ?_
        refine a_iload dX8_mostLeft_32 rfl ?_
        refine a_ild dX8_mostLeft_34 (ca_336 hw) (ixn (show m < 12 by omega) (by decide)) ?_
        rw [hrs m (by omega)]
        refine a_iload_n dX8_mostLeft_35 rfl ?_
        refine a_iconst (-1 : Int32) dX8_mostLeft_36 (by decide) ?_
        refine a_icmp_ne (tgt := 44) dX8_mostLeft_37 (by decide) (fun h37 => ?_) (fun h37 => absurd h37 (nI_ne1 (by omega)))
        refine a_aload_n dX8_mostLeft_44 rfl ?_
        refine a_getR (cr_334_1 hw) dX8_mostLeft_45 fs_X8_15 rfl (co_334 hw) ?_
        refine a_iload_n dX8_mostLeft_48 rfl ?_
        refine a_ild dX8_mostLeft_49 (ca_336 hw) (ixn (show b < 12 by omega) (by decide)) ?_
        rw [hrs b (by omega)]
        refine a_icmp_le (tgt := 56) dX8_mostLeft_50 (by decide) (fun h50 => ?_) (fun h50 => ?_)
        · rw [if_pos (show rs m ≤ rs b from (nI_leI (by omega) (by omega)).mp h50)] at z
          refine a_iincN dX8_mostLeft_56 rfl (by decide) ?_
          refine a_goto (tgt := 5) dX8_mostLeft_59 (by decide) ?_
          exact a_loc _ rfl z
        · rw [if_neg (show ¬ rs m ≤ rs b from fun e => h50 ((nI_leI (by omega) (by omega)).mpr e))] at z
          refine a_iload dX8_mostLeft_53 rfl ?_
          refine a_istore_n dX8_mostLeft_55 (by decide) ?_
          refine a_iincN dX8_mostLeft_56 rfl (by decide) ?_
          refine a_goto (tgt := 5) dX8_mostLeft_59 (by decide) ?_
          exact a_loc _ rfl z
theorem t_X8_mostLeft (hw : Wf μ) (hq : PV μ p q) {rs : Nat → Nat} (hrs : ∀ m, m < pM q → gI μ 336 m = nI (rs m)) (hrb : ∀ m, m < pM q → rs m < 2 ^ 30) (c : Int32) : Ct Y_X8_mostLeft R_X8_mostLeft [.ref 334, .ref p, .int c] μ (.inl (some (.int (oI (mlD q rs c (pM q)))))) μ := by
  refine Ct.ent yk_X8_mostLeft (Nat.le_of_ble_eq_true rfl) ?_
  refine a_iconst (-1 : Int32) dX8_mostLeft_0 (by decide) ?_
  refine a_istore_n dX8_mostLeft_1 (by decide) ?_
  refine a_iconst (0 : Int32) dX8_mostLeft_2 (by decide) ?_
  refine a_istore dX8_mostLeft_3 (by decide) ?_
  refine a_loc [(0, .ref 334), (1, .ref p), (2, .int c), (3, .int (oI (mlD q rs c 0))), (4, .int (nI 0))] rfl ?_
  refine l_X8_mostLeft_5 hw hq hrs hrb c ?_ (pM q) 0 (by omega)
  exact a_out rfl rfl (a_iload_n dX8_mostLeft_62 rfl (a_ireturn dX8_mostLeft_63 rfl rfl))
end SERVICE
