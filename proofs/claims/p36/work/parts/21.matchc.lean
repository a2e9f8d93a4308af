section MATCHC
variable {μ : Wd} {p f : Nat} {q : PDt} {d : FDt} {W : Wd}
abbrev sM : Nat → Prop := fun i => 327 ≤ i ∧ i ≤ 333
theorem sM_hi : ∀ i, sM i → 323 ≤ i := fun i h => Nat.le_trans (by decide) h.1
theorem oI_inj {a b : Option Nat} (ha : ∀ m, a = some m → m < 2 ^ 31) (hb : ∀ m, b = some m → m < 2 ^ 31) (h : oI a = oI b) : a = b := by
  cases a with
  | none =>
    cases b with
    | none => rfl
    | some y => exact absurd h.symm (nI_ne1 (hb y rfl))
  | some x =>
    cases b with
    | none => exact absurd h (nI_ne1 (ha x rfl))
    | some y => exact congrArg some ((nI_eqI (ha x rfl) (hb y rfl)).mp h)
/-- the matching's rows: people, meals, what suits, who has what, what is free -/
def MtV (μ : Wd) (P M : Nat) (su : Nat → Int32) (g : Nat → Option Nat) (fr : Nat → Nat) : Prop :=
  gI μ 327 0 = nI P ∧ gI μ 327 1 = nI M ∧ (∀ p, p < P → gI μ 328 p = su p) ∧ (∀ p, p < P → gI μ 329 p = oI (g p)) ∧ ∀ m, m < M → gI μ 330 m = nI (fr m)
/-- a matching with its accounts -/
def GA (su : Nat → Int32) (cap : Nat → Nat) (P M : Nat) (g : Nat → Option Nat) (fr : Nat → Nat) : Prop :=
  (∀ p m, p < P → g p = some m → m < M ∧ bt (su p) m = true) ∧ ∀ m, m < M → cntG g P m + fr m = cap m
section
variable {P M : Nat} {su : Nat → Int32} {g : Nat → Option Nat} {fr : Nat → Nat} {cap : Nat → Nat}
theorem MtV.hP (h : MtV μ P M su g fr) : gI μ 327 0 = nI P := h.1
theorem MtV.hM (h : MtV μ P M su g fr) : gI μ 327 1 = nI M := h.2.1
theorem MtV.hsu (h : MtV μ P M su g fr) {p : Nat} (hp : p < P) : gI μ 328 p = su p := h.2.2.1 p hp
theorem MtV.hgo (h : MtV μ P M su g fr) {p : Nat} (hp : p < P) : gI μ 329 p = oI (g p) := h.2.2.2.1 p hp
theorem MtV.hfr (h : MtV μ P M su g fr) {m : Nat} (hm : m < M) : gI μ 330 m = nI (fr m) := h.2.2.2.2 m hm
theorem MtV.setG (h : MtV μ P M su g fr) (p : Nat) (v : Option Nat) : MtV (sI μ 329 p (oI v)) P M su (up1 g p v) fr :=
  ⟨by rw [gI_sI, if_neg (by omega)]; exact h.1, by rw [gI_sI, if_neg (by omega)]; exact h.2.1, fun x hx => by rw [gI_sI, if_neg (by omega)]; exact h.hsu hx, fun x hx => by
    rw [gI_sI]
    unfold up1
    by_cases e : x = p
    · rw [if_pos ⟨rfl, e⟩, if_pos e]
    · rw [if_neg (fun z => e z.2), if_neg e]; exact h.hgo hx, fun x hx => by rw [gI_sI, if_neg (by omega)]; exact h.hfr hx⟩
theorem MtV.setF (h : MtV μ P M su g fr) (m x : Nat) : MtV (sI μ 330 m (nI x)) P M su g (up1 fr m x) :=
  ⟨by rw [gI_sI, if_neg (by omega)]; exact h.1, by rw [gI_sI, if_neg (by omega)]; exact h.2.1, fun x hx => by rw [gI_sI, if_neg (by omega)]; exact h.hsu hx, fun x hx => by rw [gI_sI, if_neg (by omega)]; exact h.hgo hx, fun y hy => by
    rw [gI_sI]
    unfold up1
    by_cases e : y = m
    · rw [if_pos ⟨rfl, e⟩, if_pos e]
    · rw [if_neg (fun z => e z.2), if_neg e]; exact h.hfr hy⟩
theorem MtV.of (h : MtV μ P M su g fr) (h0 : gI W 327 0 = gI μ 327 0) (h1 : gI W 327 1 = gI μ 327 1) (h2 : ∀ i, 328 ≤ i → i ≤ 330 → ∀ k, gI W i k = gI μ i k) : MtV W P M su g fr :=
  ⟨h0.trans h.1, h1.trans h.2.1, fun p hp => (h2 328 (by decide) (by decide) p).trans (h.hsu hp), fun p hp => (h2 329 (by decide) (by decide) p).trans (h.hgo hp), fun m hm => (h2 330 (by decide) (by decide) m).trans (h.hfr hm)⟩

abbrev R_X4_findMover : Room := { frames := 0, cells := 0, slots := 0, locals := 0 }
abbrev RX_X4_findMover : Room := { frames := 0, cells := 1, slots := 6, locals := 0 }

theorem l_X4_findMover_3 (hw : Wf μ) (hV : MtV μ P M su g fr) (hP : P ≤ 40) (hg : ∀ p m, p < P → g p = some m → m < 12) {h : Option Nat} (hh : ∀ m, h = some m → m < 12) {t : Nat} (ht : t < 12) (x : Int32) : ∀ d a, a + d = P → AW Y_X4_findMover R_X4_findMover (0, 0) μ 3 [(0, .ref 327), (1, .int x), (2, .int (oI h)), (3, .int (nI t)), (4, .int (nI a))] [] (.inl (some (.int (oI (fstF (fun p => decide (g p = h) && bt (su p) t) d a))))) μ := by
  intro d
  induction d with
  | zero =>
    intro a ha
    obtain rfl : a = P := by omega
    refine a_iload dX4_findMover_3 rfl ?_
    refine a_aload_n dX4_findMover_5 rfl ?_
    refine a_getI dX4_findMover_6 fs_X4_36 rfl (co_327 hw) ?_
    rw [hV.hP]
    refine a_icmp_ge (tgt := 47) dX4_findMover_9 (by decide) (fun h9 => ?_) (fun h9 => absurd h9 (fun z => z (nI_le (Nat.le_refl _) (by omega))))
    refine a_iconst (-1 : Int32) dX4_findMover_47 (by decide) ?_
    exact a_out rfl rfl (a_ireturn dX4_findMover_48 rfl rfl)
  | succ d ih =>
    intro a ha
    have z := ih (a + 1) (by omega)
    have hlt : ∀ m, g a = some m → m < 2 ^ 31 := fun m e => Nat.lt_trans (hg a m (by omega) e) (by decide)
    unfold fstF
    refine a_iload dX4_findMover_3 rfl ?_
    refine a_aload_n dX4_findMover_5 rfl ?_
    refine a_getI dX4_findMover_6 fs_X4_36 rfl (co_327 hw) ?_
    rw [hV.hP]
    refine a_icmp_ge (tgt := 47) dX4_findMover_9 (by decide) (fun h9 => absurd h9 (nI_ge (by omega) (by omega))) (fun h9 => ?_)
    refine a_aload_n dX4_findMover_12 rfl ?_
    refine a_getR (cr_327_3 hw) dX4_findMover_13 fs_X4_15 rfl (co_327 hw) ?_
    refine a_iload dX4_findMover_16 rfl ?_
    refine a_ild dX4_findMover_18 (ca_329 hw) (ixn (show a < 40 by omega) (by decide)) ?_
    rw [hV.hgo (by omega)]
    refine a_iload_n dX4_findMover_19 rfl ?_
    refine a_icmp_ne (tgt := 41) dX4_findMover_20 (by decide) (fun h20 => ?_) (fun h20 => ?_)
    · rw [if_neg (show ¬ (decide (g a = h) && bt (su a) t) = true by rw [decide_eq_false (fun e => h20 (congrArg oI e))]; exact Bool.false_ne_true)]
      refine a_iincN dX4_findMover_41 rfl (by decide) ?_
      refine a_goto (tgt := 3) dX4_findMover_44 (by decide) ?_
      exact a_loc _ rfl z
    · have e20 : g a = h := oI_inj hlt (fun m e => Nat.lt_trans (hh m e) (by decide)) h20
      refine a_aload_n dX4_findMover_23 rfl ?_
      refine a_getR (cr_327_2 hw) dX4_findMover_24 fs_X4_9 rfl (co_327 hw) ?_
      refine a_iload dX4_findMover_27 rfl ?_
      refine a_ild dX4_findMover_29 (ca_328 hw) (ixn (show a < 40 by omega) (by decide)) ?_
      rw [hV.hsu (by omega)]
      refine a_iload_n dX4_findMover_30 rfl ?_
      refine a_ishr dX4_findMover_31 ?_
      refine a_iconst (1 : Int32) dX4_findMover_32 (by decide) ?_
      refine a_iand dX4_findMover_33 ?_
      refine a_iconst (1 : Int32) dX4_findMover_34 (by decide) ?_
      refine a_icmp_ne (tgt := 41) dX4_findMover_35 (by decide) (fun h35 => ?_) (fun h35 => ?_)
      · rw [if_neg (show ¬ (decide (g a = h) && bt (su a) t) = true by rw [Bool.eq_false_iff.mpr (fun e => h35 ((b_test (su a) (show t < 32 by omega)).mpr e)), Bool.and_false]; exact Bool.false_ne_true)]
        refine a_iincN dX4_findMover_41 rfl (by decide) ?_
        refine a_goto (tgt := 3) dX4_findMover_44 (by decide) ?_
        exact a_loc _ rfl z
      · rw [if_pos (show (decide (g a = h) && bt (su a) t) = true by rw [decide_eq_true e20, (b_test (su a) (show t < 32 by omega)).mp h35]; rfl)]
        refine a_iload dX4_findMover_38 rfl ?_
        exact a_out rfl rfl (a_ireturn dX4_findMover_40 rfl rfl)
theorem t_X4_findMover (hw : Wf μ) (hV : MtV μ P M su g fr) (hP : P ≤ 40) (hg : ∀ p m, p < P → g p = some m → m < 12) {h : Option Nat} (hh : ∀ m, h = some m → m < 12) {t : Nat} (ht : t < 12) {a : Nat} (ha : a ≤ P) : Ct Y_X4_findMover R_X4_findMover [.ref 327, .int (nI a), .int (oI h), .int (nI t)] μ (.inl (some (.int (oI (fstF (fun p => decide (g p = h) && bt (su p) t) (P - a) a))))) μ := by
  refine Ct.ent yk_X4_findMover (Nat.le_of_ble_eq_true rfl) ?_
  refine a_iload_n dX4_findMover_0 rfl ?_
  refine a_istore dX4_findMover_1 (by decide) ?_
  exact a_loc [(0, .ref 327), (1, .int (nI a)), (2, .int (oI h)), (3, .int (nI t)), (4, .int (nI a))] rfl (l_X4_findMover_3 hw hV hP hg hh ht _ (P - a) a (by omega))
abbrev R_X4_giveBack : Room := { frames := 0, cells := 0, slots := 0, locals := 0 }
abbrev RX_X4_giveBack : Room := { frames := 0, cells := 1, slots := 6, locals := 0 }

/-- one unit back -/
def gbW (μ : Wd) (o : Option Nat) : Wd := match o with
  | none => μ
  | some m => sI μ 330 m (gI μ 330 m + 1)
theorem t_X4_giveBack (hw : Wf μ) {o : Option Nat} (ho : ∀ m, o = some m → m < 12) : Ct Y_X4_giveBack R_X4_giveBack [.ref 327, .int (oI o)] μ (.inl none) (gbW μ o) := by
  refine Ct.ent yk_X4_giveBack (Nat.le_of_ble_eq_true rfl) ?_
  cases o with
  | none =>
    refine a_iload_n dX4_giveBack_0 rfl ?_
    refine a_iconst (-1 : Int32) dX4_giveBack_1 (by decide) ?_
    refine a_icmp_eq (tgt := 15) dX4_giveBack_2 (by decide) (fun h2 => ?_) (fun h2 => absurd h2 (fun z => z rfl))
    exact a_out rfl rfl (a_return dX4_giveBack_15 rfl)
  | some m =>
    have hm := ho m rfl
    refine a_iload_n dX4_giveBack_0 rfl ?_
    refine a_iconst (-1 : Int32) dX4_giveBack_1 (by decide) ?_
    refine a_icmp_eq (tgt := 15) dX4_giveBack_2 (by decide) (fun h2 => absurd h2 (nI_ne1 (by omega))) (fun h2 => ?_)
    refine a_aload_n dX4_giveBack_5 rfl ?_
    refine a_getR (cr_327_4 hw) dX4_giveBack_6 fs_X4_18 rfl (co_327 hw) ?_
    refine a_iload_n dX4_giveBack_9 rfl ?_
    refine a_dup2 dX4_giveBack_10 rfl rfl ?_
    refine a_ild dX4_giveBack_11 (ca_330 hw) (ixn hm (by decide)) ?_
    refine a_iconst (1 : Int32) dX4_giveBack_12 (by decide) ?_
    refine a_iadd dX4_giveBack_13 ?_
    refine a_ist dX4_giveBack_14 (ca_330 hw) (ixn hm (by decide)) ?_
    exact a_out rfl rfl (a_return dX4_giveBack_15 rfl)
/-- the queue: what has been seen, how many, the queue, where each came from -/
def QV (W : Wd) (M : Nat) (sn : Int32) (n : Nat) (qf : Nat → Nat) (og : Nat → Option Nat) : Prop :=
  gI W 327 9 = sn ∧ gI W 327 8 = nI n ∧ n = fb_ct (fun m => bt sn m) M ∧ (∀ i, i < n → gI W 333 i = nI (qf i) ∧ qf i < M ∧ bt sn (qf i) = true) ∧
  (∀ m, m < M → bt sn m = true → gI W 332 m = oI (og m) ∧ ∃ i, i < n ∧ qf i = m) ∧ ∀ i j, i < j → j < n → qf i ≠ qf j
abbrev sQ : Nat → Prop := fun i => i = 327 ∨ i = 332 ∨ i = 333
/-- only the queue has changed -/
def OutR (μ W : Wd) : Prop := Out sQ μ W ∧ ∀ k, k ≠ 8 → k ≠ 9 → gI W 327 k = gI μ 327 k
theorem OutR.rfl' (hw : Wf μ) : OutR μ μ := ⟨Out.rfl' hw, fun _ _ _ => rfl⟩
theorem OutR.trans {V : Wd} (h1 : OutR μ W) (h2 : OutR W V) : OutR μ V := ⟨h1.1.trans h2.1, fun k a b => (h2.2 k a b).trans (h1.2 k a b)⟩
theorem OutR.mt (h : OutR μ W) (hV : MtV μ P M su g fr) : MtV W P M su g fr := hV.of (h.2 0 (by decide) (by decide)) (h.2 1 (by decide) (by decide)) fun i a b k => h.1.i (by simp only [sQ]; omega) k
theorem OutR.mv (h : OutR μ W) (k : Nat) : gI W 331 k = gI μ 331 k := h.1.i (by simp only [sQ]; omega) k
theorem OutR.sM (h : OutR μ W) : Out sM μ W := h.1.mono fun i z => by rcases z with e | e | e <;> subst e <;> exact ⟨by decide, by decide⟩
/-- one more in the queue -/
theorem OutR.push {x : Int32} {n m : Nat} {v : Int32} (h : OutR μ W) : OutR μ (sI (sI (sI (sI W 327 9 x) 332 m v) 333 n (nI m)) 327 8 (nI (n + 1))) :=
  ⟨((((h.1.sI (Or.inl rfl) _ _).sI (Or.inr (Or.inl rfl)) _ _).sI (Or.inr (Or.inr rfl)) _ _).sI (Or.inl rfl) _ _), fun k a b => by
    rw [gI_sI, if_neg (by omega), gI_sI, if_neg (by omega), gI_sI, if_neg (by omega), gI_sI, if_neg (by omega)]
    exact h.2 k a b⟩
theorem QV.push {sn : Int32} {n : Nat} {qf : Nat → Nat} {og : Nat → Option Nat} (h : QV W M sn n qf og) (hM : M ≤ 12) {m : Nat} (hm : m < M) (hs : bt sn m = false) (v : Option Nat) :
    QV (sI (sI (sI (sI W 327 9 (sn ||| ((1 : Int32) <<< (nI m &&& 31)))) 332 m (oI v)) 333 n (nI m)) 327 8 (nI (n + 1))) M (sn ||| ((1 : Int32) <<< (nI m &&& 31))) (n + 1) (up1 qf n m) (up1 og m v) ∧ n < M := by
  obtain ⟨h1, h2, h3, h4, h5, h6⟩ := h
  have hb : ∀ j, j < 32 → bt (sn ||| ((1 : Int32) <<< (nI m &&& 31))) j = if j = m then true else bt sn j := fun j hj => by
    rw [b_or, b_bit m (by omega) hj]
    by_cases e : j = m
    · rw [if_pos e, decide_eq_true e, Bool.or_true]
    · rw [if_neg e, decide_eq_false e, Bool.or_false]
  have hc : fb_ct (fun j => bt (sn ||| ((1 : Int32) <<< (nI m &&& 31))) j) M = n + 1 := by
    have u := fb_ct_upd (fun j => bt sn j) true (i := m) (n := M) hm
    rw [if_neg (show ¬ bt sn m = true by rw [hs]; exact Bool.false_ne_true), if_pos rfl] at u
    rw [h3, ← u]
    exact fb_ct_cong fun k hk => hb k (by omega)
  have hn : n < M := by
    have := fb_ct_le (fun j => bt (sn ||| ((1 : Int32) <<< (nI m &&& 31))) j) M
    omega
  refine ⟨⟨?_, ?_, hc.symm, fun i hi => ?_, fun j hj hj2 => ?_, fun i j hij hj => ?_⟩, hn⟩
  · rw [gI_sI, if_neg (by omega), gI_sI, if_neg (by omega), gI_sI, if_neg (by omega), gI_sI, if_pos ⟨rfl, rfl⟩]
  · rw [gI_sI, if_pos ⟨rfl, rfl⟩]
  · rw [gI_sI, if_neg (by omega), gI_sI]
    unfold up1
    by_cases e : i = n
    · rw [if_pos ⟨rfl, e⟩, if_pos e]
      exact ⟨rfl, hm, by rw [hb m (by omega), if_pos rfl]⟩
    · rw [if_neg (fun z => e z.2), if_neg e, gI_sI, if_neg (by omega), gI_sI, if_neg (by omega)]
      obtain ⟨a, b, c⟩ := h4 i (by omega)
      refine ⟨a, b, ?_⟩
      rw [hb _ (by omega), c]
      split <;> rfl
  · rw [hb j (by omega)] at hj2
    rw [gI_sI, if_neg (by omega), gI_sI, if_neg (by omega), gI_sI]
    unfold up1
    by_cases e : j = m
    · rw [if_pos ⟨rfl, e⟩, if_pos e]
      exact ⟨rfl, n, by omega, by rw [if_pos rfl, e]⟩
    · rw [if_neg e] at hj2
      rw [if_neg (fun z => e z.2), if_neg e, gI_sI, if_neg (by omega)]
      obtain ⟨a, i, b, c⟩ := h5 j hj hj2
      exact ⟨a, i, by omega, by rw [if_neg (by omega), c]⟩
  · unfold up1
    rw [if_neg (show ¬ i = n by omega)]
    by_cases e : j = n
    · rw [if_pos e]
      intro z
      have := (h4 i (by omega)).2.2
      rw [z, hs] at this
      exact absurd this Bool.false_ne_true
    · rw [if_neg e]
      exact h6 i j hij (by omega)
/-- what a reach has done ahead of meal k -/
def ReQ (M : Nat) (sn0 : Int32) (n0 : Nat) (qf0 : Nat → Nat) (og0 : Nat → Option Nat) (x : Int32) (h : Option Nat) (k : Nat) (W : Wd) : Prop :=
  ∃ (sn : Int32) (n : Nat) (qf : Nat → Nat) (og : Nat → Option Nat), QV W M sn n qf og ∧ (∀ j, j < M → bt sn j = (bt sn0 j || (decide (j < k) && bt x j))) ∧ n0 ≤ n ∧ (∀ i, i < n0 → qf i = qf0 i) ∧ (∀ j, j < M → bt sn0 j = true → og j = og0 j) ∧
    ∀ i, n0 ≤ i → i < n → og (qf i) = h ∧ bt x (qf i) = true ∧ bt sn0 (qf i) = false

abbrev R_X4_reach : Room := { frames := 0, cells := 0, slots := 0, locals := 0 }
abbrev RX_X4_reach : Room := { frames := 0, cells := 1, slots := 6, locals := 0 }

theorem l_X4_reach_2 (hM1 : gI μ 327 1 = nI M) (hM : M ≤ 12) {sn0 : Int32} {n0 : Nat} {qf0 : Nat → Nat} {og0 : Nat → Option Nat} {x : Int32} {h : Option Nat} {Q : Oc → Wd → Prop} (kx : ∀ W : Wd, (OutR μ W ∧ ReQ M sn0 n0 qf0 og0 x h M W) → WP Y_X4_reach R_X4_reach (0, 0) W 71 [(0, .ref 327), (1, .int x), (2, .int (oI h)), (3, .int (nI M))] [] Q) : ∀ dd m (W : Wd), m + dd = M → (OutR μ W ∧ ReQ M sn0 n0 qf0 og0 x h m W) → WP Y_X4_reach R_X4_reach (0, 0) W 2 [(0, .ref 327), (1, .int x), (2, .int (oI h)), (3, .int (nI m))] [] Q := by
  intro dd
  induction dd with
  | zero =>
    intro m W hm hI
    obtain rfl : M = m := by omega
    have hw := hI.1.1.1
    have hM2 : gI W 327 1 = nI M := (hI.1.2 1 (by decide) (by decide)).trans hM1
    refine lf (a_iload_n dX4_reach_2 rfl) ?_
    refine lf (a_aload_n dX4_reach_3 rfl) ?_
    refine lf (a_getI dX4_reach_4 fs_X4_48 rfl (co_327 hw)) ?_
    rw [hM2]
    refine lf2 (a_icmp_ge (tgt := 71) dX4_reach_7 (by decide)) (fun h7 => ?_) (fun h7 => absurd h7 (fun z => z (nI_le (Nat.le_refl _) (by omega))))
    exact lf (a_loc _ rfl) (kx W hI)
  | succ dd ih =>
    intro m W hm hI
    have hw := hI.1.1.1
    have hM2 : gI W 327 1 = nI M := (hI.1.2 1 (by decide) (by decide)).trans hM1
    obtain ⟨hO, sn, n, qf, og, hq, hs, hn, hf0, ho, hw2⟩ := hI
    have hm12 : m < 12 := by omega
    have hsm := hs m (by omega)
    rw [decide_eq_false (Nat.lt_irrefl m), Bool.false_and, Bool.or_false] at hsm
    have ht : ((x &&& (sn ^^^ -1)) >>> (nI m &&& 31)) &&& 1 = 1 ↔ bt x m = true ∧ bt sn m = false := by
      rw [b_test _ (by omega), b_and, b_not sn (by omega)]
      cases bt x m <;> cases bt sn m <;> simp
    refine lf (a_iload_n dX4_reach_2 rfl) ?_
    refine lf (a_aload_n dX4_reach_3 rfl) ?_
    refine lf (a_getI dX4_reach_4 fs_X4_48 rfl (co_327 (by repeat (first | with_reducible exact hw | with_reducible exact hwc | with_reducible assumption | with_reducible apply Wf.sI | with_reducible apply Wf.sL | with_reducible apply Wf.cpI | with_reducible apply Wf.cpL | with_reducible apply Wf.cp2 | with_reducible apply Wf.sIs | with_reducible apply Wf.sLs | with_reducible apply Wf.cpU | with_reducible apply Wf.fillI | with_reducible apply Wf.clU | with_reducible apply Wf.dnF | with_reducible apply Wf.gbW)))) ?_
    rw [hM2]
    refine lf2 (a_icmp_ge (tgt := 71) dX4_reach_7 (by decide)) (fun h7 => absurd h7 (nI_ge (by omega) (by omega))) (fun h7 => ?_)
    refine lf (a_iload_n dX4_reach_10 rfl) ?_
    refine lf (a_aload_n dX4_reach_11 rfl) ?_
    refine lf (a_getI dX4_reach_12 fs_X4_88 rfl (co_327 (by repeat (first | with_reducible exact hw | with_reducible exact hwc | with_reducible assumption | with_reducible apply Wf.sI | with_reducible apply Wf.sL | with_reducible apply Wf.cpI | with_reducible apply Wf.cpL | with_reducible apply Wf.cp2 | with_reducible apply Wf.sIs | with_reducible apply Wf.sLs | with_reducible apply Wf.cpU | with_reducible apply Wf.fillI | with_reducible apply Wf.clU | with_reducible apply Wf.dnF | with_reducible apply Wf.gbW)))) ?_
    rw [hq.1]
    refine lf (a_iconst (-1 : Int32) dX4_reach_15 (by decide)) ?_
    refine lf (a_ixor dX4_reach_16) ?_
    refine lf (a_iand dX4_reach_17) ?_
    refine lf (a_iload_n dX4_reach_18 rfl) ?_
    refine lf (a_ishr dX4_reach_19) ?_
    refine lf (a_iconst (1 : Int32) dX4_reach_20 (by decide)) ?_
    refine lf (a_iand dX4_reach_21) ?_
    refine lf (a_iconst (1 : Int32) dX4_reach_22 (by decide)) ?_
    refine lfn (a_icmp_ne (tgt := 65) dX4_reach_23 (by decide)) (fun h23 => ?_) (fun h23 => ?_)
    · have hno : ¬ (bt x m = true ∧ bt sn m = false) := fun z => h23 (ht.mpr z)
      refine lf (a_iincN dX4_reach_65 rfl (by decide)) ?_
      refine lf (a_goto (tgt := 2) dX4_reach_68 (by decide)) ?_
      first
      | exact lf (a_loc _ rfl) (ih (m + 1) _ (by omega) ⟨hO, sn, n, qf, og, hq, fun j hj => by
          rw [hs j hj]
          by_cases e : j = m
          · subst e
            rw [hsm] at hno
            rw [decide_eq_false (Nat.lt_irrefl j), decide_eq_true (Nat.lt_succ_self j)]
            cases e1 : bt x j <;> cases e2 : bt sn0 j <;> simp_all
          · rw [show decide (j < m) = decide (j < m + 1) from decide_eq_decide.mpr (by omega)], hn, hf0, ho, hw2⟩)
      | exact lf (a_loc _ rfl) (ih (m + 1) _ (by omega) ⟨hO.push, _, _, _, _, hp.1, fun j hj => by
          rw [b_or, b_bit m (by omega) (by omega), hs j hj]
          by_cases e : j = m
          · subst e
            rw [decide_eq_true rfl, Bool.or_true, decide_eq_true (Nat.lt_succ_self j), hx]; simp
          · rw [decide_eq_false e, Bool.or_false, show decide (j < m) = decide (j < m + 1) from decide_eq_decide.mpr (by omega)], by omega, fun i hi => by rw [up1_ne (by omega)]; exact hf0 i hi, fun j hj e => by
            have : j ≠ m := by rintro rfl; rw [← hsm, hsf] at e; exact absurd e Bool.false_ne_true
            rw [up1_ne this]; exact ho j hj e, fun i h1 h2 => by
            by_cases e : i = n
            · subst e
              rw [up1_eq, up1_eq]
              exact ⟨rfl, hx, by rw [← hsm]; exact hsf⟩
            · have h3 := hw2 i h1 (by omega)
              have h4 := (hq.2.2.2.1 i (by omega)).2.2
              have : qf i ≠ m := by intro z; rw [z, hsf] at h4; exact absurd h4 Bool.false_ne_true
              rw [up1_ne e, up1_ne this]
              exact h3⟩)
    · obtain ⟨hx, hsf⟩ := ht.mp h23
      have hp := hq.push hM (show m < M by omega) hsf h
      refine lf (a_aload_n dX4_reach_26 rfl) ?_
      refine lf (a_dup dX4_reach_27 rfl) ?_
      refine lf (a_getI dX4_reach_28 fs_X4_88 rfl (co_327 (by repeat (first | with_reducible exact hw | with_reducible exact hwc | with_reducible assumption | with_reducible apply Wf.sI | with_reducible apply Wf.sL | with_reducible apply Wf.cpI | with_reducible apply Wf.cpL | with_reducible apply Wf.cp2 | with_reducible apply Wf.sIs | with_reducible apply Wf.sLs | with_reducible apply Wf.cpU | with_reducible apply Wf.fillI | with_reducible apply Wf.clU | with_reducible apply Wf.dnF | with_reducible apply Wf.gbW)))) ?_
      rw [hq.1]
      refine lf (a_iconst (1 : Int32) dX4_reach_31 (by decide)) ?_
      refine lf (a_iload_n dX4_reach_32 rfl) ?_
      refine lf (a_ishl dX4_reach_33) ?_
      refine lf (a_ior dX4_reach_34) ?_
      refine lf (a_putI dX4_reach_35 fs_X4_88 rfl rfl rfl (co_327 (by repeat (first | with_reducible exact hw | with_reducible exact hwc | with_reducible assumption | with_reducible apply Wf.sI | with_reducible apply Wf.sL | with_reducible apply Wf.cpI | with_reducible apply Wf.cpL | with_reducible apply Wf.cp2 | with_reducible apply Wf.sIs | with_reducible apply Wf.sLs | with_reducible apply Wf.cpU | with_reducible apply Wf.fillI | with_reducible apply Wf.clU | with_reducible apply Wf.dnF | with_reducible apply Wf.gbW)))) ?_
      refine lf (a_aload_n dX4_reach_38 rfl) ?_
      refine lf (a_getR (cr_327_6 (by repeat (first | with_reducible exact hw | with_reducible exact hwc | with_reducible assumption | with_reducible apply Wf.sI | with_reducible apply Wf.sL | with_reducible apply Wf.cpI | with_reducible apply Wf.cpL | with_reducible apply Wf.cp2 | with_reducible apply Wf.sIs | with_reducible apply Wf.sLs | with_reducible apply Wf.cpU | with_reducible apply Wf.fillI | with_reducible apply Wf.clU | with_reducible apply Wf.dnF | with_reducible apply Wf.gbW))) dX4_reach_39 fs_X4_24 rfl (co_327 (by repeat (first | with_reducible exact hw | with_reducible exact hwc | with_reducible assumption | with_reducible apply Wf.sI | with_reducible apply Wf.sL | with_reducible apply Wf.cpI | with_reducible apply Wf.cpL | with_reducible apply Wf.cp2 | with_reducible apply Wf.sIs | with_reducible apply Wf.sLs | with_reducible apply Wf.cpU | with_reducible apply Wf.fillI | with_reducible apply Wf.clU | with_reducible apply Wf.dnF | with_reducible apply Wf.gbW)))) ?_
      refine lf (a_iload_n dX4_reach_42 rfl) ?_
      refine lf (a_iload_n dX4_reach_43 rfl) ?_
      refine lf (a_ist dX4_reach_44 (ca_332 (by repeat (first | with_reducible exact hw | with_reducible exact hwc | with_reducible assumption | with_reducible apply Wf.sI | with_reducible apply Wf.sL | with_reducible apply Wf.cpI | with_reducible apply Wf.cpL | with_reducible apply Wf.cp2 | with_reducible apply Wf.sIs | with_reducible apply Wf.sLs | with_reducible apply Wf.cpU | with_reducible apply Wf.fillI | with_reducible apply Wf.clU | with_reducible apply Wf.dnF | with_reducible apply Wf.gbW))) (ixn (by omega) (by decide))) ?_
      refine lf (a_aload_n dX4_reach_45 rfl) ?_
      refine lf (a_getR (cr_327_7 (by repeat (first | with_reducible exact hw | with_reducible exact hwc | with_reducible assumption | with_reducible apply Wf.sI | with_reducible apply Wf.sL | with_reducible apply Wf.cpI | with_reducible apply Wf.cpL | with_reducible apply Wf.cp2 | with_reducible apply Wf.sIs | with_reducible apply Wf.sLs | with_reducible apply Wf.cpU | with_reducible apply Wf.fillI | with_reducible apply Wf.clU | with_reducible apply Wf.dnF | with_reducible apply Wf.gbW))) dX4_reach_46 fs_X4_27 rfl (co_327 (by repeat (first | with_reducible exact hw | with_reducible exact hwc | with_reducible assumption | with_reducible apply Wf.sI | with_reducible apply Wf.sL | with_reducible apply Wf.cpI | with_reducible apply Wf.cpL | with_reducible apply Wf.cp2 | with_reducible apply Wf.sIs | with_reducible apply Wf.sLs | with_reducible apply Wf.cpU | with_reducible apply Wf.fillI | with_reducible apply Wf.clU | with_reducible apply Wf.dnF | with_reducible apply Wf.gbW)))) ?_
      refine lf (a_aload_n dX4_reach_49 rfl) ?_
      refine lf (a_getI dX4_reach_50 fs_X4_85 rfl (co_327 (by repeat (first | with_reducible exact hw | with_reducible exact hwc | with_reducible assumption | with_reducible apply Wf.sI | with_reducible apply Wf.sL | with_reducible apply Wf.cpI | with_reducible apply Wf.cpL | with_reducible apply Wf.cp2 | with_reducible apply Wf.sIs | with_reducible apply Wf.sLs | with_reducible apply Wf.cpU | with_reducible apply Wf.fillI | with_reducible apply Wf.clU | with_reducible apply Wf.dnF | with_reducible apply Wf.gbW)))) ?_
      rw [gI_sI, if_neg (by omega), gI_sI, if_neg (by omega), hq.2.1]
      refine lf (a_iload_n dX4_reach_53 rfl) ?_
      refine lf (a_ist dX4_reach_54 (ca_333 (by repeat (first | with_reducible exact hw | with_reducible exact hwc | with_reducible assumption | with_reducible apply Wf.sI | with_reducible apply Wf.sL | with_reducible apply Wf.cpI | with_reducible apply Wf.cpL | with_reducible apply Wf.cp2 | with_reducible apply Wf.sIs | with_reducible apply Wf.sLs | with_reducible apply Wf.cpU | with_reducible apply Wf.fillI | with_reducible apply Wf.clU | with_reducible apply Wf.dnF | with_reducible apply Wf.gbW))) (ixn (show n < 12 by have := hp.2; omega) (by decide))) ?_
      refine lf (a_aload_n dX4_reach_55 rfl) ?_
      refine lf (a_dup dX4_reach_56 rfl) ?_
      refine lf (a_getI dX4_reach_57 fs_X4_85 rfl (co_327 (by repeat (first | with_reducible exact hw | with_reducible exact hwc | with_reducible assumption | with_reducible apply Wf.sI | with_reducible apply Wf.sL | with_reducible apply Wf.cpI | with_reducible apply Wf.cpL | with_reducible apply Wf.cp2 | with_reducible apply Wf.sIs | with_reducible apply Wf.sLs | with_reducible apply Wf.cpU | with_reducible apply Wf.fillI | with_reducible apply Wf.clU | with_reducible apply Wf.dnF | with_reducible apply Wf.gbW)))) ?_
      rw [gI_sI, if_neg (by omega), gI_sI, if_neg (by omega), gI_sI, if_neg (by omega), hq.2.1]
      refine lf (a_iconst (1 : Int32) dX4_reach_60 (by decide)) ?_
      refine lf (a_iadd dX4_reach_61) ?_
      rw [← nI_succ]
      refine lf (a_putI dX4_reach_62 fs_X4_85 rfl rfl rfl (co_327 (by repeat (first | with_reducible exact hw | with_reducible exact hwc | with_reducible assumption | with_reducible apply Wf.sI | with_reducible apply Wf.sL | with_reducible apply Wf.cpI | with_reducible apply Wf.cpL | with_reducible apply Wf.cp2 | with_reducible apply Wf.sIs | with_reducible apply Wf.sLs | with_reducible apply Wf.cpU | with_reducible apply Wf.fillI | with_reducible apply Wf.clU | with_reducible apply Wf.dnF | with_reducible apply Wf.gbW)))) ?_
      refine lf (a_iincN dX4_reach_65 rfl (by decide)) ?_
      refine lf (a_goto (tgt := 2) dX4_reach_68 (by decide)) ?_
      first
      | exact lf (a_loc _ rfl) (ih (m + 1) _ (by omega) ⟨hO, sn, n, qf, og, hq, fun j hj => by
          rw [hs j hj]
          by_cases e : j = m
          · subst e
            rw [hsm] at hno
            rw [decide_eq_false (Nat.lt_irrefl j), decide_eq_true (Nat.lt_succ_self j)]
            cases e1 : bt x j <;> cases e2 : bt sn0 j <;> simp_all
          · rw [show decide (j < m) = decide (j < m + 1) from decide_eq_decide.mpr (by omega)], hn, hf0, ho, hw2⟩)
      | exact lf (a_loc _ rfl) (ih (m + 1) _ (by omega) ⟨hO.push, _, _, _, _, hp.1, fun j hj => by
          rw [b_or, b_bit m (by omega) (by omega), hs j hj]
          by_cases e : j = m
          · subst e
            rw [decide_eq_true rfl, Bool.or_true, decide_eq_true (Nat.lt_succ_self j), hx]; simp
          · rw [decide_eq_false e, Bool.or_false, show decide (j < m) = decide (j < m + 1) from decide_eq_decide.mpr (by omega)], by omega, fun i hi => by rw [up1_ne (by omega)]; exact hf0 i hi, fun j hj e => by
            have : j ≠ m := by rintro rfl; rw [← hsm, hsf] at e; exact absurd e Bool.false_ne_true
            rw [up1_ne this]; exact ho j hj e, fun i h1 h2 => by
            by_cases e : i = n
            · subst e
              rw [up1_eq, up1_eq]
              exact ⟨rfl, hx, by rw [← hsm]; exact hsf⟩
            · have h3 := hw2 i h1 (by omega)
              have h4 := (hq.2.2.2.1 i (by omega)).2.2
              have : qf i ≠ m := by intro z; rw [z, hsf] at h4; exact absurd h4 Bool.false_ne_true
              rw [up1_ne e, up1_ne this]
              exact h3⟩)
theorem t_X4_reach (hw : Wf μ) (hM1 : gI μ 327 1 = nI M) (hM : M ≤ 12) {sn0 : Int32} {n0 : Nat} {qf0 : Nat → Nat} {og0 : Nat → Option Nat} (hq : QV μ M sn0 n0 qf0 og0) (x : Int32) (h : Option Nat) : CV Y_X4_reach R_X4_reach [.ref 327, .int x, .int (oI h)] μ (fun v V => v = none ∧ OutR μ V ∧ ReQ M sn0 n0 qf0 og0 x h M V) := by
  refine CV.ent yk_X4_reach (Nat.le_of_ble_eq_true rfl) ?_
  refine lf (a_iconst (0 : Int32) dX4_reach_0 (by decide)) ?_
  refine lf (a_istore_n dX4_reach_1 (by decide)) ?_
  refine lf (a_loc [(0, .ref 327), (1, .int x), (2, .int (oI h)), (3, .int (nI 0))] rfl) (l_X4_reach_2 hM1 hM (sn0 := sn0) (n0 := n0) (qf0 := qf0) (og0 := og0) (x := x) (h := h) (fun W hI => ⟨_, _, a_return dX4_reach_71 rfl, _, rfl, rfl, hI⟩) M 0 μ (by omega) ⟨OutR.rfl' hw, sn0, n0, qf0, og0, hq, fun j _ => by simp, Nat.le_refl _, fun _ _ => rfl, fun _ _ _ => rfl, fun i h1 h2 => by omega⟩)
end
end MATCHC
