section STOREQ
variable {q : PDt} {d d2 : FDt} {k : Nat}
/-- the same data, whatever lies behind the top-ups that count -/
def DEq (d d2 : FDt) : Prop := dP d = dP d2 ∧ dU d = dU d2 ∧ dA d = dA d2 ∧ (∀ a i, a < 3 ∨ 6 ≤ a → dF d a i = dF d2 a i) ∧ ∀ a i, 3 ≤ a → a ≤ 5 → i < dU d → dF d a i = dF d2 a i
theorem DEq.symm (h : DEq d d2) : DEq d2 d := ⟨h.1.symm, h.2.1.symm, h.2.2.1.symm, fun a i ha => (h.2.2.2.1 a i ha).symm, fun a i h3 h5 hi => (h.2.2.2.2 a i h3 h5 (by rw [h.2.1]; exact hi)).symm⟩
theorem DEq.trans {d3 : FDt} (h : DEq d d2) (g : DEq d2 d3) : DEq d d3 := ⟨h.1.trans g.1, h.2.1.trans g.2.1, h.2.2.1.trans g.2.2.1, fun a i ha => (h.2.2.2.1 a i ha).trans (g.2.2.2.1 a i ha), fun a i h3 h5 hi => (h.2.2.2.2 a i h3 h5 hi).trans (g.2.2.2.2 a i h3 h5 (by rw [← h.2.1]; exact hi))⟩
theorem DEq.rfl' : DEq d d := ⟨rfl, rfl, rfl, fun _ _ _ => rfl, fun _ _ _ _ _ => rfl⟩
theorem FitD.deq (h : FitD q d) (e : DEq d d2) : FitD q d2 := by
  obtain ⟨⟨h1, h2, h3, h4, h5⟩, h6, h7⟩ := h
  exact ⟨⟨h1, h2, h3, by rw [← e.1]; exact h4, by rw [← e.2.1]; exact h5⟩, by rw [← e.2.2.2.1 6 0 (by omega)]; exact h6, h7⟩
/-- units agree: storing goes alike -/
def UEq (d d2 : FDt) : Prop := ∀ t i, dF d (7 + t) i = dF d2 (7 + t) i
theorem UEq.on (h : UEq d d2) : on1 q k d = on1 q k d2 := by
  unfold on1
  congr 1
  funext t
  unfold feB
  rw [fsD_congr (d := d2) (d2 := d) fun i _ => h t i]
theorem UEq.set (h : UEq d d2) (t : Nat) (v : Int32) : UEq (setU d t k v) (setU d2 t k v) := fun t2 i => by
  by_cases e : t2 = t ∧ i = k
  · rw [e.1, e.2, setU_at, setU_at]
  · rw [setU_ne d v (by omega), setU_ne d2 v (by omega)]; exact h t2 i
theorem UEq.inc (h : UEq d d2) (t : Nat) : UEq (incD d t k) (incD d2 t k) := by
  unfold incD
  rw [h t k]
  exact h.set t _
theorem stM_s (q : PDt) (k n : Nat) (d : FDt) : stM q k (n + 1) d = match on1 q k d with
    | none => (0, d)
    | some t => ((stM q k n (incD d t k)).1 + 1, (stM q k n (incD d t k)).2) := rfl
theorem UEq.st : ∀ (n : Nat) (d d2 : FDt), UEq d d2 → (stM q k n d).1 = (stM q k n d2).1 ∧ UEq (stM q k n d).2 (stM q k n d2).2 := by
  intro n
  induction n with
  | zero => intro d d2 h; exact ⟨rfl, h⟩
  | succ n ih =>
    intro d d2 h
    rw [stM_s, stM_s, h.on]
    cases e : on1 q k d2 with
    | none => exact ⟨rfl, h⟩
    | some t =>
      obtain ⟨a, b⟩ := ih _ _ (h.inc t)
      exact ⟨congrArg (· + 1) a, b⟩
theorem DEq.of_st {n : Nat} {e e2 : FDt} (hu : UEq e e2) (hd : DEq e e2) : DEq (stM q k n e).2 (stM q k n e2).2 := by
  have s1 := stM_lo (q := q) (k := k) n e
  have s2 := stM_lo (q := q) (k := k) n e2
  refine ⟨by rw [s1.1, s2.1]; exact hd.1, by rw [s1.2.1, s2.2.1]; exact hd.2.1, by rw [s1.2.2.1, s2.2.2.1]; exact hd.2.2.1, fun a i ha => ?_, fun a i h3 h5 hi => ?_⟩
  · by_cases h : a < 7
    · rw [s1.2.2.2.1 a i h, s2.2.2.2.1 a i h]; exact hd.2.2.2.1 a i ha
    · obtain ⟨t, rfl⟩ : ∃ t, a = 7 + t := ⟨a - 7, by omega⟩
      exact (UEq.st n e e2 hu).2 t i
  · rw [s1.2.2.2.1 a i (by omega), s2.2.2.2.1 a i (by omega)]; exact hd.2.2.2.2 a i h3 h5 (by rw [← s1.2.1]; exact hi)
theorem DEq.units (h : DEq d d2) : UEq d d2 := fun t i => h.2.2.2.1 (7 + t) i (by omega)
/-- the arrivals one by one -/
def adM (q : PDt) : Nat → Int32 → FDt → Int32 × FDt
  | 0, b, d => (b, d)
  | c + 1, b, d => if dF d 5 0 < dF d 6 1 then (b, d) else adM q c (b + (dF d 4 0 - nI (stM q (nN (dF d 3 0)) (nN (dF d 4 0)) (shfD 1 d)).1)) (stM q (nN (dF d 3 0)) (nN (dF d 4 0)) (shfD 1 d)).2
theorem shf_lo (a : Nat) (d : FDt) {x i : Nat} (h : x < 3 ∨ 5 < x) : dF (shfD a d) x i = dF d x i := if_neg (by omega)
theorem shf_hi (a : Nat) (d : FDt) {x i : Nat} (h3 : 3 ≤ x) (h5 : x ≤ 5) : dF (shfD a d) x i = dF d x (i + a) := if_pos ⟨h3, h5⟩
theorem ad_la (q : PDt) : ∀ (c a : Nat) (b : Int32) (D d : FDt), a + c = dU D → DEq (shfD a D) d → (adM q c b d).1 = (laP q c a b D).2.1 ∧ DEq (shfD (laP q c a b D).1 (laP q c a b D).2.2) (adM q c b d).2 := by
  intro c
  induction c with
  | zero => intro a b D d _ h; exact ⟨rfl, h⟩
  | succ c ih =>
    intro a b D d ha h
    have hU : dU (shfD a D) = dU D - a := rfl
    have e : ∀ x, 3 ≤ x → x ≤ 5 → dF d x 0 = dF D x a := fun x h3 h5 => by
      rw [← h.2.2.2.2 x 0 h3 h5 (by rw [hU]; omega), shf_hi a D h3 h5, Nat.zero_add]
    have e6 : dF d 6 1 = dF D 6 1 := (h.2.2.2.1 6 1 (by omega)).symm.trans (shf_lo a D (by omega))
    rw [laP_s]
    unfold adM
    rw [e 3 (by decide) (by decide), e 4 (by decide) (by decide), e 5 (by decide) (by decide), e6]
    by_cases hl : dF D 5 a < dF D 6 1
    · rw [if_pos hl, if_pos hl]; exact ⟨rfl, h⟩
    · rw [if_neg hl, if_neg hl]
      generalize nN (dF D 3 a) = kk
      generalize nN (dF D 4 a) = nn
      have hu : UEq (shfD 1 d) D := fun t i => by
        rw [shf_lo 1 d (by omega), ← h.2.2.2.1 (7 + t) i (by omega), shf_lo a D (by omega)]
      obtain ⟨u1, u2⟩ := UEq.st (q := q) (k := kk) nn _ _ hu
      rw [u1]
      have s1 := stM_lo (q := q) (k := kk) nn D
      have s2 := stM_lo (q := q) (k := kk) nn (shfD 1 d)
      refine ih (a + 1) _ _ _ (by rw [s1.2.1]; omega) ⟨?_, ?_, ?_, fun x i hx => ?_, fun x i h3 h5 hi => ?_⟩
      · show dP (stM q kk nn D).2 = _
        rw [s1.1, s2.1]; exact h.1
      · show dU (stM q kk nn D).2 - (a + 1) = _
        rw [s1.2.1, s2.2.1]
        show _ = dU d - 1
        rw [← h.2.1, hU]
        omega
      · show dA (stM q kk nn D).2 = _
        rw [s1.2.2.1, s2.2.2.1]; exact h.2.2.1
      · rw [shf_lo _ _ (by omega)]
        by_cases h7 : x < 7
        · rw [s1.2.2.2.1 x i h7, s2.2.2.2.1 x i h7, shf_lo 1 d (by omega), ← h.2.2.2.1 x i hx, shf_lo a D (by omega)]
        · obtain ⟨t, rfl⟩ : ∃ t, x = 7 + t := ⟨x - 7, by omega⟩
          exact (u2 t i).symm
      · have hi2 : i < dU (stM q kk nn D).2 - (a + 1) := hi
        rw [s1.2.1] at hi2
        rw [shf_hi _ _ h3 h5, s1.2.2.2.1 x _ (by omega), s2.2.2.2.1 x i (by omega), shf_hi 1 d h3 h5, ← h.2.2.2.2 x (i + 1) h3 h5 (by rw [hU]; omega), shf_hi a D h3 h5]
        congr 1
        omega
theorem shf0 (d : FDt) : shfD 0 d = d := by
  unfold shfD
  have : (fun x i => if 3 ≤ x ∧ x ≤ 5 then dF d x (i + 0) else dF d x i) = dF d := funext fun x => funext fun i => by
    split <;> rfl
  rw [this]
  rfl
theorem la_ad (q : PDt) (d : FDt) : (adM q (dU d) 0 d).1 = (laD q d).1 ∧ DEq (laD q d).2 (adM q (dU d) 0 d).2 := ad_la q (dU d) 0 0 d d (Nat.zero_add _) (by rw [shf0]; exact DEq.rfl')
/-- a top-up that waits -/
theorem la_wait {l m : Nat} {e : Nat → Nat} (h1 : pF q 9 3 = nI l) (h2 : dF d 6 1 = nI m) (hl : l ≤ 99) (hm : m ≤ 999) (h3 : ∀ i, i < dU d → dF d 5 i = nI (e i) ∧ e i < m ∧ m ≤ e i + l) (hlm : l ≤ m) (h0 : 0 < l) (x n : Int32) : laD q (askD q d x n) = (0, askD q d x n) := by
  have hU : dU (askD q d x n) = dU d + 1 := rfl
  have h6 : dF (askD q d x n) 6 1 = nI m := (if_neg (by omega)).trans h2
  have h5 : dF (askD q d x n) 5 0 < dF (askD q d x n) 6 1 := by
    rw [h6]
    by_cases hz : dU d = 0
    · have e5 : dF (askD q d x n) 5 0 = dF d 6 1 - pF q 9 3 := (if_pos ⟨hz.symm, by decide⟩).trans ((if_neg (by decide)).trans (if_neg (by decide)))
      rw [e5, h1, h2, nI_subI hlm]
      exact nI_lt (by omega) (by omega)
    · have e5 : dF (askD q d x n) 5 0 = dF d 5 0 := if_neg (fun z => hz z.1.symm)
      obtain ⟨g1, g2, _⟩ := h3 0 (by omega)
      rw [e5, g1]
      exact nI_lt g2 (by omega)
  unfold laD
  rw [hU, laP_s, if_pos h5]
  show ((0 : Int32), shfD 0 (askD q d x n)) = _
  rw [shf0]
/-- a top-up that arrives at once -/
theorem la_once {m : Nat} (h1 : pF q 9 3 = nI 0) (h2 : dF d 6 1 = nI m) (hU0 : dU d = 0) {x n : Nat} (hx : x < 2 ^ 31) (hn : n < 2 ^ 31) : dU (laD q (askD q d (nI x) (nI n))).2 = 0 ∧ DEq (laD q (askD q d (nI x) (nI n))).2 (stM q x n d).2 := by
  have hU : dU (askD q d (nI x) (nI n)) = dU d + 1 := rfl
  have g : ∀ a i, dF (askD q d (nI x) (nI n)) a i = if i = dU d ∧ 3 ≤ a ∧ a ≤ 5 then (if a = 3 then nI x else if a = 4 then nI n else dF d 6 1 - pF q 9 3) else dF d a i := fun a i => rfl
  have h3 : dF (askD q d (nI x) (nI n)) 3 0 = nI x := by rw [g, if_pos ⟨hU0.symm, by decide⟩, if_pos rfl]
  have h4 : dF (askD q d (nI x) (nI n)) 4 0 = nI n := by rw [g, if_pos ⟨hU0.symm, by decide⟩, if_neg (by decide), if_pos rfl]
  have h5 : ¬ dF (askD q d (nI x) (nI n)) 5 0 < dF (askD q d (nI x) (nI n)) 6 1 := by
    rw [g, g, if_pos ⟨hU0.symm, by decide⟩, if_neg (by decide), if_neg (by decide), if_neg (by omega), h1]
    have : dF d 6 1 - nI 0 = dF d 6 1 := Int32.sub_zero _
    rw [this]
    exact Int32.lt_irrefl
  have hu : UEq (askD q d (nI x) (nI n)) d := fun t i => by rw [g, if_neg (by omega)]
  have s1 := stM_lo (q := q) (k := x) n (askD q d (nI x) (nI n))
  have s2 := stM_lo (q := q) (k := x) n d
  have e : (laD q (askD q d (nI x) (nI n))).2 = shfD 1 (stM q x n (askD q d (nI x) (nI n))).2 := by
    unfold laD
    rw [hU, laP_s, if_neg h5, h3, h4, nN_nI hx, nN_nI hn, hU0]
    rfl
  have eU : dU (shfD 1 (stM q x n (askD q d (nI x) (nI n))).2) = 0 := by
    show dU (stM q x n (askD q d (nI x) (nI n))).2 - 1 = 0
    rw [s1.2.1, hU, hU0]
  rw [e]
  refine ⟨eU, ?_, ?_, ?_, fun a i ha => ?_, fun a i h3 h5 hi => by rw [eU] at hi; exact absurd hi (Nat.not_lt_zero _)⟩
  · show dP (stM q x n (askD q d (nI x) (nI n))).2 = _
    rw [s1.1, s2.1]; rfl
  · rw [eU, s2.2.1, hU0]
  · show dA (stM q x n (askD q d (nI x) (nI n))).2 = _
    rw [s1.2.2.1, s2.2.2.1]; rfl
  · rw [shf_lo _ _ (by omega)]
    by_cases h7 : a < 7
    · rw [s1.2.2.2.1 a i h7, s2.2.2.2.1 a i h7, g, if_neg (by omega)]
    · obtain ⟨t, rfl⟩ : ∃ t, a = 7 + t := ⟨a - 7, by omega⟩
      exact (UEq.st n _ _ hu).2 t i
/-- stored units are counted -/
theorem ld_inc (hd : GdD q d) (hT : pT q ≤ 8) (hk : k < 12) {t : Nat} (ht : t < pT q) : ldN q (incD d t k) k = ldN q d k + 1 := by
  obtain ⟨e, hu⟩ := GdD_unN hd (show t < 8 by omega) hk
  have h : ldN q (incD d t k) k = fb_sm (fun t2 => if t2 = t then unN d t k + 1 else unN d t2 k) (pT q) := fb_sm_cong fun t2 _ => by
    unfold incD
    by_cases e2 : t2 = t
    · rw [if_pos e2, e2]
      show nN (dF (setU d t k _) (7 + t) k) = _
      rw [setU_at, e, nI_1, nN_nI (by omega)]
    · rw [if_neg e2]
      show nN (dF (setU d t k _) (7 + t2) k) = _
      rw [setU_ne d _ (Or.inl e2)]; rfl
  have h2 := fb_sm_upd (fun t2 => unN d t2 k) (unN d t k + 1) ht
  rw [h]
  unfold ldN
  omega
theorem ld_st (hq : GdP q) (hk : k < pM q) : ∀ (n : Nat) (d : FDt), GdD q d → ldN q (stM q k n d).2 k = ldN q d k + (stM q k n d).1 := by
  have hM := hq.M4
  intro n
  induction n with
  | zero => intro d _; rfl
  | succ n ih =>
    intro d hd
    rw [stM_s]
    cases e : on1 q k d with
    | none => rfl
    | some t =>
      show ldN q (stM q k n (incD d t k)).2 k = ldN q d k + ((stM q k n (incD d t k)).1 + 1)
      rw [ih _ (hd.inc hq hk e), ld_inc hd hq.T4 (by omega) (on1_some e).1]
      omega
theorem st_320 (hq : GdP q) (hd : GdD q d) (hk : k < pM q) (n : Nat) : (stM q k n d).1 ≤ 320 := by
  have h1 := ld_st hq hk n d hd
  have hM := hq.M4
  have h2 := (ldD_N hq (hd.st hq hk n) (show k < 12 by omega)).2
  omega
theorem so_pos (hq : GdP q) {u : Nat → Int32} : ∀ (c m j : Nat) (d : FDt) {s : Int32} {t : FDt}, m + c = pM q → GdD q d → j + 320 * c < 2 ^ 31 → soF q u c m (nI j) d = (some s, t) → ∃ x, s = nI x ∧ x ≤ j + 320 * c := by
  intro c
  induction c with
  | zero => intro m j d s t _ _ _ h; cases h; exact ⟨j, rfl, by omega⟩
  | succ c ih =>
    intro m j d s t hm hd hb h
    rw [soF_s] at h
    obtain ⟨e1, e2⟩ := msD_N q d m (u m)
    have hst := st_320 hq hd (show m < pM q by omega) (nN (msD q d m (u m)))
    split at h
    · cases h
    · rename_i hl
      have hle := stM_le (q := q) (k := m) (nN (msD q d m (u m))) d
      rw [e1] at hl
      rw [nN_nI e2] at hl
      rw [nI_ltI (by omega) e2] at hl
      have he : nN (msD q d m (u m)) ≤ 320 := by omega
      rw [e1, nN_nI e2, nI_add] at h
      obtain ⟨x, hx1, hx2⟩ := ih (m + 1) _ _ (by omega) (hd.st hq (by omega) _) (by omega) h
      exact ⟨x, hx1, by omega⟩
/-- the last trolley that has one -/
def toL (k : Nat) : Nat → FDt → Option Nat
  | 0, _ => none
  | r + 1, d => if dF d (7 + r) k = 0 then toL k r d else some r
theorem toL_lt : ∀ {r t : Nat}, toL k r d = some t → t < r ∧ ¬ dF d (7 + t) k = 0 := by
  intro r
  induction r with
  | zero => intro t h; cases h
  | succ r ih =>
    intro t h
    unfold toL at h
    split at h
    · have := ih h; exact ⟨by omega, this.2⟩
    · rename_i h0
      cases h
      exact ⟨Nat.lt_succ_self _, h0⟩
def de1 (k : Nat) (d : FDt) (t : Nat) : FDt := setU d t k (dF d (7 + t) k - 1)
theorem toD_zero : ∀ (r : Nat) (d : FDt), r ≤ 8 → (∀ t, t < 8 → ∃ n, n ≤ 40 ∧ dF d (7 + t) k = nI n) → toD k r (nI 0) d = d := by
  intro r
  induction r with
  | zero => intro d _ _; rfl
  | succ r ih =>
    intro d hr h
    obtain ⟨n, hn, e⟩ := h r (by omega)
    unfold toD
    rw [if_neg (by rw [e]; exact nI_nlt (Nat.zero_le n) (by omega))]
    have e1 : nI 0 - nI 0 = nI 0 := by decide
    have e2 : dF d (7 + r) k - nI 0 = dF d (7 + r) k := Int32.sub_zero _
    rw [e1, e2, setU_same]
    exact ih d (by omega) h
theorem toD_one : ∀ (r a : Nat) (d : FDt) {t : Nat}, r ≤ 8 → a < 1000 → (∀ t, t < 8 → ∃ n, n ≤ 40 ∧ dF d (7 + t) k = nI n) → toL k r d = some t → toD k r (nI (a + 1)) d = toD k r (nI a) (de1 k d t) := by
  intro r
  induction r with
  | zero => intro a d t _ _ _ h; cases h
  | succ r ih =>
    intro a d t hr ha h ht
    obtain ⟨x, hx, e⟩ := h r (by omega)
    have hde : ∀ t2, t2 ≠ t → dF (de1 k d t) (7 + t2) k = dF d (7 + t2) k := fun t2 h2 => setU_ne d _ (Or.inl h2)
    have hD : ∀ (y : Int32) (d' : FDt), toD k (r + 1) y d' = toD k r (y - (if dF d' (7 + r) k < y then dF d' (7 + r) k else y)) (setU d' r k (dF d' (7 + r) k - (if dF d' (7 + r) k < y then dF d' (7 + r) k else y))) := fun y d' => rfl
    rw [hD, hD]
    unfold toL at ht
    by_cases h0 : dF d (7 + r) k = 0
    · rw [if_pos h0] at ht
      have htr := (toL_lt ht).1
      have hz : dF (de1 k d t) (7 + r) k = 0 := (hde r (by omega)).trans h0
      have e0 : (0 : Int32) = nI 0 := rfl
      rw [hz, h0, e0, if_pos (nI_lt (Nat.succ_pos a) (by omega))]
      have e1 : nI 0 - nI 0 = nI 0 := by decide
      have e3 : nI (a + 1) - nI 0 = nI (a + 1) := Int32.sub_zero _
      rw [e1, e3]
      have s1 : setU d r k (nI 0) = d := by
        have := setU_same d r k
        rw [h0] at this
        exact this
      have s2 : setU (de1 k d t) r k (nI 0) = de1 k d t := by
        have := setU_same (de1 k d t) r k
        rw [hz] at this
        exact this
      rw [s1, ih a d (by omega) ha h ht]
      by_cases ha0 : a = 0
      · subst ha0
        rw [if_neg (nI_nlt (a := 0) (b := 0) (Nat.le_refl _) (by decide)), e1, s2]
      · rw [if_pos (nI_lt (by omega) (by omega))]
        have e4 : nI a - nI 0 = nI a := Int32.sub_zero _
        rw [e4, e1, s2]
    · rw [if_neg h0] at ht
      obtain rfl : r = t := Option.some.inj ht
      have hx0 : x ≠ 0 := fun z => h0 (by rw [e, z]; rfl)
      obtain ⟨y, rfl⟩ : ∃ y, x = y + 1 := ⟨x - 1, by omega⟩
      have hv : dF (de1 k d r) (7 + r) k = nI y := by
        show dF (setU d r k _) (7 + r) k = _
        rw [setU_at, e, nI_sub1]
      rw [hv, e]
      have sS : ∀ v, setU (de1 k d r) r k v = setU d r k v := fun v => setU_set d r k _ v
      rw [sS]
      by_cases hl : y < a
      · rw [if_pos (nI_lt (by omega) (by omega)), if_pos (nI_lt hl (by omega)), nI_subI (a := a + 1) (b := y + 1) (by omega), nI_subI (a := y + 1) (b := y + 1) (by omega), nI_subI (a := a) (b := y) (by omega), nI_subI (a := y) (b := y) (by omega), show a + 1 - (y + 1) = a - y by omega, show y + 1 - (y + 1) = y - y by omega]
      · have e5 : ¬ nI y < nI a := nI_nlt (by omega) (by omega)
        by_cases hl2 : y + 1 < a + 1
        · omega
        · rw [if_neg (nI_nlt (by omega) (by omega)), if_neg e5, nI_subI (a := a + 1) (b := a + 1) (by omega), nI_subI (a := y + 1) (b := a + 1) (by omega), nI_subI (a := a) (b := a) (by omega), nI_subI (a := y) (b := a) (by omega), show y + 1 - (a + 1) = y - a by omega, show a + 1 - (a + 1) = a - a by omega]
theorem ld_none : ∀ (r : Nat), toL k r d = none → ∀ t, t < r → dF d (7 + t) k = 0 := by
  intro r
  induction r with
  | zero => intro _ t ht; exact absurd ht (Nat.not_lt_zero _)
  | succ r ih =>
    intro h t ht
    unfold toL at h
    split at h
    · rename_i h0
      by_cases e : t = r
      · rw [e]; exact h0
      · exact ih h t (by omega)
    · cases h
theorem toL_pos {n : Nat} (h : ldN q d k = n + 1) : ∃ t, toL k (pT q) d = some t := by
  cases e : toL k (pT q) d with
  | some t => exact ⟨t, rfl⟩
  | none =>
    have h0 : ldN q d k = fb_sm (fun _ => 0) (pT q) := fb_sm_cong fun t ht => by
      show nN (dF d (7 + t) k) = 0
      rw [ld_none _ e t ht]; rfl
    rw [h0, fb_sm_const] at h
    omega
theorem ld_de (hd : GdD q d) (hT : pT q ≤ 8) (hk : k < 12) {t : Nat} (ht : t < pT q) (h0 : ¬ dF d (7 + t) k = 0) : ldN q (de1 k d t) k + 1 = ldN q d k ∧ dF d (7 + t) k - 1 = nI (unN d t k - 1) ∧ 0 < unN d t k := by
  obtain ⟨e, hu⟩ := GdD_unN hd (show t < 8 by omega) hk
  have hp : 0 < unN d t k := Nat.pos_of_ne_zero fun z => h0 (by rw [e, z]; rfl)
  have e1 : dF d (7 + t) k - 1 = nI (unN d t k - 1) := by
    rw [e]
    exact nI_subI (b := 1) hp
  have h : ldN q (de1 k d t) k = fb_sm (fun t2 => if t2 = t then unN d t k - 1 else unN d t2 k) (pT q) := fb_sm_cong fun t2 _ => by
    unfold de1
    by_cases e2 : t2 = t
    · rw [if_pos e2, e2]
      show nN (dF (setU d t k _) (7 + t) k) = _
      rw [setU_at, e1, nN_nI (by omega)]
    · rw [if_neg e2]
      show nN (dF (setU d t k _) (7 + t2) k) = _
      rw [setU_ne d _ (Or.inl e2)]; rfl
  have h2 := fb_sm_upd (fun t2 => unN d t2 k) (unN d t k - 1) ht
  refine ⟨?_, e1, hp⟩
  rw [h]
  unfold ldN
  omega
theorem unO_of {n : Nat} (g1 : 1 ≤ n) (g2 : n ≤ 99) : unO (nI n) = some n := by
  obtain ⟨m, rfl⟩ : ∃ m, n = m + 1 := ⟨n - 1, by omega⟩
  unfold unO
  rw [ixO_of (show m + 1 < 100 by omega) (by decide)]
end STOREQ
