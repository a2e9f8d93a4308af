section IND
variable {q : PDt} {d d2 : FDt} {N : Nat}
theorem TuD.cg (h : TuD q d) (hU : dU d2 = dU d) (h5 : ∀ i, dF d2 5 i = dF d 5 i) (h6 : dF d2 6 1 = dF d 6 1) : TuD q d2 := by
  obtain ⟨l, m, e, e1, e2, e3, e4, e5, e6⟩ := h
  exact ⟨l, m, e, e1, h6.trans e2, e3, e4, fun i hi => by rw [h5]; exact e5 i (by rw [← hU]; exact hi), fun i j hij hj => e6 i j hij (by rw [← hU]; exact hj)⟩
theorem to_lo7 (k : Nat) : ∀ r (n : Int32) (d : FDt), dU (toD k r n d) = dU d ∧ ∀ a i, a < 7 → dF (toD k r n d) a i = dF d a i := by
  intro r
  induction r with
  | zero => intro n d; exact ⟨rfl, fun _ _ _ => rfl⟩
  | succ r ih =>
    intro n d
    obtain ⟨h1, h2⟩ := ih (n - (if dF d (7 + r) k < n then dF d (7 + r) k else n)) (setU d r k (dF d (7 + r) k - (if dF d (7 + r) k < n then dF d (7 + r) k else n)))
    exact ⟨h1, fun a i ha => (h2 a i ha).trans (setU_lo d r k _ ha)⟩
theorem so_lo7 (u : Nat → Int32) : ∀ c m (a : Int32) (d : FDt), dU (soF q u c m a d).2 = dU d ∧ ∀ x i, x < 7 → dF (soF q u c m a d).2 x i = dF d x i := by
  intro c
  induction c with
  | zero => intro m a d; exact ⟨rfl, fun _ _ _ => rfl⟩
  | succ c ih =>
    intro m a d
    rw [soF_s]
    have hs := stM_lo (q := q) (k := m) (nN (msD q d m (u m))) d
    split
    · exact ⟨hs.2.1, hs.2.2.2.1⟩
    · obtain ⟨h1, h2⟩ := ih (m + 1) (a + msD q d m (u m)) (stM q m (nN (msD q d m (u m))) d).2
      exact ⟨h1.trans hs.2.1, fun x i hx => (h2 x i hx).trans (hs.2.2.2.1 x i hx)⟩
/-- the landing of a row of top-ups: how many land -/
theorem lap_lo : ∀ (c a : Nat) (b : Int32) (d : FDt), a + c = dU d → dU (laP q c a b d).2.2 = dU d ∧ dP (laP q c a b d).2.2 = dP d ∧ dA (laP q c a b d).2.2 = dA d ∧ (∀ x i, x < 7 → dF (laP q c a b d).2.2 x i = dF d x i) ∧ a ≤ (laP q c a b d).1 ∧ (laP q c a b d).1 ≤ dU d ∧ ((laP q c a b d).1 < dU d → dF d 5 (laP q c a b d).1 < dF d 6 1) := by
  intro c
  induction c with
  | zero =>
    intro a b d ha
    exact ⟨rfl, rfl, rfl, fun _ _ _ => rfl, Nat.le_refl _, (by show a ≤ dU d; omega), fun (h : a < dU d) => by omega⟩
  | succ c ih =>
    intro a b d ha
    rw [laP_s]
    split
    · rename_i h
      exact ⟨rfl, rfl, rfl, fun _ _ _ => rfl, Nat.le_refl _, (by show a ≤ dU d; omega), fun _ => h⟩
    · have hs := stM_lo (q := q) (k := nN (dF d 3 a)) (nN (dF d 4 a)) d
      obtain ⟨h1, h2, h3, h4, h5, h6, h7⟩ := ih (a + 1) (b + (dF d 4 a - nI (stM q (nN (dF d 3 a)) (nN (dF d 4 a)) d).1)) (stM q (nN (dF d 3 a)) (nN (dF d 4 a)) d).2 (by rw [hs.2.1]; omega)
      rw [hs.2.1] at h1 h6 h7
      refine ⟨h1, h2.trans hs.1, h3.trans hs.2.2.1, fun x i hx => (h4 x i hx).trans (hs.2.2.2.1 x i hx), Nat.le_of_succ_le h5, h6, fun h => ?_⟩
      have := h7 h
      rw [hs.2.2.2.1 5 _ (by decide), hs.2.2.2.1 6 _ (by decide)] at this
      exact this
theorem shf_ne (r : Nat) (d : FDt) {x i : Nat} (h : ¬ (3 ≤ x ∧ x ≤ 5)) : dF (shfD r d) x i = dF d x i := if_neg h
theorem shf_eq (r : Nat) (d : FDt) {i : Nat} : dF (shfD r d) 5 i = dF d 5 (i + r) := rfl
theorem la_lo : dP (laD q d).2 = dP d ∧ dA (laD q d).2 = dA d ∧ (∀ i, dF (laD q d).2 6 i = dF d 6 i) := by
  obtain ⟨h1, h2, h3, h4, _⟩ := lap_lo (q := q) (dU d) 0 0 d (Nat.zero_add _)
  exact ⟨h2, h3, fun i => (shf_ne _ _ (by decide)).trans (h4 6 i (by decide))⟩
/-- behind a landing all that is left is due -/
theorem TuD.la {l m : Nat} {e : Nat → Nat} (e1 : pF q 9 3 = nI l) (e2 : dF d 6 1 = nI m) (hl : l ≤ 99) (hm : m ≤ 999) (e5 : ∀ i, i < dU d → dF d 5 i = nI (e i) ∧ m ≤ e i + l ∧ e i < 2 ^ 31) (e6 : ∀ i j, i < j → j < dU d → e j ≤ e i) : TuD q (laD q d).2 := by
  obtain ⟨h1, h2, h3, h4, h5, h6, h7⟩ := lap_lo (q := q) (dU d) 0 0 d (Nat.zero_add _)
  generalize hr : (laP q (dU d) 0 0 d).1 = r at h6 h7
  have hU : dU (laD q d).2 = dU d - r := by
    show dU (laP q (dU d) 0 0 d).2.2 - (laP q (dU d) 0 0 d).1 = _
    rw [h1, hr]
  have hF : ∀ i, dF (laD q d).2 5 i = dF d 5 (i + r) := fun i => by
    show dF (shfD (laP q (dU d) 0 0 d).1 (laP q (dU d) 0 0 d).2.2) 5 i = _
    rw [shf_eq, hr, h4 5 _ (by decide)]
  refine ⟨l, m, fun i => e (i + r), e1, (la_lo.2.2 1).trans e2, hl, hm, fun i hi => ?_, fun i j hij hj => e6 (i + r) (j + r) (by omega) (by omega)⟩
  rw [hU] at hi
  obtain ⟨a1, a2, a3⟩ := e5 (i + r) (by omega)
  refine ⟨(hF i).trans a1, ?_, a2⟩
  have hr2 : r < dU d := by omega
  have h8 := h7 hr2
  obtain ⟨b1, b2, b3⟩ := e5 r hr2
  rw [b1, e2, nI_ltI b3 (by omega)] at h8
  by_cases hi0 : i = 0
  · subst hi0
    show e (0 + r) < m
    rw [Nat.zero_add]; exact h8
  · have := e6 r (i + r) (by omega) (by omega)
    show e (i + r) < m
    omega
theorem TuD.adv (h : TuD q d) {m2 : Nat} {v : Int32} (hv : v = nI m2) (hle : nI m2 ≤ dF d 6 1) (h9 : m2 ≤ 999) : TuD q (laD q (cellD d 6 1 v)).2 := by
  obtain ⟨l, m, e, e1, e2, e3, e4, e5, e6⟩ := h
  rw [e2, nI_leI (by omega) (by omega)] at hle
  refine TuD.la (d := cellD d 6 1 v) (l := l) (m := m2) (e := e) e1 ?_ e3 h9 (fun i hi => ?_) e6
  · show up2 (dF d) 6 1 v 6 1 = _
    rw [up2_eq, hv]
  · obtain ⟨a1, a2, a3⟩ := e5 i hi
    refine ⟨?_, by omega, by omega⟩
    show up2 (dF d) 6 1 v 5 i = _
    rw [up2_ne (by omega)]; exact a1
theorem TuD.top (h : TuD q d) {k n : Int32} (hle : pF q 9 3 ≤ dF d 6 1) : TuD q (laD q (askD q d k n)).2 := by
  obtain ⟨l, m, e, e1, e2, e3, e4, e5, e6⟩ := h
  rw [e1, e2, nI_leI (by omega) (by omega)] at hle
  refine TuD.la (d := askD q d k n) (l := l) (m := m) (e := fun i => if i = dU d then m - l else e i) e1 ?_ e3 e4 (fun i hi => ?_) (fun i j hij hj => ?_)
  · show (if 1 = dU d ∧ 3 ≤ 6 ∧ 6 ≤ 5 then _ else dF d 6 1) = _
    rw [if_neg (fun y => absurd y.2.2 (by decide))]; exact e2
  · have hi : i < dU d + 1 := hi
    show (if i = dU d ∧ 3 ≤ 5 ∧ 5 ≤ 5 then (if 5 = 3 then k else if 5 = 4 then n else dF d 6 1 - pF q 9 3) else dF d 5 i) = nI (if i = dU d then m - l else e i) ∧ m ≤ (if i = dU d then m - l else e i) + l ∧ (if i = dU d then m - l else e i) < 2 ^ 31
    by_cases hx : i = dU d
    · rw [if_pos ⟨hx, by decide, by decide⟩, if_neg (by decide), if_neg (by decide), if_pos hx, e1, e2, nI_subI hle]
      exact ⟨rfl, by omega, by omega⟩
    · rw [if_neg (fun y => hx y.1), if_neg hx]
      obtain ⟨a1, a2, a3⟩ := e5 i (by omega)
      exact ⟨a1, a3, by omega⟩
  · have hj : j < dU d + 1 := hj
    show (if j = dU d then m - l else e j) ≤ (if i = dU d then m - l else e i)
    rw [if_neg (show ¬ i = dU d by omega)]
    by_cases hx : j = dU d
    · rw [if_pos hx]
      have := e5 i (by omega)
      omega
    · rw [if_neg hx]
      exact e6 i j hij (by omega)
theorem TuD.none (hq : GdP q) {m : Nat} (hm : dF d 6 1 = nI m) (h9 : m ≤ 999) (hU : dU d = 0) : TuD q d := by
  obtain ⟨l, hl, e⟩ := hq.lead
  exact ⟨l, m, fun _ => 0, e, hm, hl, h9, fun i hi => absurd hi (by omega), fun i j _ hj => absurd hj (by omega)⟩
/-- accounts, in number of services -/
def AcD (N : Nat) (d : FDt) : Prop := ∃ s a w c : Nat, s ≤ N ∧ dA d 5 = lN s ∧ dA d 0 = lN a ∧ dA d 2 = lN w ∧ dA d 3 = lN c ∧ a ≤ 3840 * s ∧ w ≤ a ∧ c ≤ 9999 * w
theorem AcD.mono {M : Nat} (h : AcD N d) (hM : N ≤ M) : AcD M d := by
  obtain ⟨s, a, w, c, h1, h2⟩ := h
  exact ⟨s, a, w, c, Nat.le_trans h1 hM, h2⟩
theorem AcD.cg (h : AcD N d) (e : dA d2 = dA d) : AcD N d2 := by
  unfold AcD
  rw [e]; exact h
theorem wcS_N (hq : GdP q) {rs : Nat → Nat} : ∀ n, n ≤ pM q → ∃ t c, waS rs n = nI t ∧ wcS q rs n = nI c ∧ c ≤ 9999 * t ∧ t = fb_sm rs n
  | 0, _ => ⟨0, 0, rfl, rfl, Nat.le_refl _, rfl⟩
  | n + 1, h => by
    obtain ⟨t, c, h1, h2, h3, h4⟩ := wcS_N hq n (by omega)
    obtain ⟨z, hz, ez⟩ := hq.cost (i := n) (by omega)
    refine ⟨t + rs n, c + rs n * z, ?_, ?_, ?_, ?_⟩
    · show itN (fun i a => a + nI (rs i)) 0 (n + 1) = _
      rw [itN_succ]
      show waS rs n + nI (rs n) = _
      rw [h1, nI_add]
    · show itN (fun i a => a + nI (rs i) * pF q 5 i) 0 (n + 1) = _
      rw [itN_succ]
      show wcS q rs n + nI (rs n) * pF q 5 n = _
      rw [h2, ez, nI_mulI, nI_add]
    · have : rs n * z ≤ 9999 * rs n := by rw [Nat.mul_comm]; exact Nat.mul_le_mul_right _ hz
      omega
    · rw [fb_sm_succ, h4]
theorem AcD.srv (h : AcD N d) (hq : GdP q) (hd : GdD q d) {G : Nat → Option Nat} {rs : Nat → Nat} {n : Nat} (hS : SvS q d G rs n) : AcD (N + 1) (srvD q d) := by
  obtain ⟨s, a, w, c, h1, h2, h3, h4, h5, h6, h7, h8⟩ := h
  have hS2 := svR_of hS
  obtain ⟨f1, f2, _⟩ := hS2.facts hq.M4 (WiD.of hd)
  obtain ⟨t, w1, w2, w3⟩ := wa_N hq hd f1 f2
  obtain ⟨t2, c2, v1, v2, v3, v4⟩ := wcS_N hq (rs := (svR q d).2.1) (pM q) (Nat.le_refl _)
  have ht : fb_sm (svR q d).2.1 (pM q) ≤ 2 ^ 30 := by
    have : ∀ n, n ≤ pM q → fb_sm (svR q d).2.1 n ≤ 12 * 0 + fb_sm (ldN q d) n := fun n => by
      induction n with
      | zero => intro _; exact Nat.le_refl _
      | succ n ih =>
        intro hn
        have := f1 n (by omega)
        rw [fb_sm_succ, fb_sm_succ]
        have := ih (by omega)
        omega
    have h2 : ∀ n, n ≤ pM q → fb_sm (ldN q d) n ≤ n * 100000 := fun n => by
      induction n with
      | zero => intro _; exact Nat.le_refl _
      | succ n ih =>
        intro hn
        have := (ldD_N hq hd (show n < 12 by have := hq.M4; omega)).2
        rw [fb_sm_succ]
        have := ih (by omega)
        omega
    have := this (pM q) (Nat.le_refl _)
    have := h2 (pM q) (Nat.le_refl _)
    have := hq.M4
    omega
  have et : t2 = t := by
    have : nI t2 = nI t := v1.symm.trans w2
    exact (nI_eqI (by omega) (by omega)).mp this
  subst et
  refine ⟨s + 1, a + (t2 + szG (svR q d).1 (dP d)), w + t2, c + c2, by omega, ?_, ?_, ?_, ?_, by omega, by omega, by omega⟩
  · show dA d 5 + 1 = _
    rw [h2]; exact (lN_add s 1)
  · show dA d 0 + (alD q d).toInt64 = _
    rw [h3, w1, nI_l (by omega), lN_add]
  · show dA d 2 + (waS (svR q d).2.1 (pM q)).toInt64 = _
    rw [h4, w2, nI_l (by omega), lN_add]
  · show dA d 3 + (wcS q (svR q d).2.1 (pM q)).toInt64 = _
    rw [h5, v2, nI_l (by omega), lN_add]
def InD (N : Nat) (q : PDt) (d : FDt) : Prop := GdD q d ∧ TuD q d ∧ NoF q d ∧ SeD q d ∧ AcD N d
theorem InD.mono {M : Nat} (h : InD N q d) (hM : N ≤ M) : InD M q d := ⟨h.1, h.2.1, h.2.2.1, h.2.2.2.1, h.2.2.2.2.mono hM⟩
theorem InD.act (h : InD N q d) (hgo : goD q d) (hg : GdD q d2) (ht : TuD q d2) (h0 : dF d2 6 0 = dF d 6 0) (ha : dA d2 = dA d) : InD N q d2 :=
  ⟨hg, ht, fun e => absurd e (go_s0 hgo).2, Or.inl (h0.trans (go_s0 hgo).1), h.2.2.2.2.cg ha⟩
theorem InD.brd (h : InD N q d) (hgo : goD q d) (hP : dP d < 40) {c n : Nat} {v : Int32} (hc : c < pC q) (hn : n < 256) (hv : v = -1 ∨ ∃ x, x < pM q ∧ v = nI x) : InD N q (brdD d (nI c) (nI n) v) := by
  have e : ∀ a i, 3 ≤ a → dF (brdD d (nI c) (nI n) v) a i = dF d a i := fun a i ha => if_neg (by omega)
  exact h.act hgo (h.1.brd hP hc hn hv) (h.2.1.cg rfl (fun i => e 5 i (by decide)) (e 6 1 (by decide))) (e 6 0 (by decide)) rfl
theorem InD.leave (h : InD N q d) (hgo : goD q d) {i : Nat} (hi : i < dP d) : InD N q (leaveD d i) := by
  have e : ∀ a x, 3 ≤ a → dF (leaveD d i) a x = dF d a x := fun a x ha => if_neg (by omega)
  exact h.act hgo (h.1.leave hi) (h.2.1.cg rfl (fun i => e 5 i (by decide)) (e 6 1 (by decide))) (e 6 0 (by decide)) rfl
theorem InD.nees (h : InD N q d) (hgo : goD q d) {i n : Nat} (hn : n < 256) : InD N q (cellD d 1 i (nI n)) := by
  have e : ∀ a x, 3 ≤ a → dF (cellD d 1 i (nI n)) a x = dF d a x := fun a x ha => up2_ne (by omega)
  exact h.act hgo (h.1.nees hn) (h.2.1.cg rfl (fun i => e 5 i (by decide)) (e 6 1 (by decide))) (e 6 0 (by decide)) rfl
theorem InD.chg (h : InD N q d) (hgo : goD q d) {i c : Nat} (hc : c < pC q) : InD N q (cellD (cellD d 0 i (nI c)) 2 i (-1)) := by
  have e : ∀ a x, 3 ≤ a → dF (cellD (cellD d 0 i (nI c)) 2 i (-1)) a x = dF d a x := fun a x ha => (up2_ne (by omega)).trans (up2_ne (by omega))
  exact h.act hgo (h.1.chg hc) (h.2.1.cg rfl (fun i => e 5 i (by decide)) (e 6 1 (by decide))) (e 6 0 (by decide)) rfl
theorem InD.st (h : InD N q d) (hq : GdP q) (hgo : goD q d) {m : Nat} (hm : m < pM q) (n : Nat) : InD N q (stM q m n d).2 := by
  have hs := stM_lo (q := q) (k := m) n d
  exact h.act hgo (h.1.st hq hm n) (h.2.1.cg hs.2.1 (fun i => hs.2.2.2.1 5 i (by decide)) (hs.2.2.2.1 6 1 (by decide))) (hs.2.2.2.1 6 0 (by decide)) hs.2.2.1
theorem InD.so (h : InD N q d) (hq : GdP q) (hgo : goD q d) (u : Nat → Int32) : InD N q (soF q u (pM q) 0 0 d).2 := by
  have h7 := so_lo7 (q := q) u (pM q) 0 0 d
  have hl := so_lo (q := q) u (pM q) 0 0 d
  exact h.act hgo (GdD.soF hq (pM q) 0 0 d (Nat.zero_add _) h.1) (h.2.1.cg h7.1 (fun i => h7.2 5 i (by decide)) (h7.2 6 1 (by decide))) (h7.2 6 0 (by decide)) hl.2.1
theorem InD.to (h : InD N q d) (hq : GdP q) (hgo : goD q d) {m n : Nat} (hm : m < pM q) (hn : n < 2 ^ 31) : InD N q (toD m (pT q) (nI n) d) := by
  have h7 := to_lo7 m (pT q) (nI n) d
  have hl := to_lo m (pT q) (nI n) d
  exact h.act hgo (GdD.to hq hm (pT q) n d (Nat.le_refl _) hn h.1) (h.2.1.cg h7.1 (fun i => h7.2 5 i (by decide)) (h7.2 6 1 (by decide))) (h7.2 6 0 (by decide)) hl.2.1
theorem InD.top (h : InD N q d) (hq : GdP q) (hgo : goD q d) {m n : Nat} (hm : m < pM q) (g1 : 1 ≤ n) (g2 : n ≤ 99) (hU : dU d < 6) (hle : pF q 9 3 ≤ dF d 6 1) : InD N q (laD q (askD q d (nI m) (nI n))).2 := by
  refine h.act hgo (GdD.la hq (h.1.askC hU hm g1 g2)) (h.2.1.top hle) ((la_lo.2.2 0).trans ?_) la_lo.2.1
  show (if 0 = dU d ∧ 3 ≤ 6 ∧ 6 ≤ 5 then _ else dF d 6 0) = _
  rw [if_neg (fun y => absurd y.2.2 (by decide))]
theorem InD.adv (h : InD N q d) (hq : GdP q) (hgo : goD q d) {n : Nat} (hn : 1 ≤ n) (hmi : nI n ≤ dF d 6 1) (g2 : n ≤ 999) : GdD q (cellD d 6 1 (dF d 6 1 - nI n)) ∧ InD N q (laD q (cellD d 6 1 (dF d 6 1 - nI n))).2 := by
  obtain ⟨m, hm, em⟩ := h.1.min
  have hle : n ≤ m := by rw [em, nI_leI (by omega) (by omega)] at hmi; exact hmi
  have e : dF d 6 1 - nI n = nI (m - n) := by rw [em, nI_subI hle]
  have hg : GdD q (cellD d 6 1 (dF d 6 1 - nI n)) := by rw [e]; exact h.1.minC (by omega)
  refine ⟨hg, h.act hgo (GdD.la hq hg) (h.2.1.adv e (by rw [em, nI_leI (by omega) (by omega)]; omega) (by omega)) ((la_lo.2.2 0).trans ?_) la_lo.2.1⟩
  rfl
theorem InD.srv (h : InD N q d) (hq : GdP q) (hgo : goD q d) {G : Nat → Option Nat} {rs : Nat → Nat} {n : Nat} (hS : SvS q d G rs n) : InD (N + 1) q (srvD q d) :=
  ⟨h.1.srvd, TuD.none hq (m := 0) rfl (by decide) rfl, fun e => absurd e (go_s0 hgo).2, SeD.srv hS, h.2.2.2.2.srv hq h.1 hS⟩
theorem InD.ld {z : PZ} (hg : GzD z) (ha : AcD N d) : InD N z.1 (ldA z d) := by
  have hne : ∀ a i, ¬ (a = 6 ∧ i = 1) → dF (ldA z d) a i = dF z.2.1 a i := fun a i y => up2_ne y
  obtain ⟨m, m1, m2, em⟩ := hg.mins
  have e61 : dF (ldA z d) 6 1 = nI m := (show up2 (dF z.2.1) 6 1 (pF z.1 9 1) 6 1 = _ from up2_eq _ _ _ _).trans em
  have e60 : dF (ldA z d) 6 0 = 0 := (hne 6 0 (by omega)).trans hg.srv
  have hU : dU (ldA z d) = 0 := hg.u0
  have hun : ∀ t i, dF (ldA z d) (7 + t) i = 0 := fun t i => (hne _ _ (by omega)).trans (hg.un _ _ (by omega))
  refine ⟨⟨⟨hg.P4, by rw [hU]; decide⟩, fun i hi => ?_, fun t k _ _ => ⟨0, by decide, hun t k⟩, fun t ht => ?_, fun i hi => ?_, ⟨m, m2, e61⟩, Or.inl e60⟩, TuD.none hg.q e61 m2 hU, fun e => absurd (hg.told.symm.trans e) (by decide), Or.inl e60, ha.cg rfl⟩
  · rw [hne 0 i (by omega), hne 1 i (by omega), hne 2 i (by omega)]
    exact hg.pas i hi
  · obtain ⟨s, hs, es⟩ := hg.q.sl ht
    refine ⟨s, hs, ?_⟩
    have : ∀ n, itN (fun i a => a - dF (ldA z d) (7 + t) i * pF z.1 4 i) (pF z.1 8 t) n = pF z.1 8 t := fun n => by
      induction n with
      | zero => rfl
      | succ n ih => rw [itN_succ, ih, hun, Int32.zero_mul, Int32.sub_zero]
    exact (this (pM z.1)).trans es
  · rw [hU] at hi
    exact absurd hi (Nat.not_lt_zero i)
end IND
