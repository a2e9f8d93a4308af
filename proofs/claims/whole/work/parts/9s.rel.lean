section REL
variable {μ W W' V : Wd} {p p0 : Nat} {q : PDt} {d : FDt} {H : Hst} {S : Nat → Option FDt} {N L : Nat} {B : Nat → Nat} {os : List Int32} {nm : Nat → List Nat}
abbrev sCx : Nat → Prop := fun i => i = 0 ∨ (24 ≤ i ∧ i ≤ 57) ∨ i = 82 ∨ (84 ≤ i ∧ i ≤ 337)
/-- the class moved on -/
def ClP (μ V : Wd) : Prop := Out sCx μ V ∧ (∀ k, k ≠ 6 → k ≠ 17 → gI V 0 k = gI μ 0 k) ∧ ∀ k, gR V 0 k = gR μ 0 k
abbrev s363 : Nat → Prop := fun i => i = 363
abbrev sMx : Nat → Prop := fun i => i = 338 ∨ (344 ≤ i ∧ i ≤ 351) ∨ (353 ≤ i ∧ i ≤ 361)
/-- the model moved on -/
def MoP (μ V : Wd) : Prop := Out sMx μ V ∧ ∀ k, k ≠ 0 → k ≠ 14 → k ≠ 15 → gI V 338 k = gI μ 338 k
theorem ClP.rfl' (hw : Wf μ) : ClP μ μ := ⟨Out.rfl' hw, fun _ _ _ => rfl, fun _ => rfl⟩
theorem ClP.ask (h : AskQ μ q d V) : ClP μ V := ⟨h.1.mono (fun i y => by rcases y with y | y <;> omega), fun k _ h2 => h.2.1 k h2, h.2.2.1⟩
theorem ClP.act (h : ActQ μ V p q d H S) : ClP μ V := ⟨h.2.2.1.mono (fun i y => by rcases y with y | y | y | y | y <;> omega), fun k _ h2 => h.2.2.2.1 k h2, h.2.2.2.2⟩
theorem ClP.s6 (hw : Wf μ) (v : Int32) : ClP μ (sI μ 0 6 v) := ⟨(Out.rfl' hw).sI (S := sCx) (Or.inl rfl) _ _, fun k h1 _ => by rw [gI_sI, if_neg (fun y => h1 y.2)], fun k => gR_sI ..⟩
theorem ClP.trans (a : ClP μ W) (b : ClP W V) : ClP μ V := ⟨a.1.trans b.1, fun k h1 h2 => (b.2.1 k h1 h2).trans (a.2.1 k h1 h2), fun k => (b.2.2 k).trans (a.2.2 k)⟩
theorem ClP.tr (h : Out sTr μ V) : ClP μ V := ⟨h.mono (fun i y => by rcases y with y | y <;> omega), fun k _ _ => h.i (fun y => by rcases y with y | y <;> omega) k, fun k => h.r (fun y => by rcases y with y | y <;> omega) k⟩
theorem ClP.sl (h : Out sSl μ V) : ClP μ V := ⟨h.mono (fun i y => by have := y.1; have := y.2; omega), fun k _ _ => h.i (fun y => by have := y.1; omega) k, fun k => h.r (fun y => by have := y.1; omega) k⟩
theorem MoP.mq {v : Int32} (h : MqQ μ v V) : MoP μ V := ⟨h.1.mono (fun i y => by rcases y with y | y <;> omega), fun k h0 _ _ => h.2.2 k h0⟩
theorem CrV.md {T : Nat → Prop} (h : CrV μ p q d H S) (ho : Out T μ W) (hT : ∀ i, T i → 338 ≤ i) : CrV W p q d H S := by
  obtain ⟨h1, h2, h3, h4, h5, h6⟩ := h
  have hp := pl_le h2.pl
  refine ⟨ho.1, h2.out ho (fun i a b y => by have := hT i y; omega), h3.out ho (fun i a b y => by have := hT i y; omega), h4.out ho (fun i y => by have := hT i y; omega), h5.out ho (fun i y => by have := hT i y; omega), h6.out ho (fun i a b y => by have := hT i y; omega) (ho.i (fun y => by have := hT 0 y; omega) 17)⟩
theorem CrV.ask (h : CrV μ p q d H S) (a : AskQ μ q d W) : CrV W p q d H S := by
  obtain ⟨h1, h2, h3, h4, h5, h6⟩ := h
  obtain ⟨ho, a2, a3, a4⟩ := a
  have hp := pl_le h2.pl
  refine ⟨ho.1, h2.out ho (fun i a b y => ?_), h3.out ho (fun i a b y => by rcases y with y | y <;> omega), h4.out ho (fun i y => by rcases y with y | y <;> omega), h5.out ho (fun i y => by rcases y with y | y <;> omega), a4⟩
  rcases h2.pl with e | e <;> (subst e; rcases y with y | y <;> omega)
/-- data in their ranges -/
def StV (N p p0 : Nat) (q : PDt) (d : FDt) (H : Hst) (S : Nat → Option FDt) : Prop := GdP q ∧ InD N q d ∧ (∀ i, i < H.1 → InD N q (H.2 i)) ∧ (∀ j e, j < 2 → S j = some e → InD N q e) ∧ Pl p0 ∧ p0 ≠ p
theorem StV.mono (h : StV N p p0 q d H S) : StV (N + 1) p p0 q d H S := ⟨h.1, h.2.1.mono (by omega), fun i hi => (h.2.2.1 i hi).mono (by omega), fun j e hj he => (h.2.2.2.1 j e hj he).mono (by omega), h.2.2.2.2⟩
/-- text, output, names, errors -/
def ReV (N p p0 : Nat) (q : PDt) (nm : Nat → List Nat) (L : Nat) (B : Nat → Nat) (os : List Int32) (μ : Wd) : Prop :=
  gR μ 0 9 = some p0 ∧ (L ≤ 900 ∧ gI μ 0 1 = nI L ∧ gI μ 338 17 = nI L ∧ ∀ k, k < L → B k < 256 ∧ gI μ 1 k = sby (B k) ∧ gI μ 352 k = nI (B k)) ∧ (OuV μ os ∧ MoV μ os) ∧ (∀ i, i < pM q → NmV μ (p + 7 + i) (nm i) ∧ NaL (nm i) ∧ gL μ 341 i = lN (wvN (nm i))) ∧ (gI μ 0 4 = gI μ 338 23 ∧ gI μ 0 5 = gI μ 338 24) ∧ K3 (wn μ) ∧ wn μ ≤ 364 + 48 * N
theorem ReV.fr {T : Nat → Prop} (h : ReV N p p0 q nm L B os μ) (hp : Pl p) (hM : pM q ≤ 12) (hw : Wf μ) (ho : Out T μ W) (hT : ∀ i, T i → i < 364 ∧ i ≠ 1 ∧ i ≠ 2 ∧ i ≠ 341 ∧ i ≠ 352 ∧ i ≠ 362 ∧ ¬ (3 ≤ i ∧ i ≤ 23) ∧ ¬ (58 ≤ i ∧ i ≤ 78)) (h0 : ∀ k, k ≠ 6 → k ≠ 17 → gI W 0 k = gI μ 0 k) (hr : ∀ k, gR W 0 k = gR μ 0 k) (hm : ∀ k, k ≠ 0 → k ≠ 14 → k ≠ 15 → gI W 338 k = gI μ 338 k) : ReV N p p0 q nm L B os W := by
  obtain ⟨a1, ⟨b1, b2, b3, b4⟩, ⟨⟨c1, c2, c3⟩, ⟨e1, e2, e3⟩⟩, f, ⟨g1, g2⟩, k1, k2⟩ := h
  have n1 : ∀ i, (i = 1 ∨ i = 2 ∨ i = 341 ∨ i = 352 ∨ i = 362) → ¬ T i := fun i hi y => by have := hT i y; omega
  refine ⟨(hr 9).trans a1, ⟨b1, (h0 1 (by decide) (by decide)).trans b2, (hm 17 (by decide) (by decide) (by decide)).trans b3, fun k hk => ⟨(b4 k hk).1, (ho.i (n1 1 (by decide)) k).trans (b4 k hk).2.1, (ho.i (n1 352 (by decide)) k).trans (b4 k hk).2.2⟩⟩, ⟨⟨(h0 3 (by decide) (by decide)).trans c1, c2, fun k hk => (ho.i (n1 2 (by decide)) k).trans (c3 k hk)⟩, ⟨(hm 38 (by decide) (by decide) (by decide)).trans e1, e2, fun k hk => (ho.i (n1 362 (by decide)) k).trans (e3 k hk)⟩⟩, fun i hi => ?_, ⟨(h0 4 (by decide) (by decide)).trans (g1.trans (hm 23 (by decide) (by decide) (by decide)).symm), (h0 5 (by decide) (by decide)).trans (g2.trans (hm 24 (by decide) (by decide) (by decide)).symm)⟩, by rw [ho.2.1]; exact k1, by rw [ho.2.1]; exact k2⟩
  obtain ⟨x1, x2, x3⟩ := f i hi
  have hpp := pl_le hp
  refine ⟨x1.ex (Ex.of ho) (fun i y => (hT i y).1) (hw.lt (by omega)) (fun y => ?_), x2, (ho.l (n1 341 (by decide)) i).trans x3⟩
  have := hT _ y
  rcases hp with e | e <;> (subst e; omega)
theorem ReV.mono (h : ReV N p p0 q nm L B os μ) : ReV (N + 1) p p0 q nm L B os μ := ⟨h.1, h.2.1, h.2.2.1, h.2.2.2.1, h.2.2.2.2.1, h.2.2.2.2.2.1, by have := h.2.2.2.2.2.2; omega⟩
def RelP (N p p0 : Nat) (q : PDt) (d : FDt) (H : Hst) (S : Nat → Option FDt) (L : Nat) (B : Nat → Nat) (os : List Int32) (nm : Nat → List Nat) (μ : Wd) : Prop :=
  CrV μ p q d H S ∧ StV N p p0 q d H S ∧ (MnV μ q d ∧ MpV μ q H ∧ MsV μ q S) ∧ ReV N p p0 q nm L B os μ ∧ gI μ 0 6 = gI μ 338 15
def RelV (N : Nat) (μ : Wd) : Prop := ∃ (p p0 : Nat) (q : PDt) (d : FDt) (H : Hst) (S : Nat → Option FDt) (L : Nat) (B : Nat → Nat) (os : List Int32) (nm : Nat → List Nat), RelP N p p0 q d H S L B os nm μ
theorem RelP.cr (h : RelP N p p0 q d H S L B os nm μ) : CrV μ p q d H S := h.1
theorem RelP.gp (h : RelP N p p0 q d H S L B os nm μ) : GdP q := h.2.1.1
theorem RelP.ind (h : RelP N p p0 q d H S L B os nm μ) : InD N q d := h.2.1.2.1
theorem RelP.mn (h : RelP N p p0 q d H S L B os nm μ) : MnV μ q d := h.2.2.1.1
theorem RelP.mp (h : RelP N p p0 q d H S L B os nm μ) : MpV μ q H := h.2.2.1.2.1
theorem RelP.ms (h : RelP N p p0 q d H S L B os nm μ) : MsV μ q S := h.2.2.1.2.2
theorem RelP.re (h : RelP N p p0 q d H S L B os nm μ) : ReV N p p0 q nm L B os μ := h.2.2.2.1
/-- the class moved on, the model not yet -/
def MidP (N p p0 : Nat) (q : PDt) (d : FDt) (H : Hst) (S : Nat → Option FDt) (d' : FDt) (H' : Hst) (S' : Nat → Option FDt) (L : Nat) (B : Nat → Nat) (os : List Int32) (nm : Nat → List Nat) (r6 r15 : Int32) (W : Wd) : Prop :=
  CrV W p q d' H' S' ∧ (MnV W q d ∧ MpV W q H ∧ MsV W q S) ∧ ReV N p p0 q nm L B os W ∧ gI W 0 6 = r6 ∧ gI W 338 15 = r15
variable {d' : FDt} {H' : Hst} {S' : Nat → Option FDt} {r6 r15 : Int32}
theorem mid_cl (h : RelP N p p0 q d H S L B os nm μ) (hC : ClP μ W) (hc : CrV W p q d' H' S') : MidP N p p0 q d H S d' H' S' L B os nm (gI W 0 6) (gI μ 338 15) W := by
  have hn : ∀ i, 338 ≤ i → ¬ sCx i := fun i hi y => by rcases y with y | y | y | y <;> omega
  have hm : ∀ k, gI W 338 k = gI μ 338 k := fun k => hC.1.i (hn 338 (by decide)) k
  refine ⟨hc, ⟨h.mn.out hC.1 (hn _ (by decide)) (hn _ (by decide)) (hn _ (by decide)), h.mp.out hC.1 (hm 14) (hn _ (by decide)) (hn _ (by decide)), h.ms.out hC.1 (hn _ (by decide)) (hn _ (by decide)) (hn _ (by decide))⟩, ?_, rfl, hm 15⟩
  exact h.re.fr h.cr.pv.pl h.gp.M4 h.cr.wf hC.1 (fun i y => by rcases y with y | y | y | y <;> omega) hC.2.1 hC.2.2 (fun k _ _ _ => hm k)
theorem MidP.o (h : MidP N p p0 q d H S d' H' S' L B os nm r6 r15 W) (hM : pM q ≤ 12) (ho : Out s363 W W') : MidP N p p0 q d H S d' H' S' L B os nm r6 r15 W' := by
  obtain ⟨h1, ⟨h2, h3, h4⟩, h5, h6, h7⟩ := h
  exact ⟨h1.md ho (fun i y => by omega), ⟨h2.out ho (by decide) (by decide) (by decide), h3.out ho (ho.i (by decide) 14) (by decide) (by decide), h4.out ho (by decide) (by decide) (by decide)⟩, h5.fr h1.pv.pl hM h1.wf ho (fun i y => by omega) (fun k _ _ => ho.i (by decide) k) (fun k => ho.r (by decide) k) (fun k _ _ _ => ho.i (by decide) k), (ho.i (by decide) 6).trans h6, (ho.i (by decide) 15).trans h7⟩
theorem MidP.fin (h : MidP N p p0 q d H S d' H' S' L B os nm r6 r15 W) (hM : pM q ≤ 12) (hm : MoP W V) (h1 : MnV V q d' ∧ MpV V q H' ∧ MsV V q S') (h2 : StV (N + 1) p p0 q d' H' S') (h15 : gI V 338 15 = r6) : RelP (N + 1) p p0 q d' H' S' L B os nm V := by
  obtain ⟨a1, _, a3, a4, _⟩ := h
  have hx : ∀ i, sMx i → 338 ≤ i := fun i y => by rcases y with y | y | y <;> omega
  have h0 : ∀ k, gI V 0 k = gI W 0 k := fun k => hm.1.i (fun y => by have := hx 0 y; omega) k
  exact ⟨a1.md hm.1 hx, h2, h1, (a3.fr a1.pv.pl hM a1.wf hm.1 (fun i y => by rcases y with y | y | y <;> omega) (fun k _ _ => h0 k) (fun k => hm.1.r (fun y => by have := hx 0 y; omega) k) hm.2).mono, (h0 6).trans (a4.trans h15.symm)⟩
/-- nothing changed -/
theorem MidP.rel (h : MidP N p p0 q d H S d H S L B os nm r6 r6 W) (hs : StV N p p0 q d H S) : RelP N p p0 q d H S L B os nm W := ⟨h.1, hs, h.2.1, h.2.2.1, h.2.2.2.1.trans h.2.2.2.2.symm⟩
theorem rel_mq (h : RelP N p p0 q d H S L B os nm W) {v : Int32} (hm : MqQ W v V) : RelP (N + 1) p p0 q d H S L B os nm V ∧ gL V 363 0 = gL W 363 0 ∧ gX V = gX W := by
  have hn : ∀ i, i ≠ 338 → ¬ (353 ≤ i ∧ i ≤ 361) → ¬ sMq i := fun i h1 h2 y => by rcases y with y | y <;> omega
  have hC : MidP N p p0 q d H S d H S L B os nm (gI W 0 6) (gI W 0 6) W := ⟨h.cr, h.2.2.1, h.re, rfl, h.2.2.2.2.symm⟩
  refine ⟨hC.fin h.gp.M4 (MoP.mq hm) ⟨h.mn.out hm.1 (hn _ (by decide) (by decide)) (hn _ (by decide) (by decide)) (hn _ (by decide) (by decide)), h.mp.out hm.1 (hm.2.2 14 (by decide)) (hn _ (by decide) (by decide)) (hn _ (by decide) (by decide)), h.ms.out hm.1 (hn _ (by decide) (by decide)) (hn _ (by decide) (by decide)) (hn _ (by decide) (by decide))⟩ h.2.1.mono ((hm.2.2 15 (by decide)).trans h.2.2.2.2.symm), hm.1.l (hn 363 (by decide) (by decide)) 0, hm.1.2.2.2.1⟩
/-- an answer is of the method's type -/
def vTy (t : Option FieldType) (v : Value) : Prop := match t with
  | some .int => ∃ z, v = .int z
  | some .long => ∃ z, v = .long z
  | _ => True
/-- one operation, on both sides -/
def OpR (Yc : Yd) (rc rx : Room) (Ym : Yd) (rm : Room) (as : List Value) (ks : List (String × Nat)) (N : Nat) (μ : Wd) : Prop :=
  (∃ (v : Value) (W : Wd), vTy Yc.2.2.2.1 v ∧ Wf W ∧ Ct Yc rc (.ref 0 :: as) μ (.inl (some v)) W ∧ gX W = gX μ ∧ ∀ W', Out s363 W W' → ∃ V, Ct Ym rm (.ref 338 :: as) W' (.inl (some v)) V ∧ gI V 338 0 = 0 ∧ RelV (N + 1) V ∧ gL V 363 0 = gL W' 363 0 ∧ gX V = gX W') ∨
  (∃ (x : String) (k : Nat) (W : Wd), (x, k) ∈ ks ∧ Wf W ∧ Ct Yc rx (.ref 0 :: as) μ (.inr x) W ∧ gX W = gX μ ∧ ∀ W', Out s363 W W' → ∃ (b : Value) (V : Wd), vTy Ym.2.2.2.1 b ∧ Ct Ym rm (.ref 338 :: as) W' (.inl (some b)) V ∧ gI V 338 0 = nI k ∧ RelV (N + 1) V ∧ gL V 363 0 = gL W' 363 0 ∧ gX V = gX W')
theorem RelP.v (h : RelP N p p0 q d H S L B os nm μ) : RelV N μ := ⟨p, p0, q, d, H, S, L, B, os, nm, h⟩
variable {Yc Ym : Yd} {rc rx rm : Room} {as : List Value} {ks : List (String × Nat)}
theorem op_ask (h : RelP N p p0 q d H S L B os nm μ) {v : Value} (hc : CV Yc rc (.ref 0 :: as) μ (fun r V => r = some v ∧ AskQ μ q d V)) (hm : ∀ W', RelP N p p0 q d H S L B os nm W' → CV Ym rm (.ref 338 :: as) W' (fun r V => r = some v ∧ MqQ W' 0 V)) (ht : vTy Yc.2.2.2.1 v := by exact Exists.intro _ rfl) : OpR Yc rc rx Ym rm as ks N μ := by
  obtain ⟨_, W, kc, rfl, ha⟩ := hc
  refine Or.inl ⟨v, W, ht, ha.1.1, kc, ha.1.2.2.2.1, fun W' ho => ?_⟩
  have h1 := mid_cl h (ClP.ask ha) (h.cr.ask ha)
  rw [ha.2.1 6 (by decide), h.2.2.2.2] at h1
  have h2 := (h1.o h.gp.M4 ho).rel h.2.1
  obtain ⟨_, V, km, rfl, hq⟩ := hm W' h2
  obtain ⟨a1, a2, a3⟩ := rel_mq h2 hq
  exact ⟨V, km, hq.2.1, a1.v, a2, a3⟩
theorem op_same (h : RelP N p p0 q d H S L B os nm μ) {v : Value} (hc : Ct Yc rc (.ref 0 :: as) μ (.inl (some v)) μ) (hm : ∀ W', RelP N p p0 q d H S L B os nm W' → ∃ V, Ct Ym rm (.ref 338 :: as) W' (.inl (some v)) V ∧ MqQ W' 0 V) (ht : vTy Yc.2.2.2.1 v := by exact Exists.intro _ rfl) : OpR Yc rc rx Ym rm as ks N μ := by
  refine Or.inl ⟨v, μ, ht, h.cr.wf, hc, rfl, fun W' ho => ?_⟩
  have h1 := mid_cl h (ClP.rfl' h.cr.wf) h.cr
  rw [h.2.2.2.2] at h1
  have h2 := (h1.o h.gp.M4 ho).rel h.2.1
  obtain ⟨V, km, hq⟩ := hm W' h2
  obtain ⟨a1, a2, a3⟩ := rel_mq h2 hq
  exact ⟨V, km, hq.2.1, a1.v, a2, a3⟩
theorem op_no (h : RelP N p p0 q d H S L B os nm μ) {x : String} {k : Nat} (hk : (x, k) ∈ ks) (hc : Ct Yc rx (.ref 0 :: as) μ (.inr x) μ) (hm : ∀ W', RelP N p p0 q d H S L B os nm W' → ∃ (b : Value) (V : Wd), vTy Ym.2.2.2.1 b ∧ Ct Ym rm (.ref 338 :: as) W' (.inl (some b)) V ∧ MqQ W' (nI k) V) : OpR Yc rc rx Ym rm as ks N μ := by
  refine Or.inr ⟨x, k, μ, hk, h.cr.wf, hc, rfl, fun W' ho => ?_⟩
  have h1 := mid_cl h (ClP.rfl' h.cr.wf) h.cr
  rw [h.2.2.2.2] at h1
  have h2 := (h1.o h.gp.M4 ho).rel h.2.1
  obtain ⟨b, V, tb, km, hq⟩ := hm W' h2
  obtain ⟨a1, a2, a3⟩ := rel_mq h2 hq
  exact ⟨b, V, tb, km, hq.2.1, a1.v, a2, a3⟩
theorem no_1 (hw : Wf W') {x : Value} {k : Nat} {V : Wd} (hV : V = sI W' 338 0 (nI k)) (h : Ct Ym rm (.ref 338 :: as) W' (.inl (some x)) V) (ht : vTy Ym.2.2.2.1 x := by exact Exists.intro _ rfl) : ∃ (b : Value) (V : Wd), vTy Ym.2.2.2.1 b ∧ Ct Ym rm (.ref 338 :: as) W' (.inl (some b)) V ∧ MqQ W' (nI k) V := ⟨x, V, ht, h, by rw [hV]; exact MqQ.of hw (nI k)⟩
theorem yes_1 (hw : Wf W') {x : Value} (h : Ct Ym rm (.ref 338 :: as) W' (.inl (some x)) (sI W' 338 0 0)) : ∃ V, Ct Ym rm (.ref 338 :: as) W' (.inl (some x)) V ∧ MqQ W' 0 V := ⟨_, h, MqQ.of hw 0⟩
theorem o_cabin (h : RelV N μ) (x y : Int32) : OpR Y_X10_cabin R_X10_cabin RX_X10_cabin Y_X11_cabin R_X11_cabin [.int x, .int y] [(NSE, 1), (IAE, 2)] N μ := by
  obtain ⟨p, p0, q, d, H, S, L, B, os, nm, h⟩ := h
  have hw := h.cr.wf
  have hv := h.cr.fv
  have hq := h.cr.pv
  have hg := h.gp
  have hd := h.ind.1
  have hn := h.ind.2.2.1
  have he := h.ind.2.2.2.1
  cases e1 : ixO x (pC q) with
  | none => exact op_no h (k := 1) (by simp) (cx_cabin hw hv hq e1) (fun W' h' => no_1 h'.cr.wf rfl (mx_cabin h'.cr.wf h'.mn.1 e1))
  | some i =>
    obtain ⟨hi, rfl⟩ := ixO_some e1
    cases e2 : ixO y (8) with
    | none => exact op_no h (k := 2) (by simp) (cy_cabin hw hv hq hi e2) (fun W' h' => no_1 h'.cr.wf rfl (my_cabin h'.cr.wf h'.mn.1 hi e2))
    | some k =>
      obtain ⟨hk, rfl⟩ := ixO_some e2
      exact op_ask h (c_cabin hw hv hq hg hd h.cr.sv hi hk) (fun W' h' => m_cabin h'.cr.wf h'.mn.1 hg hd hi hk)
theorem o_meal (h : RelV N μ) (x y : Int32) : OpR Y_X10_meal R_X10_meal RX_X10_meal Y_X11_meal R_X11_meal [.int x, .int y] [(NSE, 1), (IAE, 2)] N μ := by
  obtain ⟨p, p0, q, d, H, S, L, B, os, nm, h⟩ := h
  have hw := h.cr.wf
  have hv := h.cr.fv
  have hq := h.cr.pv
  have hg := h.gp
  have hd := h.ind.1
  have hn := h.ind.2.2.1
  have he := h.ind.2.2.2.1
  cases e1 : ixO x (pM q) with
  | none => exact op_no h (k := 1) (by simp) (cx_meal hw hv hq e1) (fun W' h' => no_1 h'.cr.wf rfl (mx_meal h'.cr.wf h'.mn.1 e1))
  | some i =>
    obtain ⟨hi, rfl⟩ := ixO_some e1
    cases e2 : ixO y (10) with
    | none => exact op_no h (k := 2) (by simp) (cy_meal hw hv hq hi e2) (fun W' h' => no_1 h'.cr.wf rfl (my_meal h'.cr.wf h'.mn.1 hi e2))
    | some k =>
      obtain ⟨hk, rfl⟩ := ixO_some e2
      exact op_ask h (c_meal hw hv hq hg hd h.cr.sv hi hk) (fun W' h' => m_meal h'.cr.wf h'.mn.1 hg hd h'.mn.2.1 hi hk)
theorem o_passenger (h : RelV N μ) (x y : Int32) : OpR Y_X10_passenger R_X10_passenger RX_X10_passenger Y_X11_passenger R_X11_passenger [.int x, .int y] [(NSE, 1), (IAE, 2)] N μ := by
  obtain ⟨p, p0, q, d, H, S, L, B, os, nm, h⟩ := h
  have hw := h.cr.wf
  have hv := h.cr.fv
  have hq := h.cr.pv
  have hg := h.gp
  have hd := h.ind.1
  have hn := h.ind.2.2.1
  have he := h.ind.2.2.2.1
  cases e1 : ixO x (dP d) with
  | none => exact op_no h (k := 1) (by simp) (cx_passenger hw hv hq e1) (fun W' h' => no_1 h'.cr.wf rfl (mx_passenger h'.cr.wf h'.mn.1 e1))
  | some i =>
    obtain ⟨hi, rfl⟩ := ixO_some e1
    cases e2 : ixO y (6) with
    | none => exact op_no h (k := 2) (by simp) (cy_passenger hw hv hq hi e2) (fun W' h' => no_1 h'.cr.wf rfl (my_passenger h'.cr.wf h'.mn.1 hi e2))
    | some k =>
      obtain ⟨hk, rfl⟩ := ixO_some e2
      exact op_ask h (c_passenger hw hv hq hg hd h.cr.sv hi hk) (fun W' h' => m_passenger h'.cr.wf h'.mn.1 h'.mn.2.1 hn hi hk)
theorem o_trolley (h : RelV N μ) (x y : Int32) : OpR Y_X10_trolley R_X10_trolley RX_X10_trolley Y_X11_trolley R_X11_trolley [.int x, .int y] [(NSE, 1), (IAE, 2)] N μ := by
  obtain ⟨p, p0, q, d, H, S, L, B, os, nm, h⟩ := h
  have hw := h.cr.wf
  have hv := h.cr.fv
  have hq := h.cr.pv
  have hg := h.gp
  have hd := h.ind.1
  have hn := h.ind.2.2.1
  have he := h.ind.2.2.2.1
  cases e1 : ixO x (pT q) with
  | none => exact op_no h (k := 1) (by simp) (cx_trolley hw hv hq e1) (fun W' h' => no_1 h'.cr.wf rfl (mx_trolley h'.cr.wf h'.mn.1 e1))
  | some i =>
    obtain ⟨hi, rfl⟩ := ixO_some e1
    cases e2 : ixO y (4) with
    | none => exact op_no h (k := 2) (by simp) (cy_trolley hw hv hq hi e2) (fun W' h' => no_1 h'.cr.wf rfl (my_trolley h'.cr.wf h'.mn.1 hi e2))
    | some k =>
      obtain ⟨hk, rfl⟩ := ixO_some e2
      exact op_ask h (c_trolley hw hv hq hg hd h.cr.sv hi hk) (fun W' h' => m_trolley h'.cr.wf h'.mn.1 hi hk)
theorem o_held (h : RelV N μ) (x y : Int32) : OpR Y_X10_held R_X10_held RX_X10_held Y_X11_held R_X11_held [.int x, .int y] [(NSE, 1)] N μ := by
  obtain ⟨p, p0, q, d, H, S, L, B, os, nm, h⟩ := h
  have hw := h.cr.wf
  have hv := h.cr.fv
  have hq := h.cr.pv
  have hg := h.gp
  have hd := h.ind.1
  have hn := h.ind.2.2.1
  have he := h.ind.2.2.2.1
  cases e1 : ixO x (pT q) with
  | none => exact op_no h (k := 1) (by simp) (cx_held hw hv hq e1) (fun W' h' => no_1 h'.cr.wf rfl (mx_held h'.cr.wf h'.mn.1 e1))
  | some i =>
    obtain ⟨hi, rfl⟩ := ixO_some e1
    cases e2 : ixO y (pM q) with
    | none => exact op_no h (k := 1) (by simp) (cy_held hw hv hq hi e2) (fun W' h' => no_1 h'.cr.wf rfl (my_held h'.cr.wf h'.mn.1 e1 e2))
    | some k =>
      obtain ⟨hk, rfl⟩ := ixO_some e2
      exact op_same h (c_held hw hv hq hi hk) (fun W' h' => yes_1 h'.cr.wf (m_held h'.cr.wf h'.mn.1 hi hk))
theorem o_topUpAt (h : RelV N μ) (x y : Int32) : OpR Y_X10_topUpAt R_X10_topUpAt RX_X10_topUpAt Y_X11_topUpAt R_X11_topUpAt [.int x, .int y] [(IOE, 1), (IAE, 2)] N μ := by
  obtain ⟨p, p0, q, d, H, S, L, B, os, nm, h⟩ := h
  have hw := h.cr.wf
  have hv := h.cr.fv
  have hq := h.cr.pv
  have hg := h.gp
  have hd := h.ind.1
  have hn := h.ind.2.2.1
  have he := h.ind.2.2.2.1
  cases e1 : ixO x (dU d) with
  | none => exact op_no h (k := 1) (by simp) (cx_topUpAt hw hv hq e1) (fun W' h' => no_1 h'.cr.wf rfl (mx_topUpAt h'.cr.wf h'.mn.1 e1))
  | some i =>
    obtain ⟨hi, rfl⟩ := ixO_some e1
    cases e2 : ixO y (3) with
    | none => exact op_no h (k := 2) (by simp) (cy_topUpAt hw hv hq hi e2) (fun W' h' => no_1 h'.cr.wf rfl (my_topUpAt h'.cr.wf h'.mn.1 hi e2))
    | some k =>
      obtain ⟨hk, rfl⟩ := ixO_some e2
      exact op_same h (c_topUpAt hw hv hq hi hk) (fun W' h' => yes_1 h'.cr.wf (m_topUpAt h'.cr.wf h'.mn.1 hi hk))
theorem o_outlook (h : RelV N μ) (x : Int32) : OpR Y_X10_outlook R_X10_outlook RX_X10_outlook Y_X11_outlook R_X11_outlook [.int x] [(IAE, 1)] N μ := by
  obtain ⟨p, p0, q, d, H, S, L, B, os, nm, h⟩ := h
  have hw := h.cr.wf
  have hv := h.cr.fv
  have hq := h.cr.pv
  have hg := h.gp
  have hd := h.ind.1
  have hn := h.ind.2.2.1
  have he := h.ind.2.2.2.1
  cases e1 : ixO x (6) with
  | none => exact op_no h (k := 1) (by simp) (cx_outlook hw hv hq e1) (fun W' h' => no_1 h'.cr.wf rfl (mx_outlook h'.cr.wf h'.mn.1 e1))
  | some k =>
    obtain ⟨hk, rfl⟩ := ixO_some e1
    exact op_ask h (c_outlook hw hv hq hg hd h.cr.sv hk) (fun W' h' => m_outlook h'.cr.wf h'.mn.1 hg hd h'.mn.2.1 he hk)
theorem o_mealFor (h : RelV N μ) (x : Int32) : OpR Y_X10_mealFor R_X10_mealFor RX_X10_mealFor Y_X11_mealFor R_X11_mealFor [.int x] [(NSE, 1)] N μ := by
  obtain ⟨p, p0, q, d, H, S, L, B, os, nm, h⟩ := h
  have hw := h.cr.wf
  have hv := h.cr.fv
  have hq := h.cr.pv
  have hg := h.gp
  have hd := h.ind.1
  have hn := h.ind.2.2.1
  have he := h.ind.2.2.2.1
  cases e1 : ixO x (dP d) with
  | none => exact op_no h (k := 1) (by simp) (cx_mealFor hw hv hq e1) (fun W' h' => no_1 h'.cr.wf rfl (mx_mealFor h'.cr.wf h'.mn.1 e1))
  | some k =>
    obtain ⟨hk, rfl⟩ := ixO_some e1
    exact op_ask h (c_mealFor hw hv hq hg hd h.cr.sv hk) (fun W' h' => m_mealFor h'.cr.wf h'.mn.1 hg hd h'.mn.2.1 he hk)
theorem o_count (h : RelV N μ) (x : Int32) : OpR Y_X10_count R_X10_count RX_X10_count Y_X11_count R_X11_count [.int x] [(IAE, 1)] N μ := by
  obtain ⟨p, p0, q, d, H, S, L, B, os, nm, h⟩ := h
  have hw := h.cr.wf
  have hv := h.cr.fv
  have hq := h.cr.pv
  have hg := h.gp
  have hd := h.ind.1
  have hn := h.ind.2.2.1
  have he := h.ind.2.2.2.1
  obtain ⟨_, _, _, _, hH, _⟩ := h.cr.hs
  cases e1 : ixO x (12) with
  | none => exact op_no h (k := 1) (by simp) (cx_count hw hv hq e1) (fun W' h' => no_1 h'.cr.wf rfl (mx_count h'.cr.wf h'.mn.1 e1))
  | some k =>
    obtain ⟨hk, rfl⟩ := ixO_some e1
    exact op_ask h (c_count hw hv hq hg hd h.cr.sv hH hk) (fun W' h' => m_count h'.cr.wf h'.mn.1 hg hd hn h'.mp.1 hk)
theorem o_account (h : RelV N μ) (x : Int32) : OpR Y_X10_account R_X10_account RX_X10_account Y_X11_account R_X11_account [.int x] [(IAE, 1)] N μ := by
  obtain ⟨p, p0, q, d, H, S, L, B, os, nm, h⟩ := h
  have hw := h.cr.wf
  have hv := h.cr.fv
  have hq := h.cr.pv
  have hg := h.gp
  have hd := h.ind.1
  have hn := h.ind.2.2.1
  have he := h.ind.2.2.2.1
  cases e1 : ixO x 6 with
  | none => exact op_no h (k := 1) (by simp) (cx_account hw hv hq e1) (fun W' h' => no_1 h'.cr.wf rfl (mx_account h'.cr.wf e1))
  | some k =>
    obtain ⟨hk, rfl⟩ := ixO_some e1
    exact op_same h (c_account hw hv hq hk) (fun W' h' => by rw [← h'.mn.2.2 k hk]; exact yes_1 h'.cr.wf (m_account h'.cr.wf hk))
end REL
