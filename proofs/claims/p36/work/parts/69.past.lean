section PAST
variable {μ W : Wd} {p f g : Nat} {q : PDt} {d : FDt}
theorem wn_cpU (μ : Wd) (f g : Nat) : ∀ t, wn (cpU μ f g t) = wn μ ∧ gN (cpU μ f g t) = gN μ ∧ gX (cpU μ f g t) = gX μ
  | 0 => ⟨rfl, rfl, rfl⟩
  | t + 1 => wn_cpU μ f g t
theorem rst_sI (μ : Wd) (i k : Nat) (v : Int32) : wn (sI μ i k v) = wn μ ∧ gN (sI μ i k v) = gN μ ∧ gX (sI μ i k v) = gX μ := ⟨rfl, rfl, rfl⟩
theorem rst_sR (μ : Wd) (i k : Nat) (v : Option Nat) : wn (sR μ i k v) = wn μ ∧ gN (sR μ i k v) = gN μ ∧ gX (sR μ i k v) = gX μ := ⟨rfl, rfl, rfl⟩
theorem rst_cpI (μ : Wd) (a c n : Nat) : wn (cpI μ a c n) = wn μ ∧ gN (cpI μ a c n) = gN μ ∧ gX (cpI μ a c n) = gX μ := ⟨rfl, rfl, rfl⟩
theorem rst_cpL (μ : Wd) (a c n : Nat) : wn (cpL μ a c n) = wn μ ∧ gN (cpL μ a c n) = gN μ ∧ gX (cpL μ a c n) = gX μ := ⟨rfl, rfl, rfl⟩
theorem rst_cp2 (μ : Wd) (a c n : Nat) : wn (cp2 μ a c n) = wn μ ∧ gN (cp2 μ a c n) = gN μ ∧ gX (cp2 μ a c n) = gX μ := ⟨rfl, rfl, rfl⟩
theorem rst_cpF (μ : Wd) (f g p : Nat) : wn (cpF μ f g p) = wn μ ∧ gN (cpF μ f g p) = gN μ ∧ gX (cpF μ f g p) = gX μ := by
  unfold cpF cpB cpA cp1
  refine ⟨?_, ?_, ?_⟩
  · rw [(rst_cpL _ _ _ _).1, (rst_cpI _ _ _ _).1, (rst_cpI _ _ _ _).1, (rst_cpI _ _ _ _).1, (rst_cp2 _ _ _ _).1, (wn_cpU _ _ _ _).1, (rst_cpI _ _ _ _).1, (rst_cpI _ _ _ _).1, (rst_cpI _ _ _ _).1, (rst_cp2 _ _ _ _).1, (rst_cp2 _ _ _ _).1, (rst_cp2 _ _ _ _).1, (rst_sR _ _ _ _).1]
  · rw [(rst_cpL _ _ _ _).2.1, (rst_cpI _ _ _ _).2.1, (rst_cpI _ _ _ _).2.1, (rst_cpI _ _ _ _).2.1, (rst_cp2 _ _ _ _).2.1, (wn_cpU _ _ _ _).2.1, (rst_cpI _ _ _ _).2.1, (rst_cpI _ _ _ _).2.1, (rst_cpI _ _ _ _).2.1, (rst_cp2 _ _ _ _).2.1, (rst_cp2 _ _ _ _).2.1, (rst_cp2 _ _ _ _).2.1, (rst_sR _ _ _ _).2.1]
  · rw [(rst_cpL _ _ _ _).2.2, (rst_cpI _ _ _ _).2.2, (rst_cpI _ _ _ _).2.2, (rst_cpI _ _ _ _).2.2, (rst_cp2 _ _ _ _).2.2, (wn_cpU _ _ _ _).2.2, (rst_cpI _ _ _ _).2.2, (rst_cpI _ _ _ _).2.2, (rst_cpI _ _ _ _).2.2, (rst_cp2 _ _ _ _).2.2, (rst_cp2 _ _ _ _).2.2, (rst_cp2 _ _ _ _).2.2, (rst_sR _ _ _ _).2.2]
set_option maxHeartbeats 400000 in
theorem cp_all (hw : Wf μ) (hf : Fl f) (hv : FV μ g p d) (hfg : f ≠ g) : Wf (cpF μ f g p) ∧ Out (sFl f) μ (cpF μ f g p) ∧ FV (cpF μ f g p) f p d := by
  have hd := ff_apart hf hv.fl hfg
  have hr := rst_cpF μ f g p
  have h0 := hw.ofF (g := g) (p := p) hf
  have hI : ∀ i k, i < f ∨ f + 16 < i → gI (cpF μ f g p) i k = gI μ i k := fun i k hi => cpF_out hd hi
  have hR : ∀ i k, gR (cpF μ f g p) i k = if i = f ∧ k = 0 then some p else gR μ i k := fun i k => gR_cpF ..
  have hL : ∀ i k, gL (cpF μ f g p) i k = if i = f + 16 ∧ k < 6 then gL μ (g + 16) k else gL μ i k := fun i k => gL_cpF ..
  have k1 := cpF_k1 (μ := μ) (p := p) hd
  have k2 := cpF_k2 (μ := μ) (p := p) hd
  have k3 := cpF_k3 (μ := μ) (p := p) hd
  have k8 := cpF_k8 (μ := μ) (p := p) hd
  have r1 : ∀ x, x < 40 → _ := fun x hx => cpF_r1 (μ := μ) (p := p) (x := x) hd hx
  have r2 : ∀ x, x < 40 → _ := fun x hx => cpF_r2 (μ := μ) (p := p) (x := x) hd hx
  have r3 : ∀ x, x < 40 → _ := fun x hx => cpF_r3 (μ := μ) (p := p) (x := x) hd hx
  have r13 : ∀ x, x < 6 → _ := fun x hx => cpF_r13 (μ := μ) (p := p) (x := x) hd hx
  have r14 : ∀ x, x < 6 → _ := fun x hx => cpF_r14 (μ := μ) (p := p) (x := x) hd hx
  have r15 : ∀ x, x < 6 → _ := fun x hx => cpF_r15 (μ := μ) (p := p) (x := x) hd hx
  have ru : ∀ t x, t < 8 → x < 12 → _ := fun t x ht hx => cpF_u (μ := μ) (p := p) (t := t) (x := x) hd ht hx
  generalize cpF μ f g p = V at hr h0 hI hR hL k1 k2 k3 k8 r1 r2 r3 r13 r14 r15 ru ⊢
  have hP := hv.P4
  have hU := hv.U4
  refine ⟨h0, ⟨h0, hr.1, hr.2.1, hr.2.2, fun i hi k => ?_⟩, hf, by rw [hR, if_pos ⟨rfl, rfl⟩], ⟨k3.trans hv.hP, hP⟩, ⟨k8.trans hv.hU, hU⟩, fun i hi => ?_, fun i hi => ?_, k1.trans hv.srv, k2.trans hv.min, fun t k ht hk => (ru t k ht hk).trans (hv.un ht hk), fun i hi => ?_⟩
  · have hi : ¬ (f ≤ i ∧ i ≤ f + 16) := hi
    exact ⟨hI i k (by omega), by rw [hL, if_neg (by omega)], by rw [hR, if_neg (by omega)]⟩
  · exact ⟨(r1 i (by omega)).trans (hv.cab hi), (r2 i (by omega)).trans (hv.nee hi), (r3 i (by omega)).trans (hv.wis hi)⟩
  · exact ⟨(r13 i (by omega)).trans (hv.tm hi), (r14 i (by omega)).trans (hv.tu hi), (r15 i (by omega)).trans (hv.td hi)⟩
  · rw [hL, if_pos ⟨rfl, hi⟩]; exact hv.acc hi
/-- the past, oldest first -/
abbrev Hst : Type := Nat × (Nat → FDt)
def HsV (μ : Wd) (p : Nat) (H : Hst) : Prop := ∃ (k : Nat) (r : Nat → Nat), k < 12 ∧ gI μ 82 1 = nI k ∧ gI μ 82 2 = nI H.1 ∧ H.1 ≤ 12 ∧ (∀ i, i < H.1 → r i < 12 ∧ (r i + H.1) % 12 = (k + i) % 12) ∧ ∀ i, i < H.1 → FV μ (84 + 17 * r i) p (H.2 i)
def SlV (μ : Wd) (p : Nat) (S : Nat → Option FDt) : Prop := ∀ j, j < 2 → match S j with
  | none => gI μ 323 j = 0
  | some e => gI μ 323 j = 1 ∧ FV μ (289 + 17 * j) p e
def CrV (μ : Wd) (p : Nat) (q : PDt) (d : FDt) (H : Hst) (S : Nat → Option FDt) : Prop := Wf μ ∧ PV μ p q ∧ FV μ 24 p d ∧ HsV μ p H ∧ SlV μ p S ∧ SvA μ q d
theorem CrV.wf {H : Hst} {S : Nat → Option FDt} (h : CrV μ p q d H S) : Wf μ := h.1
theorem CrV.pv {H : Hst} {S : Nat → Option FDt} (h : CrV μ p q d H S) : PV μ p q := h.2.1
theorem CrV.fv {H : Hst} {S : Nat → Option FDt} (h : CrV μ p q d H S) : FV μ 24 p d := h.2.2.1
theorem CrV.hs {H : Hst} {S : Nat → Option FDt} (h : CrV μ p q d H S) : HsV μ p H := h.2.2.2.1
theorem CrV.sl {H : Hst} {S : Nat → Option FDt} (h : CrV μ p q d H S) : SlV μ p S := h.2.2.2.2.1
theorem CrV.sv {H : Hst} {S : Nat → Option FDt} (h : CrV μ p q d H S) : SvA μ q d := h.2.2.2.2.2
theorem HsV.out {H : Hst} {T : Nat → Prop} (h : HsV μ p H) (ho : Out T μ W) (hT : ∀ i, T i → i ≠ 82 ∧ (i < 84 ∨ 287 < i)) : HsV W p H := by
  obtain ⟨k, r, h1, h2, h3, h4, h6, h5⟩ := h
  have e : ∀ x, gI W 82 x = gI μ 82 x := fun x => ho.i (fun y => (hT _ y).1 rfl) x
  refine ⟨k, r, h1, (e 1).trans h2, (e 2).trans h3, h4, h6, fun i hi => (h5 i hi).out ho fun j a b y => ?_⟩
  have := (hT _ y).2
  have := (h6 i hi).1
  omega
theorem SlV.out {S : Nat → Option FDt} {T : Nat → Prop} (h : SlV μ p S) (ho : Out T μ W) (hT : ∀ i, T i → i < 289 ∨ 323 < i) : SlV W p S := fun j hj => by
  have h1 := h j hj
  have e : gI W 323 j = gI μ 323 j := ho.i (fun y => by have := hT _ y; omega) j
  cases hS : S j with
  | none => rw [hS] at h1; exact e.trans h1
  | some x =>
    rw [hS] at h1
    exact ⟨e.trans h1.1, h1.2.out ho fun i a b y => by have := hT _ y; omega⟩
/-- one more in the past -/
def pushH (H : Hst) (d : FDt) : Hst := if H.1 = 12 then (12, fun i => if i = 11 then d else H.2 (i + 1)) else (H.1 + 1, fun i => if i = H.1 then d else H.2 i)
abbrev sHi : Nat → Prop := fun i => i = 0 ∨ i = 82 ∨ (84 ≤ i ∧ i ≤ 287)
/-- field 17 of the class aside, its own ints and references are as they were -/
def Own (μ V : Wd) : Prop := (∀ k, k ≠ 17 → gI V 0 k = gI μ 0 k) ∧ ∀ k, gR V 0 k = gR μ 0 k
theorem Own.rfl' : Own μ μ := ⟨fun _ _ => rfl, fun _ => rfl⟩
theorem Own.trans {V : Wd} (h1 : Own μ W) (h2 : Own W V) : Own μ V := ⟨fun k hk => (h2.1 k hk).trans (h1.1 k hk), fun k => (h2.2 k).trans (h1.2 k)⟩
theorem Own.of {T : Nat → Prop} (h : Out T μ W) (h0 : ¬ T 0) : Own μ W := ⟨fun k _ => h.i h0 k, fun k => h.r h0 k⟩
theorem ring_a {a n k i : Nat} (h12 : n = 12) (hi : i < 12) (h11 : ¬ i = 11) (ha : a < 12) (hk : k < 12) (h : (a + n) % 12 = (k + (i + 1)) % 12) : a ≠ k ∧ (a + 12) % 12 = ((k + 1) % 12 + i) % 12 := by
  subst h12
  have e1 : (k + 1) % 12 = if k = 11 then 0 else k + 1 := by split <;> omega
  rw [e1]
  constructor
  · intro e; omega
  · split <;> omega
theorem ring_b {a n k i : Nat} (hn : n < 12) (hi : i < n) (ha : a < 12) (hk : k < 12) (h : (a + n) % 12 = (k + i) % 12) : a ≠ k ∧ (a + (n + 1)) % 12 = ((k + 1) % 12 + i) % 12 := by
  constructor
  · intro e; subst e; omega
  · omega
theorem ring_c {n k : Nat} (hk : k < 12) : (k + 12) % 12 = ((k + 1) % 12 + 11) % 12 ∧ (k + (n + 1)) % 12 = ((k + 1) % 12 + n) % 12 := by omega
theorem act_a {k n : Nat} (hw : Wf μ) (hv : FV μ 24 p d) (h01 : dF d 6 0 = 0 ∨ dF d 6 0 = 1) (k1 : k < 12) (k2 : gI μ 82 1 = nI k) (k3 : gI μ 82 2 = nI n) (k4 : n ≤ 12) : ∃ V Z, Z = sI (sI (sI V 82 1 (nI ((k + 1) % 12))) 82 2 (nI (min (n + 1) 12))) 0 17 0 ∧ Wf V ∧ Out (sFl (84 + 17 * k)) μ V ∧ FV V (84 + 17 * k) p d ∧ Ct Y_X10_beginAct R_X10_beginAct [.ref 0] μ (.inl none) Z := by
  have hc := c_beginAct hw hv h01 k2 k1 k3 k4
  have hcp := cp_all hw (hist_fl k1) hv (show 84 + 17 * k ≠ 24 by omega)
  revert hc hcp
  generalize cpF μ (84 + 17 * k) 24 p = V
  intro hc hcp
  exact ⟨V, _, rfl, hcp.1, hcp.2.1, hcp.2.2, hc⟩
theorem act_b {V Z : Wd} {k : Nat} {a b : Int32} (k1 : k < 12) (hV : Wf V) (hO : Out (sFl (84 + 17 * k)) μ V) (hF : FV V (84 + 17 * k) p d) (hZ : Z = sI (sI (sI V 82 1 a) 82 2 b) 0 17 0) : Out sHi μ Z ∧ Out (fun i => i = 0 ∨ i = 82) V Z ∧ gI Z 82 1 = a ∧ gI Z 82 2 = b ∧ gI Z 0 17 = 0 ∧ FV Z (84 + 17 * k) p d := by
  have o2 : Out (fun i => i = 0 ∨ i = 82) V Z := by
    rw [hZ]
    exact (((Out.rfl' hV).sI (S := fun i => i = 0 ∨ i = 82) (Or.inr rfl) _ _).sI (S := fun i => i = 0 ∨ i = 82) (Or.inr rfl) _ _).sI (S := fun i => i = 0 ∨ i = 82) (Or.inl rfl) _ _
  refine ⟨?_, o2, ?_, ?_, ?_, ?_⟩
  · rw [hZ]
    exact (((hO.mono (S' := sHi) (fun i y => Or.inr (Or.inr ⟨by have := y.1; omega, by have := y.2; omega⟩))).sI (S := sHi) (Or.inr (Or.inl rfl)) _ _).sI (S := sHi) (Or.inr (Or.inl rfl)) _ _).sI (S := sHi) (Or.inl rfl) _ _
  · rw [hZ, gI_sI, if_neg (by omega), gI_sI, if_neg (by omega), gI_sI, if_pos ⟨rfl, rfl⟩]
  · rw [hZ, gI_sI, if_neg (by omega), gI_sI, if_pos ⟨rfl, rfl⟩]
  · rw [hZ, gI_sI, if_pos ⟨rfl, rfl⟩]
  · exact hF.out o2 (fun i a b y => by rcases y with y | y <;> omega)
theorem act_c {V Z : Wd} {k : Nat} {a b : Int32} (k1 : k < 12) (hO : Out (sFl (84 + 17 * k)) μ V) (hZ : Z = sI (sI (sI V 82 1 a) 82 2 b) 0 17 0) : Own μ Z := by
  refine ⟨fun x hx => ?_, fun x => ?_⟩
  · rw [hZ, gI_sI, if_neg (by omega), gI_sI, if_neg (by omega), gI_sI, if_neg (by omega)]
    exact hO.i (fun y => by have := y.1; omega) x
  · rw [hZ, gR_sI, gR_sI, gR_sI]
    exact hO.r (fun y => by have := y.1; omega) x
theorem act_d {V Z : Wd} {k j : Nat} {e : FDt} (k1 : k < 12) (hO : Out (sFl (84 + 17 * k)) μ V) (o2 : Out (fun i => i = 0 ∨ i = 82) V Z) (hj : j < 12) (hne : j ≠ k) (hf : FV μ (84 + 17 * j) p e) : FV Z (84 + 17 * j) p e :=
  (hf.out hO (fun i a b y => by have := y.1; have := y.2; omega)).out o2 (fun i a b y => by rcases y with y | y <;> omega)
theorem act_e {Z : Wd} {k : Nat} {r : Nat → Nat} {H : Hst} (k1 : k < 12) (k4 : H.1 ≤ 12) (k6 : ∀ i, i < H.1 → r i < 12 ∧ (r i + H.1) % 12 = (k + i) % 12) (e1 : gI Z 82 1 = nI ((k + 1) % 12)) (e2 : gI Z 82 2 = nI (min (H.1 + 1) 12)) (hnew : FV Z (84 + 17 * k) p d) (hold : ∀ j, j < 12 → j ≠ k → ∀ i, i < H.1 → r i = j → FV Z (84 + 17 * j) p (H.2 i)) : HsV Z p (pushH H d) := by
  have hk12 : (k + 1) % 12 < 12 := Nat.mod_lt _ (by decide)
  by_cases h12 : H.1 = 12
  · have e : pushH H d = (12, fun i => if i = 11 then d else H.2 (i + 1)) := if_pos h12
    have em : min (H.1 + 1) 12 = 12 := Nat.min_eq_right (by omega)
    rw [em] at e2
    rw [e]
    refine ⟨(k + 1) % 12, fun i => if i = 11 then k else r (i + 1), hk12, e1, e2, Nat.le_refl 12, fun i (hi : i < 12) => ?_, fun i (hi : i < 12) => ?_⟩
    · show (if i = 11 then k else r (i + 1)) < 12 ∧ ((if i = 11 then k else r (i + 1)) + 12) % 12 = ((k + 1) % 12 + i) % 12
      by_cases h11 : i = 11
      · rw [if_pos h11, h11]; exact ⟨k1, (ring_c (n := 0) k1).1⟩
      · rw [if_neg h11]
        have h6 := k6 (i + 1) (by omega)
        exact ⟨h6.1, (ring_a h12 hi h11 h6.1 k1 h6.2).2⟩
    · show FV Z (84 + 17 * (if i = 11 then k else r (i + 1))) p (if i = 11 then d else H.2 (i + 1))
      by_cases h11 : i = 11
      · rw [if_pos h11, if_pos h11]; exact hnew
      · rw [if_neg h11, if_neg h11]
        have h6 := k6 (i + 1) (by omega)
        exact hold _ h6.1 (ring_a h12 hi h11 h6.1 k1 h6.2).1 (i + 1) (by omega) rfl
  · have e : pushH H d = (H.1 + 1, fun i => if i = H.1 then d else H.2 i) := if_neg h12
    have em : min (H.1 + 1) 12 = H.1 + 1 := Nat.min_eq_left (by omega)
    rw [em] at e2
    have hl : H.1 < 12 := by omega
    rw [e]
    refine ⟨(k + 1) % 12, fun i => if i = H.1 then k else r i, hk12, e1, e2, hl, fun i (hi : i < H.1 + 1) => ?_, fun i (hi : i < H.1 + 1) => ?_⟩
    · show (if i = H.1 then k else r i) < 12 ∧ ((if i = H.1 then k else r i) + (H.1 + 1)) % 12 = ((k + 1) % 12 + i) % 12
      by_cases hin : i = H.1
      · rw [if_pos hin, hin]; exact ⟨k1, (ring_c k1).2⟩
      · rw [if_neg hin]
        have hil : i < H.1 := by omega
        have h6 := k6 i hil
        exact ⟨h6.1, (ring_b hl hil h6.1 k1 h6.2).2⟩
    · show FV Z (84 + 17 * (if i = H.1 then k else r i)) p (if i = H.1 then d else H.2 i)
      by_cases hin : i = H.1
      · rw [if_pos hin, if_pos hin]; exact hnew
      · rw [if_neg hin, if_neg hin]
        have hil : i < H.1 := by omega
        have h6 := k6 i hil
        exact hold _ h6.1 (ring_b hl hil h6.1 k1 h6.2).1 i hil rfl
theorem CrV.push {H : Hst} {S : Nat → Option FDt} (h : CrV μ p q d H S) (h01 : dF d 6 0 = 0 ∨ dF d 6 0 = 1) : CV Y_X10_beginAct R_X10_beginAct [.ref 0] μ (fun v V => v = none ∧ CrV V p q d (pushH H d) S ∧ gI V 0 17 = 0 ∧ Out sHi μ V ∧ Own μ V) := by
  obtain ⟨hw, hq, hv, ⟨k, r, k1, k2, k3, k4, k6, k5⟩, hsl, hsv⟩ := h
  obtain ⟨V, Z, hZ, hV, hO, hF, hc⟩ := act_a hw hv h01 k1 k2 k3 k4
  obtain ⟨hO1, hO2, e1, e2, e17, hnew⟩ := act_b k1 hV hO hF hZ
  have eo : Own μ Z := act_c k1 hO hZ
  have hs : HsV Z p (pushH H d) := act_e k1 k4 k6 e1 e2 hnew fun j hj hne i hi hr => act_d k1 hO hO2 hj hne (by rw [← hr]; exact k5 i hi)
  clear hZ
  have hpp := hq.pl
  exact ⟨none, Z, hc, rfl, ⟨hO1.1, hq.out hO1 (fun i a b y => by have := hpp.lt; rcases hpp with e | e <;> (subst e; rcases y with y | y | y <;> omega)), hv.out hO1 (fun i a b y => by rcases y with y | y | y <;> omega), hs, hsl.out hO1 (fun i y => by rcases y with y | y | y <;> omega), Or.inl e17⟩, e17, hO1, eo⟩
/-- the present flight changed -/
theorem CrV.now {H : Hst} {S : Nat → Option FDt} {d2 : FDt} (h : CrV μ p q d H S) (ho : Out (sFl 24) μ W) (hv : FV W 24 p d2) (h17 : gI μ 0 17 = 0) : CrV W p q d2 H S := by
  have hpp := h.pv.pl
  exact ⟨ho.1, h.pv.out ho (fun i a b y => by have := y.1; have := y.2; rcases hpp with e | e <;> omega), hv, h.hs.out ho (fun i y => by have := y.1; have := y.2; omega), h.sl.out ho (fun i y => by have := y.1; have := y.2; omega), Or.inl ((ho.i (fun y => by have := y.1; omega) 17).trans h17)⟩
end PAST
