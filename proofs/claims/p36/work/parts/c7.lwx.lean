section LWX
variable {μ W V : Wd} {p p0 N : Nat} {q : PDt} {d : FDt} {H : Hst} {S : Nat → Option FDt}
/-- the views look at the fixed cells alone -/
theorem CrV.fx (h : CrV μ p q d H S) (hw : Wf W) (he : ∀ i, i < 339 → Sm μ W i) : CrV W p q d H S := by
  obtain ⟨h1, h2, h3, ⟨k, r, a1, a2, a3, a4, a5, a6⟩, h5, h6⟩ := h
  refine ⟨hw, h2.fr (fun i a b => he i (by rcases h2.pl with e | e <;> omega)), h3.fr (fun i a b => he i (by omega)), ⟨k, r, a1, ((he 82 (by decide) 1).1).trans a2, ((he 82 (by decide) 2).1).trans a3, a4, a5, fun i hi => (a6 i hi).fr (fun j a b => he j (by have := (a5 i hi).1; omega))⟩, fun j hj => ?_, ?_⟩
  · have h7 := h5 j hj
    cases hS : S j with
    | none => rw [hS] at h7; exact ((he 323 (by decide) j).1).trans h7
    | some x =>
      rw [hS] at h7
      exact ⟨((he 323 (by decide) j).1).trans h7.1, h7.2.fr (fun i a b => he i (by omega))⟩
  · unfold SvA
    rw [(he 0 (by decide) 17).1]
    refine h6.imp (fun z => z) (fun z => ⟨z.1, ?_⟩)
    obtain ⟨G, rs, n, h1, ⟨b2, b3, b4, b5⟩, b6, b7, b8⟩ := z.2
    have e : ∀ i k, i < 339 → gI W i k = gI μ i k := fun i k a => (he i a k).1
    exact ⟨G, rs, n, h1, ⟨fun i hi => by rw [e 335 i (by decide)]; exact b2 i hi, fun m hm => by rw [e 336 m (by decide), e 337 m (by decide)]; exact b3 m hm, by rw [e 334 _ (by decide)]; exact b4, by rw [e 334 _ (by decide)]; exact b5⟩, by rw [e 334 _ (by decide)]; exact b6, by rw [e 334 _ (by decide)]; exact b7, by rw [e 334 _ (by decide)]; exact b8⟩
theorem LwV.fx (h : LwV p p0 q d H S N μ) (hw : Wf W) (he : ∀ i, i < 339 → Sm μ W i) : LwV p p0 q d H S N W :=
  ⟨h.1.fx hw he, h.2.1, h.2.2.1, h.2.2.2.1, ⟨((he 0 (by decide) 9).2.2).trans h.2.2.2.2.1.1, h.2.2.2.2.1.2⟩, ((he 0 (by decide) 1).1).trans h.2.2.2.2.2⟩
theorem Sm.ex {T : Nat → Prop} (h : Wf μ) (he : Ex T μ W) (hT : ∀ i, i < 339 → ¬ T i) : ∀ i, i < 339 → Sm μ W i := fun i hi => he.2.2.2.2 i (Nat.lt_of_lt_of_le hi h.1) (hT i hi)
/-- behind a question that made new cells -/
def LwB (p p0 : Nat) (q : PDt) (d : FDt) (H : Hst) (S : Nat → Option FDt) (N : Nat) (μ V : Wd) : Prop := LwV p p0 q d H S N V ∧ Ex sAsk μ V ∧ wn V ≤ wn μ + 1
/-- the law's row of twelve counts beside it -/
def SvL (p p0 : Nat) (q : PDt) (d : FDt) (H : Hst) (S : Nat → Option FDt) (N : Nat) (μ : Wd) (ec : Nat → Nat) (W : Wd) : Prop := LwV p p0 q d H S N W ∧ Ex sAsk μ W ∧ Ar W (wn μ) 20 12 ∧ (339 ≤ wn μ ∧ wn W = wn μ + 1) ∧ ∀ m, m < 12 → gI W (wn μ) m = nI (ec m)
theorem SvL.tr {ec : Nat → Nat} (h : SvL p p0 q d H S N μ ec W) (a : LwA p p0 q d H S N W V) : SvL p p0 q d H S N μ ec V :=
  ⟨a.1, h.2.1.trans (Ex.of a.2), h.2.2.1.ex (Ex.of a.2), ⟨h.2.2.2.1.1, a.2.2.1.trans h.2.2.2.1.2⟩, fun m hm => (a.2.i (show ¬ sAsk (wn μ) by have := h.2.2.2.1.1; omega) m).trans (h.2.2.2.2 m hm)⟩
theorem SvL.cg {ec ec2 : Nat → Nat} (h : SvL p p0 q d H S N μ ec W) (e : ∀ m, ec m = ec2 m) : SvL p p0 q d H S N μ ec2 W := ⟨h.1, h.2.1, h.2.2.1, h.2.2.2.1, fun m hm => by rw [← e m]; exact h.2.2.2.2 m hm⟩
theorem SvL.inc {ec : Nat → Nat} {x : Nat} (h : SvL p p0 q d H S N μ ec W) : SvL p p0 q d H S N μ (fun m => ec m + if m = x then 1 else 0) (sI W (wn μ) x (nI (ec x) + 1)) := by
  obtain ⟨h1, h2, h3, ⟨h4, h5⟩, h6⟩ := h
  have hw : Wf (sI W (wn μ) x (nI (ec x) + 1)) := h1.wf.sI
  refine ⟨h1.fx hw (fun i hi k => ⟨by rw [gI_sI, if_neg (by omega)], rfl, rfl⟩), Ex.sI2 (S := sAsk) (i := wn μ) h2 (fun z => absurd z (Nat.lt_irrefl _)), h3, ⟨h4, h5⟩, fun m hm => ?_⟩
  rw [gI_sI]
  by_cases z : m = x
  · rw [if_pos ⟨rfl, z⟩, z]
    show _ = nI (ec x + if x = x then 1 else 0)
    rw [if_pos rfl, ← nI_add]
    rfl
  · rw [if_neg (fun y => z y.2)]
    show _ = nI (ec m + if m = x then 1 else 0)
    rw [if_neg z]
    exact h6 m hm
theorem SvL.new (h : LwV p p0 q d H S N μ) : SvL p p0 q d H S N μ (fun _ => 0) (mk μ (12 * 32 + 20)) := by
  have hw := h.wf
  refine ⟨h.fx (hw.mk _) (Sm.ex hw (Ex.mk (S := fun _ => False) hw _) (fun _ _ z => z)), Ex.mk hw _, ⟨Nat.lt_succ_self _, km_new hw.1 (by decide), al_new hw.1 (by decide)⟩, ⟨hw.1, rfl⟩, fun m hm => ?_⟩
  rw [gI_mk, if_pos rfl]
  rfl
end LWX
