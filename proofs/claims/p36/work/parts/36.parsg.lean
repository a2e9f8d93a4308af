section PARSG
variable {μ W : Wd} {B : Nat → Nat} {n p0 p : Nat} {z : PZ} {q : PDt} {d : FDt} {f : Nat}
/-- one number of a plan, of a flight, replaced -/
def pset (q : PDt) (a i : Nat) (v : Int32) : PDt := (q.1, q.2.1, q.2.2.1, up2 q.2.2.2 a i v)
def dset (d : FDt) (a i : Nat) (v : Int32) : FDt := (d.1, d.2.1, up2 d.2.2.1 a i v, d.2.2.2)
theorem PV.sR (h : PV μ p q) {i k : Nat} {v : Option Nat} : PV (sR μ i k v) p q := h
theorem PV.s8 (h : PV μ p q) (v : Int32) : PV (sI μ p 8 v) p (pset q 9 1 v) := by
  obtain ⟨h1, h2, h3, h4, h5, h6, h7, h8, h9, h10, h11⟩ := h
  have hp := pl_le h1
  have hu : ∀ a i, a ≠ 9 → up2 q.2.2.2 9 1 v a i = q.2.2.2 a i := fun a i z => up2_ne (fun y => z y.1)
  refine ⟨h1, ⟨by rw [gI_sI, if_neg (by omega)]; exact h2.1, h2.2⟩, ⟨by rw [gI_sI, if_neg (by omega)]; exact h3.1, h3.2⟩, ⟨by rw [gI_sI, if_neg (by omega)]; exact h4.1, h4.2⟩, fun i hi => ?_, fun i hi => ?_, fun i hi => ?_, ?_, ?_, ?_, ?_⟩
  · have := h2.2
    have hi : i < pC q := hi
    rw [gI_sI, if_neg (by omega), gI_sI, if_neg (by omega)]
    exact ⟨(h5 i hi).1.trans (hu 0 i (by decide)).symm, (h5 i hi).2.trans (hu 1 i (by decide)).symm⟩
  · have := h3.2
    have hi : i < pM q := hi
    rw [gI_sI, if_neg (by omega), gI_sI, if_neg (by omega), gI_sI, if_neg (by omega), gI_sI, if_neg (by omega), gI_sI, if_neg (by omega)]
    obtain ⟨a1, a2, a3, a4, a5⟩ := h6 i hi
    exact ⟨a1.trans (hu 2 i (by decide)).symm, a2.trans (hu 3 i (by decide)).symm, a3.trans (hu 4 i (by decide)).symm, a4.trans (hu 5 i (by decide)).symm, a5.trans (hu 6 i (by decide)).symm⟩
  · rw [gI_sI, if_neg (by omega), gI_sI, if_neg (by omega)]
    exact ⟨(h7 i hi).1.trans (hu 7 i (by decide)).symm, (h7 i hi).2.trans (hu 8 i (by decide)).symm⟩
  · rw [gI_sI, if_neg (by omega)]; exact h8.trans (show q.2.2.2 9 0 = up2 q.2.2.2 9 1 v 9 0 from (up2_ne (by omega)).symm)
  · rw [gI_sI, if_pos ⟨rfl, rfl⟩]; show v = up2 q.2.2.2 9 1 v 9 1; exact (up2_eq _ _ _ _).symm
  · rw [gI_sI, if_neg (by omega)]; exact h10.trans (show q.2.2.2 9 2 = up2 q.2.2.2 9 1 v 9 2 from (up2_ne (by omega)).symm)
  · rw [gI_sI, if_neg (by omega)]; exact h11.trans (show q.2.2.2 9 3 = up2 q.2.2.2 9 1 v 9 3 from (up2_ne (by omega)).symm)
theorem PV.s9 (h : PV μ p q) (v : Int32) : PV (sI μ p 9 v) p (pset q 9 2 v) := by
  obtain ⟨h1, h2, h3, h4, h5, h6, h7, h8, h9, h10, h11⟩ := h
  have hp := pl_le h1
  have hu : ∀ a i, a ≠ 9 → up2 q.2.2.2 9 2 v a i = q.2.2.2 a i := fun a i z => up2_ne (fun y => z y.1)
  refine ⟨h1, ⟨by rw [gI_sI, if_neg (by omega)]; exact h2.1, h2.2⟩, ⟨by rw [gI_sI, if_neg (by omega)]; exact h3.1, h3.2⟩, ⟨by rw [gI_sI, if_neg (by omega)]; exact h4.1, h4.2⟩, fun i hi => ?_, fun i hi => ?_, fun i hi => ?_, ?_, ?_, ?_, ?_⟩
  · have := h2.2
    have hi : i < pC q := hi
    rw [gI_sI, if_neg (by omega), gI_sI, if_neg (by omega)]
    exact ⟨(h5 i hi).1.trans (hu 0 i (by decide)).symm, (h5 i hi).2.trans (hu 1 i (by decide)).symm⟩
  · have := h3.2
    have hi : i < pM q := hi
    rw [gI_sI, if_neg (by omega), gI_sI, if_neg (by omega), gI_sI, if_neg (by omega), gI_sI, if_neg (by omega), gI_sI, if_neg (by omega)]
    obtain ⟨a1, a2, a3, a4, a5⟩ := h6 i hi
    exact ⟨a1.trans (hu 2 i (by decide)).symm, a2.trans (hu 3 i (by decide)).symm, a3.trans (hu 4 i (by decide)).symm, a4.trans (hu 5 i (by decide)).symm, a5.trans (hu 6 i (by decide)).symm⟩
  · rw [gI_sI, if_neg (by omega), gI_sI, if_neg (by omega)]
    exact ⟨(h7 i hi).1.trans (hu 7 i (by decide)).symm, (h7 i hi).2.trans (hu 8 i (by decide)).symm⟩
  · rw [gI_sI, if_neg (by omega)]; exact h8.trans (show q.2.2.2 9 0 = up2 q.2.2.2 9 2 v 9 0 from (up2_ne (by omega)).symm)
  · rw [gI_sI, if_neg (by omega)]; exact h9.trans (show q.2.2.2 9 1 = up2 q.2.2.2 9 2 v 9 1 from (up2_ne (by omega)).symm)
  · rw [gI_sI, if_pos ⟨rfl, rfl⟩]; show v = up2 q.2.2.2 9 2 v 9 2; exact (up2_eq _ _ _ _).symm
  · rw [gI_sI, if_neg (by omega)]; exact h11.trans (show q.2.2.2 9 3 = up2 q.2.2.2 9 2 v 9 3 from (up2_ne (by omega)).symm)
theorem PV.s10 (h : PV μ p q) (v : Int32) : PV (sI μ p 10 v) p (pset q 9 3 v) := by
  obtain ⟨h1, h2, h3, h4, h5, h6, h7, h8, h9, h10, h11⟩ := h
  have hp := pl_le h1
  have hu : ∀ a i, a ≠ 9 → up2 q.2.2.2 9 3 v a i = q.2.2.2 a i := fun a i z => up2_ne (fun y => z y.1)
  refine ⟨h1, ⟨by rw [gI_sI, if_neg (by omega)]; exact h2.1, h2.2⟩, ⟨by rw [gI_sI, if_neg (by omega)]; exact h3.1, h3.2⟩, ⟨by rw [gI_sI, if_neg (by omega)]; exact h4.1, h4.2⟩, fun i hi => ?_, fun i hi => ?_, fun i hi => ?_, ?_, ?_, ?_, ?_⟩
  · have := h2.2
    have hi : i < pC q := hi
    rw [gI_sI, if_neg (by omega), gI_sI, if_neg (by omega)]
    exact ⟨(h5 i hi).1.trans (hu 0 i (by decide)).symm, (h5 i hi).2.trans (hu 1 i (by decide)).symm⟩
  · have := h3.2
    have hi : i < pM q := hi
    rw [gI_sI, if_neg (by omega), gI_sI, if_neg (by omega), gI_sI, if_neg (by omega), gI_sI, if_neg (by omega), gI_sI, if_neg (by omega)]
    obtain ⟨a1, a2, a3, a4, a5⟩ := h6 i hi
    exact ⟨a1.trans (hu 2 i (by decide)).symm, a2.trans (hu 3 i (by decide)).symm, a3.trans (hu 4 i (by decide)).symm, a4.trans (hu 5 i (by decide)).symm, a5.trans (hu 6 i (by decide)).symm⟩
  · rw [gI_sI, if_neg (by omega), gI_sI, if_neg (by omega)]
    exact ⟨(h7 i hi).1.trans (hu 7 i (by decide)).symm, (h7 i hi).2.trans (hu 8 i (by decide)).symm⟩
  · rw [gI_sI, if_neg (by omega)]; exact h8.trans (show q.2.2.2 9 0 = up2 q.2.2.2 9 3 v 9 0 from (up2_ne (by omega)).symm)
  · rw [gI_sI, if_neg (by omega)]; exact h9.trans (show q.2.2.2 9 1 = up2 q.2.2.2 9 3 v 9 1 from (up2_ne (by omega)).symm)
  · rw [gI_sI, if_neg (by omega)]; exact h10.trans (show q.2.2.2 9 2 = up2 q.2.2.2 9 3 v 9 2 from (up2_ne (by omega)).symm)
  · rw [gI_sI, if_pos ⟨rfl, rfl⟩]; show v = up2 q.2.2.2 9 3 v 9 3; exact (up2_eq _ _ _ _).symm
theorem PV.jC (h : PV μ p q) {c k : Nat} (hc : pC q ≤ c) (h4c : c < 4) (v : Int32) : PV (sI μ (p + 2 + c) k v) p q := by
  obtain ⟨h1, h2, h3, h4, h5, h6, h7, h8, h9, h10, h11⟩ := h
  have hp := pl_le h1
  have g2 := h2.2
  have g3 := h3.2
  have g4 := h4.2
  refine ⟨h1, ⟨by rw [gI_sI, if_neg (by omega)]; exact h2.1, h2.2⟩, ⟨by rw [gI_sI, if_neg (by omega)]; exact h3.1, h3.2⟩, ⟨by rw [gI_sI, if_neg (by omega)]; exact h4.1, h4.2⟩, fun i hi => ?_, fun i hi => ?_, fun i hi => ?_, by rw [gI_sI, if_neg (by omega)]; exact h8, by rw [gI_sI, if_neg (by omega)]; exact h9, by rw [gI_sI, if_neg (by omega)]; exact h10, by rw [gI_sI, if_neg (by omega)]; exact h11⟩
  · rw [gI_sI, if_neg (by omega), gI_sI, if_neg (by omega)]; exact h5 i hi
  · rw [gI_sI, if_neg (by omega), gI_sI, if_neg (by omega), gI_sI, if_neg (by omega), gI_sI, if_neg (by omega), gI_sI, if_neg (by omega)]; exact h6 i hi
  · rw [gI_sI, if_neg (by omega), gI_sI, if_neg (by omega)]; exact h7 i hi
theorem PV.jM (h : PV μ p q) {c k : Nat} (hc : pM q ≤ c) (h12 : c < 12) (v : Int32) : PV (sI μ (p + 7 + c) k v) p q := by
  obtain ⟨h1, h2, h3, h4, h5, h6, h7, h8, h9, h10, h11⟩ := h
  have hp := pl_le h1
  have g2 := h2.2
  have g3 := h3.2
  have g4 := h4.2
  refine ⟨h1, ⟨by rw [gI_sI, if_neg (by omega)]; exact h2.1, h2.2⟩, ⟨by rw [gI_sI, if_neg (by omega)]; exact h3.1, h3.2⟩, ⟨by rw [gI_sI, if_neg (by omega)]; exact h4.1, h4.2⟩, fun i hi => ?_, fun i hi => ?_, fun i hi => ?_, by rw [gI_sI, if_neg (by omega)]; exact h8, by rw [gI_sI, if_neg (by omega)]; exact h9, by rw [gI_sI, if_neg (by omega)]; exact h10, by rw [gI_sI, if_neg (by omega)]; exact h11⟩
  · rw [gI_sI, if_neg (by omega), gI_sI, if_neg (by omega)]; exact h5 i hi
  · rw [gI_sI, if_neg (by omega), gI_sI, if_neg (by omega), gI_sI, if_neg (by omega), gI_sI, if_neg (by omega), gI_sI, if_neg (by omega)]; exact h6 i hi
  · rw [gI_sI, if_neg (by omega), gI_sI, if_neg (by omega)]; exact h7 i hi
theorem PV.jT (h : PV μ p q) {c k : Nat} (hc : pT q ≤ k) (hcc : c = p + 19 ∨ c = p + 20) (v : Int32) : PV (sI μ (c) k v) p q := by
  obtain ⟨h1, h2, h3, h4, h5, h6, h7, h8, h9, h10, h11⟩ := h
  have hp := pl_le h1
  have g2 := h2.2
  have g3 := h3.2
  have g4 := h4.2
  refine ⟨h1, ⟨by rw [gI_sI, if_neg (by omega)]; exact h2.1, h2.2⟩, ⟨by rw [gI_sI, if_neg (by omega)]; exact h3.1, h3.2⟩, ⟨by rw [gI_sI, if_neg (by omega)]; exact h4.1, h4.2⟩, fun i hi => ?_, fun i hi => ?_, fun i hi => ?_, by rw [gI_sI, if_neg (by omega)]; exact h8, by rw [gI_sI, if_neg (by omega)]; exact h9, by rw [gI_sI, if_neg (by omega)]; exact h10, by rw [gI_sI, if_neg (by omega)]; exact h11⟩
  · rw [gI_sI, if_neg (by omega), gI_sI, if_neg (by omega)]; exact h5 i hi
  · rw [gI_sI, if_neg (by omega), gI_sI, if_neg (by omega), gI_sI, if_neg (by omega), gI_sI, if_neg (by omega), gI_sI, if_neg (by omega)]; exact h6 i hi
  · rw [gI_sI, if_neg (by omega), gI_sI, if_neg (by omega)]; exact h7 i hi
theorem PV.incC (h : PV μ p q) (hc : pC q < 4) : PV (sI μ p 1 (nI (pC q + 1))) p (pC q + 1, pM q, pT q, up2 (up2 (pF q) 0 (pC q) (gI μ (p + 2 + pC q) 1)) 1 (pC q) (gI μ (p + 2 + pC q) 2)) := by
  obtain ⟨h1, h2, h3, h4, h5, h6, h7, h8, h9, h10, h11⟩ := h
  have hp := pl_le h1
  have g3 := h3.2
  have hu : ∀ a i, 2 ≤ a → up2 (up2 (pF q) 0 (pC q) (gI μ (p + 2 + pC q) 1)) 1 (pC q) (gI μ (p + 2 + pC q) 2) a i = pF q a i := fun a i z => by rw [up2_ne (by omega), up2_ne (by omega)]
  refine ⟨h1, ⟨by rw [gI_sI, if_pos ⟨rfl, rfl⟩]; rfl, hc⟩, ⟨by rw [gI_sI, if_neg (by omega)]; exact h3.1, h3.2⟩, ⟨by rw [gI_sI, if_neg (by omega)]; exact h4.1, h4.2⟩, fun i hi => ?_, fun i hi => ?_, fun i hi => ?_, by rw [gI_sI, if_neg (by omega)]; exact h8.trans (hu 9 0 (by decide)).symm, by rw [gI_sI, if_neg (by omega)]; exact h9.trans (hu 9 1 (by decide)).symm, by rw [gI_sI, if_neg (by omega)]; exact h10.trans (hu 9 2 (by decide)).symm, by rw [gI_sI, if_neg (by omega)]; exact h11.trans (hu 9 3 (by decide)).symm⟩
  · have hi : i < pC q + 1 := hi
    rw [gI_sI, if_neg (by omega), gI_sI, if_neg (by omega)]
    show _ = up2 (up2 (pF q) 0 (pC q) (gI μ (p + 2 + pC q) 1)) 1 (pC q) (gI μ (p + 2 + pC q) 2) 0 i ∧ _ = up2 (up2 (pF q) 0 (pC q) (gI μ (p + 2 + pC q) 1)) 1 (pC q) (gI μ (p + 2 + pC q) 2) 1 i
    by_cases e : i = pC q
    · subst e; rw [up2_ne (by omega), up2_eq, up2_eq]; exact ⟨rfl, rfl⟩
    · rw [up2_ne (by omega), up2_ne (by omega), up2_ne (by omega), up2_ne (by omega)]; exact h5 i (by omega)
  · rw [gI_sI, if_neg (by omega), gI_sI, if_neg (by omega), gI_sI, if_neg (by omega), gI_sI, if_neg (by omega), gI_sI, if_neg (by omega)]
    obtain ⟨a1, a2, a3, a4, a5⟩ := h6 i hi
    exact ⟨a1.trans (hu 2 i (by decide)).symm, a2.trans (hu 3 i (by decide)).symm, a3.trans (hu 4 i (by decide)).symm, a4.trans (hu 5 i (by decide)).symm, a5.trans (hu 6 i (by decide)).symm⟩
  · rw [gI_sI, if_neg (by omega), gI_sI, if_neg (by omega)]
    exact ⟨(h7 i hi).1.trans (hu 7 i (by decide)).symm, (h7 i hi).2.trans (hu 8 i (by decide)).symm⟩
/-- a meal's five numbers -/
def up5 (F : Nat → Nat → Int32) (m : Nat) (a b c e g : Int32) : Nat → Nat → Int32 := up2 (up2 (up2 (up2 (up2 F 2 m a) 3 m b) 4 m c) 5 m e) 6 m g
theorem up5_ne {F : Nat → Nat → Int32} {m : Nat} {a b c e g : Int32} {x i : Nat} (h : i ≠ m ∨ x < 2 ∨ 6 < x) : up5 F m a b c e g x i = F x i := by
  unfold up5
  rw [up2_ne (by omega), up2_ne (by omega), up2_ne (by omega), up2_ne (by omega), up2_ne (by omega)]
theorem up5_eq {F : Nat → Nat → Int32} {m : Nat} {a b c e g : Int32} : up5 F m a b c e g 2 m = a ∧ up5 F m a b c e g 3 m = b ∧ up5 F m a b c e g 4 m = c ∧ up5 F m a b c e g 5 m = e ∧ up5 F m a b c e g 6 m = g := by
  unfold up5
  refine ⟨?_, ?_, ?_, ?_, ?_⟩
  · rw [up2_ne (by omega), up2_ne (by omega), up2_ne (by omega), up2_ne (by omega), up2_eq]
  · rw [up2_ne (by omega), up2_ne (by omega), up2_ne (by omega), up2_eq]
  · rw [up2_ne (by omega), up2_ne (by omega), up2_eq]
  · rw [up2_ne (by omega), up2_eq]
  · rw [up2_eq]
theorem PV.incM (h : PV μ p q) (hc : pM q < 12) : PV (sI μ p 3 (nI (pM q + 1))) p (pC q, pM q + 1, pT q, up5 (pF q) (pM q) (gI μ (p + 7 + pM q) 1) (gI μ (p + 7 + pM q) 2) (gI μ (p + 7 + pM q) 3) (gI μ (p + 7 + pM q) 4) (gI μ (p + 7 + pM q) 5)) := by
  obtain ⟨h1, h2, h3, h4, h5, h6, h7, h8, h9, h10, h11⟩ := h
  have hp := pl_le h1
  have g2 := h2.2
  have hu : ∀ x i, (i ≠ pM q ∨ x < 2 ∨ 6 < x) → up5 (pF q) (pM q) (gI μ (p + 7 + pM q) 1) (gI μ (p + 7 + pM q) 2) (gI μ (p + 7 + pM q) 3) (gI μ (p + 7 + pM q) 4) (gI μ (p + 7 + pM q) 5) x i = pF q x i := fun x i y => up5_ne y
  refine ⟨h1, ⟨by rw [gI_sI, if_neg (by omega)]; exact h2.1, h2.2⟩, ⟨by rw [gI_sI, if_pos ⟨rfl, rfl⟩]; rfl, hc⟩, ⟨by rw [gI_sI, if_neg (by omega)]; exact h4.1, h4.2⟩, fun i hi => ?_, fun i hi => ?_, fun i hi => ?_, by rw [gI_sI, if_neg (by omega)]; exact h8.trans (hu 9 0 (by omega)).symm, by rw [gI_sI, if_neg (by omega)]; exact h9.trans (hu 9 1 (by omega)).symm, by rw [gI_sI, if_neg (by omega)]; exact h10.trans (hu 9 2 (by omega)).symm, by rw [gI_sI, if_neg (by omega)]; exact h11.trans (hu 9 3 (by omega)).symm⟩
  · have hi : i < pC q := hi
    rw [gI_sI, if_neg (by omega), gI_sI, if_neg (by omega)]
    exact ⟨(h5 i hi).1.trans (hu 0 i (by omega)).symm, (h5 i hi).2.trans (hu 1 i (by omega)).symm⟩
  · have hi : i < pM q + 1 := hi
    rw [gI_sI, if_neg (by omega), gI_sI, if_neg (by omega), gI_sI, if_neg (by omega), gI_sI, if_neg (by omega), gI_sI, if_neg (by omega)]
    by_cases e : i = pM q
    · subst e
      have k := up5_eq (F := pF q) (m := pM q) (a := gI μ (p + 7 + pM q) 1) (b := gI μ (p + 7 + pM q) 2) (c := gI μ (p + 7 + pM q) 3) (e := gI μ (p + 7 + pM q) 4) (g := gI μ (p + 7 + pM q) 5)
      exact ⟨k.1.symm, k.2.1.symm, k.2.2.1.symm, k.2.2.2.1.symm, k.2.2.2.2.symm⟩
    · obtain ⟨a1, a2, a3, a4, a5⟩ := h6 i (by omega)
      exact ⟨a1.trans (hu 2 i (by omega)).symm, a2.trans (hu 3 i (by omega)).symm, a3.trans (hu 4 i (by omega)).symm, a4.trans (hu 5 i (by omega)).symm, a5.trans (hu 6 i (by omega)).symm⟩
  · rw [gI_sI, if_neg (by omega), gI_sI, if_neg (by omega)]
    exact ⟨(h7 i hi).1.trans (hu 7 i (by omega)).symm, (h7 i hi).2.trans (hu 8 i (by omega)).symm⟩
theorem PV.incT (h : PV μ p q) (hc : pT q < 8) : PV (sI μ p 5 (nI (pT q + 1))) p (pC q, pM q, pT q + 1, up2 (up2 (pF q) 7 (pT q) (gI μ (p + 19) (pT q))) 8 (pT q) (gI μ (p + 20) (pT q))) := by
  obtain ⟨h1, h2, h3, h4, h5, h6, h7, h8, h9, h10, h11⟩ := h
  have hp := pl_le h1
  have g2 := h2.2
  have g3 := h3.2
  have hu : ∀ a i, a ≠ 7 → a ≠ 8 → up2 (up2 (pF q) 7 (pT q) (gI μ (p + 19) (pT q))) 8 (pT q) (gI μ (p + 20) (pT q)) a i = pF q a i := fun a i z1 z2 => by rw [up2_ne (by omega), up2_ne (by omega)]
  refine ⟨h1, ⟨by rw [gI_sI, if_neg (by omega)]; exact h2.1, h2.2⟩, ⟨by rw [gI_sI, if_neg (by omega)]; exact h3.1, h3.2⟩, ⟨by rw [gI_sI, if_pos ⟨rfl, rfl⟩]; rfl, hc⟩, fun i hi => ?_, fun i hi => ?_, fun i hi => ?_, by rw [gI_sI, if_neg (by omega)]; exact h8.trans (hu 9 0 (by decide) (by decide)).symm, by rw [gI_sI, if_neg (by omega)]; exact h9.trans (hu 9 1 (by decide) (by decide)).symm, by rw [gI_sI, if_neg (by omega)]; exact h10.trans (hu 9 2 (by decide) (by decide)).symm, by rw [gI_sI, if_neg (by omega)]; exact h11.trans (hu 9 3 (by decide) (by decide)).symm⟩
  · have hi : i < pC q := hi
    rw [gI_sI, if_neg (by omega), gI_sI, if_neg (by omega)]
    exact ⟨(h5 i hi).1.trans (hu 0 i (by decide) (by decide)).symm, (h5 i hi).2.trans (hu 1 i (by decide) (by decide)).symm⟩
  · have hi : i < pM q := hi
    rw [gI_sI, if_neg (by omega), gI_sI, if_neg (by omega), gI_sI, if_neg (by omega), gI_sI, if_neg (by omega), gI_sI, if_neg (by omega)]
    obtain ⟨a1, a2, a3, a4, a5⟩ := h6 i hi
    exact ⟨a1.trans (hu 2 i (by decide) (by decide)).symm, a2.trans (hu 3 i (by decide) (by decide)).symm, a3.trans (hu 4 i (by decide) (by decide)).symm, a4.trans (hu 5 i (by decide) (by decide)).symm, a5.trans (hu 6 i (by decide) (by decide)).symm⟩
  · have hi : i < pT q + 1 := hi
    rw [gI_sI, if_neg (by omega), gI_sI, if_neg (by omega)]
    show _ = up2 (up2 (pF q) 7 (pT q) (gI μ (p + 19) (pT q))) 8 (pT q) (gI μ (p + 20) (pT q)) 7 i ∧ _ = up2 (up2 (pF q) 7 (pT q) (gI μ (p + 19) (pT q))) 8 (pT q) (gI μ (p + 20) (pT q)) 8 i
    by_cases e : i = pT q
    · subst e; rw [up2_ne (by omega), up2_eq, up2_eq]; exact ⟨rfl, rfl⟩
    · rw [up2_ne (by omega), up2_ne (by omega), up2_ne (by omega), up2_ne (by omega)]; exact h7 i (by omega)
/-- one more passenger -/
def seatD (d : FDt) (c n v : Int32) : FDt := (dP d + 1, dU d, up2 (up2 (up2 (dF d) 0 (dP d) c) 1 (dP d) n) 2 (dP d) v, dA d)
theorem FV.seat (h : FV μ f p d) (hP : dP d < 40) (c n v : Int32) : FV (sI (sI (sI (sI μ (f + 1) (dP d) c) (f + 2) (dP d) n) (f + 3) (dP d) v) f 3 (nI (dP d + 1))) f p (seatD d c n v) := by
  obtain ⟨h1, h2, h3, h4, h5, h6, h7, h8, h9, h10⟩ := h
  have hu : ∀ a i, 3 ≤ a → up2 (up2 (up2 (dF d) 0 (dP d) c) 1 (dP d) n) 2 (dP d) v a i = dF d a i := fun a i z => by rw [up2_ne (by omega), up2_ne (by omega), up2_ne (by omega)]
  have ho : ∀ i k, ¬ (i = f ∧ k = 3) → ¬ (i = f + 1) → ¬ (i = f + 2) → ¬ (i = f + 3) → gI (sI (sI (sI (sI μ (f + 1) (dP d) c) (f + 2) (dP d) n) (f + 3) (dP d) v) f 3 (nI (dP d + 1))) i k = gI μ i k := fun i k a1 a2 a3 a4 => by rw [gI_sI, if_neg a1, gI_sI, if_neg (by omega), gI_sI, if_neg (by omega), gI_sI, if_neg (by omega)]
  refine ⟨h1, h2, ⟨by rw [gI_sI, if_pos ⟨rfl, rfl⟩]; rfl, hP⟩, ⟨(ho f 8 (by omega) (by omega) (by omega) (by omega)).trans h4.1, h4.2⟩, fun i hi => ?_, fun i hi => ?_, (ho f 1 (by omega) (by omega) (by omega) (by omega)).trans (h7.trans (hu 6 0 (by decide)).symm), (ho f 2 (by omega) (by omega) (by omega) (by omega)).trans (h8.trans (hu 6 1 (by decide)).symm), fun t k ht hk => (ho (f + 5 + t) k (by omega) (by omega) (by omega) (by omega)).trans ((h9 t k ht hk).trans (hu (7 + t) k (by omega)).symm), h10⟩
  · have hi : i < dP d + 1 := hi
    show _ = up2 (up2 (up2 (dF d) 0 (dP d) c) 1 (dP d) n) 2 (dP d) v 0 i ∧ _ = up2 (up2 (up2 (dF d) 0 (dP d) c) 1 (dP d) n) 2 (dP d) v 1 i ∧ _ = up2 (up2 (up2 (dF d) 0 (dP d) c) 1 (dP d) n) 2 (dP d) v 2 i
    by_cases e : i = dP d
    · subst e
      refine ⟨?_, ?_, ?_⟩
      · rw [gI_sI, if_neg (by omega), gI_sI, if_neg (by omega), gI_sI, if_neg (by omega), gI_sI, if_pos ⟨rfl, rfl⟩, up2_ne (by omega), up2_ne (by omega), up2_eq]
      · rw [gI_sI, if_neg (by omega), gI_sI, if_neg (by omega), gI_sI, if_pos ⟨rfl, rfl⟩, up2_ne (by omega), up2_eq]
      · rw [gI_sI, if_neg (by omega), gI_sI, if_pos ⟨rfl, rfl⟩, up2_eq]
    · obtain ⟨a1, a2, a3⟩ := h5 i (by omega)
      refine ⟨?_, ?_, ?_⟩
      · rw [gI_sI, if_neg (by omega), gI_sI, if_neg (by omega), gI_sI, if_neg (by omega), gI_sI, if_neg (by omega), up2_ne (by omega), up2_ne (by omega), up2_ne (by omega)]; exact a1
      · rw [gI_sI, if_neg (by omega), gI_sI, if_neg (by omega), gI_sI, if_neg (by omega), gI_sI, if_neg (by omega), up2_ne (by omega), up2_ne (by omega), up2_ne (by omega)]; exact a2
      · rw [gI_sI, if_neg (by omega), gI_sI, if_neg (by omega), gI_sI, if_neg (by omega), gI_sI, if_neg (by omega), up2_ne (by omega), up2_ne (by omega), up2_ne (by omega)]; exact a3
  · obtain ⟨a1, a2, a3⟩ := h6 i hi
    rw [ho (f + 13) i (by omega) (by omega) (by omega) (by omega), ho (f + 14) i (by omega) (by omega) (by omega) (by omega), ho (f + 15) i (by omega) (by omega) (by omega) (by omega)]
    exact ⟨a1.trans (hu 3 i (by decide)).symm, a2.trans (hu 4 i (by decide)).symm, a3.trans (hu 5 i (by decide)).symm⟩
/-- the plan has changed -/
theorem PsV.plan {S : Nat → Prop} (h : PsV B n p0 p z μ) (he : Ex S μ W) (hS : ∀ i, S i → p0 ≤ i ∧ i ≤ p0 + 20) {q : PDt} {cn mn : Nat → List Nat} (hq : PV W p0 q) (hc : ∀ i, i < pC q → NmV W (p0 + 2 + i) (cn i)) (hm : ∀ i, i < pM q → NmV W (p0 + 7 + i) (mn i)) : PsV B n p0 p (q, z.2.1, cn, mn) W := by
  have hp := pl_le h.pv.pl
  have hw := h.wf.1
  have n79 : ¬ S 79 := fun y => by have := hS 79 y; omega
  have n80 : ¬ S 80 := fun y => by have := hS 80 y; omega
  have n1 : ¬ S 1 := fun y => by have := hS 1 y; omega
  obtain ⟨a1, a2, a3, a4⟩ := h.at'
  obtain ⟨t1, t2, t3, t4⟩ := h.tk
  exact ⟨he.1, ⟨(he.r (by omega) n80 0).trans t1, (he.i (by omega) n80 1).trans t2, t3, fun k hk => ⟨(t4 k hk).1, (he.i (by omega) n1 k).trans (t4 k hk).2⟩⟩, h.le, ⟨(he.i (by omega) n80 2).trans a1, (he.i (by omega) n80 3).trans a2, (he.i (by omega) n80 4).trans a3, fun y => (he.i (by omega) n80 5).trans (a4 y)⟩,
    (he.r (by omega) n79 2).trans h.r2, (he.r (by omega) n79 1).trans h.r1, hq, h.fv.fr (fun i a b k => he.2.2.2.2 i (by omega) (fun y => by have := hS i y; omega) k), hc, hm⟩
theorem PsV.flight (h : PsV B n p0 p z μ) (he : Out (fun i => 41 ≤ i ∧ i ≤ 57) μ W) {d : FDt} (hf : FV W 41 p0 d) : PsV B n p0 p (z.1, d, z.2.2.1, z.2.2.2) W := by
  have hp := pl_le h.pv.pl
  have hw := h.wf.1
  have hC := h.pv.C4
  have hM := h.pv.M4
  obtain ⟨a1, a2, a3, a4⟩ := h.at'
  obtain ⟨t1, t2, t3, t4⟩ := h.tk
  have hx := Ex.of he
  have hS : ∀ i, (fun i => 41 ≤ i ∧ i ≤ 57) i → i < 339 := fun i (y : 41 ≤ i ∧ i ≤ 57) => by omega
  exact ⟨he.1, ⟨(he.r (by omega) 0).trans t1, (he.i (by omega) 1).trans t2, t3, fun k hk => ⟨(t4 k hk).1, (he.i (by omega) k).trans (t4 k hk).2⟩⟩, h.le, ⟨(he.i (by omega) 2).trans a1, (he.i (by omega) 3).trans a2, (he.i (by omega) 4).trans a3, fun y => (he.i (by omega) 5).trans (a4 y)⟩,
    (he.r (by omega) 2).trans h.r2, (he.r (by omega) 1).trans h.r1, h.pv.out he (fun i a b (y : 41 ≤ i ∧ i ≤ 57) => by omega), hf, fun i (hi : i < pC z.1) => (h.cn hi).ex hx hS (by omega) (by omega), fun i (hi : i < pM z.1) => (h.mn hi).ex hx hS (by omega) (by omega)⟩
end PARSG
