section VIEW
variable {μ : Wd} {Y : Yd} {rm : Room} {b : Nat × Nat} {pc : Nat} {la : List (Nat × Value)} {st : List Value}
/-- from here the method comes to some outcome and world of which Q holds -/
def WP (Y : Yd) (rm : Room) (b : Nat × Nat) (μ : Wd) (pc : Nat) (la : List (Nat × Value)) (st : List Value) (Q : Oc → Wd → Prop) : Prop := ∃ (o : Oc) (μ1 : Wd), AW Y rm b μ pc la st o μ1 ∧ Q o μ1
theorem lf {b' : Nat × Nat} {μ' : Wd} {pc' : Nat} {la' : List (Nat × Value)} {st' : List Value} {Q : Oc → Wd → Prop} (h : ∀ {o : Oc} {μ1 : Wd}, AW Y rm b' μ' pc' la' st' o μ1 → AW Y rm b μ pc la st o μ1) (k : WP Y rm b' μ' pc' la' st' Q) : WP Y rm b μ pc la st Q :=
  k.elim fun o k => k.elim fun μ1 k => ⟨o, μ1, h k.1, k.2⟩
theorem lf2 {c : Prop} {pc1 pc2 : Nat} {st1 st2 : List Value} {Q : Oc → Wd → Prop} (h : ∀ {o : Oc} {μ1 : Wd}, (c → AW Y rm b μ pc1 la st1 o μ1) → (¬ c → AW Y rm b μ pc2 la st2 o μ1) → AW Y rm b μ pc la st o μ1) (k1 : c → WP Y rm b μ pc1 la st1 Q) (k2 : ¬ c → WP Y rm b μ pc2 la st2 Q) : WP Y rm b μ pc la st Q :=
  (Classical.em c).elim (fun q => (k1 q).elim fun o k => k.elim fun μ1 k => ⟨o, μ1, h (fun _ => k.1) (fun n => absurd q n), k.2⟩) (fun q => (k2 q).elim fun o k => k.elim fun μ1 k => ⟨o, μ1, h (fun n => absurd n q) (fun _ => k.1), k.2⟩)
theorem lfn {c : Prop} {pc1 pc2 : Nat} {st1 st2 : List Value} {Q : Oc → Wd → Prop} (h : ∀ {o : Oc} {μ1 : Wd}, (¬ c → AW Y rm b μ pc1 la st1 o μ1) → (c → AW Y rm b μ pc2 la st2 o μ1) → AW Y rm b μ pc la st o μ1) (k1 : ¬ c → WP Y rm b μ pc1 la st1 Q) (k2 : c → WP Y rm b μ pc2 la st2 Q) : WP Y rm b μ pc la st Q :=
  (Classical.em c).elim (fun q => (k2 q).elim fun o k => k.elim fun μ1 k => ⟨o, μ1, h (fun n => absurd q n) (fun _ => k.1), k.2⟩) (fun q => (k1 q).elim fun o k => k.elim fun μ1 k => ⟨o, μ1, h (fun _ => k.1) (fun n => absurd n q), k.2⟩)
/-- called so, the method comes to some outcome and world of which Q holds -/
def CO (Y : Yd) (rm : Room) (as : List Value) (μ : Wd) (Q : Oc → Wd → Prop) : Prop := ∃ (o : Oc) (μ1 : Wd), Ct Y rm as μ o μ1 ∧ Q o μ1
/-- the same, and it answers -/
def CV (Y : Yd) (rm : Room) (as : List Value) (μ : Wd) (Q : Option Value → Wd → Prop) : Prop := ∃ (v : Option Value) (μ1 : Wd), Ct Y rm as μ (.inl v) μ1 ∧ Q v μ1
theorem CV.ent {n : Nat} {as : List Value} {Q : Option Value → Wd → Prop} (hy : YOK Y n) (hn : (lg_sl as).length ≤ Y.2.2.1) (h : WP Y rm (rm.cells, rm.slots) μ 0 (lv_args 0 as) [] (fun o W => ∃ v, o = .inl v ∧ Q v W)) : CV Y rm as μ Q := by
  obtain ⟨o, μ1, h1, v, rfl, h2⟩ := h
  exact ⟨v, μ1, Ct.ent hy hn h1, h2⟩
theorem CO.ent {n : Nat} {as : List Value} {Q : Oc → Wd → Prop} (hy : YOK Y n) (hn : (lg_sl as).length ≤ Y.2.2.1) (h : WP Y rm (rm.cells, rm.slots) μ 0 (lv_args 0 as) [] Q) : CO Y rm as μ Q := by
  obtain ⟨o, μ1, h1, h2⟩ := h
  exact ⟨o, μ1, Ct.ent hy hn h1, h2⟩
theorem WP.mono {Q Q' : Oc → Wd → Prop} (h : WP Y rm b μ pc la st Q) (hq : ∀ o W, Q o W → Q' o W) : WP Y rm b μ pc la st Q' := h.elim fun o k => k.elim fun W k => ⟨o, W, k.1, hq o W k.2⟩
theorem Ct.int {as : List Value} {x y : Int32} {μ1 : Wd} (h : x = y) (k : Ct Y rm as μ (.inl (some (.int x))) μ1) : Ct Y rm as μ (.inl (some (.int y))) μ1 := h ▸ k
/-- the same cell in two worlds -/
def Sm (μ W : Wd) (i : Nat) : Prop := ∀ k, gI W i k = gI μ i k ∧ gL W i k = gL μ i k ∧ gR W i k = gR μ i k
/-- only the cells S may differ -/
def Out (S : Nat → Prop) (μ W : Wd) : Prop := Wf W ∧ wn W = wn μ ∧ gN W = gN μ ∧ gX W = gX μ ∧ ∀ i, ¬ S i → Sm μ W i
theorem Out.rfl' {S : Nat → Prop} (hw : Wf μ) : Out S μ μ := ⟨hw, rfl, rfl, rfl, fun _ _ _ => ⟨rfl, rfl, rfl⟩⟩
theorem Out.trans {S : Nat → Prop} {W V : Wd} (h1 : Out S μ W) (h2 : Out S W V) : Out S μ V :=
  ⟨h2.1, h2.2.1.trans h1.2.1, h2.2.2.1.trans h1.2.2.1, h2.2.2.2.1.trans h1.2.2.2.1, fun i hi k => ⟨(h2.2.2.2.2 i hi k).1.trans (h1.2.2.2.2 i hi k).1, (h2.2.2.2.2 i hi k).2.1.trans (h1.2.2.2.2 i hi k).2.1, (h2.2.2.2.2 i hi k).2.2.trans (h1.2.2.2.2 i hi k).2.2⟩⟩
theorem Out.mono {S S' : Nat → Prop} {W : Wd} (h : Out S μ W) (hs : ∀ i, S i → S' i) : Out S' μ W := ⟨h.1, h.2.1, h.2.2.1, h.2.2.2.1, fun i hi => h.2.2.2.2 i fun q => hi (hs i q)⟩
theorem Out.wf {S : Nat → Prop} {W : Wd} (h : Out S μ W) : Wf W := h.1
theorem Out.i {S : Nat → Prop} {W : Wd} (h : Out S μ W) {i : Nat} (hi : ¬ S i) (k : Nat) : gI W i k = gI μ i k := (h.2.2.2.2 i hi k).1
theorem Out.l {S : Nat → Prop} {W : Wd} (h : Out S μ W) {i : Nat} (hi : ¬ S i) (k : Nat) : gL W i k = gL μ i k := (h.2.2.2.2 i hi k).2.1
theorem Out.r {S : Nat → Prop} {W : Wd} (h : Out S μ W) {i : Nat} (hi : ¬ S i) (k : Nat) : gR W i k = gR μ i k := (h.2.2.2.2 i hi k).2.2
theorem Out.sI {S : Nat → Prop} {W : Wd} (h : Out S μ W) {i : Nat} (hi : S i) (k : Nat) (v : Int32) : Out S μ (sI W i k v) := ⟨h.1.sI, h.2.1, h.2.2.1, h.2.2.2.1, fun j hj x => ⟨by rw [gI_sI, if_neg (by intro q; exact hj (q.1 ▸ hi))]; exact h.i hj x, h.l hj x, h.r hj x⟩⟩
theorem Out.sL {S : Nat → Prop} {W : Wd} (h : Out S μ W) {i : Nat} (hi : S i) (k : Nat) (v : Int64) : Out S μ (sL W i k v) := ⟨h.1.sL, h.2.1, h.2.2.1, h.2.2.2.1, fun j hj x => ⟨h.i hj x, by rw [gL_sL, if_neg (by intro q; exact hj (q.1 ▸ hi))]; exact h.l hj x, h.r hj x⟩⟩
theorem Out.sIs {S : Nat → Prop} {W : Wd} (h : Out S μ W) {g : Nat → Nat → Int32} (hg : ∀ i, ¬ S i → ∀ k, g i k = gI W i k) : Out S μ (sIs W g) := ⟨h.1.sIs, h.2.1, h.2.2.1, h.2.2.2.1, fun j hj x => ⟨(hg j hj x).trans (h.i hj x), h.l hj x, h.r hj x⟩⟩
theorem Out.sLs {S : Nat → Prop} {W : Wd} (h : Out S μ W) {g : Nat → Nat → Int64} (hg : ∀ i, ¬ S i → ∀ k, g i k = gL W i k) : Out S μ (sLs W g) := ⟨h.1.sLs, h.2.1, h.2.2.1, h.2.2.2.1, fun j hj x => ⟨h.i hj x, (hg j hj x).trans (h.l hj x), h.r hj x⟩⟩
/-- a plan: how many cabins, meals, trolleys; its numbers: 0 seats 1 spare 2 a meal's cabin 3 share 4 size 5 cost 6 offers 7 a trolley's cabin 8 its slots 9 told, minutes, closing, lead -/
abbrev PDt : Type := Nat × Nat × Nat × (Nat → Nat → Int32)
def pC (q : PDt) : Nat := q.1
def pM (q : PDt) : Nat := q.2.1
def pT (q : PDt) : Nat := q.2.2.1
def pF (q : PDt) : Nat → Nat → Int32 := q.2.2.2
/-- a flight: how many passengers, top-ups; its numbers: 0 cabins 1 needs 2 wishes 3 top-ups' meals 4 units 5 dues 6 served, minutes 7 + t units of trolley t; accounts -/
abbrev FDt : Type := Nat × Nat × (Nat → Nat → Int32) × (Nat → Int64)
def dP (d : FDt) : Nat := d.1
def dU (d : FDt) : Nat := d.2.1
def dF (d : FDt) : Nat → Nat → Int32 := d.2.2.1
def dA (d : FDt) : Nat → Int64 := d.2.2.2
def PV (μ : Wd) (p : Nat) (q : PDt) : Prop :=
  Pl p ∧ (gI μ p 1 = nI (pC q) ∧ pC q ≤ 4) ∧ (gI μ p 3 = nI (pM q) ∧ pM q ≤ 12) ∧ (gI μ p 5 = nI (pT q) ∧ pT q ≤ 8) ∧
  (∀ i, i < pC q → gI μ (p + 2 + i) 1 = pF q 0 i ∧ gI μ (p + 2 + i) 2 = pF q 1 i) ∧
  (∀ i, i < pM q → gI μ (p + 7 + i) 1 = pF q 2 i ∧ gI μ (p + 7 + i) 2 = pF q 3 i ∧ gI μ (p + 7 + i) 3 = pF q 4 i ∧ gI μ (p + 7 + i) 4 = pF q 5 i ∧ gI μ (p + 7 + i) 5 = pF q 6 i) ∧
  (∀ i, i < pT q → gI μ (p + 19) i = pF q 7 i ∧ gI μ (p + 20) i = pF q 8 i) ∧
  gI μ p 0 = pF q 9 0 ∧ gI μ p 8 = pF q 9 1 ∧ gI μ p 9 = pF q 9 2 ∧ gI μ p 10 = pF q 9 3
def FV (μ : Wd) (f p : Nat) (d : FDt) : Prop :=
  Fl f ∧ gR μ f 0 = some p ∧ (gI μ f 3 = nI (dP d) ∧ dP d ≤ 40) ∧ (gI μ f 8 = nI (dU d) ∧ dU d ≤ 6) ∧
  (∀ i, i < dP d → gI μ (f + 1) i = dF d 0 i ∧ gI μ (f + 2) i = dF d 1 i ∧ gI μ (f + 3) i = dF d 2 i) ∧
  (∀ i, i < dU d → gI μ (f + 13) i = dF d 3 i ∧ gI μ (f + 14) i = dF d 4 i ∧ gI μ (f + 15) i = dF d 5 i) ∧
  gI μ f 1 = dF d 6 0 ∧ gI μ f 2 = dF d 6 1 ∧ (∀ t k, t < 8 → k < 12 → gI μ (f + 5 + t) k = dF d (7 + t) k) ∧ (∀ i, i < 6 → gL μ (f + 16) i = dA d i)
section
variable {p f : Nat} {q : PDt} {d : FDt} {W : Wd}
theorem PV.pl (h : PV μ p q) : Pl p := h.1
theorem PV.hC (h : PV μ p q) : gI μ p 1 = nI (pC q) := h.2.1.1
theorem PV.C4 (h : PV μ p q) : pC q ≤ 4 := h.2.1.2
theorem PV.hM (h : PV μ p q) : gI μ p 3 = nI (pM q) := h.2.2.1.1
theorem PV.M4 (h : PV μ p q) : pM q ≤ 12 := h.2.2.1.2
theorem PV.hT (h : PV μ p q) : gI μ p 5 = nI (pT q) := h.2.2.2.1.1
theorem PV.T4 (h : PV μ p q) : pT q ≤ 8 := h.2.2.2.1.2
theorem PV.seats (h : PV μ p q) {i : Nat} (hi : i < pC q) : gI μ (p + 2 + i) 1 = pF q 0 i := (h.2.2.2.2.1 i hi).1
theorem PV.spare (h : PV μ p q) {i : Nat} (hi : i < pC q) : gI μ (p + 2 + i) 2 = pF q 1 i := (h.2.2.2.2.1 i hi).2
theorem PV.m1 (h : PV μ p q) {i : Nat} (hi : i < pM q) : gI μ (p + 7 + i) 1 = pF q 2 i := (h.2.2.2.2.2.1 i hi).1
theorem PV.m2 (h : PV μ p q) {i : Nat} (hi : i < pM q) : gI μ (p + 7 + i) 2 = pF q 3 i := (h.2.2.2.2.2.1 i hi).2.1
theorem PV.m3 (h : PV μ p q) {i : Nat} (hi : i < pM q) : gI μ (p + 7 + i) 3 = pF q 4 i := (h.2.2.2.2.2.1 i hi).2.2.1
theorem PV.m4 (h : PV μ p q) {i : Nat} (hi : i < pM q) : gI μ (p + 7 + i) 4 = pF q 5 i := (h.2.2.2.2.2.1 i hi).2.2.2.1
theorem PV.m5 (h : PV μ p q) {i : Nat} (hi : i < pM q) : gI μ (p + 7 + i) 5 = pF q 6 i := (h.2.2.2.2.2.1 i hi).2.2.2.2
theorem PV.tc (h : PV μ p q) {i : Nat} (hi : i < pT q) : gI μ (p + 19) i = pF q 7 i := (h.2.2.2.2.2.2.1 i hi).1
theorem PV.ts (h : PV μ p q) {i : Nat} (hi : i < pT q) : gI μ (p + 20) i = pF q 8 i := (h.2.2.2.2.2.2.1 i hi).2
theorem PV.told (h : PV μ p q) : gI μ p 0 = pF q 9 0 := h.2.2.2.2.2.2.2.1
theorem PV.mins (h : PV μ p q) : gI μ p 8 = pF q 9 1 := h.2.2.2.2.2.2.2.2.1
theorem PV.clos (h : PV μ p q) : gI μ p 9 = pF q 9 2 := h.2.2.2.2.2.2.2.2.2.1
theorem PV.lead (h : PV μ p q) : gI μ p 10 = pF q 9 3 := h.2.2.2.2.2.2.2.2.2.2
theorem FV.fl (h : FV μ f p d) : Fl f := h.1
theorem FV.rp (h : FV μ f p d) : gR μ f 0 = some p := h.2.1
theorem FV.hP (h : FV μ f p d) : gI μ f 3 = nI (dP d) := h.2.2.1.1
theorem FV.P4 (h : FV μ f p d) : dP d ≤ 40 := h.2.2.1.2
theorem FV.hU (h : FV μ f p d) : gI μ f 8 = nI (dU d) := h.2.2.2.1.1
theorem FV.U4 (h : FV μ f p d) : dU d ≤ 6 := h.2.2.2.1.2
theorem FV.cab (h : FV μ f p d) {i : Nat} (hi : i < dP d) : gI μ (f + 1) i = dF d 0 i := (h.2.2.2.2.1 i hi).1
theorem FV.nee (h : FV μ f p d) {i : Nat} (hi : i < dP d) : gI μ (f + 2) i = dF d 1 i := (h.2.2.2.2.1 i hi).2.1
theorem FV.wis (h : FV μ f p d) {i : Nat} (hi : i < dP d) : gI μ (f + 3) i = dF d 2 i := (h.2.2.2.2.1 i hi).2.2
theorem FV.tm (h : FV μ f p d) {i : Nat} (hi : i < dU d) : gI μ (f + 13) i = dF d 3 i := (h.2.2.2.2.2.1 i hi).1
theorem FV.tu (h : FV μ f p d) {i : Nat} (hi : i < dU d) : gI μ (f + 14) i = dF d 4 i := (h.2.2.2.2.2.1 i hi).2.1
theorem FV.td (h : FV μ f p d) {i : Nat} (hi : i < dU d) : gI μ (f + 15) i = dF d 5 i := (h.2.2.2.2.2.1 i hi).2.2
theorem FV.srv (h : FV μ f p d) : gI μ f 1 = dF d 6 0 := h.2.2.2.2.2.2.1
theorem FV.min (h : FV μ f p d) : gI μ f 2 = dF d 6 1 := h.2.2.2.2.2.2.2.1
theorem FV.un (h : FV μ f p d) {t k : Nat} (ht : t < 8) (hk : k < 12) : gI μ (f + 5 + t) k = dF d (7 + t) k := h.2.2.2.2.2.2.2.2.1 t k ht hk
theorem FV.acc (h : FV μ f p d) {i : Nat} (hi : i < 6) : gL μ (f + 16) i = dA d i := h.2.2.2.2.2.2.2.2.2 i hi
theorem FV.fr (h : FV μ f p d) (hs : ∀ i, f ≤ i → i ≤ f + 16 → Sm μ W i) : FV W f p d := by
  obtain ⟨h1, h2, h3, h4, h5, h6, h7, h8, h9, h10⟩ := h
  have e : ∀ i, i ≤ 16 → ∀ k, gI W (f + i) k = gI μ (f + i) k := fun i hi k => (hs (f + i) (by omega) (by omega) k).1
  have e0 : ∀ k, gI W f k = gI μ f k := e 0 (by omega)
  refine ⟨h1, (hs f (by omega) (by omega) 0).2.2.trans h2, ⟨(e0 3).trans h3.1, h3.2⟩, ⟨(e0 8).trans h4.1, h4.2⟩, fun i hi => ?_, fun i hi => ?_, (e0 1).trans h7, (e0 2).trans h8, fun t k ht hk => ?_, fun i hi => ?_⟩
  · rw [e 1 (by omega), e 2 (by omega), e 3 (by omega)]; exact h5 i hi
  · rw [e 13 (by omega), e 14 (by omega), e 15 (by omega)]; exact h6 i hi
  · rw [Nat.add_assoc, e (5 + t) (by omega), ← Nat.add_assoc]; exact h9 t k ht hk
  · rw [(hs (f + 16) (by omega) (by omega) i).2.1]; exact h10 i hi
theorem PV.fr (h : PV μ p q) (hs : ∀ i, p ≤ i → i ≤ p + 20 → Sm μ W i) : PV W p q := by
  obtain ⟨h1, h2, h3, h4, h5, h6, h7, h8, h9, h10, h11⟩ := h
  have e : ∀ i, i ≤ 20 → ∀ k, gI W (p + i) k = gI μ (p + i) k := fun i hi k => (hs (p + i) (by omega) (by omega) k).1
  have e0 : ∀ k, gI W p k = gI μ p k := e 0 (by omega)
  refine ⟨h1, ⟨(e0 1).trans h2.1, h2.2⟩, ⟨(e0 3).trans h3.1, h3.2⟩, ⟨(e0 5).trans h4.1, h4.2⟩, fun i hi => ?_, fun i hi => ?_, fun i hi => ?_, (e0 0).trans h8, (e0 8).trans h9, (e0 9).trans h10, (e0 10).trans h11⟩
  · have := h2.2
    rw [Nat.add_assoc, e (2 + i) (by omega), e (2 + i) (by omega), ← Nat.add_assoc]; exact h5 i hi
  · have := h3.2
    rw [Nat.add_assoc, e (7 + i) (by omega), e (7 + i) (by omega), e (7 + i) (by omega), e (7 + i) (by omega), e (7 + i) (by omega), ← Nat.add_assoc]; exact h6 i hi
  · rw [e 19 (by omega), e 20 (by omega)]; exact h7 i hi
theorem FV.out {S : Nat → Prop} (h : FV μ f p d) (ho : Out S μ W) (hs : ∀ i, f ≤ i → i ≤ f + 16 → ¬ S i) : FV W f p d := h.fr fun i a b => ho.2.2.2.2 i (hs i a b)
theorem PV.out {S : Nat → Prop} (h : PV μ p q) (ho : Out S μ W) (hs : ∀ i, p ≤ i → i ≤ p + 20 → ¬ S i) : PV W p q := h.fr fun i a b => ho.2.2.2.2 i (hs i a b)
theorem fl_ge {f : Nat} (h : Fl f) : 24 ≤ f ∧ f + 17 ≤ 323 ∧ (f + 17 ≤ 58 ∨ 84 ≤ f) := by
  have q : ∀ f ∈ flB, 24 ≤ f ∧ f + 17 ≤ 323 ∧ (f + 17 ≤ 58 ∨ 84 ≤ f) := by decide +kernel
  exact q f h

def phD (q : PDt) (d : FDt) : Int32 := if pF q 9 0 = 0 then 0 else if dF d 6 0 = 0 then (if dF d 6 1 ≤ pF q 9 2 then 2 else 1) else 3
def paD (d : FDt) (c : Int32) : Int32 := itN (fun i a => if dF d 0 i = c then a + 1 else a) 0 (dP d)
def spD (d : FDt) (c : Int32) : Int32 := itN (fun i a => if dF d 0 i = c then (if dF d 1 i = 0 then a else a + 1) else a) 0 (dP d)
def meD (q : PDt) (c : Int32) : Int32 := itN (fun i a => if pF q 2 i = c then a ||| ((1 : Int32) <<< (nI i &&& 31)) else a) 0 (pM q)
def trD (q : PDt) (c : Int32) : Int32 := itN (fun i a => if pF q 7 i = c then a + 1 else a) 0 (pT q)
def suD (q : PDt) (c n : Int32) : Int32 := itN (fun i a => if adI (pF q 2 i) c = 0 then a else if n &&& (pF q 6 i ^^^ -1) = 0 then a ||| ((1 : Int32) <<< (nI i &&& 31)) else a) 0 (pM q)
def fsD (q : PDt) (d : FDt) (t : Nat) : Int32 := itN (fun i a => a - dF d (7 + t) i * pF q 4 i) (pF q 8 t) (pM q)
def fiD (q : PDt) (d : FDt) (c : Int32) : Int32 := itN (fun t a => if pF q 7 t = c then a + fsD q d t else a) 0 (pT q)
def uiD (q : PDt) (d : FDt) (t : Nat) : Int32 := itN (fun i a => a + dF d (7 + t) i) 0 (pM q)
def ldD (q : PDt) (d : FDt) (k : Nat) : Int32 := itN (fun t a => a + dF d (7 + t) k) 0 (pT q)
def alD (q : PDt) (d : FDt) : Int32 := itN (fun t a => a + uiD q d t) 0 (pT q)
def owD (d : FDt) (c : Int32) : Int32 := itN (fun i a => if dF d 3 i = c then a + dF d 4 i else a) 0 (dU d)
def msD (q : PDt) (d : FDt) (k : Nat) (n : Int32) : Int32 := if (0 : Int32) < n - ldD q d k - owD d (nI k) then n - ldD q d k - owD d (nI k) else 0
theorem v_X1_phase (hw : Wf μ) (hv : FV μ f p d) (hq : PV μ p q) : Ct Y_X1_phase R_X1_phase [.ref f] μ (.inl (some (.int (phD q d)))) μ := Ct.int (by rw [phD, phV, hq.told, hv.srv, hv.min, hq.clos]) (t_X1_phase hw hv.fl hq.pl hv.rp)
theorem v_X1_passengersIn (hw : Wf μ) (hv : FV μ f p d) (c : Int32) : Ct Y_X1_passengersIn R_X1_passengersIn [.ref f, .int c] μ (.inl (some (.int (paD d c)))) μ := Ct.int (itN_congr rfl fun i x hi => by rw [hv.cab hi]) (t_X1_passengersIn hw hv.fl hv.hP hv.P4 c)
theorem v_X1_specialsIn (hw : Wf μ) (hv : FV μ f p d) (c : Int32) : Ct Y_X1_specialsIn R_X1_specialsIn [.ref f, .int c] μ (.inl (some (.int (spD d c)))) μ := Ct.int (itN_congr rfl fun i x hi => by rw [hv.cab hi, hv.nee hi]) (t_X1_specialsIn hw hv.fl hv.hP hv.P4 c)
theorem v_X1_freeSeats (hw : Wf μ) (hv : FV μ f p d) (hq : PV μ p q) {c : Nat} (hc : c < pC q) : Ct Y_X1_freeSeats R_X1_freeSeats [.ref f, .int (nI c)] μ (.inl (some (.int (pF q 0 c - paD d (nI c))))) μ := Ct.int (by rw [hq.seats hc, paD]; congr 1; exact itN_congr rfl fun i x hi => by rw [hv.cab hi]) (t_X1_freeSeats hw hv.fl hq.pl hv.rp hv.hP hv.P4 (Nat.lt_of_lt_of_le hc hq.C4))
theorem v_X7_menuOf (hw : Wf μ) (hq : PV μ p q) (c : Int32) : Ct Y_X7_menuOf R_X7_menuOf [.ref p, .int c] μ (.inl (some (.int (meD q c)))) μ := Ct.int (itN_congr rfl fun i x hi => by rw [hq.m1 hi]) (t_X7_menuOf hw hq.pl hq.hM hq.M4 c)
theorem v_X7_trolleysOf (hw : Wf μ) (hq : PV μ p q) (c : Int32) : Ct Y_X7_trolleysOf R_X7_trolleysOf [.ref p, .int c] μ (.inl (some (.int (trD q c)))) μ := Ct.int (itN_congr rfl fun i x hi => by rw [hq.tc hi]) (t_X7_trolleysOf hw hq.pl hq.hT hq.T4 c)
theorem v_X7_admits (hw : Wf μ) (hq : PV μ p q) (c : Int32) {m : Nat} (hm : m < pM q) : Ct Y_X7_admits R_X7_admits [.ref p, .int c, .int (nI m)] μ (.inl (some (.int (adI (pF q 2 m) c)))) μ := Ct.int (by rw [hq.m1 hm]) (t_X7_admits hw hq.pl c (Nat.lt_of_lt_of_le hm hq.M4))
theorem v_X7_suiting (hw : Wf μ) (hq : PV μ p q) (c n : Int32) : Ct Y_X7_suiting R_X7_suiting [.ref p, .int c, .int n] μ (.inl (some (.int (suD q c n)))) μ := Ct.int (itN_congr rfl fun i x hi => by rw [hq.m1 hi, hq.m5 hi]) (t_X7_suiting hw hq.pl hq.hM hq.M4 c n)
theorem v_X1_suiting (hw : Wf μ) (hv : FV μ f p d) (hq : PV μ p q) {i : Nat} (hi : i < dP d) : Ct Y_X1_suiting R_X1_suiting [.ref f, .int (nI i)] μ (.inl (some (.int (suD q (dF d 0 i) (dF d 1 i))))) μ := Ct.int (by rw [hv.cab hi, hv.nee hi]; exact itN_congr rfl fun i x hi => by rw [hq.m1 hi, hq.m5 hi]) (t_X1_suiting hw hv.fl hq.pl hv.rp hq.hM hq.M4 (Nat.lt_of_lt_of_le hi hv.P4))
theorem frV_D (hv : FV μ f p d) (hq : PV μ p q) {t : Nat} (ht : t < pT q) : frV μ f p (pM q) t = fsD q d t := itN_congr (hq.ts ht) fun i x hi => by rw [hv.un (Nat.lt_of_lt_of_le ht hq.T4) (Nat.lt_of_lt_of_le hi hq.M4), hq.m3 hi]
theorem uiV_D (hv : FV μ f p d) (hq : PV μ p q) {t : Nat} (ht : t < 8) : itN (fun i a => a + gI μ (f + 5 + t) i) 0 (pM q) = uiD q d t := itN_congr rfl fun i x hi => by rw [hv.un ht (Nat.lt_of_lt_of_le hi hq.M4)]
theorem ldV_D (hv : FV μ f p d) (hq : PV μ p q) {k : Nat} (hk : k < 12) : ldV μ f (pT q) k = ldD q d k := itN_congr rfl fun t x ht => by rw [hv.un (Nat.lt_of_lt_of_le ht hq.T4) hk]
theorem owV_D (hv : FV μ f p d) (c : Int32) : owV μ f (dU d) c = owD d c := itN_congr rfl fun i x hi => by rw [hv.tm hi, hv.tu hi]
theorem v_X1_freeSlots (hw : Wf μ) (hv : FV μ f p d) (hq : PV μ p q) {t : Nat} (ht : t < pT q) : Ct Y_X1_freeSlots R_X1_freeSlots [.ref f, .int (nI t)] μ (.inl (some (.int (fsD q d t)))) μ := Ct.int (frV_D hv hq ht) (t_X1_freeSlots hw hv.fl hq.pl hv.rp hq.hM hq.M4 (Nat.lt_of_lt_of_le ht hq.T4))
theorem v_X1_freeSlotsIn (hw : Wf μ) (hv : FV μ f p d) (hq : PV μ p q) (c : Int32) : Ct Y_X1_freeSlotsIn R_X1_freeSlotsIn [.ref f, .int c] μ (.inl (some (.int (fiD q d c)))) μ := Ct.int (itN_congr rfl fun t x ht => by rw [hq.tc ht, frV_D hv hq ht]) (t_X1_freeSlotsIn hw hv.fl hq.pl hv.rp hq.hM hq.M4 hq.hT hq.T4 c)
theorem v_X1_unitsIn (hw : Wf μ) (hv : FV μ f p d) (hq : PV μ p q) {t : Nat} (ht : t < 8) : Ct Y_X1_unitsIn R_X1_unitsIn [.ref f, .int (nI t)] μ (.inl (some (.int (uiD q d t)))) μ := Ct.int (uiV_D hv hq ht) (t_X1_unitsIn hw hv.fl hq.pl hv.rp hq.hM hq.M4 ht)
theorem v_X1_loadedOf (hw : Wf μ) (hv : FV μ f p d) (hq : PV μ p q) {k : Nat} (hk : k < 12) : Ct Y_X1_loadedOf R_X1_loadedOf [.ref f, .int (nI k)] μ (.inl (some (.int (ldD q d k)))) μ := Ct.int (ldV_D hv hq hk) (t_X1_loadedOf hw hv.fl hq.pl hv.rp hq.hT hq.T4 hk)
theorem v_X1_allLoaded (hw : Wf μ) (hv : FV μ f p d) (hq : PV μ p q) : Ct Y_X1_allLoaded R_X1_allLoaded [.ref f] μ (.inl (some (.int (alD q d)))) μ := Ct.int (itN_congr rfl fun t x ht => by rw [uiV_D hv hq (Nat.lt_of_lt_of_le ht hq.T4)]) (t_X1_allLoaded hw hv.fl hq.pl hv.rp hq.hM hq.M4 hq.hT hq.T4)
theorem v_X1_onTheWay (hw : Wf μ) (hv : FV μ f p d) (c : Int32) : Ct Y_X1_onTheWay R_X1_onTheWay [.ref f, .int c] μ (.inl (some (.int (owD d c)))) μ := Ct.int (owV_D hv c) (t_X1_onTheWay hw hv.fl hv.hU hv.U4 c)
theorem v_X1_missing (hw : Wf μ) (hv : FV μ f p d) (hq : PV μ p q) {k : Nat} (hk : k < 12) (n : Int32) : Ct Y_X1_missing R_X1_missing [.ref f, .int (nI k), .int n] μ (.inl (some (.int (msD q d k n)))) μ := Ct.int (by rw [ldV_D hv hq hk, owV_D hv]; rfl) (t_X1_missing hw hv.fl hq.pl hv.rp hq.hT hq.T4 hv.hU hv.U4 hk n)
end
end VIEW
