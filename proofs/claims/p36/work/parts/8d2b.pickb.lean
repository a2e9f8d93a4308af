section PB92
variable {μ W V Z : Wd} {q : PDt} {d d2 : FDt}
theorem go_s0 (h : goD q d) : dF d 6 0 = 0 ∧ ¬ pF q 9 0 = 0 := by
  unfold goD phD at h
  by_cases h0 : pF q 9 0 = 0
  · rw [if_pos h0] at h; rcases h with e | e <;> exact absurd e (by decide)
  · rw [if_neg h0] at h
    by_cases h1 : dF d 6 0 = 0
    · exact ⟨h1, h0⟩
    · rw [if_neg h1] at h; rcases h with e | e <;> exact absurd e (by decide)
end PB92
section PB94
variable {μ W V Z : Wd} {q : PDt} {d d2 : FDt} {k : Nat}
theorem so_lo (u : Nat → Int32) : ∀ c m (a : Int32) (d : FDt), dP (soF q u c m a d).2 = dP d ∧ dA (soF q u c m a d).2 = dA d ∧ dF (soF q u c m a d).2 6 0 = dF d 6 0 := by
  intro c
  induction c with
  | zero => intro m a d; exact ⟨rfl, rfl, rfl⟩
  | succ c ih =>
    intro m a d
    have s := stM_lo (q := q) (k := m) (nN (msD q d m (u m))) d
    rw [soF_s]
    split
    · exact ⟨s.1, s.2.2.1, s.2.2.2.1 6 0 (by decide)⟩
    · obtain ⟨i1, i2, i3⟩ := ih (m + 1) (a + msD q d m (u m)) (stM q m (nN (msD q d m (u m))) d).2
      exact ⟨i1.trans s.1, i2.trans s.2.2.1, i3.trans (s.2.2.2.1 6 0 (by decide))⟩
theorem to_lo (k : Nat) : ∀ r (n : Int32) (d : FDt), dP (toD k r n d) = dP d ∧ dA (toD k r n d) = dA d ∧ dF (toD k r n d) 6 0 = dF d 6 0 := by
  intro r
  induction r with
  | zero => intro n d; exact ⟨rfl, rfl, rfl⟩
  | succ r ih =>
    intro n d
    unfold toD
    obtain ⟨a, b, c⟩ := ih (n - (if dF d (7 + r) k < n then dF d (7 + r) k else n)) (setU d r k (dF d (7 + r) k - (if dF d (7 + r) k < n then dF d (7 + r) k else n)))
    exact ⟨a, b, c.trans (setU_lo d r k _ (by decide))⟩

end PB94
section PB9a
variable {μ W V : Wd} {q : PDt} {d : FDt} {k : Nat} {fx : Nat → Option (Option Nat)} {g G : Nat → Option Nat} {rs cap : Nat → Nat}
theorem SvP.of {n : Nat} (h : LexG (fun p m => bt (suM q d p) m) cap (dP d) (pM q) g n) : SvP q d cap 0 (g, fun m => cap m - cntG g (dP d) m) :=
  ⟨fun m hm => by have := h.1.1.2 m hm; show cap m - cntG g (dP d) m + cntG g (dP d) m = cap m; omega, fun j _ hj h0 => lex_plain h hj h0, fun j m hj e => (h.1.1.1 j m hj e).1⟩
end PB9a
section PB9b
variable {μ W V : Wd} {q : PDt} {d : FDt} {G : Nat → Option Nat} {rs : Nat → Nat}
theorem svD_sp {g : Nat → Option Nat} {rs0 : Nat → Nat} : ∀ n i, ¬ dF d 1 i = 0 → (svD q d g rs0 n).1 i = g i := by
  intro n
  induction n with
  | zero => intro i _; rfl
  | succ n ih =>
    intro i hi
    rw [svD_succ]
    by_cases h0 : dF d 1 n = 0
    · rw [plS_0 h0]
      show up1 _ n _ i = g i
      rw [up1_ne (fun z => hi (by rw [z]; exact h0))]
      exact ih i hi
    · rw [plS_1 h0]; exact ih i hi
/-- what holds of a service -/
theorem SvS.facts {n : Nat} (hM : pM q ≤ 12) (hwi : WiD q d) (h : SvS q d G rs n) : (∀ m, m < pM q → rs m + cntG G (dP d) m = ldN q d m) ∧ (∀ i m, i < dP d → G i = some m → m < pM q) ∧ fb_ct (fun i => decide (¬ dF d 1 i = 0 ∧ G i ≠ none)) (dP d) = n := by
  obtain ⟨g, hlex, e⟩ := h
  have hP := svD_P hM hwi (SvP.of hlex) (dP d) (Nat.le_refl _)
  rw [← e] at hP
  refine ⟨hP.1, hP.2.2, ?_⟩
  rw [← hlex.1.2.1]
  refine fb_ct_cong fun i hi => ?_
  have eG : G i = (svD q d g (fun m => ldN q d m - cntG g (dP d) m) (dP d)).1 i := congrFun (congrArg Prod.fst e) i
  by_cases h0 : dF d 1 i = 0
  · rw [lex_plain hlex hi h0, decide_eq_false (fun z => z.1 h0)]; rfl
  · rw [eG, svD_sp _ _ h0]
    cases g i with
    | none => exact decide_eq_false (fun z => z.2 rfl)
    | some m => exact decide_eq_true ⟨h0, fun z => nomatch z⟩
theorem wa_N (hq : GdP q) (hd : GdD q d) (hf : ∀ m, m < pM q → rs m + cntG G (dP d) m = ldN q d m) (hG : ∀ i m, i < dP d → G i = some m → m < pM q) : (∃ t, alD q d = nI (t + szG G (dP d)) ∧ waS rs (pM q) = nI t ∧ t + szG G (dP d) ≤ 3840) := by
  have hM := hq.M4
  have h1 : alD q d = nI (fb_sm (ldN q d) (pM q)) := by
    rw [← alD_m]
    exact sumI fun m hm => (ldD_N hq hd (show m < 12 by omega)).1
  have h2 : waS rs (pM q) = nI (fb_sm rs (pM q)) := sumI fun m _ => rfl
  have h3 : szG G (dP d) = fb_sm (fun m => cntG G (dP d) m) (pM q) := by
    have e := inG_sum (g := G) (R := fun _ => true) (M := pM q) (P := dP d) hG
    have e2 : inG G (fun _ => true) (dP d) = szG G (dP d) := fb_ct_cong fun i _ => by cases G i <;> rfl
    rw [← e2, e]
    exact fb_sm_cong fun m _ => if_pos rfl
  have h4 : fb_sm (ldN q d) (pM q) = fb_sm rs (pM q) + szG G (dP d) := by
    rw [h3, ← fb_sm_add]
    exact fb_sm_cong fun m hm => (hf m hm).symm
  have h5 := fb_sm_bound (f := ldN q d) (c := 320) (n := pM q) (fun m hm => (ldD_N hq hd (show m < 12 by omega)).2)
  refine ⟨fb_sm rs (pM q), by rw [h1, h4], h2, ?_⟩
  rw [← h4]
  omega
end PB9b
section PB9c
variable {μ W V X Z : Wd} {q : PDt} {d d2 : FDt} {G : Nat → Option Nat} {rs : Nat → Nat}
theorem suM_cg (hF : ∀ a i, a ≠ 6 → dF d2 a i = dF d a i) : suM q d2 = suM q d := funext fun i => by
  unfold suM
  rw [hF 1 i (by decide), hF 0 i (by decide)]
theorem ldN_cg (hF : ∀ a i, a ≠ 6 → dF d2 a i = dF d a i) : ldN q d2 = ldN q d := funext fun k => fb_sm_cong fun t _ => by
  show nN (dF d2 (7 + t) k) = nN (dF d (7 + t) k)
  rw [hF (7 + t) k (by omega)]
theorem plS_cg (hF : ∀ a i, a ≠ 6 → dF d2 a i = dF d a i) : plS q d2 = plS q d := funext fun i => funext fun s => by
  unfold plS plX
  rw [hF 1 i (by decide), hF 2 i (by decide), hF 0 i (by decide)]
theorem SvS_cg (hP : dP d2 = dP d) (hF : ∀ a i, a ≠ 6 → dF d2 a i = dF d a i) (n : Nat) : SvS q d2 G rs n ↔ SvS q d G rs n := by
  unfold SvS svD
  rw [suM_cg hF, ldN_cg hF, hP, plS_cg hF]
theorem srv_cg (q : PDt) (d : FDt) : ∀ a i, a ≠ 6 → dF (srvD q d) a i = dF d a i := fun a i ha => by rw [srv_F, if_neg (fun z => ha z.1), if_neg (fun z => ha z.1)]
/-- the service behind it is what it was -/
theorem srv_same {n : Nat} (hM : pM q ≤ 12) (hwi : WiD q d) (h : SvS q d G rs n) : (∀ i, i < dP d → (svR q (srvD q d)).1 i = (svR q d).1 i) := by
  have h1 := svR_of h
  have h2 := svR_of ((SvS_cg (d := d) (d2 := srvD q d) rfl (srv_cg q d) _).mpr h)
  exact (SvS.uniq hM hwi ((SvS_cg (d := d) (d2 := srvD q d) rfl (srv_cg q d) _).mp h2) h1).1
theorem SeD.srv {n : Nat} (h : SvS q d G rs n) : SeD q (srvD q d) := Or.inr ⟨G, rs, n, (SvS_cg (d := d) (d2 := srvD q d) rfl (srv_cg q d) n).mpr h⟩
end PB9c
section PB9s
variable {μ W W' V : Wd} {p p0 : Nat} {q : PDt} {d : FDt} {H : Hst} {S : Nat → Option FDt} {N L : Nat} {B : Nat → Nat} {os : List Int32} {nm : Nat → List Nat}
variable {d' : FDt} {H' : Hst} {S' : Nat → Option FDt} {r6 r15 : Int32}
variable {Yc Ym : Yd} {rc rx rm : Room} {as : List Value} {ks : List (String × Nat)}
theorem CrV.ask (h : CrV μ p q d H S) (a : AskQ μ q d W) : CrV W p q d H S := by
  obtain ⟨h1, h2, h3, h4, h5, h6⟩ := h
  obtain ⟨ho, a2, a3, a4⟩ := a
  have hp := pl_le h2.pl
  refine ⟨ho.1, h2.out ho (fun i a b y => ?_), h3.out ho (fun i a b y => by rcases y with y | y <;> omega), h4.out ho (fun i y => by rcases y with y | y <;> omega), h5.out ho (fun i y => by rcases y with y | y <;> omega), a4⟩
  rcases h2.pl with e | e <;> (subst e; rcases y with y | y <;> omega)
end PB9s
