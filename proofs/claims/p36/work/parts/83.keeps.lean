section KEEPS
variable {q : PDt} {d : FDt}
/-- the passengers changed, nothing else that is counted -/
theorem GdD.pas {d2 : FDt} (h : GdD q d) (hU : dU d2 = dU d) (hF : ∀ a i, 3 ≤ a → dF d2 a i = dF d a i) (hP : dP d2 ≤ 40) (hp : ∀ i, i < dP d2 → (∃ c, c < pC q ∧ dF d2 0 i = nI c) ∧ (∃ n, n < 256 ∧ dF d2 1 i = nI n) ∧ (dF d2 2 i = -1 ∨ ∃ x, x < pM q ∧ dF d2 2 i = nI x)) : GdD q d2 := by
  refine ⟨⟨hP, by rw [hU]; exact h.U4⟩, hp, fun t k ht hk => by rw [hF (7 + t) k (by omega)]; exact h.un ht hk, fun t ht => ?_, fun i hi => by rw [hF 3 i (by decide), hF 4 i (by decide)]; exact h.tu (by rw [← hU]; exact hi), by rw [hF 6 1 (by decide)]; exact h.min, by rw [hF 6 0 (by decide)]; exact h.s01⟩
  rw [fsD_congr (d := d) fun i _ => hF (7 + t) i (by omega)]; exact h.fs ht
theorem GdD.brd (h : GdD q d) (hP : dP d < 40) {c n : Nat} {v : Int32} (hc : c < pC q) (hn : n < 256) (hv : v = -1 ∨ ∃ x, x < pM q ∧ v = nI x) : GdD q (brdD d (nI c) (nI n) v) := by
  refine h.pas rfl (fun a i ha => if_neg (by omega)) hP fun i (hi : i < dP d + 1) => ?_
  by_cases hl : i = dP d
  · have g0 : dF (brdD d (nI c) (nI n) v) 0 i = nI c := (if_pos ⟨hl, by decide⟩).trans (if_pos rfl)
    have g1 : dF (brdD d (nI c) (nI n) v) 1 i = nI n := (if_pos ⟨hl, by decide⟩).trans ((if_neg (by decide)).trans (if_pos rfl))
    have g2 : dF (brdD d (nI c) (nI n) v) 2 i = v := (if_pos ⟨hl, by decide⟩).trans ((if_neg (by decide)).trans (if_neg (by decide)))
    rw [g0, g1, g2]
    exact ⟨⟨c, hc, rfl⟩, ⟨n, hn, rfl⟩, hv⟩
  · have g : ∀ a, dF (brdD d (nI c) (nI n) v) a i = dF d a i := fun a => if_neg (fun z => hl z.1)
    rw [g, g, g]
    exact ⟨h.cab (by omega), h.nee (by omega), h.wis (by omega)⟩
theorem GdD.leave (h : GdD q d) {i : Nat} (hi : i < dP d) : GdD q (leaveD d i) := by
  have hP := h.P4
  refine h.pas rfl (fun a x ha => if_neg (by omega)) (show dP d - 1 ≤ 40 by omega) fun x (hx : x < dP d - 1) => ?_
  by_cases hl : i ≤ x
  · have g : ∀ a, a < 3 → dF (leaveD d i) a x = dF d a (x + 1) := fun a ha => if_pos ⟨ha, hl, hx⟩
    rw [g 0 (by decide), g 1 (by decide), g 2 (by decide)]
    exact ⟨h.cab (by omega), h.nee (by omega), h.wis (by omega)⟩
  · have g : ∀ a, dF (leaveD d i) a x = dF d a x := fun a => if_neg (fun z => hl z.2.1)
    rw [g, g, g]
    exact ⟨h.cab (by omega), h.nee (by omega), h.wis (by omega)⟩
theorem GdD.nees (h : GdD q d) {i n : Nat} (hn : n < 256) : GdD q (cellD d 1 i (nI n)) := by
  refine h.pas rfl (fun a x ha => cell_ne d _ (by omega)) h.P4 fun x (hx : x < dP d) => ?_
  rw [cell_ne d (nI n) (show ¬ (0 = 1 ∧ x = i) by omega), cell_ne d (nI n) (show ¬ (2 = 1 ∧ x = i) by omega)]
  refine ⟨h.cab hx, ?_, h.wis hx⟩
  by_cases e : x = i
  · rw [e, cell_eq]; exact ⟨n, hn, rfl⟩
  · rw [cell_ne d (nI n) (fun z => e z.2)]; exact h.nee hx
theorem GdD.chg (h : GdD q d) {i c : Nat} (hc : c < pC q) : GdD q (cellD (cellD d 0 i (nI c)) 2 i (-1)) := by
  have h1 : GdD q (cellD d 0 i (nI c)) := by
    refine h.pas rfl (fun a x ha => cell_ne d _ (by omega)) h.P4 fun x (hx : x < dP d) => ?_
    rw [cell_ne d (nI c) (show ¬ (1 = 0 ∧ x = i) by omega), cell_ne d (nI c) (show ¬ (2 = 0 ∧ x = i) by omega)]
    refine ⟨?_, h.nee hx, h.wis hx⟩
    by_cases e : x = i
    · rw [e, cell_eq]; exact ⟨c, hc, rfl⟩
    · rw [cell_ne d (nI c) (fun z => e z.2)]; exact h.cab hx
  generalize cellD d 0 i (nI c) = d1 at h1
  refine h1.pas rfl (fun a x ha => cell_ne d1 _ (by omega)) h1.P4 fun x (hx : x < dP d1) => ?_
  rw [cell_ne d1 (-1) (show ¬ (0 = 2 ∧ x = i) by omega), cell_ne d1 (-1) (show ¬ (1 = 2 ∧ x = i) by omega)]
  refine ⟨h1.cab hx, h1.nee hx, ?_⟩
  by_cases e : x = i
  · rw [e, cell_eq]; exact Or.inl rfl
  · rw [cell_ne d1 (-1) (fun z => e z.2)]; exact h1.wis hx
theorem srv_F (q : PDt) (d : FDt) (a i : Nat) : dF (srvD q d) a i = if a = 6 ∧ i = 0 then 1 else if a = 6 ∧ i = 1 then 0 else dF d a i := by unfold srvD dF; rfl
theorem GdD.srvd (h : GdD q d) : GdD q (srvD q d) := by
  have n : ∀ a i, a ≠ 6 → dF (srvD q d) a i = dF d a i := fun a i ha => by rw [srv_F, if_neg (fun z => ha z.1), if_neg (fun z => ha z.1)]
  refine ⟨⟨h.P4, Nat.zero_le _⟩, fun i (hi : i < dP d) => by rw [n 0 i (by decide), n 1 i (by decide), n 2 i (by decide)]; exact ⟨h.cab hi, h.nee hi, h.wis hi⟩, fun t k ht hk => by rw [n (7 + t) k (by omega)]; exact h.un ht hk, fun t ht => ?_, fun i (hi : i < 0) => absurd hi (Nat.not_lt_zero i), ⟨0, Nat.zero_le _, by rw [srv_F, if_neg (by decide), if_pos ⟨rfl, rfl⟩]; rfl⟩, Or.inr (by rw [srv_F, if_pos ⟨rfl, rfl⟩])⟩
  rw [fsD_congr (d := d) fun i _ => n (7 + t) i (by omega)]; exact h.fs ht
theorem GdD.soF (hq : GdP q) {u : Nat → Int32} : ∀ c m (a : Int32) (d : FDt), m + c = pM q → GdD q d → GdD q (soF q u c m a d).2 := by
  intro c
  induction c with
  | zero => intro m a d _ h; exact h
  | succ c ih =>
    intro m a d hm h
    rw [soF_s]
    split
    · exact h.st hq (by omega) _
    · exact ih (m + 1) _ _ (by omega) (h.st hq (by omega) _)
theorem GdD.shf (h : GdD q d) {a : Nat} (ha : a ≤ dU d) : GdD q (shfD a d) := by
  have n : ∀ x i, ¬ (3 ≤ x ∧ x ≤ 5) → dF (shfD a d) x i = dF d x i := fun x i hx => if_neg hx
  have g : ∀ x i, 3 ≤ x → x ≤ 5 → dF (shfD a d) x i = dF d x (i + a) := fun x i h1 h2 => if_pos ⟨h1, h2⟩
  have hU := h.U4
  refine ⟨⟨h.P4, show dU d - a ≤ 6 by omega⟩, fun i (hi : i < dP d) => by rw [n 0 i (by decide), n 1 i (by decide), n 2 i (by decide)]; exact ⟨h.cab hi, h.nee hi, h.wis hi⟩, fun t k ht hk => by rw [n (7 + t) k (by omega)]; exact h.un ht hk, fun t ht => ?_, fun i (hi : i < dU d - a) => by rw [g 3 i (by decide) (by decide), g 4 i (by decide) (by decide)]; exact h.tu (by omega), by rw [n 6 1 (by decide)]; exact h.min, by rw [n 6 0 (by decide)]; exact h.s01⟩
  rw [fsD_congr (d := d) fun i _ => n (7 + t) i (by omega)]; exact h.fs ht
end KEEPS
