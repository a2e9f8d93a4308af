section MATCHM
variable {S : Nat → Nat → Bool} {cap : Nat → Nat} {P M k : Nat} {fx : Nat → Option (Option Nat)} {g h : Nat → Option Nat}
/-- as fixed; those free behind k have nothing -/
def ExF (fx : Nat → Option (Option Nat)) (P k : Nat) (h : Nat → Option Nat) : Prop := ∀ p, p < P → (∀ x, fx p = some x → h p = x) ∧ (fx p = none → k ≤ p → h p = none)
def AlF (S : Nat → Nat → Bool) (cap : Nat → Nat) (P M : Nat) (fx : Nat → Option (Option Nat)) (k : Nat) (h : Nat → Option Nat) : Prop := MtG S cap P M h ∧ ExF fx P k h
def hyO (R : Nat → Bool) (a b : Option Nat) : Option Nat := if inR R a = true then a else if inR R b = true then none else b
theorem hy_some {R : Nat → Bool} {a b : Option Nat} {m : Nat} (e : hyO R a b = some m) : (a = some m ∧ R m = true) ∨ (b = some m ∧ ¬ R m = true ∧ ¬ inR R a = true) := by
  unfold hyO at e
  by_cases h1 : inR R a = true
  · rw [if_pos h1] at e
    rw [e] at h1
    exact Or.inl ⟨e, h1⟩
  · rw [if_neg h1] at e
    by_cases h2 : inR R b = true
    · rw [if_pos h2] at e; cases e
    · rw [if_neg h2] at e
      rw [e] at h2
      exact Or.inr ⟨e, h2, h1⟩
theorem koe1 {R : Nat → Bool} (hk : k < P) (hg : AlF S cap P M fx k g) (hmax : ∀ h, AlF S cap P M fx k h → szG h P ≤ szG g P) (hfull : ∀ m, m < M → R m = true → cntG g P m = cap m) (hcl : ∀ p, p < P → fx p = none → (p = k ∨ ∃ m, g p = some m ∧ R m = true) → ∀ m, m < M → S p m = true → R m = true) (hh : AlF S cap P M fx (k + 1) h) : szG h P ≤ szG g P := by
  have hfk : ∀ p m, p < P → h p = some m → ¬ R m = true → ¬ inR R (g p) = true := fun p m hp e hR z => by
    have hm := hh.1.1 p m hp e
    cases eg : g p with
    | none => rw [eg] at z; exact nR z
    | some m2 =>
      rw [eg] at z
      have z : R m2 = true := z
      cases ef : fx p with
      | none => exact hR (hcl p hp ef (Or.inr ⟨m2, eg, z⟩) m hm.1 hm.2)
      | some x =>
        have e1 := (hg.2 p hp).1 x ef
        have e2 := (hh.2 p hp).1 x ef
        rw [eg] at e1
        rw [e, ← e1] at e2
        injection e2 with e2
        exact hR (e2 ▸ z)
  have hy : AlF S cap P M fx k (fun p => hyO R (g p) (h p)) := by
    refine ⟨⟨fun p m hp e => ?_, fun m hm => ?_⟩, fun p hp => ⟨fun x ef => ?_, fun ef hkp => ?_⟩⟩
    · rcases hy_some e with ⟨e1, _⟩ | ⟨e1, _⟩
      · exact hg.1.1 p m hp e1
      · exact hh.1.1 p m hp e1
    · by_cases hR : R m = true
      · refine Nat.le_trans (fb_ct_sub fun p hp e => ?_) (hg.1.2 m hm)
        rw [decide_eq_true_eq] at e ⊢
        rcases hy_some e with ⟨e1, _⟩ | ⟨_, e2, _⟩
        · exact e1
        · exact absurd hR e2
      · refine Nat.le_trans (fb_ct_sub fun p hp e => ?_) (hh.1.2 m hm)
        rw [decide_eq_true_eq] at e ⊢
        rcases hy_some e with ⟨_, e2⟩ | ⟨e1, _⟩
        · exact absurd e2 hR
        · exact e1
    · show hyO R (g p) (h p) = x
      rw [(hg.2 p hp).1 x ef, (hh.2 p hp).1 x ef]
      unfold hyO
      by_cases z : inR R x = true
      · rw [if_pos z]
      · rw [if_neg z, if_neg z]
    · show hyO R (g p) (h p) = none
      rw [(hg.2 p hp).2 ef hkp]
      unfold hyO
      rw [if_neg nR]
      by_cases e : k + 1 ≤ p
      · rw [(hh.2 p hp).2 ef e, if_neg nR]
      · obtain rfl : p = k := by omega
        cases eh : h p with
        | none => rw [if_neg nR]
        | some m =>
          have hm := hh.1.1 p m hp eh
          rw [if_pos (show inR R (some m) = true from hcl p hp ef (Or.inl rfl) m hm.1 hm.2)]
  have h1 := hmax _ hy
  rw [sz_split _ R] at h1
  have h2 : inG g R P ≤ inG (fun p => hyO R (g p) (h p)) R P := fb_ct_sub fun p hp e => by
    show inR R (hyO R (g p) (h p)) = true
    unfold hyO
    rw [if_pos e]
    exact e
  have h3 : inG h (fun m => !R m) P ≤ inG (fun p => hyO R (g p) (h p)) (fun m => !R m) P := fb_ct_sub fun p hp e => by
    show inR (fun m => !R m) (hyO R (g p) (h p)) = true
    cases eh : h p with
    | none => rw [eh] at e; exact absurd e nR
    | some m =>
      rw [eh] at e
      have e : (!R m) = true := e
      have hR : ¬ R m = true := fun z => by rw [z] at e; exact absurd e (by decide)
      unfold hyO
      rw [if_neg (hfk p m hp eh hR), if_neg (show ¬ inR R (some m) = true from hR)]
      exact e
  have h4 : inG h R P ≤ inG g R P := by
    rw [inG_sum (M := M) fun p m hp e => (hh.1.1 p m hp e).1, inG_sum (M := M) fun p m hp e => (hg.1.1 p m hp e).1]
    refine fb_sm_le fun m hm => ?_
    show (if R m = true then cntG h P m else 0) ≤ if R m = true then cntG g P m else 0
    by_cases q : R m = true
    · rw [if_pos q, if_pos q, hfull m hm q]; exact hh.1.2 m hm
    · rw [if_neg q]; exact Nat.zero_le _
  rw [sz_split h R]
  omega
theorem ExF.up (hg : ExF fx P k g) : ExF fx P (k + 1) g := fun p hp => ⟨(hg p hp).1, fun e h => (hg p hp).2 e (by omega)⟩
/-- one more has been found: there can't be two more -/
theorem max_one (hk : k < P) (hmax : ∀ h, AlF S cap P M fx k h → szG h P ≤ szG g P) (hfk : fx k = none) (hh : AlF S cap P M fx (k + 1) h) : szG h P ≤ szG g P + 1 := by
  have h1 : AlF S cap P M fx k (up1 h k none) := by
    refine ⟨⟨fun p m hp e => ?_, fun m hm => ?_⟩, fun p hp => ⟨fun x ef => ?_, fun ef hkp => ?_⟩⟩
    · unfold up1 at e
      by_cases z : p = k
      · rw [if_pos z] at e; cases e
      · rw [if_neg z] at e; exact hh.1.1 p m hp e
    · have := cnt_up (g := h) hk none m
      rw [if_neg (show ¬ (none = some m) from fun z => nomatch z)] at this
      have := hh.1.2 m hm
      omega
    · have z : p ≠ k := fun z => by rw [z, hfk] at ef; cases ef
      rw [up1_ne z]; exact (hh.2 p hp).1 x ef
    · by_cases z : p = k
      · rw [z, up1_eq]
      · rw [up1_ne z]; exact (hh.2 p hp).2 ef (by omega)
  have h2 := hmax _ h1
  have h3 := sz_up (g := h) hk none
  have h4 : (if (none : Option Nat).isSome = true then 1 else 0) = 0 := rfl
  rw [h4] at h3
  have h5 : (if (h k).isSome = true then 1 else 0) ≤ 1 := by split <;> omega
  omega
theorem max_skip (hmax : ∀ h, AlF S cap P M fx k h → szG h P ≤ szG g P) (hk : k < P) (hs : fx k ≠ none ∨ ∀ m, m < M → S k m = false) (hh : AlF S cap P M fx (k + 1) h) : szG h P ≤ szG g P := by
  refine hmax h ⟨hh.1, fun p hp => ⟨(hh.2 p hp).1, fun ef hkp => ?_⟩⟩
  by_cases z : k + 1 ≤ p
  · exact (hh.2 p hp).2 ef z
  · obtain rfl : p = k := by omega
    rcases hs with hs | hs
    · exact absurd ef hs
    · cases e : h p with
      | none => rfl
      | some m =>
        have hm := hh.1.1 p m hp e
        rw [hs m hm.1] at hm
        cases hm.2
def joF (fx : Nat → Option (Option Nat)) (p : Nat) : Option Nat := (fx p).join
theorem jo_ex : ExF fx P 0 (joF fx) := fun p _ => ⟨fun x e => by unfold joF; rw [e]; rfl, fun e _ => by unfold joF; rw [e]; rfl⟩
theorem jo_max (hh : ExF fx P 0 h) : szG h P ≤ szG (joF fx) P := by
  refine Nat.le_of_eq (sz_cg fun p hp => ?_)
  unfold joF
  cases e : fx p with
  | none => exact (hh p hp).2 e (Nat.zero_le _)
  | some x => exact (hh p hp).1 x e
/-- too many are fixed -/
theorem jo_bad {p m : Nat} (hp : p < P) (hm : m < M) (hc : cap m < cntG (joF fx) (p + 1) m) : ¬ AlF S cap P M fx P h := fun hh => by
  have h1 : cntG (joF fx) (p + 1) m ≤ cntG h (p + 1) m := fb_ct_sub fun i hi e => by
    rw [decide_eq_true_eq] at e ⊢
    unfold joF at e
    cases ef : fx i with
    | none => rw [ef] at e; cases e
    | some x => rw [ef] at e; rw [(hh.2 i (by omega)).1 x ef]; exact e
  have h2 : cntG h (p + 1) m ≤ cntG h P m := fb_ct_mono _ (by omega)
  have h3 := hh.1.2 m hm
  omega
/-- the search's queue: who would take what -/
def QB (S : Nat → Nat → Bool) (P k : Nat) (g : Nat → Option Nat) (fx : Nat → Option (Option Nat)) (b n : Nat) (qf : Nat → Nat) (fo : Nat → Option Nat) : Prop :=
  (∀ i, i < n → qf i < b) ∧ (∀ i j, i < j → j < n → qf i ≠ qf j) ∧ (∀ y, y < b → (fo y ≠ none ↔ ∃ i, i < n ∧ qf i = y)) ∧
  ∀ i, i < n → ∃ p, fo (qf i) = some p ∧ p < P ∧ S p (qf i) = true ∧ (p = k ∨ (fx p = none ∧ ∃ j, j < i ∧ g p = some (qf j)))
theorem QB.le {b n : Nat} {qf : Nat → Nat} {fo : Nat → Option Nat} (hq : QB S P k g fx b n qf fo) : n ≤ b := fb_holes b n qf hq.1 hq.2.1
theorem QB.wide {b n : Nat} {qf : Nat → Nat} {fo : Nat → Option Nat} (hq : QB S P k g fx b n qf fo) (hb : fo b = none) : QB S P k g fx (b + 1) n qf fo := by
  refine ⟨fun i hi => Nat.lt_succ_of_lt (hq.1 i hi), hq.2.1, fun y hy => ?_, hq.2.2.2⟩
  by_cases e : y = b
  · subst e
    refine ⟨fun z => absurd hb z, fun ⟨i, hi, e⟩ => ?_⟩
    have := hq.1 i hi
    omega
  · exact hq.2.2.1 y (by omega)
theorem QB.push {b n y p : Nat} {qf : Nat → Nat} {fo : Nat → Option Nat} (hq : QB S P k g fx b n qf fo) (hy : y < b) (hn : fo y = none) (hp : p < P) (hs : S p y = true) (hpk : p = k ∨ (fx p = none ∧ ∃ j, j < n ∧ g p = some (qf j))) :
    QB S P k g fx b (n + 1) (up1 qf n y) (up1 fo y (some p)) := by
  have hne : ∀ i, i < n → qf i ≠ y := fun i hi e => by
    have := (hq.2.2.1 y hy).mpr ⟨i, hi, e⟩
    exact this hn
  have hl : ∀ i, i < n → up1 qf n y i = qf i := fun i hi => up1_ne (by omega)
  have hr : up1 qf n y n = y := up1_eq _ _ _
  refine ⟨fun i hi => ?_, fun i j hij hj => ?_, fun x hx => ?_, fun i hi => ?_⟩
  · by_cases e : i = n
    · rw [e, hr]; exact hy
    · rw [hl i (by omega)]; exact hq.1 i (by omega)
  · by_cases e : j = n
    · rw [e, hr, hl i (by omega)]; exact hne i (by omega)
    · rw [hl i (by omega), hl j (by omega)]; exact hq.2.1 i j hij (by omega)
  · by_cases e : x = y
    · subst e
      rw [up1_eq]
      exact ⟨fun _ => ⟨n, Nat.lt_succ_self n, hr⟩, fun _ z => nomatch z⟩
    · rw [up1_ne e, hq.2.2.1 x hx]
      refine ⟨fun ⟨i, hi, e2⟩ => ⟨i, by omega, by rw [hl i hi]; exact e2⟩, fun ⟨i, hi, e2⟩ => ?_⟩
      by_cases e3 : i = n
      · rw [e3, hr] at e2; exact absurd e2.symm e
      · exact ⟨i, by omega, by rw [hl i (by omega)] at e2; exact e2⟩
  · by_cases e : i = n
    · subst e
      rw [hr, up1_eq]
      refine ⟨p, rfl, hp, hs, hpk.imp (fun z => z) (fun z => ⟨z.1, ?_⟩)⟩
      obtain ⟨j, hj, e⟩ := z.2
      exact ⟨j, hj, by rw [hl j hj]; exact e⟩
    · obtain ⟨p2, h1, h2, h3, h4⟩ := hq.2.2.2 i (by omega)
      rw [hl i (by omega), up1_ne (hne i (by omega))]
      refine ⟨p2, h1, h2, h3, h4.imp (fun z => z) (fun z => ⟨z.1, ?_⟩)⟩
      obtain ⟨j, hj, e⟩ := z.2
      exact ⟨j, hj, by rw [hl j (by omega)]; exact e⟩
/-- the queue has grown -/
def Gr (n : Nat) (qf : Nat → Nat) (fo : Nat → Option Nat) (n2 : Nat) (qf2 : Nat → Nat) (fo2 : Nat → Option Nat) : Prop := n ≤ n2 ∧ (∀ i, i < n → qf2 i = qf i) ∧ ∀ m, fo m ≠ none → fo2 m ≠ none
theorem Gr.rfl' {n : Nat} {qf : Nat → Nat} {fo : Nat → Option Nat} : Gr n qf fo n qf fo := ⟨Nat.le_refl _, fun _ _ => rfl, fun _ z => z⟩
theorem Gr.trans {n n2 n3 : Nat} {qf qf2 qf3 : Nat → Nat} {fo fo2 fo3 : Nat → Option Nat} (a : Gr n qf fo n2 qf2 fo2) (b : Gr n2 qf2 fo2 n3 qf3 fo3) : Gr n qf fo n3 qf3 fo3 := ⟨Nat.le_trans a.1 b.1, fun i hi => (b.2.1 i (Nat.lt_of_lt_of_le hi a.1)).trans (a.2.1 i hi), fun m z => b.2.2 m (a.2.2 m z)⟩
theorem Gr.push {n y p : Nat} {qf : Nat → Nat} {fo : Nat → Option Nat} : Gr n qf fo (n + 1) (up1 qf n y) (up1 fo y (some p)) := ⟨Nat.le_succ n, fun i hi => up1_ne (by omega), fun m z => by
  unfold up1
  split
  · exact fun y => nomatch y
  · exact z⟩
/-- fixed; tried: as numbers -/
def fI (x : Option (Option Nat)) : Int32 := match x with
  | none => -1
  | some none => -2
  | some (some m) => nI m
def tI (x : Option (Option Nat)) (y : Option Nat) : Int32 := match x with
  | some none => -2
  | _ => oI y
theorem f_t (x : Option (Option Nat)) : fI x = tI x x.join := by
  rcases x with _ | _ | m <;> rfl
theorem fI_none {x : Option (Option Nat)} (h : ∀ m, x = some (some m) → m < 2 ^ 31) : fI x = -1 ↔ x = none := by
  rcases x with _ | _ | m
  · exact ⟨fun _ => rfl, fun _ => rfl⟩
  · exact ⟨fun z => absurd z (by decide), fun z => nomatch z⟩
  · exact ⟨fun z => absurd z (nI_ne1 (h m rfl)), fun z => nomatch z⟩
theorem tI_eq {x : Option (Option Nat)} {y : Option Nat} {m : Nat} (hm : m < 2 ^ 31) (hy : ∀ m, y = some m → m < 2 ^ 31) (hx : x = some none → y = none) : tI x y = nI m ↔ y = some m := by
  have e1 : oI y = nI m ↔ y = some m := by
    cases y with
    | none => exact ⟨fun z => absurd z.symm (nI_ne1 hm), fun z => nomatch z⟩
    | some b =>
      show nI b = nI m ↔ _
      rw [nI_eqI (hy b rfl) hm]
      exact ⟨fun z => by rw [z], fun z => Option.some.inj z⟩
  rcases x with _ | _ | b
  · exact e1
  · rw [hx rfl]
    refine ⟨fun z => ?_, fun z => nomatch z⟩
    have h2 : (-2 : Int32).toInt = (nI m).toInt := congrArg Int32.toInt z
    rw [nI_toInt hm] at h2
    have h3 : (-2 : Int32).toInt = -2 := rfl
    omega
  · exact e1
end MATCHM
