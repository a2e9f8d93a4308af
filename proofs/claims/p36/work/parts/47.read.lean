section READ
variable {μ W : Wd} {B : Nat → Nat} {n p0 p : Nat} {z : PZ}
theorem bnd_inr {α β : Type} {r : (Nat × Nat) ⊕ α} {f : α → (Nat × Nat) ⊕ β} {b : β} (h : bnd r f = .inr b) : ∃ a, r = .inr a ∧ f a = .inr b := by
  cases r with
  | inl e => cases h
  | inr a => exact ⟨a, rfl, h⟩
theorem sgZ_inr {z : PZ} {a : Nat × PZ} (h : sgZ B n p z = .inr a) : a = (p, z) := by
  obtain ⟨u, _, h2⟩ := bnd_inr h
  cases h2; rfl
theorem E1 (h : p ≤ n) : p ≤ tkE B n p ∧ tkE B n p ≤ n := by
  have h1 := tkS_le (B := B) h
  have h2 := tkE_le (B := B) h
  omega
theorem E2 {x : Nat} (h : p ≤ x ∧ x ≤ n) : p ≤ tkE B n x ∧ tkE B n x ≤ n := by
  have h1 := E1 (B := B) h.2
  omega
theorem adv_time {a : Nat × PZ} (hp : p ≤ n) (h : stTime B n p z = .inr a) : tkE B n p ≤ a.1 ∧ a.1 ≤ n := by
  obtain ⟨x, _, h⟩ := bnd_inr h
  obtain ⟨y, _, h⟩ := bnd_inr h
  rw [sgZ_inr h]
  exact E2 (E2 ⟨Nat.le_refl _, (E1 hp).2⟩)
theorem adv_lead {a : Nat × PZ} (hp : p ≤ n) (h : stLead B n p z = .inr a) : tkE B n p ≤ a.1 ∧ a.1 ≤ n := by
  obtain ⟨x, _, h⟩ := bnd_inr h
  rw [sgZ_inr h]
  exact E2 ⟨Nat.le_refl _, (E1 hp).2⟩
theorem adv_trolley {a : Nat × PZ} (hp : p ≤ n) (h : stTrolley B n p z = .inr a) : tkE B n p ≤ a.1 ∧ a.1 ≤ n := by
  unfold stTrolley at h
  by_cases h8 : 8 ≤ pT z.1
  · rw [if_pos h8] at h; cases h
  · rw [if_neg h8] at h
    obtain ⟨x, _, h⟩ := bnd_inr h
    obtain ⟨y, _, h⟩ := bnd_inr h
    rw [sgZ_inr h]
    exact E2 (E2 ⟨Nat.le_refl _, (E1 hp).2⟩)
theorem adv_guests {a : Nat × PZ} (hp : p ≤ n) (h : stGuests B n p z = .inr a) : tkE B n p ≤ a.1 ∧ a.1 ≤ n := by
  unfold stGuests at h
  obtain ⟨x, _, h⟩ := bnd_inr h
  obtain ⟨y, _, h⟩ := bnd_inr h
  (try dsimp only at h)
  split at h
  · cases h
  · split at h
    · cases h
    · rw [sgZ_inr h]
      exact E2 (E2 ⟨Nat.le_refl _, (E1 hp).2⟩)
theorem adv_gdN {a : Int32 × Nat} (hp : p ≤ n) (h : gdN B n p = .inr a) : p ≤ a.2 ∧ a.2 ≤ n := by
  unfold gdN at h
  split at h
  · obtain ⟨x, _, h⟩ := bnd_inr h
    cases h
    exact E2 (E1 hp)
  · cases h; exact ⟨Nat.le_refl _, hp⟩
theorem adv_gdW {a : Int32 × Nat} {c : Nat} (hp : p ≤ n) (h : gdW B n p z c = .inr a) : p ≤ a.2 ∧ a.2 ≤ n := by
  unfold gdW at h
  split at h
  · obtain ⟨x, _, h⟩ := bnd_inr h
    cases h
    exact E2 (E1 hp)
  · cases h; exact ⟨Nat.le_refl _, hp⟩
theorem adv_guest {a : Nat × PZ} (hp : p ≤ n) (h : stGuest B n p z = .inr a) : tkE B n p ≤ a.1 ∧ a.1 ≤ n := by
  unfold stGuest at h
  split at h
  · cases h
  · obtain ⟨x, _, h⟩ := bnd_inr h
    (try dsimp only at h)
    split at h
    · cases h
    · obtain ⟨y, h1, h⟩ := bnd_inr h
      unfold gdB at h
      obtain ⟨u, h2, h⟩ := bnd_inr h
      rw [sgZ_inr h]
      have e1 := E1 (B := B) hp
      have e2 := E1 (B := B) e1.2
      have e3 := E1 (B := B) e2.2
      have a1 := adv_gdN e2.2 h1
      have a2 := adv_gdW a1.2 h2
      dsimp only
      omega
theorem adv_cabin {a : Nat × PZ} (hp : p ≤ n) (h : stCabin B n p z = .inr a) : tkE B n p ≤ a.1 ∧ a.1 ≤ n := by
  have e1 := E1 (B := B) hp
  have e2 := E1 (B := B) e1.2
  have e3 := E1 (B := B) e2.2
  have e4 := E1 (B := B) e3.2
  unfold stCabin at h
  split at h
  · cases h
  · split at h
    · cases h
    · split at h
      · cases h
      · unfold cbS at h
        obtain ⟨y, _, h⟩ := bnd_inr h
        (try dsimp only at h)
        split at h
        · obtain ⟨u, _, h⟩ := bnd_inr h
          rw [sgZ_inr h]
          dsimp only
          omega
        · rw [sgZ_inr h]
          dsimp only
          omega
theorem adv_pa {a : Nat × Int32 × Int32} (hp : p ≤ n) (h : paS B n p z = .inr a) : p ≤ a.1 ∧ a.1 ≤ n := by
  have e1 := E1 (B := B) hp
  have e2 := E1 (B := B) e1.2
  have e3 := E1 (B := B) e2.2
  unfold paS at h
  split at h
  · cases h; exact e1
  · split at h
    · obtain ⟨y, _, h⟩ := bnd_inr h
      obtain ⟨u, _, h⟩ := bnd_inr h
      cases h
      dsimp only
      omega
    · cases h
theorem adv_of {a : Int32 × Nat} (hp : p ≤ n) (h : ofS B n p = .inr a) : p ≤ a.2 ∧ a.2 ≤ n := by
  unfold ofS at h
  split at h
  · obtain ⟨x, _, h⟩ := bnd_inr h
    cases h
    exact E2 (E1 hp)
  · cases h; exact ⟨Nat.le_refl _, hp⟩
theorem adv_meal {a : Nat × PZ} (hp : p ≤ n) (h : stMeal B n p z = .inr a) : tkE B n p ≤ a.1 ∧ a.1 ≤ n := by
  have e1 := E1 (B := B) hp
  unfold stMeal at h
  split at h
  · cases h
  · split at h
    · cases h
    · split at h
      · cases h
      · unfold mbS at h
        obtain ⟨x, h1, h⟩ := bnd_inr h
        obtain ⟨y, _, h⟩ := bnd_inr h
        obtain ⟨u, _, h⟩ := bnd_inr h
        obtain ⟨v, h2, h⟩ := bnd_inr h
        rw [sgZ_inr h]
        have a1 := adv_pa e1.2 h1
        have e2 := E1 (B := B) a1.2
        have e3 := E1 (B := B) e2.2
        have e4 := E1 (B := B) e3.2
        have a2 := adv_of e4.2 h2
        dsimp only
        omega
theorem adv_st {a : Nat × PZ} (hp : p ≤ n) (h : stS B n p z = .inr a) : tkE B n p ≤ a.1 ∧ a.1 ≤ n := by
  unfold stS at h
  repeat' split at h
  · exact adv_time hp h
  · exact adv_lead hp h
  · exact adv_cabin hp h
  · exact adv_meal hp h
  · exact adv_trolley hp h
  · exact adv_guests hp h
  · exact adv_guest hp h
  · cases h
/-- the statements from the token behind p on -/
def rdS (B : Nat → Nat) (n : Nat) : Nat → Nat → PZ → (Nat × Nat) ⊕ PZ
  | 0, _, z => .inr z
  | c + 1, p, z => if tkK B n p = 0 then .inr z else match stS B n p z with
    | .inl e => .inl e
    | .inr a => rdS B n c (tkE B n a.1) a.2
theorem rd_end {c : Nat} (h : tkK B n p = 0) : rdS B n c p z = .inr z := by
  cases c with
  | zero => rfl
  | succ c => exact if_pos h
theorem rd_bad {c : Nat} {e : Nat × Nat} (h : ¬ tkK B n p = 0) (hs : stS B n p z = .inl e) : rdS B n (c + 1) p z = .inl e := by
  show (if tkK B n p = 0 then _ else _) = _
  rw [if_neg h, hs]
theorem rd_ok {c : Nat} {a : Nat × PZ} (h : ¬ tkK B n p = 0) (hs : stS B n p z = .inr a) : rdS B n (c + 1) p z = rdS B n c (tkE B n a.1) a.2 := by
  show (if tkK B n p = 0 then _ else _) = _
  rw [if_neg h, hs]
/-- the names that may still come -/
def nlZ (z : PZ) : Nat := (4 - pC z.1) + (12 - pM z.1)
/-- what reading leaves -/
def RdE (B : Nat → Nat) (n p0 : Nat) (μ : Wd) (r : (Nat × Nat) ⊕ PZ) (v : Int32) (V : Wd) : Prop := Ex (sP p0) μ V ∧ wn V ≤ wn μ + 48 ∧ True ∧ True ∧ True ∧ match r with
  | .inl e => v = 0 ∧ ErV V e
  | .inr z => v = 1 ∧ EkV μ V ∧ ∃ p, PsV B n p0 p z V
def K3 (_ : Nat) : Prop := True ∧ True ∧ True
theorem K3.next {k : Nat} (h364 : 339 ≤ k) (h : K3 k) : K3 (k + 3) := by
  exact h
theorem bnd_pc {z : PZ} : (4 - pC z.1) + (12 - pM z.1) = nlZ z := rfl
theorem st_names {a : Nat × PZ} (h : stS B n p z = .inr a) : (pC a.2.1 = pC z.1 ∧ pM a.2.1 = pM z.1) ∨ (wdI B n p 6 = true ∧ pC z.1 < 4 ∧ pC a.2.1 = pC z.1 + 1 ∧ pM a.2.1 = pM z.1) ∨ (wdI B n p 8 = true ∧ pM z.1 < 12 ∧ pM a.2.1 = pM z.1 + 1 ∧ pC a.2.1 = pC z.1) := by
  unfold stS at h
  by_cases w4 : wdI B n p 4 = true
  · rw [if_pos w4] at h
    obtain ⟨x, _, h⟩ := bnd_inr h
    obtain ⟨y, _, h⟩ := bnd_inr h
    rw [sgZ_inr h]; exact Or.inl ⟨rfl, rfl⟩
  rw [if_neg w4] at h
  by_cases w5 : wdI B n p 5 = true
  · rw [if_pos w5] at h
    obtain ⟨x, _, h⟩ := bnd_inr h
    rw [sgZ_inr h]; exact Or.inl ⟨rfl, rfl⟩
  rw [if_neg w5] at h
  by_cases w6 : wdI B n p 6 = true
  · rw [if_pos w6] at h
    refine Or.inr (Or.inl ⟨w6, ?_⟩)
    unfold stCabin at h
    split at h
    · cases h
    · rename_i h4
      split at h
      · cases h
      · split at h
        · cases h
        · unfold cbS at h
          obtain ⟨y, _, h⟩ := bnd_inr h
          (try dsimp only at h)
          split at h
          · obtain ⟨u, _, h⟩ := bnd_inr h
            rw [sgZ_inr h]; exact ⟨by omega, rfl, rfl⟩
          · rw [sgZ_inr h]; exact ⟨by omega, rfl, rfl⟩
  rw [if_neg w6] at h
  by_cases w8 : wdI B n p 8 = true
  · rw [if_pos w8] at h
    refine Or.inr (Or.inr ⟨w8, ?_⟩)
    unfold stMeal at h
    split at h
    · cases h
    · rename_i h4
      split at h
      · cases h
      · split at h
        · cases h
        · unfold mbS at h
          obtain ⟨x, h1, h⟩ := bnd_inr h
          obtain ⟨y, _, h⟩ := bnd_inr h
          obtain ⟨u, _, h⟩ := bnd_inr h
          obtain ⟨v, h2, h⟩ := bnd_inr h
          rw [sgZ_inr h]; exact ⟨by omega, rfl, rfl⟩
  rw [if_neg w8] at h
  left
  by_cases w12 : wdI B n p 12 = true
  · rw [if_pos w12] at h
    unfold stTrolley at h
    split at h
    · cases h
    · obtain ⟨x, _, h⟩ := bnd_inr h
      obtain ⟨y, _, h⟩ := bnd_inr h
      rw [sgZ_inr h]; exact ⟨rfl, rfl⟩
  rw [if_neg w12] at h
  by_cases w13 : wdI B n p 13 = true
  · rw [if_pos w13] at h
    unfold stGuests at h
    obtain ⟨x, _, h⟩ := bnd_inr h
    obtain ⟨y, _, h⟩ := bnd_inr h
    (try dsimp only at h)
    split at h
    · cases h
    · split at h
      · cases h
      · rw [sgZ_inr h]; exact ⟨rfl, rfl⟩
  rw [if_neg w13] at h
  by_cases w14 : wdI B n p 14 = true
  · rw [if_pos w14] at h
    unfold stGuest at h
    split at h
    · cases h
    · obtain ⟨x, _, h⟩ := bnd_inr h
      (try dsimp only at h)
      split at h
      · cases h
      · obtain ⟨y, h1, h⟩ := bnd_inr h
        unfold gdB at h
        obtain ⟨u, h2, h⟩ := bnd_inr h
        rw [sgZ_inr h]; exact ⟨rfl, rfl⟩
  rw [if_neg w14] at h
  cases h
theorem wd_one {a b : Nat} (h1 : wdI B n p a = true) (h2 : wdI B n p b = true) : kby a = kby b := by
  rw [wdI, decide_eq_true_eq] at h1 h2
  exact h1.2.symm.trans h2.2
theorem st_less {a : Nat × PZ} (h : stS B n p z = .inr a) (hn : wdI B n p 6 = true ∧ pC z.1 < 4 ∨ wdI B n p 8 = true ∧ pM z.1 < 12) : nlZ a.2 + 1 ≤ nlZ z := by
  have h2 := st_names h
  unfold stS at h
  have e4 : ¬ wdI B n p 4 = true := fun q => hn.elim (fun x => absurd (wd_one q x.1) (by decide)) (fun x => absurd (wd_one q x.1) (by decide))
  have e5 : ¬ wdI B n p 5 = true := fun q => hn.elim (fun x => absurd (wd_one q x.1) (by decide)) (fun x => absurd (wd_one q x.1) (by decide))
  rw [if_neg e4, if_neg e5] at h
  rcases hn with ⟨w6, hc⟩ | ⟨w8, hc⟩
  · rw [if_pos w6] at h
    have : pC a.2.1 = pC z.1 + 1 ∧ pM a.2.1 = pM z.1 := by
      unfold stCabin at h
      split at h
      · cases h
      · split at h
        · cases h
        · split at h
          · cases h
          · unfold cbS at h
            obtain ⟨y, _, h⟩ := bnd_inr h
            (try dsimp only at h)
            split at h
            · obtain ⟨u, _, h⟩ := bnd_inr h
              rw [sgZ_inr h]; exact ⟨rfl, rfl⟩
            · rw [sgZ_inr h]; exact ⟨rfl, rfl⟩
    unfold nlZ
    omega
  · have e6 : ¬ wdI B n p 6 = true := fun q => absurd (wd_one q w8) (by decide)
    rw [if_neg e6, if_pos w8] at h
    have : pM a.2.1 = pM z.1 + 1 ∧ pC a.2.1 = pC z.1 := by
      unfold stMeal at h
      split at h
      · cases h
      · split at h
        · cases h
        · split at h
          · cases h
          · unfold mbS at h
            obtain ⟨x, h1, h⟩ := bnd_inr h
            obtain ⟨y, _, h⟩ := bnd_inr h
            obtain ⟨u, _, h⟩ := bnd_inr h
            obtain ⟨v, h2, h⟩ := bnd_inr h
            rw [sgZ_inr h]; exact ⟨rfl, rfl⟩
    unfold nlZ
    omega
/-- one statement, whichever room it takes -/
theorem rs_any (hz : PsV B n p0 p z μ) (hk3 : K3 (wn μ)) (hmax : wn μ + 3 < 1000000) : (∃ (v : Option Value) (V : Wd), Ct Y_X2_readStatement R_X2_readStatement [.ref 79] μ (.inl v) V ∧ StQ B n p0 μ (stS B n p z) v V) ∨
    ((wdI B n p 6 = true ∧ pC z.1 < 4 ∨ wdI B n p 8 = true ∧ pM z.1 < 12) ∧ ∃ (v : Option Value) (V : Wd), Ct Y_X2_readStatement R3_X2_readStatement [.ref 79] μ (.inl v) V ∧ StN B n p0 μ (stS B n p z) v V) := by
  by_cases h : wdI B n p 6 = true ∧ pC z.1 < 4 ∨ wdI B n p 8 = true ∧ pM z.1 < 12
  · exact Or.inr ⟨h, tn_X2_readStatement hz ⟨hk3, hmax⟩ h⟩
  · exact Or.inl (t_X2_readStatement hz (fun q => Nat.not_lt.mp fun r => h (Or.inl ⟨q, r⟩)) (fun q => Nat.not_lt.mp fun r => h (Or.inr ⟨q, r⟩)))
abbrev R48_X2_read : Room := { frames := 13, cells := 48, slots := 256, locals := 326 }
theorem l_X2_read_61 {Q : Oc → Wd → Prop} : ∀ (c i p : Nat) (z : PZ) (W : Wd) (b : Nat × Nat), i + c = n + 1 → i ≤ p → PsV B n p0 p z W → K3 (wn W) → 3 * nlZ z ≤ b.1 → 16 * nlZ z ≤ b.2 → wn W + 3 * nlZ z + 3 < 1000000 →
    (∀ (V : Wd) (r5 : Int32), Ex (sP p0) W V → wn V ≤ wn W + 3 * nlZ z → K3 (wn V) → (match rdS B n c p z with
      | .inl e => r5 = 0 ∧ ErV V e
      | .inr z2 => r5 = 1 ∧ EkV W V ∧ ∃ p2, PsV B n p0 p2 z2 V) → WP Y_X2_read R48_X2_read (0, 0) V 106 [(0, .ref 79), (5, .int r5)] [] Q) →
    WP Y_X2_read R48_X2_read b W 61 [(0, .ref 79), (2, .int (nI n)), (5, .int 1), (6, .int (nI i))] [] Q := by
  intro c
  induction c with
  | zero =>
    intro i p z W b hi hip hz hk3 hb1 hb2 hm kx
    have := hz.le
    omega
  | succ c ih =>
    intro i p z W b hi hip hz hk3 hb1 hb2 hm kx
    have hw := hz.wf
    have hp := hz.pv.pl
    have hpp := pl_le hp
    have hr2 := hz.r2
    have hr1 := hz.r1
    have hA := hz.at'
    have hpn := hz.le
    have hn9 := hz.n900
    have htx := hz.tk.1
    refine lf (a_iload dX2_read_61 rfl) ?_
    refine lf (a_iload_n dX2_read_63 rfl) ?_
    refine lf2 (a_icmp_gt (tgt := 106) dX2_read_64 (by decide)) (fun h64 => absurd h64 (fun z2 => absurd ((Int32.lt_iff_toInt_lt).mp z2) (by rw [nI_toInt (by omega), nI_toInt (by omega)]; omega))) (fun h64 => ?_)
    refine lf (a_iload dX2_read_67 rfl) ?_
    refine lf2 (a_if_eq (tgt := 106) dX2_read_69 (by decide)) (fun h69 => absurd h69 (by decide)) (fun h69 => ?_)
    refine lf (a_aload_n dX2_read_72 rfl) ?_
    refine lf (a_getR (cr_79_0 hw) dX2_read_73 fs_X2_12 rfl (co_79 hw)) ?_
    refine lf (a_getI dX2_read_76 fs_X2_50 rfl (co_80 hw)) ?_
    rw [hA.2.2.1]
    refine lf2 (a_if_eq (tgt := 106) dX2_read_79 (by decide)) (fun h79 => ?_) (fun h79 => ?_)
    · have hk0 : tkK B n p = 0 := (kEq B n p (k := 0) (by decide)).mp h79
      refine (fun k => (⟨k.choose, k.choose_spec.choose, a_room (Nat.zero_le _) (Nat.zero_le _) (a_loc _ rfl k.choose_spec.choose_spec.1), k.choose_spec.choose_spec.2⟩ : WP _ _ _ _ _ _ _ _)) (kx W 1 (Ex.rfl' hw) (by omega) hk3 ?_)
      rw [rd_end hk0]
      exact ⟨rfl, EkV.rfl', p, hz⟩
    · have hk0 : ¬ tkK B n p = 0 := fun q => h79 (by rw [q]; rfl)
      refine lf (a_aload_n dX2_read_82 rfl) ?_
      have hmx : wn W + 3 < 1000000 := by omega
      have htk : tkS B n p < n := by
        unfold tkK at hk0
        by_cases h1 : n ≤ tkS B n p
        · rw [if_pos h1] at hk0; exact absurd rfl hk0
        · omega
      have hgt := (tkE_le (B := B) hpn).2.2 htk
      have hge := (tkS_le (B := B) hpn).1
      rcases rs_any hz hk3 hmx with ⟨v, V, k83, hV⟩ | ⟨hnm, v, V, k83, hV⟩
      · have hwV := hV.1.1.1
        have hE2 : ∀ e, stS B n p z = .inl e → v = some (.int 0) ∧ ErV V e := fun e he => by have h := hV.2; rw [he] at h; exact h
        have hO2 : ∀ a, stS B n p z = .inr a → EkV W V ∧ v = some (.int 1) ∧ PsV B n p0 a.1 a.2 V := fun a ha => by have h := hV.2; rw [ha] at h; exact h
        have hwn : wn V = wn W := hV.1.2
        cases hs : stS B n p z with
        | inl e =>
          obtain ⟨rfl, hE⟩ := hE2 e hs
          refine lf (a_inv (b2 := b) k83 rfl dX2_read_83 yk_X2_readStatement im_X2_readStatement se_X2_readStatement ml_X2_53 rfl (co_79 (by repeat (first | with_reducible exact hw | with_reducible exact hwc | with_reducible assumption | with_reducible apply Wf.sI | with_reducible apply Wf.sL | with_reducible apply Wf.cpI | with_reducible apply Wf.cpL | with_reducible apply Wf.cp2 | with_reducible apply Wf.sIs | with_reducible apply Wf.sLs | with_reducible apply Wf.cpU | with_reducible apply Wf.fillI | with_reducible apply Wf.clU | with_reducible apply Wf.dnF | with_reducible apply Wf.gbW))) (by decide) hc_X2 (by decide) ⟨Nat.le_of_eq (Nat.zero_add _), Nat.le_of_eq (Nat.zero_add _)⟩ (Nat.le_of_ble_eq_true rfl)) ?_
          refine lf (a_istore dX2_read_86 (by decide)) ?_
          refine lf (a_iload dX2_read_88 rfl) ?_
          refine lf2 (a_if_eq (tgt := 100) dX2_read_90 (by decide)) (fun h90 => ?_) (fun h90 => absurd h90 (fun q => q rfl))
          refine lf (a_iinc (1 : Int32) dX2_read_100 (by decide) rfl (by decide)) ?_
          refine lf (a_goto (tgt := 61) dX2_read_103 (by decide)) ?_
          refine lf (a_iload dX2_read_61 rfl) ?_
          refine lf (a_iload_n dX2_read_63 rfl) ?_
          refine lf2 (a_icmp_gt (tgt := 106) dX2_read_64 (by decide)) (fun h64 => ?_) (fun h64 => ?_)
          · refine (fun k => (⟨k.choose, k.choose_spec.choose, a_room (Nat.zero_le _) (Nat.zero_le _) (a_loc _ rfl k.choose_spec.choose_spec.1), k.choose_spec.choose_spec.2⟩ : WP _ _ _ _ _ _ _ _)) (kx V 0 hV.1.1 (by omega) ?_ ?_)
            · rw [hwn]; exact hk3
            · rw [rd_bad hk0 hs]
              exact ⟨rfl, hE⟩
          · refine lf (a_iload dX2_read_67 rfl) ?_
            refine lf2 (a_if_eq (tgt := 106) dX2_read_69 (by decide)) (fun h69 => ?_) (fun h69 => absurd h69 (by decide))
            refine (fun k => (⟨k.choose, k.choose_spec.choose, a_room (Nat.zero_le _) (Nat.zero_le _) (a_loc _ rfl k.choose_spec.choose_spec.1), k.choose_spec.choose_spec.2⟩ : WP _ _ _ _ _ _ _ _)) (kx V 0 hV.1.1 (by omega) ?_ ?_)
            · rw [hwn]; exact hk3
            · rw [rd_bad hk0 hs]
              exact ⟨rfl, hE⟩
        | inr a =>
          have hadv := adv_st hpn hs
          have hnl2 : nlZ a.2 ≤ nlZ z := by
            rcases st_names hs with ⟨e1, e2⟩ | ⟨_, e0, e1, e2⟩ | ⟨_, e0, e1, e2⟩ <;> (unfold nlZ; omega)
          have hnl3 : wn V + 3 * nlZ a.2 ≤ wn W + 3 * nlZ z := by omega
          have hbb1 : 3 * nlZ a.2 ≤ b.1 := by omega
          have hbb2 : 16 * nlZ a.2 ≤ b.2 := by omega
          obtain ⟨hK, rfl, hzV⟩ := hO2 a hs
          have hwc := hzV.wf
          have hr2 := hzV.r2
          have hr1 := hzV.r1
          have hpv := hzV.le
          have henV := tkE_le (B := B) hpv
          have hgeV := (tkS_le (B := B) hpv).1
          have htx := hzV.tk.1
          refine lf (a_inv (b2 := b) k83 rfl dX2_read_83 yk_X2_readStatement im_X2_readStatement se_X2_readStatement ml_X2_53 rfl (co_79 (by repeat (first | with_reducible exact hw | with_reducible exact hwc | with_reducible assumption | with_reducible apply Wf.sI | with_reducible apply Wf.sL | with_reducible apply Wf.cpI | with_reducible apply Wf.cpL | with_reducible apply Wf.cp2 | with_reducible apply Wf.sIs | with_reducible apply Wf.sLs | with_reducible apply Wf.cpU | with_reducible apply Wf.fillI | with_reducible apply Wf.clU | with_reducible apply Wf.dnF | with_reducible apply Wf.gbW))) (by decide) hc_X2 (by decide) ⟨Nat.le_of_eq (Nat.zero_add _), Nat.le_of_eq (Nat.zero_add _)⟩ (Nat.le_of_ble_eq_true rfl)) ?_
          refine lf (a_istore dX2_read_86 (by decide)) ?_
          refine lf (a_iload dX2_read_88 rfl) ?_
          refine lf2 (a_if_eq (tgt := 100) dX2_read_90 (by decide)) (fun h90 => absurd h90 (by decide)) (fun h90 => ?_)
          refine lf (a_aload_n dX2_read_93 rfl) ?_
          refine lf (a_getR (cr_79_0 (by repeat (first | with_reducible exact hw | with_reducible exact hwc | with_reducible assumption | with_reducible apply Wf.sI | with_reducible apply Wf.sL | with_reducible apply Wf.cpI | with_reducible apply Wf.cpL | with_reducible apply Wf.cp2 | with_reducible apply Wf.sIs | with_reducible apply Wf.sLs | with_reducible apply Wf.cpU | with_reducible apply Wf.fillI | with_reducible apply Wf.clU | with_reducible apply Wf.dnF | with_reducible apply Wf.gbW))) dX2_read_94 fs_X2_12 rfl (co_79 (by repeat (first | with_reducible exact hw | with_reducible exact hwc | with_reducible assumption | with_reducible apply Wf.sI | with_reducible apply Wf.sL | with_reducible apply Wf.cpI | with_reducible apply Wf.cpL | with_reducible apply Wf.cp2 | with_reducible apply Wf.sIs | with_reducible apply Wf.sLs | with_reducible apply Wf.cpU | with_reducible apply Wf.fillI | with_reducible apply Wf.clU | with_reducible apply Wf.dnF | with_reducible apply Wf.gbW)))) ?_
          obtain ⟨v_, W97, k97, rfl, hO97, hA97⟩ := (t_X9_next hzV.wf hzV.tk henV.2.1 hzV.at'.2.1)
          have hz97 := hzV.next hO97 hA97 henV.2.1
          have hw97 := hz97.wf
          refine lf (a_inv (b2 := b) k97 rfl dX2_read_97 yk_X9_next im_X9_next se_X9_next ml_X2_47 rfl (co_80 (by repeat (first | with_reducible exact hw | with_reducible exact hwc | with_reducible assumption | with_reducible apply Wf.sI | with_reducible apply Wf.sL | with_reducible apply Wf.cpI | with_reducible apply Wf.cpL | with_reducible apply Wf.cp2 | with_reducible apply Wf.sIs | with_reducible apply Wf.sLs | with_reducible apply Wf.cpU | with_reducible apply Wf.fillI | with_reducible apply Wf.clU | with_reducible apply Wf.dnF | with_reducible apply Wf.gbW))) (by decide) hc_X9 (by decide) ⟨Nat.le_of_eq (Nat.zero_add _), Nat.le_of_eq (Nat.zero_add _)⟩ (Nat.le_of_ble_eq_true rfl)) ?_
          refine lf (a_iincN dX2_read_100 rfl (by decide)) ?_
          refine lf (a_goto (tgt := 61) dX2_read_103 (by decide)) ?_
          have hX97 := (ExT hO97).1.1
          refine lf (a_loc [(0, .ref 79), (2, .int (nI n)), (5, .int 1), (6, .int (nI (i + 1)))] rfl) (ih (i + 1) (tkE B n a.1) a.2 W97 b (by omega) (by omega) hz97 ?_ hbb1 hbb2 (by have := hO97.1.2.1; omega) (fun V2 r5 g1 g2 g3 g4 => ?_))
          · rw [hO97.1.2.1]
            rw [hwn]; exact hk3
          · refine kx V2 r5 ((hV.1.1.trans (hX97.mono (fun i _ y => sT_sP p0 i y))).trans g1) (by have := hO97.1.2.1; omega) g3 ?_
            rw [rd_ok hk0 hs]
            revert g4
            cases rdS B n c (tkE B n a.1) a.2 with
            | inl e => exact fun g => g
            | inr z2 => exact fun g => ⟨g.1, (hK.trans (ExT hO97).2).trans g.2.1, g.2.2⟩
      · have hwV := hV.1.1
        have hE2 : ∀ e, stS B n p z = .inl e → v = some (.int 0) ∧ ErV V e := fun e he => by have h := hV.2.2; rw [he] at h; exact h
        have hO2 : ∀ a, stS B n p z = .inr a → EkV W V ∧ v = some (.int 1) ∧ PsV B n p0 a.1 a.2 V ∧ wn V = wn W + 3 := fun a ha => by have h := hV.2.2; rw [ha] at h; exact ⟨h.2.1, h.2.2.1, h.2.2.2, h.1⟩
        have hwn : wn V = wn W ∨ wn V = wn W + 3 := hV.2.1
        have hl1 : 1 ≤ nlZ z := by unfold nlZ; rcases hnm with h | h <;> omega
        cases hs : stS B n p z with
        | inl e =>
          obtain ⟨rfl, hE⟩ := hE2 e hs
          refine lf (a_inv (b2 := (b.1 - 3, b.2 - 16)) k83 rfl dX2_read_83 yk_X2_readStatement im_X2_readStatement se_X2_readStatement ml_X2_53 rfl (co_79 (by repeat (first | with_reducible exact hw | with_reducible exact hwc | with_reducible assumption | with_reducible apply Wf.sI | with_reducible apply Wf.sL | with_reducible apply Wf.cpI | with_reducible apply Wf.cpL | with_reducible apply Wf.cp2 | with_reducible apply Wf.sIs | with_reducible apply Wf.sLs | with_reducible apply Wf.cpU | with_reducible apply Wf.fillI | with_reducible apply Wf.clU | with_reducible apply Wf.dnF | with_reducible apply Wf.gbW))) (by decide) hc_X2 (by decide) ⟨by show 3 + (b.1 - 3) ≤ b.1; omega, by show 16 + (b.2 - 16) ≤ b.2; omega⟩ (Nat.le_of_ble_eq_true rfl)) ?_
          refine lf (a_istore dX2_read_86 (by decide)) ?_
          refine lf (a_iload dX2_read_88 rfl) ?_
          refine lf2 (a_if_eq (tgt := 100) dX2_read_90 (by decide)) (fun h90 => ?_) (fun h90 => absurd h90 (fun q => q rfl))
          refine lf (a_iinc (1 : Int32) dX2_read_100 (by decide) rfl (by decide)) ?_
          refine lf (a_goto (tgt := 61) dX2_read_103 (by decide)) ?_
          refine lf (a_iload dX2_read_61 rfl) ?_
          refine lf (a_iload_n dX2_read_63 rfl) ?_
          refine lf2 (a_icmp_gt (tgt := 106) dX2_read_64 (by decide)) (fun h64 => ?_) (fun h64 => ?_)
          · refine (fun k => (⟨k.choose, k.choose_spec.choose, a_room (Nat.zero_le _) (Nat.zero_le _) (a_loc _ rfl k.choose_spec.choose_spec.1), k.choose_spec.choose_spec.2⟩ : WP _ _ _ _ _ _ _ _)) (kx V 0 hV.1 (by omega) ?_ ?_)
            · rcases hwn with e2 | e2 <;> rw [e2]
              · exact hk3
              · exact K3.next hw.1 hk3
            · rw [rd_bad hk0 hs]
              exact ⟨rfl, hE⟩
          · refine lf (a_iload dX2_read_67 rfl) ?_
            refine lf2 (a_if_eq (tgt := 106) dX2_read_69 (by decide)) (fun h69 => ?_) (fun h69 => absurd h69 (by decide))
            refine (fun k => (⟨k.choose, k.choose_spec.choose, a_room (Nat.zero_le _) (Nat.zero_le _) (a_loc _ rfl k.choose_spec.choose_spec.1), k.choose_spec.choose_spec.2⟩ : WP _ _ _ _ _ _ _ _)) (kx V 0 hV.1 (by omega) ?_ ?_)
            · rcases hwn with e2 | e2 <;> rw [e2]
              · exact hk3
              · exact K3.next hw.1 hk3
            · rw [rd_bad hk0 hs]
              exact ⟨rfl, hE⟩
        | inr a =>
          have hadv := adv_st hpn hs
          have hnl2 : nlZ a.2 + 1 ≤ nlZ z := st_less hs hnm
          have hwn3 := (hO2 a hs).2.2.2
          have hnl3 : wn V + 3 * nlZ a.2 ≤ wn W + 3 * nlZ z := by omega
          have hbb1 : 3 * nlZ a.2 ≤ b.1 - 3 := by omega
          have hbb2 : 16 * nlZ a.2 ≤ b.2 - 16 := by omega
          obtain ⟨hK, rfl, hzV, _⟩ := hO2 a hs
          have hwc := hzV.wf
          have hr2 := hzV.r2
          have hr1 := hzV.r1
          have hpv := hzV.le
          have henV := tkE_le (B := B) hpv
          have hgeV := (tkS_le (B := B) hpv).1
          have htx := hzV.tk.1
          refine lf (a_inv (b2 := (b.1 - 3, b.2 - 16)) k83 rfl dX2_read_83 yk_X2_readStatement im_X2_readStatement se_X2_readStatement ml_X2_53 rfl (co_79 (by repeat (first | with_reducible exact hw | with_reducible exact hwc | with_reducible assumption | with_reducible apply Wf.sI | with_reducible apply Wf.sL | with_reducible apply Wf.cpI | with_reducible apply Wf.cpL | with_reducible apply Wf.cp2 | with_reducible apply Wf.sIs | with_reducible apply Wf.sLs | with_reducible apply Wf.cpU | with_reducible apply Wf.fillI | with_reducible apply Wf.clU | with_reducible apply Wf.dnF | with_reducible apply Wf.gbW))) (by decide) hc_X2 (by decide) ⟨by show 3 + (b.1 - 3) ≤ b.1; omega, by show 16 + (b.2 - 16) ≤ b.2; omega⟩ (Nat.le_of_ble_eq_true rfl)) ?_
          refine lf (a_istore dX2_read_86 (by decide)) ?_
          refine lf (a_iload dX2_read_88 rfl) ?_
          refine lf2 (a_if_eq (tgt := 100) dX2_read_90 (by decide)) (fun h90 => absurd h90 (by decide)) (fun h90 => ?_)
          refine lf (a_aload_n dX2_read_93 rfl) ?_
          refine lf (a_getR (cr_79_0 (by repeat (first | with_reducible exact hw | with_reducible exact hwc | with_reducible assumption | with_reducible apply Wf.sI | with_reducible apply Wf.sL | with_reducible apply Wf.cpI | with_reducible apply Wf.cpL | with_reducible apply Wf.cp2 | with_reducible apply Wf.sIs | with_reducible apply Wf.sLs | with_reducible apply Wf.cpU | with_reducible apply Wf.fillI | with_reducible apply Wf.clU | with_reducible apply Wf.dnF | with_reducible apply Wf.gbW))) dX2_read_94 fs_X2_12 rfl (co_79 (by repeat (first | with_reducible exact hw | with_reducible exact hwc | with_reducible assumption | with_reducible apply Wf.sI | with_reducible apply Wf.sL | with_reducible apply Wf.cpI | with_reducible apply Wf.cpL | with_reducible apply Wf.cp2 | with_reducible apply Wf.sIs | with_reducible apply Wf.sLs | with_reducible apply Wf.cpU | with_reducible apply Wf.fillI | with_reducible apply Wf.clU | with_reducible apply Wf.dnF | with_reducible apply Wf.gbW)))) ?_
          obtain ⟨v_, W97, k97, rfl, hO97, hA97⟩ := (t_X9_next hzV.wf hzV.tk henV.2.1 hzV.at'.2.1)
          have hz97 := hzV.next hO97 hA97 henV.2.1
          have hw97 := hz97.wf
          refine lf (a_inv (b2 := (b.1 - 3, b.2 - 16)) k97 rfl dX2_read_97 yk_X9_next im_X9_next se_X9_next ml_X2_47 rfl (co_80 (by repeat (first | with_reducible exact hw | with_reducible exact hwc | with_reducible assumption | with_reducible apply Wf.sI | with_reducible apply Wf.sL | with_reducible apply Wf.cpI | with_reducible apply Wf.cpL | with_reducible apply Wf.cp2 | with_reducible apply Wf.sIs | with_reducible apply Wf.sLs | with_reducible apply Wf.cpU | with_reducible apply Wf.fillI | with_reducible apply Wf.clU | with_reducible apply Wf.dnF | with_reducible apply Wf.gbW))) (by decide) hc_X9 (by decide) ⟨Nat.le_of_eq (Nat.zero_add _), Nat.le_of_eq (Nat.zero_add _)⟩ (Nat.le_of_ble_eq_true rfl)) ?_
          refine lf (a_iincN dX2_read_100 rfl (by decide)) ?_
          refine lf (a_goto (tgt := 61) dX2_read_103 (by decide)) ?_
          have hX97 := (ExT hO97).1.1
          refine lf (a_loc [(0, .ref 79), (2, .int (nI n)), (5, .int 1), (6, .int (nI (i + 1)))] rfl) (ih (i + 1) (tkE B n a.1) a.2 W97 (b.1 - 3, b.2 - 16) (by omega) (by omega) hz97 ?_ hbb1 hbb2 (by have := hO97.1.2.1; omega) (fun V2 r5 g1 g2 g3 g4 => ?_))
          · rw [hO97.1.2.1]
            rw [hwn3]; exact K3.next hw.1 hk3
          · refine kx V2 r5 ((hV.1.trans (hX97.mono (fun i _ y => sT_sP p0 i y))).trans g1) (by have := hO97.1.2.1; omega) g3 ?_
            rw [rd_ok hk0 hs]
            revert g4
            cases rdS B n c (tkE B n a.1) a.2 with
            | inl e => exact fun g => g
            | inr z2 => exact fun g => ⟨g.1, (hK.trans (ExT hO97).2).trans g.2.1, g.2.2⟩
end READ
