section PARSJ
variable {μ W : Wd} {B : Nat → Nat} {n p0 p : Nat} {z : PZ}
theorem k_time : kst[4]? = some ("MealLoader$FlightText", 63, "time") := rfl
theorem k_lead : kst[5]? = some ("MealLoader$FlightText", 72, "lead") := rfl
theorem k_cabin : kst[6]? = some ("MealLoader$FlightText", 77, "cabin") := rfl
theorem k_meal : kst[8]? = some ("MealLoader$FlightText", 82, "meal") := rfl
theorem k_special : kst[9]? = some ("MealLoader$FlightText", 184, "special") := rfl
theorem k_menu : kst[10]? = some ("MealLoader$FlightText", 186, "menu") := rfl
theorem k_offers : kst[11]? = some ("MealLoader$FlightText", 175, "offers") := rfl
theorem k_trolley : kst[12]? = some ("MealLoader$FlightText", 87, "trolley") := rfl
theorem k_guests : kst[13]? = some ("MealLoader$FlightText", 92, "guests") := rfl
theorem k_guest : kst[14]? = some ("MealLoader$FlightText", 97, "guest") := rfl
theorem k_needs : kst[15]? = some ("MealLoader$FlightText", 212, "needs") := rfl
theorem k_wish : kst[16]? = some ("MealLoader$FlightText", 214, "wish") := rfl
theorem StrV.const {c : Nat} {q : String × Nat × String} (h : kst[c]? = some q) : StrV μ (1000000 + c) (kby c) := by
  have hc : c < 59 := by
    have := (List.getElem?_eq_some_iff.mp h).1
    exact Nat.lt_of_lt_of_le this (by decide)
  have h1 : ∀ c, c < 59 → (kby c).length ≤ 60 := by decide +kernel
  have h2 : ∀ c, c < 59 → ∀ x ∈ kby c, x < 128 := by decide +kernel
  exact ⟨Nat.le_trans (h1 c hc) (by decide), h2 c hc, Or.inl ⟨c, q, rfl, h, rfl⟩⟩
/-- the token at p is the word -/
def wdI (B : Nat → Nat) (n p c : Nat) : Bool := decide (tkK B n p = 1 ∧ tkL B n p = kby c)
theorem wd_t {p c : Nat} (h : isV B n p (kby c) = 0) : ¬ wdI B n p c = true := by rw [wdI, decide_eq_true_eq]; exact isV1.mp h
theorem wd_f {p c : Nat} (h : ¬ isV B n p (kby c) = 0) : wdI B n p c = true := by rw [wdI, decide_eq_true_eq]; exact Classical.byContradiction fun q => h (isV1.mpr q)
theorem EkV.sI {i k : Nat} {v : Int32} (h : EkV μ W) (hi : i ≠ 79) : EkV μ (sI W i k v) := ⟨by rw [gI_sI, if_neg (fun q => hi q.1.symm)]; exact h.1, by rw [gI_sI, if_neg (fun q => hi q.1.symm)]; exact h.2⟩
def stTrolley (B : Nat → Nat) (n p : Nat) (z : PZ) : (Nat × Nat) ⊕ (Nat × PZ) := if 8 ≤ pT z.1 then .inl (4, tkS B n p) else bnd (ncS B n (tkE B n p) z) fun c => bnd (nhS B n (tkE B n (tkE B n p)) 1 40) fun s =>
  sgZ B n (tkE B n (tkE B n (tkE B n p))) ((pC z.1, pM z.1, pT z.1 + 1, up2 (up2 (pF z.1) 7 (pT z.1) (nI c)) 8 (pT z.1) (nI s)), z.2.1, z.2.2.1, z.2.2.2)
theorem ncS_lt {a : Nat} (h : ncS B n p z = .inr a) : a < pC z.1 := by
  unfold ncS at h
  cases e : cfS B n p (pC z.1) z.2.2.1 with
  | none => rw [e] at h; exact nomatch h
  | some i => rw [e] at h; injection h with h; subst h; exact (cfS_lt e).1

abbrev R_X2_readTrolley : Room := { frames := 10, cells := 0, slots := 0, locals := 247 }
abbrev RX_X2_readTrolley : Room := { frames := 10, cells := 1, slots := 6, locals := 247 }

theorem t_X2_readTrolley (hz : PsV B n p0 p z μ) : CV Y_X2_readTrolley R_X2_readTrolley [.ref 79] μ (StQ B n p0 μ (stTrolley B n p z)) := by
  refine CV.ent yk_X2_readTrolley (Nat.le_of_ble_eq_true rfl) ?_
  have hw := hz.wf
  have hp := hz.pv.pl
  have hpp := pl_le hp
  have hX0 : En (sP p0) μ μ := En.rfl' hw
  have hK0 : EkV μ μ := EkV.rfl'
  have hT8 := hz.pv.T4
  have hwc := hz.wf
  have hr2 := hz.r2
  have hr1 := hz.r1
  have hA := hz.at'
  have hpn := hz.le
  have hen := tkE_le (B := B) hpn
  have htx := hz.tk.1
  refine lf (a_aload_n dX2_readTrolley_0 rfl) ?_
  refine lf (a_getR hr2 dX2_readTrolley_1 fs_X2_22 rfl (co_79 (by repeat (first | with_reducible exact hw | with_reducible exact hwc | with_reducible assumption | with_reducible apply Wf.sI | with_reducible apply Wf.sL | with_reducible apply Wf.cpI | with_reducible apply Wf.cpL | with_reducible apply Wf.cp2 | with_reducible apply Wf.sIs | with_reducible apply Wf.sLs | with_reducible apply Wf.cpU | with_reducible apply Wf.fillI | with_reducible apply Wf.clU | with_reducible apply Wf.dnF | with_reducible apply Wf.gbW)))) ?_
  refine lf (a_getI dX2_readTrolley_4 fs_X2_191 rfl (pl_o (by repeat (first | with_reducible exact hw | with_reducible exact hwc | with_reducible assumption | with_reducible apply Wf.sI | with_reducible apply Wf.sL | with_reducible apply Wf.cpI | with_reducible apply Wf.cpL | with_reducible apply Wf.cp2 | with_reducible apply Wf.sIs | with_reducible apply Wf.sLs | with_reducible apply Wf.cpU | with_reducible apply Wf.fillI | with_reducible apply Wf.clU | with_reducible apply Wf.dnF | with_reducible apply Wf.gbW)) hp)) ?_
  rw [hz.pv.hT]
  refine lf (a_bipush (8 : Int32) dX2_readTrolley_7 (by decide)) ?_
  refine lf2 (a_icmp_lt (tgt := 18) dX2_readTrolley_9 (by decide)) (fun h9 => ?_) (fun h9 => ?_)
  · have hlt : pT z.1 < 8 := (nI_ltI (b := 8) (by omega) (by decide)).mp h9
    have hT : ¬ 8 ≤ pT z.1 := by omega
    refine lf (a_aload_n dX2_readTrolley_18 rfl) ?_
    obtain ⟨v_, W19, k19, hR19⟩ := (t_X2_nextCabin hz)
    obtain ⟨hX19, hR19⟩ := hR19
    generalize hr19 : ncS B n (tkE B n p) z = r19 at hR19
    cases r19 with
    | inl a19 =>
      obtain ⟨rfl, hE19⟩ := hR19
      have hwx := hX19.1.1
      have hXc19 := hX0.trans (hX19.mono (fun i _ y => sT_sP p0 i y))
      refine lf (a_inv (b2 := (0, 0)) k19 rfl dX2_readTrolley_19 yk_X2_nextCabin im_X2_nextCabin se_X2_nextCabin ml_X2_188 rfl (co_79 (by repeat (first | with_reducible exact hw | with_reducible exact hwc | with_reducible assumption | with_reducible apply Wf.sI | with_reducible apply Wf.sL | with_reducible apply Wf.cpI | with_reducible apply Wf.cpL | with_reducible apply Wf.cp2 | with_reducible apply Wf.sIs | with_reducible apply Wf.sLs | with_reducible apply Wf.cpU | with_reducible apply Wf.fillI | with_reducible apply Wf.clU | with_reducible apply Wf.dnF | with_reducible apply Wf.gbW))) (by decide) hc_X2 (by decide) (by decide) (Nat.le_of_ble_eq_true rfl)) ?_
      refine lf (a_istore_n dX2_readTrolley_22 (by decide)) ?_
      refine lf (a_iload_n dX2_readTrolley_23 rfl) ?_
      refine lf (a_iconst (-1 : Int32) dX2_readTrolley_24 (by decide)) ?_
      refine lfn (a_icmp_ne (tgt := 30) dX2_readTrolley_25 (by decide)) (fun h25 => absurd h25 (by decide)) (fun h25 => ?_)
      refine lf (a_iconst (0 : Int32) dX2_readTrolley_28 (by decide)) ?_
      refine ⟨_, _, (a_ireturn dX2_readTrolley_29 rfl rfl), ?_⟩
      exact ⟨_, rfl, StQ.bad hXc19 hE19 (by rw [stTrolley, if_neg hT, bnd_l hr19])⟩
    | inr a19 =>
      obtain ⟨hK19, rfl, hz19⟩ := hR19
      have hXc19 := hX0.trans (hX19.mono (fun i _ y => sT_sP p0 i y))
      have hKc19 := hK0.trans hK19
      have hwc := hz19.wf
      have hr2 := hz19.r2
      have hr1 := hz19.r1
      have hA := hz19.at'
      have hpn := hz19.le
      have hen := tkE_le (B := B) hpn
      have htx := hz19.tk.1
      refine lf (a_inv (b2 := (0, 0)) k19 rfl dX2_readTrolley_19 yk_X2_nextCabin im_X2_nextCabin se_X2_nextCabin ml_X2_188 rfl (co_79 (by repeat (first | with_reducible exact hw | with_reducible exact hwc | with_reducible assumption | with_reducible apply Wf.sI | with_reducible apply Wf.sL | with_reducible apply Wf.cpI | with_reducible apply Wf.cpL | with_reducible apply Wf.cp2 | with_reducible apply Wf.sIs | with_reducible apply Wf.sLs | with_reducible apply Wf.cpU | with_reducible apply Wf.fillI | with_reducible apply Wf.clU | with_reducible apply Wf.dnF | with_reducible apply Wf.gbW))) (by decide) hc_X2 (by decide) (by decide) (Nat.le_of_ble_eq_true rfl)) ?_
      refine lf (a_istore_n dX2_readTrolley_22 (by decide)) ?_
      refine lf (a_iload_n dX2_readTrolley_23 rfl) ?_
      refine lf (a_iconst (-1 : Int32) dX2_readTrolley_24 (by decide)) ?_
      refine lfn (a_icmp_ne (tgt := 30) dX2_readTrolley_25 (by decide)) (fun h25 => ?_) (fun h25 => absurd h25 (nI_ne1 (by have := ncS_lt hr19; have := hz.pv.C4; omega)))
      refine lf (a_aload_n dX2_readTrolley_30 rfl) ?_
      refine lf (a_iconst (1 : Int32) dX2_readTrolley_31 (by decide)) ?_
      refine lf (a_bipush (40 : Int32) dX2_readTrolley_32 (by decide)) ?_
      obtain ⟨v_, W34, k34, hR34⟩ := (t_X2_nextNumber hz19 (lo := 1) (hi := 40) (by decide) (by decide))
      obtain ⟨hX34, hR34⟩ := hR34
      generalize hr34 : nhS B n (tkE B n (tkE B n p)) 1 40 = r34 at hR34
      cases r34 with
      | inl a34 =>
        obtain ⟨rfl, hE34⟩ := hR34
        have hwx := hX34.1.1
        have hXc34 := hXc19.trans (hX34.mono (fun i _ y => sT_sP p0 i y))
        refine lf (a_inv (b2 := (0, 0)) k34 rfl dX2_readTrolley_34 yk_X2_nextNumber im_X2_nextNumber se_X2_nextNumber ml_X2_106 rfl (co_79 (by repeat (first | with_reducible exact hw | with_reducible exact hwc | with_reducible assumption | with_reducible apply Wf.sI | with_reducible apply Wf.sL | with_reducible apply Wf.cpI | with_reducible apply Wf.cpL | with_reducible apply Wf.cp2 | with_reducible apply Wf.sIs | with_reducible apply Wf.sLs | with_reducible apply Wf.cpU | with_reducible apply Wf.fillI | with_reducible apply Wf.clU | with_reducible apply Wf.dnF | with_reducible apply Wf.gbW))) (by decide) hc_X2 (by decide) (by decide) (Nat.le_of_ble_eq_true rfl)) ?_
        refine lf (a_istore_n dX2_readTrolley_37 (by decide)) ?_
        refine lf (a_iload_n dX2_readTrolley_38 rfl) ?_
        refine lf (a_iconst (-1 : Int32) dX2_readTrolley_39 (by decide)) ?_
        refine lfn (a_icmp_ne (tgt := 45) dX2_readTrolley_40 (by decide)) (fun h40 => absurd h40 (by decide)) (fun h40 => ?_)
        refine lf (a_iconst (0 : Int32) dX2_readTrolley_43 (by decide)) ?_
        refine ⟨_, _, (a_ireturn dX2_readTrolley_44 rfl rfl), ?_⟩
        exact ⟨_, rfl, StQ.bad hXc34 hE34 (by rw [stTrolley, if_neg hT, bnd_r hr19, bnd_l hr34])⟩
      | inr a34 =>
        obtain ⟨hK34, rfl, hz34⟩ := hR34
        have hXc34 := hXc19.trans (hX34.mono (fun i _ y => sT_sP p0 i y))
        have hKc34 := hKc19.trans hK34
        have hwc := hz34.wf
        have hr2 := hz34.r2
        have hr1 := hz34.r1
        have hA := hz34.at'
        have hpn := hz34.le
        have hen := tkE_le (B := B) hpn
        have htx := hz34.tk.1
        refine lf (a_inv (b2 := (0, 0)) k34 rfl dX2_readTrolley_34 yk_X2_nextNumber im_X2_nextNumber se_X2_nextNumber ml_X2_106 rfl (co_79 (by repeat (first | with_reducible exact hw | with_reducible exact hwc | with_reducible assumption | with_reducible apply Wf.sI | with_reducible apply Wf.sL | with_reducible apply Wf.cpI | with_reducible apply Wf.cpL | with_reducible apply Wf.cp2 | with_reducible apply Wf.sIs | with_reducible apply Wf.sLs | with_reducible apply Wf.cpU | with_reducible apply Wf.fillI | with_reducible apply Wf.clU | with_reducible apply Wf.dnF | with_reducible apply Wf.gbW))) (by decide) hc_X2 (by decide) (by decide) (Nat.le_of_ble_eq_true rfl)) ?_
        refine lf (a_istore_n dX2_readTrolley_37 (by decide)) ?_
        refine lf (a_iload_n dX2_readTrolley_38 rfl) ?_
        refine lf (a_iconst (-1 : Int32) dX2_readTrolley_39 (by decide)) ?_
        refine lfn (a_icmp_ne (tgt := 45) dX2_readTrolley_40 (by decide)) (fun h40 => ?_) (fun h40 => absurd h40 (nI_ne1 (by have := nhS_lt hr34; omega)))
        refine lf (a_aload_n dX2_readTrolley_45 rfl) ?_
        refine lf (a_getR hr2 dX2_readTrolley_46 fs_X2_22 rfl (co_79 (by repeat (first | with_reducible exact hw | with_reducible exact hwc | with_reducible assumption | with_reducible apply Wf.sI | with_reducible apply Wf.sL | with_reducible apply Wf.cpI | with_reducible apply Wf.cpL | with_reducible apply Wf.cp2 | with_reducible apply Wf.sIs | with_reducible apply Wf.sLs | with_reducible apply Wf.cpU | with_reducible apply Wf.fillI | with_reducible apply Wf.clU | with_reducible apply Wf.dnF | with_reducible apply Wf.gbW)))) ?_
        refine lf (a_getR (pl_r6 (by repeat (first | with_reducible exact hw | with_reducible exact hwc | with_reducible assumption | with_reducible apply Wf.sI | with_reducible apply Wf.sL | with_reducible apply Wf.cpI | with_reducible apply Wf.cpL | with_reducible apply Wf.cp2 | with_reducible apply Wf.sIs | with_reducible apply Wf.sLs | with_reducible apply Wf.cpU | with_reducible apply Wf.fillI | with_reducible apply Wf.clU | with_reducible apply Wf.dnF | with_reducible apply Wf.gbW)) hp) dX2_readTrolley_49 fs_X2_194 rfl (pl_o (by repeat (first | with_reducible exact hw | with_reducible exact hwc | with_reducible assumption | with_reducible apply Wf.sI | with_reducible apply Wf.sL | with_reducible apply Wf.cpI | with_reducible apply Wf.cpL | with_reducible apply Wf.cp2 | with_reducible apply Wf.sIs | with_reducible apply Wf.sLs | with_reducible apply Wf.cpU | with_reducible apply Wf.fillI | with_reducible apply Wf.clU | with_reducible apply Wf.dnF | with_reducible apply Wf.gbW)) hp)) ?_
        refine lf (a_aload_n dX2_readTrolley_52 rfl) ?_
        refine lf (a_getR hr2 dX2_readTrolley_53 fs_X2_22 rfl (co_79 (by repeat (first | with_reducible exact hw | with_reducible exact hwc | with_reducible assumption | with_reducible apply Wf.sI | with_reducible apply Wf.sL | with_reducible apply Wf.cpI | with_reducible apply Wf.cpL | with_reducible apply Wf.cp2 | with_reducible apply Wf.sIs | with_reducible apply Wf.sLs | with_reducible apply Wf.cpU | with_reducible apply Wf.fillI | with_reducible apply Wf.clU | with_reducible apply Wf.dnF | with_reducible apply Wf.gbW)))) ?_
        refine lf (a_getI dX2_readTrolley_56 fs_X2_191 rfl (pl_o (by repeat (first | with_reducible exact hw | with_reducible exact hwc | with_reducible assumption | with_reducible apply Wf.sI | with_reducible apply Wf.sL | with_reducible apply Wf.cpI | with_reducible apply Wf.cpL | with_reducible apply Wf.cp2 | with_reducible apply Wf.sIs | with_reducible apply Wf.sLs | with_reducible apply Wf.cpU | with_reducible apply Wf.fillI | with_reducible apply Wf.clU | with_reducible apply Wf.dnF | with_reducible apply Wf.gbW)) hp)) ?_
        rw [hz34.pv.hT]
        refine lf (a_iload_n dX2_readTrolley_59 rfl) ?_
        refine lf (a_ist dX2_readTrolley_60 (pl_a19 (by repeat (first | with_reducible exact hw | with_reducible exact hwc | with_reducible assumption | with_reducible apply Wf.sI | with_reducible apply Wf.sL | with_reducible apply Wf.cpI | with_reducible apply Wf.cpL | with_reducible apply Wf.cp2 | with_reducible apply Wf.sIs | with_reducible apply Wf.sLs | with_reducible apply Wf.cpU | with_reducible apply Wf.fillI | with_reducible apply Wf.clU | with_reducible apply Wf.dnF | with_reducible apply Wf.gbW)) hp) (ixn hlt (by decide))) ?_
        refine lf (a_aload_n dX2_readTrolley_61 rfl) ?_
        refine lf (a_getR hr2 dX2_readTrolley_62 fs_X2_22 rfl (co_79 (by repeat (first | with_reducible exact hw | with_reducible exact hwc | with_reducible assumption | with_reducible apply Wf.sI | with_reducible apply Wf.sL | with_reducible apply Wf.cpI | with_reducible apply Wf.cpL | with_reducible apply Wf.cp2 | with_reducible apply Wf.sIs | with_reducible apply Wf.sLs | with_reducible apply Wf.cpU | with_reducible apply Wf.fillI | with_reducible apply Wf.clU | with_reducible apply Wf.dnF | with_reducible apply Wf.gbW)))) ?_
        refine lf (a_getR (pl_r7 (by repeat (first | with_reducible exact hw | with_reducible exact hwc | with_reducible assumption | with_reducible apply Wf.sI | with_reducible apply Wf.sL | with_reducible apply Wf.cpI | with_reducible apply Wf.cpL | with_reducible apply Wf.cp2 | with_reducible apply Wf.sIs | with_reducible apply Wf.sLs | with_reducible apply Wf.cpU | with_reducible apply Wf.fillI | with_reducible apply Wf.clU | with_reducible apply Wf.dnF | with_reducible apply Wf.gbW)) hp) dX2_readTrolley_65 fs_X2_198 rfl (pl_o (by repeat (first | with_reducible exact hw | with_reducible exact hwc | with_reducible assumption | with_reducible apply Wf.sI | with_reducible apply Wf.sL | with_reducible apply Wf.cpI | with_reducible apply Wf.cpL | with_reducible apply Wf.cp2 | with_reducible apply Wf.sIs | with_reducible apply Wf.sLs | with_reducible apply Wf.cpU | with_reducible apply Wf.fillI | with_reducible apply Wf.clU | with_reducible apply Wf.dnF | with_reducible apply Wf.gbW)) hp)) ?_
        refine lf (a_aload_n dX2_readTrolley_68 rfl) ?_
        refine lf (a_getR hr2 dX2_readTrolley_69 fs_X2_22 rfl (co_79 (by repeat (first | with_reducible exact hw | with_reducible exact hwc | with_reducible assumption | with_reducible apply Wf.sI | with_reducible apply Wf.sL | with_reducible apply Wf.cpI | with_reducible apply Wf.cpL | with_reducible apply Wf.cp2 | with_reducible apply Wf.sIs | with_reducible apply Wf.sLs | with_reducible apply Wf.cpU | with_reducible apply Wf.fillI | with_reducible apply Wf.clU | with_reducible apply Wf.dnF | with_reducible apply Wf.gbW)))) ?_
        refine lf (a_getI dX2_readTrolley_72 fs_X2_191 rfl (pl_o (by repeat (first | with_reducible exact hw | with_reducible exact hwc | with_reducible assumption | with_reducible apply Wf.sI | with_reducible apply Wf.sL | with_reducible apply Wf.cpI | with_reducible apply Wf.cpL | with_reducible apply Wf.cp2 | with_reducible apply Wf.sIs | with_reducible apply Wf.sLs | with_reducible apply Wf.cpU | with_reducible apply Wf.fillI | with_reducible apply Wf.clU | with_reducible apply Wf.dnF | with_reducible apply Wf.gbW)) hp)) ?_
        rw [gI_sI, if_neg (by omega), hz34.pv.hT]
        refine lf (a_iload_n dX2_readTrolley_75 rfl) ?_
        refine lf (a_ist dX2_readTrolley_76 (pl_a20 (by repeat (first | with_reducible exact hw | with_reducible exact hwc | with_reducible assumption | with_reducible apply Wf.sI | with_reducible apply Wf.sL | with_reducible apply Wf.cpI | with_reducible apply Wf.cpL | with_reducible apply Wf.cp2 | with_reducible apply Wf.sIs | with_reducible apply Wf.sLs | with_reducible apply Wf.cpU | with_reducible apply Wf.fillI | with_reducible apply Wf.clU | with_reducible apply Wf.dnF | with_reducible apply Wf.gbW)) hp) (ixn hlt (by decide))) ?_
        refine lf (a_aload_n dX2_readTrolley_77 rfl) ?_
        refine lf (a_getR hr2 dX2_readTrolley_78 fs_X2_22 rfl (co_79 (by repeat (first | with_reducible exact hw | with_reducible exact hwc | with_reducible assumption | with_reducible apply Wf.sI | with_reducible apply Wf.sL | with_reducible apply Wf.cpI | with_reducible apply Wf.cpL | with_reducible apply Wf.cp2 | with_reducible apply Wf.sIs | with_reducible apply Wf.sLs | with_reducible apply Wf.cpU | with_reducible apply Wf.fillI | with_reducible apply Wf.clU | with_reducible apply Wf.dnF | with_reducible apply Wf.gbW)))) ?_
        refine lf (a_dup dX2_readTrolley_81 rfl) ?_
        refine lf (a_getI dX2_readTrolley_82 fs_X2_191 rfl (pl_o (by repeat (first | with_reducible exact hw | with_reducible exact hwc | with_reducible assumption | with_reducible apply Wf.sI | with_reducible apply Wf.sL | with_reducible apply Wf.cpI | with_reducible apply Wf.cpL | with_reducible apply Wf.cp2 | with_reducible apply Wf.sIs | with_reducible apply Wf.sLs | with_reducible apply Wf.cpU | with_reducible apply Wf.fillI | with_reducible apply Wf.clU | with_reducible apply Wf.dnF | with_reducible apply Wf.gbW)) hp)) ?_
        rw [gI_sI, if_neg (by omega), gI_sI, if_neg (by omega), hz34.pv.hT]
        refine lf (a_iconst (1 : Int32) dX2_readTrolley_85 (by decide)) ?_
        refine lf (a_iadd dX2_readTrolley_86) ?_
        rw [← nI_succ]
        refine lf (a_putI dX2_readTrolley_87 fs_X2_191 rfl rfl rfl (pl_o (by repeat (first | with_reducible exact hw | with_reducible exact hwc | with_reducible assumption | with_reducible apply Wf.sI | with_reducible apply Wf.sL | with_reducible apply Wf.cpI | with_reducible apply Wf.cpL | with_reducible apply Wf.cp2 | with_reducible apply Wf.sIs | with_reducible apply Wf.sLs | with_reducible apply Wf.cpU | with_reducible apply Wf.fillI | with_reducible apply Wf.clU | with_reducible apply Wf.dnF | with_reducible apply Wf.gbW)) hp)) ?_
        have hxp := (((En.rfl' (S := (fun i => i = p0 ∨ i = p0 + 19 ∨ i = p0 + 20)) hwc).sI (i := p0 + 19) (Or.inr (Or.inl rfl)) (pT z.1) (nI a19)).sI (i := p0 + 20) (Or.inr (Or.inr rfl)) (pT z.1) (nI a34)).sI (i := p0) (Or.inl rfl) 5 (nI (pT z.1 + 1))
        have hqp := (((hz34.pv.jT (Nat.le_refl _) (Or.inl rfl) (nI a19)).jT (Nat.le_refl _) (Or.inr rfl) (nI a34)).incT hlt)
        rw [gI_sI (sI W34 (p0 + 19) (pT z.1) (nI a19)), if_neg (by omega), gI_sI, if_pos ⟨rfl, rfl⟩, gI_sI, if_pos ⟨rfl, rfl⟩] at hqp
        have hzp : PsV B n p0 (tkE B n (tkE B n p)) ((pC z.1, pM z.1, pT z.1 + 1, up2 (up2 (pF z.1) 7 (pT z.1) (nI a19)) 8 (pT z.1) (nI a34)), z.2.1, z.2.2.1, z.2.2.2) (sI (sI (sI W34 (p0 + 19) (pT z.1) (nI a19)) (p0 + 20) (pT z.1) (nI a34)) p0 5 (nI (pT z.1 + 1))) := hz34.plan hxp.1 (fun i y => by rcases y with y | y | y <;> omega) hqp (fun i hi => (hz34.cn hi).ex hxp.1 (fun i y => by rcases y with y | y | y <;> omega) (by have := hwc.1; have := hz34.pv.C4; have hi : i < pC z.1 := hi; omega) (by have := hz34.pv.C4; have hi : i < pC z.1 := hi; omega)) (fun i hi => (hz34.mn hi).ex hxp.1 (fun i y => by rcases y with y | y | y <;> omega) (by have := hwc.1; have := hz34.pv.M4; have hi : i < pM z.1 := hi; omega) (by have := hz34.pv.M4; have hi : i < pM z.1 := hi; omega))
        have hXp : En (sP p0) μ (sI (sI (sI W34 (p0 + 19) (pT z.1) (nI a19)) (p0 + 20) (pT z.1) (nI a34)) p0 5 (nI (pT z.1 + 1))) := hXc34.trans (hxp.mono (fun i _ y => Or.inr (Or.inr (Or.inl (by rcases y with y | y | y <;> omega)))))
        have hKp : EkV μ (sI (sI (sI W34 (p0 + 19) (pT z.1) (nI a19)) (p0 + 20) (pT z.1) (nI a34)) p0 5 (nI (pT z.1 + 1))) := ((hKc34.sI (by omega)).sI (by omega)).sI (by omega)
        have hwc := hzp.wf
        have hwc := hzp.wf
        have hr2 := hzp.r2
        have hr1 := hzp.r1
        have hA := hzp.at'
        have hpn := hzp.le
        have hen := tkE_le (B := B) hpn
        have htx := hzp.tk.1
        refine lf (a_aload_n dX2_readTrolley_90 rfl) ?_
        refine lf (a_getR (cr_79_0 (by repeat (first | with_reducible exact hw | with_reducible exact hwc | with_reducible assumption | with_reducible apply Wf.sI | with_reducible apply Wf.sL | with_reducible apply Wf.cpI | with_reducible apply Wf.cpL | with_reducible apply Wf.cp2 | with_reducible apply Wf.sIs | with_reducible apply Wf.sLs | with_reducible apply Wf.cpU | with_reducible apply Wf.fillI | with_reducible apply Wf.clU | with_reducible apply Wf.dnF | with_reducible apply Wf.gbW))) dX2_readTrolley_91 fs_X2_12 rfl (co_79 (by repeat (first | with_reducible exact hw | with_reducible exact hwc | with_reducible assumption | with_reducible apply Wf.sI | with_reducible apply Wf.sL | with_reducible apply Wf.cpI | with_reducible apply Wf.cpL | with_reducible apply Wf.cp2 | with_reducible apply Wf.sIs | with_reducible apply Wf.sLs | with_reducible apply Wf.cpU | with_reducible apply Wf.fillI | with_reducible apply Wf.clU | with_reducible apply Wf.dnF | with_reducible apply Wf.gbW)))) ?_
        obtain ⟨v_, W94, k94, rfl, hO94, hA94⟩ := (t_X9_next hzp.wf hzp.tk hen.2.1 hzp.at'.2.1)
        have hz94 := hzp.next hO94 hA94 hen.2.1
        have hXc94 := hXp.trans ((ExT hO94).1.mono (fun i _ y => sT_sP p0 i y))
        have hKc94 := hKp.trans (ExT hO94).2
        have hwc := hz94.wf
        have hr2 := hz94.r2
        have hr1 := hz94.r1
        have hA := hz94.at'
        have hpn := hz94.le
        have hen := tkE_le (B := B) hpn
        have htx := hz94.tk.1
        refine lf (a_inv (b2 := (0, 0)) k94 rfl dX2_readTrolley_94 yk_X9_next im_X9_next se_X9_next ml_X2_47 rfl (co_80 (by repeat (first | with_reducible exact hw | with_reducible exact hwc | with_reducible assumption | with_reducible apply Wf.sI | with_reducible apply Wf.sL | with_reducible apply Wf.cpI | with_reducible apply Wf.cpL | with_reducible apply Wf.cp2 | with_reducible apply Wf.sIs | with_reducible apply Wf.sLs | with_reducible apply Wf.cpU | with_reducible apply Wf.fillI | with_reducible apply Wf.clU | with_reducible apply Wf.dnF | with_reducible apply Wf.gbW))) (by decide) hc_X9 (by decide) (by decide) (Nat.le_of_ble_eq_true rfl)) ?_
        refine lf (a_aload_n dX2_readTrolley_97 rfl) ?_
        obtain ⟨v_, W98, k98, hR98⟩ := (t_X2_signHere hz94)
        obtain ⟨hX98, hR98⟩ := hR98
        generalize hr98 : sgS B n (tkE B n (tkE B n (tkE B n p))) = r98 at hR98
        cases r98 with
        | inl a98 =>
          obtain ⟨rfl, hE98⟩ := hR98
          have hwx := hX98.1.1
          have hXc98 := hXc94.trans (hX98.mono (fun i _ y => sT_sP p0 i y))
          refine lf (a_inv (b2 := (0, 0)) k98 rfl dX2_readTrolley_98 yk_X2_signHere im_X2_signHere se_X2_signHere ml_X2_113 rfl (co_79 (by repeat (first | with_reducible exact hw | with_reducible exact hwc | with_reducible assumption | with_reducible apply Wf.sI | with_reducible apply Wf.sL | with_reducible apply Wf.cpI | with_reducible apply Wf.cpL | with_reducible apply Wf.cp2 | with_reducible apply Wf.sIs | with_reducible apply Wf.sLs | with_reducible apply Wf.cpU | with_reducible apply Wf.fillI | with_reducible apply Wf.clU | with_reducible apply Wf.dnF | with_reducible apply Wf.gbW))) (by decide) hc_X2 (by decide) (by decide) (Nat.le_of_ble_eq_true rfl)) ?_
          refine ⟨_, _, (a_ireturn dX2_readTrolley_101 rfl rfl), ?_⟩
          first
          | exact ⟨_, rfl, StQ.bad hXc98 hE98 (by rw [stTrolley, if_neg hT, bnd_r hr19, bnd_r hr34, sgZ, bnd_l hr98])⟩
          | exact ⟨_, rfl, StQ.ok hXc98 hKc98 hz98 (by rw [stTrolley, if_neg hT, bnd_r hr19, bnd_r hr34, sgZ, bnd_r hr98])⟩
        | inr a98 =>
          obtain ⟨hK98, rfl, hz98⟩ := hR98
          have hXc98 := hXc94.trans (hX98.mono (fun i _ y => sT_sP p0 i y))
          have hKc98 := hKc94.trans hK98
          have hwc := hz98.wf
          have hr2 := hz98.r2
          have hr1 := hz98.r1
          have hA := hz98.at'
          have hpn := hz98.le
          have hen := tkE_le (B := B) hpn
          have htx := hz98.tk.1
          refine lf (a_inv (b2 := (0, 0)) k98 rfl dX2_readTrolley_98 yk_X2_signHere im_X2_signHere se_X2_signHere ml_X2_113 rfl (co_79 (by repeat (first | with_reducible exact hw | with_reducible exact hwc | with_reducible assumption | with_reducible apply Wf.sI | with_reducible apply Wf.sL | with_reducible apply Wf.cpI | with_reducible apply Wf.cpL | with_reducible apply Wf.cp2 | with_reducible apply Wf.sIs | with_reducible apply Wf.sLs | with_reducible apply Wf.cpU | with_reducible apply Wf.fillI | with_reducible apply Wf.clU | with_reducible apply Wf.dnF | with_reducible apply Wf.gbW))) (by decide) hc_X2 (by decide) (by decide) (Nat.le_of_ble_eq_true rfl)) ?_
          refine ⟨_, _, (a_ireturn dX2_readTrolley_101 rfl rfl), ?_⟩
          first
          | exact ⟨_, rfl, StQ.bad hXc98 hE98 (by rw [stTrolley, if_neg hT, bnd_r hr19, bnd_r hr34, sgZ, bnd_l hr98])⟩
          | exact ⟨_, rfl, StQ.ok hXc98 hKc98 hz98 (by rw [stTrolley, if_neg hT, bnd_r hr19, bnd_r hr34, sgZ, bnd_r hr98])⟩
  · have hT : 8 ≤ pT z.1 := Nat.le_of_not_lt fun q => h9 ((nI_ltI (b := 8) (by omega) (by decide)).mpr q)
    refine lf (a_aload_n dX2_readTrolley_12 rfl) ?_
    refine lf (a_iconst (4 : Int32) dX2_readTrolley_13 (by decide)) ?_
    refine lf (a_inv (b2 := (0, 0)) (t_X2_fail (by repeat (first | with_reducible exact hw | with_reducible exact hwc | with_reducible assumption | with_reducible apply Wf.sI | with_reducible apply Wf.sL | with_reducible apply Wf.cpI | with_reducible apply Wf.cpL | with_reducible apply Wf.cp2 | with_reducible apply Wf.sIs | with_reducible apply Wf.sLs | with_reducible apply Wf.cpU | with_reducible apply Wf.fillI | with_reducible apply Wf.clU | with_reducible apply Wf.dnF | with_reducible apply Wf.gbW)) (c := 4) hA.1) rfl dX2_readTrolley_14 yk_X2_fail im_X2_fail se_X2_fail ml_X2_102 rfl (co_79 (by repeat (first | with_reducible exact hw | with_reducible exact hwc | with_reducible assumption | with_reducible apply Wf.sI | with_reducible apply Wf.sL | with_reducible apply Wf.cpI | with_reducible apply Wf.cpL | with_reducible apply Wf.cp2 | with_reducible apply Wf.sIs | with_reducible apply Wf.sLs | with_reducible apply Wf.cpU | with_reducible apply Wf.fillI | with_reducible apply Wf.clU | with_reducible apply Wf.dnF | with_reducible apply Wf.gbW))) (by decide) hc_X2 (by decide) (by decide) (Nat.le_of_ble_eq_true rfl)) ?_
    refine ⟨_, _, (a_ireturn dX2_readTrolley_17 rfl rfl), ?_⟩
    exact ⟨_, rfl, StQ.bad ((hz.err 4 _).1.mono (fun i _ y => sT_sP p0 i y)) (hz.err 4 _).2 (by rw [stTrolley, if_pos hT])⟩
end PARSJ
