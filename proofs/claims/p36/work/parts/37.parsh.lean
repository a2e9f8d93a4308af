section PARSH
variable {μ W : Wd} {B : Nat → Nat} {n p0 p : Nat} {z : PZ}
theorem sT_sP (p0 : Nat) : ∀ i, sT i → sP p0 i := fun i y => y.elim Or.inl (fun y => Or.inr (Or.inl y))
theorem nhS_lt {lo hi a : Nat} (h : nhS B n p lo hi = .inr a) : lo ≤ a ∧ a ≤ hi := by
  unfold nhS at h
  split at h
  · exact nomatch h
  · split at h
    · exact nomatch h
    · split at h
      · exact nomatch h
      · injection h with h; omega
theorem Ex.sI {S : Nat → Prop} (h : Ex S μ W) {i : Nat} (hi : S i) (k : Nat) (v : Int32) : Ex S μ (sI W i k v) := ⟨h.1.sI, h.2.1, h.2.2.1, h.2.2.2.1, fun j hj hs x => by
  have a := h.2.2.2.2 j hj hs x
  exact ⟨by rw [gI_sI, if_neg (show ¬ (j = i ∧ x = k) from fun q => hs (by rw [q.1]; exact hi))]; exact a.1, a.2.1, a.2.2⟩⟩
theorem En.sI {S : Nat → Prop} (h : En S μ W) {i : Nat} (hi : S i) (k : Nat) (v : Int32) : En S μ (sI W i k v) := ⟨h.1.sI hi k v, h.2⟩
def bnd {α β : Type} (r : (Nat × Nat) ⊕ α) (f : α → (Nat × Nat) ⊕ β) : (Nat × Nat) ⊕ β := match r with
  | .inl e => .inl e
  | .inr a => f a
theorem bnd_l {α β : Type} {r : (Nat × Nat) ⊕ α} {e : Nat × Nat} {f : α → (Nat × Nat) ⊕ β} (h : r = .inl e) : bnd r f = .inl e := by rw [h]; rfl
theorem bnd_r {α β : Type} {r : (Nat × Nat) ⊕ α} {a : α} {f : α → (Nat × Nat) ⊕ β} (h : r = .inr a) : bnd r f = f a := by rw [h]; rfl
/-- the end of a statement -/
def sgZ (B : Nat → Nat) (n p : Nat) (z : PZ) : (Nat × Nat) ⊕ (Nat × PZ) := bnd (sgS B n p) fun _ => .inr (p, z)
def stTime (B : Nat → Nat) (n p : Nat) (z : PZ) : (Nat × Nat) ⊕ (Nat × PZ) := bnd (nhS B n (tkE B n p) 1 999) fun m => bnd (nhS B n (tkE B n (tkE B n p)) 0 999) fun c => sgZ B n (tkE B n (tkE B n (tkE B n p))) (pset (pset z.1 9 1 (nI m)) 9 2 (nI c), z.2.1, z.2.2.1, z.2.2.2)
def stLead (B : Nat → Nat) (n p : Nat) (z : PZ) : (Nat × Nat) ⊕ (Nat × PZ) := bnd (nhS B n (tkE B n p) 0 99) fun l => sgZ B n (tkE B n (tkE B n p)) (pset z.1 9 3 (nI l), z.2.1, z.2.2.1, z.2.2.2)
/-- what a statement's reader leaves -/
def StQ (B : Nat → Nat) (n p0 : Nat) (μ : Wd) (r : (Nat × Nat) ⊕ (Nat × PZ)) : Option Value → Wd → Prop := RdQ (sP p0) μ r (.int 0) (fun a v V => v = some (.int 1) ∧ PsV B n p0 a.1 a.2 V)
theorem StQ.bad {r : (Nat × Nat) ⊕ (Nat × PZ)} {e : Nat × Nat} {V : Wd} (hX : En (sP p0) μ V) (hE : ErV V e) (hr : r = .inl e) : StQ B n p0 μ r (some (.int 0)) V := ⟨hX, by rw [hr]; exact ⟨rfl, hE⟩⟩
theorem StQ.ok {r : (Nat × Nat) ⊕ (Nat × PZ)} {a : Nat × PZ} {V : Wd} (hX : En (sP p0) μ V) (hK : EkV μ V) (hz : PsV B n p0 a.1 a.2 V) (hr : r = .inr a) : StQ B n p0 μ r (some (.int 1)) V := ⟨hX, by rw [hr]; exact ⟨hK, rfl, hz⟩⟩

abbrev R_X2_readTime : Room := { frames := 3, cells := 0, slots := 0, locals := 65 }
abbrev RX_X2_readTime : Room := { frames := 3, cells := 1, slots := 6, locals := 65 }

theorem t_X2_readTime (hz : PsV B n p0 p z μ) : CV Y_X2_readTime R_X2_readTime [.ref 79] μ (StQ B n p0 μ (stTime B n p z)) := by
  refine CV.ent yk_X2_readTime (Nat.le_of_ble_eq_true rfl) ?_
  have hw := hz.wf
  have hp := hz.pv.pl
  have hpp := pl_le hp
  have hX0 : En (sP p0) μ μ := En.rfl' hw
  have hK0 : EkV μ μ := EkV.rfl'
  have hwc := hz.wf
  have hr2 := hz.r2
  have hr1 := hz.r1
  have hA := hz.at'
  have hpn := hz.le
  have hen := tkE_le (B := B) hpn
  have htx := hz.tk.1
  refine lf (a_aload_n dX2_readTime_0 rfl) ?_
  refine lf (a_iconst (1 : Int32) dX2_readTime_1 (by decide)) ?_
  refine lf (a_sipush (999 : Int32) dX2_readTime_2 (by decide)) ?_
  obtain ⟨v_, W5, k5, hR5⟩ := (t_X2_nextNumber hz (lo := 1) (hi := 999) (by decide) (by decide))
  obtain ⟨hX5, hR5⟩ := hR5
  generalize hr5 : nhS B n (tkE B n (p)) 1 999 = r5 at hR5
  cases r5 with
  | inl a5 =>
    obtain ⟨rfl, hE5⟩ := hR5
    have hwx := hX5.1.1
    have hXc5 := hX0.trans (hX5.mono (fun i _ y => sT_sP p0 i y))
    refine lf (a_inv (b2 := (0, 0)) k5 rfl dX2_readTime_5 yk_X2_nextNumber im_X2_nextNumber se_X2_nextNumber ml_X2_106 rfl (co_79 (by repeat (first | with_reducible exact hw | with_reducible exact hwc | with_reducible assumption | with_reducible apply Wf.sI | with_reducible apply Wf.sL | with_reducible apply Wf.cpI | with_reducible apply Wf.cpL | with_reducible apply Wf.cp2 | with_reducible apply Wf.sIs | with_reducible apply Wf.sLs | with_reducible apply Wf.cpU | with_reducible apply Wf.fillI | with_reducible apply Wf.clU | with_reducible apply Wf.dnF | with_reducible apply Wf.gbW))) (by decide) hc_X2 (by decide) (by decide) (Nat.le_of_ble_eq_true rfl)) ?_
    refine lf (a_istore_n dX2_readTime_8 (by decide)) ?_
    refine lf (a_iload_n dX2_readTime_9 rfl) ?_
    refine lf (a_iconst (-1 : Int32) dX2_readTime_10 (by decide)) ?_
    refine lfn (a_icmp_ne (tgt := 16) dX2_readTime_11 (by decide)) (fun h11 => absurd h11 (by decide)) (fun h11 => ?_)
    refine lf (a_iconst (0 : Int32) dX2_readTime_14 (by decide)) ?_
    refine ⟨_, _, (a_ireturn dX2_readTime_15 rfl rfl), ?_⟩
    exact ⟨_, rfl, StQ.bad hXc5 hE5 (by rw [stTime, bnd_l hr5])⟩
  | inr a5 =>
    obtain ⟨hK5, rfl, hz5⟩ := hR5
    have hXc5 := hX0.trans (hX5.mono (fun i _ y => sT_sP p0 i y))
    have hKc5 := hK0.trans hK5
    have hwc := hz5.wf
    have hr2 := hz5.r2
    have hr1 := hz5.r1
    have hA := hz5.at'
    have hpn := hz5.le
    have hen := tkE_le (B := B) hpn
    have htx := hz5.tk.1
    refine lf (a_inv (b2 := (0, 0)) k5 rfl dX2_readTime_5 yk_X2_nextNumber im_X2_nextNumber se_X2_nextNumber ml_X2_106 rfl (co_79 (by repeat (first | with_reducible exact hw | with_reducible exact hwc | with_reducible assumption | with_reducible apply Wf.sI | with_reducible apply Wf.sL | with_reducible apply Wf.cpI | with_reducible apply Wf.cpL | with_reducible apply Wf.cp2 | with_reducible apply Wf.sIs | with_reducible apply Wf.sLs | with_reducible apply Wf.cpU | with_reducible apply Wf.fillI | with_reducible apply Wf.clU | with_reducible apply Wf.dnF | with_reducible apply Wf.gbW))) (by decide) hc_X2 (by decide) (by decide) (Nat.le_of_ble_eq_true rfl)) ?_
    refine lf (a_istore_n dX2_readTime_8 (by decide)) ?_
    refine lf (a_iload_n dX2_readTime_9 rfl) ?_
    refine lf (a_iconst (-1 : Int32) dX2_readTime_10 (by decide)) ?_
    refine lfn (a_icmp_ne (tgt := 16) dX2_readTime_11 (by decide)) (fun h11 => ?_) (fun h11 => absurd h11 (nI_ne1 (by have := nhS_lt hr5; omega)))
    refine lf (a_aload_n dX2_readTime_16 rfl) ?_
    refine lf (a_iconst (0 : Int32) dX2_readTime_17 (by decide)) ?_
    refine lf (a_sipush (999 : Int32) dX2_readTime_18 (by decide)) ?_
    obtain ⟨v_, W21, k21, hR21⟩ := (t_X2_nextNumber hz5 (lo := 0) (hi := 999) (by decide) (by decide))
    obtain ⟨hX21, hR21⟩ := hR21
    generalize hr21 : nhS B n (tkE B n (tkE B n (p))) 0 999 = r21 at hR21
    cases r21 with
    | inl a21 =>
      obtain ⟨rfl, hE21⟩ := hR21
      have hwx := hX21.1.1
      have hXc21 := hXc5.trans (hX21.mono (fun i _ y => sT_sP p0 i y))
      refine lf (a_inv (b2 := (0, 0)) k21 rfl dX2_readTime_21 yk_X2_nextNumber im_X2_nextNumber se_X2_nextNumber ml_X2_106 rfl (co_79 (by repeat (first | with_reducible exact hw | with_reducible exact hwc | with_reducible assumption | with_reducible apply Wf.sI | with_reducible apply Wf.sL | with_reducible apply Wf.cpI | with_reducible apply Wf.cpL | with_reducible apply Wf.cp2 | with_reducible apply Wf.sIs | with_reducible apply Wf.sLs | with_reducible apply Wf.cpU | with_reducible apply Wf.fillI | with_reducible apply Wf.clU | with_reducible apply Wf.dnF | with_reducible apply Wf.gbW))) (by decide) hc_X2 (by decide) (by decide) (Nat.le_of_ble_eq_true rfl)) ?_
      refine lf (a_istore_n dX2_readTime_24 (by decide)) ?_
      refine lf (a_iload_n dX2_readTime_25 rfl) ?_
      refine lf (a_iconst (-1 : Int32) dX2_readTime_26 (by decide)) ?_
      refine lfn (a_icmp_ne (tgt := 32) dX2_readTime_27 (by decide)) (fun h27 => absurd h27 (by decide)) (fun h27 => ?_)
      refine lf (a_iconst (0 : Int32) dX2_readTime_30 (by decide)) ?_
      refine ⟨_, _, (a_ireturn dX2_readTime_31 rfl rfl), ?_⟩
      exact ⟨_, rfl, StQ.bad hXc21 hE21 (by rw [stTime, bnd_r hr5, bnd_l hr21])⟩
    | inr a21 =>
      obtain ⟨hK21, rfl, hz21⟩ := hR21
      have hXc21 := hXc5.trans (hX21.mono (fun i _ y => sT_sP p0 i y))
      have hKc21 := hKc5.trans hK21
      have hwc := hz21.wf
      have hr2 := hz21.r2
      have hr1 := hz21.r1
      have hA := hz21.at'
      have hpn := hz21.le
      have hen := tkE_le (B := B) hpn
      have htx := hz21.tk.1
      refine lf (a_inv (b2 := (0, 0)) k21 rfl dX2_readTime_21 yk_X2_nextNumber im_X2_nextNumber se_X2_nextNumber ml_X2_106 rfl (co_79 (by repeat (first | with_reducible exact hw | with_reducible exact hwc | with_reducible assumption | with_reducible apply Wf.sI | with_reducible apply Wf.sL | with_reducible apply Wf.cpI | with_reducible apply Wf.cpL | with_reducible apply Wf.cp2 | with_reducible apply Wf.sIs | with_reducible apply Wf.sLs | with_reducible apply Wf.cpU | with_reducible apply Wf.fillI | with_reducible apply Wf.clU | with_reducible apply Wf.dnF | with_reducible apply Wf.gbW))) (by decide) hc_X2 (by decide) (by decide) (Nat.le_of_ble_eq_true rfl)) ?_
      refine lf (a_istore_n dX2_readTime_24 (by decide)) ?_
      refine lf (a_iload_n dX2_readTime_25 rfl) ?_
      refine lf (a_iconst (-1 : Int32) dX2_readTime_26 (by decide)) ?_
      refine lfn (a_icmp_ne (tgt := 32) dX2_readTime_27 (by decide)) (fun h27 => ?_) (fun h27 => absurd h27 (nI_ne1 (by have := nhS_lt hr21; omega)))
      refine lf (a_aload_n dX2_readTime_32 rfl) ?_
      refine lf (a_getR hr2 dX2_readTime_33 fs_X2_22 rfl (co_79 (by repeat (first | with_reducible exact hw | with_reducible exact hwc | with_reducible assumption | with_reducible apply Wf.sI | with_reducible apply Wf.sL | with_reducible apply Wf.cpI | with_reducible apply Wf.cpL | with_reducible apply Wf.cp2 | with_reducible apply Wf.sIs | with_reducible apply Wf.sLs | with_reducible apply Wf.cpU | with_reducible apply Wf.fillI | with_reducible apply Wf.clU | with_reducible apply Wf.dnF | with_reducible apply Wf.gbW)))) ?_
      refine lf (a_iload_n dX2_readTime_36 rfl) ?_
      refine lf (a_putI dX2_readTime_37 fs_X2_57 rfl rfl rfl (pl_o (by repeat (first | with_reducible exact hw | with_reducible exact hwc | with_reducible assumption | with_reducible apply Wf.sI | with_reducible apply Wf.sL | with_reducible apply Wf.cpI | with_reducible apply Wf.cpL | with_reducible apply Wf.cp2 | with_reducible apply Wf.sIs | with_reducible apply Wf.sLs | with_reducible apply Wf.cpU | with_reducible apply Wf.fillI | with_reducible apply Wf.clU | with_reducible apply Wf.dnF | with_reducible apply Wf.gbW)) hp)) ?_
      refine lf (a_aload_n dX2_readTime_40 rfl) ?_
      refine lf (a_getR hr2 dX2_readTime_41 fs_X2_22 rfl (co_79 (by repeat (first | with_reducible exact hw | with_reducible exact hwc | with_reducible assumption | with_reducible apply Wf.sI | with_reducible apply Wf.sL | with_reducible apply Wf.cpI | with_reducible apply Wf.cpL | with_reducible apply Wf.cp2 | with_reducible apply Wf.sIs | with_reducible apply Wf.sLs | with_reducible apply Wf.cpU | with_reducible apply Wf.fillI | with_reducible apply Wf.clU | with_reducible apply Wf.dnF | with_reducible apply Wf.gbW)))) ?_
      refine lf (a_iload_n dX2_readTime_44 rfl) ?_
      refine lf (a_putI dX2_readTime_45 fs_X2_110 rfl rfl rfl (pl_o (by repeat (first | with_reducible exact hw | with_reducible exact hwc | with_reducible assumption | with_reducible apply Wf.sI | with_reducible apply Wf.sL | with_reducible apply Wf.cpI | with_reducible apply Wf.cpL | with_reducible apply Wf.cp2 | with_reducible apply Wf.sIs | with_reducible apply Wf.sLs | with_reducible apply Wf.cpU | with_reducible apply Wf.fillI | with_reducible apply Wf.clU | with_reducible apply Wf.dnF | with_reducible apply Wf.gbW)) hp)) ?_
      have hxp := ((En.rfl' (S := fun i => i = p0) hwc).sI rfl 8 (nI a5)).sI rfl 9 (nI a21)
      have hzp : PsV B n p0 (tkE B n (tkE B n (p))) ((pset (pset z.1 9 1 (nI a5)) 9 2 (nI a21)), z.2.1, z.2.2.1, z.2.2.2) (sI (sI W21 p0 8 (nI a5)) p0 9 (nI a21)) := hz21.plan hxp.1 (fun i y => by subst y; omega) (((hz21.pv.s8 (nI a5)).s9 (nI a21))) (fun i hi => (hz21.cn hi).ex hxp.1 (fun i y => by subst y; omega) (by have := hwc.1; have := hz21.pv.C4; have hi : i < pC z.1 := hi; omega) (by omega)) (fun i hi => (hz21.mn hi).ex hxp.1 (fun i y => by subst y; omega) (by have := hwc.1; have := hz21.pv.M4; have hi : i < pM z.1 := hi; omega) (by omega))
      have hXp : En (sP p0) μ (sI (sI W21 p0 8 (nI a5)) p0 9 (nI a21)) := ((hXc21.sI (Or.inr (Or.inr (Or.inl ⟨Nat.le_refl _, Nat.le_add_right _ _⟩))) 8 (nI a5)).sI (Or.inr (Or.inr (Or.inl ⟨Nat.le_refl _, Nat.le_add_right _ _⟩))) 9 (nI a21))
      have hKp : EkV μ (sI (sI W21 p0 8 (nI a5)) p0 9 (nI a21)) := ⟨by rw [gI_sI, if_neg (by omega)] ; rw [gI_sI, if_neg (by omega)]; exact hKc21.1, by rw [gI_sI, if_neg (by omega)] ; rw [gI_sI, if_neg (by omega)]; exact hKc21.2⟩
      have hwc := hzp.wf
      have hr2 := hzp.r2
      have hr1 := hzp.r1
      have hA := hzp.at'
      have hpn := hzp.le
      have hen := tkE_le (B := B) hpn
      have htx := hzp.tk.1
      refine lf (a_aload_n dX2_readTime_48 rfl) ?_
      refine lf (a_getR (cr_79_0 (by repeat (first | with_reducible exact hw | with_reducible exact hwc | with_reducible assumption | with_reducible apply Wf.sI | with_reducible apply Wf.sL | with_reducible apply Wf.cpI | with_reducible apply Wf.cpL | with_reducible apply Wf.cp2 | with_reducible apply Wf.sIs | with_reducible apply Wf.sLs | with_reducible apply Wf.cpU | with_reducible apply Wf.fillI | with_reducible apply Wf.clU | with_reducible apply Wf.dnF | with_reducible apply Wf.gbW))) dX2_readTime_49 fs_X2_12 rfl (co_79 (by repeat (first | with_reducible exact hw | with_reducible exact hwc | with_reducible assumption | with_reducible apply Wf.sI | with_reducible apply Wf.sL | with_reducible apply Wf.cpI | with_reducible apply Wf.cpL | with_reducible apply Wf.cp2 | with_reducible apply Wf.sIs | with_reducible apply Wf.sLs | with_reducible apply Wf.cpU | with_reducible apply Wf.fillI | with_reducible apply Wf.clU | with_reducible apply Wf.dnF | with_reducible apply Wf.gbW)))) ?_
      obtain ⟨v_, W52, k52, rfl, hO52, hA52⟩ := (t_X9_next hzp.wf hzp.tk hen.2.1 hzp.at'.2.1)
      have hz52 := hzp.next hO52 hA52 hen.2.1
      have hXc52 := hXp.trans ((ExT hO52).1.mono (fun i _ y => sT_sP p0 i y))
      have hKc52 := hKp.trans (ExT hO52).2
      have hwc := hz52.wf
      have hr2 := hz52.r2
      have hr1 := hz52.r1
      have hA := hz52.at'
      have hpn := hz52.le
      have hen := tkE_le (B := B) hpn
      have htx := hz52.tk.1
      refine lf (a_inv (b2 := (0, 0)) k52 rfl dX2_readTime_52 yk_X9_next im_X9_next se_X9_next ml_X2_47 rfl (co_80 (by repeat (first | with_reducible exact hw | with_reducible exact hwc | with_reducible assumption | with_reducible apply Wf.sI | with_reducible apply Wf.sL | with_reducible apply Wf.cpI | with_reducible apply Wf.cpL | with_reducible apply Wf.cp2 | with_reducible apply Wf.sIs | with_reducible apply Wf.sLs | with_reducible apply Wf.cpU | with_reducible apply Wf.fillI | with_reducible apply Wf.clU | with_reducible apply Wf.dnF | with_reducible apply Wf.gbW))) (by decide) hc_X9 (by decide) (by decide) (Nat.le_of_ble_eq_true rfl)) ?_
      refine lf (a_aload_n dX2_readTime_55 rfl) ?_
      obtain ⟨v_, W56, k56, hR56⟩ := (t_X2_signHere hz52)
      obtain ⟨hX56, hR56⟩ := hR56
      generalize hr56 : sgS B n (tkE B n (tkE B n (tkE B n (p)))) = r56 at hR56
      cases r56 with
      | inl a56 =>
        obtain ⟨rfl, hE56⟩ := hR56
        have hwx := hX56.1.1
        have hXc56 := hXc52.trans (hX56.mono (fun i _ y => sT_sP p0 i y))
        refine lf (a_inv (b2 := (0, 0)) k56 rfl dX2_readTime_56 yk_X2_signHere im_X2_signHere se_X2_signHere ml_X2_113 rfl (co_79 (by repeat (first | with_reducible exact hw | with_reducible exact hwc | with_reducible assumption | with_reducible apply Wf.sI | with_reducible apply Wf.sL | with_reducible apply Wf.cpI | with_reducible apply Wf.cpL | with_reducible apply Wf.cp2 | with_reducible apply Wf.sIs | with_reducible apply Wf.sLs | with_reducible apply Wf.cpU | with_reducible apply Wf.fillI | with_reducible apply Wf.clU | with_reducible apply Wf.dnF | with_reducible apply Wf.gbW))) (by decide) hc_X2 (by decide) (by decide) (Nat.le_of_ble_eq_true rfl)) ?_
        refine ⟨_, _, (a_ireturn dX2_readTime_59 rfl rfl), ?_⟩
        first
        | exact ⟨_, rfl, StQ.bad hXc56 hE56 (by rw [stTime, bnd_r hr5, bnd_r hr21, sgZ, bnd_l hr56])⟩
        | exact ⟨_, rfl, StQ.ok hXc56 hKc56 hz56 (by rw [stTime, bnd_r hr5, bnd_r hr21, sgZ, bnd_r hr56])⟩
      | inr a56 =>
        obtain ⟨hK56, rfl, hz56⟩ := hR56
        have hXc56 := hXc52.trans (hX56.mono (fun i _ y => sT_sP p0 i y))
        have hKc56 := hKc52.trans hK56
        have hwc := hz56.wf
        have hr2 := hz56.r2
        have hr1 := hz56.r1
        have hA := hz56.at'
        have hpn := hz56.le
        have hen := tkE_le (B := B) hpn
        have htx := hz56.tk.1
        refine lf (a_inv (b2 := (0, 0)) k56 rfl dX2_readTime_56 yk_X2_signHere im_X2_signHere se_X2_signHere ml_X2_113 rfl (co_79 (by repeat (first | with_reducible exact hw | with_reducible exact hwc | with_reducible assumption | with_reducible apply Wf.sI | with_reducible apply Wf.sL | with_reducible apply Wf.cpI | with_reducible apply Wf.cpL | with_reducible apply Wf.cp2 | with_reducible apply Wf.sIs | with_reducible apply Wf.sLs | with_reducible apply Wf.cpU | with_reducible apply Wf.fillI | with_reducible apply Wf.clU | with_reducible apply Wf.dnF | with_reducible apply Wf.gbW))) (by decide) hc_X2 (by decide) (by decide) (Nat.le_of_ble_eq_true rfl)) ?_
        refine ⟨_, _, (a_ireturn dX2_readTime_59 rfl rfl), ?_⟩
        first
        | exact ⟨_, rfl, StQ.bad hXc56 hE56 (by rw [stTime, bnd_r hr5, bnd_r hr21, sgZ, bnd_l hr56])⟩
        | exact ⟨_, rfl, StQ.ok hXc56 hKc56 hz56 (by rw [stTime, bnd_r hr5, bnd_r hr21, sgZ, bnd_r hr56])⟩
abbrev R_X2_readLead : Room := { frames := 3, cells := 0, slots := 0, locals := 65 }
abbrev RX_X2_readLead : Room := { frames := 3, cells := 1, slots := 6, locals := 65 }

theorem t_X2_readLead (hz : PsV B n p0 p z μ) : CV Y_X2_readLead R_X2_readLead [.ref 79] μ (StQ B n p0 μ (stLead B n p z)) := by
  refine CV.ent yk_X2_readLead (Nat.le_of_ble_eq_true rfl) ?_
  have hw := hz.wf
  have hp := hz.pv.pl
  have hpp := pl_le hp
  have hX0 : En (sP p0) μ μ := En.rfl' hw
  have hK0 : EkV μ μ := EkV.rfl'
  have hwc := hz.wf
  have hr2 := hz.r2
  have hr1 := hz.r1
  have hA := hz.at'
  have hpn := hz.le
  have hen := tkE_le (B := B) hpn
  have htx := hz.tk.1
  refine lf (a_aload_n dX2_readLead_0 rfl) ?_
  refine lf (a_iconst (0 : Int32) dX2_readLead_1 (by decide)) ?_
  refine lf (a_bipush (99 : Int32) dX2_readLead_2 (by decide)) ?_
  obtain ⟨v_, W4, k4, hR4⟩ := (t_X2_nextNumber hz (lo := 0) (hi := 99) (by decide) (by decide))
  obtain ⟨hX4, hR4⟩ := hR4
  generalize hr4 : nhS B n (tkE B n (p)) 0 99 = r4 at hR4
  cases r4 with
  | inl a4 =>
    obtain ⟨rfl, hE4⟩ := hR4
    have hwx := hX4.1.1
    have hXc4 := hX0.trans (hX4.mono (fun i _ y => sT_sP p0 i y))
    refine lf (a_inv (b2 := (0, 0)) k4 rfl dX2_readLead_4 yk_X2_nextNumber im_X2_nextNumber se_X2_nextNumber ml_X2_106 rfl (co_79 (by repeat (first | with_reducible exact hw | with_reducible exact hwc | with_reducible assumption | with_reducible apply Wf.sI | with_reducible apply Wf.sL | with_reducible apply Wf.cpI | with_reducible apply Wf.cpL | with_reducible apply Wf.cp2 | with_reducible apply Wf.sIs | with_reducible apply Wf.sLs | with_reducible apply Wf.cpU | with_reducible apply Wf.fillI | with_reducible apply Wf.clU | with_reducible apply Wf.dnF | with_reducible apply Wf.gbW))) (by decide) hc_X2 (by decide) (by decide) (Nat.le_of_ble_eq_true rfl)) ?_
    refine lf (a_istore_n dX2_readLead_7 (by decide)) ?_
    refine lf (a_iload_n dX2_readLead_8 rfl) ?_
    refine lf (a_iconst (-1 : Int32) dX2_readLead_9 (by decide)) ?_
    refine lfn (a_icmp_ne (tgt := 15) dX2_readLead_10 (by decide)) (fun h10 => absurd h10 (by decide)) (fun h10 => ?_)
    refine lf (a_iconst (0 : Int32) dX2_readLead_13 (by decide)) ?_
    refine ⟨_, _, (a_ireturn dX2_readLead_14 rfl rfl), ?_⟩
    exact ⟨_, rfl, StQ.bad hXc4 hE4 (by rw [stLead, bnd_l hr4])⟩
  | inr a4 =>
    obtain ⟨hK4, rfl, hz4⟩ := hR4
    have hXc4 := hX0.trans (hX4.mono (fun i _ y => sT_sP p0 i y))
    have hKc4 := hK0.trans hK4
    have hwc := hz4.wf
    have hr2 := hz4.r2
    have hr1 := hz4.r1
    have hA := hz4.at'
    have hpn := hz4.le
    have hen := tkE_le (B := B) hpn
    have htx := hz4.tk.1
    refine lf (a_inv (b2 := (0, 0)) k4 rfl dX2_readLead_4 yk_X2_nextNumber im_X2_nextNumber se_X2_nextNumber ml_X2_106 rfl (co_79 (by repeat (first | with_reducible exact hw | with_reducible exact hwc | with_reducible assumption | with_reducible apply Wf.sI | with_reducible apply Wf.sL | with_reducible apply Wf.cpI | with_reducible apply Wf.cpL | with_reducible apply Wf.cp2 | with_reducible apply Wf.sIs | with_reducible apply Wf.sLs | with_reducible apply Wf.cpU | with_reducible apply Wf.fillI | with_reducible apply Wf.clU | with_reducible apply Wf.dnF | with_reducible apply Wf.gbW))) (by decide) hc_X2 (by decide) (by decide) (Nat.le_of_ble_eq_true rfl)) ?_
    refine lf (a_istore_n dX2_readLead_7 (by decide)) ?_
    refine lf (a_iload_n dX2_readLead_8 rfl) ?_
    refine lf (a_iconst (-1 : Int32) dX2_readLead_9 (by decide)) ?_
    refine lfn (a_icmp_ne (tgt := 15) dX2_readLead_10 (by decide)) (fun h10 => ?_) (fun h10 => absurd h10 (nI_ne1 (by have := nhS_lt hr4; omega)))
    refine lf (a_aload_n dX2_readLead_15 rfl) ?_
    refine lf (a_getR hr2 dX2_readLead_16 fs_X2_22 rfl (co_79 (by repeat (first | with_reducible exact hw | with_reducible exact hwc | with_reducible assumption | with_reducible apply Wf.sI | with_reducible apply Wf.sL | with_reducible apply Wf.cpI | with_reducible apply Wf.cpL | with_reducible apply Wf.cp2 | with_reducible apply Wf.sIs | with_reducible apply Wf.sLs | with_reducible apply Wf.cpU | with_reducible apply Wf.fillI | with_reducible apply Wf.clU | with_reducible apply Wf.dnF | with_reducible apply Wf.gbW)))) ?_
    refine lf (a_iload_n dX2_readLead_19 rfl) ?_
    refine lf (a_putI dX2_readLead_20 fs_X2_116 rfl rfl rfl (pl_o (by repeat (first | with_reducible exact hw | with_reducible exact hwc | with_reducible assumption | with_reducible apply Wf.sI | with_reducible apply Wf.sL | with_reducible apply Wf.cpI | with_reducible apply Wf.cpL | with_reducible apply Wf.cp2 | with_reducible apply Wf.sIs | with_reducible apply Wf.sLs | with_reducible apply Wf.cpU | with_reducible apply Wf.fillI | with_reducible apply Wf.clU | with_reducible apply Wf.dnF | with_reducible apply Wf.gbW)) hp)) ?_
    have hxp := (En.rfl' (S := fun i => i = p0) hwc).sI rfl 10 (nI a4)
    have hzp : PsV B n p0 (tkE B n (p)) ((pset z.1 9 3 (nI a4)), z.2.1, z.2.2.1, z.2.2.2) (sI W4 p0 10 (nI a4)) := hz4.plan hxp.1 (fun i y => by subst y; omega) ((hz4.pv.s10 (nI a4))) (fun i hi => (hz4.cn hi).ex hxp.1 (fun i y => by subst y; omega) (by have := hwc.1; have := hz4.pv.C4; have hi : i < pC z.1 := hi; omega) (by omega)) (fun i hi => (hz4.mn hi).ex hxp.1 (fun i y => by subst y; omega) (by have := hwc.1; have := hz4.pv.M4; have hi : i < pM z.1 := hi; omega) (by omega))
    have hXp : En (sP p0) μ (sI W4 p0 10 (nI a4)) := (hXc4.sI (Or.inr (Or.inr (Or.inl ⟨Nat.le_refl _, Nat.le_add_right _ _⟩))) 10 (nI a4))
    have hKp : EkV μ (sI W4 p0 10 (nI a4)) := ⟨by rw [gI_sI, if_neg (by omega)]; exact hKc4.1, by rw [gI_sI, if_neg (by omega)]; exact hKc4.2⟩
    have hwc := hzp.wf
    have hr2 := hzp.r2
    have hr1 := hzp.r1
    have hA := hzp.at'
    have hpn := hzp.le
    have hen := tkE_le (B := B) hpn
    have htx := hzp.tk.1
    refine lf (a_aload_n dX2_readLead_23 rfl) ?_
    refine lf (a_getR (cr_79_0 (by repeat (first | with_reducible exact hw | with_reducible exact hwc | with_reducible assumption | with_reducible apply Wf.sI | with_reducible apply Wf.sL | with_reducible apply Wf.cpI | with_reducible apply Wf.cpL | with_reducible apply Wf.cp2 | with_reducible apply Wf.sIs | with_reducible apply Wf.sLs | with_reducible apply Wf.cpU | with_reducible apply Wf.fillI | with_reducible apply Wf.clU | with_reducible apply Wf.dnF | with_reducible apply Wf.gbW))) dX2_readLead_24 fs_X2_12 rfl (co_79 (by repeat (first | with_reducible exact hw | with_reducible exact hwc | with_reducible assumption | with_reducible apply Wf.sI | with_reducible apply Wf.sL | with_reducible apply Wf.cpI | with_reducible apply Wf.cpL | with_reducible apply Wf.cp2 | with_reducible apply Wf.sIs | with_reducible apply Wf.sLs | with_reducible apply Wf.cpU | with_reducible apply Wf.fillI | with_reducible apply Wf.clU | with_reducible apply Wf.dnF | with_reducible apply Wf.gbW)))) ?_
    obtain ⟨v_, W27, k27, rfl, hO27, hA27⟩ := (t_X9_next hzp.wf hzp.tk hen.2.1 hzp.at'.2.1)
    have hz27 := hzp.next hO27 hA27 hen.2.1
    have hXc27 := hXp.trans ((ExT hO27).1.mono (fun i _ y => sT_sP p0 i y))
    have hKc27 := hKp.trans (ExT hO27).2
    have hwc := hz27.wf
    have hr2 := hz27.r2
    have hr1 := hz27.r1
    have hA := hz27.at'
    have hpn := hz27.le
    have hen := tkE_le (B := B) hpn
    have htx := hz27.tk.1
    refine lf (a_inv (b2 := (0, 0)) k27 rfl dX2_readLead_27 yk_X9_next im_X9_next se_X9_next ml_X2_47 rfl (co_80 (by repeat (first | with_reducible exact hw | with_reducible exact hwc | with_reducible assumption | with_reducible apply Wf.sI | with_reducible apply Wf.sL | with_reducible apply Wf.cpI | with_reducible apply Wf.cpL | with_reducible apply Wf.cp2 | with_reducible apply Wf.sIs | with_reducible apply Wf.sLs | with_reducible apply Wf.cpU | with_reducible apply Wf.fillI | with_reducible apply Wf.clU | with_reducible apply Wf.dnF | with_reducible apply Wf.gbW))) (by decide) hc_X9 (by decide) (by decide) (Nat.le_of_ble_eq_true rfl)) ?_
    refine lf (a_aload_n dX2_readLead_30 rfl) ?_
    obtain ⟨v_, W31, k31, hR31⟩ := (t_X2_signHere hz27)
    obtain ⟨hX31, hR31⟩ := hR31
    generalize hr31 : sgS B n (tkE B n (tkE B n (p))) = r31 at hR31
    cases r31 with
    | inl a31 =>
      obtain ⟨rfl, hE31⟩ := hR31
      have hwx := hX31.1.1
      have hXc31 := hXc27.trans (hX31.mono (fun i _ y => sT_sP p0 i y))
      refine lf (a_inv (b2 := (0, 0)) k31 rfl dX2_readLead_31 yk_X2_signHere im_X2_signHere se_X2_signHere ml_X2_113 rfl (co_79 (by repeat (first | with_reducible exact hw | with_reducible exact hwc | with_reducible assumption | with_reducible apply Wf.sI | with_reducible apply Wf.sL | with_reducible apply Wf.cpI | with_reducible apply Wf.cpL | with_reducible apply Wf.cp2 | with_reducible apply Wf.sIs | with_reducible apply Wf.sLs | with_reducible apply Wf.cpU | with_reducible apply Wf.fillI | with_reducible apply Wf.clU | with_reducible apply Wf.dnF | with_reducible apply Wf.gbW))) (by decide) hc_X2 (by decide) (by decide) (Nat.le_of_ble_eq_true rfl)) ?_
      refine ⟨_, _, (a_ireturn dX2_readLead_34 rfl rfl), ?_⟩
      first
      | exact ⟨_, rfl, StQ.bad hXc31 hE31 (by rw [stLead, bnd_r hr4, sgZ, bnd_l hr31])⟩
      | exact ⟨_, rfl, StQ.ok hXc31 hKc31 hz31 (by rw [stLead, bnd_r hr4, sgZ, bnd_r hr31])⟩
    | inr a31 =>
      obtain ⟨hK31, rfl, hz31⟩ := hR31
      have hXc31 := hXc27.trans (hX31.mono (fun i _ y => sT_sP p0 i y))
      have hKc31 := hKc27.trans hK31
      have hwc := hz31.wf
      have hr2 := hz31.r2
      have hr1 := hz31.r1
      have hA := hz31.at'
      have hpn := hz31.le
      have hen := tkE_le (B := B) hpn
      have htx := hz31.tk.1
      refine lf (a_inv (b2 := (0, 0)) k31 rfl dX2_readLead_31 yk_X2_signHere im_X2_signHere se_X2_signHere ml_X2_113 rfl (co_79 (by repeat (first | with_reducible exact hw | with_reducible exact hwc | with_reducible assumption | with_reducible apply Wf.sI | with_reducible apply Wf.sL | with_reducible apply Wf.cpI | with_reducible apply Wf.cpL | with_reducible apply Wf.cp2 | with_reducible apply Wf.sIs | with_reducible apply Wf.sLs | with_reducible apply Wf.cpU | with_reducible apply Wf.fillI | with_reducible apply Wf.clU | with_reducible apply Wf.dnF | with_reducible apply Wf.gbW))) (by decide) hc_X2 (by decide) (by decide) (Nat.le_of_ble_eq_true rfl)) ?_
      refine ⟨_, _, (a_ireturn dX2_readLead_34 rfl rfl), ?_⟩
      first
      | exact ⟨_, rfl, StQ.bad hXc31 hE31 (by rw [stLead, bnd_r hr4, sgZ, bnd_l hr31])⟩
      | exact ⟨_, rfl, StQ.ok hXc31 hKc31 hz31 (by rw [stLead, bnd_r hr4, sgZ, bnd_r hr31])⟩
end PARSH
