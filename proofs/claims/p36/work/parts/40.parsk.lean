section PARSK
variable {μ W : Wd} {B : Nat → Nat} {n p0 p : Nat} {z : PZ}
/-- so many plain passengers more -/
def seatsD (d : FDt) (c : Nat) : Nat → FDt
  | 0 => d
  | k + 1 => seatD (seatsD d c k) (nI c) 0 (-1)
theorem seatsD_P (d : FDt) (c : Nat) : ∀ k, dP (seatsD d c k) = dP d + k
  | 0 => rfl
  | k + 1 => by show dP (seatsD d c k) + 1 = _; rw [seatsD_P d c k]; rfl
def frD (z : PZ) (c : Nat) : Int32 := pF z.1 0 c - paD z.2.1 (nI c)
def stGuests (B : Nat → Nat) (n p : Nat) (z : PZ) : (Nat × Nat) ⊕ (Nat × PZ) := bnd (ncS B n (tkE B n p) z) fun c => bnd (nhS B n (tkE B n (tkE B n p)) 1 40) fun g =>
  if frD z c < nI g then .inl (5, tkS B n (tkE B n (tkE B n p))) else if 40 < dP z.2.1 + g then .inl (5, tkS B n (tkE B n (tkE B n p))) else
  sgZ B n (tkE B n (tkE B n (tkE B n p))) (z.1, seatsD z.2.1 c g, z.2.2.1, z.2.2.2)
abbrev s41 : Nat → Prop := fun i => 41 ≤ i ∧ i ≤ 57
theorem seat_ex {S : Nat → Prop} {V : Wd} (h : Out S μ W) (hS : ∀ i, 41 ≤ i → i ≤ 44 → S i) {P : Nat} (c n v x : Int32) (hV : V = sI (sI (sI (sI W (41 + 1) P c) (41 + 2) P n) (41 + 3) P v) 41 3 x) : Out S μ V := by
  rw [hV]
  exact (((h.sI (hS _ (by decide) (by decide)) _ _).sI (hS _ (by decide) (by decide)) _ _).sI (hS _ (by decide) (by decide)) _ _).sI (hS _ (by decide) (by decide)) _ _

abbrev R_X2_readGuests : Room := { frames := 10, cells := 0, slots := 0, locals := 247 }
abbrev RX_X2_readGuests : Room := { frames := 10, cells := 1, slots := 6, locals := 247 }

theorem l_X2_readGuests_61 {c g : Nat} (hg : dP z.2.1 + g ≤ 40) {Q : Oc → Wd → Prop} (kx : ∀ W : Wd, (Out s41 μ W ∧ PsV B n p0 p (z.1, seatsD z.2.1 c g, z.2.2.1, z.2.2.2) W) → WP Y_X2_readGuests R_X2_readGuests (0, 0) W 82 [(0, .ref 79), (1, .int (nI c)), (2, .int (nI g)), (3, .int (nI g))] [] Q) : ∀ dd m (W : Wd), m + dd = g → (Out s41 μ W ∧ PsV B n p0 p (z.1, seatsD z.2.1 c m, z.2.2.1, z.2.2.2) W) → WP Y_X2_readGuests R_X2_readGuests (0, 0) W 61 [(0, .ref 79), (1, .int (nI c)), (2, .int (nI g)), (3, .int (nI m))] [] Q := by
  intro dd
  induction dd with
  | zero =>
    intro m W hm hI
    obtain rfl : g = m := by omega
    have hw := hI.1.1
    refine lf (a_iload_n dX2_readGuests_61 rfl) ?_
    refine lf (a_iload_n dX2_readGuests_62 rfl) ?_
    refine lf2 (a_icmp_ge (tgt := 82) dX2_readGuests_63 (by decide)) (fun h63 => ?_) (fun h63 => absurd h63 (fun z => z (nI_le (Nat.le_refl _) (by omega))))
    exact lf (a_loc _ rfl) (kx W hI)
  | succ dd ih =>
    intro m W hm hI
    have hw := hI.1.1
    have hPm : dP (seatsD z.2.1 c m) = dP z.2.1 + m := seatsD_P _ _ _
    have hr1 := hI.2.r1
    have hfv : FV W 41 p0 (seatsD z.2.1 c m) := hI.2.fv
    have hO2 := seat_ex (V := sI (sI (sI (sI W (41 + 1) (dP (seatsD z.2.1 c m)) (nI c)) (41 + 2) (dP (seatsD z.2.1 c m)) 0) (41 + 3) (dP (seatsD z.2.1 c m)) (-1)) 41 3 (nI (dP (seatsD z.2.1 c m) + 1))) (Out.rfl' (S := s41) hw) (fun i a b => ⟨a, by omega⟩) (nI c) 0 (-1) (nI (dP (seatsD z.2.1 c m) + 1)) rfl
    refine lf (a_iload_n dX2_readGuests_61 rfl) ?_
    refine lf (a_iload_n dX2_readGuests_62 rfl) ?_
    refine lf2 (a_icmp_ge (tgt := 82) dX2_readGuests_63 (by decide)) (fun h63 => absurd h63 (nI_ge (by omega) (by omega))) (fun h63 => ?_)
    refine lf (a_aload_n dX2_readGuests_66 rfl) ?_
    refine lf (a_getR hr1 dX2_readGuests_67 fs_X2_18 rfl (co_79 hw)) ?_
    refine lf (a_iload_n dX2_readGuests_70 rfl) ?_
    refine lf (a_iconst (0 : Int32) dX2_readGuests_71 (by decide)) ?_
    refine lf (a_iconst (-1 : Int32) dX2_readGuests_72 (by decide)) ?_
    refine lf (a_inv (b2 := (0, 0)) (t_X1_seat hw fl_trial hfv.hP (show dP (seatsD z.2.1 c m) < 40 by omega) (nI c) 0 (-1)) rfl dX2_readGuests_73 yk_X1_seat im_X1_seat se_X1_seat ml_X2_208 rfl (fl_o hw fl_trial) (by decide) hc_X1 (by decide) (by decide) (Nat.le_of_ble_eq_true rfl)) ?_
    refine lf (a_iincN dX2_readGuests_76 rfl (by decide)) ?_
    refine lf (a_goto (tgt := 61) dX2_readGuests_79 (by decide)) ?_
    exact lf (a_loc _ rfl) (ih (m + 1) _ (by omega) ⟨hI.1.trans hO2, hI.2.flight hO2 (hfv.seat (by omega) (nI c) 0 (-1))⟩)
theorem t_X2_readGuests (hz : PsV B n p0 p z μ) : CV Y_X2_readGuests R_X2_readGuests [.ref 79] μ (StQ B n p0 μ (stGuests B n p z)) := by
  refine CV.ent yk_X2_readGuests (Nat.le_of_ble_eq_true rfl) ?_
  have hw := hz.wf
  have hp := hz.pv.pl
  have hpp := pl_le hp
  have hX0 : En (sP p0) μ μ := En.rfl' hw
  have hK0 : EkV μ μ := EkV.rfl'
  have hwc := hz.wf
  have hr2 := hz.r2
  have hr1 := hz.r1
  have hA := hz.at'
  have hpn := hz.le
  have hen := tkE_le (B := B) hpn
  have htx := hz.tk.1
  refine lf (a_aload_n dX2_readGuests_0 rfl) ?_
  obtain ⟨v_, W1, k1, hR1⟩ := (t_X2_nextCabin hz)
  obtain ⟨hX1, hR1⟩ := hR1
  generalize hr1 : ncS B n (tkE B n p) z = r1 at hR1
  cases r1 with
  | inl a1 =>
    have hrr1 := hr1
    obtain ⟨rfl, hE1⟩ := hR1
    have hwx := hX1.1.1
    have hXc1 := hX0.trans (hX1.mono (fun i _ y => sT_sP p0 i y))
    refine lf (a_inv (b2 := (0, 0)) k1 rfl dX2_readGuests_1 yk_X2_nextCabin im_X2_nextCabin se_X2_nextCabin ml_X2_188 rfl (co_79 (by repeat (first | with_reducible exact hw | with_reducible exact hwc | with_reducible assumption | with_reducible apply Wf.sI | with_reducible apply Wf.sL | with_reducible apply Wf.cpI | with_reducible apply Wf.cpL | with_reducible apply Wf.cp2 | with_reducible apply Wf.sIs | with_reducible apply Wf.sLs | with_reducible apply Wf.cpU | with_reducible apply Wf.fillI | with_reducible apply Wf.clU | with_reducible apply Wf.dnF | with_reducible apply Wf.gbW))) (by decide) hc_X2 (by decide) (by decide) (Nat.le_of_ble_eq_true rfl)) ?_
    refine lf (a_istore_n dX2_readGuests_4 (by decide)) ?_
    refine lf (a_iload_n dX2_readGuests_5 rfl) ?_
    refine lf (a_iconst (-1 : Int32) dX2_readGuests_6 (by decide)) ?_
    refine lfn (a_icmp_ne (tgt := 12) dX2_readGuests_7 (by decide)) (fun h7 => absurd h7 (by decide)) (fun h7 => ?_)
    refine lf (a_iconst (0 : Int32) dX2_readGuests_10 (by decide)) ?_
    refine ⟨_, _, (a_ireturn dX2_readGuests_11 rfl rfl), ?_⟩
    exact ⟨_, rfl, StQ.bad hXc1 hE1 (by rw [stGuests, bnd_l hrr1])⟩
  | inr a1 =>
    have hrr1 := hr1
    obtain ⟨hK1, rfl, hz1⟩ := hR1
    have hXc1 := hX0.trans (hX1.mono (fun i _ y => sT_sP p0 i y))
    have hKc1 := hK0.trans hK1
    have hwc := hz1.wf
    have hr2 := hz1.r2
    have hr1 := hz1.r1
    have hA := hz1.at'
    have hpn := hz1.le
    have hen := tkE_le (B := B) hpn
    have htx := hz1.tk.1
    have hfvc := hz1.fv
    have hfp := hfvc.rp
    refine lf (a_inv (b2 := (0, 0)) k1 rfl dX2_readGuests_1 yk_X2_nextCabin im_X2_nextCabin se_X2_nextCabin ml_X2_188 rfl (co_79 (by repeat (first | with_reducible exact hw | with_reducible exact hwc | with_reducible assumption | with_reducible apply Wf.sI | with_reducible apply Wf.sL | with_reducible apply Wf.cpI | with_reducible apply Wf.cpL | with_reducible apply Wf.cp2 | with_reducible apply Wf.sIs | with_reducible apply Wf.sLs | with_reducible apply Wf.cpU | with_reducible apply Wf.fillI | with_reducible apply Wf.clU | with_reducible apply Wf.dnF | with_reducible apply Wf.gbW))) (by decide) hc_X2 (by decide) (by decide) (Nat.le_of_ble_eq_true rfl)) ?_
    refine lf (a_istore_n dX2_readGuests_4 (by decide)) ?_
    refine lf (a_iload_n dX2_readGuests_5 rfl) ?_
    refine lf (a_iconst (-1 : Int32) dX2_readGuests_6 (by decide)) ?_
    refine lfn (a_icmp_ne (tgt := 12) dX2_readGuests_7 (by decide)) (fun h7 => ?_) (fun h7 => absurd h7 (nI_ne1 (by have := ncS_lt hrr1; have := hz.pv.C4; omega)))
    refine lf (a_aload_n dX2_readGuests_12 rfl) ?_
    refine lf (a_iconst (1 : Int32) dX2_readGuests_13 (by decide)) ?_
    refine lf (a_bipush (40 : Int32) dX2_readGuests_14 (by decide)) ?_
    obtain ⟨v_, W16, k16, hR16⟩ := (t_X2_nextNumber hz1 (lo := 1) (hi := 40) (by decide) (by decide))
    obtain ⟨hX16, hR16⟩ := hR16
    generalize hr16 : nhS B n (tkE B n (tkE B n p)) 1 40 = r16 at hR16
    cases r16 with
    | inl a16 =>
      obtain ⟨rfl, hE16⟩ := hR16
      have hwx := hX16.1.1
      have hXc16 := hXc1.trans (hX16.mono (fun i _ y => sT_sP p0 i y))
      refine lf (a_inv (b2 := (0, 0)) k16 rfl dX2_readGuests_16 yk_X2_nextNumber im_X2_nextNumber se_X2_nextNumber ml_X2_106 rfl (co_79 (by repeat (first | with_reducible exact hw | with_reducible exact hwc | with_reducible assumption | with_reducible apply Wf.sI | with_reducible apply Wf.sL | with_reducible apply Wf.cpI | with_reducible apply Wf.cpL | with_reducible apply Wf.cp2 | with_reducible apply Wf.sIs | with_reducible apply Wf.sLs | with_reducible apply Wf.cpU | with_reducible apply Wf.fillI | with_reducible apply Wf.clU | with_reducible apply Wf.dnF | with_reducible apply Wf.gbW))) (by decide) hc_X2 (by decide) (by decide) (Nat.le_of_ble_eq_true rfl)) ?_
      refine lf (a_istore_n dX2_readGuests_19 (by decide)) ?_
      refine lf (a_iload_n dX2_readGuests_20 rfl) ?_
      refine lf (a_iconst (-1 : Int32) dX2_readGuests_21 (by decide)) ?_
      refine lfn (a_icmp_ne (tgt := 27) dX2_readGuests_22 (by decide)) (fun h22 => absurd h22 (by decide)) (fun h22 => ?_)
      refine lf (a_iconst (0 : Int32) dX2_readGuests_25 (by decide)) ?_
      refine ⟨_, _, (a_ireturn dX2_readGuests_26 rfl rfl), ?_⟩
      exact ⟨_, rfl, StQ.bad hXc16 hE16 (by rw [stGuests, bnd_r hrr1, bnd_l hr16])⟩
    | inr a16 =>
      obtain ⟨hK16, rfl, hz16⟩ := hR16
      have hXc16 := hXc1.trans (hX16.mono (fun i _ y => sT_sP p0 i y))
      have hKc16 := hKc1.trans hK16
      have hwc := hz16.wf
      have hr2 := hz16.r2
      have hr1 := hz16.r1
      have hA := hz16.at'
      have hpn := hz16.le
      have hen := tkE_le (B := B) hpn
      have htx := hz16.tk.1
      have hfvc := hz16.fv
      have hfp := hfvc.rp
      refine lf (a_inv (b2 := (0, 0)) k16 rfl dX2_readGuests_16 yk_X2_nextNumber im_X2_nextNumber se_X2_nextNumber ml_X2_106 rfl (co_79 (by repeat (first | with_reducible exact hw | with_reducible exact hwc | with_reducible assumption | with_reducible apply Wf.sI | with_reducible apply Wf.sL | with_reducible apply Wf.cpI | with_reducible apply Wf.cpL | with_reducible apply Wf.cp2 | with_reducible apply Wf.sIs | with_reducible apply Wf.sLs | with_reducible apply Wf.cpU | with_reducible apply Wf.fillI | with_reducible apply Wf.clU | with_reducible apply Wf.dnF | with_reducible apply Wf.gbW))) (by decide) hc_X2 (by decide) (by decide) (Nat.le_of_ble_eq_true rfl)) ?_
      refine lf (a_istore_n dX2_readGuests_19 (by decide)) ?_
      refine lf (a_iload_n dX2_readGuests_20 rfl) ?_
      refine lf (a_iconst (-1 : Int32) dX2_readGuests_21 (by decide)) ?_
      refine lfn (a_icmp_ne (tgt := 27) dX2_readGuests_22 (by decide)) (fun h22 => ?_) (fun h22 => absurd h22 (nI_ne1 (by have := nhS_lt hr16; omega)))
      have ha16 := nhS_lt hr16
      have hP4 := hfvc.P4
      refine lf (a_iload_n dX2_readGuests_27 rfl) ?_
      refine lf (a_aload_n dX2_readGuests_28 rfl) ?_
      refine lf (a_getR hr1 dX2_readGuests_29 fs_X2_18 rfl (co_79 (by repeat (first | with_reducible exact hw | with_reducible exact hwc | with_reducible assumption | with_reducible apply Wf.sI | with_reducible apply Wf.sL | with_reducible apply Wf.cpI | with_reducible apply Wf.cpL | with_reducible apply Wf.cp2 | with_reducible apply Wf.sIs | with_reducible apply Wf.sLs | with_reducible apply Wf.cpU | with_reducible apply Wf.fillI | with_reducible apply Wf.clU | with_reducible apply Wf.dnF | with_reducible apply Wf.gbW)))) ?_
      refine lf (a_iload_n dX2_readGuests_32 rfl) ?_
      refine lf (a_inv (b2 := (0, 0)) (v_X1_freeSeats hwc hfvc hz16.pv (show a1 < pC z.1 from ncS_lt hrr1)) rfl dX2_readGuests_33 yk_X1_freeSeats im_X1_freeSeats se_X1_freeSeats ml_X2_201 rfl (fl_o (by repeat (first | with_reducible exact hw | with_reducible exact hwc | with_reducible assumption | with_reducible apply Wf.sI | with_reducible apply Wf.sL | with_reducible apply Wf.cpI | with_reducible apply Wf.cpL | with_reducible apply Wf.cp2 | with_reducible apply Wf.sIs | with_reducible apply Wf.sLs | with_reducible apply Wf.cpU | with_reducible apply Wf.fillI | with_reducible apply Wf.clU | with_reducible apply Wf.dnF | with_reducible apply Wf.gbW)) fl_trial) (by decide) hc_X1 (by decide) (by decide) (Nat.le_of_ble_eq_true rfl)) ?_
      refine lf2 (a_icmp_gt (tgt := 53) dX2_readGuests_36 (by decide)) (fun h36 => ?_) (fun h36 => ?_)
      · have hfr : frD z a1 < nI a16 := h36
        refine lf (a_aload_n dX2_readGuests_53 rfl) ?_
        refine lf (a_iconst (5 : Int32) dX2_readGuests_54 (by decide)) ?_
        refine lf (a_inv (b2 := (0, 0)) (t_X2_fail hwc (c := 5) hA.1) rfl dX2_readGuests_55 yk_X2_fail im_X2_fail se_X2_fail ml_X2_102 rfl (co_79 (by repeat (first | with_reducible exact hw | with_reducible exact hwc | with_reducible assumption | with_reducible apply Wf.sI | with_reducible apply Wf.sL | with_reducible apply Wf.cpI | with_reducible apply Wf.cpL | with_reducible apply Wf.cp2 | with_reducible apply Wf.sIs | with_reducible apply Wf.sLs | with_reducible apply Wf.cpU | with_reducible apply Wf.fillI | with_reducible apply Wf.clU | with_reducible apply Wf.dnF | with_reducible apply Wf.gbW))) (by decide) hc_X2 (by decide) (by decide) (Nat.le_of_ble_eq_true rfl)) ?_
        refine ⟨_, _, (a_ireturn dX2_readGuests_58 rfl rfl), ?_⟩
        first
        | exact ⟨_, rfl, StQ.bad (hXc16.trans ((hz16.err 5 _).1.mono (fun i _ y => sT_sP p0 i y))) (hz16.err 5 _).2 (by rw [stGuests, bnd_r hrr1, bnd_r hr16, if_pos hfr])⟩
        | exact ⟨_, rfl, StQ.bad (hXc16.trans ((hz16.err 5 _).1.mono (fun i _ y => sT_sP p0 i y))) (hz16.err 5 _).2 (by rw [stGuests, bnd_r hrr1, bnd_r hr16, if_neg hfr, if_pos h40])⟩
      · have hfr : ¬ frD z a1 < nI a16 := h36
        refine lf (a_aload_n dX2_readGuests_39 rfl) ?_
        refine lf (a_getR hr1 dX2_readGuests_40 fs_X2_18 rfl (co_79 (by repeat (first | with_reducible exact hw | with_reducible exact hwc | with_reducible assumption | with_reducible apply Wf.sI | with_reducible apply Wf.sL | with_reducible apply Wf.cpI | with_reducible apply Wf.cpL | with_reducible apply Wf.cp2 | with_reducible apply Wf.sIs | with_reducible apply Wf.sLs | with_reducible apply Wf.cpU | with_reducible apply Wf.fillI | with_reducible apply Wf.clU | with_reducible apply Wf.dnF | with_reducible apply Wf.gbW)))) ?_
        refine lf (a_getI dX2_readGuests_43 fs_X2_205 rfl (fl_o (by repeat (first | with_reducible exact hw | with_reducible exact hwc | with_reducible assumption | with_reducible apply Wf.sI | with_reducible apply Wf.sL | with_reducible apply Wf.cpI | with_reducible apply Wf.cpL | with_reducible apply Wf.cp2 | with_reducible apply Wf.sIs | with_reducible apply Wf.sLs | with_reducible apply Wf.cpU | with_reducible apply Wf.fillI | with_reducible apply Wf.clU | with_reducible apply Wf.dnF | with_reducible apply Wf.gbW)) fl_trial)) ?_
        rw [hfvc.hP]
        refine lf (a_iload_n dX2_readGuests_46 rfl) ?_
        refine lf (a_iadd dX2_readGuests_47) ?_
        rw [nI_add]
        refine lf (a_bipush (40 : Int32) dX2_readGuests_48 (by decide)) ?_
        refine lf2 (a_icmp_le (tgt := 59) dX2_readGuests_50 (by decide)) (fun h50 => ?_) (fun h50 => ?_)
        · refine lf (a_iconst (0 : Int32) dX2_readGuests_59 (by decide)) ?_
          refine lf (a_istore_n dX2_readGuests_60 (by decide)) ?_
          have hP40 : dP z.2.1 + a16 ≤ 40 := by
            have := (nI_leI (b := 40) (by omega) (by decide)).mp h50
            omega
          refine lf (a_loc [(0, .ref 79), (1, .int (nI a1)), (2, .int (nI a16)), (3, .int (nI 0))] rfl) (l_X2_readGuests_61 hP40 (μ := W16) (fun V hI => ?_) a16 0 W16 (by omega) ⟨Out.rfl' hwc, hz16⟩)
          have hzp := hI.2
          have hXp : En (sP p0) μ V := hXc16.trans ((En.of hI.1).mono (fun i _ y => Or.inr (Or.inr (Or.inr y))))
          have hKp : EkV μ V := hKc16.trans ⟨hI.1.i (by simp only [s41]; omega) 3, hI.1.i (by simp only [s41]; omega) 4⟩
          have hwc := hzp.wf
          have hwc := hzp.wf
          have hr2 := hzp.r2
          have hr1 := hzp.r1
          have hA := hzp.at'
          have hpn := hzp.le
          have hen := tkE_le (B := B) hpn
          have htx := hzp.tk.1
          refine lf (a_aload_n dX2_readGuests_82 rfl) ?_
          refine lf (a_getR (cr_79_0 (by repeat (first | with_reducible exact hw | with_reducible exact hwc | with_reducible assumption | with_reducible apply Wf.sI | with_reducible apply Wf.sL | with_reducible apply Wf.cpI | with_reducible apply Wf.cpL | with_reducible apply Wf.cp2 | with_reducible apply Wf.sIs | with_reducible apply Wf.sLs | with_reducible apply Wf.cpU | with_reducible apply Wf.fillI | with_reducible apply Wf.clU | with_reducible apply Wf.dnF | with_reducible apply Wf.gbW))) dX2_readGuests_83 fs_X2_12 rfl (co_79 (by repeat (first | with_reducible exact hw | with_reducible exact hwc | with_reducible assumption | with_reducible apply Wf.sI | with_reducible apply Wf.sL | with_reducible apply Wf.cpI | with_reducible apply Wf.cpL | with_reducible apply Wf.cp2 | with_reducible apply Wf.sIs | with_reducible apply Wf.sLs | with_reducible apply Wf.cpU | with_reducible apply Wf.fillI | with_reducible apply Wf.clU | with_reducible apply Wf.dnF | with_reducible apply Wf.gbW)))) ?_
          obtain ⟨v_, W86, k86, rfl, hO86, hA86⟩ := (t_X9_next hzp.wf hzp.tk hen.2.1 hzp.at'.2.1)
          have hz86 := hzp.next hO86 hA86 hen.2.1
          have hXc86 := hXp.trans ((ExT hO86).1.mono (fun i _ y => sT_sP p0 i y))
          have hKc86 := hKp.trans (ExT hO86).2
          have hwc := hz86.wf
          have hr2 := hz86.r2
          have hr1 := hz86.r1
          have hA := hz86.at'
          have hpn := hz86.le
          have hen := tkE_le (B := B) hpn
          have htx := hz86.tk.1
          refine lf (a_inv (b2 := (0, 0)) k86 rfl dX2_readGuests_86 yk_X9_next im_X9_next se_X9_next ml_X2_47 rfl (co_80 (by repeat (first | with_reducible exact hw | with_reducible exact hwc | with_reducible assumption | with_reducible apply Wf.sI | with_reducible apply Wf.sL | with_reducible apply Wf.cpI | with_reducible apply Wf.cpL | with_reducible apply Wf.cp2 | with_reducible apply Wf.sIs | with_reducible apply Wf.sLs | with_reducible apply Wf.cpU | with_reducible apply Wf.fillI | with_reducible apply Wf.clU | with_reducible apply Wf.dnF | with_reducible apply Wf.gbW))) (by decide) hc_X9 (by decide) (by decide) (Nat.le_of_ble_eq_true rfl)) ?_
          refine lf (a_aload_n dX2_readGuests_89 rfl) ?_
          obtain ⟨v_, W90, k90, hR90⟩ := (t_X2_signHere hz86)
          obtain ⟨hX90, hR90⟩ := hR90
          generalize hr90 : sgS B n (tkE B n (tkE B n (tkE B n p))) = r90 at hR90
          cases r90 with
          | inl a90 =>
            obtain ⟨rfl, hE90⟩ := hR90
            have hwx := hX90.1.1
            have hXc90 := hXc86.trans (hX90.mono (fun i _ y => sT_sP p0 i y))
            refine lf (a_inv (b2 := (0, 0)) k90 rfl dX2_readGuests_90 yk_X2_signHere im_X2_signHere se_X2_signHere ml_X2_113 rfl (co_79 (by repeat (first | with_reducible exact hw | with_reducible exact hwc | with_reducible assumption | with_reducible apply Wf.sI | with_reducible apply Wf.sL | with_reducible apply Wf.cpI | with_reducible apply Wf.cpL | with_reducible apply Wf.cp2 | with_reducible apply Wf.sIs | with_reducible apply Wf.sLs | with_reducible apply Wf.cpU | with_reducible apply Wf.fillI | with_reducible apply Wf.clU | with_reducible apply Wf.dnF | with_reducible apply Wf.gbW))) (by decide) hc_X2 (by decide) (by decide) (Nat.le_of_ble_eq_true rfl)) ?_
            refine ⟨_, _, (a_ireturn dX2_readGuests_93 rfl rfl), ?_⟩
            first
            | exact ⟨_, rfl, StQ.bad hXc90 hE90 (by rw [stGuests, bnd_r hrr1, bnd_r hr16, if_neg hfr, if_neg (by omega), sgZ, bnd_l hr90])⟩
            | exact ⟨_, rfl, StQ.ok hXc90 hKc90 hz90 (by rw [stGuests, bnd_r hrr1, bnd_r hr16, if_neg hfr, if_neg (by omega), sgZ, bnd_r hr90])⟩
          | inr a90 =>
            obtain ⟨hK90, rfl, hz90⟩ := hR90
            have hXc90 := hXc86.trans (hX90.mono (fun i _ y => sT_sP p0 i y))
            have hKc90 := hKc86.trans hK90
            have hwc := hz90.wf
            have hr2 := hz90.r2
            have hr1 := hz90.r1
            have hA := hz90.at'
            have hpn := hz90.le
            have hen := tkE_le (B := B) hpn
            have htx := hz90.tk.1
            refine lf (a_inv (b2 := (0, 0)) k90 rfl dX2_readGuests_90 yk_X2_signHere im_X2_signHere se_X2_signHere ml_X2_113 rfl (co_79 (by repeat (first | with_reducible exact hw | with_reducible exact hwc | with_reducible assumption | with_reducible apply Wf.sI | with_reducible apply Wf.sL | with_reducible apply Wf.cpI | with_reducible apply Wf.cpL | with_reducible apply Wf.cp2 | with_reducible apply Wf.sIs | with_reducible apply Wf.sLs | with_reducible apply Wf.cpU | with_reducible apply Wf.fillI | with_reducible apply Wf.clU | with_reducible apply Wf.dnF | with_reducible apply Wf.gbW))) (by decide) hc_X2 (by decide) (by decide) (Nat.le_of_ble_eq_true rfl)) ?_
            refine ⟨_, _, (a_ireturn dX2_readGuests_93 rfl rfl), ?_⟩
            first
            | exact ⟨_, rfl, StQ.bad hXc90 hE90 (by rw [stGuests, bnd_r hrr1, bnd_r hr16, if_neg hfr, if_neg (by omega), sgZ, bnd_l hr90])⟩
            | exact ⟨_, rfl, StQ.ok hXc90 hKc90 hz90 (by rw [stGuests, bnd_r hrr1, bnd_r hr16, if_neg hfr, if_neg (by omega), sgZ, bnd_r hr90])⟩
        · have h40 : 40 < dP z.2.1 + a16 := by
            have : ¬ dP z.2.1 + a16 ≤ 40 := fun q => h50 ((nI_leI (b := 40) (by omega) (by decide)).mpr q)
            omega
          refine lf (a_aload_n dX2_readGuests_53 rfl) ?_
          refine lf (a_iconst (5 : Int32) dX2_readGuests_54 (by decide)) ?_
          refine lf (a_inv (b2 := (0, 0)) (t_X2_fail hwc (c := 5) hA.1) rfl dX2_readGuests_55 yk_X2_fail im_X2_fail se_X2_fail ml_X2_102 rfl (co_79 (by repeat (first | with_reducible exact hw | with_reducible exact hwc | with_reducible assumption | with_reducible apply Wf.sI | with_reducible apply Wf.sL | with_reducible apply Wf.cpI | with_reducible apply Wf.cpL | with_reducible apply Wf.cp2 | with_reducible apply Wf.sIs | with_reducible apply Wf.sLs | with_reducible apply Wf.cpU | with_reducible apply Wf.fillI | with_reducible apply Wf.clU | with_reducible apply Wf.dnF | with_reducible apply Wf.gbW))) (by decide) hc_X2 (by decide) (by decide) (Nat.le_of_ble_eq_true rfl)) ?_
          refine ⟨_, _, (a_ireturn dX2_readGuests_58 rfl rfl), ?_⟩
          first
          | exact ⟨_, rfl, StQ.bad (hXc16.trans ((hz16.err 5 _).1.mono (fun i _ y => sT_sP p0 i y))) (hz16.err 5 _).2 (by rw [stGuests, bnd_r hrr1, bnd_r hr16, if_pos hfr])⟩
          | exact ⟨_, rfl, StQ.bad (hXc16.trans ((hz16.err 5 _).1.mono (fun i _ y => sT_sP p0 i y))) (hz16.err 5 _).2 (by rw [stGuests, bnd_r hrr1, bnd_r hr16, if_neg hfr, if_pos h40])⟩
end PARSK
