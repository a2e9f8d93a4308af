section PARSL
variable {μ W : Wd} {B : Nat → Nat} {n p0 p : Nat} {z : PZ}
/-- a guest's needs; wish -/
def gdN (B : Nat → Nat) (n p : Nat) : (Nat × Nat) ⊕ (Int32 × Nat) := if wdI B n p 15 then bnd (ndS B n (tkE B n p)) fun a => .inr (nI a, tkE B n (tkE B n p)) else .inr (0, p)
def gdW (B : Nat → Nat) (n p : Nat) (z : PZ) (c : Nat) : (Nat × Nat) ⊕ (Int32 × Nat) := if wdI B n p 16 then bnd (nwS B n (tkE B n p) z (nI c)) fun a => .inr (nI a, tkE B n (tkE B n p)) else .inr (-1, p)
def gdB (B : Nat → Nat) (n p : Nat) (z : PZ) (c : Nat) (nd : Int32) : (Nat × Nat) ⊕ (Nat × PZ) := bnd (gdW B n p z c) fun x => sgZ B n x.2 (z.1, seatD z.2.1 (nI c) nd x.1, z.2.2.1, z.2.2.2)
def stGuest (B : Nat → Nat) (n p : Nat) (z : PZ) : (Nat × Nat) ⊕ (Nat × PZ) := if 40 ≤ dP z.2.1 then .inl (4, tkS B n p) else bnd (ncS B n (tkE B n p) z) fun c =>
  if frD z c < 1 then .inl (5, tkS B n (tkE B n p)) else bnd (gdN B n (tkE B n (tkE B n p))) fun x => gdB B n x.2 z c x.1
abbrev R_X2_readGuest : Room := { frames := 10, cells := 0, slots := 0, locals := 248 }
abbrev RX_X2_readGuest : Room := { frames := 10, cells := 1, slots := 6, locals := 248 }

theorem X2_readGuest_122 (hz : PsV B n p0 p z W) (hX : En (sP p0) μ W) (hK : EkV μ W) (hP : dP z.2.1 < 40) {c : Nat} {nd ws : Int32} {r : (Nat × Nat) ⊕ (Nat × PZ)} (hr : r = sgZ B n p (z.1, seatD z.2.1 (nI c) nd ws, z.2.2.1, z.2.2.2)) : WP Y_X2_readGuest R_X2_readGuest (0, 0) W 122 [(0, .ref 79), (1, .int (nI c)), (2, .int nd), (3, .int ws)] [] (fun o V => ∃ v, o = .inl v ∧ StQ B n p0 μ r v V) := by
  have hp := hz.pv.pl
  have hpp := pl_le hp
  have hfvc := hz.fv
  have hfp := hfvc.rp
  have hO2 := seat_ex (V := sI (sI (sI (sI W (41 + 1) (dP z.2.1) (nI c)) (41 + 2) (dP z.2.1) nd) (41 + 3) (dP z.2.1) ws) 41 3 (nI (dP z.2.1 + 1))) (Out.rfl' (S := s41) hz.wf) (fun i a b => ⟨a, by omega⟩) (nI c) nd ws (nI (dP z.2.1 + 1)) rfl
  have hzp := hz.flight hO2 (hfvc.seat hP (nI c) nd ws)
  have hXp := hX.trans ((En.of hO2).mono (fun i _ y => Or.inr (Or.inr (Or.inr y))) : En (sP p0) W _)
  have hKp : EkV μ (sI (sI (sI (sI W (41 + 1) (dP z.2.1) (nI c)) (41 + 2) (dP z.2.1) nd) (41 + 3) (dP z.2.1) ws) 41 3 (nI (dP z.2.1 + 1))) := hK.trans ⟨hO2.i (by simp only [s41]; omega) 3, hO2.i (by simp only [s41]; omega) 4⟩
  have hwc := hz.wf
  have hr2 := hz.r2
  have hr1 := hz.r1
  have hA := hz.at'
  have hpn := hz.le
  have hen := tkE_le (B := B) hpn
  have htx := hz.tk.1
  refine lf (a_aload_n dX2_readGuest_122 rfl) ?_
  refine lf (a_getR hr1 dX2_readGuest_123 fs_X2_18 rfl (co_79 (by repeat (first | with_reducible exact hw | with_reducible exact hwc | with_reducible assumption | with_reducible apply Wf.sI | with_reducible apply Wf.sL | with_reducible apply Wf.cpI | with_reducible apply Wf.cpL | with_reducible apply Wf.cp2 | with_reducible apply Wf.sIs | with_reducible apply Wf.sLs | with_reducible apply Wf.cpU | with_reducible apply Wf.fillI | with_reducible apply Wf.clU | with_reducible apply Wf.dnF | with_reducible apply Wf.gbW)))) ?_
  refine lf (a_iload_n dX2_readGuest_126 rfl) ?_
  refine lf (a_iload_n dX2_readGuest_127 rfl) ?_
  refine lf (a_iload_n dX2_readGuest_128 rfl) ?_
  refine lf (a_inv (b2 := (0, 0)) (t_X1_seat hwc fl_trial hfvc.hP hP (nI c) nd ws) rfl dX2_readGuest_129 yk_X1_seat im_X1_seat se_X1_seat ml_X2_208 rfl (fl_o (by repeat (first | with_reducible exact hw | with_reducible exact hwc | with_reducible assumption | with_reducible apply Wf.sI | with_reducible apply Wf.sL | with_reducible apply Wf.cpI | with_reducible apply Wf.cpL | with_reducible apply Wf.cp2 | with_reducible apply Wf.sIs | with_reducible apply Wf.sLs | with_reducible apply Wf.cpU | with_reducible apply Wf.fillI | with_reducible apply Wf.clU | with_reducible apply Wf.dnF | with_reducible apply Wf.gbW)) fl_trial) (by decide) hc_X1 (by decide) (by decide) (Nat.le_of_ble_eq_true rfl)) ?_
  refine lf (a_aload_n dX2_readGuest_132 rfl) ?_
  obtain ⟨v_, W133, k133, hR133⟩ := (t_X2_signHere hzp)
  obtain ⟨hX133, hR133⟩ := hR133
  generalize hr133 : sgS B n (p) = r133 at hR133
  cases r133 with
  | inl a133 =>
    obtain ⟨rfl, hE133⟩ := hR133
    have hwx := hX133.1.1
    have hXc133 := hXp.trans (hX133.mono (fun i _ y => sT_sP p0 i y))
    refine lf (a_inv (b2 := (0, 0)) k133 rfl dX2_readGuest_133 yk_X2_signHere im_X2_signHere se_X2_signHere ml_X2_113 rfl (co_79 (by repeat (first | with_reducible exact hw | with_reducible exact hwc | with_reducible assumption | with_reducible apply Wf.sI | with_reducible apply Wf.sL | with_reducible apply Wf.cpI | with_reducible apply Wf.cpL | with_reducible apply Wf.cp2 | with_reducible apply Wf.sIs | with_reducible apply Wf.sLs | with_reducible apply Wf.cpU | with_reducible apply Wf.fillI | with_reducible apply Wf.clU | with_reducible apply Wf.dnF | with_reducible apply Wf.gbW))) (by decide) hc_X2 (by decide) (by decide) (Nat.le_of_ble_eq_true rfl)) ?_
    refine ⟨_, _, (a_ireturn dX2_readGuest_136 rfl rfl), ?_⟩
    first
    | exact ⟨_, rfl, StQ.bad hXc133 hE133 (by rw [hr, sgZ, bnd_l hr133])⟩
    | exact ⟨_, rfl, StQ.ok hXc133 hKc133 hz133 (by rw [hr, sgZ, bnd_r hr133])⟩
  | inr a133 =>
    obtain ⟨hK133, rfl, hz133⟩ := hR133
    have hXc133 := hXp.trans (hX133.mono (fun i _ y => sT_sP p0 i y))
    have hKc133 := hKp.trans hK133
    have hwc := hz133.wf
    have hr2 := hz133.r2
    have hr1 := hz133.r1
    have hA := hz133.at'
    have hpn := hz133.le
    have hen := tkE_le (B := B) hpn
    have htx := hz133.tk.1
    refine lf (a_inv (b2 := (0, 0)) k133 rfl dX2_readGuest_133 yk_X2_signHere im_X2_signHere se_X2_signHere ml_X2_113 rfl (co_79 (by repeat (first | with_reducible exact hw | with_reducible exact hwc | with_reducible assumption | with_reducible apply Wf.sI | with_reducible apply Wf.sL | with_reducible apply Wf.cpI | with_reducible apply Wf.cpL | with_reducible apply Wf.cp2 | with_reducible apply Wf.sIs | with_reducible apply Wf.sLs | with_reducible apply Wf.cpU | with_reducible apply Wf.fillI | with_reducible apply Wf.clU | with_reducible apply Wf.dnF | with_reducible apply Wf.gbW))) (by decide) hc_X2 (by decide) (by decide) (Nat.le_of_ble_eq_true rfl)) ?_
    refine ⟨_, _, (a_ireturn dX2_readGuest_136 rfl rfl), ?_⟩
    first
    | exact ⟨_, rfl, StQ.bad hXc133 hE133 (by rw [hr, sgZ, bnd_l hr133])⟩
    | exact ⟨_, rfl, StQ.ok hXc133 hKc133 hz133 (by rw [hr, sgZ, bnd_r hr133])⟩
theorem X2_readGuest_90 (hz : PsV B n p0 p z W) (hX : En (sP p0) μ W) (hK : EkV μ W) (hP : dP z.2.1 < 40) {c : Nat} (hc : c < 4) {nd : Int32} {r : (Nat × Nat) ⊕ (Nat × PZ)} (hr : r = gdB B n p z c nd) : WP Y_X2_readGuest R_X2_readGuest (0, 0) W 90 [(0, .ref 79), (1, .int (nI c)), (2, .int nd), (3, .int (-1))] [] (fun o V => ∃ v, o = .inl v ∧ StQ B n p0 μ r v V) := by
  have hp := hz.pv.pl
  have hpp := pl_le hp
  have hfvc := hz.fv
  have hfp := hfvc.rp

  have hwc := hz.wf
  have hr2 := hz.r2
  have hr1 := hz.r1
  have hA := hz.at'
  have hpn := hz.le
  have hen := tkE_le (B := B) hpn
  have htx := hz.tk.1
  refine lf (a_aload_n dX2_readGuest_90 rfl) ?_
  refine lf (a_getR (cr_79_0 (by repeat (first | with_reducible exact hw | with_reducible exact hwc | with_reducible assumption | with_reducible apply Wf.sI | with_reducible apply Wf.sL | with_reducible apply Wf.cpI | with_reducible apply Wf.cpL | with_reducible apply Wf.cp2 | with_reducible apply Wf.sIs | with_reducible apply Wf.sLs | with_reducible apply Wf.cpU | with_reducible apply Wf.fillI | with_reducible apply Wf.clU | with_reducible apply Wf.dnF | with_reducible apply Wf.gbW))) dX2_readGuest_91 fs_X2_12 rfl (co_79 (by repeat (first | with_reducible exact hw | with_reducible exact hwc | with_reducible assumption | with_reducible apply Wf.sI | with_reducible apply Wf.sL | with_reducible apply Wf.cpI | with_reducible apply Wf.cpL | with_reducible apply Wf.cp2 | with_reducible apply Wf.sIs | with_reducible apply Wf.sLs | with_reducible apply Wf.cpU | with_reducible apply Wf.fillI | with_reducible apply Wf.clU | with_reducible apply Wf.dnF | with_reducible apply Wf.gbW)))) ?_
  refine lf (a_ldcS (n := 16) (tx := "wish") dX2_readGuest_94 rfl) ?_
  refine lf (a_inv (b2 := (0, 0)) (t_X9_is hz.wf hz.tk hz.le hz.at' (StrV.const (μ := W) k_wish)) rfl dX2_readGuest_96 yk_X9_is im_X9_is se_X9_is ml_X2_65 rfl (co_80 (by repeat (first | with_reducible exact hw | with_reducible exact hwc | with_reducible assumption | with_reducible apply Wf.sI | with_reducible apply Wf.sL | with_reducible apply Wf.cpI | with_reducible apply Wf.cpL | with_reducible apply Wf.cp2 | with_reducible apply Wf.sIs | with_reducible apply Wf.sLs | with_reducible apply Wf.cpU | with_reducible apply Wf.fillI | with_reducible apply Wf.clU | with_reducible apply Wf.dnF | with_reducible apply Wf.gbW))) (by decide) hc_X9 (by decide) (by decide) (Nat.le_of_ble_eq_true rfl)) ?_
  refine lf2 (a_if_eq (tgt := 122) dX2_readGuest_99 (by decide)) (fun h99 => ?_) (fun h99 => ?_)
  · have hwd := wd_t h99
    first
    | exact lf (a_loc _ rfl) (X2_readGuest_122 hz119 hXc119 hKc119 hP (by rw [hr, gdB, bnd_r (a := (nI a104, tkE B n (tkE B n p))) (by rw [gdW, if_pos hwd, bnd_r hr104])]))
    | exact lf (a_loc _ rfl) (X2_readGuest_122 hz hX hK hP (by rw [hr, gdB, bnd_r (a := ((-1 : Int32), p)) (by rw [gdW, if_neg hwd])]))
  · have hwd := wd_f h99
    refine lf (a_aload_n dX2_readGuest_102 rfl) ?_
    refine lf (a_iload_n dX2_readGuest_103 rfl) ?_
    obtain ⟨v_, W104, k104, hR104⟩ := (t_X2_nextWish hz (nI c))
    obtain ⟨hX104, hR104⟩ := hR104
    generalize hr104 : nwS B n (tkE B n p) z (nI c) = r104 at hR104
    cases r104 with
    | inl a104 =>
      obtain ⟨rfl, hE104⟩ := hR104
      have hwx := hX104.1.1
      have hXc104 := hX.trans (hX104.mono (fun i _ y => sT_sP p0 i y))
      refine lf (a_inv (b2 := (0, 0)) k104 rfl dX2_readGuest_104 yk_X2_nextWish im_X2_nextWish se_X2_nextWish ml_X2_216 rfl (co_79 (by repeat (first | with_reducible exact hw | with_reducible exact hwc | with_reducible assumption | with_reducible apply Wf.sI | with_reducible apply Wf.sL | with_reducible apply Wf.cpI | with_reducible apply Wf.cpL | with_reducible apply Wf.cp2 | with_reducible apply Wf.sIs | with_reducible apply Wf.sLs | with_reducible apply Wf.cpU | with_reducible apply Wf.fillI | with_reducible apply Wf.clU | with_reducible apply Wf.dnF | with_reducible apply Wf.gbW))) (by decide) hc_X2 (by decide) (by decide) (Nat.le_of_ble_eq_true rfl)) ?_
      refine lf (a_istore_n dX2_readGuest_107 (by decide)) ?_
      refine lf (a_iload_n dX2_readGuest_108 rfl) ?_
      refine lf (a_iconst (-1 : Int32) dX2_readGuest_109 (by decide)) ?_
      refine lfn (a_icmp_ne (tgt := 115) dX2_readGuest_110 (by decide)) (fun h110 => absurd h110 (by decide)) (fun h110 => ?_)
      refine lf (a_iconst (0 : Int32) dX2_readGuest_113 (by decide)) ?_
      refine ⟨_, _, (a_ireturn dX2_readGuest_114 rfl rfl), ?_⟩
      exact ⟨_, rfl, StQ.bad hXc104 hE104 (by rw [hr, gdB, gdW, if_pos hwd, bnd_l (bnd_l hr104)])⟩
    | inr a104 =>
      obtain ⟨hK104, rfl, hlt104, hz104⟩ := hR104
      have hXc104 := hX.trans (hX104.mono (fun i _ y => sT_sP p0 i y))
      have hKc104 := hK.trans hK104
      have hwc := hz104.wf
      have hr2 := hz104.r2
      have hr1 := hz104.r1
      have hA := hz104.at'
      have hpn := hz104.le
      have hen := tkE_le (B := B) hpn
      have htx := hz104.tk.1
      refine lf (a_inv (b2 := (0, 0)) k104 rfl dX2_readGuest_104 yk_X2_nextWish im_X2_nextWish se_X2_nextWish ml_X2_216 rfl (co_79 (by repeat (first | with_reducible exact hw | with_reducible exact hwc | with_reducible assumption | with_reducible apply Wf.sI | with_reducible apply Wf.sL | with_reducible apply Wf.cpI | with_reducible apply Wf.cpL | with_reducible apply Wf.cp2 | with_reducible apply Wf.sIs | with_reducible apply Wf.sLs | with_reducible apply Wf.cpU | with_reducible apply Wf.fillI | with_reducible apply Wf.clU | with_reducible apply Wf.dnF | with_reducible apply Wf.gbW))) (by decide) hc_X2 (by decide) (by decide) (Nat.le_of_ble_eq_true rfl)) ?_
      refine lf (a_istore_n dX2_readGuest_107 (by decide)) ?_
      refine lf (a_iload_n dX2_readGuest_108 rfl) ?_
      refine lf (a_iconst (-1 : Int32) dX2_readGuest_109 (by decide)) ?_
      refine lfn (a_icmp_ne (tgt := 115) dX2_readGuest_110 (by decide)) (fun h110 => ?_) (fun h110 => absurd h110 (nI_ne1 (by have := hz.pv.M4; omega)))
      refine lf (a_aload_n dX2_readGuest_115 rfl) ?_
      refine lf (a_getR (cr_79_0 (by repeat (first | with_reducible exact hw | with_reducible exact hwc | with_reducible assumption | with_reducible apply Wf.sI | with_reducible apply Wf.sL | with_reducible apply Wf.cpI | with_reducible apply Wf.cpL | with_reducible apply Wf.cp2 | with_reducible apply Wf.sIs | with_reducible apply Wf.sLs | with_reducible apply Wf.cpU | with_reducible apply Wf.fillI | with_reducible apply Wf.clU | with_reducible apply Wf.dnF | with_reducible apply Wf.gbW))) dX2_readGuest_116 fs_X2_12 rfl (co_79 (by repeat (first | with_reducible exact hw | with_reducible exact hwc | with_reducible assumption | with_reducible apply Wf.sI | with_reducible apply Wf.sL | with_reducible apply Wf.cpI | with_reducible apply Wf.cpL | with_reducible apply Wf.cp2 | with_reducible apply Wf.sIs | with_reducible apply Wf.sLs | with_reducible apply Wf.cpU | with_reducible apply Wf.fillI | with_reducible apply Wf.clU | with_reducible apply Wf.dnF | with_reducible apply Wf.gbW)))) ?_
      obtain ⟨v_, W119, k119, rfl, hO119, hA119⟩ := (t_X9_next hz104.wf hz104.tk hen.2.1 hz104.at'.2.1)
      have hz119 := hz104.next hO119 hA119 hen.2.1
      have hXc119 := hXc104.trans ((ExT hO119).1.mono (fun i _ y => sT_sP p0 i y))
      have hKc119 := hKc104.trans (ExT hO119).2
      have hwc := hz119.wf
      have hr2 := hz119.r2
      have hr1 := hz119.r1
      have hA := hz119.at'
      have hpn := hz119.le
      have hen := tkE_le (B := B) hpn
      have htx := hz119.tk.1
      refine lf (a_inv (b2 := (0, 0)) k119 rfl dX2_readGuest_119 yk_X9_next im_X9_next se_X9_next ml_X2_47 rfl (co_80 (by repeat (first | with_reducible exact hw | with_reducible exact hwc | with_reducible assumption | with_reducible apply Wf.sI | with_reducible apply Wf.sL | with_reducible apply Wf.cpI | with_reducible apply Wf.cpL | with_reducible apply Wf.cp2 | with_reducible apply Wf.sIs | with_reducible apply Wf.sLs | with_reducible apply Wf.cpU | with_reducible apply Wf.fillI | with_reducible apply Wf.clU | with_reducible apply Wf.dnF | with_reducible apply Wf.gbW))) (by decide) hc_X9 (by decide) (by decide) (Nat.le_of_ble_eq_true rfl)) ?_
      first
      | exact lf (a_loc _ rfl) (X2_readGuest_122 hz119 hXc119 hKc119 hP (by rw [hr, gdB, bnd_r (a := (nI a104, tkE B n (tkE B n p))) (by rw [gdW, if_pos hwd, bnd_r hr104])]))
      | exact lf (a_loc _ rfl) (X2_readGuest_122 hz hX hK hP (by rw [hr, gdB, bnd_r (a := ((-1 : Int32), p)) (by rw [gdW, if_neg hwd])]))
theorem t_X2_readGuest (hz : PsV B n p0 p z μ) : CV Y_X2_readGuest R_X2_readGuest [.ref 79] μ (StQ B n p0 μ (stGuest B n p z)) := by
  refine CV.ent yk_X2_readGuest (Nat.le_of_ble_eq_true rfl) ?_
  have hw := hz.wf
  have hp := hz.pv.pl
  have hpp := pl_le hp
  have hX0 : En (sP p0) μ μ := En.rfl' hw
  have hK0 : EkV μ μ := EkV.rfl'
  have hP40 := hz.fv.P4
  have hfp := hz.fv.rp
  have hwc := hz.wf
  have hr2 := hz.r2
  have hr1 := hz.r1
  have hA := hz.at'
  have hpn := hz.le
  have hen := tkE_le (B := B) hpn
  have htx := hz.tk.1
  refine lf (a_aload_n dX2_readGuest_0 rfl) ?_
  refine lf (a_getR hr1 dX2_readGuest_1 fs_X2_18 rfl (co_79 (by repeat (first | with_reducible exact hw | with_reducible exact hwc | with_reducible assumption | with_reducible apply Wf.sI | with_reducible apply Wf.sL | with_reducible apply Wf.cpI | with_reducible apply Wf.cpL | with_reducible apply Wf.cp2 | with_reducible apply Wf.sIs | with_reducible apply Wf.sLs | with_reducible apply Wf.cpU | with_reducible apply Wf.fillI | with_reducible apply Wf.clU | with_reducible apply Wf.dnF | with_reducible apply Wf.gbW)))) ?_
  refine lf (a_getI dX2_readGuest_4 fs_X2_205 rfl (fl_o (by repeat (first | with_reducible exact hw | with_reducible exact hwc | with_reducible assumption | with_reducible apply Wf.sI | with_reducible apply Wf.sL | with_reducible apply Wf.cpI | with_reducible apply Wf.cpL | with_reducible apply Wf.cp2 | with_reducible apply Wf.sIs | with_reducible apply Wf.sLs | with_reducible apply Wf.cpU | with_reducible apply Wf.fillI | with_reducible apply Wf.clU | with_reducible apply Wf.dnF | with_reducible apply Wf.gbW)) fl_trial)) ?_
  rw [hz.fv.hP]
  refine lf (a_bipush (40 : Int32) dX2_readGuest_7 (by decide)) ?_
  refine lf2 (a_icmp_lt (tgt := 18) dX2_readGuest_9 (by decide)) (fun h9 => ?_) (fun h9 => ?_)
  · have hlt : dP z.2.1 < 40 := (nI_ltI (b := 40) (by omega) (by decide)).mp h9
    refine lf (a_aload_n dX2_readGuest_18 rfl) ?_
    obtain ⟨v_, W19, k19, hR19⟩ := (t_X2_nextCabin hz)
    obtain ⟨hX19, hR19⟩ := hR19
    generalize hr19 : ncS B n (tkE B n p) z = r19 at hR19
    cases r19 with
    | inl a19 =>
      obtain ⟨rfl, hE19⟩ := hR19
      have hwx := hX19.1.1
      have hXc19 := hX0.trans (hX19.mono (fun i _ y => sT_sP p0 i y))
      refine lf (a_inv (b2 := (0, 0)) k19 rfl dX2_readGuest_19 yk_X2_nextCabin im_X2_nextCabin se_X2_nextCabin ml_X2_188 rfl (co_79 (by repeat (first | with_reducible exact hw | with_reducible exact hwc | with_reducible assumption | with_reducible apply Wf.sI | with_reducible apply Wf.sL | with_reducible apply Wf.cpI | with_reducible apply Wf.cpL | with_reducible apply Wf.cp2 | with_reducible apply Wf.sIs | with_reducible apply Wf.sLs | with_reducible apply Wf.cpU | with_reducible apply Wf.fillI | with_reducible apply Wf.clU | with_reducible apply Wf.dnF | with_reducible apply Wf.gbW))) (by decide) hc_X2 (by decide) (by decide) (Nat.le_of_ble_eq_true rfl)) ?_
      refine lf (a_istore_n dX2_readGuest_22 (by decide)) ?_
      refine lf (a_iload_n dX2_readGuest_23 rfl) ?_
      refine lf (a_iconst (-1 : Int32) dX2_readGuest_24 (by decide)) ?_
      refine lfn (a_icmp_ne (tgt := 30) dX2_readGuest_25 (by decide)) (fun h25 => absurd h25 (by decide)) (fun h25 => ?_)
      refine lf (a_iconst (0 : Int32) dX2_readGuest_28 (by decide)) ?_
      refine ⟨_, _, (a_ireturn dX2_readGuest_29 rfl rfl), ?_⟩
      exact ⟨_, rfl, StQ.bad hXc19 hE19 (by rw [stGuest, if_neg (by omega), bnd_l hr19])⟩
    | inr a19 =>
      obtain ⟨hK19, rfl, hz19⟩ := hR19
      have hXc19 := hX0.trans (hX19.mono (fun i _ y => sT_sP p0 i y))
      have hKc19 := hK0.trans hK19
      have hwc := hz19.wf
      have hr2 := hz19.r2
      have hr1 := hz19.r1
      have hA := hz19.at'
      have hpn := hz19.le
      have hen := tkE_le (B := B) hpn
      have htx := hz19.tk.1
      have hfvc := hz19.fv
      have hfp := hfvc.rp
      have hcl := ncS_lt hr19
      have hC4 := hz.pv.C4
      refine lf (a_inv (b2 := (0, 0)) k19 rfl dX2_readGuest_19 yk_X2_nextCabin im_X2_nextCabin se_X2_nextCabin ml_X2_188 rfl (co_79 (by repeat (first | with_reducible exact hw | with_reducible exact hwc | with_reducible assumption | with_reducible apply Wf.sI | with_reducible apply Wf.sL | with_reducible apply Wf.cpI | with_reducible apply Wf.cpL | with_reducible apply Wf.cp2 | with_reducible apply Wf.sIs | with_reducible apply Wf.sLs | with_reducible apply Wf.cpU | with_reducible apply Wf.fillI | with_reducible apply Wf.clU | with_reducible apply Wf.dnF | with_reducible apply Wf.gbW))) (by decide) hc_X2 (by decide) (by decide) (Nat.le_of_ble_eq_true rfl)) ?_
      refine lf (a_istore_n dX2_readGuest_22 (by decide)) ?_
      refine lf (a_iload_n dX2_readGuest_23 rfl) ?_
      refine lf (a_iconst (-1 : Int32) dX2_readGuest_24 (by decide)) ?_
      refine lfn (a_icmp_ne (tgt := 30) dX2_readGuest_25 (by decide)) (fun h25 => ?_) (fun h25 => absurd h25 (nI_ne1 (by have := ncS_lt hr19; have := hz.pv.C4; omega)))
      refine lf (a_aload_n dX2_readGuest_30 rfl) ?_
      refine lf (a_getR hr1 dX2_readGuest_31 fs_X2_18 rfl (co_79 (by repeat (first | with_reducible exact hw | with_reducible exact hwc | with_reducible assumption | with_reducible apply Wf.sI | with_reducible apply Wf.sL | with_reducible apply Wf.cpI | with_reducible apply Wf.cpL | with_reducible apply Wf.cp2 | with_reducible apply Wf.sIs | with_reducible apply Wf.sLs | with_reducible apply Wf.cpU | with_reducible apply Wf.fillI | with_reducible apply Wf.clU | with_reducible apply Wf.dnF | with_reducible apply Wf.gbW)))) ?_
      refine lf (a_iload_n dX2_readGuest_34 rfl) ?_
      refine lf (a_inv (b2 := (0, 0)) (v_X1_freeSeats hwc hfvc hz19.pv (show a19 < pC z.1 from hcl)) rfl dX2_readGuest_35 yk_X1_freeSeats im_X1_freeSeats se_X1_freeSeats ml_X2_201 rfl (fl_o (by repeat (first | with_reducible exact hw | with_reducible exact hwc | with_reducible assumption | with_reducible apply Wf.sI | with_reducible apply Wf.sL | with_reducible apply Wf.cpI | with_reducible apply Wf.cpL | with_reducible apply Wf.cp2 | with_reducible apply Wf.sIs | with_reducible apply Wf.sLs | with_reducible apply Wf.cpU | with_reducible apply Wf.fillI | with_reducible apply Wf.clU | with_reducible apply Wf.dnF | with_reducible apply Wf.gbW)) fl_trial) (by decide) hc_X1 (by decide) (by decide) (Nat.le_of_ble_eq_true rfl)) ?_
      refine lf (a_iconst (1 : Int32) dX2_readGuest_38 (by decide)) ?_
      refine lf2 (a_icmp_ge (tgt := 48) dX2_readGuest_39 (by decide)) (fun h39 => ?_) (fun h39 => ?_)
      · have hfr : ¬ frD z a19 < 1 := fun q => (Int32.not_le.mpr q) h39
        refine lf (a_iconst (0 : Int32) dX2_readGuest_48 (by decide)) ?_
        refine lf (a_istore_n dX2_readGuest_49 (by decide)) ?_
        refine lf (a_iconst (-1 : Int32) dX2_readGuest_50 (by decide)) ?_
        refine lf (a_istore_n dX2_readGuest_51 (by decide)) ?_
        refine lf (a_aload_n dX2_readGuest_52 rfl) ?_
        refine lf (a_getR (cr_79_0 (by repeat (first | with_reducible exact hw | with_reducible exact hwc | with_reducible assumption | with_reducible apply Wf.sI | with_reducible apply Wf.sL | with_reducible apply Wf.cpI | with_reducible apply Wf.cpL | with_reducible apply Wf.cp2 | with_reducible apply Wf.sIs | with_reducible apply Wf.sLs | with_reducible apply Wf.cpU | with_reducible apply Wf.fillI | with_reducible apply Wf.clU | with_reducible apply Wf.dnF | with_reducible apply Wf.gbW))) dX2_readGuest_53 fs_X2_12 rfl (co_79 (by repeat (first | with_reducible exact hw | with_reducible exact hwc | with_reducible assumption | with_reducible apply Wf.sI | with_reducible apply Wf.sL | with_reducible apply Wf.cpI | with_reducible apply Wf.cpL | with_reducible apply Wf.cp2 | with_reducible apply Wf.sIs | with_reducible apply Wf.sLs | with_reducible apply Wf.cpU | with_reducible apply Wf.fillI | with_reducible apply Wf.clU | with_reducible apply Wf.dnF | with_reducible apply Wf.gbW)))) ?_
        obtain ⟨v_, W56, k56, rfl, hO56, hA56⟩ := (t_X9_next hz19.wf hz19.tk hen.2.1 hz19.at'.2.1)
        have hz56 := hz19.next hO56 hA56 hen.2.1
        have hXc56 := hXc19.trans ((ExT hO56).1.mono (fun i _ y => sT_sP p0 i y))
        have hKc56 := hKc19.trans (ExT hO56).2
        have hwc := hz56.wf
        have hr2 := hz56.r2
        have hr1 := hz56.r1
        have hA := hz56.at'
        have hpn := hz56.le
        have hen := tkE_le (B := B) hpn
        have htx := hz56.tk.1
        refine lf (a_inv (b2 := (0, 0)) k56 rfl dX2_readGuest_56 yk_X9_next im_X9_next se_X9_next ml_X2_47 rfl (co_80 (by repeat (first | with_reducible exact hw | with_reducible exact hwc | with_reducible assumption | with_reducible apply Wf.sI | with_reducible apply Wf.sL | with_reducible apply Wf.cpI | with_reducible apply Wf.cpL | with_reducible apply Wf.cp2 | with_reducible apply Wf.sIs | with_reducible apply Wf.sLs | with_reducible apply Wf.cpU | with_reducible apply Wf.fillI | with_reducible apply Wf.clU | with_reducible apply Wf.dnF | with_reducible apply Wf.gbW))) (by decide) hc_X9 (by decide) (by decide) (Nat.le_of_ble_eq_true rfl)) ?_
        refine lf (a_aload_n dX2_readGuest_59 rfl) ?_
        refine lf (a_getR (cr_79_0 (by repeat (first | with_reducible exact hw | with_reducible exact hwc | with_reducible assumption | with_reducible apply Wf.sI | with_reducible apply Wf.sL | with_reducible apply Wf.cpI | with_reducible apply Wf.cpL | with_reducible apply Wf.cp2 | with_reducible apply Wf.sIs | with_reducible apply Wf.sLs | with_reducible apply Wf.cpU | with_reducible apply Wf.fillI | with_reducible apply Wf.clU | with_reducible apply Wf.dnF | with_reducible apply Wf.gbW))) dX2_readGuest_60 fs_X2_12 rfl (co_79 (by repeat (first | with_reducible exact hw | with_reducible exact hwc | with_reducible assumption | with_reducible apply Wf.sI | with_reducible apply Wf.sL | with_reducible apply Wf.cpI | with_reducible apply Wf.cpL | with_reducible apply Wf.cp2 | with_reducible apply Wf.sIs | with_reducible apply Wf.sLs | with_reducible apply Wf.cpU | with_reducible apply Wf.fillI | with_reducible apply Wf.clU | with_reducible apply Wf.dnF | with_reducible apply Wf.gbW)))) ?_
        refine lf (a_ldcS (n := 15) (tx := "needs") dX2_readGuest_63 rfl) ?_
        refine lf (a_inv (b2 := (0, 0)) (t_X9_is hz56.wf hz56.tk hz56.le hz56.at' (StrV.const (μ := W56) k_needs)) rfl dX2_readGuest_65 yk_X9_is im_X9_is se_X9_is ml_X2_65 rfl (co_80 (by repeat (first | with_reducible exact hw | with_reducible exact hwc | with_reducible assumption | with_reducible apply Wf.sI | with_reducible apply Wf.sL | with_reducible apply Wf.cpI | with_reducible apply Wf.cpL | with_reducible apply Wf.cp2 | with_reducible apply Wf.sIs | with_reducible apply Wf.sLs | with_reducible apply Wf.cpU | with_reducible apply Wf.fillI | with_reducible apply Wf.clU | with_reducible apply Wf.dnF | with_reducible apply Wf.gbW))) (by decide) hc_X9 (by decide) (by decide) (Nat.le_of_ble_eq_true rfl)) ?_
        refine lf2 (a_if_eq (tgt := 90) dX2_readGuest_68 (by decide)) (fun h68 => ?_) (fun h68 => ?_)
        · have hwd := wd_t h68
          first
          | exact lf (a_loc _ rfl) (X2_readGuest_90 hz87 hXc87 hKc87 hlt (show a19 < 4 by omega) (by rw [stGuest, if_neg (by omega), bnd_r hr19, if_neg hfr, bnd_r (a := (nI a72, tkE B n (tkE B n (tkE B n (tkE B n p))))) (by rw [gdN, if_pos hwd, bnd_r hr72])]))
          | exact lf (a_loc _ rfl) (X2_readGuest_90 hz56 hXc56 hKc56 hlt (show a19 < 4 by omega) (by rw [stGuest, if_neg (by omega), bnd_r hr19, if_neg hfr, bnd_r (a := ((0 : Int32), tkE B n (tkE B n p))) (by rw [gdN, if_neg hwd])]))
        · have hwd := wd_f h68
          refine lf (a_aload_n dX2_readGuest_71 rfl) ?_
          obtain ⟨v_, W72, k72, hR72⟩ := (t_X2_nextDiets hz56)
          obtain ⟨hX72, hR72⟩ := hR72
          generalize hr72 : ndS B n (tkE B n (tkE B n (tkE B n p))) = r72 at hR72
          cases r72 with
          | inl a72 =>
            obtain ⟨rfl, hE72⟩ := hR72
            have hwx := hX72.1.1
            have hXc72 := hXc56.trans (hX72.mono (fun i _ y => sT_sP p0 i y))
            refine lf (a_inv (b2 := (0, 0)) k72 rfl dX2_readGuest_72 yk_X2_nextDiets im_X2_nextDiets se_X2_nextDiets ml_X2_176 rfl (co_79 (by repeat (first | with_reducible exact hw | with_reducible exact hwc | with_reducible assumption | with_reducible apply Wf.sI | with_reducible apply Wf.sL | with_reducible apply Wf.cpI | with_reducible apply Wf.cpL | with_reducible apply Wf.cp2 | with_reducible apply Wf.sIs | with_reducible apply Wf.sLs | with_reducible apply Wf.cpU | with_reducible apply Wf.fillI | with_reducible apply Wf.clU | with_reducible apply Wf.dnF | with_reducible apply Wf.gbW))) (by decide) hc_X2 (by decide) (by decide) (Nat.le_of_ble_eq_true rfl)) ?_
            refine lf (a_istore_n dX2_readGuest_75 (by decide)) ?_
            refine lf (a_iload_n dX2_readGuest_76 rfl) ?_
            refine lf (a_iconst (-1 : Int32) dX2_readGuest_77 (by decide)) ?_
            refine lfn (a_icmp_ne (tgt := 83) dX2_readGuest_78 (by decide)) (fun h78 => absurd h78 (by decide)) (fun h78 => ?_)
            refine lf (a_iconst (0 : Int32) dX2_readGuest_81 (by decide)) ?_
            refine ⟨_, _, (a_ireturn dX2_readGuest_82 rfl rfl), ?_⟩
            exact ⟨_, rfl, StQ.bad hXc72 hE72 (by rw [stGuest, if_neg (by omega), bnd_r hr19, if_neg hfr, gdN, if_pos hwd, bnd_l (bnd_l hr72)])⟩
          | inr a72 =>
            obtain ⟨hK72, rfl, hlt72, hz72⟩ := hR72
            have hXc72 := hXc56.trans (hX72.mono (fun i _ y => sT_sP p0 i y))
            have hKc72 := hKc56.trans hK72
            have hwc := hz72.wf
            have hr2 := hz72.r2
            have hr1 := hz72.r1
            have hA := hz72.at'
            have hpn := hz72.le
            have hen := tkE_le (B := B) hpn
            have htx := hz72.tk.1
            refine lf (a_inv (b2 := (0, 0)) k72 rfl dX2_readGuest_72 yk_X2_nextDiets im_X2_nextDiets se_X2_nextDiets ml_X2_176 rfl (co_79 (by repeat (first | with_reducible exact hw | with_reducible exact hwc | with_reducible assumption | with_reducible apply Wf.sI | with_reducible apply Wf.sL | with_reducible apply Wf.cpI | with_reducible apply Wf.cpL | with_reducible apply Wf.cp2 | with_reducible apply Wf.sIs | with_reducible apply Wf.sLs | with_reducible apply Wf.cpU | with_reducible apply Wf.fillI | with_reducible apply Wf.clU | with_reducible apply Wf.dnF | with_reducible apply Wf.gbW))) (by decide) hc_X2 (by decide) (by decide) (Nat.le_of_ble_eq_true rfl)) ?_
            refine lf (a_istore_n dX2_readGuest_75 (by decide)) ?_
            refine lf (a_iload_n dX2_readGuest_76 rfl) ?_
            refine lf (a_iconst (-1 : Int32) dX2_readGuest_77 (by decide)) ?_
            refine lfn (a_icmp_ne (tgt := 83) dX2_readGuest_78 (by decide)) (fun h78 => ?_) (fun h78 => absurd h78 (nI_ne1 (by omega)))
            refine lf (a_aload_n dX2_readGuest_83 rfl) ?_
            refine lf (a_getR (cr_79_0 (by repeat (first | with_reducible exact hw | with_reducible exact hwc | with_reducible assumption | with_reducible apply Wf.sI | with_reducible apply Wf.sL | with_reducible apply Wf.cpI | with_reducible apply Wf.cpL | with_reducible apply Wf.cp2 | with_reducible apply Wf.sIs | with_reducible apply Wf.sLs | with_reducible apply Wf.cpU | with_reducible apply Wf.fillI | with_reducible apply Wf.clU | with_reducible apply Wf.dnF | with_reducible apply Wf.gbW))) dX2_readGuest_84 fs_X2_12 rfl (co_79 (by repeat (first | with_reducible exact hw | with_reducible exact hwc | with_reducible assumption | with_reducible apply Wf.sI | with_reducible apply Wf.sL | with_reducible apply Wf.cpI | with_reducible apply Wf.cpL | with_reducible apply Wf.cp2 | with_reducible apply Wf.sIs | with_reducible apply Wf.sLs | with_reducible apply Wf.cpU | with_reducible apply Wf.fillI | with_reducible apply Wf.clU | with_reducible apply Wf.dnF | with_reducible apply Wf.gbW)))) ?_
            obtain ⟨v_, W87, k87, rfl, hO87, hA87⟩ := (t_X9_next hz72.wf hz72.tk hen.2.1 hz72.at'.2.1)
            have hz87 := hz72.next hO87 hA87 hen.2.1
            have hXc87 := hXc72.trans ((ExT hO87).1.mono (fun i _ y => sT_sP p0 i y))
            have hKc87 := hKc72.trans (ExT hO87).2
            have hwc := hz87.wf
            have hr2 := hz87.r2
            have hr1 := hz87.r1
            have hA := hz87.at'
            have hpn := hz87.le
            have hen := tkE_le (B := B) hpn
            have htx := hz87.tk.1
            refine lf (a_inv (b2 := (0, 0)) k87 rfl dX2_readGuest_87 yk_X9_next im_X9_next se_X9_next ml_X2_47 rfl (co_80 (by repeat (first | with_reducible exact hw | with_reducible exact hwc | with_reducible assumption | with_reducible apply Wf.sI | with_reducible apply Wf.sL | with_reducible apply Wf.cpI | with_reducible apply Wf.cpL | with_reducible apply Wf.cp2 | with_reducible apply Wf.sIs | with_reducible apply Wf.sLs | with_reducible apply Wf.cpU | with_reducible apply Wf.fillI | with_reducible apply Wf.clU | with_reducible apply Wf.dnF | with_reducible apply Wf.gbW))) (by decide) hc_X9 (by decide) (by decide) (Nat.le_of_ble_eq_true rfl)) ?_
            first
            | exact lf (a_loc _ rfl) (X2_readGuest_90 hz87 hXc87 hKc87 hlt (show a19 < 4 by omega) (by rw [stGuest, if_neg (by omega), bnd_r hr19, if_neg hfr, bnd_r (a := (nI a72, tkE B n (tkE B n (tkE B n (tkE B n p))))) (by rw [gdN, if_pos hwd, bnd_r hr72])]))
            | exact lf (a_loc _ rfl) (X2_readGuest_90 hz56 hXc56 hKc56 hlt (show a19 < 4 by omega) (by rw [stGuest, if_neg (by omega), bnd_r hr19, if_neg hfr, bnd_r (a := ((0 : Int32), tkE B n (tkE B n p))) (by rw [gdN, if_neg hwd])]))
      · have hfr : frD z a19 < 1 := Int32.not_le.mp h39
        refine lf (a_aload_n dX2_readGuest_42 rfl) ?_
        refine lf (a_iconst (5 : Int32) dX2_readGuest_43 (by decide)) ?_
        refine lf (a_inv (b2 := (0, 0)) (t_X2_fail hwc (c := 5) hA.1) rfl dX2_readGuest_44 yk_X2_fail im_X2_fail se_X2_fail ml_X2_102 rfl (co_79 (by repeat (first | with_reducible exact hw | with_reducible exact hwc | with_reducible assumption | with_reducible apply Wf.sI | with_reducible apply Wf.sL | with_reducible apply Wf.cpI | with_reducible apply Wf.cpL | with_reducible apply Wf.cp2 | with_reducible apply Wf.sIs | with_reducible apply Wf.sLs | with_reducible apply Wf.cpU | with_reducible apply Wf.fillI | with_reducible apply Wf.clU | with_reducible apply Wf.dnF | with_reducible apply Wf.gbW))) (by decide) hc_X2 (by decide) (by decide) (Nat.le_of_ble_eq_true rfl)) ?_
        refine ⟨_, _, (a_ireturn dX2_readGuest_47 rfl rfl), ?_⟩
        exact ⟨_, rfl, StQ.bad (hXc19.trans ((hz19.err 5 _).1.mono (fun i _ y => sT_sP p0 i y))) (hz19.err 5 _).2 (by rw [stGuest, if_neg (by omega), bnd_r hr19, if_pos hfr])⟩
  · have hge : 40 ≤ dP z.2.1 := Nat.le_of_not_lt fun q => h9 ((nI_ltI (b := 40) (by omega) (by decide)).mpr q)
    refine lf (a_aload_n dX2_readGuest_12 rfl) ?_
    refine lf (a_iconst (4 : Int32) dX2_readGuest_13 (by decide)) ?_
    refine lf (a_inv (b2 := (0, 0)) (t_X2_fail (by repeat (first | with_reducible exact hw | with_reducible exact hwc | with_reducible assumption | with_reducible apply Wf.sI | with_reducible apply Wf.sL | with_reducible apply Wf.cpI | with_reducible apply Wf.cpL | with_reducible apply Wf.cp2 | with_reducible apply Wf.sIs | with_reducible apply Wf.sLs | with_reducible apply Wf.cpU | with_reducible apply Wf.fillI | with_reducible apply Wf.clU | with_reducible apply Wf.dnF | with_reducible apply Wf.gbW)) (c := 4) hA.1) rfl dX2_readGuest_14 yk_X2_fail im_X2_fail se_X2_fail ml_X2_102 rfl (co_79 (by repeat (first | with_reducible exact hw | with_reducible exact hwc | with_reducible assumption | with_reducible apply Wf.sI | with_reducible apply Wf.sL | with_reducible apply Wf.cpI | with_reducible apply Wf.cpL | with_reducible apply Wf.cp2 | with_reducible apply Wf.sIs | with_reducible apply Wf.sLs | with_reducible apply Wf.cpU | with_reducible apply Wf.fillI | with_reducible apply Wf.clU | with_reducible apply Wf.dnF | with_reducible apply Wf.gbW))) (by decide) hc_X2 (by decide) (by decide) (Nat.le_of_ble_eq_true rfl)) ?_
    refine ⟨_, _, (a_ireturn dX2_readGuest_17 rfl rfl), ?_⟩
    exact ⟨_, rfl, StQ.bad ((hz.err 4 _).1.mono (fun i _ y => sT_sP p0 i y)) (hz.err 4 _).2 (by rw [stGuest, if_pos hge])⟩
end PARSL
