section PARSF
variable {μ W : Wd} {B : Nat → Nat} {n p0 p : Nat} {z : PZ}
abbrev R_X2_fail : Room := { frames := 0, cells := 0, slots := 0, locals := 0 }
abbrev RX_X2_fail : Room := { frames := 0, cells := 1, slots := 6, locals := 0 }

theorem t_X2_fail (hw : Wf μ) {c s : Nat} (hs : gI μ 80 2 = nI s) : Ct Y_X2_fail R_X2_fail [.ref 79, .int (nI c)] μ (.inl (some (.int 0))) (feW μ c s) := by
  refine Ct.ent yk_X2_fail (Nat.le_of_ble_eq_true rfl) ?_
  unfold feW
  refine a_aload_n dX2_fail_0 rfl ?_
  refine a_iload_n dX2_fail_1 rfl ?_
  refine a_putI dX2_fail_2 fs_X2_36 rfl rfl rfl (co_79 (by repeat (first | with_reducible exact hw | with_reducible exact hwc | with_reducible assumption | with_reducible apply Wf.sI | with_reducible apply Wf.sL | with_reducible apply Wf.cpI | with_reducible apply Wf.cpL | with_reducible apply Wf.cp2 | with_reducible apply Wf.sIs | with_reducible apply Wf.sLs | with_reducible apply Wf.cpU | with_reducible apply Wf.fillI | with_reducible apply Wf.clU | with_reducible apply Wf.dnF | with_reducible apply Wf.gbW))) ?_
  refine a_aload_n dX2_fail_5 rfl ?_
  refine a_aload_n dX2_fail_6 rfl ?_
  refine a_getR (cr_79_0 (by repeat (first | with_reducible exact hw | with_reducible exact hwc | with_reducible assumption | with_reducible apply Wf.sI | with_reducible apply Wf.sL | with_reducible apply Wf.cpI | with_reducible apply Wf.cpL | with_reducible apply Wf.cp2 | with_reducible apply Wf.sIs | with_reducible apply Wf.sLs | with_reducible apply Wf.cpU | with_reducible apply Wf.fillI | with_reducible apply Wf.clU | with_reducible apply Wf.dnF | with_reducible apply Wf.gbW))) dX2_fail_7 fs_X2_12 rfl (co_79 (by repeat (first | with_reducible exact hw | with_reducible exact hwc | with_reducible assumption | with_reducible apply Wf.sI | with_reducible apply Wf.sL | with_reducible apply Wf.cpI | with_reducible apply Wf.cpL | with_reducible apply Wf.cp2 | with_reducible apply Wf.sIs | with_reducible apply Wf.sLs | with_reducible apply Wf.cpU | with_reducible apply Wf.fillI | with_reducible apply Wf.clU | with_reducible apply Wf.dnF | with_reducible apply Wf.gbW))) ?_
  refine a_getI dX2_fail_10 fs_X2_222 rfl (co_80 (by repeat (first | with_reducible exact hw | with_reducible exact hwc | with_reducible assumption | with_reducible apply Wf.sI | with_reducible apply Wf.sL | with_reducible apply Wf.cpI | with_reducible apply Wf.cpL | with_reducible apply Wf.cp2 | with_reducible apply Wf.sIs | with_reducible apply Wf.sLs | with_reducible apply Wf.cpU | with_reducible apply Wf.fillI | with_reducible apply Wf.clU | with_reducible apply Wf.dnF | with_reducible apply Wf.gbW))) ?_
  rw [gI_sI, if_neg (by omega), hs]
  refine a_putI dX2_fail_13 fs_X2_40 rfl rfl rfl (co_79 (by repeat (first | with_reducible exact hw | with_reducible exact hwc | with_reducible assumption | with_reducible apply Wf.sI | with_reducible apply Wf.sL | with_reducible apply Wf.cpI | with_reducible apply Wf.cpL | with_reducible apply Wf.cp2 | with_reducible apply Wf.sIs | with_reducible apply Wf.sLs | with_reducible apply Wf.cpU | with_reducible apply Wf.fillI | with_reducible apply Wf.clU | with_reducible apply Wf.dnF | with_reducible apply Wf.gbW))) ?_
  refine a_iconst (0 : Int32) dX2_fail_16 (by decide) ?_
  exact a_out rfl rfl (a_ireturn dX2_fail_17 rfl rfl)
abbrev R_X2_signHere : Room := { frames := 1, cells := 0, slots := 0, locals := 21 }
abbrev RX_X2_signHere : Room := { frames := 1, cells := 1, slots := 6, locals := 21 }

theorem tkK_le (B : Nat → Nat) (n p : Nat) : tkK B n p ≤ 4 := by
  unfold tkK
  have := kd_le (B (tkS B n p))
  split
  · omega
  · split <;> omega
theorem kEq (B : Nat → Nat) (n p : Nat) {k : Nat} (hk : k ≤ 4) : nI (tkK B n p) = nI k ↔ tkK B n p = k := nI_eqI (by have := tkK_le B n p; omega) (by omega)
theorem PsV.err (h : PsV B n p0 p z μ) (c a : Nat) : En sT μ (feW μ c a) ∧ ErV (feW μ c a) (c, a) := ExE h.wf h.r1 h.pv.pl h.r2 c a
theorem PsV.ek (h : PsV B n p0 p z μ) : En sT μ μ ∧ EkV μ μ := ⟨En.rfl' h.wf, EkV.rfl'⟩
/-- the sign at the end of a statement -/
def sgS (B : Nat → Nat) (n p : Nat) : (Nat × Nat) ⊕ Unit := if tkK B n p = 3 then .inr () else .inl (1, tkS B n p)
theorem t_X2_signHere (hz : PsV B n p0 p z μ) : CV Y_X2_signHere R_X2_signHere [.ref 79] μ (RdQ sT μ (sgS B n p) (.int 0) (fun _ v V => v = some (.int 1) ∧ PsV B n p0 p z V)) := by
  refine CV.ent yk_X2_signHere (Nat.le_of_ble_eq_true rfl) ?_
  have hw := hz.wf
  have hT := hz.tk
  have hA := hz.at'
  have hp := hz.pv.pl
  have hr2 := hz.r2
  have hr1 := hz.r1
  have h900 := hz.n900
  have htx := hT.1
  have hpn := hz.le
  refine lf (a_aload_n dX2_signHere_0 rfl) ?_
  refine lf (a_getR (cr_79_0 hw) dX2_signHere_1 fs_X2_12 rfl (co_79 hw)) ?_
  refine lf (a_getI dX2_signHere_4 fs_X2_50 rfl (co_80 hw)) ?_
  rw [hA.2.2.1]
  refine lf (a_iconst (3 : Int32) dX2_signHere_7 (by decide)) ?_
  refine lf2 (a_icmp_eq (tgt := 19) dX2_signHere_8 (by decide)) (fun h8 => ?_) (fun h8 => ?_)
  · refine lf (a_iconst (1 : Int32) dX2_signHere_19 (by decide)) ?_
    refine lf (a_goto (tgt := 24) dX2_signHere_20 (by decide)) ?_
    refine ⟨_, _, (a_ireturn dX2_signHere_24 rfl rfl), ?_⟩
    first
    | exact ⟨_, rfl, hz.ek.1, by rw [sgS, if_pos ((kEq B n p (k := 3) (by decide)).mp h8)]; exact ⟨hz.ek.2, rfl, hz⟩⟩
    | exact ⟨_, rfl, (hz.err 1 _).1, by rw [sgS, if_neg (fun q => h8 ((kEq B n p (k := 3) (by decide)).mpr q))]; exact ⟨rfl, (hz.err 1 _).2⟩⟩
  · refine lf (a_aload_n dX2_signHere_11 rfl) ?_
    refine lf (a_iconst (1 : Int32) dX2_signHere_12 (by decide)) ?_
    refine lf (a_inv (b2 := (0, 0)) (t_X2_fail hw (c := 1) hA.1) rfl dX2_signHere_13 yk_X2_fail im_X2_fail se_X2_fail ml_X2_102 rfl (co_79 hw) (by decide) hc_X2 (by decide) (by decide) (Nat.le_of_ble_eq_true rfl)) ?_
    refine lf2 (a_if_eq (tgt := 23) dX2_signHere_16 (by decide)) (fun h16 => ?_) (fun h16 => absurd h16 (by decide))
    refine lf (a_iconst (0 : Int32) dX2_signHere_23 (by decide)) ?_
    refine ⟨_, _, (a_ireturn dX2_signHere_24 rfl rfl), ?_⟩
    first
    | exact ⟨_, rfl, hz.ek.1, by rw [sgS, if_pos ((kEq B n p (k := 3) (by decide)).mp h8)]; exact ⟨hz.ek.2, rfl, hz⟩⟩
    | exact ⟨_, rfl, (hz.err 1 _).1, by rw [sgS, if_neg (fun q => h8 ((kEq B n p (k := 3) (by decide)).mpr q))]; exact ⟨rfl, (hz.err 1 _).2⟩⟩
abbrev R_X2_numberHere : Room := { frames := 1, cells := 0, slots := 0, locals := 21 }
abbrev RX_X2_numberHere : Room := { frames := 1, cells := 1, slots := 6, locals := 21 }

theorem tkN_lt (B : Nat → Nat) {n p : Nat} (hp : p ≤ n) (h : tkK B n p = 2) : tkN B n p < 10000 := by
  unfold tkK at h
  by_cases h1 : n ≤ tkS B n p
  · rw [if_pos h1] at h; omega
  · rw [if_neg h1] at h
    by_cases h2 : kdN (B (tkS B n p)) = 2 ∧ 4 < tkE B n p - tkS B n p
    · rw [if_pos h2] at h; omega
    · rw [if_neg h2] at h
      have h4 : tkE B n p - tkS B n p ≤ 4 := by
        have : ¬ 4 < tkE B n p - tkS B n p := fun q => h2 ⟨h, q⟩
        omega
      have eE : tkE B n p = rnW B 2 (n - (tkS B n p + 1)) (tkS B n p + 1) := by unfold tkE; rw [if_neg h1, if_pos (Or.inr h), h]
      have hen := tkE_le (B := B) hp
      have k := nuW_lt B (tkE B n p - tkS B n p) (tkS B n p) 0 fun i a b => by
        by_cases q : i = tkS B n p
        · rw [q]; exact h
        · rw [show tkS B n p + (tkE B n p - tkS B n p) = tkE B n p by omega, eE] at b
          exact (rnW_ge B 2 (n - (tkS B n p + 1)) (tkS B n p + 1)).2.2 i (by omega) b
      have k2 : 10 ^ (tkE B n p - tkS B n p) ≤ 10 ^ 4 := Nat.pow_le_pow_right (by decide) h4
      unfold tkN
      omega
theorem t_X2_numberHere (hz : PsV B n p0 p z μ) {lo hi : Nat} (hlo : lo < 2 ^ 30) (hhi : hi < 2 ^ 30) : CV Y_X2_numberHere R_X2_numberHere [.ref 79, .int (nI lo), .int (nI hi)] μ (RdQ sT μ (nhS B n p lo hi) (.int (-1)) (fun a v V => v = some (.int (nI a)) ∧ PsV B n p0 p z V)) := by
  refine CV.ent yk_X2_numberHere (Nat.le_of_ble_eq_true rfl) ?_
  have hw := hz.wf
  have hT := hz.tk
  have hA := hz.at'
  have hp := hz.pv.pl
  have hr2 := hz.r2
  have hr1 := hz.r1
  have h900 := hz.n900
  have htx := hT.1
  have hpn := hz.le
  refine lf (a_aload_n dX2_numberHere_0 rfl) ?_
  refine lf (a_getR (cr_79_0 hw) dX2_numberHere_1 fs_X2_12 rfl (co_79 hw)) ?_
  refine lf (a_getI dX2_numberHere_4 fs_X2_50 rfl (co_80 hw)) ?_
  rw [hA.2.2.1]
  refine lf (a_iconst (2 : Int32) dX2_numberHere_7 (by decide)) ?_
  refine lf2 (a_icmp_eq (tgt := 19) dX2_numberHere_8 (by decide)) (fun h8 => ?_) (fun h8 => ?_)
  · have hk2 : tkK B n p = 2 := (kEq B n p (k := 2) (by decide)).mp h8
    have hN := hA.2.2.2 hk2
    have hNl := tkN_lt B hpn hk2
    refine lf (a_aload_n dX2_numberHere_19 rfl) ?_
    refine lf (a_getR (cr_79_0 hw) dX2_numberHere_20 fs_X2_12 rfl (co_79 hw)) ?_
    refine lf (a_getI dX2_numberHere_23 fs_X2_219 rfl (co_80 hw)) ?_
    rw [hN]
    refine lf (a_iload_n dX2_numberHere_26 rfl) ?_
    refine lf2 (a_icmp_lt (tgt := 41) dX2_numberHere_27 (by decide)) (fun h27 => ?_) (fun h27 => ?_)
    · have hl : tkN B n p < lo := (nI_ltI (by omega) (by omega)).mp h27
      refine lf (a_aload_n dX2_numberHere_41 rfl) ?_
      refine lf (a_iconst (2 : Int32) dX2_numberHere_42 (by decide)) ?_
      refine lf (a_inv (b2 := (0, 0)) (t_X2_fail hw (c := 2) hA.1) rfl dX2_numberHere_43 yk_X2_fail im_X2_fail se_X2_fail ml_X2_102 rfl (co_79 hw) (by decide) hc_X2 (by decide) (by decide) (Nat.le_of_ble_eq_true rfl)) ?_
      refine lf (a_pop dX2_numberHere_46 rfl) ?_
      refine lf (a_iconst (-1 : Int32) dX2_numberHere_47 (by decide)) ?_
      refine ⟨_, _, (a_ireturn dX2_numberHere_48 rfl rfl), ?_⟩
      first
      | exact ⟨_, rfl, (hz.err 2 _).1, by rw [nhS, if_neg (fun q => q hk2), if_pos hl]; exact ⟨rfl, (hz.err 2 _).2⟩⟩
      | exact ⟨_, rfl, (hz.err 2 _).1, by rw [nhS, if_neg (fun q => q hk2), if_neg hl, if_pos hh]; exact ⟨rfl, (hz.err 2 _).2⟩⟩
    · have hl : ¬ tkN B n p < lo := fun q => h27 ((nI_ltI (by omega) (by omega)).mpr q)
      refine lf (a_aload_n dX2_numberHere_30 rfl) ?_
      refine lf (a_getR (cr_79_0 hw) dX2_numberHere_31 fs_X2_12 rfl (co_79 hw)) ?_
      refine lf (a_getI dX2_numberHere_34 fs_X2_219 rfl (co_80 hw)) ?_
      rw [hN]
      refine lf (a_iload_n dX2_numberHere_37 rfl) ?_
      refine lf2 (a_icmp_le (tgt := 49) dX2_numberHere_38 (by decide)) (fun h38 => ?_) (fun h38 => ?_)
      · have hh : ¬ hi < tkN B n p := by
          have := (nI_leI (by omega) (by omega)).mp h38
          omega
        refine lf (a_aload_n dX2_numberHere_49 rfl) ?_
        refine lf (a_getR (cr_79_0 hw) dX2_numberHere_50 fs_X2_12 rfl (co_79 hw)) ?_
        refine lf (a_getI dX2_numberHere_53 fs_X2_219 rfl (co_80 hw)) ?_
        rw [hN]
        refine ⟨_, _, (a_ireturn dX2_numberHere_56 rfl rfl), ?_⟩
        exact ⟨_, rfl, hz.ek.1, by rw [nhS, if_neg (fun q => q hk2), if_neg hl, if_neg hh]; exact ⟨hz.ek.2, rfl, hz⟩⟩
      · have hh : hi < tkN B n p := by
          have : ¬ tkN B n p ≤ hi := fun q => h38 ((nI_leI (by omega) (by omega)).mpr q)
          omega
        refine lf (a_aload_n dX2_numberHere_41 rfl) ?_
        refine lf (a_iconst (2 : Int32) dX2_numberHere_42 (by decide)) ?_
        refine lf (a_inv (b2 := (0, 0)) (t_X2_fail hw (c := 2) hA.1) rfl dX2_numberHere_43 yk_X2_fail im_X2_fail se_X2_fail ml_X2_102 rfl (co_79 hw) (by decide) hc_X2 (by decide) (by decide) (Nat.le_of_ble_eq_true rfl)) ?_
        refine lf (a_pop dX2_numberHere_46 rfl) ?_
        refine lf (a_iconst (-1 : Int32) dX2_numberHere_47 (by decide)) ?_
        refine ⟨_, _, (a_ireturn dX2_numberHere_48 rfl rfl), ?_⟩
        first
        | exact ⟨_, rfl, (hz.err 2 _).1, by rw [nhS, if_neg (fun q => q hk2), if_pos hl]; exact ⟨rfl, (hz.err 2 _).2⟩⟩
        | exact ⟨_, rfl, (hz.err 2 _).1, by rw [nhS, if_neg (fun q => q hk2), if_neg hl, if_pos hh]; exact ⟨rfl, (hz.err 2 _).2⟩⟩
  · have hk2 : tkK B n p ≠ 2 := fun q => h8 ((kEq B n p (k := 2) (by decide)).mpr q)
    refine lf (a_aload_n dX2_numberHere_11 rfl) ?_
    refine lf (a_iconst (1 : Int32) dX2_numberHere_12 (by decide)) ?_
    refine lf (a_inv (b2 := (0, 0)) (t_X2_fail hw (c := 1) hA.1) rfl dX2_numberHere_13 yk_X2_fail im_X2_fail se_X2_fail ml_X2_102 rfl (co_79 hw) (by decide) hc_X2 (by decide) (by decide) (Nat.le_of_ble_eq_true rfl)) ?_
    refine lf (a_pop dX2_numberHere_16 rfl) ?_
    refine lf (a_iconst (-1 : Int32) dX2_numberHere_17 (by decide)) ?_
    refine ⟨_, _, (a_ireturn dX2_numberHere_18 rfl rfl), ?_⟩
    exact ⟨_, rfl, (hz.err 1 _).1, by rw [nhS, if_pos hk2]; exact ⟨rfl, (hz.err 1 _).2⟩⟩
theorem RdQ.behind {α : Type} {r : (Nat × Nat) ⊕ α} {bad : Value} {ok : α → Option Value → Wd → Prop} {v : Option Value} {V : Wd} {S : Nat → Prop} (he : En S μ W) (hk : EkV μ W) (h : RdQ S W r bad ok v V) : RdQ S μ r bad ok v V := by
  refine ⟨he.trans h.1, ?_⟩
  have h2 := h.2
  cases r with
  | inl e => exact h2
  | inr a => exact ⟨hk.trans h2.1, h2.2⟩
theorem RdQ.imp {α : Type} {r : (Nat × Nat) ⊕ α} {bad : Value} {ok ok2 : α → Option Value → Wd → Prop} {v : Option Value} {V : Wd} {S : Nat → Prop} (h : RdQ S μ r bad ok v V) (hi : ∀ a, r = .inr a → ok a v V → ok2 a v V) : RdQ S μ r bad ok2 v V := by
  refine ⟨h.1, ?_⟩
  have h2 := h.2
  cases r with
  | inl e => exact h2
  | inr a => exact ⟨h2.1, hi a rfl h2.2⟩
abbrev R_X2_nextNumber : Room := { frames := 2, cells := 0, slots := 0, locals := 43 }
abbrev RX_X2_nextNumber : Room := { frames := 2, cells := 1, slots := 6, locals := 43 }

theorem t_X2_nextNumber (hz : PsV B n p0 p z μ) {lo hi : Nat} (hlo : lo < 2 ^ 30) (hhi : hi < 2 ^ 30) : CV Y_X2_nextNumber R_X2_nextNumber [.ref 79, .int (nI lo), .int (nI hi)] μ (RdQ sT μ (nhS B n (tkE B n p) lo hi) (.int (-1)) (fun a v V => v = some (.int (nI a)) ∧ PsV B n p0 (tkE B n p) z V)) := by
  refine CV.ent yk_X2_nextNumber (Nat.le_of_ble_eq_true rfl) ?_
  have hw := hz.wf
  have hT := hz.tk
  have hA := hz.at'
  have hp := hz.pv.pl
  have hr2 := hz.r2
  have hr1 := hz.r1
  have h900 := hz.n900
  have htx := hT.1
  have hpn := hz.le
  have hen := tkE_le (B := B) hpn
  refine lf (a_aload_n dX2_nextNumber_0 rfl) ?_
  refine lf (a_getR (cr_79_0 (by repeat (first | with_reducible exact hw | with_reducible exact hwc | with_reducible assumption | with_reducible apply Wf.sI | with_reducible apply Wf.sL | with_reducible apply Wf.cpI | with_reducible apply Wf.cpL | with_reducible apply Wf.cp2 | with_reducible apply Wf.sIs | with_reducible apply Wf.sLs | with_reducible apply Wf.cpU | with_reducible apply Wf.fillI | with_reducible apply Wf.clU | with_reducible apply Wf.dnF | with_reducible apply Wf.gbW))) dX2_nextNumber_1 fs_X2_12 rfl (co_79 (by repeat (first | with_reducible exact hw | with_reducible exact hwc | with_reducible assumption | with_reducible apply Wf.sI | with_reducible apply Wf.sL | with_reducible apply Wf.cpI | with_reducible apply Wf.cpL | with_reducible apply Wf.cp2 | with_reducible apply Wf.sIs | with_reducible apply Wf.sLs | with_reducible apply Wf.cpU | with_reducible apply Wf.fillI | with_reducible apply Wf.clU | with_reducible apply Wf.dnF | with_reducible apply Wf.gbW)))) ?_
  obtain ⟨v_, W4, k4, rfl, hOT, hA2⟩ := (t_X9_next hw hT hen.2.1 hA.2.1)
  have hz2 := hz.next hOT hA2 hen.2.1
  have hwc := hz2.wf
  refine lf (a_inv (b2 := (0, 0)) k4 rfl dX2_nextNumber_4 yk_X9_next im_X9_next se_X9_next ml_X2_47 rfl (co_80 (by repeat (first | with_reducible exact hw | with_reducible exact hwc | with_reducible assumption | with_reducible apply Wf.sI | with_reducible apply Wf.sL | with_reducible apply Wf.cpI | with_reducible apply Wf.cpL | with_reducible apply Wf.cp2 | with_reducible apply Wf.sIs | with_reducible apply Wf.sLs | with_reducible apply Wf.cpU | with_reducible apply Wf.fillI | with_reducible apply Wf.clU | with_reducible apply Wf.dnF | with_reducible apply Wf.gbW))) (by decide) hc_X9 (by decide) (by decide) (Nat.le_of_ble_eq_true rfl)) ?_
  refine lf (a_aload_n dX2_nextNumber_7 rfl) ?_
  refine lf (a_iload_n dX2_nextNumber_8 rfl) ?_
  refine lf (a_iload_n dX2_nextNumber_9 rfl) ?_
  obtain ⟨v_, W10, k10, hR⟩ := (t_X2_numberHere hz2 hlo hhi)
  obtain ⟨x_, rfl⟩ : ∃ x, v_ = some (.int x) := by
    have := hR.2
    revert this
    cases nhS B n (tkE B n p) lo hi with
    | inl e => exact fun q => ⟨_, q.1⟩
    | inr a => exact fun q => ⟨_, q.2.1⟩
  refine lf (a_inv (b2 := (0, 0)) k10 rfl dX2_nextNumber_10 yk_X2_numberHere im_X2_numberHere se_X2_numberHere ml_X2_147 rfl (co_79 (by repeat (first | with_reducible exact hw | with_reducible exact hwc | with_reducible assumption | with_reducible apply Wf.sI | with_reducible apply Wf.sL | with_reducible apply Wf.cpI | with_reducible apply Wf.cpL | with_reducible apply Wf.cp2 | with_reducible apply Wf.sIs | with_reducible apply Wf.sLs | with_reducible apply Wf.cpU | with_reducible apply Wf.fillI | with_reducible apply Wf.clU | with_reducible apply Wf.dnF | with_reducible apply Wf.gbW))) (by decide) hc_X2 (by decide) (by decide) (Nat.le_of_ble_eq_true rfl)) ?_
  refine ⟨_, _, (a_ireturn dX2_nextNumber_13 rfl rfl), ?_⟩
  exact ⟨_, rfl, hR.behind (ExT hOT).1 (ExT hOT).2⟩
abbrev R_X2_nameHere : Room := { frames := 1, cells := 0, slots := 0, locals := 20 }
abbrev RX_X2_nameHere : Room := { frames := 1, cells := 1, slots := 6, locals := 20 }

theorem t_X2_nameHere (hz : PsV B n p0 p z μ) : Ct Y_X2_nameHere R_X2_nameHere [.ref 79] μ (.inl (some (.int (if tkK B n p = 1 ∧ (tkL B n p).length ≤ 6 then 1 else 0)))) μ := by
  refine Ct.ent yk_X2_nameHere (Nat.le_of_ble_eq_true rfl) ?_
  have hw := hz.wf
  have hT := hz.tk
  have hA := hz.at'
  have hp := hz.pv.pl
  have hr2 := hz.r2
  have hr1 := hz.r1
  have h900 := hz.n900
  have htx := hT.1
  have hpn := hz.le
  have hen := tkE_le (B := B) hpn
  rw [tkL_len]
  refine a_aload_n dX2_nameHere_0 rfl ?_
  refine a_getR (cr_79_0 hw) dX2_nameHere_1 fs_X2_12 rfl (co_79 hw) ?_
  refine a_getI dX2_nameHere_4 fs_X2_50 rfl (co_80 hw) ?_
  rw [hA.2.2.1]
  refine a_iconst (1 : Int32) dX2_nameHere_7 (by decide) ?_
  refine a_icmp_ne (tgt := 27) dX2_nameHere_8 (by decide) (fun h8 => ?_) (fun h8 => ?_)
  · rw [if_neg (fun q => h8 ((kEq B n p (k := 1) (by decide)).mpr q.1))]
    refine a_iconst (0 : Int32) dX2_nameHere_27 (by decide) ?_
    exact a_out rfl rfl (a_ireturn dX2_nameHere_28 rfl rfl)
  · refine a_aload_n dX2_nameHere_11 rfl ?_
    refine a_getR (cr_79_0 hw) dX2_nameHere_12 fs_X2_12 rfl (co_79 hw) ?_
    refine a_inv (b2 := (0, 0)) (t_X9_size hw hA.1 (n := tkE B n p - tkS B n p) (by rw [hA.2.1]; congr 1; omega)) rfl dX2_nameHere_15 yk_X9_size im_X9_size se_X9_size ml_X2_232 rfl (co_80 hw) (by decide) hc_X9 (by decide) (by decide) (Nat.le_of_ble_eq_true rfl) ?_
    refine a_bipush (6 : Int32) dX2_nameHere_18 (by decide) ?_
    refine a_icmp_gt (tgt := 27) dX2_nameHere_20 (by decide) (fun h20 => ?_) (fun h20 => ?_)
    · rw [if_neg (fun q => (nI_nlt (a := 6) (b := tkE B n p - tkS B n p) q.2 (by decide)) h20)]
      refine a_iconst (0 : Int32) dX2_nameHere_27 (by decide) ?_
      exact a_out rfl rfl (a_ireturn dX2_nameHere_28 rfl rfl)
    · rw [if_pos ⟨(kEq B n p (k := 1) (by decide)).mp h8, Nat.le_of_not_lt fun q => h20 (nI_lt (a := 6) q (by omega))⟩]
      refine a_iconst (1 : Int32) dX2_nameHere_23 (by decide) ?_
      refine a_goto (tgt := 28) dX2_nameHere_24 (by decide) ?_
      exact a_out rfl rfl (a_ireturn dX2_nameHere_28 rfl rfl)
def cfS (B : Nat → Nat) (n p k : Nat) (nm : Nat → List Nat) : Option Nat := fstF (fun i => decide (tkK B n p = 1 ∧ tkL B n p = nm i)) k 0
theorem isV_dec (B : Nat → Nat) (n p : Nat) (l : List Nat) : isV B n p l = 0 ↔ ¬ decide (tkK B n p = 1 ∧ tkL B n p = l) = true := by
  rw [isV1, decide_eq_true_eq]
abbrev R_X2_cabinHere : Room := { frames := 8, cells := 0, slots := 0, locals := 205 }
abbrev RX_X2_cabinHere : Room := { frames := 8, cells := 1, slots := 6, locals := 205 }

theorem l_X2_cabinHere_2 (hz : PsV B n p0 p z μ) : ∀ dd m, m + dd = pC z.1 → AW Y_X2_cabinHere R_X2_cabinHere (0, 0) μ 2 [(0, .ref 79), (1, .int (nI m))] [] (.inl (some (.int (oI (fstF (fun i => decide (tkK B n p = 1 ∧ tkL B n p = z.2.2.1 i)) dd m))))) μ := by
  have hw := hz.wf
  have hT := hz.tk
  have hA := hz.at'
  have hp := hz.pv.pl
  have hr2 := hz.r2
  have hr1 := hz.r1
  have h900 := hz.n900
  have htx := hT.1
  have hpn := hz.le
  have hC4 := hz.pv.C4
  have hM4 := hz.pv.M4
  intro dd
  induction dd with
  | zero =>
    intro m hm
    obtain rfl : pC z.1 = m := by omega
    refine a_iload_n dX2_cabinHere_2 rfl ?_
    refine a_aload_n dX2_cabinHere_3 rfl ?_
    refine a_getR hr2 dX2_cabinHere_4 fs_X2_22 rfl (co_79 hw) ?_
    refine a_getI dX2_cabinHere_7 fs_X2_118 rfl (pl_o hw hp) ?_
    rw [hz.pv.hC]
    refine a_icmp_ge (tgt := 43) dX2_cabinHere_10 (by decide) (fun h10 => ?_) (fun h10 => absurd h10 (fun q => q (nI_le (Nat.le_refl _) (by omega))))
    refine a_iconst (-1 : Int32) dX2_cabinHere_43 (by decide) ?_
    exact a_out rfl rfl (a_ireturn dX2_cabinHere_44 rfl rfl)
  | succ dd ih =>
    intro m hm
    obtain ⟨r, hr, hs⟩ := hz.cn (show m < pC z.1 by omega)
    unfold fstF
    refine a_iload_n dX2_cabinHere_2 rfl ?_
    refine a_aload_n dX2_cabinHere_3 rfl ?_
    refine a_getR hr2 dX2_cabinHere_4 fs_X2_22 rfl (co_79 hw) ?_
    refine a_getI dX2_cabinHere_7 fs_X2_118 rfl (pl_o hw hp) ?_
    rw [hz.pv.hC]
    refine a_icmp_ge (tgt := 43) dX2_cabinHere_10 (by decide) (fun h10 => absurd h10 (nI_ge (show m < pC z.1 by omega) (by omega))) (fun h10 => ?_)
    refine a_aload_n dX2_cabinHere_13 rfl ?_
    refine a_getR (cr_79_0 hw) dX2_cabinHere_14 fs_X2_12 rfl (co_79 hw) ?_
    refine a_aload_n dX2_cabinHere_17 rfl ?_
    refine a_getR hr2 dX2_cabinHere_18 fs_X2_22 rfl (co_79 hw) ?_
    refine a_getR (pl_r2 hw hp) dX2_cabinHere_21 fs_X2_128 rfl (pl_o hw hp) ?_
    refine a_iload_n dX2_cabinHere_24 rfl ?_
    refine a_aald (j := m) dX2_cabinHere_25 (pl_a1 hw hp) (by decide) (ixn (by omega) (by decide)) (pl_rc hw hp (by omega)) ?_
    refine a_getR hr dX2_cabinHere_26 fs_X2_135 rfl (pl_c hw hp (by omega)) ?_
    refine a_inv (b2 := (0, 0)) (t_X9_is hw hT hpn hA hs) rfl dX2_cabinHere_29 yk_X9_is im_X9_is se_X9_is ml_X2_65 rfl (co_80 hw) (by decide) hc_X9 (by decide) (by decide) (Nat.le_of_ble_eq_true rfl) ?_
    refine a_if_eq (tgt := 37) dX2_cabinHere_32 (by decide) (fun h32 => ?_) (fun h32 => ?_)
    · rw [if_neg ((isV_dec B n p (z.2.2.1 m)).mp h32)]
      refine a_iincN dX2_cabinHere_37 rfl (by decide) ?_
      refine a_goto (tgt := 2) dX2_cabinHere_40 (by decide) ?_
      exact a_loc _ rfl (ih (m + 1) (by omega))
    · rw [if_pos (Classical.byContradiction fun q => h32 ((isV_dec B n p (z.2.2.1 m)).mpr q))]
      refine a_iload_n dX2_cabinHere_35 rfl ?_
      exact a_out rfl rfl (a_ireturn dX2_cabinHere_36 rfl rfl)
theorem t_X2_cabinHere (hz : PsV B n p0 p z μ) : Ct Y_X2_cabinHere R_X2_cabinHere [.ref 79] μ (.inl (some (.int (oI (cfS B n p (pC z.1) z.2.2.1))))) μ := by
  refine Ct.ent yk_X2_cabinHere (Nat.le_of_ble_eq_true rfl) ?_
  refine a_iconst (0 : Int32) dX2_cabinHere_0 (by decide) ?_
  refine a_istore_n dX2_cabinHere_1 (by decide) ?_
  exact a_loc [(0, .ref 79), (1, .int (nI 0))] rfl (l_X2_cabinHere_2 hz (pC z.1) 0 (by omega))
abbrev R_X2_mealHere : Room := { frames := 8, cells := 0, slots := 0, locals := 205 }
abbrev RX_X2_mealHere : Room := { frames := 8, cells := 1, slots := 6, locals := 205 }

theorem l_X2_mealHere_2 (hz : PsV B n p0 p z μ) : ∀ dd m, m + dd = pM z.1 → AW Y_X2_mealHere R_X2_mealHere (0, 0) μ 2 [(0, .ref 79), (1, .int (nI m))] [] (.inl (some (.int (oI (fstF (fun i => decide (tkK B n p = 1 ∧ tkL B n p = z.2.2.2 i)) dd m))))) μ := by
  have hw := hz.wf
  have hT := hz.tk
  have hA := hz.at'
  have hp := hz.pv.pl
  have hr2 := hz.r2
  have hr1 := hz.r1
  have h900 := hz.n900
  have htx := hT.1
  have hpn := hz.le
  have hC4 := hz.pv.C4
  have hM4 := hz.pv.M4
  intro dd
  induction dd with
  | zero =>
    intro m hm
    obtain rfl : pM z.1 = m := by omega
    refine a_iload_n dX2_mealHere_2 rfl ?_
    refine a_aload_n dX2_mealHere_3 rfl ?_
    refine a_getR hr2 dX2_mealHere_4 fs_X2_22 rfl (co_79 hw) ?_
    refine a_getI dX2_mealHere_7 fs_X2_150 rfl (pl_o hw hp) ?_
    rw [hz.pv.hM]
    refine a_icmp_ge (tgt := 43) dX2_mealHere_10 (by decide) (fun h10 => ?_) (fun h10 => absurd h10 (fun q => q (nI_le (Nat.le_refl _) (by omega))))
    refine a_iconst (-1 : Int32) dX2_mealHere_43 (by decide) ?_
    exact a_out rfl rfl (a_ireturn dX2_mealHere_44 rfl rfl)
  | succ dd ih =>
    intro m hm
    obtain ⟨r, hr, hs⟩ := hz.mn (show m < pM z.1 by omega)
    unfold fstF
    refine a_iload_n dX2_mealHere_2 rfl ?_
    refine a_aload_n dX2_mealHere_3 rfl ?_
    refine a_getR hr2 dX2_mealHere_4 fs_X2_22 rfl (co_79 hw) ?_
    refine a_getI dX2_mealHere_7 fs_X2_150 rfl (pl_o hw hp) ?_
    rw [hz.pv.hM]
    refine a_icmp_ge (tgt := 43) dX2_mealHere_10 (by decide) (fun h10 => absurd h10 (nI_ge (show m < pM z.1 by omega) (by omega))) (fun h10 => ?_)
    refine a_aload_n dX2_mealHere_13 rfl ?_
    refine a_getR (cr_79_0 hw) dX2_mealHere_14 fs_X2_12 rfl (co_79 hw) ?_
    refine a_aload_n dX2_mealHere_17 rfl ?_
    refine a_getR hr2 dX2_mealHere_18 fs_X2_22 rfl (co_79 hw) ?_
    refine a_getR (pl_r4 hw hp) dX2_mealHere_21 fs_X2_156 rfl (pl_o hw hp) ?_
    refine a_iload_n dX2_mealHere_24 rfl ?_
    refine a_aald (j := m) dX2_mealHere_25 (pl_a6 hw hp) (by decide) (ixn (by omega) (by decide)) (pl_rm hw hp (by omega)) ?_
    refine a_getR hr dX2_mealHere_26 fs_X2_159 rfl (pl_m hw hp (by omega)) ?_
    refine a_inv (b2 := (0, 0)) (t_X9_is hw hT hpn hA hs) rfl dX2_mealHere_29 yk_X9_is im_X9_is se_X9_is ml_X2_65 rfl (co_80 hw) (by decide) hc_X9 (by decide) (by decide) (Nat.le_of_ble_eq_true rfl) ?_
    refine a_if_eq (tgt := 37) dX2_mealHere_32 (by decide) (fun h32 => ?_) (fun h32 => ?_)
    · rw [if_neg ((isV_dec B n p (z.2.2.2 m)).mp h32)]
      refine a_iincN dX2_mealHere_37 rfl (by decide) ?_
      refine a_goto (tgt := 2) dX2_mealHere_40 (by decide) ?_
      exact a_loc _ rfl (ih (m + 1) (by omega))
    · rw [if_pos (Classical.byContradiction fun q => h32 ((isV_dec B n p (z.2.2.2 m)).mpr q))]
      refine a_iload_n dX2_mealHere_35 rfl ?_
      exact a_out rfl rfl (a_ireturn dX2_mealHere_36 rfl rfl)
theorem t_X2_mealHere (hz : PsV B n p0 p z μ) : Ct Y_X2_mealHere R_X2_mealHere [.ref 79] μ (.inl (some (.int (oI (cfS B n p (pM z.1) z.2.2.2))))) μ := by
  refine Ct.ent yk_X2_mealHere (Nat.le_of_ble_eq_true rfl) ?_
  refine a_iconst (0 : Int32) dX2_mealHere_0 (by decide) ?_
  refine a_istore_n dX2_mealHere_1 (by decide) ?_
  exact a_loc [(0, .ref 79), (1, .int (nI 0))] rfl (l_X2_mealHere_2 hz (pM z.1) 0 (by omega))
abbrev R_X2_nextCabin : Room := { frames := 9, cells := 0, slots := 0, locals := 226 }
abbrev RX_X2_nextCabin : Room := { frames := 9, cells := 1, slots := 6, locals := 226 }

/-- the cabin that is named; the meal on its menu that is named -/
def nmE (B : Nat → Nat) (n p : Nat) : Nat × Nat := (if tkK B n p = 1 then 3 else 1, tkS B n p)
def ncS (B : Nat → Nat) (n p : Nat) (z : PZ) : (Nat × Nat) ⊕ Nat := match cfS B n p (pC z.1) z.2.2.1 with
  | none => .inl (nmE B n p)
  | some i => .inr i
def nwS (B : Nat → Nat) (n p : Nat) (z : PZ) (c : Int32) : (Nat × Nat) ⊕ Nat := match cfS B n p (pM z.1) z.2.2.2 with
  | none => .inl (nmE B n p)
  | some i => if pF z.1 2 i = c then .inr i else .inl (nmE B n p)
theorem cfS_lt {k i : Nat} {nm : Nat → List Nat} (h : cfS B n p k nm = some i) : i < k ∧ tkK B n p = 1 ∧ tkL B n p = nm i := by
  obtain ⟨h1, h2, h3, -⟩ := fstF_some h
  exact ⟨by omega, of_decide_eq_true h3⟩
theorem t_X2_nextCabin (hz : PsV B n p0 p z μ) : CV Y_X2_nextCabin R_X2_nextCabin [.ref 79] μ (RdQ sT μ (ncS B n (tkE B n p) z) (.int (-1)) (fun a v V => v = some (.int (nI a)) ∧ PsV B n p0 (tkE B n p) z V)) := by
  refine CV.ent yk_X2_nextCabin (Nat.le_of_ble_eq_true rfl) ?_
  have hw := hz.wf
  have hT := hz.tk
  have hA := hz.at'
  have hp := hz.pv.pl
  have hr2 := hz.r2
  have hr1 := hz.r1
  have h900 := hz.n900
  have htx := hT.1
  have hpn := hz.le
  have hen := tkE_le (B := B) hpn
  have hcl : ∀ i, cfS B n (tkE B n p) (pC z.1) z.2.2.1 = some i → i < pC z.1 := fun i h => (cfS_lt h).1
  have hC4 := hz.pv.C4
  unfold ncS
  refine lf (a_aload_n dX2_nextCabin_0 rfl) ?_
  refine lf (a_getR (cr_79_0 (by repeat (first | with_reducible exact hw | with_reducible exact hwc | with_reducible assumption | with_reducible apply Wf.sI | with_reducible apply Wf.sL | with_reducible apply Wf.cpI | with_reducible apply Wf.cpL | with_reducible apply Wf.cp2 | with_reducible apply Wf.sIs | with_reducible apply Wf.sLs | with_reducible apply Wf.cpU | with_reducible apply Wf.fillI | with_reducible apply Wf.clU | with_reducible apply Wf.dnF | with_reducible apply Wf.gbW))) dX2_nextCabin_1 fs_X2_12 rfl (co_79 (by repeat (first | with_reducible exact hw | with_reducible exact hwc | with_reducible assumption | with_reducible apply Wf.sI | with_reducible apply Wf.sL | with_reducible apply Wf.cpI | with_reducible apply Wf.cpL | with_reducible apply Wf.cp2 | with_reducible apply Wf.sIs | with_reducible apply Wf.sLs | with_reducible apply Wf.cpU | with_reducible apply Wf.fillI | with_reducible apply Wf.clU | with_reducible apply Wf.dnF | with_reducible apply Wf.gbW)))) ?_
  obtain ⟨v_, W4, k4, rfl, hOT, hA2⟩ := (t_X9_next hw hT hen.2.1 hA.2.1)
  have hz2 := hz.next hOT hA2 hen.2.1
  have hwc := hz2.wf
  have hA4 := hz2.at'
  refine lf (a_inv (b2 := (0, 0)) k4 rfl dX2_nextCabin_4 yk_X9_next im_X9_next se_X9_next ml_X2_47 rfl (co_80 (by repeat (first | with_reducible exact hw | with_reducible exact hwc | with_reducible assumption | with_reducible apply Wf.sI | with_reducible apply Wf.sL | with_reducible apply Wf.cpI | with_reducible apply Wf.cpL | with_reducible apply Wf.cp2 | with_reducible apply Wf.sIs | with_reducible apply Wf.sLs | with_reducible apply Wf.cpU | with_reducible apply Wf.fillI | with_reducible apply Wf.clU | with_reducible apply Wf.dnF | with_reducible apply Wf.gbW))) (by decide) hc_X9 (by decide) (by decide) (Nat.le_of_ble_eq_true rfl)) ?_
  refine lf (a_aload_n dX2_nextCabin_7 rfl) ?_
  refine lf (a_inv (b2 := (0, 0)) (t_X2_cabinHere hz2) rfl dX2_nextCabin_8 yk_X2_cabinHere im_X2_cabinHere se_X2_cabinHere ml_X2_124 rfl (co_79 (by repeat (first | with_reducible exact hw | with_reducible exact hwc | with_reducible assumption | with_reducible apply Wf.sI | with_reducible apply Wf.sL | with_reducible apply Wf.cpI | with_reducible apply Wf.cpL | with_reducible apply Wf.cp2 | with_reducible apply Wf.sIs | with_reducible apply Wf.sLs | with_reducible apply Wf.cpU | with_reducible apply Wf.fillI | with_reducible apply Wf.clU | with_reducible apply Wf.dnF | with_reducible apply Wf.gbW))) (by decide) hc_X2 (by decide) (by decide) (Nat.le_of_ble_eq_true rfl)) ?_
  generalize cfS B n (tkE B n p) (pC z.1) z.2.2.1 = r at hcl ⊢
  refine lf (a_istore_n dX2_nextCabin_11 (by decide)) ?_
  refine lf (a_iload_n dX2_nextCabin_12 rfl) ?_
  refine lf (a_iconst (-1 : Int32) dX2_nextCabin_13 (by decide)) ?_
  refine lfn (a_icmp_ne (tgt := 38) dX2_nextCabin_14 (by decide)) (fun h14 => ?_) (fun h14 => ?_)
  · obtain ⟨i, rfl⟩ : ∃ i, r = some i := by
      cases r with
      | none => exact absurd rfl h14
      | some i => exact ⟨i, rfl⟩
    refine lf (a_iload_n dX2_nextCabin_38 rfl) ?_
    refine ⟨_, _, (a_ireturn dX2_nextCabin_39 rfl rfl), ?_⟩
    first
    | exact ⟨_, rfl, (ExT hOT).1.trans (hz2.err 3 _).1, by rw [nmE, if_pos ((kEq B n (tkE B n p) (k := 1) (by decide)).mp h26)]; exact ⟨rfl, (hz2.err 3 _).2⟩⟩
    | exact ⟨_, rfl, (ExT hOT).1.trans (hz2.err 1 _).1, by rw [nmE, if_neg (fun q => h26 ((kEq B n (tkE B n p) (k := 1) (by decide)).mpr q))]; exact ⟨rfl, (hz2.err 1 _).2⟩⟩
    | exact ⟨_, rfl, (ExT hOT).1, (ExT hOT).2, rfl, hz2⟩
  · have hrn : r = none := by
      cases r with
      | none => rfl
      | some i => exact absurd h14 (nI_ne1 (by have := hcl i rfl; omega))
    subst hrn
    refine lf (a_aload_n dX2_nextCabin_17 rfl) ?_
    refine lf (a_aload_n dX2_nextCabin_18 rfl) ?_
    refine lf (a_getR (cr_79_0 (by repeat (first | with_reducible exact hw | with_reducible exact hwc | with_reducible assumption | with_reducible apply Wf.sI | with_reducible apply Wf.sL | with_reducible apply Wf.cpI | with_reducible apply Wf.cpL | with_reducible apply Wf.cp2 | with_reducible apply Wf.sIs | with_reducible apply Wf.sLs | with_reducible apply Wf.cpU | with_reducible apply Wf.fillI | with_reducible apply Wf.clU | with_reducible apply Wf.dnF | with_reducible apply Wf.gbW))) dX2_nextCabin_19 fs_X2_12 rfl (co_79 (by repeat (first | with_reducible exact hw | with_reducible exact hwc | with_reducible assumption | with_reducible apply Wf.sI | with_reducible apply Wf.sL | with_reducible apply Wf.cpI | with_reducible apply Wf.cpL | with_reducible apply Wf.cp2 | with_reducible apply Wf.sIs | with_reducible apply Wf.sLs | with_reducible apply Wf.cpU | with_reducible apply Wf.fillI | with_reducible apply Wf.clU | with_reducible apply Wf.dnF | with_reducible apply Wf.gbW)))) ?_
    refine lf (a_getI dX2_nextCabin_22 fs_X2_50 rfl (co_80 (by repeat (first | with_reducible exact hw | with_reducible exact hwc | with_reducible assumption | with_reducible apply Wf.sI | with_reducible apply Wf.sL | with_reducible apply Wf.cpI | with_reducible apply Wf.cpL | with_reducible apply Wf.cp2 | with_reducible apply Wf.sIs | with_reducible apply Wf.sLs | with_reducible apply Wf.cpU | with_reducible apply Wf.fillI | with_reducible apply Wf.clU | with_reducible apply Wf.dnF | with_reducible apply Wf.gbW)))) ?_
    rw [hA4.2.2.1]
    refine lf (a_iconst (1 : Int32) dX2_nextCabin_25 (by decide)) ?_
    refine lfn (a_icmp_ne (tgt := 33) dX2_nextCabin_26 (by decide)) (fun h26 => ?_) (fun h26 => ?_)
    · refine lf (a_iconst (1 : Int32) dX2_nextCabin_33 (by decide)) ?_
      rw [show (1 : Int32) = nI 1 from rfl]
      refine lf (a_inv (b2 := (0, 0)) (t_X2_fail hwc hA4.1) rfl dX2_nextCabin_34 yk_X2_fail im_X2_fail se_X2_fail ml_X2_102 rfl (co_79 (by repeat (first | with_reducible exact hw | with_reducible exact hwc | with_reducible assumption | with_reducible apply Wf.sI | with_reducible apply Wf.sL | with_reducible apply Wf.cpI | with_reducible apply Wf.cpL | with_reducible apply Wf.cp2 | with_reducible apply Wf.sIs | with_reducible apply Wf.sLs | with_reducible apply Wf.cpU | with_reducible apply Wf.fillI | with_reducible apply Wf.clU | with_reducible apply Wf.dnF | with_reducible apply Wf.gbW))) (by decide) hc_X2 (by decide) (by decide) (Nat.le_of_ble_eq_true rfl)) ?_
      refine lf (a_pop dX2_nextCabin_37 rfl) ?_
      refine lf (a_iload_n dX2_nextCabin_38 rfl) ?_
      refine ⟨_, _, (a_ireturn dX2_nextCabin_39 rfl rfl), ?_⟩
      first
      | exact ⟨_, rfl, (ExT hOT).1.trans (hz2.err 3 _).1, by rw [nmE, if_pos ((kEq B n (tkE B n p) (k := 1) (by decide)).mp h26)]; exact ⟨rfl, (hz2.err 3 _).2⟩⟩
      | exact ⟨_, rfl, (ExT hOT).1.trans (hz2.err 1 _).1, by rw [nmE, if_neg (fun q => h26 ((kEq B n (tkE B n p) (k := 1) (by decide)).mpr q))]; exact ⟨rfl, (hz2.err 1 _).2⟩⟩
      | exact ⟨_, rfl, (ExT hOT).1, (ExT hOT).2, rfl, hz2⟩
    · refine lf (a_iconst (3 : Int32) dX2_nextCabin_29 (by decide)) ?_
      rw [show (3 : Int32) = nI 3 from rfl]
      refine lf (a_goto (tgt := 34) dX2_nextCabin_30 (by decide)) ?_
      refine lf (a_inv (b2 := (0, 0)) (t_X2_fail hwc hA4.1) rfl dX2_nextCabin_34 yk_X2_fail im_X2_fail se_X2_fail ml_X2_102 rfl (co_79 (by repeat (first | with_reducible exact hw | with_reducible exact hwc | with_reducible assumption | with_reducible apply Wf.sI | with_reducible apply Wf.sL | with_reducible apply Wf.cpI | with_reducible apply Wf.cpL | with_reducible apply Wf.cp2 | with_reducible apply Wf.sIs | with_reducible apply Wf.sLs | with_reducible apply Wf.cpU | with_reducible apply Wf.fillI | with_reducible apply Wf.clU | with_reducible apply Wf.dnF | with_reducible apply Wf.gbW))) (by decide) hc_X2 (by decide) (by decide) (Nat.le_of_ble_eq_true rfl)) ?_
      refine lf (a_pop dX2_nextCabin_37 rfl) ?_
      refine lf (a_iload_n dX2_nextCabin_38 rfl) ?_
      refine ⟨_, _, (a_ireturn dX2_nextCabin_39 rfl rfl), ?_⟩
      first
      | exact ⟨_, rfl, (ExT hOT).1.trans (hz2.err 3 _).1, by rw [nmE, if_pos ((kEq B n (tkE B n p) (k := 1) (by decide)).mp h26)]; exact ⟨rfl, (hz2.err 3 _).2⟩⟩
      | exact ⟨_, rfl, (ExT hOT).1.trans (hz2.err 1 _).1, by rw [nmE, if_neg (fun q => h26 ((kEq B n (tkE B n p) (k := 1) (by decide)).mpr q))]; exact ⟨rfl, (hz2.err 1 _).2⟩⟩
      | exact ⟨_, rfl, (ExT hOT).1, (ExT hOT).2, rfl, hz2⟩
abbrev R_X2_nextWish : Room := { frames := 9, cells := 0, slots := 0, locals := 226 }
abbrev RX_X2_nextWish : Room := { frames := 9, cells := 1, slots := 6, locals := 226 }

theorem t_X2_nextWish (hz : PsV B n p0 p z μ) (c : Int32) : CV Y_X2_nextWish R_X2_nextWish [.ref 79, .int c] μ (RdQ sT μ (nwS B n (tkE B n p) z c) (.int (-1)) (fun a v V => v = some (.int (nI a)) ∧ a < pM z.1 ∧ PsV B n p0 (tkE B n p) z V)) := by
  refine CV.ent yk_X2_nextWish (Nat.le_of_ble_eq_true rfl) ?_
  have hw := hz.wf
  have hT := hz.tk
  have hA := hz.at'
  have hp := hz.pv.pl
  have hr2 := hz.r2
  have hr1 := hz.r1
  have h900 := hz.n900
  have htx := hT.1
  have hpn := hz.le
  have hen := tkE_le (B := B) hpn
  have hcl : ∀ i, cfS B n (tkE B n p) (pM z.1) z.2.2.2 = some i → i < pM z.1 := fun i h => (cfS_lt h).1
  have hM4 := hz.pv.M4
  unfold nwS
  refine lf (a_aload_n dX2_nextWish_0 rfl) ?_
  refine lf (a_getR (cr_79_0 (by repeat (first | with_reducible exact hw | with_reducible exact hwc | with_reducible assumption | with_reducible apply Wf.sI | with_reducible apply Wf.sL | with_reducible apply Wf.cpI | with_reducible apply Wf.cpL | with_reducible apply Wf.cp2 | with_reducible apply Wf.sIs | with_reducible apply Wf.sLs | with_reducible apply Wf.cpU | with_reducible apply Wf.fillI | with_reducible apply Wf.clU | with_reducible apply Wf.dnF | with_reducible apply Wf.gbW))) dX2_nextWish_1 fs_X2_12 rfl (co_79 (by repeat (first | with_reducible exact hw | with_reducible exact hwc | with_reducible assumption | with_reducible apply Wf.sI | with_reducible apply Wf.sL | with_reducible apply Wf.cpI | with_reducible apply Wf.cpL | with_reducible apply Wf.cp2 | with_reducible apply Wf.sIs | with_reducible apply Wf.sLs | with_reducible apply Wf.cpU | with_reducible apply Wf.fillI | with_reducible apply Wf.clU | with_reducible apply Wf.dnF | with_reducible apply Wf.gbW)))) ?_
  obtain ⟨v_, W4, k4, rfl, hOT, hA2⟩ := (t_X9_next hw hT hen.2.1 hA.2.1)
  have hz2 := hz.next hOT hA2 hen.2.1
  have hwc := hz2.wf
  have hA4 := hz2.at'
  have hr22 := hz2.r2
  refine lf (a_inv (b2 := (0, 0)) k4 rfl dX2_nextWish_4 yk_X9_next im_X9_next se_X9_next ml_X2_47 rfl (co_80 (by repeat (first | with_reducible exact hw | with_reducible exact hwc | with_reducible assumption | with_reducible apply Wf.sI | with_reducible apply Wf.sL | with_reducible apply Wf.cpI | with_reducible apply Wf.cpL | with_reducible apply Wf.cp2 | with_reducible apply Wf.sIs | with_reducible apply Wf.sLs | with_reducible apply Wf.cpU | with_reducible apply Wf.fillI | with_reducible apply Wf.clU | with_reducible apply Wf.dnF | with_reducible apply Wf.gbW))) (by decide) hc_X9 (by decide) (by decide) (Nat.le_of_ble_eq_true rfl)) ?_
  refine lf (a_aload_n dX2_nextWish_7 rfl) ?_
  refine lf (a_inv (b2 := (0, 0)) (t_X2_mealHere hz2) rfl dX2_nextWish_8 yk_X2_mealHere im_X2_mealHere se_X2_mealHere ml_X2_153 rfl (co_79 (by repeat (first | with_reducible exact hw | with_reducible exact hwc | with_reducible assumption | with_reducible apply Wf.sI | with_reducible apply Wf.sL | with_reducible apply Wf.cpI | with_reducible apply Wf.cpL | with_reducible apply Wf.cp2 | with_reducible apply Wf.sIs | with_reducible apply Wf.sLs | with_reducible apply Wf.cpU | with_reducible apply Wf.fillI | with_reducible apply Wf.clU | with_reducible apply Wf.dnF | with_reducible apply Wf.gbW))) (by decide) hc_X2 (by decide) (by decide) (Nat.le_of_ble_eq_true rfl)) ?_
  generalize cfS B n (tkE B n p) (pM z.1) z.2.2.2 = r at hcl ⊢
  refine lf (a_istore_n dX2_nextWish_11 (by decide)) ?_
  refine lf (a_iload_n dX2_nextWish_12 rfl) ?_
  refine lf (a_iconst (-1 : Int32) dX2_nextWish_13 (by decide)) ?_
  refine lf2 (a_icmp_eq (tgt := 33) dX2_nextWish_14 (by decide)) (fun h14 => ?_) (fun h14 => ?_)
  · have hrn : r = none := by
      cases r with
      | none => rfl
      | some i => exact absurd h14 (nI_ne1 (by have := hcl i rfl; omega))
    subst hrn
    refine lf (a_aload_n dX2_nextWish_33 rfl) ?_
    refine lf (a_aload_n dX2_nextWish_34 rfl) ?_
    refine lf (a_getR (cr_79_0 (by repeat (first | with_reducible exact hw | with_reducible exact hwc | with_reducible assumption | with_reducible apply Wf.sI | with_reducible apply Wf.sL | with_reducible apply Wf.cpI | with_reducible apply Wf.cpL | with_reducible apply Wf.cp2 | with_reducible apply Wf.sIs | with_reducible apply Wf.sLs | with_reducible apply Wf.cpU | with_reducible apply Wf.fillI | with_reducible apply Wf.clU | with_reducible apply Wf.dnF | with_reducible apply Wf.gbW))) dX2_nextWish_35 fs_X2_12 rfl (co_79 (by repeat (first | with_reducible exact hw | with_reducible exact hwc | with_reducible assumption | with_reducible apply Wf.sI | with_reducible apply Wf.sL | with_reducible apply Wf.cpI | with_reducible apply Wf.cpL | with_reducible apply Wf.cp2 | with_reducible apply Wf.sIs | with_reducible apply Wf.sLs | with_reducible apply Wf.cpU | with_reducible apply Wf.fillI | with_reducible apply Wf.clU | with_reducible apply Wf.dnF | with_reducible apply Wf.gbW)))) ?_
    refine lf (a_getI dX2_nextWish_38 fs_X2_50 rfl (co_80 (by repeat (first | with_reducible exact hw | with_reducible exact hwc | with_reducible assumption | with_reducible apply Wf.sI | with_reducible apply Wf.sL | with_reducible apply Wf.cpI | with_reducible apply Wf.cpL | with_reducible apply Wf.cp2 | with_reducible apply Wf.sIs | with_reducible apply Wf.sLs | with_reducible apply Wf.cpU | with_reducible apply Wf.fillI | with_reducible apply Wf.clU | with_reducible apply Wf.dnF | with_reducible apply Wf.gbW)))) ?_
    rw [hA4.2.2.1]
    refine lf (a_iconst (1 : Int32) dX2_nextWish_41 (by decide)) ?_
    refine lfn (a_icmp_ne (tgt := 49) dX2_nextWish_42 (by decide)) (fun h42 => ?_) (fun h42 => ?_)
    · refine lf (a_iconst (1 : Int32) dX2_nextWish_49 (by decide)) ?_
      rw [show (1 : Int32) = nI 1 from rfl]
      refine lf (a_inv (b2 := (0, 0)) (t_X2_fail hwc hA4.1) rfl dX2_nextWish_50 yk_X2_fail im_X2_fail se_X2_fail ml_X2_102 rfl (co_79 (by repeat (first | with_reducible exact hw | with_reducible exact hwc | with_reducible assumption | with_reducible apply Wf.sI | with_reducible apply Wf.sL | with_reducible apply Wf.cpI | with_reducible apply Wf.cpL | with_reducible apply Wf.cp2 | with_reducible apply Wf.sIs | with_reducible apply Wf.sLs | with_reducible apply Wf.cpU | with_reducible apply Wf.fillI | with_reducible apply Wf.clU | with_reducible apply Wf.dnF | with_reducible apply Wf.gbW))) (by decide) hc_X2 (by decide) (by decide) (Nat.le_of_ble_eq_true rfl)) ?_
      refine lf (a_pop dX2_nextWish_53 rfl) ?_
      refine lf (a_iconst (-1 : Int32) dX2_nextWish_54 (by decide)) ?_
      refine ⟨_, _, (a_ireturn dX2_nextWish_55 rfl rfl), ?_⟩
      first
      | exact ⟨_, rfl, (ExT hOT).1.trans (hz2.err 3 _).1, by first | (dsimp only; rw [if_neg h30, nmE, if_pos ((kEq B n (tkE B n p) (k := 1) (by decide)).mp h42)]; exact ⟨rfl, (hz2.err 3 _).2⟩) | (rw [nmE, if_pos ((kEq B n (tkE B n p) (k := 1) (by decide)).mp h42)]; exact ⟨rfl, (hz2.err 3 _).2⟩)⟩
      | exact ⟨_, rfl, (ExT hOT).1.trans (hz2.err 1 _).1, by first | (dsimp only; rw [if_neg h30, nmE, if_neg (fun q => h42 ((kEq B n (tkE B n p) (k := 1) (by decide)).mpr q))]; exact ⟨rfl, (hz2.err 1 _).2⟩) | (rw [nmE, if_neg (fun q => h42 ((kEq B n (tkE B n p) (k := 1) (by decide)).mpr q))]; exact ⟨rfl, (hz2.err 1 _).2⟩)⟩
    · refine lf (a_iconst (3 : Int32) dX2_nextWish_45 (by decide)) ?_
      rw [show (3 : Int32) = nI 3 from rfl]
      refine lf (a_goto (tgt := 50) dX2_nextWish_46 (by decide)) ?_
      refine lf (a_inv (b2 := (0, 0)) (t_X2_fail hwc hA4.1) rfl dX2_nextWish_50 yk_X2_fail im_X2_fail se_X2_fail ml_X2_102 rfl (co_79 (by repeat (first | with_reducible exact hw | with_reducible exact hwc | with_reducible assumption | with_reducible apply Wf.sI | with_reducible apply Wf.sL | with_reducible apply Wf.cpI | with_reducible apply Wf.cpL | with_reducible apply Wf.cp2 | with_reducible apply Wf.sIs | with_reducible apply Wf.sLs | with_reducible apply Wf.cpU | with_reducible apply Wf.fillI | with_reducible apply Wf.clU | with_reducible apply Wf.dnF | with_reducible apply Wf.gbW))) (by decide) hc_X2 (by decide) (by decide) (Nat.le_of_ble_eq_true rfl)) ?_
      refine lf (a_pop dX2_nextWish_53 rfl) ?_
      refine lf (a_iconst (-1 : Int32) dX2_nextWish_54 (by decide)) ?_
      refine ⟨_, _, (a_ireturn dX2_nextWish_55 rfl rfl), ?_⟩
      first
      | exact ⟨_, rfl, (ExT hOT).1.trans (hz2.err 3 _).1, by first | (dsimp only; rw [if_neg h30, nmE, if_pos ((kEq B n (tkE B n p) (k := 1) (by decide)).mp h42)]; exact ⟨rfl, (hz2.err 3 _).2⟩) | (rw [nmE, if_pos ((kEq B n (tkE B n p) (k := 1) (by decide)).mp h42)]; exact ⟨rfl, (hz2.err 3 _).2⟩)⟩
      | exact ⟨_, rfl, (ExT hOT).1.trans (hz2.err 1 _).1, by first | (dsimp only; rw [if_neg h30, nmE, if_neg (fun q => h42 ((kEq B n (tkE B n p) (k := 1) (by decide)).mpr q))]; exact ⟨rfl, (hz2.err 1 _).2⟩) | (rw [nmE, if_neg (fun q => h42 ((kEq B n (tkE B n p) (k := 1) (by decide)).mpr q))]; exact ⟨rfl, (hz2.err 1 _).2⟩)⟩
  · obtain ⟨i, rfl⟩ : ∃ i, r = some i := by
      cases r with
      | none => exact absurd rfl h14
      | some i => exact ⟨i, rfl⟩
    rw [show oI (some i) = nI i from rfl]
    refine lf (a_aload_n dX2_nextWish_17 rfl) ?_
    refine lf (a_getR hr22 dX2_nextWish_18 fs_X2_22 rfl (co_79 (by repeat (first | with_reducible exact hw | with_reducible exact hwc | with_reducible assumption | with_reducible apply Wf.sI | with_reducible apply Wf.sL | with_reducible apply Wf.cpI | with_reducible apply Wf.cpL | with_reducible apply Wf.cp2 | with_reducible apply Wf.sIs | with_reducible apply Wf.sLs | with_reducible apply Wf.cpU | with_reducible apply Wf.fillI | with_reducible apply Wf.clU | with_reducible apply Wf.dnF | with_reducible apply Wf.gbW)))) ?_
    refine lf (a_getR (pl_r4 (by repeat (first | with_reducible exact hw | with_reducible exact hwc | with_reducible assumption | with_reducible apply Wf.sI | with_reducible apply Wf.sL | with_reducible apply Wf.cpI | with_reducible apply Wf.cpL | with_reducible apply Wf.cp2 | with_reducible apply Wf.sIs | with_reducible apply Wf.sLs | with_reducible apply Wf.cpU | with_reducible apply Wf.fillI | with_reducible apply Wf.clU | with_reducible apply Wf.dnF | with_reducible apply Wf.gbW)) hp) dX2_nextWish_21 fs_X2_156 rfl (pl_o (by repeat (first | with_reducible exact hw | with_reducible exact hwc | with_reducible assumption | with_reducible apply Wf.sI | with_reducible apply Wf.sL | with_reducible apply Wf.cpI | with_reducible apply Wf.cpL | with_reducible apply Wf.cp2 | with_reducible apply Wf.sIs | with_reducible apply Wf.sLs | with_reducible apply Wf.cpU | with_reducible apply Wf.fillI | with_reducible apply Wf.clU | with_reducible apply Wf.dnF | with_reducible apply Wf.gbW)) hp)) ?_
    refine lf (a_iload_n dX2_nextWish_24 rfl) ?_
    refine lf (a_aald (j := i) dX2_nextWish_25 (pl_a6 (by repeat (first | with_reducible exact hw | with_reducible exact hwc | with_reducible assumption | with_reducible apply Wf.sI | with_reducible apply Wf.sL | with_reducible apply Wf.cpI | with_reducible apply Wf.cpL | with_reducible apply Wf.cp2 | with_reducible apply Wf.sIs | with_reducible apply Wf.sLs | with_reducible apply Wf.cpU | with_reducible apply Wf.fillI | with_reducible apply Wf.clU | with_reducible apply Wf.dnF | with_reducible apply Wf.gbW)) hp) (by decide) (ixn (show i < 12 by have := hcl i rfl; omega) (by decide)) (pl_rm (by repeat (first | with_reducible exact hw | with_reducible exact hwc | with_reducible assumption | with_reducible apply Wf.sI | with_reducible apply Wf.sL | with_reducible apply Wf.cpI | with_reducible apply Wf.cpL | with_reducible apply Wf.cp2 | with_reducible apply Wf.sIs | with_reducible apply Wf.sLs | with_reducible apply Wf.cpU | with_reducible apply Wf.fillI | with_reducible apply Wf.clU | with_reducible apply Wf.dnF | with_reducible apply Wf.gbW)) hp (by have := hcl i rfl; omega))) ?_
    refine lf (a_getI dX2_nextWish_26 fs_X2_179 rfl (pl_m (by repeat (first | with_reducible exact hw | with_reducible exact hwc | with_reducible assumption | with_reducible apply Wf.sI | with_reducible apply Wf.sL | with_reducible apply Wf.cpI | with_reducible apply Wf.cpL | with_reducible apply Wf.cp2 | with_reducible apply Wf.sIs | with_reducible apply Wf.sLs | with_reducible apply Wf.cpU | with_reducible apply Wf.fillI | with_reducible apply Wf.clU | with_reducible apply Wf.dnF | with_reducible apply Wf.gbW)) hp (by have := hcl i rfl; omega))) ?_
    rw [hz2.pv.m1 (hcl i rfl)]
    refine lf (a_iload_n dX2_nextWish_29 rfl) ?_
    refine lf2 (a_icmp_eq (tgt := 56) dX2_nextWish_30 (by decide)) (fun h30 => ?_) (fun h30 => ?_)
    · refine lf (a_iload_n dX2_nextWish_56 rfl) ?_
      refine ⟨_, _, (a_ireturn dX2_nextWish_57 rfl rfl), ?_⟩
      exact ⟨_, rfl, (ExT hOT).1, by dsimp only; rw [if_pos h30]; exact ⟨(ExT hOT).2, rfl, hcl i rfl, hz2⟩⟩
    · refine lf (a_aload_n dX2_nextWish_33 rfl) ?_
      refine lf (a_aload_n dX2_nextWish_34 rfl) ?_
      refine lf (a_getR (cr_79_0 (by repeat (first | with_reducible exact hw | with_reducible exact hwc | with_reducible assumption | with_reducible apply Wf.sI | with_reducible apply Wf.sL | with_reducible apply Wf.cpI | with_reducible apply Wf.cpL | with_reducible apply Wf.cp2 | with_reducible apply Wf.sIs | with_reducible apply Wf.sLs | with_reducible apply Wf.cpU | with_reducible apply Wf.fillI | with_reducible apply Wf.clU | with_reducible apply Wf.dnF | with_reducible apply Wf.gbW))) dX2_nextWish_35 fs_X2_12 rfl (co_79 (by repeat (first | with_reducible exact hw | with_reducible exact hwc | with_reducible assumption | with_reducible apply Wf.sI | with_reducible apply Wf.sL | with_reducible apply Wf.cpI | with_reducible apply Wf.cpL | with_reducible apply Wf.cp2 | with_reducible apply Wf.sIs | with_reducible apply Wf.sLs | with_reducible apply Wf.cpU | with_reducible apply Wf.fillI | with_reducible apply Wf.clU | with_reducible apply Wf.dnF | with_reducible apply Wf.gbW)))) ?_
      refine lf (a_getI dX2_nextWish_38 fs_X2_50 rfl (co_80 (by repeat (first | with_reducible exact hw | with_reducible exact hwc | with_reducible assumption | with_reducible apply Wf.sI | with_reducible apply Wf.sL | with_reducible apply Wf.cpI | with_reducible apply Wf.cpL | with_reducible apply Wf.cp2 | with_reducible apply Wf.sIs | with_reducible apply Wf.sLs | with_reducible apply Wf.cpU | with_reducible apply Wf.fillI | with_reducible apply Wf.clU | with_reducible apply Wf.dnF | with_reducible apply Wf.gbW)))) ?_
      rw [hA4.2.2.1]
      refine lf (a_iconst (1 : Int32) dX2_nextWish_41 (by decide)) ?_
      refine lfn (a_icmp_ne (tgt := 49) dX2_nextWish_42 (by decide)) (fun h42 => ?_) (fun h42 => ?_)
      · refine lf (a_iconst (1 : Int32) dX2_nextWish_49 (by decide)) ?_
        rw [show (1 : Int32) = nI 1 from rfl]
        refine lf (a_inv (b2 := (0, 0)) (t_X2_fail hwc hA4.1) rfl dX2_nextWish_50 yk_X2_fail im_X2_fail se_X2_fail ml_X2_102 rfl (co_79 (by repeat (first | with_reducible exact hw | with_reducible exact hwc | with_reducible assumption | with_reducible apply Wf.sI | with_reducible apply Wf.sL | with_reducible apply Wf.cpI | with_reducible apply Wf.cpL | with_reducible apply Wf.cp2 | with_reducible apply Wf.sIs | with_reducible apply Wf.sLs | with_reducible apply Wf.cpU | with_reducible apply Wf.fillI | with_reducible apply Wf.clU | with_reducible apply Wf.dnF | with_reducible apply Wf.gbW))) (by decide) hc_X2 (by decide) (by decide) (Nat.le_of_ble_eq_true rfl)) ?_
        refine lf (a_pop dX2_nextWish_53 rfl) ?_
        refine lf (a_iconst (-1 : Int32) dX2_nextWish_54 (by decide)) ?_
        refine ⟨_, _, (a_ireturn dX2_nextWish_55 rfl rfl), ?_⟩
        first
        | exact ⟨_, rfl, (ExT hOT).1.trans (hz2.err 3 _).1, by first | (dsimp only; rw [if_neg h30, nmE, if_pos ((kEq B n (tkE B n p) (k := 1) (by decide)).mp h42)]; exact ⟨rfl, (hz2.err 3 _).2⟩) | (rw [nmE, if_pos ((kEq B n (tkE B n p) (k := 1) (by decide)).mp h42)]; exact ⟨rfl, (hz2.err 3 _).2⟩)⟩
        | exact ⟨_, rfl, (ExT hOT).1.trans (hz2.err 1 _).1, by first | (dsimp only; rw [if_neg h30, nmE, if_neg (fun q => h42 ((kEq B n (tkE B n p) (k := 1) (by decide)).mpr q))]; exact ⟨rfl, (hz2.err 1 _).2⟩) | (rw [nmE, if_neg (fun q => h42 ((kEq B n (tkE B n p) (k := 1) (by decide)).mpr q))]; exact ⟨rfl, (hz2.err 1 _).2⟩)⟩
      · refine lf (a_iconst (3 : Int32) dX2_nextWish_45 (by decide)) ?_
        rw [show (3 : Int32) = nI 3 from rfl]
        refine lf (a_goto (tgt := 50) dX2_nextWish_46 (by decide)) ?_
        refine lf (a_inv (b2 := (0, 0)) (t_X2_fail hwc hA4.1) rfl dX2_nextWish_50 yk_X2_fail im_X2_fail se_X2_fail ml_X2_102 rfl (co_79 (by repeat (first | with_reducible exact hw | with_reducible exact hwc | with_reducible assumption | with_reducible apply Wf.sI | with_reducible apply Wf.sL | with_reducible apply Wf.cpI | with_reducible apply Wf.cpL | with_reducible apply Wf.cp2 | with_reducible apply Wf.sIs | with_reducible apply Wf.sLs | with_reducible apply Wf.cpU | with_reducible apply Wf.fillI | with_reducible apply Wf.clU | with_reducible apply Wf.dnF | with_reducible apply Wf.gbW))) (by decide) hc_X2 (by decide) (by decide) (Nat.le_of_ble_eq_true rfl)) ?_
        refine lf (a_pop dX2_nextWish_53 rfl) ?_
        refine lf (a_iconst (-1 : Int32) dX2_nextWish_54 (by decide)) ?_
        refine ⟨_, _, (a_ireturn dX2_nextWish_55 rfl rfl), ?_⟩
        first
        | exact ⟨_, rfl, (ExT hOT).1.trans (hz2.err 3 _).1, by first | (dsimp only; rw [if_neg h30, nmE, if_pos ((kEq B n (tkE B n p) (k := 1) (by decide)).mp h42)]; exact ⟨rfl, (hz2.err 3 _).2⟩) | (rw [nmE, if_pos ((kEq B n (tkE B n p) (k := 1) (by decide)).mp h42)]; exact ⟨rfl, (hz2.err 3 _).2⟩)⟩
        | exact ⟨_, rfl, (ExT hOT).1.trans (hz2.err 1 _).1, by first | (dsimp only; rw [if_neg h30, nmE, if_neg (fun q => h42 ((kEq B n (tkE B n p) (k := 1) (by decide)).mpr q))]; exact ⟨rfl, (hz2.err 1 _).2⟩) | (rw [nmE, if_neg (fun q => h42 ((kEq B n (tkE B n p) (k := 1) (by decide)).mpr q))]; exact ⟨rfl, (hz2.err 1 _).2⟩)⟩
end PARSF
