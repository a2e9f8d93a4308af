section PARSP
variable {μ W Wb : Wd} {B : Nat → Nat} {n p0 p : Nat} {z : PZ}
/-- a statement -/
def stS (B : Nat → Nat) (n p : Nat) (z : PZ) : (Nat × Nat) ⊕ (Nat × PZ) := if wdI B n p 4 then stTime B n p z else if wdI B n p 5 then stLead B n p z else if wdI B n p 6 then stCabin B n p z else if wdI B n p 8 then stMeal B n p z else if wdI B n p 12 then stTrolley B n p z else if wdI B n p 13 then stGuests B n p z else if wdI B n p 14 then stGuest B n p z else .inl (1, tkS B n p)
theorem StQ.v {r : (Nat × Nat) ⊕ (Nat × PZ)} {v : Option Value} {V : Wd} (h : StQ B n p0 μ r v V) : ∃ x : Int32, v = some (.int x) ∧ (x = 0 ∨ x = 1) := by
  have h2 := h.2
  cases r with
  | inl e => exact ⟨0, h2.1, Or.inl rfl⟩
  | inr a => exact ⟨1, h2.2.1, Or.inr rfl⟩
theorem StN.v {r : (Nat × Nat) ⊕ (Nat × PZ)} {v : Option Value} {V : Wd} (h : StN B n p0 μ r v V) : ∃ x : Int32, v = some (.int x) ∧ (x = 0 ∨ x = 1) := by
  have h2 := h.2.2
  cases r with
  | inl e => exact ⟨0, h2.1, Or.inl rfl⟩
  | inr a => exact ⟨1, h2.2.2.1, Or.inr rfl⟩
abbrev R_X2_readStatement : Room := { frames := 12, cells := 0, slots := 0, locals := 306 }
abbrev RX_X2_readStatement : Room := { frames := 12, cells := 1, slots := 6, locals := 306 }

abbrev R3_X2_readStatement : Room := { frames := 12, cells := 3, slots := 16, locals := 306 }
theorem t_X2_readStatement (hz : PsV B n p0 p z μ) (hC : wdI B n p 6 = true → 4 ≤ pC z.1) (hM : wdI B n p 8 = true → 12 ≤ pM z.1) : CV Y_X2_readStatement R_X2_readStatement [.ref 79] μ (StQ B n p0 μ (stS B n p z)) := by
  refine CV.ent yk_X2_readStatement (Nat.le_of_ble_eq_true rfl) ?_
  have hw := hz.wf
  have hp := hz.pv.pl
  have hwc := hz.wf
  have hr2 := hz.r2
  have hr1 := hz.r1
  have hA := hz.at'
  have hpn := hz.le
  have hen := tkE_le (B := B) hpn
  have htx := hz.tk.1
  refine lf (a_aload_n dX2_readStatement_0 rfl) ?_
  refine lf (a_getR (cr_79_0 (by repeat (first | with_reducible exact hw | with_reducible exact hwc | with_reducible assumption | with_reducible apply Wf.sI | with_reducible apply Wf.sL | with_reducible apply Wf.cpI | with_reducible apply Wf.cpL | with_reducible apply Wf.cp2 | with_reducible apply Wf.sIs | with_reducible apply Wf.sLs | with_reducible apply Wf.cpU | with_reducible apply Wf.fillI | with_reducible apply Wf.clU | with_reducible apply Wf.dnF | with_reducible apply Wf.gbW))) dX2_readStatement_1 fs_X2_12 rfl (co_79 (by repeat (first | with_reducible exact hw | with_reducible exact hwc | with_reducible assumption | with_reducible apply Wf.sI | with_reducible apply Wf.sL | with_reducible apply Wf.cpI | with_reducible apply Wf.cpL | with_reducible apply Wf.cp2 | with_reducible apply Wf.sIs | with_reducible apply Wf.sLs | with_reducible apply Wf.cpU | with_reducible apply Wf.fillI | with_reducible apply Wf.clU | with_reducible apply Wf.dnF | with_reducible apply Wf.gbW)))) ?_
  refine lf (a_ldcS (n := 4) (tx := "time") dX2_readStatement_4 rfl) ?_
  refine lf (a_inv (b2 := (0, 0)) (t_X9_is hz.wf hz.tk hz.le hz.at' (StrV.const (μ := μ) k_time)) rfl dX2_readStatement_6 yk_X9_is im_X9_is se_X9_is ml_X2_65 rfl (co_80 (by repeat (first | with_reducible exact hw | with_reducible exact hwc | with_reducible assumption | with_reducible apply Wf.sI | with_reducible apply Wf.sL | with_reducible apply Wf.cpI | with_reducible apply Wf.cpL | with_reducible apply Wf.cp2 | with_reducible apply Wf.sIs | with_reducible apply Wf.sLs | with_reducible apply Wf.cpU | with_reducible apply Wf.fillI | with_reducible apply Wf.clU | with_reducible apply Wf.dnF | with_reducible apply Wf.gbW))) (by decide) hc_X9 (by decide) (by decide) (Nat.le_of_ble_eq_true rfl)) ?_
  refine lf2 (a_if_eq (tgt := 17) dX2_readStatement_9 (by decide)) (fun h9 => ?_) (fun h9 => ?_)
  · have hw9 := wd_t h9
    refine lf (a_aload_n dX2_readStatement_17 rfl) ?_
    refine lf (a_getR (cr_79_0 (by repeat (first | with_reducible exact hw | with_reducible exact hwc | with_reducible assumption | with_reducible apply Wf.sI | with_reducible apply Wf.sL | with_reducible apply Wf.cpI | with_reducible apply Wf.cpL | with_reducible apply Wf.cp2 | with_reducible apply Wf.sIs | with_reducible apply Wf.sLs | with_reducible apply Wf.cpU | with_reducible apply Wf.fillI | with_reducible apply Wf.clU | with_reducible apply Wf.dnF | with_reducible apply Wf.gbW))) dX2_readStatement_18 fs_X2_12 rfl (co_79 (by repeat (first | with_reducible exact hw | with_reducible exact hwc | with_reducible assumption | with_reducible apply Wf.sI | with_reducible apply Wf.sL | with_reducible apply Wf.cpI | with_reducible apply Wf.cpL | with_reducible apply Wf.cp2 | with_reducible apply Wf.sIs | with_reducible apply Wf.sLs | with_reducible apply Wf.cpU | with_reducible apply Wf.fillI | with_reducible apply Wf.clU | with_reducible apply Wf.dnF | with_reducible apply Wf.gbW)))) ?_
    refine lf (a_ldcS (n := 5) (tx := "lead") dX2_readStatement_21 rfl) ?_
    refine lf (a_inv (b2 := (0, 0)) (t_X9_is hz.wf hz.tk hz.le hz.at' (StrV.const (μ := μ) k_lead)) rfl dX2_readStatement_23 yk_X9_is im_X9_is se_X9_is ml_X2_65 rfl (co_80 (by repeat (first | with_reducible exact hw | with_reducible exact hwc | with_reducible assumption | with_reducible apply Wf.sI | with_reducible apply Wf.sL | with_reducible apply Wf.cpI | with_reducible apply Wf.cpL | with_reducible apply Wf.cp2 | with_reducible apply Wf.sIs | with_reducible apply Wf.sLs | with_reducible apply Wf.cpU | with_reducible apply Wf.fillI | with_reducible apply Wf.clU | with_reducible apply Wf.dnF | with_reducible apply Wf.gbW))) (by decide) hc_X9 (by decide) (by decide) (Nat.le_of_ble_eq_true rfl)) ?_
    refine lf2 (a_if_eq (tgt := 34) dX2_readStatement_26 (by decide)) (fun h26 => ?_) (fun h26 => ?_)
    · have hw26 := wd_t h26
      refine lf (a_aload_n dX2_readStatement_34 rfl) ?_
      refine lf (a_getR (cr_79_0 (by repeat (first | with_reducible exact hw | with_reducible exact hwc | with_reducible assumption | with_reducible apply Wf.sI | with_reducible apply Wf.sL | with_reducible apply Wf.cpI | with_reducible apply Wf.cpL | with_reducible apply Wf.cp2 | with_reducible apply Wf.sIs | with_reducible apply Wf.sLs | with_reducible apply Wf.cpU | with_reducible apply Wf.fillI | with_reducible apply Wf.clU | with_reducible apply Wf.dnF | with_reducible apply Wf.gbW))) dX2_readStatement_35 fs_X2_12 rfl (co_79 (by repeat (first | with_reducible exact hw | with_reducible exact hwc | with_reducible assumption | with_reducible apply Wf.sI | with_reducible apply Wf.sL | with_reducible apply Wf.cpI | with_reducible apply Wf.cpL | with_reducible apply Wf.cp2 | with_reducible apply Wf.sIs | with_reducible apply Wf.sLs | with_reducible apply Wf.cpU | with_reducible apply Wf.fillI | with_reducible apply Wf.clU | with_reducible apply Wf.dnF | with_reducible apply Wf.gbW)))) ?_
      refine lf (a_ldcS (n := 6) (tx := "cabin") dX2_readStatement_38 rfl) ?_
      refine lf (a_inv (b2 := (0, 0)) (t_X9_is hz.wf hz.tk hz.le hz.at' (StrV.const (μ := μ) k_cabin)) rfl dX2_readStatement_40 yk_X9_is im_X9_is se_X9_is ml_X2_65 rfl (co_80 (by repeat (first | with_reducible exact hw | with_reducible exact hwc | with_reducible assumption | with_reducible apply Wf.sI | with_reducible apply Wf.sL | with_reducible apply Wf.cpI | with_reducible apply Wf.cpL | with_reducible apply Wf.cp2 | with_reducible apply Wf.sIs | with_reducible apply Wf.sLs | with_reducible apply Wf.cpU | with_reducible apply Wf.fillI | with_reducible apply Wf.clU | with_reducible apply Wf.dnF | with_reducible apply Wf.gbW))) (by decide) hc_X9 (by decide) (by decide) (Nat.le_of_ble_eq_true rfl)) ?_
      refine lf2 (a_if_eq (tgt := 51) dX2_readStatement_43 (by decide)) (fun h43 => ?_) (fun h43 => ?_)
      · have hw43 := wd_t h43
        refine lf (a_aload_n dX2_readStatement_51 rfl) ?_
        refine lf (a_getR (cr_79_0 (by repeat (first | with_reducible exact hw | with_reducible exact hwc | with_reducible assumption | with_reducible apply Wf.sI | with_reducible apply Wf.sL | with_reducible apply Wf.cpI | with_reducible apply Wf.cpL | with_reducible apply Wf.cp2 | with_reducible apply Wf.sIs | with_reducible apply Wf.sLs | with_reducible apply Wf.cpU | with_reducible apply Wf.fillI | with_reducible apply Wf.clU | with_reducible apply Wf.dnF | with_reducible apply Wf.gbW))) dX2_readStatement_52 fs_X2_12 rfl (co_79 (by repeat (first | with_reducible exact hw | with_reducible exact hwc | with_reducible assumption | with_reducible apply Wf.sI | with_reducible apply Wf.sL | with_reducible apply Wf.cpI | with_reducible apply Wf.cpL | with_reducible apply Wf.cp2 | with_reducible apply Wf.sIs | with_reducible apply Wf.sLs | with_reducible apply Wf.cpU | with_reducible apply Wf.fillI | with_reducible apply Wf.clU | with_reducible apply Wf.dnF | with_reducible apply Wf.gbW)))) ?_
        refine lf (a_ldcS (n := 8) (tx := "meal") dX2_readStatement_55 rfl) ?_
        refine lf (a_inv (b2 := (0, 0)) (t_X9_is hz.wf hz.tk hz.le hz.at' (StrV.const (μ := μ) k_meal)) rfl dX2_readStatement_57 yk_X9_is im_X9_is se_X9_is ml_X2_65 rfl (co_80 (by repeat (first | with_reducible exact hw | with_reducible exact hwc | with_reducible assumption | with_reducible apply Wf.sI | with_reducible apply Wf.sL | with_reducible apply Wf.cpI | with_reducible apply Wf.cpL | with_reducible apply Wf.cp2 | with_reducible apply Wf.sIs | with_reducible apply Wf.sLs | with_reducible apply Wf.cpU | with_reducible apply Wf.fillI | with_reducible apply Wf.clU | with_reducible apply Wf.dnF | with_reducible apply Wf.gbW))) (by decide) hc_X9 (by decide) (by decide) (Nat.le_of_ble_eq_true rfl)) ?_
        refine lf2 (a_if_eq (tgt := 68) dX2_readStatement_60 (by decide)) (fun h60 => ?_) (fun h60 => ?_)
        · have hw60 := wd_t h60
          refine lf (a_aload_n dX2_readStatement_68 rfl) ?_
          refine lf (a_getR (cr_79_0 (by repeat (first | with_reducible exact hw | with_reducible exact hwc | with_reducible assumption | with_reducible apply Wf.sI | with_reducible apply Wf.sL | with_reducible apply Wf.cpI | with_reducible apply Wf.cpL | with_reducible apply Wf.cp2 | with_reducible apply Wf.sIs | with_reducible apply Wf.sLs | with_reducible apply Wf.cpU | with_reducible apply Wf.fillI | with_reducible apply Wf.clU | with_reducible apply Wf.dnF | with_reducible apply Wf.gbW))) dX2_readStatement_69 fs_X2_12 rfl (co_79 (by repeat (first | with_reducible exact hw | with_reducible exact hwc | with_reducible assumption | with_reducible apply Wf.sI | with_reducible apply Wf.sL | with_reducible apply Wf.cpI | with_reducible apply Wf.cpL | with_reducible apply Wf.cp2 | with_reducible apply Wf.sIs | with_reducible apply Wf.sLs | with_reducible apply Wf.cpU | with_reducible apply Wf.fillI | with_reducible apply Wf.clU | with_reducible apply Wf.dnF | with_reducible apply Wf.gbW)))) ?_
          refine lf (a_ldcS (n := 12) (tx := "trolley") dX2_readStatement_72 rfl) ?_
          refine lf (a_inv (b2 := (0, 0)) (t_X9_is hz.wf hz.tk hz.le hz.at' (StrV.const (μ := μ) k_trolley)) rfl dX2_readStatement_74 yk_X9_is im_X9_is se_X9_is ml_X2_65 rfl (co_80 (by repeat (first | with_reducible exact hw | with_reducible exact hwc | with_reducible assumption | with_reducible apply Wf.sI | with_reducible apply Wf.sL | with_reducible apply Wf.cpI | with_reducible apply Wf.cpL | with_reducible apply Wf.cp2 | with_reducible apply Wf.sIs | with_reducible apply Wf.sLs | with_reducible apply Wf.cpU | with_reducible apply Wf.fillI | with_reducible apply Wf.clU | with_reducible apply Wf.dnF | with_reducible apply Wf.gbW))) (by decide) hc_X9 (by decide) (by decide) (Nat.le_of_ble_eq_true rfl)) ?_
          refine lf2 (a_if_eq (tgt := 85) dX2_readStatement_77 (by decide)) (fun h77 => ?_) (fun h77 => ?_)
          · have hw77 := wd_t h77
            refine lf (a_aload_n dX2_readStatement_85 rfl) ?_
            refine lf (a_getR (cr_79_0 (by repeat (first | with_reducible exact hw | with_reducible exact hwc | with_reducible assumption | with_reducible apply Wf.sI | with_reducible apply Wf.sL | with_reducible apply Wf.cpI | with_reducible apply Wf.cpL | with_reducible apply Wf.cp2 | with_reducible apply Wf.sIs | with_reducible apply Wf.sLs | with_reducible apply Wf.cpU | with_reducible apply Wf.fillI | with_reducible apply Wf.clU | with_reducible apply Wf.dnF | with_reducible apply Wf.gbW))) dX2_readStatement_86 fs_X2_12 rfl (co_79 (by repeat (first | with_reducible exact hw | with_reducible exact hwc | with_reducible assumption | with_reducible apply Wf.sI | with_reducible apply Wf.sL | with_reducible apply Wf.cpI | with_reducible apply Wf.cpL | with_reducible apply Wf.cp2 | with_reducible apply Wf.sIs | with_reducible apply Wf.sLs | with_reducible apply Wf.cpU | with_reducible apply Wf.fillI | with_reducible apply Wf.clU | with_reducible apply Wf.dnF | with_reducible apply Wf.gbW)))) ?_
            refine lf (a_ldcS (n := 13) (tx := "guests") dX2_readStatement_89 rfl) ?_
            refine lf (a_inv (b2 := (0, 0)) (t_X9_is hz.wf hz.tk hz.le hz.at' (StrV.const (μ := μ) k_guests)) rfl dX2_readStatement_91 yk_X9_is im_X9_is se_X9_is ml_X2_65 rfl (co_80 (by repeat (first | with_reducible exact hw | with_reducible exact hwc | with_reducible assumption | with_reducible apply Wf.sI | with_reducible apply Wf.sL | with_reducible apply Wf.cpI | with_reducible apply Wf.cpL | with_reducible apply Wf.cp2 | with_reducible apply Wf.sIs | with_reducible apply Wf.sLs | with_reducible apply Wf.cpU | with_reducible apply Wf.fillI | with_reducible apply Wf.clU | with_reducible apply Wf.dnF | with_reducible apply Wf.gbW))) (by decide) hc_X9 (by decide) (by decide) (Nat.le_of_ble_eq_true rfl)) ?_
            refine lf2 (a_if_eq (tgt := 102) dX2_readStatement_94 (by decide)) (fun h94 => ?_) (fun h94 => ?_)
            · have hw94 := wd_t h94
              refine lf (a_aload_n dX2_readStatement_102 rfl) ?_
              refine lf (a_getR (cr_79_0 (by repeat (first | with_reducible exact hw | with_reducible exact hwc | with_reducible assumption | with_reducible apply Wf.sI | with_reducible apply Wf.sL | with_reducible apply Wf.cpI | with_reducible apply Wf.cpL | with_reducible apply Wf.cp2 | with_reducible apply Wf.sIs | with_reducible apply Wf.sLs | with_reducible apply Wf.cpU | with_reducible apply Wf.fillI | with_reducible apply Wf.clU | with_reducible apply Wf.dnF | with_reducible apply Wf.gbW))) dX2_readStatement_103 fs_X2_12 rfl (co_79 (by repeat (first | with_reducible exact hw | with_reducible exact hwc | with_reducible assumption | with_reducible apply Wf.sI | with_reducible apply Wf.sL | with_reducible apply Wf.cpI | with_reducible apply Wf.cpL | with_reducible apply Wf.cp2 | with_reducible apply Wf.sIs | with_reducible apply Wf.sLs | with_reducible apply Wf.cpU | with_reducible apply Wf.fillI | with_reducible apply Wf.clU | with_reducible apply Wf.dnF | with_reducible apply Wf.gbW)))) ?_
              refine lf (a_ldcS (n := 14) (tx := "guest") dX2_readStatement_106 rfl) ?_
              refine lf (a_inv (b2 := (0, 0)) (t_X9_is hz.wf hz.tk hz.le hz.at' (StrV.const (μ := μ) k_guest)) rfl dX2_readStatement_108 yk_X9_is im_X9_is se_X9_is ml_X2_65 rfl (co_80 (by repeat (first | with_reducible exact hw | with_reducible exact hwc | with_reducible assumption | with_reducible apply Wf.sI | with_reducible apply Wf.sL | with_reducible apply Wf.cpI | with_reducible apply Wf.cpL | with_reducible apply Wf.cp2 | with_reducible apply Wf.sIs | with_reducible apply Wf.sLs | with_reducible apply Wf.cpU | with_reducible apply Wf.fillI | with_reducible apply Wf.clU | with_reducible apply Wf.dnF | with_reducible apply Wf.gbW))) (by decide) hc_X9 (by decide) (by decide) (Nat.le_of_ble_eq_true rfl)) ?_
              refine lf2 (a_if_eq (tgt := 119) dX2_readStatement_111 (by decide)) (fun h111 => ?_) (fun h111 => ?_)
              · have hw111 := wd_t h111
                refine lf (a_aload_n dX2_readStatement_119 rfl) ?_
                refine lf (a_iconst (1 : Int32) dX2_readStatement_120 (by decide)) ?_
                refine lf (a_inv (b2 := (0, 0)) (t_X2_fail (by repeat (first | with_reducible exact hw | with_reducible exact hwc | with_reducible assumption | with_reducible apply Wf.sI | with_reducible apply Wf.sL | with_reducible apply Wf.cpI | with_reducible apply Wf.cpL | with_reducible apply Wf.cp2 | with_reducible apply Wf.sIs | with_reducible apply Wf.sLs | with_reducible apply Wf.cpU | with_reducible apply Wf.fillI | with_reducible apply Wf.clU | with_reducible apply Wf.dnF | with_reducible apply Wf.gbW)) (c := 1) hA.1) rfl dX2_readStatement_121 yk_X2_fail im_X2_fail se_X2_fail ml_X2_102 rfl (co_79 (by repeat (first | with_reducible exact hw | with_reducible exact hwc | with_reducible assumption | with_reducible apply Wf.sI | with_reducible apply Wf.sL | with_reducible apply Wf.cpI | with_reducible apply Wf.cpL | with_reducible apply Wf.cp2 | with_reducible apply Wf.sIs | with_reducible apply Wf.sLs | with_reducible apply Wf.cpU | with_reducible apply Wf.fillI | with_reducible apply Wf.clU | with_reducible apply Wf.dnF | with_reducible apply Wf.gbW))) (by decide) hc_X2 (by decide) (by decide) (Nat.le_of_ble_eq_true rfl)) ?_
                refine ⟨_, _, (a_ireturn dX2_readStatement_124 rfl rfl), ?_⟩
                exact ⟨_, rfl, StQ.bad ((hz.err 1 _).1.mono (fun i _ y => sT_sP p0 i y)) (hz.err 1 _).2 (by rw [stS, if_neg hw9, if_neg hw26, if_neg hw43, if_neg hw60, if_neg hw77, if_neg hw94, if_neg hw111])⟩
              · have hw111 := wd_f h111
                refine lf (a_aload_n dX2_readStatement_114 rfl) ?_
                obtain ⟨v_, W115, k115, hQ115⟩ := (t_X2_readGuest hz)
                obtain ⟨x_, rfl, hx_⟩ := hQ115.v
                refine lf (a_inv (b2 := (0, 0)) k115 rfl dX2_readStatement_115 yk_X2_readGuest im_X2_readGuest se_X2_readGuest ml_X2_99 rfl (co_79 (by repeat (first | with_reducible exact hw | with_reducible exact hwc | with_reducible assumption | with_reducible apply Wf.sI | with_reducible apply Wf.sL | with_reducible apply Wf.cpI | with_reducible apply Wf.cpL | with_reducible apply Wf.cp2 | with_reducible apply Wf.sIs | with_reducible apply Wf.sLs | with_reducible apply Wf.cpU | with_reducible apply Wf.fillI | with_reducible apply Wf.clU | with_reducible apply Wf.dnF | with_reducible apply Wf.gbW))) (by decide) hc_X2 (by decide) (by decide) (Nat.le_of_ble_eq_true rfl)) ?_
                refine ⟨_, _, (a_ireturn dX2_readStatement_118 rfl (nB hx_)), ?_⟩
                exact ⟨_, rfl, (by rw [stS, if_neg hw9, if_neg hw26, if_neg hw43, if_neg hw60, if_neg hw77, if_neg hw94, if_pos hw111] : stS B n p z = _) ▸ hQ115⟩
            · have hw94 := wd_f h94
              refine lf (a_aload_n dX2_readStatement_97 rfl) ?_
              obtain ⟨v_, W98, k98, hQ98⟩ := (t_X2_readGuests hz)
              obtain ⟨x_, rfl, hx_⟩ := hQ98.v
              refine lf (a_inv (b2 := (0, 0)) k98 rfl dX2_readStatement_98 yk_X2_readGuests im_X2_readGuests se_X2_readGuests ml_X2_94 rfl (co_79 (by repeat (first | with_reducible exact hw | with_reducible exact hwc | with_reducible assumption | with_reducible apply Wf.sI | with_reducible apply Wf.sL | with_reducible apply Wf.cpI | with_reducible apply Wf.cpL | with_reducible apply Wf.cp2 | with_reducible apply Wf.sIs | with_reducible apply Wf.sLs | with_reducible apply Wf.cpU | with_reducible apply Wf.fillI | with_reducible apply Wf.clU | with_reducible apply Wf.dnF | with_reducible apply Wf.gbW))) (by decide) hc_X2 (by decide) (by decide) (Nat.le_of_ble_eq_true rfl)) ?_
              refine ⟨_, _, (a_ireturn dX2_readStatement_101 rfl (nB hx_)), ?_⟩
              exact ⟨_, rfl, (by rw [stS, if_neg hw9, if_neg hw26, if_neg hw43, if_neg hw60, if_neg hw77, if_pos hw94] : stS B n p z = _) ▸ hQ98⟩
          · have hw77 := wd_f h77
            refine lf (a_aload_n dX2_readStatement_80 rfl) ?_
            obtain ⟨v_, W81, k81, hQ81⟩ := (t_X2_readTrolley hz)
            obtain ⟨x_, rfl, hx_⟩ := hQ81.v
            refine lf (a_inv (b2 := (0, 0)) k81 rfl dX2_readStatement_81 yk_X2_readTrolley im_X2_readTrolley se_X2_readTrolley ml_X2_89 rfl (co_79 (by repeat (first | with_reducible exact hw | with_reducible exact hwc | with_reducible assumption | with_reducible apply Wf.sI | with_reducible apply Wf.sL | with_reducible apply Wf.cpI | with_reducible apply Wf.cpL | with_reducible apply Wf.cp2 | with_reducible apply Wf.sIs | with_reducible apply Wf.sLs | with_reducible apply Wf.cpU | with_reducible apply Wf.fillI | with_reducible apply Wf.clU | with_reducible apply Wf.dnF | with_reducible apply Wf.gbW))) (by decide) hc_X2 (by decide) (by decide) (Nat.le_of_ble_eq_true rfl)) ?_
            refine ⟨_, _, (a_ireturn dX2_readStatement_84 rfl (nB hx_)), ?_⟩
            exact ⟨_, rfl, (by rw [stS, if_neg hw9, if_neg hw26, if_neg hw43, if_neg hw60, if_pos hw77] : stS B n p z = _) ▸ hQ81⟩
        · have hw60 := wd_f h60
          refine lf (a_aload_n dX2_readStatement_63 rfl) ?_
          obtain ⟨v_, W64, k64, hQ64⟩ := (tf_X2_readMeal hz (hM hw60))
          obtain ⟨x_, rfl, hx_⟩ := hQ64.v
          refine lf (a_inv (b2 := (0, 0)) k64 rfl dX2_readStatement_64 yk_X2_readMeal im_X2_readMeal se_X2_readMeal ml_X2_84 rfl (co_79 (by repeat (first | with_reducible exact hw | with_reducible exact hwc | with_reducible assumption | with_reducible apply Wf.sI | with_reducible apply Wf.sL | with_reducible apply Wf.cpI | with_reducible apply Wf.cpL | with_reducible apply Wf.cp2 | with_reducible apply Wf.sIs | with_reducible apply Wf.sLs | with_reducible apply Wf.cpU | with_reducible apply Wf.fillI | with_reducible apply Wf.clU | with_reducible apply Wf.dnF | with_reducible apply Wf.gbW))) (by decide) hc_X2 (by decide) (by decide) (Nat.le_of_ble_eq_true rfl)) ?_
          refine ⟨_, _, (a_ireturn dX2_readStatement_67 rfl (nB hx_)), ?_⟩
          exact ⟨_, rfl, (by rw [stS, if_neg hw9, if_neg hw26, if_neg hw43, if_pos hw60] : stS B n p z = _) ▸ hQ64⟩
      · have hw43 := wd_f h43
        refine lf (a_aload_n dX2_readStatement_46 rfl) ?_
        obtain ⟨v_, W47, k47, hQ47⟩ := (tf_X2_readCabin hz (hC hw43))
        obtain ⟨x_, rfl, hx_⟩ := hQ47.v
        refine lf (a_inv (b2 := (0, 0)) k47 rfl dX2_readStatement_47 yk_X2_readCabin im_X2_readCabin se_X2_readCabin ml_X2_79 rfl (co_79 (by repeat (first | with_reducible exact hw | with_reducible exact hwc | with_reducible assumption | with_reducible apply Wf.sI | with_reducible apply Wf.sL | with_reducible apply Wf.cpI | with_reducible apply Wf.cpL | with_reducible apply Wf.cp2 | with_reducible apply Wf.sIs | with_reducible apply Wf.sLs | with_reducible apply Wf.cpU | with_reducible apply Wf.fillI | with_reducible apply Wf.clU | with_reducible apply Wf.dnF | with_reducible apply Wf.gbW))) (by decide) hc_X2 (by decide) (by decide) (Nat.le_of_ble_eq_true rfl)) ?_
        refine ⟨_, _, (a_ireturn dX2_readStatement_50 rfl (nB hx_)), ?_⟩
        exact ⟨_, rfl, (by rw [stS, if_neg hw9, if_neg hw26, if_pos hw43] : stS B n p z = _) ▸ hQ47⟩
    · have hw26 := wd_f h26
      refine lf (a_aload_n dX2_readStatement_29 rfl) ?_
      obtain ⟨v_, W30, k30, hQ30⟩ := (t_X2_readLead hz)
      obtain ⟨x_, rfl, hx_⟩ := hQ30.v
      refine lf (a_inv (b2 := (0, 0)) k30 rfl dX2_readStatement_30 yk_X2_readLead im_X2_readLead se_X2_readLead ml_X2_74 rfl (co_79 (by repeat (first | with_reducible exact hw | with_reducible exact hwc | with_reducible assumption | with_reducible apply Wf.sI | with_reducible apply Wf.sL | with_reducible apply Wf.cpI | with_reducible apply Wf.cpL | with_reducible apply Wf.cp2 | with_reducible apply Wf.sIs | with_reducible apply Wf.sLs | with_reducible apply Wf.cpU | with_reducible apply Wf.fillI | with_reducible apply Wf.clU | with_reducible apply Wf.dnF | with_reducible apply Wf.gbW))) (by decide) hc_X2 (by decide) (by decide) (Nat.le_of_ble_eq_true rfl)) ?_
      refine ⟨_, _, (a_ireturn dX2_readStatement_33 rfl (nB hx_)), ?_⟩
      exact ⟨_, rfl, (by rw [stS, if_neg hw9, if_pos hw26] : stS B n p z = _) ▸ hQ30⟩
  · have hw9 := wd_f h9
    refine lf (a_aload_n dX2_readStatement_12 rfl) ?_
    obtain ⟨v_, W13, k13, hQ13⟩ := (t_X2_readTime hz)
    obtain ⟨x_, rfl, hx_⟩ := hQ13.v
    refine lf (a_inv (b2 := (0, 0)) k13 rfl dX2_readStatement_13 yk_X2_readTime im_X2_readTime se_X2_readTime ml_X2_69 rfl (co_79 (by repeat (first | with_reducible exact hw | with_reducible exact hwc | with_reducible assumption | with_reducible apply Wf.sI | with_reducible apply Wf.sL | with_reducible apply Wf.cpI | with_reducible apply Wf.cpL | with_reducible apply Wf.cp2 | with_reducible apply Wf.sIs | with_reducible apply Wf.sLs | with_reducible apply Wf.cpU | with_reducible apply Wf.fillI | with_reducible apply Wf.clU | with_reducible apply Wf.dnF | with_reducible apply Wf.gbW))) (by decide) hc_X2 (by decide) (by decide) (Nat.le_of_ble_eq_true rfl)) ?_
    refine ⟨_, _, (a_ireturn dX2_readStatement_16 rfl (nB hx_)), ?_⟩
    exact ⟨_, rfl, (by rw [stS, if_pos hw9] : stS B n p z = _) ▸ hQ13⟩
theorem tn_X2_readStatement (hz : PsV B n p0 p z μ) (hkt : KtV μ) (hn : wdI B n p 6 = true ∧ pC z.1 < 4 ∨ wdI B n p 8 = true ∧ pM z.1 < 12) : CV Y_X2_readStatement R3_X2_readStatement [.ref 79] μ (StN B n p0 μ (stS B n p z)) := by
  refine CV.ent yk_X2_readStatement (Nat.le_of_ble_eq_true rfl) ?_
  have hw := hz.wf
  have hp := hz.pv.pl
  have hone : ∀ a b, wdI B n p a = true → wdI B n p b = true → kby a = kby b := fun a b h1 h2 => by
    rw [wdI, decide_eq_true_eq] at h1 h2
    exact h1.2.symm.trans h2.2
  have hcm : ∀ a, wdI B n p a = true → a = 6 ∨ a = 8 ∨ kby a = kby 6 ∨ kby a = kby 8 := fun a h => hn.elim (fun q => Or.inr (Or.inr (Or.inl (hone a 6 h q.1)))) (fun q => Or.inr (Or.inr (Or.inr (hone a 8 h q.1))))
  have hwc := hz.wf
  have hr2 := hz.r2
  have hr1 := hz.r1
  have hA := hz.at'
  have hpn := hz.le
  have hen := tkE_le (B := B) hpn
  have htx := hz.tk.1
  refine lf (a_aload_n dX2_readStatement_0 rfl) ?_
  refine lf (a_getR (cr_79_0 (by repeat (first | with_reducible exact hw | with_reducible exact hwc | with_reducible assumption | with_reducible apply Wf.sI | with_reducible apply Wf.sL | with_reducible apply Wf.cpI | with_reducible apply Wf.cpL | with_reducible apply Wf.cp2 | with_reducible apply Wf.sIs | with_reducible apply Wf.sLs | with_reducible apply Wf.cpU | with_reducible apply Wf.fillI | with_reducible apply Wf.clU | with_reducible apply Wf.dnF | with_reducible apply Wf.gbW))) dX2_readStatement_1 fs_X2_12 rfl (co_79 (by repeat (first | with_reducible exact hw | with_reducible exact hwc | with_reducible assumption | with_reducible apply Wf.sI | with_reducible apply Wf.sL | with_reducible apply Wf.cpI | with_reducible apply Wf.cpL | with_reducible apply Wf.cp2 | with_reducible apply Wf.sIs | with_reducible apply Wf.sLs | with_reducible apply Wf.cpU | with_reducible apply Wf.fillI | with_reducible apply Wf.clU | with_reducible apply Wf.dnF | with_reducible apply Wf.gbW)))) ?_
  refine lf (a_ldcS (n := 4) (tx := "time") dX2_readStatement_4 rfl) ?_
  refine lf (a_inv (b2 := (3, 16)) (t_X9_is hz.wf hz.tk hz.le hz.at' (StrV.const (μ := μ) k_time)) rfl dX2_readStatement_6 yk_X9_is im_X9_is se_X9_is ml_X2_65 rfl (co_80 (by repeat (first | with_reducible exact hw | with_reducible exact hwc | with_reducible assumption | with_reducible apply Wf.sI | with_reducible apply Wf.sL | with_reducible apply Wf.cpI | with_reducible apply Wf.cpL | with_reducible apply Wf.cp2 | with_reducible apply Wf.sIs | with_reducible apply Wf.sLs | with_reducible apply Wf.cpU | with_reducible apply Wf.fillI | with_reducible apply Wf.clU | with_reducible apply Wf.dnF | with_reducible apply Wf.gbW))) (by decide) hc_X9 (by decide) (by decide) (Nat.le_of_ble_eq_true rfl)) ?_
  refine lf2 (a_if_eq (tgt := 17) dX2_readStatement_9 (by decide)) (fun h9 => ?_) (fun h9 => ?_)
  · have hw9 := wd_t h9
    refine lf (a_aload_n dX2_readStatement_17 rfl) ?_
    refine lf (a_getR (cr_79_0 (by repeat (first | with_reducible exact hw | with_reducible exact hwc | with_reducible assumption | with_reducible apply Wf.sI | with_reducible apply Wf.sL | with_reducible apply Wf.cpI | with_reducible apply Wf.cpL | with_reducible apply Wf.cp2 | with_reducible apply Wf.sIs | with_reducible apply Wf.sLs | with_reducible apply Wf.cpU | with_reducible apply Wf.fillI | with_reducible apply Wf.clU | with_reducible apply Wf.dnF | with_reducible apply Wf.gbW))) dX2_readStatement_18 fs_X2_12 rfl (co_79 (by repeat (first | with_reducible exact hw | with_reducible exact hwc | with_reducible assumption | with_reducible apply Wf.sI | with_reducible apply Wf.sL | with_reducible apply Wf.cpI | with_reducible apply Wf.cpL | with_reducible apply Wf.cp2 | with_reducible apply Wf.sIs | with_reducible apply Wf.sLs | with_reducible apply Wf.cpU | with_reducible apply Wf.fillI | with_reducible apply Wf.clU | with_reducible apply Wf.dnF | with_reducible apply Wf.gbW)))) ?_
    refine lf (a_ldcS (n := 5) (tx := "lead") dX2_readStatement_21 rfl) ?_
    refine lf (a_inv (b2 := (3, 16)) (t_X9_is hz.wf hz.tk hz.le hz.at' (StrV.const (μ := μ) k_lead)) rfl dX2_readStatement_23 yk_X9_is im_X9_is se_X9_is ml_X2_65 rfl (co_80 (by repeat (first | with_reducible exact hw | with_reducible exact hwc | with_reducible assumption | with_reducible apply Wf.sI | with_reducible apply Wf.sL | with_reducible apply Wf.cpI | with_reducible apply Wf.cpL | with_reducible apply Wf.cp2 | with_reducible apply Wf.sIs | with_reducible apply Wf.sLs | with_reducible apply Wf.cpU | with_reducible apply Wf.fillI | with_reducible apply Wf.clU | with_reducible apply Wf.dnF | with_reducible apply Wf.gbW))) (by decide) hc_X9 (by decide) (by decide) (Nat.le_of_ble_eq_true rfl)) ?_
    refine lf2 (a_if_eq (tgt := 34) dX2_readStatement_26 (by decide)) (fun h26 => ?_) (fun h26 => ?_)
    · have hw26 := wd_t h26
      refine lf (a_aload_n dX2_readStatement_34 rfl) ?_
      refine lf (a_getR (cr_79_0 (by repeat (first | with_reducible exact hw | with_reducible exact hwc | with_reducible assumption | with_reducible apply Wf.sI | with_reducible apply Wf.sL | with_reducible apply Wf.cpI | with_reducible apply Wf.cpL | with_reducible apply Wf.cp2 | with_reducible apply Wf.sIs | with_reducible apply Wf.sLs | with_reducible apply Wf.cpU | with_reducible apply Wf.fillI | with_reducible apply Wf.clU | with_reducible apply Wf.dnF | with_reducible apply Wf.gbW))) dX2_readStatement_35 fs_X2_12 rfl (co_79 (by repeat (first | with_reducible exact hw | with_reducible exact hwc | with_reducible assumption | with_reducible apply Wf.sI | with_reducible apply Wf.sL | with_reducible apply Wf.cpI | with_reducible apply Wf.cpL | with_reducible apply Wf.cp2 | with_reducible apply Wf.sIs | with_reducible apply Wf.sLs | with_reducible apply Wf.cpU | with_reducible apply Wf.fillI | with_reducible apply Wf.clU | with_reducible apply Wf.dnF | with_reducible apply Wf.gbW)))) ?_
      refine lf (a_ldcS (n := 6) (tx := "cabin") dX2_readStatement_38 rfl) ?_
      refine lf (a_inv (b2 := (3, 16)) (t_X9_is hz.wf hz.tk hz.le hz.at' (StrV.const (μ := μ) k_cabin)) rfl dX2_readStatement_40 yk_X9_is im_X9_is se_X9_is ml_X2_65 rfl (co_80 (by repeat (first | with_reducible exact hw | with_reducible exact hwc | with_reducible assumption | with_reducible apply Wf.sI | with_reducible apply Wf.sL | with_reducible apply Wf.cpI | with_reducible apply Wf.cpL | with_reducible apply Wf.cp2 | with_reducible apply Wf.sIs | with_reducible apply Wf.sLs | with_reducible apply Wf.cpU | with_reducible apply Wf.fillI | with_reducible apply Wf.clU | with_reducible apply Wf.dnF | with_reducible apply Wf.gbW))) (by decide) hc_X9 (by decide) (by decide) (Nat.le_of_ble_eq_true rfl)) ?_
      refine lf2 (a_if_eq (tgt := 51) dX2_readStatement_43 (by decide)) (fun h43 => ?_) (fun h43 => ?_)
      · have hw43 := wd_t h43
        refine lf (a_aload_n dX2_readStatement_51 rfl) ?_
        refine lf (a_getR (cr_79_0 (by repeat (first | with_reducible exact hw | with_reducible exact hwc | with_reducible assumption | with_reducible apply Wf.sI | with_reducible apply Wf.sL | with_reducible apply Wf.cpI | with_reducible apply Wf.cpL | with_reducible apply Wf.cp2 | with_reducible apply Wf.sIs | with_reducible apply Wf.sLs | with_reducible apply Wf.cpU | with_reducible apply Wf.fillI | with_reducible apply Wf.clU | with_reducible apply Wf.dnF | with_reducible apply Wf.gbW))) dX2_readStatement_52 fs_X2_12 rfl (co_79 (by repeat (first | with_reducible exact hw | with_reducible exact hwc | with_reducible assumption | with_reducible apply Wf.sI | with_reducible apply Wf.sL | with_reducible apply Wf.cpI | with_reducible apply Wf.cpL | with_reducible apply Wf.cp2 | with_reducible apply Wf.sIs | with_reducible apply Wf.sLs | with_reducible apply Wf.cpU | with_reducible apply Wf.fillI | with_reducible apply Wf.clU | with_reducible apply Wf.dnF | with_reducible apply Wf.gbW)))) ?_
        refine lf (a_ldcS (n := 8) (tx := "meal") dX2_readStatement_55 rfl) ?_
        refine lf (a_inv (b2 := (3, 16)) (t_X9_is hz.wf hz.tk hz.le hz.at' (StrV.const (μ := μ) k_meal)) rfl dX2_readStatement_57 yk_X9_is im_X9_is se_X9_is ml_X2_65 rfl (co_80 (by repeat (first | with_reducible exact hw | with_reducible exact hwc | with_reducible assumption | with_reducible apply Wf.sI | with_reducible apply Wf.sL | with_reducible apply Wf.cpI | with_reducible apply Wf.cpL | with_reducible apply Wf.cp2 | with_reducible apply Wf.sIs | with_reducible apply Wf.sLs | with_reducible apply Wf.cpU | with_reducible apply Wf.fillI | with_reducible apply Wf.clU | with_reducible apply Wf.dnF | with_reducible apply Wf.gbW))) (by decide) hc_X9 (by decide) (by decide) (Nat.le_of_ble_eq_true rfl)) ?_
        refine lf2 (a_if_eq (tgt := 68) dX2_readStatement_60 (by decide)) (fun h60 => ?_) (fun h60 => ?_)
        · exact absurd (hn.elim (fun q => q.1) (fun q => absurd q.1 (wd_t h60))) hw43
        · have hw60 := wd_f h60
          refine lf (a_aload_n dX2_readStatement_63 rfl) ?_
          obtain ⟨v_, W64, k64, hQ64⟩ := (t_X2_readMeal hz (hn.elim (fun q => absurd q.1 hw43) (fun q => q.2)) hkt)
          obtain ⟨x_, rfl, hx_⟩ := hQ64.v
          refine lf (a_inv (b2 := (0, 0)) k64 rfl dX2_readStatement_64 yk_X2_readMeal im_X2_readMeal se_X2_readMeal ml_X2_84 rfl (co_79 (by repeat (first | with_reducible exact hw | with_reducible exact hwc | with_reducible assumption | with_reducible apply Wf.sI | with_reducible apply Wf.sL | with_reducible apply Wf.cpI | with_reducible apply Wf.cpL | with_reducible apply Wf.cp2 | with_reducible apply Wf.sIs | with_reducible apply Wf.sLs | with_reducible apply Wf.cpU | with_reducible apply Wf.fillI | with_reducible apply Wf.clU | with_reducible apply Wf.dnF | with_reducible apply Wf.gbW))) (by decide) hc_X2 (by decide) (by decide) (Nat.le_of_ble_eq_true rfl)) ?_
          refine ⟨_, _, (a_ireturn dX2_readStatement_67 rfl (nB hx_)), ?_⟩
          exact ⟨_, rfl, (by rw [stS, if_neg hw9, if_neg hw26, if_neg hw43, if_pos hw60] : stS B n p z = _) ▸ hQ64⟩
      · have hw43 := wd_f h43
        refine lf (a_aload_n dX2_readStatement_46 rfl) ?_
        obtain ⟨v_, W47, k47, hQ47⟩ := (t_X2_readCabin hz (hn.elim (fun q => q.2) (fun q => absurd (hone 6 8 hw43 q.1) (by decide))) hkt)
        obtain ⟨x_, rfl, hx_⟩ := hQ47.v
        refine lf (a_inv (b2 := (0, 0)) k47 rfl dX2_readStatement_47 yk_X2_readCabin im_X2_readCabin se_X2_readCabin ml_X2_79 rfl (co_79 (by repeat (first | with_reducible exact hw | with_reducible exact hwc | with_reducible assumption | with_reducible apply Wf.sI | with_reducible apply Wf.sL | with_reducible apply Wf.cpI | with_reducible apply Wf.cpL | with_reducible apply Wf.cp2 | with_reducible apply Wf.sIs | with_reducible apply Wf.sLs | with_reducible apply Wf.cpU | with_reducible apply Wf.fillI | with_reducible apply Wf.clU | with_reducible apply Wf.dnF | with_reducible apply Wf.gbW))) (by decide) hc_X2 (by decide) (by decide) (Nat.le_of_ble_eq_true rfl)) ?_
        refine ⟨_, _, (a_ireturn dX2_readStatement_50 rfl (nB hx_)), ?_⟩
        exact ⟨_, rfl, (by rw [stS, if_neg hw9, if_neg hw26, if_pos hw43] : stS B n p z = _) ▸ hQ47⟩
    · exact absurd (hcm 5 (wd_f h26)) (by decide)
  · exact absurd (hcm 4 (wd_f h9)) (by decide)
end PARSP
