section PARSM
variable {μ W Wb : Wd} {B : Nat → Nat} {n p0 p : Nat} {z : PZ}
theorem PsV.ex0 {V : Wd} (h : PsV B n p0 p z W) (he : Ex (fun _ => False) W V) : PsV B n p0 p z V := by
  have hp := pl_le h.pv.pl
  have hw := h.wf.1
  have hC := h.pv.C4
  have hM := h.pv.M4
  exact h.plan he (fun i y => y.elim) (h.pv.fr fun i a b => he.2.2.2.2 i (by omega) (fun y => y)) (fun i hi => (h.cn hi).ex he (fun i y => y.elim) (by omega) (fun y => y)) (fun i hi => (h.mn hi).ex he (fun i y => y.elim) (by omega) (fun y => y))
theorem PsV.own {S : Nat → Prop} {V : Wd} (h : PsV B n p0 p z W) (he : Ex S W V) (hS : ∀ i, S i → p0 ≤ i ∧ i ≤ p0 + 20) (hq : PV V p0 z.1) (h1 : ∀ i, i < pC z.1 → ¬ S (p0 + 2 + i)) (h2 : ∀ i, i < pM z.1 → ¬ S (p0 + 7 + i)) : PsV B n p0 p z V := by
  have hp := pl_le h.pv.pl
  have hw := h.wf.1
  have hC := h.pv.C4
  have hM := h.pv.M4
  exact h.plan he hS hq (fun i hi => (h.cn hi).ex he (fun i y => by have := hS i y; omega) (by omega) (h1 i hi)) (fun i hi => (h.mn hi).ex he (fun i y => by have := hS i y; omega) (by omega) (h2 i hi))
theorem PsV.jC (h : PsV B n p0 p z W) (hC : pC z.1 < 4) (k : Nat) (v : Int32) : PsV B n p0 p z (sI W (p0 + 2 + pC z.1) k v) :=
  h.own ((Ex.rfl' (S := fun i => i = p0 + 2 + pC z.1) h.wf).sI rfl k v) (fun i y => by omega) (h.pv.jC (Nat.le_refl _) hC v) (fun i hi => by omega) (fun i hi => by have := h.pv.M4; omega)
theorem PsV.jM (h : PsV B n p0 p z W) (hM : pM z.1 < 12) (k : Nat) (v : Int32) : PsV B n p0 p z (sI W (p0 + 7 + pM z.1) k v) :=
  h.own ((Ex.rfl' (S := fun i => i = p0 + 7 + pM z.1) h.wf).sI rfl k v) (fun i y => by omega) (h.pv.jM (Nat.le_refl _) hM v) (fun i hi => by have := h.pv.C4; omega) (fun i hi => by omega)
theorem Ex.sR {S : Nat → Prop} (h : Ex S μ W) {i : Nat} (hi : S i) {k : Nat} (h0 : r0 i k = none) (v : Option Nat) : Ex S μ (sR W i k v) := ⟨h.1.sR h0 v, h.2.1, h.2.2.1, h.2.2.2.1, fun j hj hs x => by
  have a := h.2.2.2.2 j hj hs x
  exact ⟨a.1, a.2.1, by rw [gR_sR, if_neg (show ¬ (j = i ∧ x = k) from fun q => hs (by rw [q.1]; exact hi))]; exact a.2.2⟩⟩
theorem r0_row {p0 : Nat} (h : Pl p0) : (∀ c, c < 4 → r0 (p0 + 2 + c) 0 = none) ∧ ∀ m, m < 12 → r0 (p0 + 7 + m) 0 = none := by
  have q : ∀ p0, p0 = 3 ∨ p0 = 58 → (∀ c, c < 4 → r0 (p0 + 2 + c) 0 = none) ∧ ∀ m, m < 12 → r0 (p0 + 7 + m) 0 = none := by
    intro p0 h
    rcases h with rfl | rfl <;> decide +kernel
  exact q p0 h
theorem PsV.jCR (h : PsV B n p0 p z W) (hC : pC z.1 < 4) (v : Option Nat) : PsV B n p0 p z (sR W (p0 + 2 + pC z.1) 0 v) :=
  h.own ((Ex.rfl' (S := fun i => i = p0 + 2 + pC z.1) h.wf).sR rfl ((r0_row h.pv.pl).1 _ hC) v) (fun i y => by omega) h.pv.sR (fun i hi => by omega) (fun i hi => by have := h.pv.M4; omega)
theorem PsV.jMR (h : PsV B n p0 p z W) (hM : pM z.1 < 12) (v : Option Nat) : PsV B n p0 p z (sR W (p0 + 7 + pM z.1) 0 v) :=
  h.own ((Ex.rfl' (S := fun i => i = p0 + 7 + pM z.1) h.wf).sR rfl ((r0_row h.pv.pl).2 _ hM) v) (fun i y => by omega) h.pv.sR (fun i hi => by have := h.pv.C4; omega) (fun i hi => by omega)
theorem PsV.addC (h : PsV B n p0 p z W) (hC : pC z.1 < 4) {l : List Nat} (hn : NmV W (p0 + 2 + pC z.1) l) : PsV B n p0 p ((pC z.1 + 1, pM z.1, pT z.1, up2 (up2 (pF z.1) 0 (pC z.1) (gI W (p0 + 2 + pC z.1) 1)) 1 (pC z.1) (gI W (p0 + 2 + pC z.1) 2)), z.2.1, up1 z.2.2.1 (pC z.1) l, z.2.2.2) (sI W p0 1 (nI (pC z.1 + 1))) := by
  have hp := pl_le h.pv.pl
  have hw := h.wf.1
  have hM := h.pv.M4
  have he := (Ex.rfl' (S := fun i => i = p0) h.wf).sI rfl 1 (nI (pC z.1 + 1))
  refine h.plan he (fun i y => by omega) (h.pv.incC hC) (fun i (hi : i < pC z.1 + 1) => ?_) (fun i (hi : i < pM z.1) => (h.mn hi).ex he (fun i y => by omega) (by omega) (by omega))
  by_cases e : i = pC z.1
  · subst e; rw [up1_eq]; exact hn.ex he (fun i y => by omega) (by omega) (by omega)
  · rw [up1_ne e]; exact (h.cn (by omega)).ex he (fun i y => by omega) (by omega) (by omega)
theorem PsV.addM (h : PsV B n p0 p z W) (hM : pM z.1 < 12) {l : List Nat} (hn : NmV W (p0 + 7 + pM z.1) l) : PsV B n p0 p ((pC z.1, pM z.1 + 1, pT z.1, up5 (pF z.1) (pM z.1) (gI W (p0 + 7 + pM z.1) 1) (gI W (p0 + 7 + pM z.1) 2) (gI W (p0 + 7 + pM z.1) 3) (gI W (p0 + 7 + pM z.1) 4) (gI W (p0 + 7 + pM z.1) 5)), z.2.1, z.2.2.1, up1 z.2.2.2 (pM z.1) l) (sI W p0 3 (nI (pM z.1 + 1))) := by
  have hp := pl_le h.pv.pl
  have hw := h.wf.1
  have hC := h.pv.C4
  have he := (Ex.rfl' (S := fun i => i = p0) h.wf).sI rfl 3 (nI (pM z.1 + 1))
  refine h.plan he (fun i y => by omega) (h.pv.incM hM) (fun i (hi : i < pC z.1) => (h.cn hi).ex he (fun i y => by omega) (by omega) (by omega)) (fun i (hi : i < pM z.1 + 1) => ?_)
  by_cases e : i = pM z.1
  · subst e; rw [up1_eq]; exact hn.ex he (fun i y => by omega) (by omega) (by omega)
  · rw [up1_ne e]; exact (h.mn (by omega)).ex he (fun i y => by omega) (by omega) (by omega)
theorem Tk.wdh (h : PsV B n p0 p z W) (hk : tkK B n p = 1) : WdH W (tkS B n p) (tkL B n p) := by
  have hen := tkE_le (B := B) h.le
  have hw := tk_word h.le hk
  have h9 := h.n900
  refine ⟨h.tk.1, h.at'.1, by rw [tkL_len, show tkS B n p + (tkE B n p - tkS B n p) = tkE B n p by omega]; exact h.at'.2.1, by rw [tkL_len]; omega, fun x hx => ?_, fun j hj => ?_⟩
  · obtain ⟨j, hj, rfl⟩ := List.mem_map.mp hx
    have := hw.2 (tkS B n p + j) (by omega) (by have := List.mem_range.mp hj; omega)
    omega
  · rw [tkL_len] at hj
    have := hw.2 (tkS B n p + j) (by omega) (by omega)
    rw [tkL_get hj, (h.tk.2.2.2 _ (show tkS B n p + j < n by omega)).2, sby_lo (by omega)]
/-- what the reader of a statement with a name leaves -/
def StN (B : Nat → Nat) (n p0 : Nat) (μ : Wd) (r : (Nat × Nat) ⊕ (Nat × PZ)) (v : Option Value) (V : Wd) : Prop := Ex (sP p0) μ V ∧ (wn V = wn μ ∨ wn V = wn μ + 3) ∧ match r with
  | .inl e => v = some (.int 0) ∧ ErV V e
  | .inr a => wn V = wn μ + 3 ∧ EkV μ V ∧ v = some (.int 1) ∧ PsV B n p0 a.1 a.2 V
theorem StN.bad {r : (Nat × Nat) ⊕ (Nat × PZ)} {e : Nat × Nat} {V : Wd} (hX : Ex (sP p0) μ V) (hn : wn V = wn μ ∨ wn V = wn μ + 3) (hE : ErV V e) (hr : r = .inl e) : StN B n p0 μ r (some (.int 0)) V := ⟨hX, hn, by rw [hr]; exact ⟨rfl, hE⟩⟩
theorem StN.ok {r : (Nat × Nat) ⊕ (Nat × PZ)} {a : Nat × PZ} {V : Wd} (hX : Ex (sP p0) μ V) (hn : wn V = wn μ + 3) (hK : EkV μ V) (hz : PsV B n p0 a.1 a.2 V) (hr : r = .inr a) : StN B n p0 μ r (some (.int 1)) V := ⟨hX, Or.inr hn, by rw [hr]; exact ⟨hn, hK, rfl, hz⟩⟩
def KtV (μ : Wd) : Prop := (True ∧ True ∧ True) ∧ wn μ + 3 < 1000000
def caZ (z : PZ) (s sp : Int32) (l : List Nat) : PZ := ((pC z.1 + 1, pM z.1, pT z.1, up2 (up2 (pF z.1) 0 (pC z.1) s) 1 (pC z.1) sp), z.2.1, up1 z.2.2.1 (pC z.1) l, z.2.2.2)
/-- a cabin's statement, behind its name -/
def cbS (B : Nat → Nat) (n p : Nat) (z : PZ) (l : List Nat) : (Nat × Nat) ⊕ (Nat × PZ) := bnd (nhS B n (tkE B n p) 1 40) fun s => if tkK B n (tkE B n (tkE B n p)) = 2 then bnd (nhS B n (tkE B n (tkE B n p)) 0 50) fun sp => sgZ B n (tkE B n (tkE B n (tkE B n p))) (caZ z (nI s) (nI sp) l) else sgZ B n (tkE B n (tkE B n p)) (caZ z (nI s) 0 l)
def stCabin (B : Nat → Nat) (n p : Nat) (z : PZ) : (Nat × Nat) ⊕ (Nat × PZ) := if 4 ≤ pC z.1 then .inl (4, tkS B n p) else if ¬ (tkK B n (tkE B n p) = 1 ∧ (tkL B n (tkE B n p)).length ≤ 6) then .inl (1, tkS B n (tkE B n p)) else match cfS B n (tkE B n p) (pC z.1) z.2.2.1 with
  | some _ => .inl (3, tkS B n (tkE B n p))
  | none => cbS B n (tkE B n p) z (tkL B n (tkE B n p))
abbrev R_X2_readCabin : Room := { frames := 9, cells := 0, slots := 0, locals := 285 }
abbrev RX_X2_readCabin : Room := { frames := 9, cells := 1, slots := 6, locals := 285 }

abbrev R3_X2_readCabin : Room := { frames := 9, cells := 3, slots := 16, locals := 285 }
theorem tf_X2_readCabin (hz : PsV B n p0 p z μ) (hC : 4 ≤ pC z.1) : CV Y_X2_readCabin R_X2_readCabin [.ref 79] μ (StQ B n p0 μ (stCabin B n p z)) := by
  refine CV.ent yk_X2_readCabin (Nat.le_of_ble_eq_true rfl) ?_
  have hw := hz.wf
  have hp := hz.pv.pl
  have hr2 := hz.r2
  have hA := hz.at'
  have hC4 := hz.pv.C4
  refine lf (a_aload_n dX2_readCabin_0 rfl) ?_
  refine lf (a_getR hr2 dX2_readCabin_1 fs_X2_22 rfl (co_79 (by repeat (first | with_reducible exact hw | with_reducible exact hwc | with_reducible assumption | with_reducible apply Wf.sI | with_reducible apply Wf.sL | with_reducible apply Wf.cpI | with_reducible apply Wf.cpL | with_reducible apply Wf.cp2 | with_reducible apply Wf.sIs | with_reducible apply Wf.sLs | with_reducible apply Wf.cpU | with_reducible apply Wf.fillI | with_reducible apply Wf.clU | with_reducible apply Wf.dnF | with_reducible apply Wf.gbW)))) ?_
  refine lf (a_getI dX2_readCabin_4 fs_X2_118 rfl (pl_o (by repeat (first | with_reducible exact hw | with_reducible exact hwc | with_reducible assumption | with_reducible apply Wf.sI | with_reducible apply Wf.sL | with_reducible apply Wf.cpI | with_reducible apply Wf.cpL | with_reducible apply Wf.cp2 | with_reducible apply Wf.sIs | with_reducible apply Wf.sLs | with_reducible apply Wf.cpU | with_reducible apply Wf.fillI | with_reducible apply Wf.clU | with_reducible apply Wf.dnF | with_reducible apply Wf.gbW)) hp)) ?_
  rw [hz.pv.hC]
  refine lf (a_iconst (4 : Int32) dX2_readCabin_7 (by decide)) ?_
  refine lf2 (a_icmp_lt (tgt := 17) dX2_readCabin_8 (by decide)) (fun h8 => absurd h8 (nI_nlt (a := pC z.1) (b := 4) hC (by omega))) (fun h8 => ?_)
  refine lf (a_aload_n dX2_readCabin_11 rfl) ?_
  refine lf (a_iconst (4 : Int32) dX2_readCabin_12 (by decide)) ?_
  refine lf (a_inv (b2 := (0, 0)) (t_X2_fail (by repeat (first | with_reducible exact hw | with_reducible exact hwc | with_reducible assumption | with_reducible apply Wf.sI | with_reducible apply Wf.sL | with_reducible apply Wf.cpI | with_reducible apply Wf.cpL | with_reducible apply Wf.cp2 | with_reducible apply Wf.sIs | with_reducible apply Wf.sLs | with_reducible apply Wf.cpU | with_reducible apply Wf.fillI | with_reducible apply Wf.clU | with_reducible apply Wf.dnF | with_reducible apply Wf.gbW)) (c := 4) hA.1) rfl dX2_readCabin_13 yk_X2_fail im_X2_fail se_X2_fail ml_X2_102 rfl (co_79 (by repeat (first | with_reducible exact hw | with_reducible exact hwc | with_reducible assumption | with_reducible apply Wf.sI | with_reducible apply Wf.sL | with_reducible apply Wf.cpI | with_reducible apply Wf.cpL | with_reducible apply Wf.cp2 | with_reducible apply Wf.sIs | with_reducible apply Wf.sLs | with_reducible apply Wf.cpU | with_reducible apply Wf.fillI | with_reducible apply Wf.clU | with_reducible apply Wf.dnF | with_reducible apply Wf.gbW))) (by decide) hc_X2 (by decide) (by decide) (Nat.le_of_ble_eq_true rfl)) ?_
  refine ⟨_, _, (a_ireturn dX2_readCabin_16 rfl rfl), ?_⟩
  exact ⟨_, rfl, StQ.bad ((hz.err 4 _).1.mono (fun i _ y => sT_sP p0 i y)) (hz.err 4 _).2 (by rw [stCabin, if_pos hC])⟩
theorem X2_readCabin_150 (hXb : Ex (sP p0) μ Wb) (hnb : wn Wb = wn μ + 3) (hz : PsV B n p0 p z W) (hX : En (sP p0) Wb W) (hK : EkV μ W) (hC : pC z.1 < 4) {l : List Nat} (hnm : NmV W (p0 + 2 + pC z.1) l) {s sp : Int32} (hs : gI W (p0 + 2 + pC z.1) 1 = s) (hsp : gI W (p0 + 2 + pC z.1) 2 = sp) {r : (Nat × Nat) ⊕ (Nat × PZ)} (hr : r = sgZ B n p (caZ z s sp l)) {u : Value} : WP Y_X2_readCabin R3_X2_readCabin (0, 0) W 150 [(0, .ref 79), (1, u)] [] (fun o V => ∃ v, o = .inl v ∧ StN B n p0 μ r v V) := by
  have hp := hz.pv.pl
  have hpp := pl_le hp
  have hzp := hz.addC hC hnm
  rw [hs, hsp] at hzp
  have hXp := hX.sI (S := sP p0) (i := p0) (Or.inr (Or.inr (Or.inl ⟨Nat.le_refl _, Nat.le_add_right _ _⟩))) 1 (nI (pC z.1 + 1))
  have hKp : EkV μ (sI W p0 1 (nI (pC z.1 + 1))) := hK.sI (by omega)
  have hwc := hz.wf
  have hr2 := hz.r2
  have hr1 := hz.r1
  have hA := hz.at'
  have hpn := hz.le
  have hen := tkE_le (B := B) hpn
  have htx := hz.tk.1
  refine lf (a_aload_n dX2_readCabin_150 rfl) ?_
  refine lf (a_getR hr2 dX2_readCabin_151 fs_X2_22 rfl (co_79 (by repeat (first | with_reducible exact hw | with_reducible exact hwc | with_reducible assumption | with_reducible apply Wf.sI | with_reducible apply Wf.sL | with_reducible apply Wf.cpI | with_reducible apply Wf.cpL | with_reducible apply Wf.cp2 | with_reducible apply Wf.sIs | with_reducible apply Wf.sLs | with_reducible apply Wf.cpU | with_reducible apply Wf.fillI | with_reducible apply Wf.clU | with_reducible apply Wf.dnF | with_reducible apply Wf.gbW)))) ?_
  refine lf (a_dup dX2_readCabin_154 rfl) ?_
  refine lf (a_getI dX2_readCabin_155 fs_X2_118 rfl (pl_o (by repeat (first | with_reducible exact hw | with_reducible exact hwc | with_reducible assumption | with_reducible apply Wf.sI | with_reducible apply Wf.sL | with_reducible apply Wf.cpI | with_reducible apply Wf.cpL | with_reducible apply Wf.cp2 | with_reducible apply Wf.sIs | with_reducible apply Wf.sLs | with_reducible apply Wf.cpU | with_reducible apply Wf.fillI | with_reducible apply Wf.clU | with_reducible apply Wf.dnF | with_reducible apply Wf.gbW)) hp)) ?_
  rw [hz.pv.hC]
  refine lf (a_iconst (1 : Int32) dX2_readCabin_158 (by decide)) ?_
  refine lf (a_iadd dX2_readCabin_159) ?_
  rw [← nI_succ]
  refine lf (a_putI dX2_readCabin_160 fs_X2_118 rfl rfl rfl (pl_o (by repeat (first | with_reducible exact hw | with_reducible exact hwc | with_reducible assumption | with_reducible apply Wf.sI | with_reducible apply Wf.sL | with_reducible apply Wf.cpI | with_reducible apply Wf.cpL | with_reducible apply Wf.cp2 | with_reducible apply Wf.sIs | with_reducible apply Wf.sLs | with_reducible apply Wf.cpU | with_reducible apply Wf.fillI | with_reducible apply Wf.clU | with_reducible apply Wf.dnF | with_reducible apply Wf.gbW)) hp)) ?_
  refine lf (a_aload_n dX2_readCabin_163 rfl) ?_
  obtain ⟨v_, W164, k164, hR164⟩ := (t_X2_signHere hzp)
  obtain ⟨hX164, hR164⟩ := hR164
  generalize hr164 : sgS B n (p) = r164 at hR164
  cases r164 with
  | inl a164 =>
    obtain ⟨rfl, hE164⟩ := hR164
    have hwx := hX164.1.1
    have hXc164 := hXp.trans (hX164.mono (fun i _ y => sT_sP p0 i y))
    refine lf (a_inv (b2 := (0, 0)) k164 rfl dX2_readCabin_164 yk_X2_signHere im_X2_signHere se_X2_signHere ml_X2_113 rfl (co_79 (by repeat (first | with_reducible exact hw | with_reducible exact hwc | with_reducible assumption | with_reducible apply Wf.sI | with_reducible apply Wf.sL | with_reducible apply Wf.cpI | with_reducible apply Wf.cpL | with_reducible apply Wf.cp2 | with_reducible apply Wf.sIs | with_reducible apply Wf.sLs | with_reducible apply Wf.cpU | with_reducible apply Wf.fillI | with_reducible apply Wf.clU | with_reducible apply Wf.dnF | with_reducible apply Wf.gbW))) (by decide) hc_X2 (by decide) (by decide) (Nat.le_of_ble_eq_true rfl)) ?_
    refine ⟨_, _, (a_ireturn dX2_readCabin_167 rfl rfl), ?_⟩
    first
    | exact ⟨_, rfl, StN.bad (hXb.trans hXc164.1) (Or.inr (hXc164.2.trans hnb)) hE164 (by rw [hr, sgZ, bnd_l hr164])⟩
    | exact ⟨_, rfl, StN.ok (hXb.trans hXc164.1) (hXc164.2.trans hnb) hKc164 hz164 (by rw [hr, sgZ, bnd_r hr164])⟩
  | inr a164 =>
    obtain ⟨hK164, rfl, hz164⟩ := hR164
    have hXc164 := hXp.trans (hX164.mono (fun i _ y => sT_sP p0 i y))
    have hKc164 := hKp.trans hK164
    have hwc := hz164.wf
    have hr2 := hz164.r2
    have hr1 := hz164.r1
    have hA := hz164.at'
    have hpn := hz164.le
    have hen := tkE_le (B := B) hpn
    have htx := hz164.tk.1
    refine lf (a_inv (b2 := (0, 0)) k164 rfl dX2_readCabin_164 yk_X2_signHere im_X2_signHere se_X2_signHere ml_X2_113 rfl (co_79 (by repeat (first | with_reducible exact hw | with_reducible exact hwc | with_reducible assumption | with_reducible apply Wf.sI | with_reducible apply Wf.sL | with_reducible apply Wf.cpI | with_reducible apply Wf.cpL | with_reducible apply Wf.cp2 | with_reducible apply Wf.sIs | with_reducible apply Wf.sLs | with_reducible apply Wf.cpU | with_reducible apply Wf.fillI | with_reducible apply Wf.clU | with_reducible apply Wf.dnF | with_reducible apply Wf.gbW))) (by decide) hc_X2 (by decide) (by decide) (Nat.le_of_ble_eq_true rfl)) ?_
    refine ⟨_, _, (a_ireturn dX2_readCabin_167 rfl rfl), ?_⟩
    first
    | exact ⟨_, rfl, StN.bad (hXb.trans hXc164.1) (Or.inr (hXc164.2.trans hnb)) hE164 (by rw [hr, sgZ, bnd_l hr164])⟩
    | exact ⟨_, rfl, StN.ok (hXb.trans hXc164.1) (hXc164.2.trans hnb) hKc164 hz164 (by rw [hr, sgZ, bnd_r hr164])⟩
theorem t_X2_readCabin (hz : PsV B n p0 p z μ) (hC : pC z.1 < 4) (hkt : KtV μ) : CV Y_X2_readCabin R3_X2_readCabin [.ref 79] μ (StN B n p0 μ (stCabin B n p z)) := by
  refine CV.ent yk_X2_readCabin (Nat.le_of_ble_eq_true rfl) ?_
  have hw := hz.wf
  have hp := hz.pv.pl
  have hpp := pl_le hp
  have hX0 : En (sP p0) μ μ := En.rfl' hw
  have hK0 : EkV μ μ := EkV.rfl'
  have hwc := hz.wf
  have hr2 := hz.r2
  have hr1 := hz.r1
  have hA := hz.at'
  have hpn := hz.le
  have hen := tkE_le (B := B) hpn
  have htx := hz.tk.1
  refine lf (a_aload_n dX2_readCabin_0 rfl) ?_
  refine lf (a_getR hr2 dX2_readCabin_1 fs_X2_22 rfl (co_79 (by repeat (first | with_reducible exact hw | with_reducible exact hwc | with_reducible assumption | with_reducible apply Wf.sI | with_reducible apply Wf.sL | with_reducible apply Wf.cpI | with_reducible apply Wf.cpL | with_reducible apply Wf.cp2 | with_reducible apply Wf.sIs | with_reducible apply Wf.sLs | with_reducible apply Wf.cpU | with_reducible apply Wf.fillI | with_reducible apply Wf.clU | with_reducible apply Wf.dnF | with_reducible apply Wf.gbW)))) ?_
  refine lf (a_getI dX2_readCabin_4 fs_X2_118 rfl (pl_o (by repeat (first | with_reducible exact hw | with_reducible exact hwc | with_reducible assumption | with_reducible apply Wf.sI | with_reducible apply Wf.sL | with_reducible apply Wf.cpI | with_reducible apply Wf.cpL | with_reducible apply Wf.cp2 | with_reducible apply Wf.sIs | with_reducible apply Wf.sLs | with_reducible apply Wf.cpU | with_reducible apply Wf.fillI | with_reducible apply Wf.clU | with_reducible apply Wf.dnF | with_reducible apply Wf.gbW)) hp)) ?_
  rw [hz.pv.hC]
  refine lf (a_iconst (4 : Int32) dX2_readCabin_7 (by decide)) ?_
  refine lf2 (a_icmp_lt (tgt := 17) dX2_readCabin_8 (by decide)) (fun h8 => ?_) (fun h8 => absurd h8 (fun q => q (nI_lt (b := 4) hC (by decide))))
  refine lf (a_aload_n dX2_readCabin_17 rfl) ?_
  refine lf (a_getR (cr_79_0 (by repeat (first | with_reducible exact hw | with_reducible exact hwc | with_reducible assumption | with_reducible apply Wf.sI | with_reducible apply Wf.sL | with_reducible apply Wf.cpI | with_reducible apply Wf.cpL | with_reducible apply Wf.cp2 | with_reducible apply Wf.sIs | with_reducible apply Wf.sLs | with_reducible apply Wf.cpU | with_reducible apply Wf.fillI | with_reducible apply Wf.clU | with_reducible apply Wf.dnF | with_reducible apply Wf.gbW))) dX2_readCabin_18 fs_X2_12 rfl (co_79 (by repeat (first | with_reducible exact hw | with_reducible exact hwc | with_reducible assumption | with_reducible apply Wf.sI | with_reducible apply Wf.sL | with_reducible apply Wf.cpI | with_reducible apply Wf.cpL | with_reducible apply Wf.cp2 | with_reducible apply Wf.sIs | with_reducible apply Wf.sLs | with_reducible apply Wf.cpU | with_reducible apply Wf.fillI | with_reducible apply Wf.clU | with_reducible apply Wf.dnF | with_reducible apply Wf.gbW)))) ?_
  obtain ⟨v_, W21, k21, rfl, hO21, hA21⟩ := (t_X9_next hz.wf hz.tk hen.2.1 hz.at'.2.1)
  have hz21 := hz.next hO21 hA21 hen.2.1
  have hXc21 := hX0.trans ((ExT hO21).1.mono (fun i _ y => sT_sP p0 i y))
  have hKc21 := hK0.trans (ExT hO21).2
  have hwc := hz21.wf
  have hr2 := hz21.r2
  have hr1 := hz21.r1
  have hA := hz21.at'
  have hpn := hz21.le
  have hen := tkE_le (B := B) hpn
  have htx := hz21.tk.1
  refine lf (a_inv (b2 := (3, 16)) k21 rfl dX2_readCabin_21 yk_X9_next im_X9_next se_X9_next ml_X2_47 rfl (co_80 (by repeat (first | with_reducible exact hw | with_reducible exact hwc | with_reducible assumption | with_reducible apply Wf.sI | with_reducible apply Wf.sL | with_reducible apply Wf.cpI | with_reducible apply Wf.cpL | with_reducible apply Wf.cp2 | with_reducible apply Wf.sIs | with_reducible apply Wf.sLs | with_reducible apply Wf.cpU | with_reducible apply Wf.fillI | with_reducible apply Wf.clU | with_reducible apply Wf.dnF | with_reducible apply Wf.gbW))) (by decide) hc_X9 (by decide) (by decide) (Nat.le_of_ble_eq_true rfl)) ?_
  refine lf (a_aload_n dX2_readCabin_24 rfl) ?_
  refine lf (a_inv (b2 := (3, 16)) (t_X2_nameHere hz21) rfl dX2_readCabin_25 yk_X2_nameHere im_X2_nameHere se_X2_nameHere ml_X2_121 rfl (co_79 (by repeat (first | with_reducible exact hw | with_reducible exact hwc | with_reducible assumption | with_reducible apply Wf.sI | with_reducible apply Wf.sL | with_reducible apply Wf.cpI | with_reducible apply Wf.cpL | with_reducible apply Wf.cp2 | with_reducible apply Wf.sIs | with_reducible apply Wf.sLs | with_reducible apply Wf.cpU | with_reducible apply Wf.fillI | with_reducible apply Wf.clU | with_reducible apply Wf.dnF | with_reducible apply Wf.gbW))) (by decide) hc_X2 (by decide) (by decide) (Nat.le_of_ble_eq_true rfl)) ?_
  refine lfn (a_if_ne (tgt := 37) dX2_readCabin_28 (by decide)) (fun h28 => ?_) (fun h28 => ?_)
  · have hnm : tkK B n (tkE B n p) = 1 ∧ (tkL B n (tkE B n p)).length ≤ 6 := Classical.byContradiction fun q => h28 (if_neg q)
    have h0l : 0 < (tkL B n (tkE B n p)).length := by
      have := tk_word hpn hnm.1
      rw [tkL_len]
      have := hen.2.2
      omega
    have hn21 : wn W21 = wn μ := hO21.1.2.1
    refine lf (a_aload_n dX2_readCabin_37 rfl) ?_
    refine lf (a_inv (b2 := (3, 16)) (t_X2_cabinHere hz21) rfl dX2_readCabin_38 yk_X2_cabinHere im_X2_cabinHere se_X2_cabinHere ml_X2_124 rfl (co_79 (by repeat (first | with_reducible exact hw | with_reducible exact hwc | with_reducible assumption | with_reducible apply Wf.sI | with_reducible apply Wf.sL | with_reducible apply Wf.cpI | with_reducible apply Wf.cpL | with_reducible apply Wf.cp2 | with_reducible apply Wf.sIs | with_reducible apply Wf.sLs | with_reducible apply Wf.cpU | with_reducible apply Wf.fillI | with_reducible apply Wf.clU | with_reducible apply Wf.dnF | with_reducible apply Wf.gbW))) (by decide) hc_X2 (by decide) (by decide) (Nat.le_of_ble_eq_true rfl)) ?_
    refine lf (a_iconst (-1 : Int32) dX2_readCabin_41 (by decide)) ?_
    refine lf2 (a_icmp_eq (tgt := 51) dX2_readCabin_42 (by decide)) (fun h42 => ?_) (fun h42 => ?_)
    · have hcf : cfS B n (tkE B n p) (pC z.1) z.2.2.1 = none := by
        cases e : cfS B n (tkE B n p) (pC z.1) z.2.2.1 with
        | none => rfl
        | some i => rw [e] at h42; exact absurd h42 (nI_ne1 (by have := (cfS_lt e).1; omega))
      refine lf (a_aload_n dX2_readCabin_51 rfl) ?_
      refine lf (a_getR hr2 dX2_readCabin_52 fs_X2_22 rfl (co_79 (by repeat (first | with_reducible exact hw | with_reducible exact hwc | with_reducible assumption | with_reducible apply Wf.sI | with_reducible apply Wf.sL | with_reducible apply Wf.cpI | with_reducible apply Wf.cpL | with_reducible apply Wf.cp2 | with_reducible apply Wf.sIs | with_reducible apply Wf.sLs | with_reducible apply Wf.cpU | with_reducible apply Wf.fillI | with_reducible apply Wf.clU | with_reducible apply Wf.dnF | with_reducible apply Wf.gbW)))) ?_
      refine lf (a_getR (pl_r2 (by repeat (first | with_reducible exact hw | with_reducible exact hwc | with_reducible assumption | with_reducible apply Wf.sI | with_reducible apply Wf.sL | with_reducible apply Wf.cpI | with_reducible apply Wf.cpL | with_reducible apply Wf.cp2 | with_reducible apply Wf.sIs | with_reducible apply Wf.sLs | with_reducible apply Wf.cpU | with_reducible apply Wf.fillI | with_reducible apply Wf.clU | with_reducible apply Wf.dnF | with_reducible apply Wf.gbW)) hp) dX2_readCabin_55 fs_X2_128 rfl (pl_o (by repeat (first | with_reducible exact hw | with_reducible exact hwc | with_reducible assumption | with_reducible apply Wf.sI | with_reducible apply Wf.sL | with_reducible apply Wf.cpI | with_reducible apply Wf.cpL | with_reducible apply Wf.cp2 | with_reducible apply Wf.sIs | with_reducible apply Wf.sLs | with_reducible apply Wf.cpU | with_reducible apply Wf.fillI | with_reducible apply Wf.clU | with_reducible apply Wf.dnF | with_reducible apply Wf.gbW)) hp)) ?_
      refine lf (a_aload_n dX2_readCabin_58 rfl) ?_
      refine lf (a_getR hr2 dX2_readCabin_59 fs_X2_22 rfl (co_79 (by repeat (first | with_reducible exact hw | with_reducible exact hwc | with_reducible assumption | with_reducible apply Wf.sI | with_reducible apply Wf.sL | with_reducible apply Wf.cpI | with_reducible apply Wf.cpL | with_reducible apply Wf.cp2 | with_reducible apply Wf.sIs | with_reducible apply Wf.sLs | with_reducible apply Wf.cpU | with_reducible apply Wf.fillI | with_reducible apply Wf.clU | with_reducible apply Wf.dnF | with_reducible apply Wf.gbW)))) ?_
      refine lf (a_getI dX2_readCabin_62 fs_X2_118 rfl (pl_o (by repeat (first | with_reducible exact hw | with_reducible exact hwc | with_reducible assumption | with_reducible apply Wf.sI | with_reducible apply Wf.sL | with_reducible apply Wf.cpI | with_reducible apply Wf.cpL | with_reducible apply Wf.cp2 | with_reducible apply Wf.sIs | with_reducible apply Wf.sLs | with_reducible apply Wf.cpU | with_reducible apply Wf.fillI | with_reducible apply Wf.clU | with_reducible apply Wf.dnF | with_reducible apply Wf.gbW)) hp)) ?_
      rw [hz21.pv.hC]
      refine lf (a_aald (j := pC z.1) dX2_readCabin_65 (pl_a1 (by repeat (first | with_reducible exact hw | with_reducible exact hwc | with_reducible assumption | with_reducible apply Wf.sI | with_reducible apply Wf.sL | with_reducible apply Wf.cpI | with_reducible apply Wf.cpL | with_reducible apply Wf.cp2 | with_reducible apply Wf.sIs | with_reducible apply Wf.sLs | with_reducible apply Wf.cpU | with_reducible apply Wf.fillI | with_reducible apply Wf.clU | with_reducible apply Wf.dnF | with_reducible apply Wf.gbW)) hp) (by decide) (ixn (by omega) (by decide)) (pl_rc (by repeat (first | with_reducible exact hw | with_reducible exact hwc | with_reducible assumption | with_reducible apply Wf.sI | with_reducible apply Wf.sL | with_reducible apply Wf.cpI | with_reducible apply Wf.cpL | with_reducible apply Wf.cp2 | with_reducible apply Wf.sIs | with_reducible apply Wf.sLs | with_reducible apply Wf.cpU | with_reducible apply Wf.fillI | with_reducible apply Wf.clU | with_reducible apply Wf.dnF | with_reducible apply Wf.gbW)) hp (by omega))) ?_
      refine lf (a_astore_n dX2_readCabin_66 (by decide)) ?_
      refine lf (a_aload_n dX2_readCabin_67 rfl) ?_
      refine lf (a_aload_n dX2_readCabin_68 rfl) ?_
      refine lf (a_getR (cr_79_0 (by repeat (first | with_reducible exact hw | with_reducible exact hwc | with_reducible assumption | with_reducible apply Wf.sI | with_reducible apply Wf.sL | with_reducible apply Wf.cpI | with_reducible apply Wf.cpL | with_reducible apply Wf.cp2 | with_reducible apply Wf.sIs | with_reducible apply Wf.sLs | with_reducible apply Wf.cpU | with_reducible apply Wf.fillI | with_reducible apply Wf.clU | with_reducible apply Wf.dnF | with_reducible apply Wf.gbW))) dX2_readCabin_69 fs_X2_12 rfl (co_79 (by repeat (first | with_reducible exact hw | with_reducible exact hwc | with_reducible assumption | with_reducible apply Wf.sI | with_reducible apply Wf.sL | with_reducible apply Wf.cpI | with_reducible apply Wf.cpL | with_reducible apply Wf.cp2 | with_reducible apply Wf.sIs | with_reducible apply Wf.sLs | with_reducible apply Wf.cpU | with_reducible apply Wf.fillI | with_reducible apply Wf.clU | with_reducible apply Wf.dnF | with_reducible apply Wf.gbW)))) ?_
      obtain ⟨v_, W72, k72, rfl, hWx, hWn, hWs⟩ := (t_X9_word hwc (Tk.wdh hz21 hnm.1) h0l hnm.2 hkt.1 (by rw [hn21]; exact hkt.2))
      have hwx := hWx.1
      have hzw := (hz21.ex0 hWx).jCR hC (some (wn W21 + 1))
      have hXb : Ex (sP p0) μ (sR W72 (p0 + 2 + pC z.1) 0 (some (wn W21 + 1))) := (hXc21.1.trans (hWx.mono (fun i _ y => y.elim))).sR (Or.inr (Or.inr (Or.inl ⟨by omega, by omega⟩))) ((r0_row hp).1 _ hC) _
      have hnb : wn (sR W72 (p0 + 2 + pC z.1) 0 (some (wn W21 + 1))) = wn μ + 3 := by rw [wn_sR, hWn, hn21]
      have hNm : NmV (sR W72 (p0 + 2 + pC z.1) 0 (some (wn W21 + 1))) (p0 + 2 + pC z.1) (tkL B n (tkE B n p)) := ⟨wn W21 + 1, by rw [gR_sR, if_pos ⟨rfl, rfl⟩], hWs.ex ((Ex.rfl' (S := fun i => i = (p0 + 2 + pC z.1)) hWx.1).sR rfl ((r0_row hp).1 _ hC) _) (fun i y => by omega)⟩
      have hK72 : EkV μ (sR W72 (p0 + 2 + pC z.1) 0 (some (wn W21 + 1))) := hKc21.trans ⟨hWx.i (by have := hwc.1; omega) (fun y => y) 3, hWx.i (by have := hwc.1; omega) (fun y => y) 4⟩
      have hXw := En.rfl' (S := sP p0) hzw.wf
      have hwc := hzw.wf
      have hr2 := hzw.r2
      have hr1 := hzw.r1
      have hA := hzw.at'
      have hpn := hzw.le
      have hen := tkE_le (B := B) hpn
      have htx := hzw.tk.1
      refine lf (a_inv (b2 := (0, 0)) k72 rfl dX2_readCabin_72 yk_X9_word im_X9_word se_X9_word ml_X2_131 rfl (co_80 (by repeat (first | with_reducible exact hw | with_reducible exact hwc | with_reducible assumption | with_reducible apply Wf.sI | with_reducible apply Wf.sL | with_reducible apply Wf.cpI | with_reducible apply Wf.cpL | with_reducible apply Wf.cp2 | with_reducible apply Wf.sIs | with_reducible apply Wf.sLs | with_reducible apply Wf.cpU | with_reducible apply Wf.fillI | with_reducible apply Wf.clU | with_reducible apply Wf.dnF | with_reducible apply Wf.gbW))) (by decide) hc_X9 (by decide) (by decide) (Nat.le_of_ble_eq_true rfl)) ?_
      refine lf (a_putR dX2_readCabin_75 fs_X2_135 rfl rfl (pl_c (by repeat (first | with_reducible exact hw | with_reducible exact hwc | with_reducible assumption | with_reducible apply Wf.sI | with_reducible apply Wf.sL | with_reducible apply Wf.cpI | with_reducible apply Wf.cpL | with_reducible apply Wf.cp2 | with_reducible apply Wf.sIs | with_reducible apply Wf.sLs | with_reducible apply Wf.cpU | with_reducible apply Wf.fillI | with_reducible apply Wf.clU | with_reducible apply Wf.dnF | with_reducible apply Wf.gbW)) hp hC)) ?_
      refine lf (a_aload_n dX2_readCabin_78 rfl) ?_
      refine lf (a_aload_n dX2_readCabin_79 rfl) ?_
      refine lf (a_iconst (1 : Int32) dX2_readCabin_80 (by decide)) ?_
      refine lf (a_bipush (40 : Int32) dX2_readCabin_81 (by decide)) ?_
      obtain ⟨v_, W83, k83, hR83⟩ := (t_X2_nextNumber hzw (lo := 1) (hi := 40) (by decide) (by decide))
      obtain ⟨hX83, hR83⟩ := hR83
      generalize hr83 : nhS B n (tkE B n (tkE B n p)) 1 40 = r83 at hR83
      cases r83 with
      | inl a83 =>
        obtain ⟨rfl, hE83⟩ := hR83
        have hwx := hX83.1.1
        have hXc83 := hXw.trans (hX83.mono (fun i _ y => sT_sP p0 i y))
        have hXq83 := hXc83.sI (S := sP p0) (i := (p0 + 2 + pC z.1)) (Or.inr (Or.inr (Or.inl ⟨by omega, by omega⟩))) 1 (-1)
        refine lf (a_inv (b2 := (0, 0)) k83 rfl dX2_readCabin_83 yk_X2_nextNumber im_X2_nextNumber se_X2_nextNumber ml_X2_106 rfl (co_79 (by repeat (first | with_reducible exact hw | with_reducible exact hwc | with_reducible assumption | with_reducible apply Wf.sI | with_reducible apply Wf.sL | with_reducible apply Wf.cpI | with_reducible apply Wf.cpL | with_reducible apply Wf.cp2 | with_reducible apply Wf.sIs | with_reducible apply Wf.sLs | with_reducible apply Wf.cpU | with_reducible apply Wf.fillI | with_reducible apply Wf.clU | with_reducible apply Wf.dnF | with_reducible apply Wf.gbW))) (by decide) hc_X2 (by decide) (by decide) (Nat.le_of_ble_eq_true rfl)) ?_
        refine lf (a_putI dX2_readCabin_86 fs_X2_141 rfl rfl rfl (pl_c (by repeat (first | with_reducible exact hw | with_reducible exact hwc | with_reducible assumption | with_reducible apply Wf.sI | with_reducible apply Wf.sL | with_reducible apply Wf.cpI | with_reducible apply Wf.cpL | with_reducible apply Wf.cp2 | with_reducible apply Wf.sIs | with_reducible apply Wf.sLs | with_reducible apply Wf.cpU | with_reducible apply Wf.fillI | with_reducible apply Wf.clU | with_reducible apply Wf.dnF | with_reducible apply Wf.gbW)) hp (by omega))) ?_
        refine lf (a_aload_n dX2_readCabin_89 rfl) ?_
        refine lf (a_getI dX2_readCabin_90 fs_X2_141 rfl (pl_c (by repeat (first | with_reducible exact hw | with_reducible exact hwc | with_reducible assumption | with_reducible apply Wf.sI | with_reducible apply Wf.sL | with_reducible apply Wf.cpI | with_reducible apply Wf.cpL | with_reducible apply Wf.cp2 | with_reducible apply Wf.sIs | with_reducible apply Wf.sLs | with_reducible apply Wf.cpU | with_reducible apply Wf.fillI | with_reducible apply Wf.clU | with_reducible apply Wf.dnF | with_reducible apply Wf.gbW)) hp (by omega))) ?_
        rw [gI_sI, if_pos ⟨rfl, rfl⟩]
        refine lf (a_iconst (-1 : Int32) dX2_readCabin_93 (by decide)) ?_
        refine lfn (a_icmp_ne (tgt := 99) dX2_readCabin_94 (by decide)) (fun h94 => absurd h94 (fun q => q rfl)) (fun h94 => ?_)
        refine lf (a_iconst (0 : Int32) dX2_readCabin_97 (by decide)) ?_
        refine ⟨_, _, (a_ireturn dX2_readCabin_98 rfl rfl), ?_⟩
        exact ⟨_, rfl, StN.bad (hXb.trans hXq83.1) (Or.inr (hXq83.2.trans hnb)) (by exact ⟨by rw [gI_sI, if_neg (by omega)]; exact hE83.1, by rw [gI_sI, if_neg (by omega)]; exact hE83.2.1, hE83.2.2⟩) (by rw [stCabin, if_neg (by omega), if_neg (fun q => q hnm), hcf]; dsimp only; rw [cbS, bnd_l hr83])⟩
      | inr a83 =>
        obtain ⟨hK83, rfl, hz83⟩ := hR83
        have hXc83 := hXw.trans (hX83.mono (fun i _ y => sT_sP p0 i y))
        have hKc83 := hK72.trans hK83
        have hwc := hz83.wf
        have hr2 := hz83.r2
        have hr1 := hz83.r1
        have hA := hz83.at'
        have hpn := hz83.le
        have hen := tkE_le (B := B) hpn
        have htx := hz83.tk.1
        have hzq := (hz83.jC hC 1 (nI a83)).jC hC 2 0
        have hXq := (hXc83.sI (S := sP p0) (i := (p0 + 2 + pC z.1)) (Or.inr (Or.inr (Or.inl ⟨by omega, by omega⟩))) 1 (nI a83)).sI (S := sP p0) (i := (p0 + 2 + pC z.1)) (Or.inr (Or.inr (Or.inl ⟨by omega, by omega⟩))) 2 0
        have hKq : EkV μ (sI (sI W83 (p0 + 2 + pC z.1) 1 (nI a83)) (p0 + 2 + pC z.1) 2 0) := (hKc83.sI (by omega)).sI (by omega)
        have hexr := ((Ex.rfl' (S := fun i => i = (p0 + 2 + pC z.1)) hwc).sI (i := (p0 + 2 + pC z.1)) rfl 1 (nI a83)).sI (i := (p0 + 2 + pC z.1)) rfl 2 0
        have hNq : NmV (sI (sI W83 (p0 + 2 + pC z.1) 1 (nI a83)) (p0 + 2 + pC z.1) 2 0) (p0 + 2 + pC z.1) (tkL B n (tkE B n p)) := by
          obtain ⟨r, b1, b2⟩ := hNm.ex hX83.1 (fun i y => by rcases y with y | y <;> omega) (by have := hzw.wf.1; omega) (by rintro (y | y) <;> omega)
          exact ⟨r, b1, b2.ex hexr (fun i y => by omega)⟩
        have hs1 : gI (sI (sI W83 (p0 + 2 + pC z.1) 1 (nI a83)) (p0 + 2 + pC z.1) 2 0) (p0 + 2 + pC z.1) 1 = nI a83 := by rw [gI_sI, if_neg (by omega), gI_sI, if_pos ⟨rfl, rfl⟩]
        have hs2 : gI (sI (sI W83 (p0 + 2 + pC z.1) 1 (nI a83)) (p0 + 2 + pC z.1) 2 0) (p0 + 2 + pC z.1) 2 = 0 := by rw [gI_sI, if_pos ⟨rfl, rfl⟩]
        refine lf (a_inv (b2 := (0, 0)) k83 rfl dX2_readCabin_83 yk_X2_nextNumber im_X2_nextNumber se_X2_nextNumber ml_X2_106 rfl (co_79 (by repeat (first | with_reducible exact hw | with_reducible exact hwc | with_reducible assumption | with_reducible apply Wf.sI | with_reducible apply Wf.sL | with_reducible apply Wf.cpI | with_reducible apply Wf.cpL | with_reducible apply Wf.cp2 | with_reducible apply Wf.sIs | with_reducible apply Wf.sLs | with_reducible apply Wf.cpU | with_reducible apply Wf.fillI | with_reducible apply Wf.clU | with_reducible apply Wf.dnF | with_reducible apply Wf.gbW))) (by decide) hc_X2 (by decide) (by decide) (Nat.le_of_ble_eq_true rfl)) ?_
        refine lf (a_putI dX2_readCabin_86 fs_X2_141 rfl rfl rfl (pl_c (by repeat (first | with_reducible exact hw | with_reducible exact hwc | with_reducible assumption | with_reducible apply Wf.sI | with_reducible apply Wf.sL | with_reducible apply Wf.cpI | with_reducible apply Wf.cpL | with_reducible apply Wf.cp2 | with_reducible apply Wf.sIs | with_reducible apply Wf.sLs | with_reducible apply Wf.cpU | with_reducible apply Wf.fillI | with_reducible apply Wf.clU | with_reducible apply Wf.dnF | with_reducible apply Wf.gbW)) hp (by omega))) ?_
        refine lf (a_aload_n dX2_readCabin_89 rfl) ?_
        refine lf (a_getI dX2_readCabin_90 fs_X2_141 rfl (pl_c (by repeat (first | with_reducible exact hw | with_reducible exact hwc | with_reducible assumption | with_reducible apply Wf.sI | with_reducible apply Wf.sL | with_reducible apply Wf.cpI | with_reducible apply Wf.cpL | with_reducible apply Wf.cp2 | with_reducible apply Wf.sIs | with_reducible apply Wf.sLs | with_reducible apply Wf.cpU | with_reducible apply Wf.fillI | with_reducible apply Wf.clU | with_reducible apply Wf.dnF | with_reducible apply Wf.gbW)) hp (by omega))) ?_
        rw [gI_sI, if_pos ⟨rfl, rfl⟩]
        refine lf (a_iconst (-1 : Int32) dX2_readCabin_93 (by decide)) ?_
        refine lfn (a_icmp_ne (tgt := 99) dX2_readCabin_94 (by decide)) (fun h94 => ?_) (fun h94 => absurd h94 (nI_ne1 (by have := nhS_lt hr83; omega)))
        refine lf (a_aload_n dX2_readCabin_99 rfl) ?_
        refine lf (a_iconst (0 : Int32) dX2_readCabin_100 (by decide)) ?_
        refine lf (a_putI dX2_readCabin_101 fs_X2_144 rfl rfl rfl (pl_c (by repeat (first | with_reducible exact hw | with_reducible exact hwc | with_reducible assumption | with_reducible apply Wf.sI | with_reducible apply Wf.sL | with_reducible apply Wf.cpI | with_reducible apply Wf.cpL | with_reducible apply Wf.cp2 | with_reducible apply Wf.sIs | with_reducible apply Wf.sLs | with_reducible apply Wf.cpU | with_reducible apply Wf.fillI | with_reducible apply Wf.clU | with_reducible apply Wf.dnF | with_reducible apply Wf.gbW)) hp (by omega))) ?_
        refine lf (a_aload_n dX2_readCabin_104 rfl) ?_
        refine lf (a_getR (cr_79_0 (by repeat (first | with_reducible exact hw | with_reducible exact hwc | with_reducible assumption | with_reducible apply Wf.sI | with_reducible apply Wf.sL | with_reducible apply Wf.cpI | with_reducible apply Wf.cpL | with_reducible apply Wf.cp2 | with_reducible apply Wf.sIs | with_reducible apply Wf.sLs | with_reducible apply Wf.cpU | with_reducible apply Wf.fillI | with_reducible apply Wf.clU | with_reducible apply Wf.dnF | with_reducible apply Wf.gbW))) dX2_readCabin_105 fs_X2_12 rfl (co_79 (by repeat (first | with_reducible exact hw | with_reducible exact hwc | with_reducible assumption | with_reducible apply Wf.sI | with_reducible apply Wf.sL | with_reducible apply Wf.cpI | with_reducible apply Wf.cpL | with_reducible apply Wf.cp2 | with_reducible apply Wf.sIs | with_reducible apply Wf.sLs | with_reducible apply Wf.cpU | with_reducible apply Wf.fillI | with_reducible apply Wf.clU | with_reducible apply Wf.dnF | with_reducible apply Wf.gbW)))) ?_
        obtain ⟨v_, W108, k108, rfl, hO108, hA108⟩ := (t_X9_next hzq.wf hzq.tk hen.2.1 hzq.at'.2.1)
        have hz108 := hzq.next hO108 hA108 hen.2.1
        have hXc108 := hXq.trans ((ExT hO108).1.mono (fun i _ y => sT_sP p0 i y))
        have hKc108 := hKq.trans (ExT hO108).2
        have hwc := hz108.wf
        have hr2 := hz108.r2
        have hr1 := hz108.r1
        have hA := hz108.at'
        have hpn := hz108.le
        have hen := tkE_le (B := B) hpn
        have htx := hz108.tk.1
        have hN108 := hNq.ex (En.of hO108.1).1 (fun i y => by have y : i = 80 := y; omega) (by have := hzq.wf.1; omega) (by intro y; have y : (p0 + 2 + pC z.1) = 80 := y; omega)
        have hs1b : gI W108 (p0 + 2 + pC z.1) 1 = nI a83 := (hO108.1.i (by intro y; have y : (p0 + 2 + pC z.1) = 80 := y; omega) 1).trans hs1
        have hs2b : gI W108 (p0 + 2 + pC z.1) 2 = 0 := (hO108.1.i (by intro y; have y : (p0 + 2 + pC z.1) = 80 := y; omega) 2).trans hs2
        refine lf (a_inv (b2 := (0, 0)) k108 rfl dX2_readCabin_108 yk_X9_next im_X9_next se_X9_next ml_X2_47 rfl (co_80 (by repeat (first | with_reducible exact hw | with_reducible exact hwc | with_reducible assumption | with_reducible apply Wf.sI | with_reducible apply Wf.sL | with_reducible apply Wf.cpI | with_reducible apply Wf.cpL | with_reducible apply Wf.cp2 | with_reducible apply Wf.sIs | with_reducible apply Wf.sLs | with_reducible apply Wf.cpU | with_reducible apply Wf.fillI | with_reducible apply Wf.clU | with_reducible apply Wf.dnF | with_reducible apply Wf.gbW))) (by decide) hc_X9 (by decide) (by decide) (Nat.le_of_ble_eq_true rfl)) ?_
        refine lf (a_aload_n dX2_readCabin_111 rfl) ?_
        refine lf (a_getR (cr_79_0 (by repeat (first | with_reducible exact hw | with_reducible exact hwc | with_reducible assumption | with_reducible apply Wf.sI | with_reducible apply Wf.sL | with_reducible apply Wf.cpI | with_reducible apply Wf.cpL | with_reducible apply Wf.cp2 | with_reducible apply Wf.sIs | with_reducible apply Wf.sLs | with_reducible apply Wf.cpU | with_reducible apply Wf.fillI | with_reducible apply Wf.clU | with_reducible apply Wf.dnF | with_reducible apply Wf.gbW))) dX2_readCabin_112 fs_X2_12 rfl (co_79 (by repeat (first | with_reducible exact hw | with_reducible exact hwc | with_reducible assumption | with_reducible apply Wf.sI | with_reducible apply Wf.sL | with_reducible apply Wf.cpI | with_reducible apply Wf.cpL | with_reducible apply Wf.cp2 | with_reducible apply Wf.sIs | with_reducible apply Wf.sLs | with_reducible apply Wf.cpU | with_reducible apply Wf.fillI | with_reducible apply Wf.clU | with_reducible apply Wf.dnF | with_reducible apply Wf.gbW)))) ?_
        refine lf (a_getI dX2_readCabin_115 fs_X2_50 rfl (co_80 (by repeat (first | with_reducible exact hw | with_reducible exact hwc | with_reducible assumption | with_reducible apply Wf.sI | with_reducible apply Wf.sL | with_reducible apply Wf.cpI | with_reducible apply Wf.cpL | with_reducible apply Wf.cp2 | with_reducible apply Wf.sIs | with_reducible apply Wf.sLs | with_reducible apply Wf.cpU | with_reducible apply Wf.fillI | with_reducible apply Wf.clU | with_reducible apply Wf.dnF | with_reducible apply Wf.gbW)))) ?_
        rw [hA108.2.2.1]
        refine lf (a_iconst (2 : Int32) dX2_readCabin_118 (by decide)) ?_
        refine lfn (a_icmp_ne (tgt := 150) dX2_readCabin_119 (by decide)) (fun h119 => ?_) (fun h119 => ?_)
        · have hk2 : ¬ tkK B n (tkE B n (tkE B n (tkE B n p))) = 2 := fun q => h119 ((kEq B n (tkE B n (tkE B n (tkE B n p))) (k := 2) (by decide)).mpr q)
          first
          | exact lf (a_loc _ rfl) (X2_readCabin_150 hXb hnb hz147 hXc147 hKc147 hC hN147 hs1d hs2d (by rw [stCabin, if_neg (by omega), if_neg (fun q => q hnm), hcf]; dsimp only; rw [cbS, bnd_r hr83, if_pos hk2, bnd_r hr127]))
          | exact lf (a_loc _ rfl) (X2_readCabin_150 hXb hnb hz108 hXc108 hKc108 hC hN108 hs1b hs2b (by rw [stCabin, if_neg (by omega), if_neg (fun q => q hnm), hcf]; dsimp only; rw [cbS, bnd_r hr83, if_neg hk2]))
        · have hk2 : tkK B n (tkE B n (tkE B n (tkE B n p))) = 2 := (kEq B n (tkE B n (tkE B n (tkE B n p))) (k := 2) (by decide)).mp h119
          refine lf (a_aload_n dX2_readCabin_122 rfl) ?_
          refine lf (a_aload_n dX2_readCabin_123 rfl) ?_
          refine lf (a_iconst (0 : Int32) dX2_readCabin_124 (by decide)) ?_
          refine lf (a_bipush (50 : Int32) dX2_readCabin_125 (by decide)) ?_
          obtain ⟨v_, W127, k127, hR127⟩ := (t_X2_numberHere hz108 (lo := 0) (hi := 50) (by decide) (by decide))
          obtain ⟨hX127, hR127⟩ := hR127
          generalize hr127 : nhS B n (tkE B n (tkE B n (tkE B n p))) 0 50 = r127 at hR127
          cases r127 with
          | inl a127 =>
            obtain ⟨rfl, hE127⟩ := hR127
            have hwx := hX127.1.1
            have hXc127 := hXc108.trans (hX127.mono (fun i _ y => sT_sP p0 i y))
            have hXq127 := hXc127.sI (S := sP p0) (i := (p0 + 2 + pC z.1)) (Or.inr (Or.inr (Or.inl ⟨by omega, by omega⟩))) 2 (-1)
            refine lf (a_inv (b2 := (0, 0)) k127 rfl dX2_readCabin_127 yk_X2_numberHere im_X2_numberHere se_X2_numberHere ml_X2_147 rfl (co_79 (by repeat (first | with_reducible exact hw | with_reducible exact hwc | with_reducible assumption | with_reducible apply Wf.sI | with_reducible apply Wf.sL | with_reducible apply Wf.cpI | with_reducible apply Wf.cpL | with_reducible apply Wf.cp2 | with_reducible apply Wf.sIs | with_reducible apply Wf.sLs | with_reducible apply Wf.cpU | with_reducible apply Wf.fillI | with_reducible apply Wf.clU | with_reducible apply Wf.dnF | with_reducible apply Wf.gbW))) (by decide) hc_X2 (by decide) (by decide) (Nat.le_of_ble_eq_true rfl)) ?_
            refine lf (a_putI dX2_readCabin_130 fs_X2_144 rfl rfl rfl (pl_c (by repeat (first | with_reducible exact hw | with_reducible exact hwc | with_reducible assumption | with_reducible apply Wf.sI | with_reducible apply Wf.sL | with_reducible apply Wf.cpI | with_reducible apply Wf.cpL | with_reducible apply Wf.cp2 | with_reducible apply Wf.sIs | with_reducible apply Wf.sLs | with_reducible apply Wf.cpU | with_reducible apply Wf.fillI | with_reducible apply Wf.clU | with_reducible apply Wf.dnF | with_reducible apply Wf.gbW)) hp (by omega))) ?_
            refine lf (a_aload_n dX2_readCabin_133 rfl) ?_
            refine lf (a_getI dX2_readCabin_134 fs_X2_144 rfl (pl_c (by repeat (first | with_reducible exact hw | with_reducible exact hwc | with_reducible assumption | with_reducible apply Wf.sI | with_reducible apply Wf.sL | with_reducible apply Wf.cpI | with_reducible apply Wf.cpL | with_reducible apply Wf.cp2 | with_reducible apply Wf.sIs | with_reducible apply Wf.sLs | with_reducible apply Wf.cpU | with_reducible apply Wf.fillI | with_reducible apply Wf.clU | with_reducible apply Wf.dnF | with_reducible apply Wf.gbW)) hp (by omega))) ?_
            rw [gI_sI, if_pos ⟨rfl, rfl⟩]
            refine lf (a_iconst (-1 : Int32) dX2_readCabin_137 (by decide)) ?_
            refine lfn (a_icmp_ne (tgt := 143) dX2_readCabin_138 (by decide)) (fun h138 => absurd h138 (fun q => q rfl)) (fun h138 => ?_)
            refine lf (a_iconst (0 : Int32) dX2_readCabin_141 (by decide)) ?_
            refine ⟨_, _, (a_ireturn dX2_readCabin_142 rfl rfl), ?_⟩
            exact ⟨_, rfl, StN.bad (hXb.trans hXq127.1) (Or.inr (hXq127.2.trans hnb)) (by exact ⟨by rw [gI_sI, if_neg (by omega)]; exact hE127.1, by rw [gI_sI, if_neg (by omega)]; exact hE127.2.1, hE127.2.2⟩) (by rw [stCabin, if_neg (by omega), if_neg (fun q => q hnm), hcf]; dsimp only; rw [cbS, bnd_r hr83, if_pos hk2, bnd_l hr127])⟩
          | inr a127 =>
            obtain ⟨hK127, rfl, hz127⟩ := hR127
            have hXc127 := hXc108.trans (hX127.mono (fun i _ y => sT_sP p0 i y))
            have hKc127 := hKc108.trans hK127
            have hwc := hz127.wf
            have hr2 := hz127.r2
            have hr1 := hz127.r1
            have hA := hz127.at'
            have hpn := hz127.le
            have hen := tkE_le (B := B) hpn
            have htx := hz127.tk.1
            have hzs := hz127.jC hC 2 (nI a127)
            have hXs := hXc127.sI (S := sP p0) (i := (p0 + 2 + pC z.1)) (Or.inr (Or.inr (Or.inl ⟨by omega, by omega⟩))) 2 (nI a127)
            have hKs : EkV μ (sI W127 (p0 + 2 + pC z.1) 2 (nI a127)) := hKc127.sI (by omega)
            have hexs := (Ex.rfl' (S := fun i => i = (p0 + 2 + pC z.1)) hwc).sI (i := (p0 + 2 + pC z.1)) rfl 2 (nI a127)
            have hNs : NmV (sI W127 (p0 + 2 + pC z.1) 2 (nI a127)) (p0 + 2 + pC z.1) (tkL B n (tkE B n p)) := by
              obtain ⟨r, b1, b2⟩ := hN108.ex hX127.1 (fun i y => by rcases y with y | y <;> omega) (by have := hz108.wf.1; omega) (by rintro (y | y) <;> omega)
              exact ⟨r, b1, b2.ex hexs (fun i y => by omega)⟩
            have hs1c : gI (sI W127 (p0 + 2 + pC z.1) 2 (nI a127)) (p0 + 2 + pC z.1) 1 = nI a83 := by rw [gI_sI, if_neg (by omega), hX127.1.i (by have := hz108.wf.1; omega) (by rintro (y | y) <;> omega)]; exact hs1b
            have hs2c : gI (sI W127 (p0 + 2 + pC z.1) 2 (nI a127)) (p0 + 2 + pC z.1) 2 = nI a127 := by rw [gI_sI, if_pos ⟨rfl, rfl⟩]
            refine lf (a_inv (b2 := (0, 0)) k127 rfl dX2_readCabin_127 yk_X2_numberHere im_X2_numberHere se_X2_numberHere ml_X2_147 rfl (co_79 (by repeat (first | with_reducible exact hw | with_reducible exact hwc | with_reducible assumption | with_reducible apply Wf.sI | with_reducible apply Wf.sL | with_reducible apply Wf.cpI | with_reducible apply Wf.cpL | with_reducible apply Wf.cp2 | with_reducible apply Wf.sIs | with_reducible apply Wf.sLs | with_reducible apply Wf.cpU | with_reducible apply Wf.fillI | with_reducible apply Wf.clU | with_reducible apply Wf.dnF | with_reducible apply Wf.gbW))) (by decide) hc_X2 (by decide) (by decide) (Nat.le_of_ble_eq_true rfl)) ?_
            refine lf (a_putI dX2_readCabin_130 fs_X2_144 rfl rfl rfl (pl_c (by repeat (first | with_reducible exact hw | with_reducible exact hwc | with_reducible assumption | with_reducible apply Wf.sI | with_reducible apply Wf.sL | with_reducible apply Wf.cpI | with_reducible apply Wf.cpL | with_reducible apply Wf.cp2 | with_reducible apply Wf.sIs | with_reducible apply Wf.sLs | with_reducible apply Wf.cpU | with_reducible apply Wf.fillI | with_reducible apply Wf.clU | with_reducible apply Wf.dnF | with_reducible apply Wf.gbW)) hp (by omega))) ?_
            refine lf (a_aload_n dX2_readCabin_133 rfl) ?_
            refine lf (a_getI dX2_readCabin_134 fs_X2_144 rfl (pl_c (by repeat (first | with_reducible exact hw | with_reducible exact hwc | with_reducible assumption | with_reducible apply Wf.sI | with_reducible apply Wf.sL | with_reducible apply Wf.cpI | with_reducible apply Wf.cpL | with_reducible apply Wf.cp2 | with_reducible apply Wf.sIs | with_reducible apply Wf.sLs | with_reducible apply Wf.cpU | with_reducible apply Wf.fillI | with_reducible apply Wf.clU | with_reducible apply Wf.dnF | with_reducible apply Wf.gbW)) hp (by omega))) ?_
            rw [gI_sI, if_pos ⟨rfl, rfl⟩]
            refine lf (a_iconst (-1 : Int32) dX2_readCabin_137 (by decide)) ?_
            refine lfn (a_icmp_ne (tgt := 143) dX2_readCabin_138 (by decide)) (fun h138 => ?_) (fun h138 => absurd h138 (nI_ne1 (by have := nhS_lt hr127; omega)))
            refine lf (a_aload_n dX2_readCabin_143 rfl) ?_
            refine lf (a_getR (cr_79_0 (by repeat (first | with_reducible exact hw | with_reducible exact hwc | with_reducible assumption | with_reducible apply Wf.sI | with_reducible apply Wf.sL | with_reducible apply Wf.cpI | with_reducible apply Wf.cpL | with_reducible apply Wf.cp2 | with_reducible apply Wf.sIs | with_reducible apply Wf.sLs | with_reducible apply Wf.cpU | with_reducible apply Wf.fillI | with_reducible apply Wf.clU | with_reducible apply Wf.dnF | with_reducible apply Wf.gbW))) dX2_readCabin_144 fs_X2_12 rfl (co_79 (by repeat (first | with_reducible exact hw | with_reducible exact hwc | with_reducible assumption | with_reducible apply Wf.sI | with_reducible apply Wf.sL | with_reducible apply Wf.cpI | with_reducible apply Wf.cpL | with_reducible apply Wf.cp2 | with_reducible apply Wf.sIs | with_reducible apply Wf.sLs | with_reducible apply Wf.cpU | with_reducible apply Wf.fillI | with_reducible apply Wf.clU | with_reducible apply Wf.dnF | with_reducible apply Wf.gbW)))) ?_
            obtain ⟨v_, W147, k147, rfl, hO147, hA147⟩ := (t_X9_next hzs.wf hzs.tk hen.2.1 hzs.at'.2.1)
            have hz147 := hzs.next hO147 hA147 hen.2.1
            have hXc147 := hXs.trans ((ExT hO147).1.mono (fun i _ y => sT_sP p0 i y))
            have hKc147 := hKs.trans (ExT hO147).2
            have hwc := hz147.wf
            have hr2 := hz147.r2
            have hr1 := hz147.r1
            have hA := hz147.at'
            have hpn := hz147.le
            have hen := tkE_le (B := B) hpn
            have htx := hz147.tk.1
            have hN147 := hNs.ex (En.of hO147.1).1 (fun i y => by have y : i = 80 := y; omega) (by have := hzs.wf.1; omega) (by intro y; have y : (p0 + 2 + pC z.1) = 80 := y; omega)
            have hs1d : gI W147 (p0 + 2 + pC z.1) 1 = nI a83 := (hO147.1.i (by intro y; have y : (p0 + 2 + pC z.1) = 80 := y; omega) 1).trans hs1c
            have hs2d : gI W147 (p0 + 2 + pC z.1) 2 = nI a127 := (hO147.1.i (by intro y; have y : (p0 + 2 + pC z.1) = 80 := y; omega) 2).trans hs2c
            refine lf (a_inv (b2 := (0, 0)) k147 rfl dX2_readCabin_147 yk_X9_next im_X9_next se_X9_next ml_X2_47 rfl (co_80 (by repeat (first | with_reducible exact hw | with_reducible exact hwc | with_reducible assumption | with_reducible apply Wf.sI | with_reducible apply Wf.sL | with_reducible apply Wf.cpI | with_reducible apply Wf.cpL | with_reducible apply Wf.cp2 | with_reducible apply Wf.sIs | with_reducible apply Wf.sLs | with_reducible apply Wf.cpU | with_reducible apply Wf.fillI | with_reducible apply Wf.clU | with_reducible apply Wf.dnF | with_reducible apply Wf.gbW))) (by decide) hc_X9 (by decide) (by decide) (Nat.le_of_ble_eq_true rfl)) ?_
            first
            | exact lf (a_loc _ rfl) (X2_readCabin_150 hXb hnb hz147 hXc147 hKc147 hC hN147 hs1d hs2d (by rw [stCabin, if_neg (by omega), if_neg (fun q => q hnm), hcf]; dsimp only; rw [cbS, bnd_r hr83, if_pos hk2, bnd_r hr127]))
            | exact lf (a_loc _ rfl) (X2_readCabin_150 hXb hnb hz108 hXc108 hKc108 hC hN108 hs1b hs2b (by rw [stCabin, if_neg (by omega), if_neg (fun q => q hnm), hcf]; dsimp only; rw [cbS, bnd_r hr83, if_neg hk2]))
    · obtain ⟨i_, hcf⟩ : ∃ i, cfS B n (tkE B n p) (pC z.1) z.2.2.1 = some i := by
        cases e : cfS B n (tkE B n p) (pC z.1) z.2.2.1 with
        | none => rw [e] at h42; exact absurd rfl h42
        | some i => exact ⟨i, rfl⟩
      refine lf (a_aload_n dX2_readCabin_45 rfl) ?_
      refine lf (a_iconst (3 : Int32) dX2_readCabin_46 (by decide)) ?_
      refine lf (a_inv (b2 := (0, 0)) (t_X2_fail hwc (c := 3) hA.1) rfl dX2_readCabin_47 yk_X2_fail im_X2_fail se_X2_fail ml_X2_102 rfl (co_79 (by repeat (first | with_reducible exact hw | with_reducible exact hwc | with_reducible assumption | with_reducible apply Wf.sI | with_reducible apply Wf.sL | with_reducible apply Wf.cpI | with_reducible apply Wf.cpL | with_reducible apply Wf.cp2 | with_reducible apply Wf.sIs | with_reducible apply Wf.sLs | with_reducible apply Wf.cpU | with_reducible apply Wf.fillI | with_reducible apply Wf.clU | with_reducible apply Wf.dnF | with_reducible apply Wf.gbW))) (by decide) hc_X2 (by decide) (by decide) (Nat.le_of_ble_eq_true rfl)) ?_
      refine ⟨_, _, (a_ireturn dX2_readCabin_50 rfl rfl), ?_⟩
      exact ⟨_, rfl, StN.bad ((hXc21.trans ((hz21.err 3 _).1.mono (fun i _ y => sT_sP p0 i y))).1) (Or.inl hO21.1.2.1) (hz21.err 3 _).2 (by rw [stCabin, if_neg (by omega), if_neg (fun q => q hnm), hcf])⟩
  · have hnm : ¬ (tkK B n (tkE B n p) = 1 ∧ (tkL B n (tkE B n p)).length ≤ 6) := fun q => by rw [if_pos q] at h28; exact absurd h28 (by decide)
    refine lf (a_aload_n dX2_readCabin_31 rfl) ?_
    refine lf (a_iconst (1 : Int32) dX2_readCabin_32 (by decide)) ?_
    refine lf (a_inv (b2 := (0, 0)) (t_X2_fail hwc (c := 1) hA.1) rfl dX2_readCabin_33 yk_X2_fail im_X2_fail se_X2_fail ml_X2_102 rfl (co_79 (by repeat (first | with_reducible exact hw | with_reducible exact hwc | with_reducible assumption | with_reducible apply Wf.sI | with_reducible apply Wf.sL | with_reducible apply Wf.cpI | with_reducible apply Wf.cpL | with_reducible apply Wf.cp2 | with_reducible apply Wf.sIs | with_reducible apply Wf.sLs | with_reducible apply Wf.cpU | with_reducible apply Wf.fillI | with_reducible apply Wf.clU | with_reducible apply Wf.dnF | with_reducible apply Wf.gbW))) (by decide) hc_X2 (by decide) (by decide) (Nat.le_of_ble_eq_true rfl)) ?_
    refine ⟨_, _, (a_ireturn dX2_readCabin_36 rfl rfl), ?_⟩
    exact ⟨_, rfl, StN.bad ((hXc21.trans ((hz21.err 1 _).1.mono (fun i _ y => sT_sP p0 i y))).1) (Or.inl hO21.1.2.1) (hz21.err 1 _).2 (by rw [stCabin, if_neg (by omega), if_pos hnm])⟩
end PARSM
