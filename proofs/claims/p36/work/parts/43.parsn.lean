section PARSN
variable {μ W Wb : Wd} {B : Nat → Nat} {n p0 p : Nat} {z : PZ}
theorem NmV.sI {i j k : Nat} {v : Int32} {l : List Nat} (h : NmV W i l) (hw : Wf W) (hj : j < 339) : NmV (sI W j k v) i l := by
  obtain ⟨r, h1, h2⟩ := h
  exact ⟨r, h1, h2.ex ((Ex.rfl' (S := fun x => x = j) hw).sI rfl k v) (fun x y => by omega)⟩
/-- a meal's numbers as they are -/
def RwI (W : Wd) (i : Nat) (f : Nat → Int32) : Prop := ∀ k, gI W i k = f k
theorem RwI.ex {S : Nat → Prop} {i : Nat} {f : Nat → Int32} (h : RwI μ i f) (he : Ex S μ W) (hi : i < wn μ) (hs : ¬ S i) : RwI W i f := fun k => (he.i hi hs k).trans (h k)
theorem RwI.set {i k : Nat} {v : Int32} {f : Nat → Int32} (h : RwI W i f) : RwI (sI W i k v) i (up1 f k v) := fun x => by
  rw [gI_sI]
  unfold up1
  by_cases e : x = k
  · rw [if_pos ⟨rfl, e⟩, if_pos e]
  · rw [if_neg (fun q => e q.2), if_neg e]; exact h x
def paS (B : Nat → Nat) (n p : Nat) (z : PZ) : (Nat × Nat) ⊕ (Nat × Int32 × Int32) := if wdI B n (tkE B n p) 9 then .inr (tkE B n p, -1, 0) else if wdI B n (tkE B n p) 10 then bnd (ncS B n (tkE B n (tkE B n p)) z) fun c => bnd (nhS B n (tkE B n (tkE B n (tkE B n p))) 1 99) fun s => .inr (tkE B n (tkE B n (tkE B n p)), nI c, nI s) else .inl (1, tkS B n (tkE B n p))
abbrev sW (i : Nat) : Nat → Prop := fun x => sT x ∨ x = i
theorem sT_sW (i : Nat) : ∀ x, sT x → sW i x := fun x y => Or.inl y
abbrev R_X2_readPlace : Room := { frames := 10, cells := 0, slots := 0, locals := 247 }
abbrev RX_X2_readPlace : Room := { frames := 10, cells := 1, slots := 6, locals := 247 }

theorem t_X2_readPlace (hz : PsV B n p0 p z μ) (hM : pM z.1 < 12) : CV Y_X2_readPlace R_X2_readPlace [.ref 79, .ref (p0 + 7 + pM z.1)] μ (RdQ (sW (p0 + 7 + pM z.1)) μ (paS B n p z) (.int 0) (fun a v V => v = some (.int 1) ∧ PsV B n p0 a.1 z V ∧ gR V (p0 + 7 + pM z.1) 0 = gR μ (p0 + 7 + pM z.1) 0 ∧ gI V (p0 + 7 + pM z.1) 1 = a.2.1 ∧ gI V (p0 + 7 + pM z.1) 2 = a.2.2)) := by
  refine CV.ent yk_X2_readPlace (Nat.le_of_ble_eq_true rfl) ?_
  have hw := hz.wf
  have hp := hz.pv.pl
  have hpp := pl_le hp
  have hX0 : En (sW (p0 + 7 + pM z.1)) μ μ := En.rfl' hw
  have hK0 : EkV μ μ := EkV.rfl'
  have hwc := hz.wf
  have hr2 := hz.r2
  have hr1 := hz.r1
  have hA := hz.at'
  have hpn := hz.le
  have hen := tkE_le (B := B) hpn
  have htx := hz.tk.1
  have hza := (hz.jM hM 1 (-1)).jM hM 2 0
  have hXa := (hX0.sI (S := sW (p0 + 7 + pM z.1)) (i := (p0 + 7 + pM z.1)) (Or.inr rfl) 1 (-1)).sI (S := sW (p0 + 7 + pM z.1)) (i := (p0 + 7 + pM z.1)) (Or.inr rfl) 2 0
  have hKa : EkV μ (sI (sI μ (p0 + 7 + pM z.1) 1 (-1)) (p0 + 7 + pM z.1) 2 0) := (hK0.sI (by omega)).sI (by omega)
  refine lf (a_aload_n dX2_readPlace_0 rfl) ?_
  refine lf (a_iconst (-1 : Int32) dX2_readPlace_1 (by decide)) ?_
  refine lf (a_putI dX2_readPlace_2 fs_X2_179 rfl rfl rfl (pl_m (by repeat (first | with_reducible exact hw | with_reducible exact hwc | with_reducible assumption | with_reducible apply Wf.sI | with_reducible apply Wf.sL | with_reducible apply Wf.cpI | with_reducible apply Wf.cpL | with_reducible apply Wf.cp2 | with_reducible apply Wf.sIs | with_reducible apply Wf.sLs | with_reducible apply Wf.cpU | with_reducible apply Wf.fillI | with_reducible apply Wf.clU | with_reducible apply Wf.dnF | with_reducible apply Wf.gbW)) hp hM)) ?_
  refine lf (a_aload_n dX2_readPlace_5 rfl) ?_
  refine lf (a_iconst (0 : Int32) dX2_readPlace_6 (by decide)) ?_
  refine lf (a_putI dX2_readPlace_7 fs_X2_181 rfl rfl rfl (pl_m (by repeat (first | with_reducible exact hw | with_reducible exact hwc | with_reducible assumption | with_reducible apply Wf.sI | with_reducible apply Wf.sL | with_reducible apply Wf.cpI | with_reducible apply Wf.cpL | with_reducible apply Wf.cp2 | with_reducible apply Wf.sIs | with_reducible apply Wf.sLs | with_reducible apply Wf.cpU | with_reducible apply Wf.fillI | with_reducible apply Wf.clU | with_reducible apply Wf.dnF | with_reducible apply Wf.gbW)) hp hM)) ?_
  refine lf (a_aload_n dX2_readPlace_10 rfl) ?_
  refine lf (a_getR (cr_79_0 (by repeat (first | with_reducible exact hw | with_reducible exact hwc | with_reducible assumption | with_reducible apply Wf.sI | with_reducible apply Wf.sL | with_reducible apply Wf.cpI | with_reducible apply Wf.cpL | with_reducible apply Wf.cp2 | with_reducible apply Wf.sIs | with_reducible apply Wf.sLs | with_reducible apply Wf.cpU | with_reducible apply Wf.fillI | with_reducible apply Wf.clU | with_reducible apply Wf.dnF | with_reducible apply Wf.gbW))) dX2_readPlace_11 fs_X2_12 rfl (co_79 (by repeat (first | with_reducible exact hw | with_reducible exact hwc | with_reducible assumption | with_reducible apply Wf.sI | with_reducible apply Wf.sL | with_reducible apply Wf.cpI | with_reducible apply Wf.cpL | with_reducible apply Wf.cp2 | with_reducible apply Wf.sIs | with_reducible apply Wf.sLs | with_reducible apply Wf.cpU | with_reducible apply Wf.fillI | with_reducible apply Wf.clU | with_reducible apply Wf.dnF | with_reducible apply Wf.gbW)))) ?_
  obtain ⟨v_, W14, k14, rfl, hO14, hA14⟩ := (t_X9_next hza.wf hza.tk hen.2.1 hza.at'.2.1)
  have hz14 := hza.next hO14 hA14 hen.2.1
  have hXc14 := hXa.trans ((ExT hO14).1.mono (fun i _ y => sT_sW (p0 + 7 + pM z.1) i y))
  have hKc14 := hKa.trans (ExT hO14).2
  have hrow : ¬ ((p0 + 7 + pM z.1) = 80) := by omega
  have r14 : gR W14 (p0 + 7 + pM z.1) 0 = gR μ (p0 + 7 + pM z.1) 0 := hO14.1.r (by intro y; exact hrow y) 0
  have i14 : ∀ k, gI W14 (p0 + 7 + pM z.1) k = gI (sI (sI μ (p0 + 7 + pM z.1) 1 (-1)) (p0 + 7 + pM z.1) 2 0) (p0 + 7 + pM z.1) k := fun k => hO14.1.i (by intro y; exact hrow y) k
  have hwc := hz14.wf
  have hr2 := hz14.r2
  have hr1 := hz14.r1
  have hA := hz14.at'
  have hpn := hz14.le
  have hen := tkE_le (B := B) hpn
  have htx := hz14.tk.1
  refine lf (a_inv (b2 := (0, 0)) k14 rfl dX2_readPlace_14 yk_X9_next im_X9_next se_X9_next ml_X2_47 rfl (co_80 (by repeat (first | with_reducible exact hw | with_reducible exact hwc | with_reducible assumption | with_reducible apply Wf.sI | with_reducible apply Wf.sL | with_reducible apply Wf.cpI | with_reducible apply Wf.cpL | with_reducible apply Wf.cp2 | with_reducible apply Wf.sIs | with_reducible apply Wf.sLs | with_reducible apply Wf.cpU | with_reducible apply Wf.fillI | with_reducible apply Wf.clU | with_reducible apply Wf.dnF | with_reducible apply Wf.gbW))) (by decide) hc_X9 (by decide) (by decide) (Nat.le_of_ble_eq_true rfl)) ?_
  refine lf (a_aload_n dX2_readPlace_17 rfl) ?_
  refine lf (a_getR (cr_79_0 (by repeat (first | with_reducible exact hw | with_reducible exact hwc | with_reducible assumption | with_reducible apply Wf.sI | with_reducible apply Wf.sL | with_reducible apply Wf.cpI | with_reducible apply Wf.cpL | with_reducible apply Wf.cp2 | with_reducible apply Wf.sIs | with_reducible apply Wf.sLs | with_reducible apply Wf.cpU | with_reducible apply Wf.fillI | with_reducible apply Wf.clU | with_reducible apply Wf.dnF | with_reducible apply Wf.gbW))) dX2_readPlace_18 fs_X2_12 rfl (co_79 (by repeat (first | with_reducible exact hw | with_reducible exact hwc | with_reducible assumption | with_reducible apply Wf.sI | with_reducible apply Wf.sL | with_reducible apply Wf.cpI | with_reducible apply Wf.cpL | with_reducible apply Wf.cp2 | with_reducible apply Wf.sIs | with_reducible apply Wf.sLs | with_reducible apply Wf.cpU | with_reducible apply Wf.fillI | with_reducible apply Wf.clU | with_reducible apply Wf.dnF | with_reducible apply Wf.gbW)))) ?_
  refine lf (a_ldcS (n := 9) (tx := "special") dX2_readPlace_21 rfl) ?_
  refine lf (a_inv (b2 := (0, 0)) (t_X9_is hz14.wf hz14.tk hz14.le hz14.at' (StrV.const (μ := W14) k_special)) rfl dX2_readPlace_23 yk_X9_is im_X9_is se_X9_is ml_X2_65 rfl (co_80 (by repeat (first | with_reducible exact hw | with_reducible exact hwc | with_reducible assumption | with_reducible apply Wf.sI | with_reducible apply Wf.sL | with_reducible apply Wf.cpI | with_reducible apply Wf.cpL | with_reducible apply Wf.cp2 | with_reducible apply Wf.sIs | with_reducible apply Wf.sLs | with_reducible apply Wf.cpU | with_reducible apply Wf.fillI | with_reducible apply Wf.clU | with_reducible apply Wf.dnF | with_reducible apply Wf.gbW))) (by decide) hc_X9 (by decide) (by decide) (Nat.le_of_ble_eq_true rfl)) ?_
  refine lf2 (a_if_eq (tgt := 31) dX2_readPlace_26 (by decide)) (fun h26 => ?_) (fun h26 => ?_)
  · have hw26 := wd_t h26
    refine lf (a_aload_n dX2_readPlace_31 rfl) ?_
    refine lf (a_getR (cr_79_0 (by repeat (first | with_reducible exact hw | with_reducible exact hwc | with_reducible assumption | with_reducible apply Wf.sI | with_reducible apply Wf.sL | with_reducible apply Wf.cpI | with_reducible apply Wf.cpL | with_reducible apply Wf.cp2 | with_reducible apply Wf.sIs | with_reducible apply Wf.sLs | with_reducible apply Wf.cpU | with_reducible apply Wf.fillI | with_reducible apply Wf.clU | with_reducible apply Wf.dnF | with_reducible apply Wf.gbW))) dX2_readPlace_32 fs_X2_12 rfl (co_79 (by repeat (first | with_reducible exact hw | with_reducible exact hwc | with_reducible assumption | with_reducible apply Wf.sI | with_reducible apply Wf.sL | with_reducible apply Wf.cpI | with_reducible apply Wf.cpL | with_reducible apply Wf.cp2 | with_reducible apply Wf.sIs | with_reducible apply Wf.sLs | with_reducible apply Wf.cpU | with_reducible apply Wf.fillI | with_reducible apply Wf.clU | with_reducible apply Wf.dnF | with_reducible apply Wf.gbW)))) ?_
    refine lf (a_ldcS (n := 10) (tx := "menu") dX2_readPlace_35 rfl) ?_
    refine lf (a_inv (b2 := (0, 0)) (t_X9_is hz14.wf hz14.tk hz14.le hz14.at' (StrV.const (μ := W14) k_menu)) rfl dX2_readPlace_37 yk_X9_is im_X9_is se_X9_is ml_X2_65 rfl (co_80 (by repeat (first | with_reducible exact hw | with_reducible exact hwc | with_reducible assumption | with_reducible apply Wf.sI | with_reducible apply Wf.sL | with_reducible apply Wf.cpI | with_reducible apply Wf.cpL | with_reducible apply Wf.cp2 | with_reducible apply Wf.sIs | with_reducible apply Wf.sLs | with_reducible apply Wf.cpU | with_reducible apply Wf.fillI | with_reducible apply Wf.clU | with_reducible apply Wf.dnF | with_reducible apply Wf.gbW))) (by decide) hc_X9 (by decide) (by decide) (Nat.le_of_ble_eq_true rfl)) ?_
    refine lfn (a_if_ne (tgt := 49) dX2_readPlace_40 (by decide)) (fun h40 => ?_) (fun h40 => ?_)
    · have hw40 := wd_f h40
      refine lf (a_aload_n dX2_readPlace_49 rfl) ?_
      refine lf (a_aload_n dX2_readPlace_50 rfl) ?_
      obtain ⟨v_, W51, k51, hR51⟩ := (t_X2_nextCabin hz14)
      obtain ⟨hX51, hR51⟩ := hR51
      generalize hr51 : ncS B n (tkE B n (tkE B n p)) z = r51 at hR51
      cases r51 with
      | inl a51 =>
        obtain ⟨rfl, hE51⟩ := hR51
        have hwx := hX51.1.1
        have hXc51 := hXc14.trans (hX51.mono (fun i _ y => sT_sW (p0 + 7 + pM z.1) i y))
        have hXq51 := hXc51.sI (S := sW (p0 + 7 + pM z.1)) (i := (p0 + 7 + pM z.1)) (Or.inr rfl) 1 (-1)
        refine lf (a_inv (b2 := (0, 0)) k51 rfl dX2_readPlace_51 yk_X2_nextCabin im_X2_nextCabin se_X2_nextCabin ml_X2_188 rfl (co_79 (by repeat (first | with_reducible exact hw | with_reducible exact hwc | with_reducible assumption | with_reducible apply Wf.sI | with_reducible apply Wf.sL | with_reducible apply Wf.cpI | with_reducible apply Wf.cpL | with_reducible apply Wf.cp2 | with_reducible apply Wf.sIs | with_reducible apply Wf.sLs | with_reducible apply Wf.cpU | with_reducible apply Wf.fillI | with_reducible apply Wf.clU | with_reducible apply Wf.dnF | with_reducible apply Wf.gbW))) (by decide) hc_X2 (by decide) (by decide) (Nat.le_of_ble_eq_true rfl)) ?_
        refine lf (a_putI dX2_readPlace_54 fs_X2_179 rfl rfl rfl (pl_m (by repeat (first | with_reducible exact hw | with_reducible exact hwc | with_reducible assumption | with_reducible apply Wf.sI | with_reducible apply Wf.sL | with_reducible apply Wf.cpI | with_reducible apply Wf.cpL | with_reducible apply Wf.cp2 | with_reducible apply Wf.sIs | with_reducible apply Wf.sLs | with_reducible apply Wf.cpU | with_reducible apply Wf.fillI | with_reducible apply Wf.clU | with_reducible apply Wf.dnF | with_reducible apply Wf.gbW)) hp hM)) ?_
        refine lf (a_aload_n dX2_readPlace_57 rfl) ?_
        refine lf (a_getI dX2_readPlace_58 fs_X2_179 rfl (pl_m (by repeat (first | with_reducible exact hw | with_reducible exact hwc | with_reducible assumption | with_reducible apply Wf.sI | with_reducible apply Wf.sL | with_reducible apply Wf.cpI | with_reducible apply Wf.cpL | with_reducible apply Wf.cp2 | with_reducible apply Wf.sIs | with_reducible apply Wf.sLs | with_reducible apply Wf.cpU | with_reducible apply Wf.fillI | with_reducible apply Wf.clU | with_reducible apply Wf.dnF | with_reducible apply Wf.gbW)) hp hM)) ?_
        rw [gI_sI, if_pos ⟨rfl, rfl⟩]
        refine lf (a_iconst (-1 : Int32) dX2_readPlace_61 (by decide)) ?_
        refine lfn (a_icmp_ne (tgt := 67) dX2_readPlace_62 (by decide)) (fun h62 => absurd h62 (fun q => q rfl)) (fun h62 => ?_)
        refine lf (a_iconst (0 : Int32) dX2_readPlace_65 (by decide)) ?_
        refine ⟨_, _, (a_ireturn dX2_readPlace_66 rfl rfl), ?_⟩
        exact ⟨_, rfl, hXq51, by rw [paS, if_neg hw26, if_pos hw40, bnd_l hr51]; exact ⟨rfl, ⟨by rw [gI_sI, if_neg (by omega)]; exact hE51.1, by rw [gI_sI, if_neg (by omega)]; exact hE51.2.1, hE51.2.2⟩⟩⟩
      | inr a51 =>
        obtain ⟨hK51, rfl, hz51⟩ := hR51
        have hXc51 := hXc14.trans (hX51.mono (fun i _ y => sT_sW (p0 + 7 + pM z.1) i y))
        have hKc51 := hKc14.trans hK51
        have hwc := hz51.wf
        have hr2 := hz51.r2
        have hr1 := hz51.r1
        have hA := hz51.at'
        have hpn := hz51.le
        have hen := tkE_le (B := B) hpn
        have htx := hz51.tk.1
        have hzq := hz51.jM hM 1 (nI a51)
        have hXq := hXc51.sI (S := sW (p0 + 7 + pM z.1)) (i := (p0 + 7 + pM z.1)) (Or.inr rfl) 1 (nI a51)
        have hKq : EkV μ (sI W51 (p0 + 7 + pM z.1) 1 (nI a51)) := hKc51.sI (by omega)
        have r51 : gR (sI W51 (p0 + 7 + pM z.1) 1 (nI a51)) (p0 + 7 + pM z.1) 0 = gR μ (p0 + 7 + pM z.1) 0 := (hX51.1.r (by have := hz14.wf.1; omega) (by rintro (y | y) <;> omega) 0).trans r14
        have i51 : gI (sI W51 (p0 + 7 + pM z.1) 1 (nI a51)) (p0 + 7 + pM z.1) 1 = nI a51 := by rw [gI_sI, if_pos ⟨rfl, rfl⟩]
        refine lf (a_inv (b2 := (0, 0)) k51 rfl dX2_readPlace_51 yk_X2_nextCabin im_X2_nextCabin se_X2_nextCabin ml_X2_188 rfl (co_79 (by repeat (first | with_reducible exact hw | with_reducible exact hwc | with_reducible assumption | with_reducible apply Wf.sI | with_reducible apply Wf.sL | with_reducible apply Wf.cpI | with_reducible apply Wf.cpL | with_reducible apply Wf.cp2 | with_reducible apply Wf.sIs | with_reducible apply Wf.sLs | with_reducible apply Wf.cpU | with_reducible apply Wf.fillI | with_reducible apply Wf.clU | with_reducible apply Wf.dnF | with_reducible apply Wf.gbW))) (by decide) hc_X2 (by decide) (by decide) (Nat.le_of_ble_eq_true rfl)) ?_
        refine lf (a_putI dX2_readPlace_54 fs_X2_179 rfl rfl rfl (pl_m (by repeat (first | with_reducible exact hw | with_reducible exact hwc | with_reducible assumption | with_reducible apply Wf.sI | with_reducible apply Wf.sL | with_reducible apply Wf.cpI | with_reducible apply Wf.cpL | with_reducible apply Wf.cp2 | with_reducible apply Wf.sIs | with_reducible apply Wf.sLs | with_reducible apply Wf.cpU | with_reducible apply Wf.fillI | with_reducible apply Wf.clU | with_reducible apply Wf.dnF | with_reducible apply Wf.gbW)) hp hM)) ?_
        refine lf (a_aload_n dX2_readPlace_57 rfl) ?_
        refine lf (a_getI dX2_readPlace_58 fs_X2_179 rfl (pl_m (by repeat (first | with_reducible exact hw | with_reducible exact hwc | with_reducible assumption | with_reducible apply Wf.sI | with_reducible apply Wf.sL | with_reducible apply Wf.cpI | with_reducible apply Wf.cpL | with_reducible apply Wf.cp2 | with_reducible apply Wf.sIs | with_reducible apply Wf.sLs | with_reducible apply Wf.cpU | with_reducible apply Wf.fillI | with_reducible apply Wf.clU | with_reducible apply Wf.dnF | with_reducible apply Wf.gbW)) hp hM)) ?_
        rw [gI_sI, if_pos ⟨rfl, rfl⟩]
        refine lf (a_iconst (-1 : Int32) dX2_readPlace_61 (by decide)) ?_
        refine lfn (a_icmp_ne (tgt := 67) dX2_readPlace_62 (by decide)) (fun h62 => ?_) (fun h62 => absurd h62 (nI_ne1 (by have := ncS_lt hr51; have := hz.pv.C4; omega)))
        refine lf (a_aload_n dX2_readPlace_67 rfl) ?_
        refine lf (a_aload_n dX2_readPlace_68 rfl) ?_
        refine lf (a_iconst (1 : Int32) dX2_readPlace_69 (by decide)) ?_
        refine lf (a_bipush (99 : Int32) dX2_readPlace_70 (by decide)) ?_
        obtain ⟨v_, W72, k72, hR72⟩ := (t_X2_nextNumber hzq (lo := 1) (hi := 99) (by decide) (by decide))
        obtain ⟨hX72, hR72⟩ := hR72
        generalize hr72 : nhS B n (tkE B n (tkE B n (tkE B n p))) 1 99 = r72 at hR72
        cases r72 with
        | inl a72 =>
          obtain ⟨rfl, hE72⟩ := hR72
          have hwx := hX72.1.1
          have hXc72 := hXq.trans (hX72.mono (fun i _ y => sT_sW (p0 + 7 + pM z.1) i y))
          have hXq72 := hXc72.sI (S := sW (p0 + 7 + pM z.1)) (i := (p0 + 7 + pM z.1)) (Or.inr rfl) 2 (-1)
          refine lf (a_inv (b2 := (0, 0)) k72 rfl dX2_readPlace_72 yk_X2_nextNumber im_X2_nextNumber se_X2_nextNumber ml_X2_106 rfl (co_79 (by repeat (first | with_reducible exact hw | with_reducible exact hwc | with_reducible assumption | with_reducible apply Wf.sI | with_reducible apply Wf.sL | with_reducible apply Wf.cpI | with_reducible apply Wf.cpL | with_reducible apply Wf.cp2 | with_reducible apply Wf.sIs | with_reducible apply Wf.sLs | with_reducible apply Wf.cpU | with_reducible apply Wf.fillI | with_reducible apply Wf.clU | with_reducible apply Wf.dnF | with_reducible apply Wf.gbW))) (by decide) hc_X2 (by decide) (by decide) (Nat.le_of_ble_eq_true rfl)) ?_
          refine lf (a_putI dX2_readPlace_75 fs_X2_181 rfl rfl rfl (pl_m (by repeat (first | with_reducible exact hw | with_reducible exact hwc | with_reducible assumption | with_reducible apply Wf.sI | with_reducible apply Wf.sL | with_reducible apply Wf.cpI | with_reducible apply Wf.cpL | with_reducible apply Wf.cp2 | with_reducible apply Wf.sIs | with_reducible apply Wf.sLs | with_reducible apply Wf.cpU | with_reducible apply Wf.fillI | with_reducible apply Wf.clU | with_reducible apply Wf.dnF | with_reducible apply Wf.gbW)) hp hM)) ?_
          refine lf (a_aload_n dX2_readPlace_78 rfl) ?_
          refine lf (a_getI dX2_readPlace_79 fs_X2_181 rfl (pl_m (by repeat (first | with_reducible exact hw | with_reducible exact hwc | with_reducible assumption | with_reducible apply Wf.sI | with_reducible apply Wf.sL | with_reducible apply Wf.cpI | with_reducible apply Wf.cpL | with_reducible apply Wf.cp2 | with_reducible apply Wf.sIs | with_reducible apply Wf.sLs | with_reducible apply Wf.cpU | with_reducible apply Wf.fillI | with_reducible apply Wf.clU | with_reducible apply Wf.dnF | with_reducible apply Wf.gbW)) hp hM)) ?_
          rw [gI_sI, if_pos ⟨rfl, rfl⟩]
          refine lf (a_iconst (-1 : Int32) dX2_readPlace_82 (by decide)) ?_
          refine lf2 (a_icmp_eq (tgt := 90) dX2_readPlace_83 (by decide)) (fun h83 => ?_) (fun h83 => absurd h83 (fun q => q rfl))
          refine lf (a_iconst (0 : Int32) dX2_readPlace_90 (by decide)) ?_
          refine ⟨_, _, (a_ireturn dX2_readPlace_91 rfl rfl), ?_⟩
          first
          | exact ⟨_, rfl, hXq72, by rw [paS, if_neg hw26, if_pos hw40, bnd_r hr51, bnd_l hr72]; exact ⟨rfl, ⟨by rw [gI_sI, if_neg (by omega)]; exact hE72.1, by rw [gI_sI, if_neg (by omega)]; exact hE72.2.1, hE72.2.2⟩⟩⟩
          | exact ⟨_, rfl, hXs, by rw [paS, if_neg hw26, if_pos hw40, bnd_r hr51, bnd_r hr72]; exact ⟨hKs, rfl, hzs, r72, i72, j72⟩⟩
        | inr a72 =>
          obtain ⟨hK72, rfl, hz72⟩ := hR72
          have hXc72 := hXq.trans (hX72.mono (fun i _ y => sT_sW (p0 + 7 + pM z.1) i y))
          have hKc72 := hKq.trans hK72
          have hwc := hz72.wf
          have hr2 := hz72.r2
          have hr1 := hz72.r1
          have hA := hz72.at'
          have hpn := hz72.le
          have hen := tkE_le (B := B) hpn
          have htx := hz72.tk.1
          have hzs := hz72.jM hM 2 (nI a72)
          have hXs := hXc72.sI (S := sW (p0 + 7 + pM z.1)) (i := (p0 + 7 + pM z.1)) (Or.inr rfl) 2 (nI a72)
          have hKs : EkV μ (sI W72 (p0 + 7 + pM z.1) 2 (nI a72)) := hKc72.sI (by omega)
          have r72 : gR (sI W72 (p0 + 7 + pM z.1) 2 (nI a72)) (p0 + 7 + pM z.1) 0 = gR μ (p0 + 7 + pM z.1) 0 := (hX72.1.r (by have := hzq.wf.1; omega) (by rintro (y | y) <;> omega) 0).trans r51
          have i72 : gI (sI W72 (p0 + 7 + pM z.1) 2 (nI a72)) (p0 + 7 + pM z.1) 1 = nI a51 := by rw [gI_sI, if_neg (by omega), hX72.1.i (by have := hzq.wf.1; omega) (by rintro (y | y) <;> omega)]; exact i51
          have j72 : gI (sI W72 (p0 + 7 + pM z.1) 2 (nI a72)) (p0 + 7 + pM z.1) 2 = nI a72 := by rw [gI_sI, if_pos ⟨rfl, rfl⟩]
          refine lf (a_inv (b2 := (0, 0)) k72 rfl dX2_readPlace_72 yk_X2_nextNumber im_X2_nextNumber se_X2_nextNumber ml_X2_106 rfl (co_79 (by repeat (first | with_reducible exact hw | with_reducible exact hwc | with_reducible assumption | with_reducible apply Wf.sI | with_reducible apply Wf.sL | with_reducible apply Wf.cpI | with_reducible apply Wf.cpL | with_reducible apply Wf.cp2 | with_reducible apply Wf.sIs | with_reducible apply Wf.sLs | with_reducible apply Wf.cpU | with_reducible apply Wf.fillI | with_reducible apply Wf.clU | with_reducible apply Wf.dnF | with_reducible apply Wf.gbW))) (by decide) hc_X2 (by decide) (by decide) (Nat.le_of_ble_eq_true rfl)) ?_
          refine lf (a_putI dX2_readPlace_75 fs_X2_181 rfl rfl rfl (pl_m (by repeat (first | with_reducible exact hw | with_reducible exact hwc | with_reducible assumption | with_reducible apply Wf.sI | with_reducible apply Wf.sL | with_reducible apply Wf.cpI | with_reducible apply Wf.cpL | with_reducible apply Wf.cp2 | with_reducible apply Wf.sIs | with_reducible apply Wf.sLs | with_reducible apply Wf.cpU | with_reducible apply Wf.fillI | with_reducible apply Wf.clU | with_reducible apply Wf.dnF | with_reducible apply Wf.gbW)) hp hM)) ?_
          refine lf (a_aload_n dX2_readPlace_78 rfl) ?_
          refine lf (a_getI dX2_readPlace_79 fs_X2_181 rfl (pl_m (by repeat (first | with_reducible exact hw | with_reducible exact hwc | with_reducible assumption | with_reducible apply Wf.sI | with_reducible apply Wf.sL | with_reducible apply Wf.cpI | with_reducible apply Wf.cpL | with_reducible apply Wf.cp2 | with_reducible apply Wf.sIs | with_reducible apply Wf.sLs | with_reducible apply Wf.cpU | with_reducible apply Wf.fillI | with_reducible apply Wf.clU | with_reducible apply Wf.dnF | with_reducible apply Wf.gbW)) hp hM)) ?_
          rw [gI_sI, if_pos ⟨rfl, rfl⟩]
          refine lf (a_iconst (-1 : Int32) dX2_readPlace_82 (by decide)) ?_
          refine lf2 (a_icmp_eq (tgt := 90) dX2_readPlace_83 (by decide)) (fun h83 => absurd h83 (nI_ne1 (by have := nhS_lt hr72; omega))) (fun h83 => ?_)
          refine lf (a_iconst (1 : Int32) dX2_readPlace_86 (by decide)) ?_
          refine lf (a_goto (tgt := 91) dX2_readPlace_87 (by decide)) ?_
          refine ⟨_, _, (a_ireturn dX2_readPlace_91 rfl rfl), ?_⟩
          first
          | exact ⟨_, rfl, hXq72, by rw [paS, if_neg hw26, if_pos hw40, bnd_r hr51, bnd_l hr72]; exact ⟨rfl, ⟨by rw [gI_sI, if_neg (by omega)]; exact hE72.1, by rw [gI_sI, if_neg (by omega)]; exact hE72.2.1, hE72.2.2⟩⟩⟩
          | exact ⟨_, rfl, hXs, by rw [paS, if_neg hw26, if_pos hw40, bnd_r hr51, bnd_r hr72]; exact ⟨hKs, rfl, hzs, r72, i72, j72⟩⟩
    · have hw40 : ¬ wdI B n (tkE B n p) 10 = true := wd_t h40
      refine lf (a_aload_n dX2_readPlace_43 rfl) ?_
      refine lf (a_iconst (1 : Int32) dX2_readPlace_44 (by decide)) ?_
      refine lf (a_inv (b2 := (0, 0)) (t_X2_fail hwc (c := 1) hA.1) rfl dX2_readPlace_45 yk_X2_fail im_X2_fail se_X2_fail ml_X2_102 rfl (co_79 (by repeat (first | with_reducible exact hw | with_reducible exact hwc | with_reducible assumption | with_reducible apply Wf.sI | with_reducible apply Wf.sL | with_reducible apply Wf.cpI | with_reducible apply Wf.cpL | with_reducible apply Wf.cp2 | with_reducible apply Wf.sIs | with_reducible apply Wf.sLs | with_reducible apply Wf.cpU | with_reducible apply Wf.fillI | with_reducible apply Wf.clU | with_reducible apply Wf.dnF | with_reducible apply Wf.gbW))) (by decide) hc_X2 (by decide) (by decide) (Nat.le_of_ble_eq_true rfl)) ?_
      refine ⟨_, _, (a_ireturn dX2_readPlace_48 rfl rfl), ?_⟩
      exact ⟨_, rfl, hXc14.trans ((hz14.err 1 _).1.mono (fun i _ y => sT_sW (p0 + 7 + pM z.1) i y)), by rw [paS, if_neg hw26, if_neg hw40]; exact ⟨rfl, (hz14.err 1 _).2⟩⟩
  · have hw26 := wd_f h26
    refine lf (a_iconst (1 : Int32) dX2_readPlace_29 (by decide)) ?_
    refine ⟨_, _, (a_ireturn dX2_readPlace_30 rfl rfl), ?_⟩
    exact ⟨_, rfl, hXc14, by rw [paS, if_pos hw26]; exact ⟨hKc14, rfl, hz14, r14, by rw [i14, gI_sI, if_neg (by omega), gI_sI, if_pos ⟨rfl, rfl⟩], by rw [i14, gI_sI, if_pos ⟨rfl, rfl⟩]⟩⟩
end PARSN
