section MODELP
variable {μ W V : Wd} {q : PDt} {d : FDt}
def cpX (μ : Wd) (s so dd o n : Nat) : Wd := sIs μ (fun i x => if i = dd ∧ o ≤ x ∧ x < o + n then gI μ s (x - o + so) else gI μ i x)
def cpY (μ : Wd) (s so dd o n : Nat) : Wd := sLs μ (fun i x => if i = dd ∧ o ≤ x ∧ x < o + n then gL μ s (x - o + so) else gL μ i x)
theorem gI_cpX (μ : Wd) (s so dd o n i x : Nat) : gI (cpX μ s so dd o n) i x = if i = dd ∧ o ≤ x ∧ x < o + n then gI μ s (x - o + so) else gI μ i x := rfl
theorem gL_cpX (μ : Wd) (s so dd o n i x : Nat) : gL (cpX μ s so dd o n) i x = gL μ i x := rfl
theorem gL_cpY (μ : Wd) (s so dd o n i x : Nat) : gL (cpY μ s so dd o n) i x = if i = dd ∧ o ≤ x ∧ x < o + n then gL μ s (x - o + so) else gL μ i x := rfl
theorem gI_cpY (μ : Wd) (s so dd o n i x : Nat) : gI (cpY μ s so dd o n) i x = gI μ i x := rfl
theorem Wf.cpXf {μ : Wd} (hw : Wf μ) {s so dd o n : Nat} : Wf (cpX μ s so dd o n) := hw
theorem Wf.cpYf {μ : Wd} (hw : Wf μ) {s so dd o n : Nat} : Wf (cpY μ s so dd o n) := hw
theorem sLs_ext {μ : Wd} {f g : Nat → Nat → Int64} (h : ∀ i k, f i k = g i k) : sLs μ f = sLs μ g := congrArg (sLs μ) (funext fun i => funext fun k => h i k)
theorem cpX_zero (μ : Wd) (s so dd o : Nat) : cpX μ s so dd o 0 = μ := by
  have : (fun i x => if i = dd ∧ o ≤ x ∧ x < o + 0 then gI μ s (x - o + so) else gI μ i x) = μ.2.1 := funext fun i => funext fun x => by rw [if_neg (by omega)]; rfl
  unfold cpX
  rw [this]; rfl
theorem cpY_zero (μ : Wd) (s so dd o : Nat) : cpY μ s so dd o 0 = μ := by
  have : (fun i x => if i = dd ∧ o ≤ x ∧ x < o + 0 then gL μ s (x - o + so) else gL μ i x) = μ.2.2.1 := funext fun i => funext fun x => by rw [if_neg (by omega)]; rfl
  unfold cpY
  rw [this]; rfl
theorem cpX_rd {s so dd o n : Nat} (h : s ≠ dd ∨ o ≤ so) : gI (cpX μ s so dd o n) s (so + n) = gI μ s (so + n) := by rw [gI_cpX, if_neg (by omega)]
theorem cpY_rd {s so dd o n : Nat} (h : s ≠ dd ∨ o ≤ so) : gL (cpY μ s so dd o n) s (so + n) = gL μ s (so + n) := by rw [gL_cpY, if_neg (by omega)]
theorem cpX_succ (μ : Wd) (s so dd o n : Nat) : sI (cpX μ s so dd o n) dd (o + n) (gI μ s (so + n)) = cpX μ s so dd o (n + 1) := by
  show sI (sIs μ _) _ _ _ = sIs μ _
  rw [sI_sIs]
  refine sIs_ext fun i x => ?_
  show (if i = dd ∧ x = o + n then gI μ s (so + n) else if i = dd ∧ o ≤ x ∧ x < o + n then gI μ s (x - o + so) else gI μ i x) = if i = dd ∧ o ≤ x ∧ x < o + (n + 1) then gI μ s (x - o + so) else gI μ i x
  by_cases h1 : i = dd
  · subst h1
    by_cases h2 : x = o + n
    · subst h2
      rw [if_pos ⟨rfl, rfl⟩, if_pos ⟨rfl, by omega, by omega⟩, show o + n - o + so = so + n by omega]
    · rw [if_neg (fun z => h2 z.2)]
      by_cases h3 : o ≤ x ∧ x < o + n
      · rw [if_pos ⟨rfl, h3⟩, if_pos ⟨rfl, h3.1, by omega⟩]
      · rw [if_neg (fun z => h3 z.2), if_neg (by omega)]
  · rw [if_neg (fun z => h1 z.1), if_neg (fun z => h1 z.1), if_neg (fun z => h1 z.1)]
theorem cpY_succ (μ : Wd) (s so dd o n : Nat) : sL (cpY μ s so dd o n) dd (o + n) (gL μ s (so + n)) = cpY μ s so dd o (n + 1) := by
  show sL (sLs μ _) _ _ _ = sLs μ _
  rw [sL_sLs]
  refine sLs_ext fun i x => ?_
  show (if i = dd ∧ x = o + n then gL μ s (so + n) else if i = dd ∧ o ≤ x ∧ x < o + n then gL μ s (x - o + so) else gL μ i x) = if i = dd ∧ o ≤ x ∧ x < o + (n + 1) then gL μ s (x - o + so) else gL μ i x
  by_cases h1 : i = dd
  · subst h1
    by_cases h2 : x = o + n
    · subst h2
      rw [if_pos ⟨rfl, rfl⟩, if_pos ⟨rfl, by omega, by omega⟩, show o + n - o + so = so + n by omega]
    · rw [if_neg (fun z => h2 z.2)]
      by_cases h3 : o ≤ x ∧ x < o + n
      · rw [if_pos ⟨rfl, h3⟩, if_pos ⟨rfl, h3.1, by omega⟩]
      · rw [if_neg (fun z => h3 z.2), if_neg (by omega)]
  · rw [if_neg (fun z => h1 z.1), if_neg (fun z => h1 z.1), if_neg (fun z => h1 z.1)]
theorem Out.cpXo {S : Nat → Prop} (h : Out S μ W) {s so dd o n : Nat} (hd : S dd) : Out S μ (cpX W s so dd o n) := h.sIs fun i hi x => if_neg fun (z : i = dd ∧ o ≤ x ∧ x < o + n) => hi (z.1 ▸ hd)
theorem Out.cpYo {S : Nat → Prop} (h : Out S μ W) {s so dd o n : Nat} (hd : S dd) : Out S μ (cpY W s so dd o n) := h.sLs fun i hi x => if_neg fun (z : i = dd ∧ o ≤ x ∧ x < o + n) => hi (z.1 ▸ hd)
theorem ix0 {m n : Nat} (h : m < n) (hn : n ≤ 4096) : Ix (nI m) (0 + m) n := by rw [Nat.zero_add]; exact ixn h hn
theorem ixr (a t k : Nat) : nI a * nI t + nI k = nI (a * t + k) := by rw [nI_mulI, nI_add]
abbrev R_X11_remembers : Room := { frames := 0, cells := 0, slots := 0, locals := 0 }
abbrev RX_X11_remembers : Room := { frames := 0, cells := 1, slots := 6, locals := 0 }

theorem l_X11_remembers_13 (hw : Wf W) {oc : Oc} {μ1 : Wd} (kx : AW Y_X11_remembers R_X11_remembers (0, 0) (cpX W 346 (291) 346 (0) 3201) 42 [(0, .ref 338), (1, .int (nI (291 + 3201)))] [] oc μ1) : ∀ dd m, m + dd = 3201 → AW Y_X11_remembers R_X11_remembers (0, 0) (cpX W 346 (291) 346 (0) m) 13 [(0, .ref 338), (1, .int (nI (291 + m)))] [] oc μ1 := by
  intro dd
  induction dd with
  | zero =>
    intro m hm
    obtain rfl : 3201 = m := by omega
    refine a_iload_n dX11_remembers_13 rfl ?_
    refine a_sipush (3492 : Int32) dX11_remembers_14 (by decide) ?_
    refine a_icmp_ge (tgt := 42) dX11_remembers_17 (by decide) (fun h17 => ?_) (fun h17 => absurd h17 (fun z => z (nI_le (a := 3492) (b := 291 + 3201) (by decide) (by decide))))
    exact a_loc _ rfl kx
  | succ dd ih =>
    intro m hm
    have qih := ih (m + 1) (by omega)
    rw [← cpX_succ] at qih
    refine a_iload_n dX11_remembers_13 rfl ?_
    refine a_sipush (3492 : Int32) dX11_remembers_14 (by decide) ?_
    refine a_icmp_ge (tgt := 42) dX11_remembers_17 (by decide) (fun h17 => absurd h17 (nI_ge (b := 3492) (show (291 + m) < 3492 by omega) (by decide))) (fun h17 => ?_)
    refine a_aload_n dX11_remembers_20 rfl ?_
    refine a_getR (cr_338_8 (by repeat (first | with_reducible exact hw | with_reducible exact hwc | with_reducible assumption | with_reducible apply Wf.sI | with_reducible apply Wf.sL | with_reducible apply Wf.cpI | with_reducible apply Wf.cpL | with_reducible apply Wf.cp2 | with_reducible apply Wf.sIs | with_reducible apply Wf.sLs | with_reducible apply Wf.cpU | with_reducible apply Wf.fillI | with_reducible apply Wf.clU | with_reducible apply Wf.dnF | with_reducible apply Wf.gbW | with_reducible apply Wf.cpXf | with_reducible apply Wf.cpYf))) dX11_remembers_21 fs_X11_32 rfl (co_338 (by repeat (first | with_reducible exact hw | with_reducible exact hwc | with_reducible assumption | with_reducible apply Wf.sI | with_reducible apply Wf.sL | with_reducible apply Wf.cpI | with_reducible apply Wf.cpL | with_reducible apply Wf.cp2 | with_reducible apply Wf.sIs | with_reducible apply Wf.sLs | with_reducible apply Wf.cpU | with_reducible apply Wf.fillI | with_reducible apply Wf.clU | with_reducible apply Wf.dnF | with_reducible apply Wf.gbW | with_reducible apply Wf.cpXf | with_reducible apply Wf.cpYf))) ?_
    refine a_iload_n dX11_remembers_24 rfl ?_
    refine a_sipush (291 : Int32) dX11_remembers_25 (by decide) ?_
    refine a_isub dX11_remembers_28 ?_
    rw [show nI (291 + m) - 291 = nI m from by rw [show (291 : Int32) = nI 291 from rfl, nI_subI (by omega), Nat.add_sub_cancel_left]]
    refine a_aload_n dX11_remembers_29 rfl ?_
    refine a_getR (cr_338_8 (by repeat (first | with_reducible exact hw | with_reducible exact hwc | with_reducible assumption | with_reducible apply Wf.sI | with_reducible apply Wf.sL | with_reducible apply Wf.cpI | with_reducible apply Wf.cpL | with_reducible apply Wf.cp2 | with_reducible apply Wf.sIs | with_reducible apply Wf.sLs | with_reducible apply Wf.cpU | with_reducible apply Wf.fillI | with_reducible apply Wf.clU | with_reducible apply Wf.dnF | with_reducible apply Wf.gbW | with_reducible apply Wf.cpXf | with_reducible apply Wf.cpYf))) dX11_remembers_30 fs_X11_32 rfl (co_338 (by repeat (first | with_reducible exact hw | with_reducible exact hwc | with_reducible assumption | with_reducible apply Wf.sI | with_reducible apply Wf.sL | with_reducible apply Wf.cpI | with_reducible apply Wf.cpL | with_reducible apply Wf.cp2 | with_reducible apply Wf.sIs | with_reducible apply Wf.sLs | with_reducible apply Wf.cpU | with_reducible apply Wf.fillI | with_reducible apply Wf.clU | with_reducible apply Wf.dnF | with_reducible apply Wf.gbW | with_reducible apply Wf.cpXf | with_reducible apply Wf.cpYf))) ?_
    refine a_iload_n dX11_remembers_33 rfl ?_
    refine a_ild dX11_remembers_34 (ca_346 (by repeat (first | with_reducible exact hw | with_reducible exact hwc | with_reducible assumption | with_reducible apply Wf.sI | with_reducible apply Wf.sL | with_reducible apply Wf.cpI | with_reducible apply Wf.cpL | with_reducible apply Wf.cp2 | with_reducible apply Wf.sIs | with_reducible apply Wf.sLs | with_reducible apply Wf.cpU | with_reducible apply Wf.fillI | with_reducible apply Wf.clU | with_reducible apply Wf.dnF | with_reducible apply Wf.gbW | with_reducible apply Wf.cpXf | with_reducible apply Wf.cpYf))) (ixn (show 291 + m < 3492 by omega) (by decide)) ?_
    rw [cpX_rd (Or.inr (Nat.zero_le _))]
    refine a_ist dX11_remembers_35 (ca_346 (by repeat (first | with_reducible exact hw | with_reducible exact hwc | with_reducible assumption | with_reducible apply Wf.sI | with_reducible apply Wf.sL | with_reducible apply Wf.cpI | with_reducible apply Wf.cpL | with_reducible apply Wf.cp2 | with_reducible apply Wf.sIs | with_reducible apply Wf.sLs | with_reducible apply Wf.cpU | with_reducible apply Wf.fillI | with_reducible apply Wf.clU | with_reducible apply Wf.dnF | with_reducible apply Wf.gbW | with_reducible apply Wf.cpXf | with_reducible apply Wf.cpYf))) (ix0 (show m < 3492 by omega) (by decide)) ?_
    refine a_iincN dX11_remembers_36 rfl (by decide) ?_
    refine a_goto (tgt := 13) dX11_remembers_39 (by decide) ?_
    exact a_loc _ rfl qih

theorem l_X11_remembers_45 (hw : Wf W) {oc : Oc} {μ1 : Wd} (kx : AW Y_X11_remembers R_X11_remembers (0, 0) (cpY W 349 (6) 349 (0) 66) 72 [(0, .ref 338), (1, .int (nI (6 + 66)))] [] oc μ1) : ∀ dd m, m + dd = 66 → AW Y_X11_remembers R_X11_remembers (0, 0) (cpY W 349 (6) 349 (0) m) 45 [(0, .ref 338), (1, .int (nI (6 + m)))] [] oc μ1 := by
  intro dd
  induction dd with
  | zero =>
    intro m hm
    obtain rfl : 66 = m := by omega
    refine a_iload_n dX11_remembers_45 rfl ?_
    refine a_bipush (72 : Int32) dX11_remembers_46 (by decide) ?_
    refine a_icmp_ge (tgt := 72) dX11_remembers_48 (by decide) (fun h48 => ?_) (fun h48 => absurd h48 (fun z => z (nI_le (a := 72) (b := 6 + 66) (by decide) (by decide))))
    exact a_loc _ rfl kx
  | succ dd ih =>
    intro m hm
    have qih := ih (m + 1) (by omega)
    rw [← cpY_succ] at qih
    refine a_iload_n dX11_remembers_45 rfl ?_
    refine a_bipush (72 : Int32) dX11_remembers_46 (by decide) ?_
    refine a_icmp_ge (tgt := 72) dX11_remembers_48 (by decide) (fun h48 => absurd h48 (nI_ge (b := 72) (show (6 + m) < 72 by omega) (by decide))) (fun h48 => ?_)
    refine a_aload_n dX11_remembers_51 rfl ?_
    refine a_getR (cr_338_11 (by repeat (first | with_reducible exact hw | with_reducible exact hwc | with_reducible assumption | with_reducible apply Wf.sI | with_reducible apply Wf.sL | with_reducible apply Wf.cpI | with_reducible apply Wf.cpL | with_reducible apply Wf.cp2 | with_reducible apply Wf.sIs | with_reducible apply Wf.sLs | with_reducible apply Wf.cpU | with_reducible apply Wf.fillI | with_reducible apply Wf.clU | with_reducible apply Wf.dnF | with_reducible apply Wf.gbW | with_reducible apply Wf.cpXf | with_reducible apply Wf.cpYf))) dX11_remembers_52 fs_X11_41 rfl (co_338 (by repeat (first | with_reducible exact hw | with_reducible exact hwc | with_reducible assumption | with_reducible apply Wf.sI | with_reducible apply Wf.sL | with_reducible apply Wf.cpI | with_reducible apply Wf.cpL | with_reducible apply Wf.cp2 | with_reducible apply Wf.sIs | with_reducible apply Wf.sLs | with_reducible apply Wf.cpU | with_reducible apply Wf.fillI | with_reducible apply Wf.clU | with_reducible apply Wf.dnF | with_reducible apply Wf.gbW | with_reducible apply Wf.cpXf | with_reducible apply Wf.cpYf))) ?_
    refine a_iload_n dX11_remembers_55 rfl ?_
    refine a_bipush (6 : Int32) dX11_remembers_56 (by decide) ?_
    refine a_isub dX11_remembers_58 ?_
    rw [show nI (6 + m) - 6 = nI m from by rw [show (6 : Int32) = nI 6 from rfl, nI_subI (by omega), Nat.add_sub_cancel_left]]
    refine a_aload_n dX11_remembers_59 rfl ?_
    refine a_getR (cr_338_11 (by repeat (first | with_reducible exact hw | with_reducible exact hwc | with_reducible assumption | with_reducible apply Wf.sI | with_reducible apply Wf.sL | with_reducible apply Wf.cpI | with_reducible apply Wf.cpL | with_reducible apply Wf.cp2 | with_reducible apply Wf.sIs | with_reducible apply Wf.sLs | with_reducible apply Wf.cpU | with_reducible apply Wf.fillI | with_reducible apply Wf.clU | with_reducible apply Wf.dnF | with_reducible apply Wf.gbW | with_reducible apply Wf.cpXf | with_reducible apply Wf.cpYf))) dX11_remembers_60 fs_X11_41 rfl (co_338 (by repeat (first | with_reducible exact hw | with_reducible exact hwc | with_reducible assumption | with_reducible apply Wf.sI | with_reducible apply Wf.sL | with_reducible apply Wf.cpI | with_reducible apply Wf.cpL | with_reducible apply Wf.cp2 | with_reducible apply Wf.sIs | with_reducible apply Wf.sLs | with_reducible apply Wf.cpU | with_reducible apply Wf.fillI | with_reducible apply Wf.clU | with_reducible apply Wf.dnF | with_reducible apply Wf.gbW | with_reducible apply Wf.cpXf | with_reducible apply Wf.cpYf))) ?_
    refine a_iload_n dX11_remembers_63 rfl ?_
    refine a_lld dX11_remembers_64 (ca_349 (by repeat (first | with_reducible exact hw | with_reducible exact hwc | with_reducible assumption | with_reducible apply Wf.sI | with_reducible apply Wf.sL | with_reducible apply Wf.cpI | with_reducible apply Wf.cpL | with_reducible apply Wf.cp2 | with_reducible apply Wf.sIs | with_reducible apply Wf.sLs | with_reducible apply Wf.cpU | with_reducible apply Wf.fillI | with_reducible apply Wf.clU | with_reducible apply Wf.dnF | with_reducible apply Wf.gbW | with_reducible apply Wf.cpXf | with_reducible apply Wf.cpYf))) (ixn (show 6 + m < 72 by omega) (by decide)) ?_
    rw [cpY_rd (Or.inr (Nat.zero_le _))]
    refine a_lst dX11_remembers_65 (ca_349 (by repeat (first | with_reducible exact hw | with_reducible exact hwc | with_reducible assumption | with_reducible apply Wf.sI | with_reducible apply Wf.sL | with_reducible apply Wf.cpI | with_reducible apply Wf.cpL | with_reducible apply Wf.cp2 | with_reducible apply Wf.sIs | with_reducible apply Wf.sLs | with_reducible apply Wf.cpU | with_reducible apply Wf.fillI | with_reducible apply Wf.clU | with_reducible apply Wf.dnF | with_reducible apply Wf.gbW | with_reducible apply Wf.cpXf | with_reducible apply Wf.cpYf))) (ix0 (show m < 72 by omega) (by decide)) ?_
    refine a_iincN dX11_remembers_66 rfl (by decide) ?_
    refine a_goto (tgt := 45) dX11_remembers_69 (by decide) ?_
    exact a_loc _ rfl qih

theorem l_X11_remembers_84 (hw : Wf W) {u : Nat} (hu : gI W 338 14 = nI u) (h12 : u < 12) {oc : Oc} {μ1 : Wd} (kx : AW Y_X11_remembers R_X11_remembers (0, 0) (cpX W 344 (0) 346 (291 * u) 291) 118 [(0, .ref 338), (1, .int (nI 291))] [] oc μ1) : ∀ dd m, m + dd = 291 → AW Y_X11_remembers R_X11_remembers (0, 0) (cpX W 344 (0) 346 (291 * u) m) 84 [(0, .ref 338), (1, .int (nI m))] [] oc μ1 := by
  have e14 : ∀ m, gI (cpX W 344 (0) 346 (291 * u) m) 338 14 = nI u := fun m => by first | (rw [gI_cpX, if_neg (by omega)]; exact hu) | (rw [gI_cpY]; exact hu)
  intro dd
  induction dd with
  | zero =>
    intro m hm
    obtain rfl : 291 = m := by omega
    refine a_iload_n dX11_remembers_84 rfl ?_
    refine a_sipush (291 : Int32) dX11_remembers_85 (by decide) ?_
    refine a_icmp_ge (tgt := 118) dX11_remembers_88 (by decide) (fun h88 => ?_) (fun h88 => absurd h88 (fun z => z (nI_le (b := 291) (Nat.le_refl _) (by decide))))
    exact a_loc _ rfl kx
  | succ dd ih =>
    intro m hm
    have qih := ih (m + 1) (by omega)
    rw [← cpX_succ] at qih
    refine a_iload_n dX11_remembers_84 rfl ?_
    refine a_sipush (291 : Int32) dX11_remembers_85 (by decide) ?_
    refine a_icmp_ge (tgt := 118) dX11_remembers_88 (by decide) (fun h88 => absurd h88 (nI_ge (b := 291) (show m < 291 by omega) (by decide))) (fun h88 => ?_)
    refine a_aload_n dX11_remembers_91 rfl ?_
    refine a_getR (cr_338_8 (by repeat (first | with_reducible exact hw | with_reducible exact hwc | with_reducible assumption | with_reducible apply Wf.sI | with_reducible apply Wf.sL | with_reducible apply Wf.cpI | with_reducible apply Wf.cpL | with_reducible apply Wf.cp2 | with_reducible apply Wf.sIs | with_reducible apply Wf.sLs | with_reducible apply Wf.cpU | with_reducible apply Wf.fillI | with_reducible apply Wf.clU | with_reducible apply Wf.dnF | with_reducible apply Wf.gbW | with_reducible apply Wf.cpXf | with_reducible apply Wf.cpYf))) dX11_remembers_92 fs_X11_32 rfl (co_338 (by repeat (first | with_reducible exact hw | with_reducible exact hwc | with_reducible assumption | with_reducible apply Wf.sI | with_reducible apply Wf.sL | with_reducible apply Wf.cpI | with_reducible apply Wf.cpL | with_reducible apply Wf.cp2 | with_reducible apply Wf.sIs | with_reducible apply Wf.sLs | with_reducible apply Wf.cpU | with_reducible apply Wf.fillI | with_reducible apply Wf.clU | with_reducible apply Wf.dnF | with_reducible apply Wf.gbW | with_reducible apply Wf.cpXf | with_reducible apply Wf.cpYf))) ?_
    refine a_sipush (291 : Int32) dX11_remembers_95 (by decide) ?_
    refine a_aload_n dX11_remembers_98 rfl ?_
    refine a_getI dX11_remembers_99 fs_X11_95 rfl (co_338 (by repeat (first | with_reducible exact hw | with_reducible exact hwc | with_reducible assumption | with_reducible apply Wf.sI | with_reducible apply Wf.sL | with_reducible apply Wf.cpI | with_reducible apply Wf.cpL | with_reducible apply Wf.cp2 | with_reducible apply Wf.sIs | with_reducible apply Wf.sLs | with_reducible apply Wf.cpU | with_reducible apply Wf.fillI | with_reducible apply Wf.clU | with_reducible apply Wf.dnF | with_reducible apply Wf.gbW | with_reducible apply Wf.cpXf | with_reducible apply Wf.cpYf))) ?_
    rw [e14]
    refine a_imul dX11_remembers_102 ?_
    refine a_iload_n dX11_remembers_103 rfl ?_
    refine a_iadd dX11_remembers_104 ?_
    rw [show (291 : Int32) * nI u + nI m = nI (291 * u + m) from ixr 291 u m]
    refine a_aload_n dX11_remembers_105 rfl ?_
    refine a_getR (cr_338_6 (by repeat (first | with_reducible exact hw | with_reducible exact hwc | with_reducible assumption | with_reducible apply Wf.sI | with_reducible apply Wf.sL | with_reducible apply Wf.cpI | with_reducible apply Wf.cpL | with_reducible apply Wf.cp2 | with_reducible apply Wf.sIs | with_reducible apply Wf.sLs | with_reducible apply Wf.cpU | with_reducible apply Wf.fillI | with_reducible apply Wf.clU | with_reducible apply Wf.dnF | with_reducible apply Wf.gbW | with_reducible apply Wf.cpXf | with_reducible apply Wf.cpYf))) dX11_remembers_106 fs_X11_26 rfl (co_338 (by repeat (first | with_reducible exact hw | with_reducible exact hwc | with_reducible assumption | with_reducible apply Wf.sI | with_reducible apply Wf.sL | with_reducible apply Wf.cpI | with_reducible apply Wf.cpL | with_reducible apply Wf.cp2 | with_reducible apply Wf.sIs | with_reducible apply Wf.sLs | with_reducible apply Wf.cpU | with_reducible apply Wf.fillI | with_reducible apply Wf.clU | with_reducible apply Wf.dnF | with_reducible apply Wf.gbW | with_reducible apply Wf.cpXf | with_reducible apply Wf.cpYf))) ?_
    refine a_iload_n dX11_remembers_109 rfl ?_
    refine a_ild dX11_remembers_110 (ca_344 (by repeat (first | with_reducible exact hw | with_reducible exact hwc | with_reducible assumption | with_reducible apply Wf.sI | with_reducible apply Wf.sL | with_reducible apply Wf.cpI | with_reducible apply Wf.cpL | with_reducible apply Wf.cp2 | with_reducible apply Wf.sIs | with_reducible apply Wf.sLs | with_reducible apply Wf.cpU | with_reducible apply Wf.fillI | with_reducible apply Wf.clU | with_reducible apply Wf.dnF | with_reducible apply Wf.gbW | with_reducible apply Wf.cpXf | with_reducible apply Wf.cpYf))) (ix0 (show m < 291 by omega) (by decide)) ?_
    rw [cpX_rd (Or.inl (by decide))]
    refine a_ist dX11_remembers_111 (ca_346 (by repeat (first | with_reducible exact hw | with_reducible exact hwc | with_reducible assumption | with_reducible apply Wf.sI | with_reducible apply Wf.sL | with_reducible apply Wf.cpI | with_reducible apply Wf.cpL | with_reducible apply Wf.cp2 | with_reducible apply Wf.sIs | with_reducible apply Wf.sLs | with_reducible apply Wf.cpU | with_reducible apply Wf.fillI | with_reducible apply Wf.clU | with_reducible apply Wf.dnF | with_reducible apply Wf.gbW | with_reducible apply Wf.cpXf | with_reducible apply Wf.cpYf))) (ixn (show 291 * u + m < 3492 by omega) (by decide)) ?_
    refine a_iincN dX11_remembers_112 rfl (by decide) ?_
    refine a_goto (tgt := 84) dX11_remembers_115 (by decide) ?_
    exact a_loc _ rfl qih

theorem l_X11_remembers_120 (hw : Wf W) {u : Nat} (hu : gI W 338 14 = nI u) (h12 : u < 12) {oc : Oc} {μ1 : Wd} (kx : AW Y_X11_remembers R_X11_remembers (0, 0) (cpY W 348 (0) 349 (6 * u) 6) 152 [(0, .ref 338), (1, .int (nI 6))] [] oc μ1) : ∀ dd m, m + dd = 6 → AW Y_X11_remembers R_X11_remembers (0, 0) (cpY W 348 (0) 349 (6 * u) m) 120 [(0, .ref 338), (1, .int (nI m))] [] oc μ1 := by
  have e14 : ∀ m, gI (cpY W 348 (0) 349 (6 * u) m) 338 14 = nI u := fun m => by first | (rw [gI_cpX, if_neg (by omega)]; exact hu) | (rw [gI_cpY]; exact hu)
  intro dd
  induction dd with
  | zero =>
    intro m hm
    obtain rfl : 6 = m := by omega
    refine a_iload_n dX11_remembers_120 rfl ?_
    refine a_bipush (6 : Int32) dX11_remembers_121 (by decide) ?_
    refine a_icmp_ge (tgt := 152) dX11_remembers_123 (by decide) (fun h123 => ?_) (fun h123 => absurd h123 (fun z => z (nI_le (b := 6) (Nat.le_refl _) (by decide))))
    exact a_loc _ rfl kx
  | succ dd ih =>
    intro m hm
    have qih := ih (m + 1) (by omega)
    rw [← cpY_succ] at qih
    refine a_iload_n dX11_remembers_120 rfl ?_
    refine a_bipush (6 : Int32) dX11_remembers_121 (by decide) ?_
    refine a_icmp_ge (tgt := 152) dX11_remembers_123 (by decide) (fun h123 => absurd h123 (nI_ge (b := 6) (show m < 6 by omega) (by decide))) (fun h123 => ?_)
    refine a_aload_n dX11_remembers_126 rfl ?_
    refine a_getR (cr_338_11 (by repeat (first | with_reducible exact hw | with_reducible exact hwc | with_reducible assumption | with_reducible apply Wf.sI | with_reducible apply Wf.sL | with_reducible apply Wf.cpI | with_reducible apply Wf.cpL | with_reducible apply Wf.cp2 | with_reducible apply Wf.sIs | with_reducible apply Wf.sLs | with_reducible apply Wf.cpU | with_reducible apply Wf.fillI | with_reducible apply Wf.clU | with_reducible apply Wf.dnF | with_reducible apply Wf.gbW | with_reducible apply Wf.cpXf | with_reducible apply Wf.cpYf))) dX11_remembers_127 fs_X11_41 rfl (co_338 (by repeat (first | with_reducible exact hw | with_reducible exact hwc | with_reducible assumption | with_reducible apply Wf.sI | with_reducible apply Wf.sL | with_reducible apply Wf.cpI | with_reducible apply Wf.cpL | with_reducible apply Wf.cp2 | with_reducible apply Wf.sIs | with_reducible apply Wf.sLs | with_reducible apply Wf.cpU | with_reducible apply Wf.fillI | with_reducible apply Wf.clU | with_reducible apply Wf.dnF | with_reducible apply Wf.gbW | with_reducible apply Wf.cpXf | with_reducible apply Wf.cpYf))) ?_
    refine a_bipush (6 : Int32) dX11_remembers_130 (by decide) ?_
    refine a_aload_n dX11_remembers_132 rfl ?_
    refine a_getI dX11_remembers_133 fs_X11_95 rfl (co_338 (by repeat (first | with_reducible exact hw | with_reducible exact hwc | with_reducible assumption | with_reducible apply Wf.sI | with_reducible apply Wf.sL | with_reducible apply Wf.cpI | with_reducible apply Wf.cpL | with_reducible apply Wf.cp2 | with_reducible apply Wf.sIs | with_reducible apply Wf.sLs | with_reducible apply Wf.cpU | with_reducible apply Wf.fillI | with_reducible apply Wf.clU | with_reducible apply Wf.dnF | with_reducible apply Wf.gbW | with_reducible apply Wf.cpXf | with_reducible apply Wf.cpYf))) ?_
    rw [e14]
    refine a_imul dX11_remembers_136 ?_
    refine a_iload_n dX11_remembers_137 rfl ?_
    refine a_iadd dX11_remembers_138 ?_
    rw [show (6 : Int32) * nI u + nI m = nI (6 * u + m) from ixr 6 u m]
    refine a_aload_n dX11_remembers_139 rfl ?_
    refine a_getR (cr_338_10 (by repeat (first | with_reducible exact hw | with_reducible exact hwc | with_reducible assumption | with_reducible apply Wf.sI | with_reducible apply Wf.sL | with_reducible apply Wf.cpI | with_reducible apply Wf.cpL | with_reducible apply Wf.cp2 | with_reducible apply Wf.sIs | with_reducible apply Wf.sLs | with_reducible apply Wf.cpU | with_reducible apply Wf.fillI | with_reducible apply Wf.clU | with_reducible apply Wf.dnF | with_reducible apply Wf.gbW | with_reducible apply Wf.cpXf | with_reducible apply Wf.cpYf))) dX11_remembers_140 fs_X11_38 rfl (co_338 (by repeat (first | with_reducible exact hw | with_reducible exact hwc | with_reducible assumption | with_reducible apply Wf.sI | with_reducible apply Wf.sL | with_reducible apply Wf.cpI | with_reducible apply Wf.cpL | with_reducible apply Wf.cp2 | with_reducible apply Wf.sIs | with_reducible apply Wf.sLs | with_reducible apply Wf.cpU | with_reducible apply Wf.fillI | with_reducible apply Wf.clU | with_reducible apply Wf.dnF | with_reducible apply Wf.gbW | with_reducible apply Wf.cpXf | with_reducible apply Wf.cpYf))) ?_
    refine a_iload_n dX11_remembers_143 rfl ?_
    refine a_lld dX11_remembers_144 (ca_348 (by repeat (first | with_reducible exact hw | with_reducible exact hwc | with_reducible assumption | with_reducible apply Wf.sI | with_reducible apply Wf.sL | with_reducible apply Wf.cpI | with_reducible apply Wf.cpL | with_reducible apply Wf.cp2 | with_reducible apply Wf.sIs | with_reducible apply Wf.sLs | with_reducible apply Wf.cpU | with_reducible apply Wf.fillI | with_reducible apply Wf.clU | with_reducible apply Wf.dnF | with_reducible apply Wf.gbW | with_reducible apply Wf.cpXf | with_reducible apply Wf.cpYf))) (ix0 (show m < 6 by omega) (by decide)) ?_
    rw [cpY_rd (Or.inl (by decide))]
    refine a_lst dX11_remembers_145 (ca_349 (by repeat (first | with_reducible exact hw | with_reducible exact hwc | with_reducible assumption | with_reducible apply Wf.sI | with_reducible apply Wf.sL | with_reducible apply Wf.cpI | with_reducible apply Wf.cpL | with_reducible apply Wf.cp2 | with_reducible apply Wf.sIs | with_reducible apply Wf.sLs | with_reducible apply Wf.cpU | with_reducible apply Wf.fillI | with_reducible apply Wf.clU | with_reducible apply Wf.dnF | with_reducible apply Wf.gbW | with_reducible apply Wf.cpXf | with_reducible apply Wf.cpYf))) (ixn (show 6 * u + m < 72 by omega) (by decide)) ?_
    refine a_iincN dX11_remembers_146 rfl (by decide) ?_
    refine a_goto (tgt := 120) dX11_remembers_149 (by decide) ?_
    exact a_loc _ rfl qih
def rmW (W : Wd) (u : Nat) : Wd := sI (cpY (cpX W 344 0 346 (291 * u) 291) 348 0 349 (6 * u) 6) 338 14 (nI (u + 1))
theorem l_X11_remembers_82 (hw : Wf W) {u : Nat} (hu : gI W 338 14 = nI u) (h12 : u < 12) : AW Y_X11_remembers R_X11_remembers (0, 0) W 82 [(0, .ref 338)] [] (.inl none) (rmW W u) := by
  have e1 : gI (cpX W 344 0 346 (291 * u) 291) 338 14 = nI u := by rw [gI_cpX, if_neg (by omega)]; exact hu
  have e2 : gI (cpY (cpX W 344 0 346 (291 * u) 291) 348 0 349 (6 * u) 6) 338 14 = nI u := by rw [gI_cpY]; exact e1
  refine a_iconst (0 : Int32) dX11_remembers_82 (by decide) ?_
  refine a_istore_n dX11_remembers_83 (by decide) ?_
  refine a_wd (cpX_zero W 344 0 346 (291 * u)).symm (a_loc [(0, .ref 338), (1, .int (nI 0))] rfl (l_X11_remembers_84 hw hu h12 ?_ 291 0 rfl))
  refine a_iconst (0 : Int32) dX11_remembers_118 (by decide) ?_
  refine a_istore_n dX11_remembers_119 (by decide) ?_
  refine a_wd (cpY_zero (cpX W 344 0 346 (291 * u) 291) 348 0 349 (6 * u)).symm (a_loc [(0, .ref 338), (1, .int (nI 0))] rfl (l_X11_remembers_120 hw.cpXf e1 h12 ?_ 6 0 rfl))
  refine a_aload_n dX11_remembers_152 rfl ?_
  refine a_aload_n dX11_remembers_153 rfl ?_
  refine a_getI dX11_remembers_154 fs_X11_95 rfl (co_338 (by repeat (first | with_reducible exact hw | with_reducible exact hwc | with_reducible assumption | with_reducible apply Wf.sI | with_reducible apply Wf.sL | with_reducible apply Wf.cpI | with_reducible apply Wf.cpL | with_reducible apply Wf.cp2 | with_reducible apply Wf.sIs | with_reducible apply Wf.sLs | with_reducible apply Wf.cpU | with_reducible apply Wf.fillI | with_reducible apply Wf.clU | with_reducible apply Wf.dnF | with_reducible apply Wf.gbW | with_reducible apply Wf.cpXf | with_reducible apply Wf.cpYf))) ?_
  rw [e2]
  refine a_iconst (1 : Int32) dX11_remembers_157 (by decide) ?_
  refine a_iadd dX11_remembers_158 ?_
  rw [nI_1]
  refine a_putI dX11_remembers_159 fs_X11_95 rfl rfl rfl (co_338 (by repeat (first | with_reducible exact hw | with_reducible exact hwc | with_reducible assumption | with_reducible apply Wf.sI | with_reducible apply Wf.sL | with_reducible apply Wf.cpI | with_reducible apply Wf.cpL | with_reducible apply Wf.cp2 | with_reducible apply Wf.sIs | with_reducible apply Wf.sLs | with_reducible apply Wf.cpU | with_reducible apply Wf.fillI | with_reducible apply Wf.clU | with_reducible apply Wf.dnF | with_reducible apply Wf.gbW | with_reducible apply Wf.cpXf | with_reducible apply Wf.cpYf))) ?_
  exact a_out rfl rfl (a_return dX11_remembers_162 rfl)
theorem m_rem_a (hw : Wf μ) {u : Nat} (hu : gI μ 338 14 = nI u) (h12 : u < 12) : Ct Y_X11_remembers R_X11_remembers [.ref 338] μ (.inl none) (rmW μ u) := by
  refine Ct.ent yk_X11_remembers (Nat.le_of_ble_eq_true rfl) ?_
  refine a_aload_n dX11_remembers_0 rfl ?_
  refine a_getI dX11_remembers_1 fs_X11_95 rfl (co_338 hw) ?_
  rw [hu]
  refine a_bipush (12 : Int32) dX11_remembers_4 (by decide) ?_
  refine a_icmp_ne (tgt := 82) dX11_remembers_6 (by decide) (fun h6 => ?_) (fun h6 => absurd h6 (fun z => absurd ((nI_eqI (a := u) (b := 12) (by omega) (by decide)).mp z) (by omega)))
  exact a_loc _ rfl (l_X11_remembers_82 hw hu h12)
def shR (μ : Wd) : Wd := sI (cpY (cpX μ 346 291 346 0 3201) 349 6 349 0 66) 338 14 (nI 11)
theorem m_rem_b (hw : Wf μ) (hu : gI μ 338 14 = nI 12) : Ct Y_X11_remembers R_X11_remembers [.ref 338] μ (.inl none) (rmW (shR μ) 11) := by
  have e1 : gI (cpX μ 346 291 346 0 3201) 338 14 = nI 12 := by rw [gI_cpX, if_neg (by omega)]; exact hu
  have e2 : gI (cpY (cpX μ 346 291 346 0 3201) 349 6 349 0 66) 338 14 = nI 12 := by rw [gI_cpY]; exact e1
  have hw3 : Wf (shR μ) := Wf.sI hw.cpXf.cpYf
  have e3 : gI (shR μ) 338 14 = nI 11 := by unfold shR; rw [gI_sI, if_pos ⟨rfl, rfl⟩]
  have k3 := l_X11_remembers_82 hw3 e3 (by decide)
  revert k3
  generalize rmW (shR μ) 11 = Z
  intro k3
  unfold shR at k3
  refine Ct.ent yk_X11_remembers (Nat.le_of_ble_eq_true rfl) ?_
  refine a_aload_n dX11_remembers_0 rfl ?_
  refine a_getI dX11_remembers_1 fs_X11_95 rfl (co_338 hw) ?_
  rw [hu]
  refine a_bipush (12 : Int32) dX11_remembers_4 (by decide) ?_
  refine a_icmp_ne (tgt := 82) dX11_remembers_6 (by decide) (fun h6 => absurd h6 (fun z => z rfl)) (fun h6 => ?_)
  refine a_sipush (291 : Int32) dX11_remembers_9 (by decide) ?_
  refine a_istore_n dX11_remembers_12 (by decide) ?_
  refine a_wd (cpX_zero μ 346 291 346 0).symm (a_loc [(0, .ref 338), (1, .int (nI (291 + 0)))] rfl (l_X11_remembers_13 hw ?_ 3201 0 rfl))
  refine a_bipush (6 : Int32) dX11_remembers_42 (by decide) ?_
  refine a_istore_n dX11_remembers_44 (by decide) ?_
  refine a_wd (cpY_zero (cpX μ 346 291 346 0 3201) 349 6 349 0).symm (a_loc [(0, .ref 338), (1, .int (nI (6 + 0)))] rfl (l_X11_remembers_45 hw.cpXf ?_ 66 0 rfl))
  refine a_aload_n dX11_remembers_72 rfl ?_
  refine a_aload_n dX11_remembers_73 rfl ?_
  refine a_getI dX11_remembers_74 fs_X11_95 rfl (co_338 (by repeat (first | with_reducible exact hw | with_reducible exact hwc | with_reducible assumption | with_reducible apply Wf.sI | with_reducible apply Wf.sL | with_reducible apply Wf.cpI | with_reducible apply Wf.cpL | with_reducible apply Wf.cp2 | with_reducible apply Wf.sIs | with_reducible apply Wf.sLs | with_reducible apply Wf.cpU | with_reducible apply Wf.fillI | with_reducible apply Wf.clU | with_reducible apply Wf.dnF | with_reducible apply Wf.gbW | with_reducible apply Wf.cpXf | with_reducible apply Wf.cpYf))) ?_
  rw [e2]
  refine a_iconst (1 : Int32) dX11_remembers_77 (by decide) ?_
  refine a_isub dX11_remembers_78 ?_
  rw [show nI 12 - 1 = nI 11 from by decide]
  refine a_putI dX11_remembers_79 fs_X11_95 rfl rfl rfl (co_338 (by repeat (first | with_reducible exact hw | with_reducible exact hwc | with_reducible assumption | with_reducible apply Wf.sI | with_reducible apply Wf.sL | with_reducible apply Wf.cpI | with_reducible apply Wf.cpL | with_reducible apply Wf.cp2 | with_reducible apply Wf.sIs | with_reducible apply Wf.sLs | with_reducible apply Wf.cpU | with_reducible apply Wf.fillI | with_reducible apply Wf.clU | with_reducible apply Wf.dnF | with_reducible apply Wf.gbW | with_reducible apply Wf.cpXf | with_reducible apply Wf.cpYf))) ?_
  exact a_loc _ rfl k3
/-- a row of the model: the flight's data and what the service left -/
def RxV (r : Nat → Int32) (q : PDt) (d : FDt) : Prop := r 0 = pF q 9 0 ∧ RwV r d ∧ MxV r q d
theorem RxV.cg {r r2 : Nat → Int32} (h : RxV r q d) (hf : FitD q d) (e : ∀ k, k < 291 → r2 k = r k) : RxV r2 q d := by
  obtain ⟨⟨_, hM, _, hP, hU⟩, _, _⟩ := hf
  obtain ⟨h0, ⟨h1, h2, h3, h4, h5, h6, h7⟩, h8, h9⟩ := h
  refine ⟨(e 0 (by omega)).trans h0, ⟨(e 1 (by omega)).trans h1, (e 2 (by omega)).trans h2, (e 3 (by omega)).trans h3, (e 4 (by omega)).trans h4, fun i hi => ?_, fun i hi => ?_, fun t k ht hk => (e _ (by omega)).trans (h7 t k ht hk)⟩, fun i hi => (e _ (by omega)).trans (h8 i hi), fun m hm => (e _ (by omega)).trans (h9 m hm)⟩
  · rw [e _ (by omega), e _ (by omega), e _ (by omega)]; exact h5 i hi
  · rw [e _ (by omega), e _ (by omega), e _ (by omega)]; exact h6 i hi
/-- the model's present: plan, row, accounts -/
def MnV (μ : Wd) (q : PDt) (d : FDt) : Prop := MdV μ q d ∧ MxV (gI μ 344) q d ∧ ∀ k, k < 6 → gL μ 348 k = dA d k
def MpV (μ : Wd) (q : PDt) (H : Hst) : Prop := gI μ 338 14 = nI H.1 ∧ H.1 ≤ 12 ∧ ∀ i, i < H.1 → FitD q (H.2 i) ∧ RxV (fun k => gI μ 346 (291 * i + k)) q (H.2 i) ∧ ∀ k, k < 6 → gL μ 349 (6 * i + k) = dA (H.2 i) k
def MsV (μ : Wd) (q : PDt) (S : Nat → Option FDt) : Prop := ∀ j, j < 2 → match S j with
  | none => gI μ 351 j = 0
  | some e => gI μ 351 j = 1 ∧ FitD q e ∧ RxV (fun k => gI μ 347 (291 * j + k)) q e ∧ ∀ k, k < 6 → gL μ 350 (6 * j + k) = dA e k
theorem MnV.rx (h : MnV μ q d) : RxV (gI μ 344) q d := ⟨h.1.1, h.1.2.2.2, h.2.1⟩
theorem MnV.fit (h : MnV μ q d) : FitD q d := h.1.2.1
theorem MnV.of (hp : PwV (gI μ 339) q) (hf : FitD q d) (hr : RxV (gI μ 344) q d) (ha : ∀ k, k < 6 → gL μ 348 k = dA d k) : MnV μ q d := ⟨⟨hr.1, hf, hp, hr.2.1⟩, hr.2.2, ha⟩
theorem MnV.out {S : Nat → Prop} (h : MnV μ q d) (ho : Out S μ W) (h1 : ¬ S 339) (h2 : ¬ S 344) (h3 : ¬ S 348) : MnV W q d := by
  have e : gI W 344 = gI μ 344 := funext (ho.i h2)
  exact ⟨h.1.out ho h1 h2, by rw [e]; exact h.2.1, fun k hk => (ho.l h3 k).trans (h.2.2 k hk)⟩
theorem MpV.out {S : Nat → Prop} {H : Hst} (h : MpV μ q H) (ho : Out S μ W) (h1 : gI W 338 14 = gI μ 338 14) (h2 : ¬ S 346) (h3 : ¬ S 349) : MpV W q H := by
  refine ⟨h1.trans h.1, h.2.1, fun i hi => ?_⟩
  obtain ⟨a, b, c⟩ := h.2.2 i hi
  exact ⟨a, b.cg a (fun k _ => ho.i h2 _), fun k hk => (ho.l h3 _).trans (c k hk)⟩
theorem MsV.out {T : Nat → Prop} {S : Nat → Option FDt} (h : MsV μ q S) (ho : Out T μ W) (h1 : ¬ T 351) (h2 : ¬ T 347) (h3 : ¬ T 350) : MsV W q S := fun j hj => by
  have hs := h j hj
  cases e : S j with
  | none => rw [e] at hs; exact (ho.i h1 j).trans hs
  | some x =>
    rw [e] at hs
    obtain ⟨a, b, c, dd⟩ := hs
    exact ⟨(ho.i h1 j).trans a, b, c.cg b (fun k _ => ho.i h2 _), fun k hk => (ho.l h3 _).trans (dd k hk)⟩
abbrev sRm : Nat → Prop := fun i => i = 338 ∨ i = 346 ∨ i = 349
theorem rm_f (hw : Wf W) {u : Nat} (h12 : u < 12) : Out sRm W (rmW W u) ∧ gI (rmW W u) 338 14 = nI (u + 1) ∧ (∀ k, k ≠ 14 → gI (rmW W u) 338 k = gI W 338 k) ∧ (∀ x, gI (rmW W u) 346 x = if 291 * u ≤ x ∧ x < 291 * u + 291 then gI W 344 (x - 291 * u) else gI W 346 x) ∧ ∀ x, gL (rmW W u) 349 x = if 6 * u ≤ x ∧ x < 6 * u + 6 then gL W 348 (x - 6 * u) else gL W 349 x := by
  unfold rmW
  refine ⟨(((Out.rfl' hw).cpXo (S := sRm) (Or.inr (Or.inl rfl))).cpYo (S := sRm) (Or.inr (Or.inr rfl))).sI (S := sRm) (Or.inl rfl) _ _, by rw [gI_sI, if_pos ⟨rfl, rfl⟩], fun k hk => ?_, fun x => ?_, fun x => ?_⟩
  · rw [gI_sI, if_neg (fun z => hk z.2), gI_cpY, gI_cpX, if_neg (by omega)]
  · rw [gI_sI, if_neg (by omega), gI_cpY, gI_cpX]
    by_cases h : 291 * u ≤ x ∧ x < 291 * u + 291
    · rw [if_pos ⟨rfl, h⟩, if_pos h, Nat.add_zero]
    · rw [if_neg (fun z => h z.2), if_neg h]
  · rw [gL_sI, gL_cpY]
    by_cases h : 6 * u ≤ x ∧ x < 6 * u + 6
    · rw [if_pos ⟨rfl, h⟩, if_pos h, Nat.add_zero, gL_cpX]
    · rw [if_neg (fun z => h z.2), if_neg h, gL_cpX]
theorem sh_f (hw : Wf μ) : Out sRm μ (shR μ) ∧ gI (shR μ) 338 14 = nI 11 ∧ (∀ k, k ≠ 14 → gI (shR μ) 338 k = gI μ 338 k) ∧ (∀ x, x < 3201 → gI (shR μ) 346 x = gI μ 346 (x + 291)) ∧ ∀ x, x < 66 → gL (shR μ) 349 x = gL μ 349 (x + 6) := by
  unfold shR
  refine ⟨(((Out.rfl' hw).cpXo (S := sRm) (Or.inr (Or.inl rfl))).cpYo (S := sRm) (Or.inr (Or.inr rfl))).sI (S := sRm) (Or.inl rfl) _ _, by rw [gI_sI, if_pos ⟨rfl, rfl⟩], fun k hk => ?_, fun x hx => ?_, fun x hx => ?_⟩
  · rw [gI_sI, if_neg (fun z => hk z.2), gI_cpY, gI_cpX, if_neg (by omega)]
  · rw [gI_sI, if_neg (by omega), gI_cpY, gI_cpX, if_pos ⟨rfl, Nat.zero_le _, by omega⟩, Nat.sub_zero]
  · rw [gL_sI, gL_cpY, if_pos ⟨rfl, Nat.zero_le _, by omega⟩, Nat.sub_zero, gL_cpX]
theorem rm_data {H : Hst} {u : Nat} (h : MnV W q d) (hp : gI W 338 14 = nI u ∧ u < 12 ∧ ∀ i, i < u → FitD q (H.2 i) ∧ RxV (fun k => gI W 346 (291 * i + k)) q (H.2 i) ∧ ∀ k, k < 6 → gL W 349 (6 * i + k) = dA (H.2 i) k) (hw : Wf W) : MpV (rmW W u) q (u + 1, fun i => if i = u then d else H.2 i) := by
  obtain ⟨f1, f2, f3, f4, f5⟩ := rm_f hw hp.2.1
  generalize rmW W u = Z at f1 f2 f3 f4 f5 ⊢
  refine ⟨f2, hp.2.1, fun i (hi : i < u + 1) => ?_⟩
  show FitD q (if i = u then d else H.2 i) ∧ RxV (fun k => gI Z 346 (291 * i + k)) q (if i = u then d else H.2 i) ∧ ∀ k, k < 6 → gL Z 349 (6 * i + k) = dA (if i = u then d else H.2 i) k
  by_cases e : i = u
  · rw [if_pos e]
    subst e
    refine ⟨h.fit, h.rx.cg h.fit fun k hk => ?_, fun k hk => ?_⟩
    · show gI Z 346 (291 * i + k) = _
      rw [f4, if_pos ⟨by omega, by omega⟩, Nat.add_sub_cancel_left]
    · rw [f5, if_pos ⟨by omega, by omega⟩, Nat.add_sub_cancel_left]; exact h.2.2 k hk
  · rw [if_neg e]
    obtain ⟨a, b, c⟩ := hp.2.2 i (by omega)
    refine ⟨a, b.cg a fun k hk => ?_, fun k hk => ?_⟩
    · show gI Z 346 (291 * i + k) = _
      rw [f4, if_neg (by omega)]
    · rw [f5, if_neg (by omega)]; exact c k hk
/-- the model remembers -/
theorem v_remembers {H : Hst} (hw : Wf μ) (h : MnV μ q d) (hp : MpV μ q H) : CV Y_X11_remembers R_X11_remembers [.ref 338] μ (fun v V => v = none ∧ MpV V q (pushH H d) ∧ Out sRm μ V ∧ ∀ k, k ≠ 14 → gI V 338 k = gI μ 338 k) := by
  by_cases h12 : H.1 = 12
  · have hc := m_rem_b hw (by rw [← h12]; exact hp.1)
    obtain ⟨g1, g2, g3, g4, g5⟩ := sh_f hw
    have hd := rm_data (H := (11, fun i => H.2 (i + 1))) (u := 11) (h.out g1 (fun z => by rcases z with z | z | z <;> omega) (fun z => by rcases z with z | z | z <;> omega) (fun z => by rcases z with z | z | z <;> omega)) ⟨g2, by decide, fun i hi => ?_⟩ g1.wf
    · obtain ⟨f1, f2, f3, f4, f5⟩ := rm_f g1.wf (show 11 < 12 by decide)
      have e : pushH H d = (12, fun i => if i = 11 then d else H.2 (i + 1)) := if_pos h12
      rw [e]
      exact ⟨none, _, hc, rfl, hd, g1.trans f1, fun k hk => (f3 k hk).trans (g3 k hk)⟩
    · obtain ⟨a, b, c⟩ := hp.2.2 (i + 1) (by omega)
      refine ⟨a, b.cg a fun k hk => ?_, fun k hk => ?_⟩
      · show gI (shR μ) 346 (291 * i + k) = gI μ 346 (291 * (i + 1) + k)
        rw [g4 _ (by omega)]
        congr 1
        omega
      · rw [g5 _ (by omega), ← c k hk]
        congr 1
        omega
  · have hl : H.1 < 12 := by have := hp.2.1; omega
    have hd := rm_data (H := H) h ⟨hp.1, hl, hp.2.2⟩ hw
    obtain ⟨f1, f2, f3, f4, f5⟩ := rm_f hw hl
    have e : pushH H d = (H.1 + 1, fun i => if i = H.1 then d else H.2 i) := if_neg h12
    rw [e]
    exact ⟨none, _, m_rem_a hw hp.1 hl, rfl, hd, f1, f3⟩
end MODELP
