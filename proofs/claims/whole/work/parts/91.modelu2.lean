section MODELU2
variable {μ W V : Wd} {q : PDt} {d e : FDt}
abbrev R_X11_undo : Room := { frames := 1, cells := 0, slots := 0, locals := 21 }
abbrev RX_X11_undo : Room := { frames := 1, cells := 1, slots := 6, locals := 21 }

theorem l_X11_undo_33 (hw : Wf W) {u : Nat} (hu : gI W 338 14 = nI u) (h12 : u < 12) {oc : Oc} {μ1 : Wd} (kx : AW Y_X11_undo R_X11_undo (0, 0) (cpX W 346 (291 * u) 344 (0) 291) 67 [(0, .ref 338), (1, .int (nI 291))] [] oc μ1) : ∀ dd m, m + dd = 291 → AW Y_X11_undo R_X11_undo (0, 0) (cpX W 346 (291 * u) 344 (0) m) 33 [(0, .ref 338), (1, .int (nI m))] [] oc μ1 := by
  have e14 : ∀ m, gI (cpX W 346 (291 * u) 344 (0) m) 338 14 = nI u := fun m => by first | (rw [gI_cpX, if_neg (by omega)]; exact hu) | (rw [gI_cpY]; exact hu)
  intro dd
  induction dd with
  | zero =>
    intro m hm
    obtain rfl : 291 = m := by omega
    refine a_iload_n dX11_undo_33 rfl ?_
    refine a_sipush (291 : Int32) dX11_undo_34 (by decide) ?_
    refine a_icmp_ge (tgt := 67) dX11_undo_37 (by decide) (fun h37 => ?_) (fun h37 => absurd h37 (fun z => z (nI_le (b := 291) (Nat.le_refl _) (by decide))))
    exact a_loc _ rfl kx
  | succ dd ih =>
    intro m hm
    have qih := ih (m + 1) (by omega)
    rw [← cpX_succ] at qih
    refine a_iload_n dX11_undo_33 rfl ?_
    refine a_sipush (291 : Int32) dX11_undo_34 (by decide) ?_
    refine a_icmp_ge (tgt := 67) dX11_undo_37 (by decide) (fun h37 => absurd h37 (nI_ge (b := 291) (show m < 291 by omega) (by decide))) (fun h37 => ?_)
    refine a_aload_n dX11_undo_40 rfl ?_
    refine a_getR (cr_338_6 (by repeat (first | with_reducible exact hw | with_reducible exact hwc | with_reducible assumption | with_reducible apply Wf.sI | with_reducible apply Wf.sL | with_reducible apply Wf.cpI | with_reducible apply Wf.cpL | with_reducible apply Wf.cp2 | with_reducible apply Wf.sIs | with_reducible apply Wf.sLs | with_reducible apply Wf.cpU | with_reducible apply Wf.fillI | with_reducible apply Wf.clU | with_reducible apply Wf.dnF | with_reducible apply Wf.gbW | with_reducible apply Wf.cpXf | with_reducible apply Wf.cpYf))) dX11_undo_41 fs_X11_26 rfl (co_338 (by repeat (first | with_reducible exact hw | with_reducible exact hwc | with_reducible assumption | with_reducible apply Wf.sI | with_reducible apply Wf.sL | with_reducible apply Wf.cpI | with_reducible apply Wf.cpL | with_reducible apply Wf.cp2 | with_reducible apply Wf.sIs | with_reducible apply Wf.sLs | with_reducible apply Wf.cpU | with_reducible apply Wf.fillI | with_reducible apply Wf.clU | with_reducible apply Wf.dnF | with_reducible apply Wf.gbW | with_reducible apply Wf.cpXf | with_reducible apply Wf.cpYf))) ?_
    refine a_iload_n dX11_undo_44 rfl ?_
    refine a_aload_n dX11_undo_45 rfl ?_
    refine a_getR (cr_338_8 (by repeat (first | with_reducible exact hw | with_reducible exact hwc | with_reducible assumption | with_reducible apply Wf.sI | with_reducible apply Wf.sL | with_reducible apply Wf.cpI | with_reducible apply Wf.cpL | with_reducible apply Wf.cp2 | with_reducible apply Wf.sIs | with_reducible apply Wf.sLs | with_reducible apply Wf.cpU | with_reducible apply Wf.fillI | with_reducible apply Wf.clU | with_reducible apply Wf.dnF | with_reducible apply Wf.gbW | with_reducible apply Wf.cpXf | with_reducible apply Wf.cpYf))) dX11_undo_46 fs_X11_32 rfl (co_338 (by repeat (first | with_reducible exact hw | with_reducible exact hwc | with_reducible assumption | with_reducible apply Wf.sI | with_reducible apply Wf.sL | with_reducible apply Wf.cpI | with_reducible apply Wf.cpL | with_reducible apply Wf.cp2 | with_reducible apply Wf.sIs | with_reducible apply Wf.sLs | with_reducible apply Wf.cpU | with_reducible apply Wf.fillI | with_reducible apply Wf.clU | with_reducible apply Wf.dnF | with_reducible apply Wf.gbW | with_reducible apply Wf.cpXf | with_reducible apply Wf.cpYf))) ?_
    refine a_sipush (291 : Int32) dX11_undo_49 (by decide) ?_
    refine a_aload_n dX11_undo_52 rfl ?_
    refine a_getI dX11_undo_53 fs_X11_95 rfl (co_338 (by repeat (first | with_reducible exact hw | with_reducible exact hwc | with_reducible assumption | with_reducible apply Wf.sI | with_reducible apply Wf.sL | with_reducible apply Wf.cpI | with_reducible apply Wf.cpL | with_reducible apply Wf.cp2 | with_reducible apply Wf.sIs | with_reducible apply Wf.sLs | with_reducible apply Wf.cpU | with_reducible apply Wf.fillI | with_reducible apply Wf.clU | with_reducible apply Wf.dnF | with_reducible apply Wf.gbW | with_reducible apply Wf.cpXf | with_reducible apply Wf.cpYf))) ?_
    rw [e14]
    refine a_imul dX11_undo_56 ?_
    refine a_iload_n dX11_undo_57 rfl ?_
    refine a_iadd dX11_undo_58 ?_
    rw [show (291 : Int32) * nI u + nI m = nI (291 * u + m) from ixr 291 u m]
    refine a_ild dX11_undo_59 (ca_346 (by repeat (first | with_reducible exact hw | with_reducible exact hwc | with_reducible assumption | with_reducible apply Wf.sI | with_reducible apply Wf.sL | with_reducible apply Wf.cpI | with_reducible apply Wf.cpL | with_reducible apply Wf.cp2 | with_reducible apply Wf.sIs | with_reducible apply Wf.sLs | with_reducible apply Wf.cpU | with_reducible apply Wf.fillI | with_reducible apply Wf.clU | with_reducible apply Wf.dnF | with_reducible apply Wf.gbW | with_reducible apply Wf.cpXf | with_reducible apply Wf.cpYf))) (ixn (show 291 * u + m < 3492 by omega) (by decide)) ?_
    rw [cpX_rd (Or.inl (by decide))]
    refine a_ist dX11_undo_60 (ca_344 (by repeat (first | with_reducible exact hw | with_reducible exact hwc | with_reducible assumption | with_reducible apply Wf.sI | with_reducible apply Wf.sL | with_reducible apply Wf.cpI | with_reducible apply Wf.cpL | with_reducible apply Wf.cp2 | with_reducible apply Wf.sIs | with_reducible apply Wf.sLs | with_reducible apply Wf.cpU | with_reducible apply Wf.fillI | with_reducible apply Wf.clU | with_reducible apply Wf.dnF | with_reducible apply Wf.gbW | with_reducible apply Wf.cpXf | with_reducible apply Wf.cpYf))) (ix0 (show m < 291 by omega) (by decide)) ?_
    refine a_iincN dX11_undo_61 rfl (by decide) ?_
    refine a_goto (tgt := 33) dX11_undo_64 (by decide) ?_
    exact a_loc _ rfl qih

theorem l_X11_undo_69 (hw : Wf W) {u : Nat} (hu : gI W 338 14 = nI u) (h12 : u < 12) {oc : Oc} {μ1 : Wd} (kx : AW Y_X11_undo R_X11_undo (0, 0) (cpY W 349 (6 * u) 348 (0) 6) 101 [(0, .ref 338), (1, .int (nI 6))] [] oc μ1) : ∀ dd m, m + dd = 6 → AW Y_X11_undo R_X11_undo (0, 0) (cpY W 349 (6 * u) 348 (0) m) 69 [(0, .ref 338), (1, .int (nI m))] [] oc μ1 := by
  have e14 : ∀ m, gI (cpY W 349 (6 * u) 348 (0) m) 338 14 = nI u := fun m => by first | (rw [gI_cpX, if_neg (by omega)]; exact hu) | (rw [gI_cpY]; exact hu)
  intro dd
  induction dd with
  | zero =>
    intro m hm
    obtain rfl : 6 = m := by omega
    refine a_iload_n dX11_undo_69 rfl ?_
    refine a_bipush (6 : Int32) dX11_undo_70 (by decide) ?_
    refine a_icmp_ge (tgt := 101) dX11_undo_72 (by decide) (fun h72 => ?_) (fun h72 => absurd h72 (fun z => z (nI_le (b := 6) (Nat.le_refl _) (by decide))))
    exact a_loc _ rfl kx
  | succ dd ih =>
    intro m hm
    have qih := ih (m + 1) (by omega)
    rw [← cpY_succ] at qih
    refine a_iload_n dX11_undo_69 rfl ?_
    refine a_bipush (6 : Int32) dX11_undo_70 (by decide) ?_
    refine a_icmp_ge (tgt := 101) dX11_undo_72 (by decide) (fun h72 => absurd h72 (nI_ge (b := 6) (show m < 6 by omega) (by decide))) (fun h72 => ?_)
    refine a_aload_n dX11_undo_75 rfl ?_
    refine a_getR (cr_338_10 (by repeat (first | with_reducible exact hw | with_reducible exact hwc | with_reducible assumption | with_reducible apply Wf.sI | with_reducible apply Wf.sL | with_reducible apply Wf.cpI | with_reducible apply Wf.cpL | with_reducible apply Wf.cp2 | with_reducible apply Wf.sIs | with_reducible apply Wf.sLs | with_reducible apply Wf.cpU | with_reducible apply Wf.fillI | with_reducible apply Wf.clU | with_reducible apply Wf.dnF | with_reducible apply Wf.gbW | with_reducible apply Wf.cpXf | with_reducible apply Wf.cpYf))) dX11_undo_76 fs_X11_38 rfl (co_338 (by repeat (first | with_reducible exact hw | with_reducible exact hwc | with_reducible assumption | with_reducible apply Wf.sI | with_reducible apply Wf.sL | with_reducible apply Wf.cpI | with_reducible apply Wf.cpL | with_reducible apply Wf.cp2 | with_reducible apply Wf.sIs | with_reducible apply Wf.sLs | with_reducible apply Wf.cpU | with_reducible apply Wf.fillI | with_reducible apply Wf.clU | with_reducible apply Wf.dnF | with_reducible apply Wf.gbW | with_reducible apply Wf.cpXf | with_reducible apply Wf.cpYf))) ?_
    refine a_iload_n dX11_undo_79 rfl ?_
    refine a_aload_n dX11_undo_80 rfl ?_
    refine a_getR (cr_338_11 (by repeat (first | with_reducible exact hw | with_reducible exact hwc | with_reducible assumption | with_reducible apply Wf.sI | with_reducible apply Wf.sL | with_reducible apply Wf.cpI | with_reducible apply Wf.cpL | with_reducible apply Wf.cp2 | with_reducible apply Wf.sIs | with_reducible apply Wf.sLs | with_reducible apply Wf.cpU | with_reducible apply Wf.fillI | with_reducible apply Wf.clU | with_reducible apply Wf.dnF | with_reducible apply Wf.gbW | with_reducible apply Wf.cpXf | with_reducible apply Wf.cpYf))) dX11_undo_81 fs_X11_41 rfl (co_338 (by repeat (first | with_reducible exact hw | with_reducible exact hwc | with_reducible assumption | with_reducible apply Wf.sI | with_reducible apply Wf.sL | with_reducible apply Wf.cpI | with_reducible apply Wf.cpL | with_reducible apply Wf.cp2 | with_reducible apply Wf.sIs | with_reducible apply Wf.sLs | with_reducible apply Wf.cpU | with_reducible apply Wf.fillI | with_reducible apply Wf.clU | with_reducible apply Wf.dnF | with_reducible apply Wf.gbW | with_reducible apply Wf.cpXf | with_reducible apply Wf.cpYf))) ?_
    refine a_bipush (6 : Int32) dX11_undo_84 (by decide) ?_
    refine a_aload_n dX11_undo_86 rfl ?_
    refine a_getI dX11_undo_87 fs_X11_95 rfl (co_338 (by repeat (first | with_reducible exact hw | with_reducible exact hwc | with_reducible assumption | with_reducible apply Wf.sI | with_reducible apply Wf.sL | with_reducible apply Wf.cpI | with_reducible apply Wf.cpL | with_reducible apply Wf.cp2 | with_reducible apply Wf.sIs | with_reducible apply Wf.sLs | with_reducible apply Wf.cpU | with_reducible apply Wf.fillI | with_reducible apply Wf.clU | with_reducible apply Wf.dnF | with_reducible apply Wf.gbW | with_reducible apply Wf.cpXf | with_reducible apply Wf.cpYf))) ?_
    rw [e14]
    refine a_imul dX11_undo_90 ?_
    refine a_iload_n dX11_undo_91 rfl ?_
    refine a_iadd dX11_undo_92 ?_
    rw [show (6 : Int32) * nI u + nI m = nI (6 * u + m) from ixr 6 u m]
    refine a_lld dX11_undo_93 (ca_349 (by repeat (first | with_reducible exact hw | with_reducible exact hwc | with_reducible assumption | with_reducible apply Wf.sI | with_reducible apply Wf.sL | with_reducible apply Wf.cpI | with_reducible apply Wf.cpL | with_reducible apply Wf.cp2 | with_reducible apply Wf.sIs | with_reducible apply Wf.sLs | with_reducible apply Wf.cpU | with_reducible apply Wf.fillI | with_reducible apply Wf.clU | with_reducible apply Wf.dnF | with_reducible apply Wf.gbW | with_reducible apply Wf.cpXf | with_reducible apply Wf.cpYf))) (ixn (show 6 * u + m < 72 by omega) (by decide)) ?_
    rw [cpY_rd (Or.inl (by decide))]
    refine a_lst dX11_undo_94 (ca_348 (by repeat (first | with_reducible exact hw | with_reducible exact hwc | with_reducible assumption | with_reducible apply Wf.sI | with_reducible apply Wf.sL | with_reducible apply Wf.cpI | with_reducible apply Wf.cpL | with_reducible apply Wf.cp2 | with_reducible apply Wf.sIs | with_reducible apply Wf.sLs | with_reducible apply Wf.cpU | with_reducible apply Wf.fillI | with_reducible apply Wf.clU | with_reducible apply Wf.dnF | with_reducible apply Wf.gbW | with_reducible apply Wf.cpXf | with_reducible apply Wf.cpYf))) (ix0 (show m < 6 by omega) (by decide)) ?_
    refine a_iincN dX11_undo_95 rfl (by decide) ?_
    refine a_goto (tgt := 69) dX11_undo_98 (by decide) ?_
    exact a_loc _ rfl qih
def unA (μ : Wd) (n : Nat) : Wd := sI (sI μ 338 0 0) 338 14 (nI n)
def unW (μ : Wd) (n : Nat) : Wd := cpY (cpX (unA μ n) 346 (291 * n) 344 0 291) 349 (6 * n) 348 0 6
theorem m_undo_c (hw : Wf μ) {n : Nat} (hu : gI μ 338 14 = nI (n + 1)) (h12 : n < 12) : Ct Y_X11_undo R_X11_undo [.ref 338] μ (.inl (some (.int (nI n)))) (unW μ n) := by
  have hwA : Wf (unA μ n) := hw.sI.sI
  have e0 : gI (unA μ n) 338 14 = nI n := by unfold unA; rw [gI_sI, if_pos ⟨rfl, rfl⟩]
  have e1 : gI (cpX (unA μ n) 346 (291 * n) 344 0 291) 338 14 = nI n := by rw [gI_cpX, if_neg (by omega)]; exact e0
  have e2 : gI (unW μ n) 338 14 = nI n := by unfold unW; rw [gI_cpY]; exact e1
  have hwZ : Wf (unW μ n) := hwA.cpXf.cpYf
  refine Ct.ent yk_X11_undo (Nat.le_of_ble_eq_true rfl) ?_
  refine a_aload_n dX11_undo_0 rfl ?_
  refine a_aload_n dX11_undo_1 rfl ?_
  refine a_getI dX11_undo_2 fs_X11_95 rfl (co_338 (by repeat (first | with_reducible exact hw | with_reducible exact hwc | with_reducible assumption | with_reducible apply Wf.sI | with_reducible apply Wf.sL | with_reducible apply Wf.cpI | with_reducible apply Wf.cpL | with_reducible apply Wf.cp2 | with_reducible apply Wf.sIs | with_reducible apply Wf.sLs | with_reducible apply Wf.cpU | with_reducible apply Wf.fillI | with_reducible apply Wf.clU | with_reducible apply Wf.dnF | with_reducible apply Wf.gbW | with_reducible apply Wf.cpXf | with_reducible apply Wf.cpYf))) ?_
  rw [hu]
  refine a_if_ne (tgt := 12) dX11_undo_5 (by decide) (fun h5 => ?_) (fun h5 => absurd h5 (nI_ne0 (Nat.succ_pos n) (by omega)))
  refine a_iconst (0 : Int32) dX11_undo_12 (by decide) ?_
  refine a_inv (b2 := (0, 0)) (m_isRefused0 (by repeat (first | with_reducible exact hw | with_reducible exact hwc | with_reducible assumption | with_reducible apply Wf.sI | with_reducible apply Wf.sL | with_reducible apply Wf.cpI | with_reducible apply Wf.cpL | with_reducible apply Wf.cp2 | with_reducible apply Wf.sIs | with_reducible apply Wf.sLs | with_reducible apply Wf.cpU | with_reducible apply Wf.fillI | with_reducible apply Wf.clU | with_reducible apply Wf.dnF | with_reducible apply Wf.gbW | with_reducible apply Wf.cpXf | with_reducible apply Wf.cpYf))) rfl dX11_undo_13 yk_X11_isRefused im_X11_isRefused se_X11_isRefused ml_X11_98 rfl (co_338 (by repeat (first | with_reducible exact hw | with_reducible exact hwc | with_reducible assumption | with_reducible apply Wf.sI | with_reducible apply Wf.sL | with_reducible apply Wf.cpI | with_reducible apply Wf.cpL | with_reducible apply Wf.cp2 | with_reducible apply Wf.sIs | with_reducible apply Wf.sLs | with_reducible apply Wf.cpU | with_reducible apply Wf.fillI | with_reducible apply Wf.clU | with_reducible apply Wf.dnF | with_reducible apply Wf.gbW | with_reducible apply Wf.cpXf | with_reducible apply Wf.cpYf))) (by decide) hc_X11 (by decide) (by decide) (Nat.le_of_ble_eq_true rfl) ?_
  refine a_if_eq (tgt := 21) dX11_undo_16 (by decide) (fun h16 => ?_) (fun h16 => absurd h16 (fun z => z rfl))
  refine a_aload_n dX11_undo_21 rfl ?_
  refine a_aload_n dX11_undo_22 rfl ?_
  refine a_getI dX11_undo_23 fs_X11_95 rfl (co_338 (by repeat (first | with_reducible exact hw | with_reducible exact hwc | with_reducible assumption | with_reducible apply Wf.sI | with_reducible apply Wf.sL | with_reducible apply Wf.cpI | with_reducible apply Wf.cpL | with_reducible apply Wf.cp2 | with_reducible apply Wf.sIs | with_reducible apply Wf.sLs | with_reducible apply Wf.cpU | with_reducible apply Wf.fillI | with_reducible apply Wf.clU | with_reducible apply Wf.dnF | with_reducible apply Wf.gbW | with_reducible apply Wf.cpXf | with_reducible apply Wf.cpYf))) ?_
  rw [gI_sI, if_neg (by omega), hu]
  refine a_iconst (1 : Int32) dX11_undo_26 (by decide) ?_
  refine a_isub dX11_undo_27 ?_
  rw [nI_sub1]
  refine a_putI dX11_undo_28 fs_X11_95 rfl rfl rfl (co_338 (by repeat (first | with_reducible exact hw | with_reducible exact hwc | with_reducible assumption | with_reducible apply Wf.sI | with_reducible apply Wf.sL | with_reducible apply Wf.cpI | with_reducible apply Wf.cpL | with_reducible apply Wf.cp2 | with_reducible apply Wf.sIs | with_reducible apply Wf.sLs | with_reducible apply Wf.cpU | with_reducible apply Wf.fillI | with_reducible apply Wf.clU | with_reducible apply Wf.dnF | with_reducible apply Wf.gbW | with_reducible apply Wf.cpXf | with_reducible apply Wf.cpYf))) ?_
  refine a_iconst (0 : Int32) dX11_undo_31 (by decide) ?_
  refine a_istore_n dX11_undo_32 (by decide) ?_
  refine a_wd (cpX_zero (unA μ n) 346 (291 * n) 344 0).symm (a_loc [(0, .ref 338), (1, .int (nI 0))] rfl (l_X11_undo_33 hwA e0 h12 ?_ 291 0 rfl))
  refine a_iconst (0 : Int32) dX11_undo_67 (by decide) ?_
  refine a_istore_n dX11_undo_68 (by decide) ?_
  refine a_wd (cpY_zero (cpX (unA μ n) 346 (291 * n) 344 0 291) 349 (6 * n) 348 0).symm (a_loc [(0, .ref 338), (1, .int (nI 0))] rfl (l_X11_undo_69 hwA.cpXf e1 h12 ?_ 6 0 rfl))
  refine a_wd (show _ = unW μ n from rfl) ?_
  refine a_aload_n dX11_undo_101 rfl ?_
  refine a_getI dX11_undo_102 fs_X11_95 rfl (co_338 hwZ) ?_
  rw [e2]
  exact a_out rfl rfl (a_ireturn dX11_undo_105 rfl rfl)

theorem mx_undo (hw : Wf μ) (hu : gI μ 338 14 = nI 0)  : Ct Y_X11_undo R_X11_undo [.ref 338] μ (.inl (some (.int (0)))) (sI μ 338 0 1) := by
  refine Ct.ent yk_X11_undo (Nat.le_of_ble_eq_true rfl) ?_
  refine a_aload_n dX11_undo_0 rfl ?_
  refine a_aload_n dX11_undo_1 rfl ?_
  refine a_getI dX11_undo_2 fs_X11_95 rfl (co_338 (by repeat (first | with_reducible exact hw | with_reducible exact hwc | with_reducible assumption | with_reducible apply Wf.sI | with_reducible apply Wf.sL | with_reducible apply Wf.cpI | with_reducible apply Wf.cpL | with_reducible apply Wf.cp2 | with_reducible apply Wf.sIs | with_reducible apply Wf.sLs | with_reducible apply Wf.cpU | with_reducible apply Wf.fillI | with_reducible apply Wf.clU | with_reducible apply Wf.dnF | with_reducible apply Wf.gbW | with_reducible apply Wf.cpXf | with_reducible apply Wf.cpYf))) ?_
  rw [hu]
  refine a_if_ne (tgt := 12) dX11_undo_5 (by decide) (fun h5 => absurd h5 (fun z => z rfl)) (fun h5 => ?_)
  refine a_iconst (1 : Int32) dX11_undo_8 (by decide) ?_
  refine a_goto (tgt := 13) dX11_undo_9 (by decide) ?_
  refine a_inv (b2 := (0, 0)) (m_isRefused1 (by repeat (first | with_reducible exact hw | with_reducible exact hwc | with_reducible assumption | with_reducible apply Wf.sI | with_reducible apply Wf.sL | with_reducible apply Wf.cpI | with_reducible apply Wf.cpL | with_reducible apply Wf.cp2 | with_reducible apply Wf.sIs | with_reducible apply Wf.sLs | with_reducible apply Wf.cpU | with_reducible apply Wf.fillI | with_reducible apply Wf.clU | with_reducible apply Wf.dnF | with_reducible apply Wf.gbW | with_reducible apply Wf.cpXf | with_reducible apply Wf.cpYf)) (v := 1) (by decide)) rfl dX11_undo_13 yk_X11_isRefused im_X11_isRefused se_X11_isRefused ml_X11_98 rfl (co_338 (by repeat (first | with_reducible exact hw | with_reducible exact hwc | with_reducible assumption | with_reducible apply Wf.sI | with_reducible apply Wf.sL | with_reducible apply Wf.cpI | with_reducible apply Wf.cpL | with_reducible apply Wf.cp2 | with_reducible apply Wf.sIs | with_reducible apply Wf.sLs | with_reducible apply Wf.cpU | with_reducible apply Wf.fillI | with_reducible apply Wf.clU | with_reducible apply Wf.dnF | with_reducible apply Wf.gbW | with_reducible apply Wf.cpXf | with_reducible apply Wf.cpYf))) (by decide) hc_X11 (by decide) (by decide) (Nat.le_of_ble_eq_true rfl) ?_
  refine a_if_eq (tgt := 21) dX11_undo_16 (by decide) (fun h16 => absurd h16 (by decide)) (fun h16 => ?_)
  refine a_iconst (0 : Int32) dX11_undo_19 (by decide) ?_
  exact a_out rfl rfl (a_ireturn dX11_undo_20 rfl rfl)
abbrev sUn : Nat → Prop := fun i => i = 338 ∨ i = 344 ∨ i = 348
theorem un_f (hw : Wf μ) {n : Nat} (h12 : n < 12) : Out sUn μ (unW μ n) ∧ gI (unW μ n) 338 14 = nI n ∧ gI (unW μ n) 338 0 = 0 ∧ (∀ k, k ≠ 14 → k ≠ 0 → gI (unW μ n) 338 k = gI μ 338 k) ∧ (∀ x, x < 291 → gI (unW μ n) 344 x = gI μ 346 (291 * n + x)) ∧ ∀ x, x < 6 → gL (unW μ n) 348 x = gL μ 349 (6 * n + x) := by
  unfold unW unA
  refine ⟨((((Out.rfl' hw).sI (S := sUn) (Or.inl rfl) _ _).sI (S := sUn) (Or.inl rfl) _ _).cpXo (S := sUn) (Or.inr (Or.inl rfl))).cpYo (S := sUn) (Or.inr (Or.inr rfl)), ?_, ?_, fun k h1 h2 => ?_, fun x hx => ?_, fun x hx => ?_⟩
  · rw [gI_cpY, gI_cpX, if_neg (by omega), gI_sI, if_pos ⟨rfl, rfl⟩]
  · rw [gI_cpY, gI_cpX, if_neg (by omega), gI_sI, if_neg (by omega), gI_sI, if_pos ⟨rfl, rfl⟩]
  · rw [gI_cpY, gI_cpX, if_neg (by omega), gI_sI, if_neg (by omega), gI_sI, if_neg (by omega)]
  · rw [gI_cpY, gI_cpX, if_pos ⟨rfl, by omega, by omega⟩, gI_sI, if_neg (by omega), gI_sI, if_neg (by omega)]
    congr 1
    omega
  · rw [gL_cpY, if_pos ⟨rfl, by omega, by omega⟩, gL_cpX, gL_sI, gL_sI]
    congr 1
    omega
theorem v_undo {H : Hst} (hw : Wf μ) (hm : MdV μ q d) (hp : MpV μ q H) {n : Nat} (hn : H.1 = n + 1) : CV Y_X11_undo R_X11_undo [.ref 338] μ (fun v V => v = some (.int (nI n)) ∧ MnV V q (H.2 n) ∧ MpV V q (popH H) ∧ Out sUn μ V ∧ gI V 338 0 = 0 ∧ ∀ k, k ≠ 14 → k ≠ 0 → gI V 338 k = gI μ 338 k) := by
  have h12 : n < 12 := by have := hp.2.1; omega
  have hc := m_undo_c hw (by rw [← hn]; exact hp.1) h12
  obtain ⟨f1, f2, f3, f4, f5, f6⟩ := un_f hw h12
  revert hc f1 f2 f3 f4 f5 f6
  generalize unW μ n = Z
  intro hc f1 f2 f3 f4 f5 f6
  obtain ⟨a, b, c⟩ := hp.2.2 n (by omega)
  have e9 : gI Z 339 = gI μ 339 := funext (f1.i (fun z => by rcases z with z | z | z <;> omega))
  have eH : popH H = (n, H.2) := by unfold popH; rw [hn]; rfl
  refine ⟨_, Z, hc, rfl, MnV.of (by rw [e9]; exact hm.2.2.1) a (b.cg a fun k hk => f5 k hk) (fun k hk => (f6 k hk).trans (c k hk)), ?_, f1, f3, f4⟩
  rw [eH]
  refine ⟨f2, by show n ≤ 12; omega, fun i (hi : i < n) => ?_⟩
  obtain ⟨a, b, c⟩ := hp.2.2 i (by omega)
  exact ⟨a, b.cg a fun k hk => f1.i (fun z => by rcases z with z | z | z <;> omega) _, fun k hk => (f1.l (fun z => by rcases z with z | z | z <;> omega) _).trans (c k hk)⟩
abbrev R_X11_keep : Room := { frames := 1, cells := 0, slots := 0, locals := 22 }
abbrev RX_X11_keep : Room := { frames := 1, cells := 1, slots := 6, locals := 22 }

theorem l_X11_keep_25 (hw : Wf W) {j : Nat} (hj : j < 2) {oc : Oc} {μ1 : Wd} (kx : AW Y_X11_keep R_X11_keep (0, 0) (cpX W 344 (0) 347 (291 * j) 291) 56 [(0, .ref 338), (1, .int (nI j)), (2, .int (nI 291))] [] oc μ1) : ∀ dd m, m + dd = 291 → AW Y_X11_keep R_X11_keep (0, 0) (cpX W 344 (0) 347 (291 * j) m) 25 [(0, .ref 338), (1, .int (nI j)), (2, .int (nI m))] [] oc μ1 := by
  intro dd
  induction dd with
  | zero =>
    intro m hm
    obtain rfl : 291 = m := by omega
    refine a_iload_n dX11_keep_25 rfl ?_
    refine a_sipush (291 : Int32) dX11_keep_26 (by decide) ?_
    refine a_icmp_ge (tgt := 56) dX11_keep_29 (by decide) (fun h29 => ?_) (fun h29 => absurd h29 (fun z => z (nI_le (b := 291) (Nat.le_refl _) (by decide))))
    exact a_loc _ rfl kx
  | succ dd ih =>
    intro m hm
    have qih := ih (m + 1) (by omega)
    rw [← cpX_succ] at qih
    refine a_iload_n dX11_keep_25 rfl ?_
    refine a_sipush (291 : Int32) dX11_keep_26 (by decide) ?_
    refine a_icmp_ge (tgt := 56) dX11_keep_29 (by decide) (fun h29 => absurd h29 (nI_ge (b := 291) (show m < 291 by omega) (by decide))) (fun h29 => ?_)
    refine a_aload_n dX11_keep_32 rfl ?_
    refine a_getR (cr_338_9 (by repeat (first | with_reducible exact hw | with_reducible exact hwc | with_reducible assumption | with_reducible apply Wf.sI | with_reducible apply Wf.sL | with_reducible apply Wf.cpI | with_reducible apply Wf.cpL | with_reducible apply Wf.cp2 | with_reducible apply Wf.sIs | with_reducible apply Wf.sLs | with_reducible apply Wf.cpU | with_reducible apply Wf.fillI | with_reducible apply Wf.clU | with_reducible apply Wf.dnF | with_reducible apply Wf.gbW | with_reducible apply Wf.cpXf | with_reducible apply Wf.cpYf))) dX11_keep_33 fs_X11_35 rfl (co_338 (by repeat (first | with_reducible exact hw | with_reducible exact hwc | with_reducible assumption | with_reducible apply Wf.sI | with_reducible apply Wf.sL | with_reducible apply Wf.cpI | with_reducible apply Wf.cpL | with_reducible apply Wf.cp2 | with_reducible apply Wf.sIs | with_reducible apply Wf.sLs | with_reducible apply Wf.cpU | with_reducible apply Wf.fillI | with_reducible apply Wf.clU | with_reducible apply Wf.dnF | with_reducible apply Wf.gbW | with_reducible apply Wf.cpXf | with_reducible apply Wf.cpYf))) ?_
    refine a_sipush (291 : Int32) dX11_keep_36 (by decide) ?_
    refine a_iload_n dX11_keep_39 rfl ?_
    refine a_imul dX11_keep_40 ?_
    refine a_iload_n dX11_keep_41 rfl ?_
    refine a_iadd dX11_keep_42 ?_
    rw [show (291 : Int32) * nI j + nI m = nI (291 * j + m) from ixr 291 j m]
    refine a_aload_n dX11_keep_43 rfl ?_
    refine a_getR (cr_338_6 (by repeat (first | with_reducible exact hw | with_reducible exact hwc | with_reducible assumption | with_reducible apply Wf.sI | with_reducible apply Wf.sL | with_reducible apply Wf.cpI | with_reducible apply Wf.cpL | with_reducible apply Wf.cp2 | with_reducible apply Wf.sIs | with_reducible apply Wf.sLs | with_reducible apply Wf.cpU | with_reducible apply Wf.fillI | with_reducible apply Wf.clU | with_reducible apply Wf.dnF | with_reducible apply Wf.gbW | with_reducible apply Wf.cpXf | with_reducible apply Wf.cpYf))) dX11_keep_44 fs_X11_26 rfl (co_338 (by repeat (first | with_reducible exact hw | with_reducible exact hwc | with_reducible assumption | with_reducible apply Wf.sI | with_reducible apply Wf.sL | with_reducible apply Wf.cpI | with_reducible apply Wf.cpL | with_reducible apply Wf.cp2 | with_reducible apply Wf.sIs | with_reducible apply Wf.sLs | with_reducible apply Wf.cpU | with_reducible apply Wf.fillI | with_reducible apply Wf.clU | with_reducible apply Wf.dnF | with_reducible apply Wf.gbW | with_reducible apply Wf.cpXf | with_reducible apply Wf.cpYf))) ?_
    refine a_iload_n dX11_keep_47 rfl ?_
    refine a_ild dX11_keep_48 (ca_344 (by repeat (first | with_reducible exact hw | with_reducible exact hwc | with_reducible assumption | with_reducible apply Wf.sI | with_reducible apply Wf.sL | with_reducible apply Wf.cpI | with_reducible apply Wf.cpL | with_reducible apply Wf.cp2 | with_reducible apply Wf.sIs | with_reducible apply Wf.sLs | with_reducible apply Wf.cpU | with_reducible apply Wf.fillI | with_reducible apply Wf.clU | with_reducible apply Wf.dnF | with_reducible apply Wf.gbW | with_reducible apply Wf.cpXf | with_reducible apply Wf.cpYf))) (ix0 (show m < 291 by omega) (by decide)) ?_
    rw [cpX_rd (Or.inl (by decide))]
    refine a_ist dX11_keep_49 (ca_347 (by repeat (first | with_reducible exact hw | with_reducible exact hwc | with_reducible assumption | with_reducible apply Wf.sI | with_reducible apply Wf.sL | with_reducible apply Wf.cpI | with_reducible apply Wf.cpL | with_reducible apply Wf.cp2 | with_reducible apply Wf.sIs | with_reducible apply Wf.sLs | with_reducible apply Wf.cpU | with_reducible apply Wf.fillI | with_reducible apply Wf.clU | with_reducible apply Wf.dnF | with_reducible apply Wf.gbW | with_reducible apply Wf.cpXf | with_reducible apply Wf.cpYf))) (ixn (show 291 * j + m < 582 by omega) (by decide)) ?_
    refine a_iincN dX11_keep_50 rfl (by decide) ?_
    refine a_goto (tgt := 25) dX11_keep_53 (by decide) ?_
    exact a_loc _ rfl qih

theorem l_X11_keep_58 (hw : Wf W) {j : Nat} (hj : j < 2) {oc : Oc} {μ1 : Wd} (kx : AW Y_X11_keep R_X11_keep (0, 0) (cpY W 348 (0) 350 (6 * j) 6) 87 [(0, .ref 338), (1, .int (nI j)), (2, .int (nI 6))] [] oc μ1) : ∀ dd m, m + dd = 6 → AW Y_X11_keep R_X11_keep (0, 0) (cpY W 348 (0) 350 (6 * j) m) 58 [(0, .ref 338), (1, .int (nI j)), (2, .int (nI m))] [] oc μ1 := by
  intro dd
  induction dd with
  | zero =>
    intro m hm
    obtain rfl : 6 = m := by omega
    refine a_iload_n dX11_keep_58 rfl ?_
    refine a_bipush (6 : Int32) dX11_keep_59 (by decide) ?_
    refine a_icmp_ge (tgt := 87) dX11_keep_61 (by decide) (fun h61 => ?_) (fun h61 => absurd h61 (fun z => z (nI_le (b := 6) (Nat.le_refl _) (by decide))))
    exact a_loc _ rfl kx
  | succ dd ih =>
    intro m hm
    have qih := ih (m + 1) (by omega)
    rw [← cpY_succ] at qih
    refine a_iload_n dX11_keep_58 rfl ?_
    refine a_bipush (6 : Int32) dX11_keep_59 (by decide) ?_
    refine a_icmp_ge (tgt := 87) dX11_keep_61 (by decide) (fun h61 => absurd h61 (nI_ge (b := 6) (show m < 6 by omega) (by decide))) (fun h61 => ?_)
    refine a_aload_n dX11_keep_64 rfl ?_
    refine a_getR (cr_338_12 (by repeat (first | with_reducible exact hw | with_reducible exact hwc | with_reducible assumption | with_reducible apply Wf.sI | with_reducible apply Wf.sL | with_reducible apply Wf.cpI | with_reducible apply Wf.cpL | with_reducible apply Wf.cp2 | with_reducible apply Wf.sIs | with_reducible apply Wf.sLs | with_reducible apply Wf.cpU | with_reducible apply Wf.fillI | with_reducible apply Wf.clU | with_reducible apply Wf.dnF | with_reducible apply Wf.gbW | with_reducible apply Wf.cpXf | with_reducible apply Wf.cpYf))) dX11_keep_65 fs_X11_44 rfl (co_338 (by repeat (first | with_reducible exact hw | with_reducible exact hwc | with_reducible assumption | with_reducible apply Wf.sI | with_reducible apply Wf.sL | with_reducible apply Wf.cpI | with_reducible apply Wf.cpL | with_reducible apply Wf.cp2 | with_reducible apply Wf.sIs | with_reducible apply Wf.sLs | with_reducible apply Wf.cpU | with_reducible apply Wf.fillI | with_reducible apply Wf.clU | with_reducible apply Wf.dnF | with_reducible apply Wf.gbW | with_reducible apply Wf.cpXf | with_reducible apply Wf.cpYf))) ?_
    refine a_bipush (6 : Int32) dX11_keep_68 (by decide) ?_
    refine a_iload_n dX11_keep_70 rfl ?_
    refine a_imul dX11_keep_71 ?_
    refine a_iload_n dX11_keep_72 rfl ?_
    refine a_iadd dX11_keep_73 ?_
    rw [show (6 : Int32) * nI j + nI m = nI (6 * j + m) from ixr 6 j m]
    refine a_aload_n dX11_keep_74 rfl ?_
    refine a_getR (cr_338_10 (by repeat (first | with_reducible exact hw | with_reducible exact hwc | with_reducible assumption | with_reducible apply Wf.sI | with_reducible apply Wf.sL | with_reducible apply Wf.cpI | with_reducible apply Wf.cpL | with_reducible apply Wf.cp2 | with_reducible apply Wf.sIs | with_reducible apply Wf.sLs | with_reducible apply Wf.cpU | with_reducible apply Wf.fillI | with_reducible apply Wf.clU | with_reducible apply Wf.dnF | with_reducible apply Wf.gbW | with_reducible apply Wf.cpXf | with_reducible apply Wf.cpYf))) dX11_keep_75 fs_X11_38 rfl (co_338 (by repeat (first | with_reducible exact hw | with_reducible exact hwc | with_reducible assumption | with_reducible apply Wf.sI | with_reducible apply Wf.sL | with_reducible apply Wf.cpI | with_reducible apply Wf.cpL | with_reducible apply Wf.cp2 | with_reducible apply Wf.sIs | with_reducible apply Wf.sLs | with_reducible apply Wf.cpU | with_reducible apply Wf.fillI | with_reducible apply Wf.clU | with_reducible apply Wf.dnF | with_reducible apply Wf.gbW | with_reducible apply Wf.cpXf | with_reducible apply Wf.cpYf))) ?_
    refine a_iload_n dX11_keep_78 rfl ?_
    refine a_lld dX11_keep_79 (ca_348 (by repeat (first | with_reducible exact hw | with_reducible exact hwc | with_reducible assumption | with_reducible apply Wf.sI | with_reducible apply Wf.sL | with_reducible apply Wf.cpI | with_reducible apply Wf.cpL | with_reducible apply Wf.cp2 | with_reducible apply Wf.sIs | with_reducible apply Wf.sLs | with_reducible apply Wf.cpU | with_reducible apply Wf.fillI | with_reducible apply Wf.clU | with_reducible apply Wf.dnF | with_reducible apply Wf.gbW | with_reducible apply Wf.cpXf | with_reducible apply Wf.cpYf))) (ix0 (show m < 6 by omega) (by decide)) ?_
    rw [cpY_rd (Or.inl (by decide))]
    refine a_lst dX11_keep_80 (ca_350 (by repeat (first | with_reducible exact hw | with_reducible exact hwc | with_reducible assumption | with_reducible apply Wf.sI | with_reducible apply Wf.sL | with_reducible apply Wf.cpI | with_reducible apply Wf.cpL | with_reducible apply Wf.cp2 | with_reducible apply Wf.sIs | with_reducible apply Wf.sLs | with_reducible apply Wf.cpU | with_reducible apply Wf.fillI | with_reducible apply Wf.clU | with_reducible apply Wf.dnF | with_reducible apply Wf.gbW | with_reducible apply Wf.cpXf | with_reducible apply Wf.cpYf))) (ixn (show 6 * j + m < 12 by omega) (by decide)) ?_
    refine a_iincN dX11_keep_81 rfl (by decide) ?_
    refine a_goto (tgt := 58) dX11_keep_84 (by decide) ?_
    exact a_loc _ rfl qih
def kpW (μ : Wd) (j : Nat) : Wd := sI (cpY (cpX (sI μ 338 0 0) 344 0 347 (291 * j) 291) 348 0 350 (6 * j) 6) 351 j (vp_nar .boolean 1)
abbrev sKp : Nat → Prop := fun i => i = 338 ∨ i = 347 ∨ i = 350 ∨ i = 351
theorem kp_f (hw : Wf μ) {j : Nat} (hj : j < 2) : Out sKp μ (kpW μ j) ∧ gI (kpW μ j) 338 0 = 0 ∧ (∀ k, k ≠ 0 → gI (kpW μ j) 338 k = gI μ 338 k) ∧ (∀ x, gI (kpW μ j) 351 x = if x = j then 1 else gI μ 351 x) ∧ (∀ x, gI (kpW μ j) 347 x = if 291 * j ≤ x ∧ x < 291 * j + 291 then gI μ 344 (x - 291 * j) else gI μ 347 x) ∧ ∀ x, gL (kpW μ j) 350 x = if 6 * j ≤ x ∧ x < 6 * j + 6 then gL μ 348 (x - 6 * j) else gL μ 350 x := by
  have e1 : vp_nar .boolean 1 = (1 : Int32) := by decide
  unfold kpW
  rw [e1]
  refine ⟨((((Out.rfl' hw).sI (S := sKp) (Or.inl rfl) _ _).cpXo (S := sKp) (Or.inr (Or.inl rfl))).cpYo (S := sKp) (Or.inr (Or.inr (Or.inl rfl)))).sI (S := sKp) (Or.inr (Or.inr (Or.inr rfl))) _ _, ?_, fun k h1 => ?_, fun x => ?_, fun x => ?_, fun x => ?_⟩
  · rw [gI_sI, if_neg (by omega), gI_cpY, gI_cpX, if_neg (by omega), gI_sI, if_pos ⟨rfl, rfl⟩]
  · rw [gI_sI, if_neg (by omega), gI_cpY, gI_cpX, if_neg (by omega), gI_sI, if_neg (by omega)]
  · rw [gI_sI]
    by_cases h : x = j
    · rw [if_pos ⟨rfl, h⟩, if_pos h]
    · rw [if_neg (fun z => h z.2), if_neg h, gI_cpY, gI_cpX, if_neg (by omega), gI_sI, if_neg (by omega)]
  · rw [gI_sI, if_neg (by omega), gI_cpY, gI_cpX]
    by_cases h : 291 * j ≤ x ∧ x < 291 * j + 291
    · rw [if_pos ⟨rfl, h⟩, if_pos h, Nat.add_zero, gI_sI, if_neg (by omega)]
    · rw [if_neg (fun z => h z.2), if_neg h, gI_sI, if_neg (by omega)]
  · rw [gL_sI, gL_cpY]
    by_cases h : 6 * j ≤ x ∧ x < 6 * j + 6
    · rw [if_pos ⟨rfl, h⟩, if_pos h, Nat.add_zero, gL_cpX, gL_sI]
    · rw [if_neg (fun z => h z.2), if_neg h, gL_cpX, gL_sI]
theorem m_keep_c (hw : Wf μ) (hv : MdV μ q d) {j : Nat} (hj : j < 2) : Ct Y_X11_keep R_X11_keep [.ref 338, .int (nI j)] μ (.inl (some (.int (phD q d)))) (kpW μ j) := by
  have h1 : inI (nI j) 0 1 = 1 := (inI_ix (x := nI j) (n := 2) (by decide)).trans (isO_lt hj (by decide))
  have hwA : Wf (sI μ 338 0 0) := hw.sI
  have hwZ : Wf (kpW μ j) := hwA.cpXf.cpYf.sI
  have hvZ : MdV (kpW μ j) q d := hv.out (kp_f hw hj).1 (fun z => by rcases z with z | z | z | z <;> omega) (fun z => by rcases z with z | z | z | z <;> omega)
  refine Ct.ent yk_X11_keep (Nat.le_of_ble_eq_true rfl) ?_
  refine a_aload_n dX11_keep_0 rfl ?_
  refine a_iload_n dX11_keep_1 rfl ?_
  refine a_iconst (0 : Int32) dX11_keep_2 (by decide) ?_
  refine a_iconst (1 : Int32) dX11_keep_3 (by decide) ?_
  refine a_invS (b2 := (0, 0)) (Ct.int h1 (m_in (nI j) 0 1)) rfl dX11_keep_4 yk_X11_in sm_X11_in ml_X11_102 rfl (by decide) (by decide) (Nat.le_of_ble_eq_true rfl) ?_
  refine a_if_eq (tgt := 14) dX11_keep_7 (by decide) (fun h7 => absurd h7 (by decide)) (fun h7 => ?_)
  refine a_iconst (0 : Int32) dX11_keep_10 (by decide) ?_
  refine a_goto (tgt := 15) dX11_keep_11 (by decide) ?_
  refine a_inv (b2 := (0, 0)) (m_isRefused0 (by repeat (first | with_reducible exact hw | with_reducible exact hwc | with_reducible assumption | with_reducible apply Wf.sI | with_reducible apply Wf.sL | with_reducible apply Wf.cpI | with_reducible apply Wf.cpL | with_reducible apply Wf.cp2 | with_reducible apply Wf.sIs | with_reducible apply Wf.sLs | with_reducible apply Wf.cpU | with_reducible apply Wf.fillI | with_reducible apply Wf.clU | with_reducible apply Wf.dnF | with_reducible apply Wf.gbW | with_reducible apply Wf.cpXf | with_reducible apply Wf.cpYf))) rfl dX11_keep_15 yk_X11_isRefused im_X11_isRefused se_X11_isRefused ml_X11_98 rfl (co_338 (by repeat (first | with_reducible exact hw | with_reducible exact hwc | with_reducible assumption | with_reducible apply Wf.sI | with_reducible apply Wf.sL | with_reducible apply Wf.cpI | with_reducible apply Wf.cpL | with_reducible apply Wf.cp2 | with_reducible apply Wf.sIs | with_reducible apply Wf.sLs | with_reducible apply Wf.cpU | with_reducible apply Wf.fillI | with_reducible apply Wf.clU | with_reducible apply Wf.dnF | with_reducible apply Wf.gbW | with_reducible apply Wf.cpXf | with_reducible apply Wf.cpYf))) (by decide) hc_X11 (by decide) (by decide) (Nat.le_of_ble_eq_true rfl) ?_
  refine a_if_eq (tgt := 23) dX11_keep_18 (by decide) (fun h18 => ?_) (fun h18 => absurd h18 (fun z => z rfl))
  refine a_iconst (0 : Int32) dX11_keep_23 (by decide) ?_
  refine a_istore_n dX11_keep_24 (by decide) ?_
  refine a_wd (cpX_zero (sI μ 338 0 0) 344 0 347 (291 * j)).symm (a_loc [(0, .ref 338), (1, .int (nI j)), (2, .int (nI 0))] rfl (l_X11_keep_25 hwA hj ?_ 291 0 rfl))
  refine a_iconst (0 : Int32) dX11_keep_56 (by decide) ?_
  refine a_istore_n dX11_keep_57 (by decide) ?_
  refine a_wd (cpY_zero (cpX (sI μ 338 0 0) 344 0 347 (291 * j) 291) 348 0 350 (6 * j)).symm (a_loc [(0, .ref 338), (1, .int (nI j)), (2, .int (nI 0))] rfl (l_X11_keep_58 hwA.cpXf hj ?_ 6 0 rfl))
  refine a_aload_n dX11_keep_87 rfl ?_
  refine a_getR (cr_338_13 (by repeat (first | with_reducible exact hw | with_reducible exact hwc | with_reducible assumption | with_reducible apply Wf.sI | with_reducible apply Wf.sL | with_reducible apply Wf.cpI | with_reducible apply Wf.cpL | with_reducible apply Wf.cp2 | with_reducible apply Wf.sIs | with_reducible apply Wf.sLs | with_reducible apply Wf.cpU | with_reducible apply Wf.fillI | with_reducible apply Wf.clU | with_reducible apply Wf.dnF | with_reducible apply Wf.gbW | with_reducible apply Wf.cpXf | with_reducible apply Wf.cpYf))) dX11_keep_88 fs_X11_47 rfl (co_338 (by repeat (first | with_reducible exact hw | with_reducible exact hwc | with_reducible assumption | with_reducible apply Wf.sI | with_reducible apply Wf.sL | with_reducible apply Wf.cpI | with_reducible apply Wf.cpL | with_reducible apply Wf.cp2 | with_reducible apply Wf.sIs | with_reducible apply Wf.sLs | with_reducible apply Wf.cpU | with_reducible apply Wf.fillI | with_reducible apply Wf.clU | with_reducible apply Wf.dnF | with_reducible apply Wf.gbW | with_reducible apply Wf.cpXf | with_reducible apply Wf.cpYf))) ?_
  refine a_iload_n dX11_keep_91 rfl ?_
  refine a_iconst (1 : Int32) dX11_keep_92 (by decide) ?_
  refine a_zst dX11_keep_93 (ca_351 (by repeat (first | with_reducible exact hw | with_reducible exact hwc | with_reducible assumption | with_reducible apply Wf.sI | with_reducible apply Wf.sL | with_reducible apply Wf.cpI | with_reducible apply Wf.cpL | with_reducible apply Wf.cp2 | with_reducible apply Wf.sIs | with_reducible apply Wf.sLs | with_reducible apply Wf.cpU | with_reducible apply Wf.fillI | with_reducible apply Wf.clU | with_reducible apply Wf.dnF | with_reducible apply Wf.gbW | with_reducible apply Wf.cpXf | with_reducible apply Wf.cpYf))) (ixn hj (by decide)) ?_
  refine a_wd (show _ = kpW μ j from rfl) ?_
  refine a_aload_n dX11_keep_94 rfl ?_
  refine a_inv (b2 := (0, 0)) (m_phase hwZ hvZ) rfl dX11_keep_95 yk_X11_phase im_X11_phase se_X11_phase ml_X11_106 rfl (co_338 (by repeat (first | with_reducible exact hw | with_reducible exact hwc | with_reducible assumption | with_reducible apply Wf.sI | with_reducible apply Wf.sL | with_reducible apply Wf.cpI | with_reducible apply Wf.cpL | with_reducible apply Wf.cp2 | with_reducible apply Wf.sIs | with_reducible apply Wf.sLs | with_reducible apply Wf.cpU | with_reducible apply Wf.fillI | with_reducible apply Wf.clU | with_reducible apply Wf.dnF | with_reducible apply Wf.gbW | with_reducible apply Wf.cpXf | with_reducible apply Wf.cpYf))) (by decide) hc_X11 (by decide) (by decide) (Nat.le_of_ble_eq_true rfl) ?_
  exact a_out rfl rfl (a_ireturn dX11_keep_98 rfl rfl)
theorem v_keep {S : Nat → Option FDt} (hw : Wf μ) (h : MnV μ q d) (hs : MsV μ q S) {j : Nat} (hj : j < 2) : CV Y_X11_keep R_X11_keep [.ref 338, .int (nI j)] μ (fun v V => v = some (.int (phD q d)) ∧ MsV V q (upS S j d) ∧ Out sKp μ V ∧ gI V 338 0 = 0 ∧ ∀ k, k ≠ 0 → gI V 338 k = gI μ 338 k) := by
  have hc := m_keep_c hw h.1 hj
  obtain ⟨f1, f2, f3, f4, f5, f6⟩ := kp_f hw hj
  revert hc f1 f2 f3 f4 f5 f6
  generalize kpW μ j = Z
  intro hc f1 f2 f3 f4 f5 f6
  refine ⟨_, Z, hc, rfl, fun i hi => ?_, f1, f2, f3⟩
  by_cases e : i = j
  · subst e
    have es : upS S i d i = some d := if_pos rfl
    rw [es]
    refine ⟨by rw [f4, if_pos rfl], h.fit, h.rx.cg h.fit fun k hk => ?_, fun k hk => ?_⟩
    · show gI Z 347 (291 * i + k) = _
      rw [f5, if_pos ⟨by omega, by omega⟩, Nat.add_sub_cancel_left]
    · rw [f6, if_pos ⟨by omega, by omega⟩, Nat.add_sub_cancel_left]; exact h.2.2 k hk
  · have es : upS S j d i = S i := if_neg e
    rw [es]
    have hi2 := hs i hi
    cases eS : S i with
    | none => rw [eS] at hi2; exact (by rw [f4, if_neg e]; exact hi2)
    | some x =>
      rw [eS] at hi2
      obtain ⟨a, b, c, dd⟩ := hi2
      refine ⟨by rw [f4, if_neg e]; exact a, b, c.cg b fun k hk => ?_, fun k hk => ?_⟩
      · show gI Z 347 (291 * i + k) = _
        rw [f5, if_neg (by omega)]
      · rw [f6, if_neg (by omega)]; exact dd k hk

theorem mx_keep (hw : Wf μ) {x : Int32} (h : ixO x 2 = none)  : Ct Y_X11_keep R_X11_keep [.ref 338, .int x] μ (.inl (some (.int (0)))) (sI μ 338 0 1) := by
  refine Ct.ent yk_X11_keep (Nat.le_of_ble_eq_true rfl) ?_
  have h1 : inI x 0 1 = 0 := (inI_ix (x := x) (n := 2) (by decide)).trans (isO_none h)
  refine a_aload_n dX11_keep_0 rfl ?_
  refine a_iload_n dX11_keep_1 rfl ?_
  refine a_iconst (0 : Int32) dX11_keep_2 (by decide) ?_
  refine a_iconst (1 : Int32) dX11_keep_3 (by decide) ?_
  refine a_invS (b2 := (0, 0)) (Ct.int h1 (m_in x 0 1)) rfl dX11_keep_4 yk_X11_in sm_X11_in ml_X11_102 rfl (by decide) (by decide) (Nat.le_of_ble_eq_true rfl) ?_
  refine a_if_eq (tgt := 14) dX11_keep_7 (by decide) (fun h7 => ?_) (fun h7 => absurd h7 (fun z => z rfl))
  refine a_iconst (1 : Int32) dX11_keep_14 (by decide) ?_
  refine a_inv (b2 := (0, 0)) (m_isRefused1 (by repeat (first | with_reducible exact hw | with_reducible exact hwc | with_reducible assumption | with_reducible apply Wf.sI | with_reducible apply Wf.sL | with_reducible apply Wf.cpI | with_reducible apply Wf.cpL | with_reducible apply Wf.cp2 | with_reducible apply Wf.sIs | with_reducible apply Wf.sLs | with_reducible apply Wf.cpU | with_reducible apply Wf.fillI | with_reducible apply Wf.clU | with_reducible apply Wf.dnF | with_reducible apply Wf.gbW | with_reducible apply Wf.cpXf | with_reducible apply Wf.cpYf)) (v := 1) (by decide)) rfl dX11_keep_15 yk_X11_isRefused im_X11_isRefused se_X11_isRefused ml_X11_98 rfl (co_338 (by repeat (first | with_reducible exact hw | with_reducible exact hwc | with_reducible assumption | with_reducible apply Wf.sI | with_reducible apply Wf.sL | with_reducible apply Wf.cpI | with_reducible apply Wf.cpL | with_reducible apply Wf.cp2 | with_reducible apply Wf.sIs | with_reducible apply Wf.sLs | with_reducible apply Wf.cpU | with_reducible apply Wf.fillI | with_reducible apply Wf.clU | with_reducible apply Wf.dnF | with_reducible apply Wf.gbW | with_reducible apply Wf.cpXf | with_reducible apply Wf.cpYf))) (by decide) hc_X11 (by decide) (by decide) (Nat.le_of_ble_eq_true rfl) ?_
  refine a_if_eq (tgt := 23) dX11_keep_18 (by decide) (fun h18 => absurd h18 (by decide)) (fun h18 => ?_)
  refine a_iconst (0 : Int32) dX11_keep_21 (by decide) ?_
  exact a_out rfl rfl (a_ireturn dX11_keep_22 rfl rfl)
abbrev R_X11_restore : Room := { frames := 1, cells := 0, slots := 0, locals := 22 }
abbrev RX_X11_restore : Room := { frames := 1, cells := 1, slots := 6, locals := 22 }

theorem l_X11_restore_38 (hw : Wf W) {j : Nat} (hj : j < 2) {oc : Oc} {μ1 : Wd} (kx : AW Y_X11_restore R_X11_restore (0, 0) (cpX W 347 (291 * j) 344 (0) 291) 69 [(0, .ref 338), (1, .int (nI j)), (2, .int (nI 291))] [] oc μ1) : ∀ dd m, m + dd = 291 → AW Y_X11_restore R_X11_restore (0, 0) (cpX W 347 (291 * j) 344 (0) m) 38 [(0, .ref 338), (1, .int (nI j)), (2, .int (nI m))] [] oc μ1 := by
  intro dd
  induction dd with
  | zero =>
    intro m hm
    obtain rfl : 291 = m := by omega
    refine a_iload_n dX11_restore_38 rfl ?_
    refine a_sipush (291 : Int32) dX11_restore_39 (by decide) ?_
    refine a_icmp_ge (tgt := 69) dX11_restore_42 (by decide) (fun h42 => ?_) (fun h42 => absurd h42 (fun z => z (nI_le (b := 291) (Nat.le_refl _) (by decide))))
    exact a_loc _ rfl kx
  | succ dd ih =>
    intro m hm
    have qih := ih (m + 1) (by omega)
    rw [← cpX_succ] at qih
    refine a_iload_n dX11_restore_38 rfl ?_
    refine a_sipush (291 : Int32) dX11_restore_39 (by decide) ?_
    refine a_icmp_ge (tgt := 69) dX11_restore_42 (by decide) (fun h42 => absurd h42 (nI_ge (b := 291) (show m < 291 by omega) (by decide))) (fun h42 => ?_)
    refine a_aload_n dX11_restore_45 rfl ?_
    refine a_getR (cr_338_6 (by repeat (first | with_reducible exact hw | with_reducible exact hwc | with_reducible assumption | with_reducible apply Wf.sI | with_reducible apply Wf.sL | with_reducible apply Wf.cpI | with_reducible apply Wf.cpL | with_reducible apply Wf.cp2 | with_reducible apply Wf.sIs | with_reducible apply Wf.sLs | with_reducible apply Wf.cpU | with_reducible apply Wf.fillI | with_reducible apply Wf.clU | with_reducible apply Wf.dnF | with_reducible apply Wf.gbW | with_reducible apply Wf.cpXf | with_reducible apply Wf.cpYf))) dX11_restore_46 fs_X11_26 rfl (co_338 (by repeat (first | with_reducible exact hw | with_reducible exact hwc | with_reducible assumption | with_reducible apply Wf.sI | with_reducible apply Wf.sL | with_reducible apply Wf.cpI | with_reducible apply Wf.cpL | with_reducible apply Wf.cp2 | with_reducible apply Wf.sIs | with_reducible apply Wf.sLs | with_reducible apply Wf.cpU | with_reducible apply Wf.fillI | with_reducible apply Wf.clU | with_reducible apply Wf.dnF | with_reducible apply Wf.gbW | with_reducible apply Wf.cpXf | with_reducible apply Wf.cpYf))) ?_
    refine a_iload_n dX11_restore_49 rfl ?_
    refine a_aload_n dX11_restore_50 rfl ?_
    refine a_getR (cr_338_9 (by repeat (first | with_reducible exact hw | with_reducible exact hwc | with_reducible assumption | with_reducible apply Wf.sI | with_reducible apply Wf.sL | with_reducible apply Wf.cpI | with_reducible apply Wf.cpL | with_reducible apply Wf.cp2 | with_reducible apply Wf.sIs | with_reducible apply Wf.sLs | with_reducible apply Wf.cpU | with_reducible apply Wf.fillI | with_reducible apply Wf.clU | with_reducible apply Wf.dnF | with_reducible apply Wf.gbW | with_reducible apply Wf.cpXf | with_reducible apply Wf.cpYf))) dX11_restore_51 fs_X11_35 rfl (co_338 (by repeat (first | with_reducible exact hw | with_reducible exact hwc | with_reducible assumption | with_reducible apply Wf.sI | with_reducible apply Wf.sL | with_reducible apply Wf.cpI | with_reducible apply Wf.cpL | with_reducible apply Wf.cp2 | with_reducible apply Wf.sIs | with_reducible apply Wf.sLs | with_reducible apply Wf.cpU | with_reducible apply Wf.fillI | with_reducible apply Wf.clU | with_reducible apply Wf.dnF | with_reducible apply Wf.gbW | with_reducible apply Wf.cpXf | with_reducible apply Wf.cpYf))) ?_
    refine a_sipush (291 : Int32) dX11_restore_54 (by decide) ?_
    refine a_iload_n dX11_restore_57 rfl ?_
    refine a_imul dX11_restore_58 ?_
    refine a_iload_n dX11_restore_59 rfl ?_
    refine a_iadd dX11_restore_60 ?_
    rw [show (291 : Int32) * nI j + nI m = nI (291 * j + m) from ixr 291 j m]
    refine a_ild dX11_restore_61 (ca_347 (by repeat (first | with_reducible exact hw | with_reducible exact hwc | with_reducible assumption | with_reducible apply Wf.sI | with_reducible apply Wf.sL | with_reducible apply Wf.cpI | with_reducible apply Wf.cpL | with_reducible apply Wf.cp2 | with_reducible apply Wf.sIs | with_reducible apply Wf.sLs | with_reducible apply Wf.cpU | with_reducible apply Wf.fillI | with_reducible apply Wf.clU | with_reducible apply Wf.dnF | with_reducible apply Wf.gbW | with_reducible apply Wf.cpXf | with_reducible apply Wf.cpYf))) (ixn (show 291 * j + m < 582 by omega) (by decide)) ?_
    rw [cpX_rd (Or.inl (by decide))]
    refine a_ist dX11_restore_62 (ca_344 (by repeat (first | with_reducible exact hw | with_reducible exact hwc | with_reducible assumption | with_reducible apply Wf.sI | with_reducible apply Wf.sL | with_reducible apply Wf.cpI | with_reducible apply Wf.cpL | with_reducible apply Wf.cp2 | with_reducible apply Wf.sIs | with_reducible apply Wf.sLs | with_reducible apply Wf.cpU | with_reducible apply Wf.fillI | with_reducible apply Wf.clU | with_reducible apply Wf.dnF | with_reducible apply Wf.gbW | with_reducible apply Wf.cpXf | with_reducible apply Wf.cpYf))) (ix0 (show m < 291 by omega) (by decide)) ?_
    refine a_iincN dX11_restore_63 rfl (by decide) ?_
    refine a_goto (tgt := 38) dX11_restore_66 (by decide) ?_
    exact a_loc _ rfl qih

theorem l_X11_restore_71 (hw : Wf W) {j : Nat} (hj : j < 2) {oc : Oc} {μ1 : Wd} (kx : AW Y_X11_restore R_X11_restore (0, 0) (cpY W 350 (6 * j) 348 (0) 6) 100 [(0, .ref 338), (1, .int (nI j)), (2, .int (nI 6))] [] oc μ1) : ∀ dd m, m + dd = 6 → AW Y_X11_restore R_X11_restore (0, 0) (cpY W 350 (6 * j) 348 (0) m) 71 [(0, .ref 338), (1, .int (nI j)), (2, .int (nI m))] [] oc μ1 := by
  intro dd
  induction dd with
  | zero =>
    intro m hm
    obtain rfl : 6 = m := by omega
    refine a_iload_n dX11_restore_71 rfl ?_
    refine a_bipush (6 : Int32) dX11_restore_72 (by decide) ?_
    refine a_icmp_ge (tgt := 100) dX11_restore_74 (by decide) (fun h74 => ?_) (fun h74 => absurd h74 (fun z => z (nI_le (b := 6) (Nat.le_refl _) (by decide))))
    exact a_loc _ rfl kx
  | succ dd ih =>
    intro m hm
    have qih := ih (m + 1) (by omega)
    rw [← cpY_succ] at qih
    refine a_iload_n dX11_restore_71 rfl ?_
    refine a_bipush (6 : Int32) dX11_restore_72 (by decide) ?_
    refine a_icmp_ge (tgt := 100) dX11_restore_74 (by decide) (fun h74 => absurd h74 (nI_ge (b := 6) (show m < 6 by omega) (by decide))) (fun h74 => ?_)
    refine a_aload_n dX11_restore_77 rfl ?_
    refine a_getR (cr_338_10 (by repeat (first | with_reducible exact hw | with_reducible exact hwc | with_reducible assumption | with_reducible apply Wf.sI | with_reducible apply Wf.sL | with_reducible apply Wf.cpI | with_reducible apply Wf.cpL | with_reducible apply Wf.cp2 | with_reducible apply Wf.sIs | with_reducible apply Wf.sLs | with_reducible apply Wf.cpU | with_reducible apply Wf.fillI | with_reducible apply Wf.clU | with_reducible apply Wf.dnF | with_reducible apply Wf.gbW | with_reducible apply Wf.cpXf | with_reducible apply Wf.cpYf))) dX11_restore_78 fs_X11_38 rfl (co_338 (by repeat (first | with_reducible exact hw | with_reducible exact hwc | with_reducible assumption | with_reducible apply Wf.sI | with_reducible apply Wf.sL | with_reducible apply Wf.cpI | with_reducible apply Wf.cpL | with_reducible apply Wf.cp2 | with_reducible apply Wf.sIs | with_reducible apply Wf.sLs | with_reducible apply Wf.cpU | with_reducible apply Wf.fillI | with_reducible apply Wf.clU | with_reducible apply Wf.dnF | with_reducible apply Wf.gbW | with_reducible apply Wf.cpXf | with_reducible apply Wf.cpYf))) ?_
    refine a_iload_n dX11_restore_81 rfl ?_
    refine a_aload_n dX11_restore_82 rfl ?_
    refine a_getR (cr_338_12 (by repeat (first | with_reducible exact hw | with_reducible exact hwc | with_reducible assumption | with_reducible apply Wf.sI | with_reducible apply Wf.sL | with_reducible apply Wf.cpI | with_reducible apply Wf.cpL | with_reducible apply Wf.cp2 | with_reducible apply Wf.sIs | with_reducible apply Wf.sLs | with_reducible apply Wf.cpU | with_reducible apply Wf.fillI | with_reducible apply Wf.clU | with_reducible apply Wf.dnF | with_reducible apply Wf.gbW | with_reducible apply Wf.cpXf | with_reducible apply Wf.cpYf))) dX11_restore_83 fs_X11_44 rfl (co_338 (by repeat (first | with_reducible exact hw | with_reducible exact hwc | with_reducible assumption | with_reducible apply Wf.sI | with_reducible apply Wf.sL | with_reducible apply Wf.cpI | with_reducible apply Wf.cpL | with_reducible apply Wf.cp2 | with_reducible apply Wf.sIs | with_reducible apply Wf.sLs | with_reducible apply Wf.cpU | with_reducible apply Wf.fillI | with_reducible apply Wf.clU | with_reducible apply Wf.dnF | with_reducible apply Wf.gbW | with_reducible apply Wf.cpXf | with_reducible apply Wf.cpYf))) ?_
    refine a_bipush (6 : Int32) dX11_restore_86 (by decide) ?_
    refine a_iload_n dX11_restore_88 rfl ?_
    refine a_imul dX11_restore_89 ?_
    refine a_iload_n dX11_restore_90 rfl ?_
    refine a_iadd dX11_restore_91 ?_
    rw [show (6 : Int32) * nI j + nI m = nI (6 * j + m) from ixr 6 j m]
    refine a_lld dX11_restore_92 (ca_350 (by repeat (first | with_reducible exact hw | with_reducible exact hwc | with_reducible assumption | with_reducible apply Wf.sI | with_reducible apply Wf.sL | with_reducible apply Wf.cpI | with_reducible apply Wf.cpL | with_reducible apply Wf.cp2 | with_reducible apply Wf.sIs | with_reducible apply Wf.sLs | with_reducible apply Wf.cpU | with_reducible apply Wf.fillI | with_reducible apply Wf.clU | with_reducible apply Wf.dnF | with_reducible apply Wf.gbW | with_reducible apply Wf.cpXf | with_reducible apply Wf.cpYf))) (ixn (show 6 * j + m < 12 by omega) (by decide)) ?_
    rw [cpY_rd (Or.inl (by decide))]
    refine a_lst dX11_restore_93 (ca_348 (by repeat (first | with_reducible exact hw | with_reducible exact hwc | with_reducible assumption | with_reducible apply Wf.sI | with_reducible apply Wf.sL | with_reducible apply Wf.cpI | with_reducible apply Wf.cpL | with_reducible apply Wf.cp2 | with_reducible apply Wf.sIs | with_reducible apply Wf.sLs | with_reducible apply Wf.cpU | with_reducible apply Wf.fillI | with_reducible apply Wf.clU | with_reducible apply Wf.dnF | with_reducible apply Wf.gbW | with_reducible apply Wf.cpXf | with_reducible apply Wf.cpYf))) (ix0 (show m < 6 by omega) (by decide)) ?_
    refine a_iincN dX11_restore_94 rfl (by decide) ?_
    refine a_goto (tgt := 71) dX11_restore_97 (by decide) ?_
    exact a_loc _ rfl qih
def rsW (μ : Wd) (j : Nat) : Wd := sI (cpY (cpX (sI μ 338 0 0) 347 (291 * j) 344 0 291) 350 (6 * j) 348 0 6) 338 14 0
theorem rso_f (hw : Wf μ) {j : Nat} (hj : j < 2) : Out sUn μ (rsW μ j) ∧ gI (rsW μ j) 338 14 = 0 ∧ gI (rsW μ j) 338 0 = 0 ∧ (∀ k, k ≠ 14 → k ≠ 0 → gI (rsW μ j) 338 k = gI μ 338 k) ∧ (∀ x, x < 291 → gI (rsW μ j) 344 x = gI μ 347 (291 * j + x)) ∧ ∀ x, x < 6 → gL (rsW μ j) 348 x = gL μ 350 (6 * j + x) := by
  unfold rsW
  refine ⟨((((Out.rfl' hw).sI (S := sUn) (Or.inl rfl) _ _).cpXo (S := sUn) (Or.inr (Or.inl rfl))).cpYo (S := sUn) (Or.inr (Or.inr rfl))).sI (S := sUn) (Or.inl rfl) _ _, ?_, ?_, fun k h1 h2 => ?_, fun x hx => ?_, fun x hx => ?_⟩
  · rw [gI_sI, if_pos ⟨rfl, rfl⟩]
  · rw [gI_sI, if_neg (by omega), gI_cpY, gI_cpX, if_neg (by omega), gI_sI, if_pos ⟨rfl, rfl⟩]
  · rw [gI_sI, if_neg (by omega), gI_cpY, gI_cpX, if_neg (by omega), gI_sI, if_neg (by omega)]
  · rw [gI_sI, if_neg (by omega), gI_cpY, gI_cpX, if_pos ⟨rfl, by omega, by omega⟩, gI_sI, if_neg (by omega)]
    congr 1
    omega
  · rw [gL_sI, gL_cpY, if_pos ⟨rfl, by omega, by omega⟩, gL_cpX, gL_sI]
    congr 1
    omega
theorem m_restore_c (hw : Wf μ) {j : Nat} (hj : j < 2) (hk1 : gI μ 351 j = 1) (hvZ : MdV (rsW μ j) q d) : Ct Y_X11_restore R_X11_restore [.ref 338, .int (nI j)] μ (.inl (some (.int (phD q d)))) (rsW μ j) := by
  have h1 : inI (nI j) 0 1 = 1 := (inI_ix (x := nI j) (n := 2) (by decide)).trans (isO_lt hj (by decide))
  have hwA : Wf (sI μ 338 0 0) := hw.sI
  have hwZ : Wf (rsW μ j) := hwA.cpXf.cpYf.sI
  refine Ct.ent yk_X11_restore (Nat.le_of_ble_eq_true rfl) ?_
  refine a_aload_n dX11_restore_0 rfl ?_
  refine a_iload_n dX11_restore_1 rfl ?_
  refine a_iconst (0 : Int32) dX11_restore_2 (by decide) ?_
  refine a_iconst (1 : Int32) dX11_restore_3 (by decide) ?_
  refine a_invS (b2 := (0, 0)) (Ct.int h1 (m_in (nI j) 0 1)) rfl dX11_restore_4 yk_X11_in sm_X11_in ml_X11_102 rfl (by decide) (by decide) (Nat.le_of_ble_eq_true rfl) ?_
  refine a_if_ne (tgt := 14) dX11_restore_7 (by decide) (fun h7 => ?_) (fun h7 => absurd h7 (by decide))
  refine a_aload_n dX11_restore_14 rfl ?_
  refine a_getR (cr_338_13 (by repeat (first | with_reducible exact hw | with_reducible exact hwc | with_reducible assumption | with_reducible apply Wf.sI | with_reducible apply Wf.sL | with_reducible apply Wf.cpI | with_reducible apply Wf.cpL | with_reducible apply Wf.cp2 | with_reducible apply Wf.sIs | with_reducible apply Wf.sLs | with_reducible apply Wf.cpU | with_reducible apply Wf.fillI | with_reducible apply Wf.clU | with_reducible apply Wf.dnF | with_reducible apply Wf.gbW | with_reducible apply Wf.cpXf | with_reducible apply Wf.cpYf))) dX11_restore_15 fs_X11_47 rfl (co_338 (by repeat (first | with_reducible exact hw | with_reducible exact hwc | with_reducible assumption | with_reducible apply Wf.sI | with_reducible apply Wf.sL | with_reducible apply Wf.cpI | with_reducible apply Wf.cpL | with_reducible apply Wf.cp2 | with_reducible apply Wf.sIs | with_reducible apply Wf.sLs | with_reducible apply Wf.cpU | with_reducible apply Wf.fillI | with_reducible apply Wf.clU | with_reducible apply Wf.dnF | with_reducible apply Wf.gbW | with_reducible apply Wf.cpXf | with_reducible apply Wf.cpYf))) ?_
  refine a_iload_n dX11_restore_18 rfl ?_
  refine a_zld dX11_restore_19 (ca_351 (by repeat (first | with_reducible exact hw | with_reducible exact hwc | with_reducible assumption | with_reducible apply Wf.sI | with_reducible apply Wf.sL | with_reducible apply Wf.cpI | with_reducible apply Wf.cpL | with_reducible apply Wf.cp2 | with_reducible apply Wf.sIs | with_reducible apply Wf.sLs | with_reducible apply Wf.cpU | with_reducible apply Wf.fillI | with_reducible apply Wf.clU | with_reducible apply Wf.dnF | with_reducible apply Wf.gbW | with_reducible apply Wf.cpXf | with_reducible apply Wf.cpYf))) (ixn hj (by decide)) ?_
  rw [hk1]
  refine a_if_eq (tgt := 27) dX11_restore_20 (by decide) (fun h20 => absurd h20 (by decide)) (fun h20 => ?_)
  refine a_iconst (0 : Int32) dX11_restore_23 (by decide) ?_
  refine a_goto (tgt := 28) dX11_restore_24 (by decide) ?_
  refine a_inv (b2 := (0, 0)) (m_isRefused0 (by repeat (first | with_reducible exact hw | with_reducible exact hwc | with_reducible assumption | with_reducible apply Wf.sI | with_reducible apply Wf.sL | with_reducible apply Wf.cpI | with_reducible apply Wf.cpL | with_reducible apply Wf.cp2 | with_reducible apply Wf.sIs | with_reducible apply Wf.sLs | with_reducible apply Wf.cpU | with_reducible apply Wf.fillI | with_reducible apply Wf.clU | with_reducible apply Wf.dnF | with_reducible apply Wf.gbW | with_reducible apply Wf.cpXf | with_reducible apply Wf.cpYf))) rfl dX11_restore_28 yk_X11_isRefused im_X11_isRefused se_X11_isRefused ml_X11_98 rfl (co_338 (by repeat (first | with_reducible exact hw | with_reducible exact hwc | with_reducible assumption | with_reducible apply Wf.sI | with_reducible apply Wf.sL | with_reducible apply Wf.cpI | with_reducible apply Wf.cpL | with_reducible apply Wf.cp2 | with_reducible apply Wf.sIs | with_reducible apply Wf.sLs | with_reducible apply Wf.cpU | with_reducible apply Wf.fillI | with_reducible apply Wf.clU | with_reducible apply Wf.dnF | with_reducible apply Wf.gbW | with_reducible apply Wf.cpXf | with_reducible apply Wf.cpYf))) (by decide) hc_X11 (by decide) (by decide) (Nat.le_of_ble_eq_true rfl) ?_
  refine a_if_eq (tgt := 36) dX11_restore_31 (by decide) (fun h31 => ?_) (fun h31 => absurd h31 (fun z => z rfl))
  refine a_iconst (0 : Int32) dX11_restore_36 (by decide) ?_
  refine a_istore_n dX11_restore_37 (by decide) ?_
  refine a_wd (cpX_zero (sI μ 338 0 0) 347 (291 * j) 344 0).symm (a_loc [(0, .ref 338), (1, .int (nI j)), (2, .int (nI 0))] rfl (l_X11_restore_38 hwA hj ?_ 291 0 rfl))
  refine a_iconst (0 : Int32) dX11_restore_69 (by decide) ?_
  refine a_istore_n dX11_restore_70 (by decide) ?_
  refine a_wd (cpY_zero (cpX (sI μ 338 0 0) 347 (291 * j) 344 0 291) 350 (6 * j) 348 0).symm (a_loc [(0, .ref 338), (1, .int (nI j)), (2, .int (nI 0))] rfl (l_X11_restore_71 hwA.cpXf hj ?_ 6 0 rfl))
  refine a_aload_n dX11_restore_100 rfl ?_
  refine a_iconst (0 : Int32) dX11_restore_101 (by decide) ?_
  refine a_putI dX11_restore_102 fs_X11_95 rfl rfl rfl (co_338 (by repeat (first | with_reducible exact hw | with_reducible exact hwc | with_reducible assumption | with_reducible apply Wf.sI | with_reducible apply Wf.sL | with_reducible apply Wf.cpI | with_reducible apply Wf.cpL | with_reducible apply Wf.cp2 | with_reducible apply Wf.sIs | with_reducible apply Wf.sLs | with_reducible apply Wf.cpU | with_reducible apply Wf.fillI | with_reducible apply Wf.clU | with_reducible apply Wf.dnF | with_reducible apply Wf.gbW | with_reducible apply Wf.cpXf | with_reducible apply Wf.cpYf))) ?_
  refine a_wd (show _ = rsW μ j from rfl) ?_
  refine a_aload_n dX11_restore_105 rfl ?_
  refine a_inv (b2 := (0, 0)) (m_phase hwZ hvZ) rfl dX11_restore_106 yk_X11_phase im_X11_phase se_X11_phase ml_X11_106 rfl (co_338 (by repeat (first | with_reducible exact hw | with_reducible exact hwc | with_reducible assumption | with_reducible apply Wf.sI | with_reducible apply Wf.sL | with_reducible apply Wf.cpI | with_reducible apply Wf.cpL | with_reducible apply Wf.cp2 | with_reducible apply Wf.sIs | with_reducible apply Wf.sLs | with_reducible apply Wf.cpU | with_reducible apply Wf.fillI | with_reducible apply Wf.clU | with_reducible apply Wf.dnF | with_reducible apply Wf.gbW | with_reducible apply Wf.cpXf | with_reducible apply Wf.cpYf))) (by decide) hc_X11 (by decide) (by decide) (Nat.le_of_ble_eq_true rfl) ?_
  exact a_out rfl rfl (a_ireturn dX11_restore_109 rfl rfl)
theorem v_restore {S : Nat → Option FDt} (hw : Wf μ) (hm : MdV μ q d) (hs : MsV μ q S) {j : Nat} (hj : j < 2) (eS : S j = some e) : CV Y_X11_restore R_X11_restore [.ref 338, .int (nI j)] μ (fun v V => v = some (.int (phD q e)) ∧ MnV V q e ∧ (∀ f, MpV V q (0, f)) ∧ Out sUn μ V ∧ gI V 338 0 = 0 ∧ ∀ k, k ≠ 14 → k ≠ 0 → gI V 338 k = gI μ 338 k) := by
  have hsj := hs j hj
  rw [eS] at hsj
  obtain ⟨a, b, c, dd⟩ := hsj
  obtain ⟨f1, f2, f3, f4, f5, f6⟩ := rso_f hw hj
  have e9 : gI (rsW μ j) 339 = gI μ 339 := funext (f1.i (fun z => by rcases z with z | z | z <;> omega))
  have hn : MnV (rsW μ j) q e := MnV.of (by rw [e9]; exact hm.2.2.1) b (c.cg b fun k hk => f5 k hk) (fun k hk => (f6 k hk).trans (dd k hk))
  have hc := m_restore_c hw hj a hn.1
  exact ⟨_, _, hc, rfl, hn, fun f => ⟨f2, Nat.zero_le _, fun i (hi : i < 0) => absurd hi (Nat.not_lt_zero i)⟩, f1, f3, f4⟩

theorem mx_restore (hw : Wf μ) {x : Int32} (h : ixO x 2 = none)  : Ct Y_X11_restore R_X11_restore [.ref 338, .int x] μ (.inl (some (.int (0)))) (sI μ 338 0 1) := by
  refine Ct.ent yk_X11_restore (Nat.le_of_ble_eq_true rfl) ?_
  have h1 : inI x 0 1 = 0 := (inI_ix (x := x) (n := 2) (by decide)).trans (isO_none h)
  refine a_aload_n dX11_restore_0 rfl ?_
  refine a_iload_n dX11_restore_1 rfl ?_
  refine a_iconst (0 : Int32) dX11_restore_2 (by decide) ?_
  refine a_iconst (1 : Int32) dX11_restore_3 (by decide) ?_
  refine a_invS (b2 := (0, 0)) (Ct.int h1 (m_in x 0 1)) rfl dX11_restore_4 yk_X11_in sm_X11_in ml_X11_102 rfl (by decide) (by decide) (Nat.le_of_ble_eq_true rfl) ?_
  refine a_if_ne (tgt := 14) dX11_restore_7 (by decide) (fun h7 => absurd h7 (fun z => z rfl)) (fun h7 => ?_)
  refine a_iconst (1 : Int32) dX11_restore_10 (by decide) ?_
  refine a_goto (tgt := 28) dX11_restore_11 (by decide) ?_
  refine a_inv (b2 := (0, 0)) (m_isRefused1 (by repeat (first | with_reducible exact hw | with_reducible exact hwc | with_reducible assumption | with_reducible apply Wf.sI | with_reducible apply Wf.sL | with_reducible apply Wf.cpI | with_reducible apply Wf.cpL | with_reducible apply Wf.cp2 | with_reducible apply Wf.sIs | with_reducible apply Wf.sLs | with_reducible apply Wf.cpU | with_reducible apply Wf.fillI | with_reducible apply Wf.clU | with_reducible apply Wf.dnF | with_reducible apply Wf.gbW | with_reducible apply Wf.cpXf | with_reducible apply Wf.cpYf)) (v := 1) (by decide)) rfl dX11_restore_28 yk_X11_isRefused im_X11_isRefused se_X11_isRefused ml_X11_98 rfl (co_338 (by repeat (first | with_reducible exact hw | with_reducible exact hwc | with_reducible assumption | with_reducible apply Wf.sI | with_reducible apply Wf.sL | with_reducible apply Wf.cpI | with_reducible apply Wf.cpL | with_reducible apply Wf.cp2 | with_reducible apply Wf.sIs | with_reducible apply Wf.sLs | with_reducible apply Wf.cpU | with_reducible apply Wf.fillI | with_reducible apply Wf.clU | with_reducible apply Wf.dnF | with_reducible apply Wf.gbW | with_reducible apply Wf.cpXf | with_reducible apply Wf.cpYf))) (by decide) hc_X11 (by decide) (by decide) (Nat.le_of_ble_eq_true rfl) ?_
  refine a_if_eq (tgt := 36) dX11_restore_31 (by decide) (fun h31 => absurd h31 (by decide)) (fun h31 => ?_)
  refine a_iconst (0 : Int32) dX11_restore_34 (by decide) ?_
  exact a_out rfl rfl (a_ireturn dX11_restore_35 rfl rfl)

theorem my_restore (hw : Wf μ) {j : Nat} (hj : j < 2) (h0 : gI μ 351 j = 0)  : Ct Y_X11_restore R_X11_restore [.ref 338, .int (nI j)] μ (.inl (some (.int (0)))) (sI μ 338 0 2) := by
  refine Ct.ent yk_X11_restore (Nat.le_of_ble_eq_true rfl) ?_
  have h1 : inI (nI j) 0 1 = 1 := (inI_ix (x := nI j) (n := 2) (by decide)).trans (isO_lt hj (by decide))
  refine a_aload_n dX11_restore_0 rfl ?_
  refine a_iload_n dX11_restore_1 rfl ?_
  refine a_iconst (0 : Int32) dX11_restore_2 (by decide) ?_
  refine a_iconst (1 : Int32) dX11_restore_3 (by decide) ?_
  refine a_invS (b2 := (0, 0)) (Ct.int h1 (m_in (nI j) 0 1)) rfl dX11_restore_4 yk_X11_in sm_X11_in ml_X11_102 rfl (by decide) (by decide) (Nat.le_of_ble_eq_true rfl) ?_
  refine a_if_ne (tgt := 14) dX11_restore_7 (by decide) (fun h7 => ?_) (fun h7 => absurd h7 (by decide))
  refine a_aload_n dX11_restore_14 rfl ?_
  refine a_getR (cr_338_13 (by repeat (first | with_reducible exact hw | with_reducible exact hwc | with_reducible assumption | with_reducible apply Wf.sI | with_reducible apply Wf.sL | with_reducible apply Wf.cpI | with_reducible apply Wf.cpL | with_reducible apply Wf.cp2 | with_reducible apply Wf.sIs | with_reducible apply Wf.sLs | with_reducible apply Wf.cpU | with_reducible apply Wf.fillI | with_reducible apply Wf.clU | with_reducible apply Wf.dnF | with_reducible apply Wf.gbW | with_reducible apply Wf.cpXf | with_reducible apply Wf.cpYf))) dX11_restore_15 fs_X11_47 rfl (co_338 (by repeat (first | with_reducible exact hw | with_reducible exact hwc | with_reducible assumption | with_reducible apply Wf.sI | with_reducible apply Wf.sL | with_reducible apply Wf.cpI | with_reducible apply Wf.cpL | with_reducible apply Wf.cp2 | with_reducible apply Wf.sIs | with_reducible apply Wf.sLs | with_reducible apply Wf.cpU | with_reducible apply Wf.fillI | with_reducible apply Wf.clU | with_reducible apply Wf.dnF | with_reducible apply Wf.gbW | with_reducible apply Wf.cpXf | with_reducible apply Wf.cpYf))) ?_
  refine a_iload_n dX11_restore_18 rfl ?_
  refine a_zld dX11_restore_19 (ca_351 (by repeat (first | with_reducible exact hw | with_reducible exact hwc | with_reducible assumption | with_reducible apply Wf.sI | with_reducible apply Wf.sL | with_reducible apply Wf.cpI | with_reducible apply Wf.cpL | with_reducible apply Wf.cp2 | with_reducible apply Wf.sIs | with_reducible apply Wf.sLs | with_reducible apply Wf.cpU | with_reducible apply Wf.fillI | with_reducible apply Wf.clU | with_reducible apply Wf.dnF | with_reducible apply Wf.gbW | with_reducible apply Wf.cpXf | with_reducible apply Wf.cpYf))) (ixn hj (by decide)) ?_
  rw [h0]
  refine a_if_eq (tgt := 27) dX11_restore_20 (by decide) (fun h20 => ?_) (fun h20 => absurd h20 (fun z => z rfl))
  refine a_iconst (2 : Int32) dX11_restore_27 (by decide) ?_
  refine a_inv (b2 := (0, 0)) (m_isRefused1 (by repeat (first | with_reducible exact hw | with_reducible exact hwc | with_reducible assumption | with_reducible apply Wf.sI | with_reducible apply Wf.sL | with_reducible apply Wf.cpI | with_reducible apply Wf.cpL | with_reducible apply Wf.cp2 | with_reducible apply Wf.sIs | with_reducible apply Wf.sLs | with_reducible apply Wf.cpU | with_reducible apply Wf.fillI | with_reducible apply Wf.clU | with_reducible apply Wf.dnF | with_reducible apply Wf.gbW | with_reducible apply Wf.cpXf | with_reducible apply Wf.cpYf)) (v := 2) (by decide)) rfl dX11_restore_28 yk_X11_isRefused im_X11_isRefused se_X11_isRefused ml_X11_98 rfl (co_338 (by repeat (first | with_reducible exact hw | with_reducible exact hwc | with_reducible assumption | with_reducible apply Wf.sI | with_reducible apply Wf.sL | with_reducible apply Wf.cpI | with_reducible apply Wf.cpL | with_reducible apply Wf.cp2 | with_reducible apply Wf.sIs | with_reducible apply Wf.sLs | with_reducible apply Wf.cpU | with_reducible apply Wf.fillI | with_reducible apply Wf.clU | with_reducible apply Wf.dnF | with_reducible apply Wf.gbW | with_reducible apply Wf.cpXf | with_reducible apply Wf.cpYf))) (by decide) hc_X11 (by decide) (by decide) (Nat.le_of_ble_eq_true rfl) ?_
  refine a_if_eq (tgt := 36) dX11_restore_31 (by decide) (fun h31 => absurd h31 (by decide)) (fun h31 => ?_)
  refine a_iconst (0 : Int32) dX11_restore_34 (by decide) ?_
  exact a_out rfl rfl (a_ireturn dX11_restore_35 rfl rfl)
abbrev R_X11_takesFlight : Room := { frames := 0, cells := 0, slots := 0, locals := 0 }
abbrev RX_X11_takesFlight : Room := { frames := 0, cells := 1, slots := 6, locals := 0 }

theorem l_X11_takesFlight_2 (hw : Wf W) {oc : Oc} {μ1 : Wd} (kx : AW Y_X11_takesFlight R_X11_takesFlight (0, 0) (cpX W 340 (0) 339 (0) 89) 26 [(0, .ref 338), (1, .int (nI 89))] [] oc μ1) : ∀ dd m, m + dd = 89 → AW Y_X11_takesFlight R_X11_takesFlight (0, 0) (cpX W 340 (0) 339 (0) m) 2 [(0, .ref 338), (1, .int (nI m))] [] oc μ1 := by
  intro dd
  induction dd with
  | zero =>
    intro m hm
    obtain rfl : 89 = m := by omega
    refine a_iload_n dX11_takesFlight_2 rfl ?_
    refine a_bipush (89 : Int32) dX11_takesFlight_3 (by decide) ?_
    refine a_icmp_ge (tgt := 26) dX11_takesFlight_5 (by decide) (fun h5 => ?_) (fun h5 => absurd h5 (fun z => z (nI_le (b := 89) (Nat.le_refl _) (by decide))))
    exact a_loc _ rfl kx
  | succ dd ih =>
    intro m hm
    have qih := ih (m + 1) (by omega)
    rw [← cpX_succ] at qih
    refine a_iload_n dX11_takesFlight_2 rfl ?_
    refine a_bipush (89 : Int32) dX11_takesFlight_3 (by decide) ?_
    refine a_icmp_ge (tgt := 26) dX11_takesFlight_5 (by decide) (fun h5 => absurd h5 (nI_ge (b := 89) (show m < 89 by omega) (by decide))) (fun h5 => ?_)
    refine a_aload_n dX11_takesFlight_8 rfl ?_
    refine a_getR (cr_338_1 (by repeat (first | with_reducible exact hw | with_reducible exact hwc | with_reducible assumption | with_reducible apply Wf.sI | with_reducible apply Wf.sL | with_reducible apply Wf.cpI | with_reducible apply Wf.cpL | with_reducible apply Wf.cp2 | with_reducible apply Wf.sIs | with_reducible apply Wf.sLs | with_reducible apply Wf.cpU | with_reducible apply Wf.fillI | with_reducible apply Wf.clU | with_reducible apply Wf.dnF | with_reducible apply Wf.gbW | with_reducible apply Wf.cpXf | with_reducible apply Wf.cpYf))) dX11_takesFlight_9 fs_X11_7 rfl (co_338 (by repeat (first | with_reducible exact hw | with_reducible exact hwc | with_reducible assumption | with_reducible apply Wf.sI | with_reducible apply Wf.sL | with_reducible apply Wf.cpI | with_reducible apply Wf.cpL | with_reducible apply Wf.cp2 | with_reducible apply Wf.sIs | with_reducible apply Wf.sLs | with_reducible apply Wf.cpU | with_reducible apply Wf.fillI | with_reducible apply Wf.clU | with_reducible apply Wf.dnF | with_reducible apply Wf.gbW | with_reducible apply Wf.cpXf | with_reducible apply Wf.cpYf))) ?_
    refine a_iload_n dX11_takesFlight_12 rfl ?_
    refine a_aload_n dX11_takesFlight_13 rfl ?_
    refine a_getR (cr_338_2 (by repeat (first | with_reducible exact hw | with_reducible exact hwc | with_reducible assumption | with_reducible apply Wf.sI | with_reducible apply Wf.sL | with_reducible apply Wf.cpI | with_reducible apply Wf.cpL | with_reducible apply Wf.cp2 | with_reducible apply Wf.sIs | with_reducible apply Wf.sLs | with_reducible apply Wf.cpU | with_reducible apply Wf.fillI | with_reducible apply Wf.clU | with_reducible apply Wf.dnF | with_reducible apply Wf.gbW | with_reducible apply Wf.cpXf | with_reducible apply Wf.cpYf))) dX11_takesFlight_14 fs_X11_13 rfl (co_338 (by repeat (first | with_reducible exact hw | with_reducible exact hwc | with_reducible assumption | with_reducible apply Wf.sI | with_reducible apply Wf.sL | with_reducible apply Wf.cpI | with_reducible apply Wf.cpL | with_reducible apply Wf.cp2 | with_reducible apply Wf.sIs | with_reducible apply Wf.sLs | with_reducible apply Wf.cpU | with_reducible apply Wf.fillI | with_reducible apply Wf.clU | with_reducible apply Wf.dnF | with_reducible apply Wf.gbW | with_reducible apply Wf.cpXf | with_reducible apply Wf.cpYf))) ?_
    refine a_iload_n dX11_takesFlight_17 rfl ?_
    refine a_ild dX11_takesFlight_18 (ca_340 (by repeat (first | with_reducible exact hw | with_reducible exact hwc | with_reducible assumption | with_reducible apply Wf.sI | with_reducible apply Wf.sL | with_reducible apply Wf.cpI | with_reducible apply Wf.cpL | with_reducible apply Wf.cp2 | with_reducible apply Wf.sIs | with_reducible apply Wf.sLs | with_reducible apply Wf.cpU | with_reducible apply Wf.fillI | with_reducible apply Wf.clU | with_reducible apply Wf.dnF | with_reducible apply Wf.gbW | with_reducible apply Wf.cpXf | with_reducible apply Wf.cpYf))) (ix0 (show m < 89 by omega) (by decide)) ?_
    rw [cpX_rd (Or.inl (by decide))]
    refine a_ist dX11_takesFlight_19 (ca_339 (by repeat (first | with_reducible exact hw | with_reducible exact hwc | with_reducible assumption | with_reducible apply Wf.sI | with_reducible apply Wf.sL | with_reducible apply Wf.cpI | with_reducible apply Wf.cpL | with_reducible apply Wf.cp2 | with_reducible apply Wf.sIs | with_reducible apply Wf.sLs | with_reducible apply Wf.cpU | with_reducible apply Wf.fillI | with_reducible apply Wf.clU | with_reducible apply Wf.dnF | with_reducible apply Wf.gbW | with_reducible apply Wf.cpXf | with_reducible apply Wf.cpYf))) (ix0 (show m < 89 by omega) (by decide)) ?_
    refine a_iincN dX11_takesFlight_20 rfl (by decide) ?_
    refine a_goto (tgt := 2) dX11_takesFlight_23 (by decide) ?_
    exact a_loc _ rfl qih

theorem l_X11_takesFlight_28 (hw : Wf W) {oc : Oc} {μ1 : Wd} (kx : AW Y_X11_takesFlight R_X11_takesFlight (0, 0) (cpX W 345 (0) 344 (0) 291) 53 [(0, .ref 338), (1, .int (nI 291))] [] oc μ1) : ∀ dd m, m + dd = 291 → AW Y_X11_takesFlight R_X11_takesFlight (0, 0) (cpX W 345 (0) 344 (0) m) 28 [(0, .ref 338), (1, .int (nI m))] [] oc μ1 := by
  intro dd
  induction dd with
  | zero =>
    intro m hm
    obtain rfl : 291 = m := by omega
    refine a_iload_n dX11_takesFlight_28 rfl ?_
    refine a_sipush (291 : Int32) dX11_takesFlight_29 (by decide) ?_
    refine a_icmp_ge (tgt := 53) dX11_takesFlight_32 (by decide) (fun h32 => ?_) (fun h32 => absurd h32 (fun z => z (nI_le (b := 291) (Nat.le_refl _) (by decide))))
    exact a_loc _ rfl kx
  | succ dd ih =>
    intro m hm
    have qih := ih (m + 1) (by omega)
    rw [← cpX_succ] at qih
    refine a_iload_n dX11_takesFlight_28 rfl ?_
    refine a_sipush (291 : Int32) dX11_takesFlight_29 (by decide) ?_
    refine a_icmp_ge (tgt := 53) dX11_takesFlight_32 (by decide) (fun h32 => absurd h32 (nI_ge (b := 291) (show m < 291 by omega) (by decide))) (fun h32 => ?_)
    refine a_aload_n dX11_takesFlight_35 rfl ?_
    refine a_getR (cr_338_6 (by repeat (first | with_reducible exact hw | with_reducible exact hwc | with_reducible assumption | with_reducible apply Wf.sI | with_reducible apply Wf.sL | with_reducible apply Wf.cpI | with_reducible apply Wf.cpL | with_reducible apply Wf.cp2 | with_reducible apply Wf.sIs | with_reducible apply Wf.sLs | with_reducible apply Wf.cpU | with_reducible apply Wf.fillI | with_reducible apply Wf.clU | with_reducible apply Wf.dnF | with_reducible apply Wf.gbW | with_reducible apply Wf.cpXf | with_reducible apply Wf.cpYf))) dX11_takesFlight_36 fs_X11_26 rfl (co_338 (by repeat (first | with_reducible exact hw | with_reducible exact hwc | with_reducible assumption | with_reducible apply Wf.sI | with_reducible apply Wf.sL | with_reducible apply Wf.cpI | with_reducible apply Wf.cpL | with_reducible apply Wf.cp2 | with_reducible apply Wf.sIs | with_reducible apply Wf.sLs | with_reducible apply Wf.cpU | with_reducible apply Wf.fillI | with_reducible apply Wf.clU | with_reducible apply Wf.dnF | with_reducible apply Wf.gbW | with_reducible apply Wf.cpXf | with_reducible apply Wf.cpYf))) ?_
    refine a_iload_n dX11_takesFlight_39 rfl ?_
    refine a_aload_n dX11_takesFlight_40 rfl ?_
    refine a_getR (cr_338_7 (by repeat (first | with_reducible exact hw | with_reducible exact hwc | with_reducible assumption | with_reducible apply Wf.sI | with_reducible apply Wf.sL | with_reducible apply Wf.cpI | with_reducible apply Wf.cpL | with_reducible apply Wf.cp2 | with_reducible apply Wf.sIs | with_reducible apply Wf.sLs | with_reducible apply Wf.cpU | with_reducible apply Wf.fillI | with_reducible apply Wf.clU | with_reducible apply Wf.dnF | with_reducible apply Wf.gbW | with_reducible apply Wf.cpXf | with_reducible apply Wf.cpYf))) dX11_takesFlight_41 fs_X11_29 rfl (co_338 (by repeat (first | with_reducible exact hw | with_reducible exact hwc | with_reducible assumption | with_reducible apply Wf.sI | with_reducible apply Wf.sL | with_reducible apply Wf.cpI | with_reducible apply Wf.cpL | with_reducible apply Wf.cp2 | with_reducible apply Wf.sIs | with_reducible apply Wf.sLs | with_reducible apply Wf.cpU | with_reducible apply Wf.fillI | with_reducible apply Wf.clU | with_reducible apply Wf.dnF | with_reducible apply Wf.gbW | with_reducible apply Wf.cpXf | with_reducible apply Wf.cpYf))) ?_
    refine a_iload_n dX11_takesFlight_44 rfl ?_
    refine a_ild dX11_takesFlight_45 (ca_345 (by repeat (first | with_reducible exact hw | with_reducible exact hwc | with_reducible assumption | with_reducible apply Wf.sI | with_reducible apply Wf.sL | with_reducible apply Wf.cpI | with_reducible apply Wf.cpL | with_reducible apply Wf.cp2 | with_reducible apply Wf.sIs | with_reducible apply Wf.sLs | with_reducible apply Wf.cpU | with_reducible apply Wf.fillI | with_reducible apply Wf.clU | with_reducible apply Wf.dnF | with_reducible apply Wf.gbW | with_reducible apply Wf.cpXf | with_reducible apply Wf.cpYf))) (ix0 (show m < 291 by omega) (by decide)) ?_
    rw [cpX_rd (Or.inl (by decide))]
    refine a_ist dX11_takesFlight_46 (ca_344 (by repeat (first | with_reducible exact hw | with_reducible exact hwc | with_reducible assumption | with_reducible apply Wf.sI | with_reducible apply Wf.sL | with_reducible apply Wf.cpI | with_reducible apply Wf.cpL | with_reducible apply Wf.cp2 | with_reducible apply Wf.sIs | with_reducible apply Wf.sLs | with_reducible apply Wf.cpU | with_reducible apply Wf.fillI | with_reducible apply Wf.clU | with_reducible apply Wf.dnF | with_reducible apply Wf.gbW | with_reducible apply Wf.cpXf | with_reducible apply Wf.cpYf))) (ix0 (show m < 291 by omega) (by decide)) ?_
    refine a_iincN dX11_takesFlight_47 rfl (by decide) ?_
    refine a_goto (tgt := 28) dX11_takesFlight_50 (by decide) ?_
    exact a_loc _ rfl qih

theorem l_X11_takesFlight_55 (hw : Wf W) {oc : Oc} {μ1 : Wd} (kx : AW Y_X11_takesFlight R_X11_takesFlight (0, 0) (cpY W 343 (0) 341 (0) 12) 79 [(0, .ref 338), (1, .int (nI 12))] [] oc μ1) : ∀ dd m, m + dd = 12 → AW Y_X11_takesFlight R_X11_takesFlight (0, 0) (cpY W 343 (0) 341 (0) m) 55 [(0, .ref 338), (1, .int (nI m))] [] oc μ1 := by
  intro dd
  induction dd with
  | zero =>
    intro m hm
    obtain rfl : 12 = m := by omega
    refine a_iload_n dX11_takesFlight_55 rfl ?_
    refine a_bipush (12 : Int32) dX11_takesFlight_56 (by decide) ?_
    refine a_icmp_ge (tgt := 79) dX11_takesFlight_58 (by decide) (fun h58 => ?_) (fun h58 => absurd h58 (fun z => z (nI_le (b := 12) (Nat.le_refl _) (by decide))))
    exact a_loc _ rfl kx
  | succ dd ih =>
    intro m hm
    have qih := ih (m + 1) (by omega)
    rw [← cpY_succ] at qih
    refine a_iload_n dX11_takesFlight_55 rfl ?_
    refine a_bipush (12 : Int32) dX11_takesFlight_56 (by decide) ?_
    refine a_icmp_ge (tgt := 79) dX11_takesFlight_58 (by decide) (fun h58 => absurd h58 (nI_ge (b := 12) (show m < 12 by omega) (by decide))) (fun h58 => ?_)
    refine a_aload_n dX11_takesFlight_61 rfl ?_
    refine a_getR (cr_338_3 (by repeat (first | with_reducible exact hw | with_reducible exact hwc | with_reducible assumption | with_reducible apply Wf.sI | with_reducible apply Wf.sL | with_reducible apply Wf.cpI | with_reducible apply Wf.cpL | with_reducible apply Wf.cp2 | with_reducible apply Wf.sIs | with_reducible apply Wf.sLs | with_reducible apply Wf.cpU | with_reducible apply Wf.fillI | with_reducible apply Wf.clU | with_reducible apply Wf.dnF | with_reducible apply Wf.gbW | with_reducible apply Wf.cpXf | with_reducible apply Wf.cpYf))) dX11_takesFlight_62 fs_X11_16 rfl (co_338 (by repeat (first | with_reducible exact hw | with_reducible exact hwc | with_reducible assumption | with_reducible apply Wf.sI | with_reducible apply Wf.sL | with_reducible apply Wf.cpI | with_reducible apply Wf.cpL | with_reducible apply Wf.cp2 | with_reducible apply Wf.sIs | with_reducible apply Wf.sLs | with_reducible apply Wf.cpU | with_reducible apply Wf.fillI | with_reducible apply Wf.clU | with_reducible apply Wf.dnF | with_reducible apply Wf.gbW | with_reducible apply Wf.cpXf | with_reducible apply Wf.cpYf))) ?_
    refine a_iload_n dX11_takesFlight_65 rfl ?_
    refine a_aload_n dX11_takesFlight_66 rfl ?_
    refine a_getR (cr_338_5 (by repeat (first | with_reducible exact hw | with_reducible exact hwc | with_reducible assumption | with_reducible apply Wf.sI | with_reducible apply Wf.sL | with_reducible apply Wf.cpI | with_reducible apply Wf.cpL | with_reducible apply Wf.cp2 | with_reducible apply Wf.sIs | with_reducible apply Wf.sLs | with_reducible apply Wf.cpU | with_reducible apply Wf.fillI | with_reducible apply Wf.clU | with_reducible apply Wf.dnF | with_reducible apply Wf.gbW | with_reducible apply Wf.cpXf | with_reducible apply Wf.cpYf))) dX11_takesFlight_67 fs_X11_23 rfl (co_338 (by repeat (first | with_reducible exact hw | with_reducible exact hwc | with_reducible assumption | with_reducible apply Wf.sI | with_reducible apply Wf.sL | with_reducible apply Wf.cpI | with_reducible apply Wf.cpL | with_reducible apply Wf.cp2 | with_reducible apply Wf.sIs | with_reducible apply Wf.sLs | with_reducible apply Wf.cpU | with_reducible apply Wf.fillI | with_reducible apply Wf.clU | with_reducible apply Wf.dnF | with_reducible apply Wf.gbW | with_reducible apply Wf.cpXf | with_reducible apply Wf.cpYf))) ?_
    refine a_iload_n dX11_takesFlight_70 rfl ?_
    refine a_lld dX11_takesFlight_71 (ca_343 (by repeat (first | with_reducible exact hw | with_reducible exact hwc | with_reducible assumption | with_reducible apply Wf.sI | with_reducible apply Wf.sL | with_reducible apply Wf.cpI | with_reducible apply Wf.cpL | with_reducible apply Wf.cp2 | with_reducible apply Wf.sIs | with_reducible apply Wf.sLs | with_reducible apply Wf.cpU | with_reducible apply Wf.fillI | with_reducible apply Wf.clU | with_reducible apply Wf.dnF | with_reducible apply Wf.gbW | with_reducible apply Wf.cpXf | with_reducible apply Wf.cpYf))) (ix0 (show m < 12 by omega) (by decide)) ?_
    rw [cpY_rd (Or.inl (by decide))]
    refine a_lst dX11_takesFlight_72 (ca_341 (by repeat (first | with_reducible exact hw | with_reducible exact hwc | with_reducible assumption | with_reducible apply Wf.sI | with_reducible apply Wf.sL | with_reducible apply Wf.cpI | with_reducible apply Wf.cpL | with_reducible apply Wf.cp2 | with_reducible apply Wf.sIs | with_reducible apply Wf.sLs | with_reducible apply Wf.cpU | with_reducible apply Wf.fillI | with_reducible apply Wf.clU | with_reducible apply Wf.dnF | with_reducible apply Wf.gbW | with_reducible apply Wf.cpXf | with_reducible apply Wf.cpYf))) (ix0 (show m < 12 by omega) (by decide)) ?_
    refine a_iincN dX11_takesFlight_73 rfl (by decide) ?_
    refine a_goto (tgt := 55) dX11_takesFlight_76 (by decide) ?_
    exact a_loc _ rfl qih
def tkA (μ : Wd) : Wd := cpY (cpX (cpX μ 340 0 339 0 89) 345 0 344 0 291) 343 0 341 0 12
def tkW (μ : Wd) : Wd := sI (sI (sI (sI (tkA μ) 338 14 0) 338 15 0) 351 0 (vp_nar .boolean 0)) 351 1 (vp_nar .boolean 0)
theorem m_takesFlight (hw : Wf μ) : Ct Y_X11_takesFlight R_X11_takesFlight [.ref 338] μ (.inl none) (tkW μ) := by
  have hwA : Wf (tkA μ) := hw.cpXf.cpXf.cpYf
  refine Ct.ent yk_X11_takesFlight (Nat.le_of_ble_eq_true rfl) ?_
  refine a_iconst (0 : Int32) dX11_takesFlight_0 (by decide) ?_
  refine a_istore_n dX11_takesFlight_1 (by decide) ?_
  refine a_wd (cpX_zero μ 340 0 339 0).symm (a_loc [(0, .ref 338), (1, .int (nI 0))] rfl (l_X11_takesFlight_2 hw ?_ 89 0 rfl))
  refine a_iconst (0 : Int32) dX11_takesFlight_26 (by decide) ?_
  refine a_istore_n dX11_takesFlight_27 (by decide) ?_
  refine a_wd (cpX_zero (cpX μ 340 0 339 0 89) 345 0 344 0).symm (a_loc [(0, .ref 338), (1, .int (nI 0))] rfl (l_X11_takesFlight_28 hw.cpXf ?_ 291 0 rfl))
  refine a_iconst (0 : Int32) dX11_takesFlight_53 (by decide) ?_
  refine a_istore_n dX11_takesFlight_54 (by decide) ?_
  refine a_wd (cpY_zero (cpX (cpX μ 340 0 339 0 89) 345 0 344 0 291) 343 0 341 0).symm (a_loc [(0, .ref 338), (1, .int (nI 0))] rfl (l_X11_takesFlight_55 hw.cpXf.cpXf ?_ 12 0 rfl))
  refine a_wd (show _ = tkA μ from rfl) ?_
  refine a_aload_n dX11_takesFlight_79 rfl ?_
  refine a_iconst (0 : Int32) dX11_takesFlight_80 (by decide) ?_
  refine a_putI dX11_takesFlight_81 fs_X11_95 rfl rfl rfl (co_338 (by repeat (first | with_reducible exact hwA | with_reducible exact hwc | with_reducible assumption | with_reducible apply Wf.sI | with_reducible apply Wf.sL | with_reducible apply Wf.cpI | with_reducible apply Wf.cpL | with_reducible apply Wf.cp2 | with_reducible apply Wf.sIs | with_reducible apply Wf.sLs | with_reducible apply Wf.cpU | with_reducible apply Wf.fillI | with_reducible apply Wf.clU | with_reducible apply Wf.dnF | with_reducible apply Wf.gbW | with_reducible apply Wf.cpXf | with_reducible apply Wf.cpYf))) ?_
  refine a_aload_n dX11_takesFlight_84 rfl ?_
  refine a_iconst (0 : Int32) dX11_takesFlight_85 (by decide) ?_
  refine a_putI dX11_takesFlight_86 fs_X11_285 rfl rfl rfl (co_338 (by repeat (first | with_reducible exact hwA | with_reducible exact hwc | with_reducible assumption | with_reducible apply Wf.sI | with_reducible apply Wf.sL | with_reducible apply Wf.cpI | with_reducible apply Wf.cpL | with_reducible apply Wf.cp2 | with_reducible apply Wf.sIs | with_reducible apply Wf.sLs | with_reducible apply Wf.cpU | with_reducible apply Wf.fillI | with_reducible apply Wf.clU | with_reducible apply Wf.dnF | with_reducible apply Wf.gbW | with_reducible apply Wf.cpXf | with_reducible apply Wf.cpYf))) ?_
  refine a_aload_n dX11_takesFlight_89 rfl ?_
  refine a_getR (cr_338_13 (by repeat (first | with_reducible exact hwA | with_reducible exact hwc | with_reducible assumption | with_reducible apply Wf.sI | with_reducible apply Wf.sL | with_reducible apply Wf.cpI | with_reducible apply Wf.cpL | with_reducible apply Wf.cp2 | with_reducible apply Wf.sIs | with_reducible apply Wf.sLs | with_reducible apply Wf.cpU | with_reducible apply Wf.fillI | with_reducible apply Wf.clU | with_reducible apply Wf.dnF | with_reducible apply Wf.gbW | with_reducible apply Wf.cpXf | with_reducible apply Wf.cpYf))) dX11_takesFlight_90 fs_X11_47 rfl (co_338 (by repeat (first | with_reducible exact hwA | with_reducible exact hwc | with_reducible assumption | with_reducible apply Wf.sI | with_reducible apply Wf.sL | with_reducible apply Wf.cpI | with_reducible apply Wf.cpL | with_reducible apply Wf.cp2 | with_reducible apply Wf.sIs | with_reducible apply Wf.sLs | with_reducible apply Wf.cpU | with_reducible apply Wf.fillI | with_reducible apply Wf.clU | with_reducible apply Wf.dnF | with_reducible apply Wf.gbW | with_reducible apply Wf.cpXf | with_reducible apply Wf.cpYf))) ?_
  refine a_iconst (0 : Int32) dX11_takesFlight_93 (by decide) ?_
  refine a_iconst (0 : Int32) dX11_takesFlight_94 (by decide) ?_
  refine a_zst dX11_takesFlight_95 (ca_351 (by repeat (first | with_reducible exact hwA | with_reducible exact hwc | with_reducible assumption | with_reducible apply Wf.sI | with_reducible apply Wf.sL | with_reducible apply Wf.cpI | with_reducible apply Wf.cpL | with_reducible apply Wf.cp2 | with_reducible apply Wf.sIs | with_reducible apply Wf.sLs | with_reducible apply Wf.cpU | with_reducible apply Wf.fillI | with_reducible apply Wf.clU | with_reducible apply Wf.dnF | with_reducible apply Wf.gbW | with_reducible apply Wf.cpXf | with_reducible apply Wf.cpYf))) (ixn (m := 0) (by omega) (by decide)) ?_
  refine a_aload_n dX11_takesFlight_96 rfl ?_
  refine a_getR (cr_338_13 (by repeat (first | with_reducible exact hwA | with_reducible exact hwc | with_reducible assumption | with_reducible apply Wf.sI | with_reducible apply Wf.sL | with_reducible apply Wf.cpI | with_reducible apply Wf.cpL | with_reducible apply Wf.cp2 | with_reducible apply Wf.sIs | with_reducible apply Wf.sLs | with_reducible apply Wf.cpU | with_reducible apply Wf.fillI | with_reducible apply Wf.clU | with_reducible apply Wf.dnF | with_reducible apply Wf.gbW | with_reducible apply Wf.cpXf | with_reducible apply Wf.cpYf))) dX11_takesFlight_97 fs_X11_47 rfl (co_338 (by repeat (first | with_reducible exact hwA | with_reducible exact hwc | with_reducible assumption | with_reducible apply Wf.sI | with_reducible apply Wf.sL | with_reducible apply Wf.cpI | with_reducible apply Wf.cpL | with_reducible apply Wf.cp2 | with_reducible apply Wf.sIs | with_reducible apply Wf.sLs | with_reducible apply Wf.cpU | with_reducible apply Wf.fillI | with_reducible apply Wf.clU | with_reducible apply Wf.dnF | with_reducible apply Wf.gbW | with_reducible apply Wf.cpXf | with_reducible apply Wf.cpYf))) ?_
  refine a_iconst (1 : Int32) dX11_takesFlight_100 (by decide) ?_
  refine a_iconst (0 : Int32) dX11_takesFlight_101 (by decide) ?_
  refine a_zst dX11_takesFlight_102 (ca_351 (by repeat (first | with_reducible exact hwA | with_reducible exact hwc | with_reducible assumption | with_reducible apply Wf.sI | with_reducible apply Wf.sL | with_reducible apply Wf.cpI | with_reducible apply Wf.cpL | with_reducible apply Wf.cp2 | with_reducible apply Wf.sIs | with_reducible apply Wf.sLs | with_reducible apply Wf.cpU | with_reducible apply Wf.fillI | with_reducible apply Wf.clU | with_reducible apply Wf.dnF | with_reducible apply Wf.gbW | with_reducible apply Wf.cpXf | with_reducible apply Wf.cpYf))) (ixn (m := 1) (by omega) (by decide)) ?_
  exact a_out rfl rfl (a_return dX11_takesFlight_103 rfl)
abbrev sTk : Nat → Prop := fun i => i = 338 ∨ i = 339 ∨ i = 341 ∨ i = 344 ∨ i = 351
theorem tk_f (hw : Wf μ) : Out sTk μ (tkW μ) ∧ gI (tkW μ) 338 14 = 0 ∧ gI (tkW μ) 338 15 = 0 ∧ (∀ k, k ≠ 14 → k ≠ 15 → gI (tkW μ) 338 k = gI μ 338 k) ∧ gI (tkW μ) 351 0 = 0 ∧ gI (tkW μ) 351 1 = 0 ∧ (∀ x, x < 89 → gI (tkW μ) 339 x = gI μ 340 x) ∧ (∀ x, x < 291 → gI (tkW μ) 344 x = gI μ 345 x) ∧ ∀ x, x < 12 → gL (tkW μ) 341 x = gL μ 343 x := by
  have e1 : vp_nar .boolean 0 = (0 : Int32) := by decide
  unfold tkW tkA
  rw [e1]
  refine ⟨((((((Out.rfl' hw).cpXo (S := sTk) (Or.inr (Or.inl rfl))).cpXo (S := sTk) (Or.inr (Or.inr (Or.inr (Or.inl rfl))))).cpYo (S := sTk) (Or.inr (Or.inr (Or.inl rfl)))).sI (S := sTk) (Or.inl rfl) _ _).sI (S := sTk) (Or.inl rfl) _ _).sI (S := sTk) (Or.inr (Or.inr (Or.inr (Or.inr rfl)))) _ _ |>.sI (S := sTk) (Or.inr (Or.inr (Or.inr (Or.inr rfl)))) _ _, ?_, ?_, fun k h1 h2 => ?_, ?_, ?_, fun x hx => ?_, fun x hx => ?_, fun x hx => ?_⟩
  · rw [gI_sI, if_neg (by omega), gI_sI, if_neg (by omega), gI_sI, if_neg (by omega), gI_sI, if_pos ⟨rfl, rfl⟩]
  · rw [gI_sI, if_neg (by omega), gI_sI, if_neg (by omega), gI_sI, if_pos ⟨rfl, rfl⟩]
  · rw [gI_sI, if_neg (by omega), gI_sI, if_neg (by omega), gI_sI, if_neg (by omega), gI_sI, if_neg (by omega), gI_cpY, gI_cpX, if_neg (by omega), gI_cpX, if_neg (by omega)]
  · rw [gI_sI, if_neg (by omega), gI_sI, if_pos ⟨rfl, rfl⟩]
  · rw [gI_sI, if_pos ⟨rfl, rfl⟩]
  · rw [gI_sI, if_neg (by omega), gI_sI, if_neg (by omega), gI_sI, if_neg (by omega), gI_sI, if_neg (by omega), gI_cpY, gI_cpX, if_neg (by omega), gI_cpX, if_pos ⟨rfl, by omega, by omega⟩]
    congr 1
  · rw [gI_sI, if_neg (by omega), gI_sI, if_neg (by omega), gI_sI, if_neg (by omega), gI_sI, if_neg (by omega), gI_cpY, gI_cpX, if_pos ⟨rfl, by omega, by omega⟩, gI_cpX, if_neg (by omega)]
    congr 1
  · rw [gL_sI, gL_sI, gL_sI, gL_sI, gL_cpY, if_pos ⟨rfl, by omega, by omega⟩, gL_cpX, gL_cpX]
    congr 1
end MODELU2
