section FEED
variable {μ W V : Wd}
def apB (v s : Int32) : Int32 := vp_nar .byte ((v >>> (s &&& 31)).toInt8.toInt32)
def apC (v : Int32) (j : Nat) : Int32 := apB v (nI (24 - 8 * j))
abbrev sFd : Nat → Prop := fun i => i = 0 ∨ i = 1
/-- one byte more -/
def ap1 (W : Wd) (n : Nat) (v s : Int32) : Wd := sI (sI W 1 n (apB v s)) 0 1 (nI (n + 1))
theorem ap1_f (hw : Wf W) {n : Nat} {v s : Int32} : Wf (ap1 W n v s) ∧ Out sFd W (ap1 W n v s) ∧ gI (ap1 W n v s) 0 1 = nI (n + 1) ∧ (∀ k, k ≠ 1 → gI (ap1 W n v s) 0 k = gI W 0 k) ∧ (∀ k, gI (ap1 W n v s) 1 k = if k = n then apB v s else gI W 1 k) ∧ ∀ k, gR (ap1 W n v s) 0 k = gR W 0 k := by
  unfold ap1
  refine ⟨hw.sI.sI, ((Out.rfl' hw).sI (S := sFd) (Or.inr rfl) _ _).sI (S := sFd) (Or.inl rfl) _ _, by rw [gI_sI, if_pos ⟨rfl, rfl⟩], fun k hk => by rw [gI_sI, if_neg (by omega), gI_sI, if_neg (by omega)], fun k => ?_, fun k => by rw [gR_sI, gR_sI]⟩
  rw [gI_sI, if_neg (by omega), gI_sI]
  by_cases z : k = n
  · rw [if_pos ⟨rfl, z⟩, if_pos z]
  · rw [if_neg (fun y => z y.2), if_neg z]
abbrev R_X10_appendBytes : Room := { frames := 0, cells := 0, slots := 0, locals := 0 }
abbrev RX_X10_appendBytes : Room := { frames := 0, cells := 1, slots := 6, locals := 0 }

theorem l_X10_appendBytes_3 (hw : Wf W) {v s : Int32} {n : Nat} (hs : ¬ s < 0) (hn : n < 900) (hl : gI W 0 1 = nI n) {o : Oc} {μ1 : Wd} (kx : AW Y_X10_appendBytes R_X10_appendBytes (0, 0) (ap1 W n v s) 3 [(0, .ref 0), (1, .int v), (2, .int (s + -8))] [] o μ1) : AW Y_X10_appendBytes R_X10_appendBytes (0, 0) W 3 [(0, .ref 0), (1, .int v), (2, .int (s))] [] o μ1 := by
  refine a_iload_n dX10_appendBytes_3 rfl ?_
  refine a_if_lt (tgt := 48) dX10_appendBytes_4 (by decide) (fun h4 => absurd h4 hs) (fun h4 => ?_)
  refine a_aload_n dX10_appendBytes_7 rfl ?_
  refine a_getI dX10_appendBytes_8 fs_X10_82 rfl (co_0 (by repeat (first | with_reducible exact hw | with_reducible exact hwc | with_reducible assumption | with_reducible apply Wf.sI | with_reducible apply Wf.sL | with_reducible apply Wf.cpI | with_reducible apply Wf.cpL | with_reducible apply Wf.cp2 | with_reducible apply Wf.sIs | with_reducible apply Wf.sLs | with_reducible apply Wf.cpU | with_reducible apply Wf.fillI | with_reducible apply Wf.clU | with_reducible apply Wf.dnF | with_reducible apply Wf.gbW))) ?_
  rw [hl]
  refine a_aload_n dX10_appendBytes_11 rfl ?_
  refine a_getR (cr_0_0 (by repeat (first | with_reducible exact hw | with_reducible exact hwc | with_reducible assumption | with_reducible apply Wf.sI | with_reducible apply Wf.sL | with_reducible apply Wf.cpI | with_reducible apply Wf.cpL | with_reducible apply Wf.cp2 | with_reducible apply Wf.sIs | with_reducible apply Wf.sLs | with_reducible apply Wf.cpU | with_reducible apply Wf.fillI | with_reducible apply Wf.clU | with_reducible apply Wf.dnF | with_reducible apply Wf.gbW))) dX10_appendBytes_12 fs_X10_9 rfl (co_0 (by repeat (first | with_reducible exact hw | with_reducible exact hwc | with_reducible assumption | with_reducible apply Wf.sI | with_reducible apply Wf.sL | with_reducible apply Wf.cpI | with_reducible apply Wf.cpL | with_reducible apply Wf.cp2 | with_reducible apply Wf.sIs | with_reducible apply Wf.sLs | with_reducible apply Wf.cpU | with_reducible apply Wf.fillI | with_reducible apply Wf.clU | with_reducible apply Wf.dnF | with_reducible apply Wf.gbW))) ?_
  refine a_alen 900 dX10_appendBytes_15 (ca_1 (by repeat (first | with_reducible exact hw | with_reducible exact hwc | with_reducible assumption | with_reducible apply Wf.sI | with_reducible apply Wf.sL | with_reducible apply Wf.cpI | with_reducible apply Wf.cpL | with_reducible apply Wf.cp2 | with_reducible apply Wf.sIs | with_reducible apply Wf.sLs | with_reducible apply Wf.cpU | with_reducible apply Wf.fillI | with_reducible apply Wf.clU | with_reducible apply Wf.dnF | with_reducible apply Wf.gbW))) (by decide) rfl ?_
  refine a_icmp_ge (tgt := 48) dX10_appendBytes_16 (by decide) (fun h16 => absurd h16 (nI_ge (show n < 900 by omega) (by decide))) (fun h16 => ?_)
  refine a_aload_n dX10_appendBytes_19 rfl ?_
  refine a_getR (cr_0_0 (by repeat (first | with_reducible exact hw | with_reducible exact hwc | with_reducible assumption | with_reducible apply Wf.sI | with_reducible apply Wf.sL | with_reducible apply Wf.cpI | with_reducible apply Wf.cpL | with_reducible apply Wf.cp2 | with_reducible apply Wf.sIs | with_reducible apply Wf.sLs | with_reducible apply Wf.cpU | with_reducible apply Wf.fillI | with_reducible apply Wf.clU | with_reducible apply Wf.dnF | with_reducible apply Wf.gbW))) dX10_appendBytes_20 fs_X10_9 rfl (co_0 (by repeat (first | with_reducible exact hw | with_reducible exact hwc | with_reducible assumption | with_reducible apply Wf.sI | with_reducible apply Wf.sL | with_reducible apply Wf.cpI | with_reducible apply Wf.cpL | with_reducible apply Wf.cp2 | with_reducible apply Wf.sIs | with_reducible apply Wf.sLs | with_reducible apply Wf.cpU | with_reducible apply Wf.fillI | with_reducible apply Wf.clU | with_reducible apply Wf.dnF | with_reducible apply Wf.gbW))) ?_
  refine a_aload_n dX10_appendBytes_23 rfl ?_
  refine a_getI dX10_appendBytes_24 fs_X10_82 rfl (co_0 (by repeat (first | with_reducible exact hw | with_reducible exact hwc | with_reducible assumption | with_reducible apply Wf.sI | with_reducible apply Wf.sL | with_reducible apply Wf.cpI | with_reducible apply Wf.cpL | with_reducible apply Wf.cp2 | with_reducible apply Wf.sIs | with_reducible apply Wf.sLs | with_reducible apply Wf.cpU | with_reducible apply Wf.fillI | with_reducible apply Wf.clU | with_reducible apply Wf.dnF | with_reducible apply Wf.gbW))) ?_
  rw [hl]
  refine a_iload_n dX10_appendBytes_27 rfl ?_
  refine a_iload_n dX10_appendBytes_28 rfl ?_
  refine a_ishr dX10_appendBytes_29 ?_
  refine a_i2b dX10_appendBytes_30 ?_
  refine a_bst dX10_appendBytes_31 (ca_1 (by repeat (first | with_reducible exact hw | with_reducible exact hwc | with_reducible assumption | with_reducible apply Wf.sI | with_reducible apply Wf.sL | with_reducible apply Wf.cpI | with_reducible apply Wf.cpL | with_reducible apply Wf.cp2 | with_reducible apply Wf.sIs | with_reducible apply Wf.sLs | with_reducible apply Wf.cpU | with_reducible apply Wf.fillI | with_reducible apply Wf.clU | with_reducible apply Wf.dnF | with_reducible apply Wf.gbW))) (ixn (show n < 900 by omega) (by decide)) ?_
  refine a_aload_n dX10_appendBytes_32 rfl ?_
  refine a_dup dX10_appendBytes_33 rfl ?_
  refine a_getI dX10_appendBytes_34 fs_X10_82 rfl (co_0 (by repeat (first | with_reducible exact hw | with_reducible exact hwc | with_reducible assumption | with_reducible apply Wf.sI | with_reducible apply Wf.sL | with_reducible apply Wf.cpI | with_reducible apply Wf.cpL | with_reducible apply Wf.cp2 | with_reducible apply Wf.sIs | with_reducible apply Wf.sLs | with_reducible apply Wf.cpU | with_reducible apply Wf.fillI | with_reducible apply Wf.clU | with_reducible apply Wf.dnF | with_reducible apply Wf.gbW))) ?_
  rw [gI_sI, if_neg (by omega), hl]
  refine a_iconst (1 : Int32) dX10_appendBytes_37 (by decide) ?_
  refine a_iadd dX10_appendBytes_38 ?_
  rw [← nI_succ]
  refine a_putI dX10_appendBytes_39 fs_X10_82 rfl rfl rfl (co_0 (by repeat (first | with_reducible exact hw | with_reducible exact hwc | with_reducible assumption | with_reducible apply Wf.sI | with_reducible apply Wf.sL | with_reducible apply Wf.cpI | with_reducible apply Wf.cpL | with_reducible apply Wf.cp2 | with_reducible apply Wf.sIs | with_reducible apply Wf.sLs | with_reducible apply Wf.cpU | with_reducible apply Wf.fillI | with_reducible apply Wf.clU | with_reducible apply Wf.dnF | with_reducible apply Wf.gbW))) ?_
  refine a_iinc (-8 : Int32) dX10_appendBytes_42 (by decide) rfl (by decide) ?_
  refine a_goto (tgt := 3) dX10_appendBytes_45 (by decide) ?_
  unfold ap1 apB at kx
  exact a_loc _ rfl kx
def ApQ (μ V : Wd) (n : Nat) (v : Int32) : Prop := Out sFd μ V ∧ gI V 0 1 = nI (n + 4) ∧ (∀ k, k ≠ 1 → gI V 0 k = gI μ 0 k) ∧ (∀ j, j < 4 → gI V 1 (n + j) = apC v j) ∧ (∀ k, k < n ∨ n + 4 ≤ k → gI V 1 k = gI μ 1 k) ∧ ∀ k, gR V 0 k = gR μ 0 k
theorem c_appendBytes (hw : Wf μ) {n : Nat} (hn : n + 4 ≤ 900) (hl : gI μ 0 1 = nI n) (v : Int32) : CV Y_X10_appendBytes R_X10_appendBytes [.ref 0, .int v] μ (fun r V => r = none ∧ ApQ μ V n v) := by
  obtain ⟨a1, a2, a3, a4, a5, a6⟩ := ap1_f (n := n) (v := v) (s := 24) hw
  obtain ⟨b1, b2, b3, b4, b5, b6⟩ := ap1_f (n := n + 1) (v := v) (s := 16) a1
  obtain ⟨c1, c2, c3, c4, c5, c6⟩ := ap1_f (n := n + 1 + 1) (v := v) (s := 8) b1
  obtain ⟨d1, d2, d3, d4, d5, d6⟩ := ap1_f (n := n + 1 + 1 + 1) (v := v) (s := 0) c1
  have hq : ApQ μ (ap1 (ap1 (ap1 (ap1 μ n v 24) (n + 1) v 16) (n + 1 + 1) v 8) (n + 1 + 1 + 1) v 0) n v := by
    refine ⟨((a2.trans b2).trans c2).trans d2, d3, fun k hk => by rw [d4 k hk, c4 k hk, b4 k hk, a4 k hk], fun j hj => ?_, fun k hk => by rw [d5, if_neg (by omega), c5, if_neg (by omega), b5, if_neg (by omega), a5, if_neg (by omega)], fun k => by rw [d6, c6, b6, a6]⟩
    rw [d5, c5, b5, a5]
    rcases (by omega : j = 0 ∨ j = 1 ∨ j = 2 ∨ j = 3) with rfl | rfl | rfl | rfl
    · rw [if_neg (by omega), if_neg (by omega), if_neg (by omega), if_pos (by omega)]; rfl
    · rw [if_neg (by omega), if_neg (by omega), if_pos (by omega)]; rfl
    · rw [if_neg (by omega), if_pos (by omega)]; rfl
    · rw [if_pos (by omega)]; rfl
  refine ⟨none, _, Ct.ent yk_X10_appendBytes (Nat.le_of_ble_eq_true rfl) ?_, rfl, hq⟩
  refine a_bipush (24 : Int32) dX10_appendBytes_0 (by decide) ?_
  refine a_istore_n dX10_appendBytes_2 (by decide) ?_
  refine a_loc [(0, .ref 0), (1, .int v), (2, .int (24))] rfl (l_X10_appendBytes_3 hw (by decide) (by omega) hl ?_)
  rw [show (24 : Int32) + -8 = 16 from rfl]
  refine l_X10_appendBytes_3 a1 (by decide) (by omega) a3 ?_
  rw [show (16 : Int32) + -8 = 8 from rfl]
  refine l_X10_appendBytes_3 b1 (by decide) (by omega) b3 ?_
  rw [show (8 : Int32) + -8 = 0 from rfl]
  refine l_X10_appendBytes_3 c1 (by decide) (by omega) c3 ?_
  rw [show (0 : Int32) + -8 = -8 from rfl]
  refine a_iload_n dX10_appendBytes_3 rfl ?_
  refine a_if_lt (tgt := 48) dX10_appendBytes_4 (by decide) (fun h4 => ?_) (fun h4 => absurd h4 (by decide))
  exact a_out rfl rfl (a_return dX10_appendBytes_48 rfl)
def fdC (a b c d e : Int32) (j : Nat) : Int32 := if j < 4 then apC a j else if j < 8 then apC b (j - 4) else if j < 12 then apC c (j - 8) else if j < 16 then apC d (j - 12) else apC e (j - 16)
def FdQ (μ V : Wd) (n : Nat) (a b c d e : Int32) : Prop := Out sFd μ V ∧ gI V 0 1 = nI (n + 20) ∧ (∀ k, k ≠ 1 → gI V 0 k = gI μ 0 k) ∧ (∀ j, j < 20 → gI V 1 (n + j) = fdC a b c d e j) ∧ (∀ k, k < n ∨ n + 20 ≤ k → gI V 1 k = gI μ 1 k) ∧ ∀ k, gR V 0 k = gR μ 0 k
theorem fd_all {A B C D E : Wd} {n : Nat} {a b c d e : Int32} (ha : ApQ μ A n a) (hb : ApQ A B (n + 4) b) (hc : ApQ B C (n + 8) c) (hd : ApQ C D (n + 12) d) (he : ApQ D E (n + 16) e) : FdQ μ E n a b c d e := by
  obtain ⟨a1, a2, a3, a4, a5, a6⟩ := ha
  obtain ⟨b1, b2, b3, b4, b5, b6⟩ := hb
  obtain ⟨c1, c2, c3, c4, c5, c6⟩ := hc
  obtain ⟨d1, d2, d3, d4, d5, d6⟩ := hd
  obtain ⟨e1, e2, e3, e4, e5, e6⟩ := he
  refine ⟨(((a1.trans b1).trans c1).trans d1).trans e1, e2, fun k hk => by rw [e3 k hk, d3 k hk, c3 k hk, b3 k hk, a3 k hk], fun j hj => ?_, fun k hk => by rw [e5 k (by omega), d5 k (by omega), c5 k (by omega), b5 k (by omega), a5 k (by omega)], fun k => by rw [e6, d6, c6, b6, a6]⟩
  unfold fdC
  by_cases z1 : j < 4
  · rw [if_pos z1, e5 _ (by omega), d5 _ (by omega), c5 _ (by omega), b5 _ (by omega)]; exact a4 j z1
  · rw [if_neg z1]
    by_cases z2 : j < 8
    · rw [if_pos z2, e5 _ (by omega), d5 _ (by omega), c5 _ (by omega), ← b4 (j - 4) (by omega), show n + 4 + (j - 4) = n + j by omega]
    · rw [if_neg z2]
      by_cases z3 : j < 12
      · rw [if_pos z3, e5 _ (by omega), d5 _ (by omega), ← c4 (j - 8) (by omega), show n + 8 + (j - 8) = n + j by omega]
      · rw [if_neg z3]
        by_cases z4 : j < 16
        · rw [if_pos z4, e5 _ (by omega), ← d4 (j - 12) (by omega), show n + 12 + (j - 12) = n + j by omega]
        · rw [if_neg z4, ← e4 (j - 16) (by omega), show n + 16 + (j - 16) = n + j by omega]
abbrev R_X10_feed : Room := { frames := 7, cells := 0, slots := 0, locals := 140 }
abbrev RX_X10_feed : Room := { frames := 7, cells := 1, slots := 6, locals := 140 }

theorem c_feed (hw : Wf μ) {n : Nat} (hn : n + 20 ≤ 900) (hl : gI μ 0 1 = nI n) (a b c d e : Int32) : CV Y_X10_feed R_X10_feed [.ref 0, .int a, .int b, .int c, .int d, .int e] μ (fun v V => v = some (.int (nI (n + 20))) ∧ FdQ μ V n a b c d e) := by
  refine CV.ent yk_X10_feed (Nat.le_of_ble_eq_true rfl) ?_
  refine lf (a_aload_n dX10_feed_0 rfl) ?_
  refine lf (a_getI dX10_feed_1 fs_X10_82 rfl (co_0 (by repeat (first | with_reducible exact hw | with_reducible exact hwc | with_reducible assumption | with_reducible apply Wf.sI | with_reducible apply Wf.sL | with_reducible apply Wf.cpI | with_reducible apply Wf.cpL | with_reducible apply Wf.cp2 | with_reducible apply Wf.sIs | with_reducible apply Wf.sLs | with_reducible apply Wf.cpU | with_reducible apply Wf.fillI | with_reducible apply Wf.clU | with_reducible apply Wf.dnF | with_reducible apply Wf.gbW)))) ?_
  rw [hl]
  refine lf (a_bipush (20 : Int32) dX10_feed_4 (by decide)) ?_
  refine lf (a_iadd dX10_feed_6) ?_
  rw [show (20 : Int32) = nI 20 from rfl, nI_add]
  refine lf (a_sipush (900 : Int32) dX10_feed_7 (by decide)) ?_
  refine lf2 (a_icmp_le (tgt := 23) dX10_feed_10 (by decide)) (fun h10 => ?_) (fun h10 => absurd h10 (fun z => z (nI_le (a := n + 20) (b := 900) (by omega) (by decide))))
  refine lf (a_aload_n dX10_feed_23 rfl) ?_
  refine lf (a_iload_n dX10_feed_24 rfl) ?_
  obtain ⟨v_, W25, k25, rfl, ha⟩ := (c_appendBytes hw (n := n + 0) (by omega) hl a)
  have hwa := ha.1.1
  refine lf (a_inv (b2 := (0, 0)) k25 rfl dX10_feed_25 yk_X10_appendBytes im_X10_appendBytes se_X10_appendBytes ml_X10_92 rfl (co_0 (by repeat (first | with_reducible exact hw | with_reducible exact hwc | with_reducible assumption | with_reducible apply Wf.sI | with_reducible apply Wf.sL | with_reducible apply Wf.cpI | with_reducible apply Wf.cpL | with_reducible apply Wf.cp2 | with_reducible apply Wf.sIs | with_reducible apply Wf.sLs | with_reducible apply Wf.cpU | with_reducible apply Wf.fillI | with_reducible apply Wf.clU | with_reducible apply Wf.dnF | with_reducible apply Wf.gbW))) (by decide) hc_X10 (by decide) (by decide) (Nat.le_of_ble_eq_true rfl)) ?_
  refine lf (a_aload_n dX10_feed_28 rfl) ?_
  refine lf (a_iload_n dX10_feed_29 rfl) ?_
  obtain ⟨v_, W30, k30, rfl, hb⟩ := (c_appendBytes ha.1.1 (n := n + 4) (by omega) ha.2.1 b)
  have hwb := hb.1.1
  refine lf (a_inv (b2 := (0, 0)) k30 rfl dX10_feed_30 yk_X10_appendBytes im_X10_appendBytes se_X10_appendBytes ml_X10_92 rfl (co_0 (by repeat (first | with_reducible exact hw | with_reducible exact hwc | with_reducible assumption | with_reducible apply Wf.sI | with_reducible apply Wf.sL | with_reducible apply Wf.cpI | with_reducible apply Wf.cpL | with_reducible apply Wf.cp2 | with_reducible apply Wf.sIs | with_reducible apply Wf.sLs | with_reducible apply Wf.cpU | with_reducible apply Wf.fillI | with_reducible apply Wf.clU | with_reducible apply Wf.dnF | with_reducible apply Wf.gbW))) (by decide) hc_X10 (by decide) (by decide) (Nat.le_of_ble_eq_true rfl)) ?_
  refine lf (a_aload_n dX10_feed_33 rfl) ?_
  refine lf (a_iload_n dX10_feed_34 rfl) ?_
  obtain ⟨v_, W35, k35, rfl, hc⟩ := (c_appendBytes hb.1.1 (n := n + 8) (by omega) hb.2.1 c)
  have hwc := hc.1.1
  refine lf (a_inv (b2 := (0, 0)) k35 rfl dX10_feed_35 yk_X10_appendBytes im_X10_appendBytes se_X10_appendBytes ml_X10_92 rfl (co_0 (by repeat (first | with_reducible exact hw | with_reducible exact hwc | with_reducible assumption | with_reducible apply Wf.sI | with_reducible apply Wf.sL | with_reducible apply Wf.cpI | with_reducible apply Wf.cpL | with_reducible apply Wf.cp2 | with_reducible apply Wf.sIs | with_reducible apply Wf.sLs | with_reducible apply Wf.cpU | with_reducible apply Wf.fillI | with_reducible apply Wf.clU | with_reducible apply Wf.dnF | with_reducible apply Wf.gbW))) (by decide) hc_X10 (by decide) (by decide) (Nat.le_of_ble_eq_true rfl)) ?_
  refine lf (a_aload_n dX10_feed_38 rfl) ?_
  refine lf (a_iload dX10_feed_39 rfl) ?_
  obtain ⟨v_, W41, k41, rfl, hd⟩ := (c_appendBytes hc.1.1 (n := n + 12) (by omega) hc.2.1 d)
  have hwd := hd.1.1
  refine lf (a_inv (b2 := (0, 0)) k41 rfl dX10_feed_41 yk_X10_appendBytes im_X10_appendBytes se_X10_appendBytes ml_X10_92 rfl (co_0 (by repeat (first | with_reducible exact hw | with_reducible exact hwc | with_reducible assumption | with_reducible apply Wf.sI | with_reducible apply Wf.sL | with_reducible apply Wf.cpI | with_reducible apply Wf.cpL | with_reducible apply Wf.cp2 | with_reducible apply Wf.sIs | with_reducible apply Wf.sLs | with_reducible apply Wf.cpU | with_reducible apply Wf.fillI | with_reducible apply Wf.clU | with_reducible apply Wf.dnF | with_reducible apply Wf.gbW))) (by decide) hc_X10 (by decide) (by decide) (Nat.le_of_ble_eq_true rfl)) ?_
  refine lf (a_aload_n dX10_feed_44 rfl) ?_
  refine lf (a_iload dX10_feed_45 rfl) ?_
  obtain ⟨v_, W47, k47, rfl, he⟩ := (c_appendBytes hd.1.1 (n := n + 16) (by omega) hd.2.1 e)
  have hwe := he.1.1
  refine lf (a_inv (b2 := (0, 0)) k47 rfl dX10_feed_47 yk_X10_appendBytes im_X10_appendBytes se_X10_appendBytes ml_X10_92 rfl (co_0 (by repeat (first | with_reducible exact hw | with_reducible exact hwc | with_reducible assumption | with_reducible apply Wf.sI | with_reducible apply Wf.sL | with_reducible apply Wf.cpI | with_reducible apply Wf.cpL | with_reducible apply Wf.cp2 | with_reducible apply Wf.sIs | with_reducible apply Wf.sLs | with_reducible apply Wf.cpU | with_reducible apply Wf.fillI | with_reducible apply Wf.clU | with_reducible apply Wf.dnF | with_reducible apply Wf.gbW))) (by decide) hc_X10 (by decide) (by decide) (Nat.le_of_ble_eq_true rfl)) ?_
  refine lf (a_aload_n dX10_feed_50 rfl) ?_
  refine lf (a_getI dX10_feed_51 fs_X10_82 rfl (co_0 (by repeat (first | with_reducible exact hw | with_reducible exact hwc | with_reducible assumption | with_reducible apply Wf.sI | with_reducible apply Wf.sL | with_reducible apply Wf.cpI | with_reducible apply Wf.cpL | with_reducible apply Wf.cp2 | with_reducible apply Wf.sIs | with_reducible apply Wf.sLs | with_reducible apply Wf.cpU | with_reducible apply Wf.fillI | with_reducible apply Wf.clU | with_reducible apply Wf.dnF | with_reducible apply Wf.gbW)))) ?_
  rw [he.2.1]
  refine ⟨_, _, (a_ireturn dX10_feed_54 rfl rfl), ?_⟩
  exact ⟨_, rfl, rfl, fd_all ha hb hc hd he⟩
theorem cx_feed (hw : Wf μ) {n : Nat} (hn : 900 < n + 20) (hn2 : n ≤ 900) (hl : gI μ 0 1 = nI n) (a b c d e : Int32) : Ct Y_X10_feed RX_X10_feed [.ref 0, .int a, .int b, .int c, .int d, .int e] μ (.inr ISE) μ := by
  refine Ct.ent yk_X10_feed (Nat.le_of_ble_eq_true rfl) ?_
  refine a_aload_n dX10_feed_0 rfl ?_
  refine a_getI dX10_feed_1 fs_X10_82 rfl (co_0 hw) ?_
  rw [hl]
  refine a_bipush (20 : Int32) dX10_feed_4 (by decide) ?_
  refine a_iadd dX10_feed_6 ?_
  rw [show (20 : Int32) = nI 20 from rfl, nI_add]
  refine a_sipush (900 : Int32) dX10_feed_7 (by decide) ?_
  refine a_icmp_le (tgt := 23) dX10_feed_10 (by decide) (fun h10 => absurd h10 (nI_ge (a := 900) (b := n + 20) hn (by omega))) (fun h10 => ?_)
  exact a_throwS (n := 2) (tx := "the input buffer is full") (by decide) (by decide) xw_ISE rfl rfl dX10_feed_13 dX10_feed_16 dX10_feed_17 dX10_feed_19 dX10_feed_22 (by decide) (by decide) (by decide) (by decide) (by decide)
end FEED
