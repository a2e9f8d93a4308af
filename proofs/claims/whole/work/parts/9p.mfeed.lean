section MFEED
variable {μ W V : Wd} {q : PDt} {d : FDt} {B : Nat → Nat} {n p x : Nat} {z : PZ}
def lyB (v s : Int32) : Int32 := (v >>> (s &&& 31)) &&& 255
def lyC (v : Int32) (j : Nat) : Int32 := lyB v (nI (24 - 8 * j))
theorem by_of (x : Int32) : ∃ b, b < 256 ∧ x &&& 255 = nI b ∧ vp_nar .byte (x.toInt8.toInt32) = sby b := by
  have e : nI (x.toBitVec &&& 255#32).toNat = x &&& 255 := by
    apply Int32.toBitVec.inj
    show BitVec.ofNat 32 (x.toBitVec &&& 255#32).toNat = x.toBitVec &&& 255#32
    rw [BitVec.ofNat_toNat, BitVec.setWidth_eq]
  refine ⟨(x.toBitVec &&& 255#32).toNat, ?_, e.symm, ?_⟩
  · rw [BitVec.toNat_and]
    exact Nat.lt_of_le_of_lt Nat.and_le_right (by decide)
  · unfold sby
    rw [e]
    have e2 : (x &&& 255).toInt8 = x.toInt8 := by
      apply Int8.toBitVec.inj
      rw [Int32.toBitVec_toInt8, Int32.toBitVec_toInt8]
      show (x.toBitVec &&& 255#32).signExtend 8 = x.toBitVec.signExtend 8
      rw [BitVec.signExtend_eq_setWidth_of_le _ (by decide), BitVec.signExtend_eq_setWidth_of_le _ (by decide)]
      apply BitVec.eq_of_toNat_eq
      rw [BitVec.toNat_setWidth, BitVec.toNat_setWidth, BitVec.toNat_and]
      show (x.toBitVec.toNat &&& (2 ^ 8 - 1)) % 2 ^ 8 = x.toBitVec.toNat % 2 ^ 8
      rw [Nat.and_two_pow_sub_one_eq_mod, Nat.mod_mod]
    rw [e2]
    show (x.toInt8.toInt32).toInt8.toInt32 = _
    simp
theorem by_c (v : Int32) (j : Nat) : ∃ b, b < 256 ∧ lyC v j = nI b ∧ apC v j = sby b := by
  obtain ⟨b, h1, h2, h3⟩ := by_of (v >>> (nI (24 - 8 * j) &&& 31))
  exact ⟨b, h1, h2, h3⟩
abbrev sLy : Nat → Prop := fun i => i = 338 ∨ i = 352
def ly1 (W : Wd) (n : Nat) (v s : Int32) : Wd := sI (sI W 352 n (lyB v s)) 338 17 (nI (n + 1))
theorem ly1_f (hw : Wf W) {n : Nat} {v s : Int32} : Wf (ly1 W n v s) ∧ Out sLy W (ly1 W n v s) ∧ gI (ly1 W n v s) 338 17 = nI (n + 1) ∧ (∀ k, k ≠ 17 → gI (ly1 W n v s) 338 k = gI W 338 k) ∧ (∀ k, gI (ly1 W n v s) 352 k = if k = n then lyB v s else gI W 352 k) ∧ ∀ k, gL (ly1 W n v s) 338 k = gL W 338 k := by
  unfold ly1
  refine ⟨hw.sI.sI, ((Out.rfl' hw).sI (S := sLy) (Or.inr rfl) _ _).sI (S := sLy) (Or.inl rfl) _ _, by rw [gI_sI, if_pos ⟨rfl, rfl⟩], fun k hk => by rw [gI_sI, if_neg (by omega), gI_sI, if_neg (by omega)], fun k => ?_, fun k => rfl⟩
  rw [gI_sI, if_neg (by omega), gI_sI]
  by_cases z : k = n
  · rw [if_pos ⟨rfl, z⟩, if_pos z]
  · rw [if_neg (fun y => z y.2), if_neg z]
abbrev R_X11_lays : Room := { frames := 0, cells := 0, slots := 0, locals := 0 }
abbrev RX_X11_lays : Room := { frames := 0, cells := 1, slots := 6, locals := 0 }

theorem l_X11_lays_3 (hw : Wf W) {v s : Int32} {n : Nat} (hs : ¬ s < 0) (hn : n < 900) (hl : gI W 338 17 = nI n) {o : Oc} {μ1 : Wd} (kx : AW Y_X11_lays R_X11_lays (0, 0) (ly1 W n v s) 3 [(0, .ref 338), (1, .int v), (2, .int (s - 8))] [] o μ1) : AW Y_X11_lays R_X11_lays (0, 0) W 3 [(0, .ref 338), (1, .int v), (2, .int (s))] [] o μ1 := by
  refine a_iload_n dX11_lays_3 rfl ?_
  refine a_if_lt (tgt := 41) dX11_lays_4 (by decide) (fun h4 => absurd h4 hs) (fun h4 => ?_)
  refine a_aload_n dX11_lays_7 rfl ?_
  refine a_getR (cr_338_16 (by repeat (first | with_reducible exact hw | with_reducible exact hwc | with_reducible assumption | with_reducible apply Wf.sI | with_reducible apply Wf.sL | with_reducible apply Wf.cpI | with_reducible apply Wf.cpL | with_reducible apply Wf.cp2 | with_reducible apply Wf.sIs | with_reducible apply Wf.sLs | with_reducible apply Wf.cpU | with_reducible apply Wf.fillI | with_reducible apply Wf.clU | with_reducible apply Wf.dnF | with_reducible apply Wf.gbW))) dX11_lays_8 fs_X11_51 rfl (co_338 (by repeat (first | with_reducible exact hw | with_reducible exact hwc | with_reducible assumption | with_reducible apply Wf.sI | with_reducible apply Wf.sL | with_reducible apply Wf.cpI | with_reducible apply Wf.cpL | with_reducible apply Wf.cp2 | with_reducible apply Wf.sIs | with_reducible apply Wf.sLs | with_reducible apply Wf.cpU | with_reducible apply Wf.fillI | with_reducible apply Wf.clU | with_reducible apply Wf.dnF | with_reducible apply Wf.gbW))) ?_
  refine a_aload_n dX11_lays_11 rfl ?_
  refine a_getI dX11_lays_12 fs_X11_110 rfl (co_338 (by repeat (first | with_reducible exact hw | with_reducible exact hwc | with_reducible assumption | with_reducible apply Wf.sI | with_reducible apply Wf.sL | with_reducible apply Wf.cpI | with_reducible apply Wf.cpL | with_reducible apply Wf.cp2 | with_reducible apply Wf.sIs | with_reducible apply Wf.sLs | with_reducible apply Wf.cpU | with_reducible apply Wf.fillI | with_reducible apply Wf.clU | with_reducible apply Wf.dnF | with_reducible apply Wf.gbW))) ?_
  rw [hl]
  refine a_iload_n dX11_lays_15 rfl ?_
  refine a_iload_n dX11_lays_16 rfl ?_
  refine a_ishr dX11_lays_17 ?_
  refine a_sipush (255 : Int32) dX11_lays_18 (by decide) ?_
  refine a_iand dX11_lays_21 ?_
  refine a_ist dX11_lays_22 (ca_352 (by repeat (first | with_reducible exact hw | with_reducible exact hwc | with_reducible assumption | with_reducible apply Wf.sI | with_reducible apply Wf.sL | with_reducible apply Wf.cpI | with_reducible apply Wf.cpL | with_reducible apply Wf.cp2 | with_reducible apply Wf.sIs | with_reducible apply Wf.sLs | with_reducible apply Wf.cpU | with_reducible apply Wf.fillI | with_reducible apply Wf.clU | with_reducible apply Wf.dnF | with_reducible apply Wf.gbW))) (ixn (show n < 900 by omega) (by decide)) ?_
  refine a_aload_n dX11_lays_23 rfl ?_
  refine a_aload_n dX11_lays_24 rfl ?_
  refine a_getI dX11_lays_25 fs_X11_110 rfl (co_338 (by repeat (first | with_reducible exact hw | with_reducible exact hwc | with_reducible assumption | with_reducible apply Wf.sI | with_reducible apply Wf.sL | with_reducible apply Wf.cpI | with_reducible apply Wf.cpL | with_reducible apply Wf.cp2 | with_reducible apply Wf.sIs | with_reducible apply Wf.sLs | with_reducible apply Wf.cpU | with_reducible apply Wf.fillI | with_reducible apply Wf.clU | with_reducible apply Wf.dnF | with_reducible apply Wf.gbW))) ?_
  rw [gI_sI, if_neg (by omega), hl]
  refine a_iconst (1 : Int32) dX11_lays_28 (by decide) ?_
  refine a_iadd dX11_lays_29 ?_
  rw [nI_1]
  refine a_putI dX11_lays_30 fs_X11_110 rfl rfl rfl (co_338 (by repeat (first | with_reducible exact hw | with_reducible exact hwc | with_reducible assumption | with_reducible apply Wf.sI | with_reducible apply Wf.sL | with_reducible apply Wf.cpI | with_reducible apply Wf.cpL | with_reducible apply Wf.cp2 | with_reducible apply Wf.sIs | with_reducible apply Wf.sLs | with_reducible apply Wf.cpU | with_reducible apply Wf.fillI | with_reducible apply Wf.clU | with_reducible apply Wf.dnF | with_reducible apply Wf.gbW))) ?_
  refine a_iload_n dX11_lays_33 rfl ?_
  refine a_bipush (8 : Int32) dX11_lays_34 (by decide) ?_
  refine a_isub dX11_lays_36 ?_
  refine a_istore_n dX11_lays_37 (by decide) ?_
  refine a_goto (tgt := 3) dX11_lays_38 (by decide) ?_
  unfold ly1 lyB at kx
  exact a_loc _ rfl kx
def LyQ (μ V : Wd) (n : Nat) (v : Int32) : Prop := Out sLy μ V ∧ gI V 338 17 = nI (n + 4) ∧ (∀ k, k ≠ 17 → gI V 338 k = gI μ 338 k) ∧ (∀ j, j < 4 → gI V 352 (n + j) = lyC v j) ∧ (∀ k, k < n ∨ n + 4 ≤ k → gI V 352 k = gI μ 352 k) ∧ ∀ k, gL V 338 k = gL μ 338 k
theorem m_lays (hw : Wf μ) {n : Nat} (hn : n + 4 ≤ 900) (hl : gI μ 338 17 = nI n) (v : Int32) : CV Y_X11_lays R_X11_lays [.ref 338, .int v] μ (fun r V => r = none ∧ LyQ μ V n v) := by
  obtain ⟨a1, a2, a3, a4, a5, a6⟩ := ly1_f (n := n) (v := v) (s := 24) hw
  obtain ⟨b1, b2, b3, b4, b5, b6⟩ := ly1_f (n := n + 1) (v := v) (s := 16) a1
  obtain ⟨c1, c2, c3, c4, c5, c6⟩ := ly1_f (n := n + 1 + 1) (v := v) (s := 8) b1
  obtain ⟨d1, d2, d3, d4, d5, d6⟩ := ly1_f (n := n + 1 + 1 + 1) (v := v) (s := 0) c1
  have hq : LyQ μ (ly1 (ly1 (ly1 (ly1 μ n v 24) (n + 1) v 16) (n + 1 + 1) v 8) (n + 1 + 1 + 1) v 0) n v := by
    refine ⟨((a2.trans b2).trans c2).trans d2, d3, fun k hk => by rw [d4 k hk, c4 k hk, b4 k hk, a4 k hk], fun j hj => ?_, fun k hk => by rw [d5, if_neg (by omega), c5, if_neg (by omega), b5, if_neg (by omega), a5, if_neg (by omega)], fun k => by rw [d6, c6, b6, a6]⟩
    rw [d5, c5, b5, a5]
    rcases (by omega : j = 0 ∨ j = 1 ∨ j = 2 ∨ j = 3) with rfl | rfl | rfl | rfl
    · rw [if_neg (by omega), if_neg (by omega), if_neg (by omega), if_pos (by omega)]; rfl
    · rw [if_neg (by omega), if_neg (by omega), if_pos (by omega)]; rfl
    · rw [if_neg (by omega), if_pos (by omega)]; rfl
    · rw [if_pos (by omega)]; rfl
  refine ⟨none, _, Ct.ent yk_X11_lays (Nat.le_of_ble_eq_true rfl) ?_, rfl, hq⟩
  refine a_bipush (24 : Int32) dX11_lays_0 (by decide) ?_
  refine a_istore_n dX11_lays_2 (by decide) ?_
  refine a_loc [(0, .ref 338), (1, .int v), (2, .int (24))] rfl (l_X11_lays_3 hw (by decide) (by omega) hl ?_)
  rw [show (24 : Int32) - 8 = 16 from rfl]
  refine l_X11_lays_3 a1 (by decide) (by omega) a3 ?_
  rw [show (16 : Int32) - 8 = 8 from rfl]
  refine l_X11_lays_3 b1 (by decide) (by omega) b3 ?_
  rw [show (8 : Int32) - 8 = 0 from rfl]
  refine l_X11_lays_3 c1 (by decide) (by omega) c3 ?_
  rw [show (0 : Int32) - 8 = -8 from rfl]
  refine a_iload_n dX11_lays_3 rfl ?_
  refine a_if_lt (tgt := 41) dX11_lays_4 (by decide) (fun h4 => ?_) (fun h4 => absurd h4 (by decide))
  exact a_out rfl rfl (a_return dX11_lays_41 rfl)
abbrev R_X11_feed : Room := { frames := 1, cells := 0, slots := 0, locals := 22 }
abbrev RX_X11_feed : Room := { frames := 1, cells := 1, slots := 6, locals := 22 }

def fmC (a b c d e : Int32) (j : Nat) : Int32 := if j < 4 then lyC a j else if j < 8 then lyC b (j - 4) else if j < 12 then lyC c (j - 8) else if j < 16 then lyC d (j - 12) else lyC e (j - 16)
theorem fm_by (a b c d e : Int32) (j : Nat) : ∃ y, y < 256 ∧ fmC a b c d e j = nI y ∧ fdC a b c d e j = sby y := by
  unfold fmC fdC
  split
  · exact by_c a j
  · split
    · exact by_c b (j - 4)
    · split
      · exact by_c c (j - 8)
      · split
        · exact by_c d (j - 12)
        · exact by_c e (j - 16)
def FedM (μ V : Wd) (n : Nat) (a b c d e : Int32) : Prop := Out sLy μ V ∧ gI V 338 17 = nI (n + 20) ∧ gI V 338 0 = 0 ∧ (∀ k, k ≠ 17 → k ≠ 0 → gI V 338 k = gI μ 338 k) ∧ (∀ j, j < 20 → gI V 352 (n + j) = fmC a b c d e j) ∧ ∀ k, k < n ∨ n + 20 ≤ k → gI V 352 k = gI μ 352 k
theorem fm_all {A B C D E : Wd} {n : Nat} {a b c d e : Int32} (hw : Wf μ) (ha : LyQ (sI μ 338 0 0) A n a) (hb : LyQ A B (n + 4) b) (hc : LyQ B C (n + 8) c) (hd : LyQ C D (n + 12) d) (he : LyQ D E (n + 16) e) : FedM μ E n a b c d e := by
  obtain ⟨a1, a2, a3, a4, a5, a6⟩ := ha
  obtain ⟨b1, b2, b3, b4, b5, b6⟩ := hb
  obtain ⟨c1, c2, c3, c4, c5, c6⟩ := hc
  obtain ⟨d1, d2, d3, d4, d5, d6⟩ := hd
  obtain ⟨e1, e2, e3, e4, e5, e6⟩ := he
  have h0 : Out sLy μ (sI μ 338 0 0) := (Out.rfl' hw).sI (S := sLy) (Or.inl rfl) _ _
  refine ⟨((((h0.trans a1).trans b1).trans c1).trans d1).trans e1, e2, by rw [e3 _ (by decide), d3 _ (by decide), c3 _ (by decide), b3 _ (by decide), a3 _ (by decide), gI_sI, if_pos ⟨rfl, rfl⟩], fun k hk h0 => by rw [e3 k hk, d3 k hk, c3 k hk, b3 k hk, a3 k hk, gI_sI, if_neg (by omega)], fun j hj => ?_, fun k hk => by rw [e5 k (by omega), d5 k (by omega), c5 k (by omega), b5 k (by omega), a5 k (by omega), gI_sI, if_neg (by omega)]⟩
  unfold fmC
  by_cases z1 : j < 4
  · rw [if_pos z1, e5 _ (by omega), d5 _ (by omega), c5 _ (by omega), b5 _ (by omega)]; exact a4 j z1
  · rw [if_neg z1]
    by_cases z2 : j < 8
    · rw [if_pos z2, e5 _ (by omega), d5 _ (by omega), c5 _ (by omega), ← b4 (j - 4) (by omega), show n + 4 + (j - 4) = n + j by omega]
    · rw [if_neg z2]
      by_cases z3 : j < 12
      · rw [if_pos z3, e5 _ (by omega), d5 _ (by omega), ← c4 (j - 8) (by omega), show n + 8 + (j - 8) = n + j by omega]
      · rw [if_neg z3]
        by_cases z4 : j < 16
        · rw [if_pos z4, e5 _ (by omega), ← d4 (j - 12) (by omega), show n + 12 + (j - 12) = n + j by omega]
        · rw [if_neg z4, ← e4 (j - 16) (by omega), show n + 16 + (j - 16) = n + j by omega]
theorem m_feed (hw : Wf μ) {n : Nat} (hn : n + 20 ≤ 900) (hl : gI μ 338 17 = nI n) (a b c d e : Int32) : CV Y_X11_feed R_X11_feed [.ref 338, .int a, .int b, .int c, .int d, .int e] μ (fun v V => v = some (.int (nI (n + 20))) ∧ FedM μ V n a b c d e) := by
  refine CV.ent yk_X11_feed (Nat.le_of_ble_eq_true rfl) ?_
  have hw0 : Wf (sI μ 338 0 0) := hw.sI
  have hl0 : gI (sI μ 338 0 0) 338 17 = nI n := by rw [gI_sI, if_neg (by omega)]; exact hl
  refine lf (a_aload_n dX11_feed_0 rfl) ?_
  refine lf (a_iconst (0 : Int32) dX11_feed_1 (by decide)) ?_
  refine lf (a_putI dX11_feed_2 fs_X11_88 rfl rfl rfl (co_338 (by repeat (first | with_reducible exact hw | with_reducible exact hwc | with_reducible assumption | with_reducible apply Wf.sI | with_reducible apply Wf.sL | with_reducible apply Wf.cpI | with_reducible apply Wf.cpL | with_reducible apply Wf.cp2 | with_reducible apply Wf.sIs | with_reducible apply Wf.sLs | with_reducible apply Wf.cpU | with_reducible apply Wf.fillI | with_reducible apply Wf.clU | with_reducible apply Wf.dnF | with_reducible apply Wf.gbW)))) ?_
  refine lf (a_aload_n dX11_feed_5 rfl) ?_
  refine lf (a_getI dX11_feed_6 fs_X11_110 rfl (co_338 (by repeat (first | with_reducible exact hw | with_reducible exact hwc | with_reducible assumption | with_reducible apply Wf.sI | with_reducible apply Wf.sL | with_reducible apply Wf.cpI | with_reducible apply Wf.cpL | with_reducible apply Wf.cp2 | with_reducible apply Wf.sIs | with_reducible apply Wf.sLs | with_reducible apply Wf.cpU | with_reducible apply Wf.fillI | with_reducible apply Wf.clU | with_reducible apply Wf.dnF | with_reducible apply Wf.gbW)))) ?_
  rw [hl0]
  refine lf (a_bipush (20 : Int32) dX11_feed_9 (by decide)) ?_
  refine lf (a_iadd dX11_feed_11) ?_
  rw [show (20 : Int32) = nI 20 from rfl, nI_add]
  refine lf (a_sipush (900 : Int32) dX11_feed_12 (by decide)) ?_
  refine lf2 (a_icmp_le (tgt := 24) dX11_feed_15 (by decide)) (fun h15 => ?_) (fun h15 => absurd h15 (fun z => z (nI_le (a := n + 20) (b := 900) (by omega) (by decide))))
  refine lf (a_aload_n dX11_feed_24 rfl) ?_
  refine lf (a_iload_n dX11_feed_25 rfl) ?_
  obtain ⟨v_, W26, k26, rfl, ha⟩ := (m_lays hw0 (n := n + 0) (by omega) hl0 a)
  have hwa := ha.1.1
  refine lf (a_inv (b2 := (0, 0)) k26 rfl dX11_feed_26 yk_X11_lays im_X11_lays se_X11_lays ml_X11_117 rfl (co_338 (by repeat (first | with_reducible exact hw | with_reducible exact hwc | with_reducible assumption | with_reducible apply Wf.sI | with_reducible apply Wf.sL | with_reducible apply Wf.cpI | with_reducible apply Wf.cpL | with_reducible apply Wf.cp2 | with_reducible apply Wf.sIs | with_reducible apply Wf.sLs | with_reducible apply Wf.cpU | with_reducible apply Wf.fillI | with_reducible apply Wf.clU | with_reducible apply Wf.dnF | with_reducible apply Wf.gbW))) (by decide) hc_X11 (by decide) (by decide) (Nat.le_of_ble_eq_true rfl)) ?_
  refine lf (a_aload_n dX11_feed_29 rfl) ?_
  refine lf (a_iload_n dX11_feed_30 rfl) ?_
  obtain ⟨v_, W31, k31, rfl, hb⟩ := (m_lays ha.1.1 (n := n + 4) (by omega) ha.2.1 b)
  have hwb := hb.1.1
  refine lf (a_inv (b2 := (0, 0)) k31 rfl dX11_feed_31 yk_X11_lays im_X11_lays se_X11_lays ml_X11_117 rfl (co_338 (by repeat (first | with_reducible exact hw | with_reducible exact hwc | with_reducible assumption | with_reducible apply Wf.sI | with_reducible apply Wf.sL | with_reducible apply Wf.cpI | with_reducible apply Wf.cpL | with_reducible apply Wf.cp2 | with_reducible apply Wf.sIs | with_reducible apply Wf.sLs | with_reducible apply Wf.cpU | with_reducible apply Wf.fillI | with_reducible apply Wf.clU | with_reducible apply Wf.dnF | with_reducible apply Wf.gbW))) (by decide) hc_X11 (by decide) (by decide) (Nat.le_of_ble_eq_true rfl)) ?_
  refine lf (a_aload_n dX11_feed_34 rfl) ?_
  refine lf (a_iload_n dX11_feed_35 rfl) ?_
  obtain ⟨v_, W36, k36, rfl, hc⟩ := (m_lays hb.1.1 (n := n + 8) (by omega) hb.2.1 c)
  have hwc := hc.1.1
  refine lf (a_inv (b2 := (0, 0)) k36 rfl dX11_feed_36 yk_X11_lays im_X11_lays se_X11_lays ml_X11_117 rfl (co_338 (by repeat (first | with_reducible exact hw | with_reducible exact hwc | with_reducible assumption | with_reducible apply Wf.sI | with_reducible apply Wf.sL | with_reducible apply Wf.cpI | with_reducible apply Wf.cpL | with_reducible apply Wf.cp2 | with_reducible apply Wf.sIs | with_reducible apply Wf.sLs | with_reducible apply Wf.cpU | with_reducible apply Wf.fillI | with_reducible apply Wf.clU | with_reducible apply Wf.dnF | with_reducible apply Wf.gbW))) (by decide) hc_X11 (by decide) (by decide) (Nat.le_of_ble_eq_true rfl)) ?_
  refine lf (a_aload_n dX11_feed_39 rfl) ?_
  refine lf (a_iload dX11_feed_40 rfl) ?_
  obtain ⟨v_, W42, k42, rfl, hd⟩ := (m_lays hc.1.1 (n := n + 12) (by omega) hc.2.1 d)
  have hwd := hd.1.1
  refine lf (a_inv (b2 := (0, 0)) k42 rfl dX11_feed_42 yk_X11_lays im_X11_lays se_X11_lays ml_X11_117 rfl (co_338 (by repeat (first | with_reducible exact hw | with_reducible exact hwc | with_reducible assumption | with_reducible apply Wf.sI | with_reducible apply Wf.sL | with_reducible apply Wf.cpI | with_reducible apply Wf.cpL | with_reducible apply Wf.cp2 | with_reducible apply Wf.sIs | with_reducible apply Wf.sLs | with_reducible apply Wf.cpU | with_reducible apply Wf.fillI | with_reducible apply Wf.clU | with_reducible apply Wf.dnF | with_reducible apply Wf.gbW))) (by decide) hc_X11 (by decide) (by decide) (Nat.le_of_ble_eq_true rfl)) ?_
  refine lf (a_aload_n dX11_feed_45 rfl) ?_
  refine lf (a_iload dX11_feed_46 rfl) ?_
  obtain ⟨v_, W48, k48, rfl, he⟩ := (m_lays hd.1.1 (n := n + 16) (by omega) hd.2.1 e)
  have hwe := he.1.1
  refine lf (a_inv (b2 := (0, 0)) k48 rfl dX11_feed_48 yk_X11_lays im_X11_lays se_X11_lays ml_X11_117 rfl (co_338 (by repeat (first | with_reducible exact hw | with_reducible exact hwc | with_reducible assumption | with_reducible apply Wf.sI | with_reducible apply Wf.sL | with_reducible apply Wf.cpI | with_reducible apply Wf.cpL | with_reducible apply Wf.cp2 | with_reducible apply Wf.sIs | with_reducible apply Wf.sLs | with_reducible apply Wf.cpU | with_reducible apply Wf.fillI | with_reducible apply Wf.clU | with_reducible apply Wf.dnF | with_reducible apply Wf.gbW))) (by decide) hc_X11 (by decide) (by decide) (Nat.le_of_ble_eq_true rfl)) ?_
  refine lf (a_aload_n dX11_feed_51 rfl) ?_
  refine lf (a_getI dX11_feed_52 fs_X11_110 rfl (co_338 (by repeat (first | with_reducible exact hw | with_reducible exact hwc | with_reducible assumption | with_reducible apply Wf.sI | with_reducible apply Wf.sL | with_reducible apply Wf.cpI | with_reducible apply Wf.cpL | with_reducible apply Wf.cp2 | with_reducible apply Wf.sIs | with_reducible apply Wf.sLs | with_reducible apply Wf.cpU | with_reducible apply Wf.fillI | with_reducible apply Wf.clU | with_reducible apply Wf.dnF | with_reducible apply Wf.gbW)))) ?_
  rw [he.2.1]
  refine ⟨_, _, (a_ireturn dX11_feed_55 rfl rfl), ?_⟩
  exact ⟨_, rfl, rfl, fm_all hw ha hb hc hd he⟩
theorem mx_feed (hw : Wf μ) {n : Nat} (hn : 900 < n + 20) (hn2 : n ≤ 900) (hl : gI μ 338 17 = nI n) (a b c d e : Int32) : CV Y_X11_feed R_X11_feed [.ref 338, .int a, .int b, .int c, .int d, .int e] μ (fun v V => v = some (.int 0) ∧ MqQ μ 1 V) := by
  have hw0 : Wf (sI μ 338 0 0) := hw.sI
  have hl0 : gI (sI μ 338 0 0) 338 17 = nI n := by rw [gI_sI, if_neg (by omega)]; exact hl
  refine ⟨some (.int 0), sI (sI μ 338 0 0) 338 0 1, ?_, rfl, ((Out.rfl' hw).sI (S := sMq) (Or.inl rfl) _ _).sI (S := sMq) (Or.inl rfl) _ _, by rw [gI_sI, if_pos ⟨rfl, rfl⟩], fun k hk => by rw [gI_sI, if_neg (by omega), gI_sI, if_neg (by omega)]⟩
  refine Ct.ent yk_X11_feed (Nat.le_of_ble_eq_true rfl) ?_
  refine a_aload_n dX11_feed_0 rfl ?_
  refine a_iconst (0 : Int32) dX11_feed_1 (by decide) ?_
  refine a_putI dX11_feed_2 fs_X11_88 rfl rfl rfl (co_338 (by repeat (first | with_reducible exact hw | with_reducible exact hwc | with_reducible assumption | with_reducible apply Wf.sI | with_reducible apply Wf.sL | with_reducible apply Wf.cpI | with_reducible apply Wf.cpL | with_reducible apply Wf.cp2 | with_reducible apply Wf.sIs | with_reducible apply Wf.sLs | with_reducible apply Wf.cpU | with_reducible apply Wf.fillI | with_reducible apply Wf.clU | with_reducible apply Wf.dnF | with_reducible apply Wf.gbW))) ?_
  refine a_aload_n dX11_feed_5 rfl ?_
  refine a_getI dX11_feed_6 fs_X11_110 rfl (co_338 (by repeat (first | with_reducible exact hw | with_reducible exact hwc | with_reducible assumption | with_reducible apply Wf.sI | with_reducible apply Wf.sL | with_reducible apply Wf.cpI | with_reducible apply Wf.cpL | with_reducible apply Wf.cp2 | with_reducible apply Wf.sIs | with_reducible apply Wf.sLs | with_reducible apply Wf.cpU | with_reducible apply Wf.fillI | with_reducible apply Wf.clU | with_reducible apply Wf.dnF | with_reducible apply Wf.gbW))) ?_
  rw [hl0]
  refine a_bipush (20 : Int32) dX11_feed_9 (by decide) ?_
  refine a_iadd dX11_feed_11 ?_
  rw [show (20 : Int32) = nI 20 from rfl, nI_add]
  refine a_sipush (900 : Int32) dX11_feed_12 (by decide) ?_
  refine a_icmp_le (tgt := 24) dX11_feed_15 (by decide) (fun h15 => absurd h15 (nI_ge (a := 900) (b := n + 20) hn (by omega))) (fun h15 => ?_)
  refine a_aload_n dX11_feed_18 rfl ?_
  refine a_iconst (1 : Int32) dX11_feed_19 (by decide) ?_
  refine a_inv (b2 := (0, 0)) (m_refuse hw0 1) rfl dX11_feed_20 yk_X11_refuse im_X11_refuse se_X11_refuse ml_X11_113 rfl (co_338 (by repeat (first | with_reducible exact hw | with_reducible exact hwc | with_reducible assumption | with_reducible apply Wf.sI | with_reducible apply Wf.sL | with_reducible apply Wf.cpI | with_reducible apply Wf.cpL | with_reducible apply Wf.cp2 | with_reducible apply Wf.sIs | with_reducible apply Wf.sLs | with_reducible apply Wf.cpU | with_reducible apply Wf.fillI | with_reducible apply Wf.clU | with_reducible apply Wf.dnF | with_reducible apply Wf.gbW))) (by decide) hc_X11 (by decide) (by decide) (Nat.le_of_ble_eq_true rfl) ?_
  exact a_out rfl rfl (a_ireturn dX11_feed_23 rfl rfl)
abbrev R_X11_load : Room := { frames := 11, cells := 0, slots := 0, locals := 234 }
abbrev RX_X11_load : Room := { frames := 11, cells := 1, slots := 6, locals := 234 }

/-- behind a load that was refused for its length; for its text -/
theorem mx_load (hw : Wf μ) {v : Int32} {L : Nat} (hl : gI μ 338 17 = nI L) (hv : inI v 0 (nI L) = 0) : CV Y_X11_load R_X11_load [.ref 338, .int v] μ (fun r V => r = some (.int 0) ∧ MqQ μ 1 V) := by
  refine ⟨some (.int 0), sI μ 338 0 1, ?_, rfl, MqQ.of hw 1⟩
  refine Ct.ent yk_X11_load (Nat.le_of_ble_eq_true rfl) ?_
  refine a_aload_n dX11_load_0 rfl ?_
  refine a_iload_n dX11_load_1 rfl ?_
  refine a_iconst (0 : Int32) dX11_load_2 (by decide) ?_
  refine a_aload_n dX11_load_3 rfl ?_
  refine a_getI dX11_load_4 fs_X11_110 rfl (co_338 (by repeat (first | with_reducible exact hw | with_reducible exact hwc | with_reducible assumption | with_reducible apply Wf.sI | with_reducible apply Wf.sL | with_reducible apply Wf.cpI | with_reducible apply Wf.cpL | with_reducible apply Wf.cp2 | with_reducible apply Wf.sIs | with_reducible apply Wf.sLs | with_reducible apply Wf.cpU | with_reducible apply Wf.fillI | with_reducible apply Wf.clU | with_reducible apply Wf.dnF | with_reducible apply Wf.gbW))) ?_
  rw [hl]
  refine a_invS (b2 := (0, 0)) (Ct.int hv (m_in v 0 (nI L))) rfl dX11_load_7 yk_X11_in sm_X11_in ml_X11_102 rfl (by decide) (by decide) (Nat.le_of_ble_eq_true rfl) ?_
  refine a_if_eq (tgt := 17) dX11_load_10 (by decide) (fun h10 => ?_) (fun h10 => absurd h10 (by decide))
  refine a_iconst (1 : Int32) dX11_load_17 (by decide) ?_
  refine a_inv (b2 := (0, 0)) (m_isRefused1 (by repeat (first | with_reducible exact hw | with_reducible exact hwc | with_reducible assumption | with_reducible apply Wf.sI | with_reducible apply Wf.sL | with_reducible apply Wf.cpI | with_reducible apply Wf.cpL | with_reducible apply Wf.cp2 | with_reducible apply Wf.sIs | with_reducible apply Wf.sLs | with_reducible apply Wf.cpU | with_reducible apply Wf.fillI | with_reducible apply Wf.clU | with_reducible apply Wf.dnF | with_reducible apply Wf.gbW)) (v := 1) (by decide)) rfl dX11_load_18 yk_X11_isRefused im_X11_isRefused se_X11_isRefused ml_X11_98 rfl (co_338 (by repeat (first | with_reducible exact hw | with_reducible exact hwc | with_reducible assumption | with_reducible apply Wf.sI | with_reducible apply Wf.sL | with_reducible apply Wf.cpI | with_reducible apply Wf.cpL | with_reducible apply Wf.cp2 | with_reducible apply Wf.sIs | with_reducible apply Wf.sLs | with_reducible apply Wf.cpU | with_reducible apply Wf.fillI | with_reducible apply Wf.clU | with_reducible apply Wf.dnF | with_reducible apply Wf.gbW))) (by decide) hc_X11 (by decide) (by decide) (Nat.le_of_ble_eq_true rfl) ?_
  refine a_if_eq (tgt := 26) dX11_load_21 (by decide) (fun h21 => absurd h21 (by decide)) (fun h21 => ?_)
  refine a_iconst (0 : Int32) dX11_load_24 (by decide) ?_
  exact a_out rfl rfl (a_ireturn dX11_load_25 rfl rfl)
abbrev sLm : Nat → Prop := fun i => sPa i ∨ sTk i
def LmF (μ V : Wd) : Prop := Out sLm μ V ∧ gI V 338 17 = 0 ∧ ∀ k, k ≠ 0 → k ≠ 14 → k ≠ 15 → k ≠ 17 → k < 18 ∨ 28 ≤ k → gI V 338 k = gI μ 338 k
def LmE (μ V : Wd) (e : Nat × Nat) : Prop := Out sPa μ V ∧ gI V 338 0 = 2 ∧ gI V 338 17 = 0 ∧ gI V 338 23 = nI e.1 ∧ gI V 338 24 = nI e.2 ∧ ∀ k, k ≠ 0 → k ≠ 17 → k < 18 ∨ 28 ≤ k → gI V 338 k = gI μ 338 k
def LmQ (μ V : Wd) (z : PZ) (d : FDt) : Prop := LmF μ V ∧ GzD z ∧ MnV V z.1 (ldA z d) ∧ MpV V z.1 (0, fun _ => d) ∧ MsV V z.1 (fun _ => none) ∧ gI V 338 0 = 0 ∧ gI V 338 15 = 0 ∧ gI V 338 23 = 0 ∧ gI V 338 24 = -1 ∧ ∀ i, i < pM z.1 → gL V 341 i = lN (wvN (z.2.2.2 i))
def ldW (μ : Wd) (n : Nat) : Wd := sI (sI (sI (sI (sI (sI μ 338 0 0) 338 19 (nI n)) 338 18 0) 338 17 0) 338 23 0) 338 24 (-1)
abbrev s38' : Nat → Prop := fun i => i = 338
theorem ldW_f (hw : Wf μ) : Wf (ldW μ n) ∧ Out s38' μ (ldW μ n) ∧ (gI (ldW μ n) 338 19 = nI n ∧ gI (ldW μ n) 338 18 = 0 ∧ gI (ldW μ n) 338 17 = 0 ∧ gI (ldW μ n) 338 23 = 0 ∧ gI (ldW μ n) 338 24 = -1 ∧ gI (ldW μ n) 338 0 = 0) ∧ ∀ k, k ≠ 0 → k ≠ 17 → k < 18 ∨ 28 ≤ k → gI (ldW μ n) 338 k = gI μ 338 k := by
  unfold ldW
  refine ⟨hw.sI.sI.sI.sI.sI.sI, ((((((Out.rfl' hw).sI (S := s38') rfl _ _).sI (S := s38') rfl _ _).sI (S := s38') rfl _ _).sI (S := s38') rfl _ _).sI (S := s38') rfl _ _).sI (S := s38') rfl _ _, ⟨?_, ?_, ?_, ?_, ?_, ?_⟩, fun k h0 h1 h2 => ?_⟩
  · rw [gI_sI, if_neg (by omega), gI_sI, if_neg (by omega), gI_sI, if_neg (by omega), gI_sI, if_neg (by omega), gI_sI, if_pos ⟨rfl, rfl⟩]
  · rw [gI_sI, if_neg (by omega), gI_sI, if_neg (by omega), gI_sI, if_neg (by omega), gI_sI, if_pos ⟨rfl, rfl⟩]
  · rw [gI_sI, if_neg (by omega), gI_sI, if_neg (by omega), gI_sI, if_pos ⟨rfl, rfl⟩]
  · rw [gI_sI, if_neg (by omega), gI_sI, if_pos ⟨rfl, rfl⟩]
  · rw [gI_sI, if_pos ⟨rfl, rfl⟩]
  · rw [gI_sI, if_neg (by omega), gI_sI, if_neg (by omega), gI_sI, if_neg (by omega), gI_sI, if_neg (by omega), gI_sI, if_neg (by omega), gI_sI, if_pos ⟨rfl, rfl⟩]
  · rw [gI_sI, if_neg (by omega), gI_sI, if_neg (by omega), gI_sI, if_neg (by omega), gI_sI, if_neg (by omega), gI_sI, if_neg (by omega), gI_sI, if_neg (by omega)]
theorem ldW_tx (hw : Wf μ) (hn : n ≤ 900) (hB : ∀ k, k < n → B k < 256 ∧ gI μ 352 k = nI (B k)) : TxV B n 0 (ldW μ n) := by
  obtain ⟨_, hO, ⟨e19, e18, _⟩, _⟩ := ldW_f (n := n) hw
  exact ⟨hn, Nat.zero_le _, e19, fun k hk => ⟨(hB k hk).1, (hO.i (by decide) k).trans (hB k hk).2⟩, 0, e18, Nat.zero_le _, rfl⟩
theorem in_le {L : Nat} (hn : n ≤ L) (hL : L ≤ 900) : inI (nI n) 0 (nI L) = 1 := by
  unfold inI
  rw [if_neg (nI_pos (by omega)), if_neg (by rw [nI_ltI (by omega) (by omega)]; omega)]
theorem mr_load (hw : Wf μ) {L : Nat} (hl : gI μ 338 17 = nI L) (hn : n ≤ L) (hL : L ≤ 900) (hB : ∀ k, k < n → B k < 256 ∧ gI μ 352 k = nI (B k)) {m0 : Int32} {A0 : Nat → Int64} {e : Nat × Nat} (he : rdS B n (n + 1) 0 (rz0 m0 A0) = .inl e) : CV Y_X11_load R_X11_load [.ref 338, .int (nI n)] μ (fun r V => r = some (.int 0) ∧ LmE μ V e) := by
  refine CV.ent yk_X11_load (Nat.le_of_ble_eq_true rfl) ?_
  have hLW := ldW_f (n := n) hw
  have hwL := hLW.1
  refine lf (a_aload_n dX11_load_0 rfl) ?_
  refine lf (a_iload_n dX11_load_1 rfl) ?_
  refine lf (a_iconst (0 : Int32) dX11_load_2 (by decide)) ?_
  refine lf (a_aload_n dX11_load_3 rfl) ?_
  refine lf (a_getI dX11_load_4 fs_X11_110 rfl (co_338 (by repeat (first | with_reducible exact hw | with_reducible exact hwc | with_reducible assumption | with_reducible apply Wf.sI | with_reducible apply Wf.sL | with_reducible apply Wf.cpI | with_reducible apply Wf.cpL | with_reducible apply Wf.cp2 | with_reducible apply Wf.sIs | with_reducible apply Wf.sLs | with_reducible apply Wf.cpU | with_reducible apply Wf.fillI | with_reducible apply Wf.clU | with_reducible apply Wf.dnF | with_reducible apply Wf.gbW)))) ?_
  rw [hl]
  refine lf (a_invS (b2 := (0, 0)) (Ct.int (in_le hn hL) (m_in (nI n) 0 (nI L))) rfl dX11_load_7 yk_X11_in sm_X11_in ml_X11_102 rfl (by decide) (by decide) (Nat.le_of_ble_eq_true rfl)) ?_
  refine lf2 (a_if_eq (tgt := 17) dX11_load_10 (by decide)) (fun h10 => absurd h10 (by decide)) (fun h10 => ?_)
  refine lf (a_iconst (0 : Int32) dX11_load_13 (by decide)) ?_
  refine lf (a_goto (tgt := 18) dX11_load_14 (by decide)) ?_
  refine lf (a_inv (b2 := (0, 0)) (m_isRefused0 (by repeat (first | with_reducible exact hw | with_reducible exact hwc | with_reducible assumption | with_reducible apply Wf.sI | with_reducible apply Wf.sL | with_reducible apply Wf.cpI | with_reducible apply Wf.cpL | with_reducible apply Wf.cp2 | with_reducible apply Wf.sIs | with_reducible apply Wf.sLs | with_reducible apply Wf.cpU | with_reducible apply Wf.fillI | with_reducible apply Wf.clU | with_reducible apply Wf.dnF | with_reducible apply Wf.gbW))) rfl dX11_load_18 yk_X11_isRefused im_X11_isRefused se_X11_isRefused ml_X11_98 rfl (co_338 (by repeat (first | with_reducible exact hw | with_reducible exact hwc | with_reducible assumption | with_reducible apply Wf.sI | with_reducible apply Wf.sL | with_reducible apply Wf.cpI | with_reducible apply Wf.cpL | with_reducible apply Wf.cp2 | with_reducible apply Wf.sIs | with_reducible apply Wf.sLs | with_reducible apply Wf.cpU | with_reducible apply Wf.fillI | with_reducible apply Wf.clU | with_reducible apply Wf.dnF | with_reducible apply Wf.gbW))) (by decide) hc_X11 (by decide) (by decide) (Nat.le_of_ble_eq_true rfl)) ?_
  refine lf2 (a_if_eq (tgt := 26) dX11_load_21 (by decide)) (fun h21 => ?_) (fun h21 => absurd h21 (by decide))
  refine lf (a_aload_n dX11_load_26 rfl) ?_
  refine lf (a_iload_n dX11_load_27 rfl) ?_
  refine lf (a_putI dX11_load_28 fs_X11_127 rfl rfl rfl (co_338 (by repeat (first | with_reducible exact hw | with_reducible exact hwc | with_reducible assumption | with_reducible apply Wf.sI | with_reducible apply Wf.sL | with_reducible apply Wf.cpI | with_reducible apply Wf.cpL | with_reducible apply Wf.cp2 | with_reducible apply Wf.sIs | with_reducible apply Wf.sLs | with_reducible apply Wf.cpU | with_reducible apply Wf.fillI | with_reducible apply Wf.clU | with_reducible apply Wf.dnF | with_reducible apply Wf.gbW)))) ?_
  refine lf (a_aload_n dX11_load_31 rfl) ?_
  refine lf (a_iconst (0 : Int32) dX11_load_32 (by decide)) ?_
  refine lf (a_putI dX11_load_33 fs_X11_130 rfl rfl rfl (co_338 (by repeat (first | with_reducible exact hw | with_reducible exact hwc | with_reducible assumption | with_reducible apply Wf.sI | with_reducible apply Wf.sL | with_reducible apply Wf.cpI | with_reducible apply Wf.cpL | with_reducible apply Wf.cp2 | with_reducible apply Wf.sIs | with_reducible apply Wf.sLs | with_reducible apply Wf.cpU | with_reducible apply Wf.fillI | with_reducible apply Wf.clU | with_reducible apply Wf.dnF | with_reducible apply Wf.gbW)))) ?_
  refine lf (a_aload_n dX11_load_36 rfl) ?_
  refine lf (a_iconst (0 : Int32) dX11_load_37 (by decide)) ?_
  refine lf (a_putI dX11_load_38 fs_X11_110 rfl rfl rfl (co_338 (by repeat (first | with_reducible exact hw | with_reducible exact hwc | with_reducible assumption | with_reducible apply Wf.sI | with_reducible apply Wf.sL | with_reducible apply Wf.cpI | with_reducible apply Wf.cpL | with_reducible apply Wf.cp2 | with_reducible apply Wf.sIs | with_reducible apply Wf.sLs | with_reducible apply Wf.cpU | with_reducible apply Wf.fillI | with_reducible apply Wf.clU | with_reducible apply Wf.dnF | with_reducible apply Wf.gbW)))) ?_
  refine lf (a_aload_n dX11_load_41 rfl) ?_
  refine lf (a_iconst (0 : Int32) dX11_load_42 (by decide)) ?_
  refine lf (a_putI dX11_load_43 fs_X11_121 rfl rfl rfl (co_338 (by repeat (first | with_reducible exact hw | with_reducible exact hwc | with_reducible assumption | with_reducible apply Wf.sI | with_reducible apply Wf.sL | with_reducible apply Wf.cpI | with_reducible apply Wf.cpL | with_reducible apply Wf.cp2 | with_reducible apply Wf.sIs | with_reducible apply Wf.sLs | with_reducible apply Wf.cpU | with_reducible apply Wf.fillI | with_reducible apply Wf.clU | with_reducible apply Wf.dnF | with_reducible apply Wf.gbW)))) ?_
  refine lf (a_aload_n dX11_load_46 rfl) ?_
  refine lf (a_iconst (-1 : Int32) dX11_load_47 (by decide)) ?_
  refine lf (a_putI dX11_load_48 fs_X11_54 rfl rfl rfl (co_338 (by repeat (first | with_reducible exact hw | with_reducible exact hwc | with_reducible assumption | with_reducible apply Wf.sI | with_reducible apply Wf.sL | with_reducible apply Wf.cpI | with_reducible apply Wf.cpL | with_reducible apply Wf.cp2 | with_reducible apply Wf.sIs | with_reducible apply Wf.sLs | with_reducible apply Wf.cpU | with_reducible apply Wf.fillI | with_reducible apply Wf.clU | with_reducible apply Wf.dnF | with_reducible apply Wf.gbW)))) ?_
  show WP _ _ _ (ldW μ n) _ _ _ _
  refine lf (a_aload_n dX11_load_51 rfl) ?_
  refine lf (a_aload_n dX11_load_52 rfl) ?_
  obtain ⟨v_, W53, k53, hR53⟩ := (m_readFlight hwL (ldW_tx hw (by omega) hB) hLW.2.2.1.2.2.2.1 hLW.2.2.1.2.2.2.2.1 m0 A0)
  obtain ⟨hF53, hR53⟩ := hR53
  rw [he] at hR53
  obtain ⟨rfl, e23, e24⟩ := hR53
  have hwV := hF53.1.1
  refine lf (a_inv (b2 := (0, 0)) k53 rfl dX11_load_53 yk_X11_readFlight im_X11_readFlight se_X11_readFlight ml_X11_288 rfl (co_338 (by repeat (first | with_reducible exact hw | with_reducible exact hwc | with_reducible assumption | with_reducible apply Wf.sI | with_reducible apply Wf.sL | with_reducible apply Wf.cpI | with_reducible apply Wf.cpL | with_reducible apply Wf.cp2 | with_reducible apply Wf.sIs | with_reducible apply Wf.sLs | with_reducible apply Wf.cpU | with_reducible apply Wf.fillI | with_reducible apply Wf.clU | with_reducible apply Wf.dnF | with_reducible apply Wf.gbW))) (by decide) hc_X11 (by decide) (by decide) (Nat.le_of_ble_eq_true rfl)) ?_
  refine lf2 (a_if_eq (tgt := 63) dX11_load_56 (by decide)) (fun h56 => ?_) (fun h56 => absurd h56 (by decide))
  refine lf (a_iconst (2 : Int32) dX11_load_63 (by decide)) ?_
  refine lf (a_inv (b2 := (0, 0)) (m_isRefused1 hwV (v := 2) (by decide)) rfl dX11_load_64 yk_X11_isRefused im_X11_isRefused se_X11_isRefused ml_X11_98 rfl (co_338 (by repeat (first | with_reducible exact hw | with_reducible exact hwc | with_reducible assumption | with_reducible apply Wf.sI | with_reducible apply Wf.sL | with_reducible apply Wf.cpI | with_reducible apply Wf.cpL | with_reducible apply Wf.cp2 | with_reducible apply Wf.sIs | with_reducible apply Wf.sLs | with_reducible apply Wf.cpU | with_reducible apply Wf.fillI | with_reducible apply Wf.clU | with_reducible apply Wf.dnF | with_reducible apply Wf.gbW))) (by decide) hc_X11 (by decide) (by decide) (Nat.le_of_ble_eq_true rfl)) ?_
  refine lf2 (a_if_eq (tgt := 72) dX11_load_67 (by decide)) (fun h67 => absurd h67 (by decide)) (fun h67 => ?_)
  refine lf (a_iconst (0 : Int32) dX11_load_70 (by decide)) ?_
  refine ⟨_, _, (a_ireturn dX11_load_71 rfl rfl), ?_⟩
  refine ⟨_, rfl, rfl, (((hLW.2.1.mono (S' := sPa) (fun i y => Or.inl y)).trans hF53.1).sI (S := sPa) (Or.inl rfl) _ _), by rw [gI_sI, if_pos ⟨rfl, rfl⟩], ?_, ?_, ?_, fun k h0 h1 h2 => ?_⟩
  · rw [gI_sI, if_neg (by omega), hF53.2.1 17 (by decide)]; exact hLW.2.2.1.2.2.1
  · rw [gI_sI, if_neg (by omega)]; exact e23
  · rw [gI_sI, if_neg (by omega)]; exact e24
  · rw [gI_sI, if_neg (by omega), hF53.2.1 k (by omega)]; exact hLW.2.2.2 k h0 h1 h2
theorem ld_mn (hW : Wf W) (hD : DrV z W) (hg : GzD z) {d : FDt} (ha : ∀ k, k < 6 → gL W 348 k = dA d k) : MnV (tkW W) z.1 (ldA z d) ∧ MpV (tkW W) z.1 (0, fun _ => d) ∧ MsV (tkW W) z.1 (fun _ => none) ∧ ∀ i, i < pM z.1 → gL (tkW W) 341 i = lN (wvN (z.2.2.2 i)) := by
  obtain ⟨tO, t14, t15, tk, t0, t1, tP, tS, tN⟩ := tk_f hW
  have hC4 := hg.q.C4
  have hM4 := hg.q.M4
  have hT4 := hg.q.T4
  have hP4 := hg.P4
  have hfit : FitD z.1 (ldA z d) := by
    refine ⟨⟨hC4, hM4, hT4, hP4, ?_⟩, Or.inl ?_, hg.q.z⟩
    · show dU z.2.1 ≤ 6
      rw [hg.u0]; decide
    · show up2 (dF z.2.1) 6 1 (pF z.1 9 1) 6 0 = 0
      rw [up2_ne (by omega)]; exact hg.srv
  have hs0 : dF (ldA z d) 6 0 = 0 := by
    show up2 (dF z.2.1) 6 1 (pF z.1 9 1) 6 0 = 0
    rw [up2_ne (by omega)]; exact hg.srv
  have hne : ∀ a i, a ≠ 6 → dF (ldA z d) a i = dF z.2.1 a i := fun a i ha => up2_ne (fun y => ha y.1)
  obtain ⟨hq, ⟨⟨r0, r1, r2, r3, r4⟩, rb, rc⟩, h3, h4⟩ := hD
  refine ⟨MnV.of ?_ hfit ⟨?_, ⟨?_, ?_, ?_, ?_, fun i hi => ?_, fun i hi => ?_, fun t k ht hk => ?_⟩, ⟨fun i hi => ?_, fun m hm => ?_⟩⟩ (fun k hk => (tO.l (by decide) k).trans (ha k hk)), ⟨t14, Nat.zero_le _, fun i hi => absurd hi (Nat.not_lt_zero i)⟩, fun j hj => ?_, fun i hi => (tN i (by omega)).trans (h4 i hi)⟩
  · refine hq.ext fun k hk => tP k ?_
    unfold Lv at hk; omega
  · rw [tS 0 (by decide), r0]; exact hg.told.symm
  · rw [tS 1 (by decide), r1]; exact hs0.symm
  · rw [tS 2 (by decide), r2]; exact (show up2 (dF z.2.1) 6 1 (pF z.1 9 1) 6 1 = _ from up2_eq _ _ _ _).symm
  · rw [tS 3 (by decide)]; exact r3
  · rw [tS 4 (by decide), r4]
    show (0 : Int32) = nI (dU z.2.1)
    rw [hg.u0]; rfl
  · have hi : i < dP z.2.1 := hi
    rw [tS _ (by omega), tS _ (by omega), tS _ (by omega), hne _ _ (by decide), hne _ _ (by decide), hne _ _ (by decide)]
    exact ⟨(rb i hi).1, (rb i hi).2.1, (rb i hi).2.2.1⟩
  · have hi : i < dU z.2.1 := hi
    rw [hg.u0] at hi
    exact absurd hi (Nat.not_lt_zero i)
  · rw [tS _ (by omega), hne _ _ (by omega), hg.un _ _ (by omega)]
    exact rc _ (by omega) (by omega)
  · have hi : i < dP z.2.1 := hi
    rw [tS _ (by omega), if_pos hs0]
    exact (rb i hi).2.2.2
  · have hm : m < pM z.1 := hm
    rw [tS _ (by omega), if_pos hs0]
    exact rc _ (by omega) (by omega)
  · rcases (by omega : j = 0 ∨ j = 1) with rfl | rfl
    · exact t0
    · exact t1
theorem m_load (hw : Wf μ) {L : Nat} (hl : gI μ 338 17 = nI L) (hn : n ≤ L) (hL : L ≤ 900) (hB : ∀ k, k < n → B k < 256 ∧ gI μ 352 k = nI (B k)) {m0 : Int32} {A0 : Nat → Int64} {d : FDt} (ha : ∀ k, k < 6 → gL μ 348 k = dA d k) (he : rdS B n (n + 1) 0 (rz0 m0 A0) = .inr z) : CV Y_X11_load R_X11_load [.ref 338, .int (nI n)] μ (fun r V => r = some (.int (nI (dP z.2.1))) ∧ LmQ μ V z d) := by
  refine CV.ent yk_X11_load (Nat.le_of_ble_eq_true rfl) ?_
  have hLW := ldW_f (n := n) hw
  have hwL := hLW.1
  refine lf (a_aload_n dX11_load_0 rfl) ?_
  refine lf (a_iload_n dX11_load_1 rfl) ?_
  refine lf (a_iconst (0 : Int32) dX11_load_2 (by decide)) ?_
  refine lf (a_aload_n dX11_load_3 rfl) ?_
  refine lf (a_getI dX11_load_4 fs_X11_110 rfl (co_338 (by repeat (first | with_reducible exact hw | with_reducible exact hwc | with_reducible assumption | with_reducible apply Wf.sI | with_reducible apply Wf.sL | with_reducible apply Wf.cpI | with_reducible apply Wf.cpL | with_reducible apply Wf.cp2 | with_reducible apply Wf.sIs | with_reducible apply Wf.sLs | with_reducible apply Wf.cpU | with_reducible apply Wf.fillI | with_reducible apply Wf.clU | with_reducible apply Wf.dnF | with_reducible apply Wf.gbW)))) ?_
  rw [hl]
  refine lf (a_invS (b2 := (0, 0)) (Ct.int (in_le hn hL) (m_in (nI n) 0 (nI L))) rfl dX11_load_7 yk_X11_in sm_X11_in ml_X11_102 rfl (by decide) (by decide) (Nat.le_of_ble_eq_true rfl)) ?_
  refine lf2 (a_if_eq (tgt := 17) dX11_load_10 (by decide)) (fun h10 => absurd h10 (by decide)) (fun h10 => ?_)
  refine lf (a_iconst (0 : Int32) dX11_load_13 (by decide)) ?_
  refine lf (a_goto (tgt := 18) dX11_load_14 (by decide)) ?_
  refine lf (a_inv (b2 := (0, 0)) (m_isRefused0 (by repeat (first | with_reducible exact hw | with_reducible exact hwc | with_reducible assumption | with_reducible apply Wf.sI | with_reducible apply Wf.sL | with_reducible apply Wf.cpI | with_reducible apply Wf.cpL | with_reducible apply Wf.cp2 | with_reducible apply Wf.sIs | with_reducible apply Wf.sLs | with_reducible apply Wf.cpU | with_reducible apply Wf.fillI | with_reducible apply Wf.clU | with_reducible apply Wf.dnF | with_reducible apply Wf.gbW))) rfl dX11_load_18 yk_X11_isRefused im_X11_isRefused se_X11_isRefused ml_X11_98 rfl (co_338 (by repeat (first | with_reducible exact hw | with_reducible exact hwc | with_reducible assumption | with_reducible apply Wf.sI | with_reducible apply Wf.sL | with_reducible apply Wf.cpI | with_reducible apply Wf.cpL | with_reducible apply Wf.cp2 | with_reducible apply Wf.sIs | with_reducible apply Wf.sLs | with_reducible apply Wf.cpU | with_reducible apply Wf.fillI | with_reducible apply Wf.clU | with_reducible apply Wf.dnF | with_reducible apply Wf.gbW))) (by decide) hc_X11 (by decide) (by decide) (Nat.le_of_ble_eq_true rfl)) ?_
  refine lf2 (a_if_eq (tgt := 26) dX11_load_21 (by decide)) (fun h21 => ?_) (fun h21 => absurd h21 (by decide))
  refine lf (a_aload_n dX11_load_26 rfl) ?_
  refine lf (a_iload_n dX11_load_27 rfl) ?_
  refine lf (a_putI dX11_load_28 fs_X11_127 rfl rfl rfl (co_338 (by repeat (first | with_reducible exact hw | with_reducible exact hwc | with_reducible assumption | with_reducible apply Wf.sI | with_reducible apply Wf.sL | with_reducible apply Wf.cpI | with_reducible apply Wf.cpL | with_reducible apply Wf.cp2 | with_reducible apply Wf.sIs | with_reducible apply Wf.sLs | with_reducible apply Wf.cpU | with_reducible apply Wf.fillI | with_reducible apply Wf.clU | with_reducible apply Wf.dnF | with_reducible apply Wf.gbW)))) ?_
  refine lf (a_aload_n dX11_load_31 rfl) ?_
  refine lf (a_iconst (0 : Int32) dX11_load_32 (by decide)) ?_
  refine lf (a_putI dX11_load_33 fs_X11_130 rfl rfl rfl (co_338 (by repeat (first | with_reducible exact hw | with_reducible exact hwc | with_reducible assumption | with_reducible apply Wf.sI | with_reducible apply Wf.sL | with_reducible apply Wf.cpI | with_reducible apply Wf.cpL | with_reducible apply Wf.cp2 | with_reducible apply Wf.sIs | with_reducible apply Wf.sLs | with_reducible apply Wf.cpU | with_reducible apply Wf.fillI | with_reducible apply Wf.clU | with_reducible apply Wf.dnF | with_reducible apply Wf.gbW)))) ?_
  refine lf (a_aload_n dX11_load_36 rfl) ?_
  refine lf (a_iconst (0 : Int32) dX11_load_37 (by decide)) ?_
  refine lf (a_putI dX11_load_38 fs_X11_110 rfl rfl rfl (co_338 (by repeat (first | with_reducible exact hw | with_reducible exact hwc | with_reducible assumption | with_reducible apply Wf.sI | with_reducible apply Wf.sL | with_reducible apply Wf.cpI | with_reducible apply Wf.cpL | with_reducible apply Wf.cp2 | with_reducible apply Wf.sIs | with_reducible apply Wf.sLs | with_reducible apply Wf.cpU | with_reducible apply Wf.fillI | with_reducible apply Wf.clU | with_reducible apply Wf.dnF | with_reducible apply Wf.gbW)))) ?_
  refine lf (a_aload_n dX11_load_41 rfl) ?_
  refine lf (a_iconst (0 : Int32) dX11_load_42 (by decide)) ?_
  refine lf (a_putI dX11_load_43 fs_X11_121 rfl rfl rfl (co_338 (by repeat (first | with_reducible exact hw | with_reducible exact hwc | with_reducible assumption | with_reducible apply Wf.sI | with_reducible apply Wf.sL | with_reducible apply Wf.cpI | with_reducible apply Wf.cpL | with_reducible apply Wf.cp2 | with_reducible apply Wf.sIs | with_reducible apply Wf.sLs | with_reducible apply Wf.cpU | with_reducible apply Wf.fillI | with_reducible apply Wf.clU | with_reducible apply Wf.dnF | with_reducible apply Wf.gbW)))) ?_
  refine lf (a_aload_n dX11_load_46 rfl) ?_
  refine lf (a_iconst (-1 : Int32) dX11_load_47 (by decide)) ?_
  refine lf (a_putI dX11_load_48 fs_X11_54 rfl rfl rfl (co_338 (by repeat (first | with_reducible exact hw | with_reducible exact hwc | with_reducible assumption | with_reducible apply Wf.sI | with_reducible apply Wf.sL | with_reducible apply Wf.cpI | with_reducible apply Wf.cpL | with_reducible apply Wf.cp2 | with_reducible apply Wf.sIs | with_reducible apply Wf.sLs | with_reducible apply Wf.cpU | with_reducible apply Wf.fillI | with_reducible apply Wf.clU | with_reducible apply Wf.dnF | with_reducible apply Wf.gbW)))) ?_
  show WP _ _ _ (ldW μ n) _ _ _ _
  refine lf (a_aload_n dX11_load_51 rfl) ?_
  refine lf (a_aload_n dX11_load_52 rfl) ?_
  obtain ⟨v_, W53, k53, hR53⟩ := (m_readFlight hwL (ldW_tx hw (by omega) hB) hLW.2.2.1.2.2.2.1 hLW.2.2.1.2.2.2.2.1 m0 A0)
  obtain ⟨hF53, hR53⟩ := hR53
  rw [he] at hR53
  obtain ⟨rfl, hg, P, hM⟩ := hR53
  have hwV := hF53.1.1
  have hc := hM.2.2.1
  have hD : DrV z (sI W53 338 0 0) := hM.dr.fr (S := s38) ((Out.rfl' hwV).sI (S := s38) rfl _ _) (by decide) (by decide) (by decide) (by decide)
  refine lf (a_inv (b2 := (0, 0)) k53 rfl dX11_load_53 yk_X11_readFlight im_X11_readFlight se_X11_readFlight ml_X11_288 rfl (co_338 (by repeat (first | with_reducible exact hw | with_reducible exact hwc | with_reducible assumption | with_reducible apply Wf.sI | with_reducible apply Wf.sL | with_reducible apply Wf.cpI | with_reducible apply Wf.cpL | with_reducible apply Wf.cp2 | with_reducible apply Wf.sIs | with_reducible apply Wf.sLs | with_reducible apply Wf.cpU | with_reducible apply Wf.fillI | with_reducible apply Wf.clU | with_reducible apply Wf.dnF | with_reducible apply Wf.gbW))) (by decide) hc_X11 (by decide) (by decide) (Nat.le_of_ble_eq_true rfl)) ?_
  refine lf2 (a_if_eq (tgt := 63) dX11_load_56 (by decide)) (fun h56 => absurd h56 (by decide)) (fun h56 => ?_)
  refine lf (a_iconst (0 : Int32) dX11_load_59 (by decide)) ?_
  refine lf (a_goto (tgt := 64) dX11_load_60 (by decide)) ?_
  refine lf (a_inv (b2 := (0, 0)) (m_isRefused0 hwV) rfl dX11_load_64 yk_X11_isRefused im_X11_isRefused se_X11_isRefused ml_X11_98 rfl (co_338 (by repeat (first | with_reducible exact hw | with_reducible exact hwc | with_reducible assumption | with_reducible apply Wf.sI | with_reducible apply Wf.sL | with_reducible apply Wf.cpI | with_reducible apply Wf.cpL | with_reducible apply Wf.cp2 | with_reducible apply Wf.sIs | with_reducible apply Wf.sLs | with_reducible apply Wf.cpU | with_reducible apply Wf.fillI | with_reducible apply Wf.clU | with_reducible apply Wf.dnF | with_reducible apply Wf.gbW))) (by decide) hc_X11 (by decide) (by decide) (Nat.le_of_ble_eq_true rfl)) ?_
  refine lf2 (a_if_eq (tgt := 72) dX11_load_67 (by decide)) (fun h67 => ?_) (fun h67 => absurd h67 (by decide))
  refine lf (a_aload_n dX11_load_72 rfl) ?_
  refine lf (a_inv (b2 := (0, 0)) (m_takesFlight (hwV.sI (i := 338) (k := 0) (v := 0))) rfl dX11_load_73 yk_X11_takesFlight im_X11_takesFlight se_X11_takesFlight ml_X11_291 rfl (co_338 (by repeat (first | with_reducible exact hw | with_reducible exact hwc | with_reducible assumption | with_reducible apply Wf.sI | with_reducible apply Wf.sL | with_reducible apply Wf.cpI | with_reducible apply Wf.cpL | with_reducible apply Wf.cp2 | with_reducible apply Wf.sIs | with_reducible apply Wf.sLs | with_reducible apply Wf.cpU | with_reducible apply Wf.fillI | with_reducible apply Wf.clU | with_reducible apply Wf.dnF | with_reducible apply Wf.gbW))) (by decide) hc_X11 (by decide) (by decide) (Nat.le_of_ble_eq_true rfl)) ?_
  have hT := ld_mn (hwV.sI (i := 338) (k := 0) (v := 0)) hD hg (d := d) (fun k hk => (hF53.1.l (by decide) k).trans ((hLW.2.1.l (by decide) k).trans (ha k hk)))
  have hTF := tk_f (hwV.sI (i := 338) (k := 0) (v := 0))
  have hOP : Out sPa μ (sI W53 338 0 0) := ((hLW.2.1.mono (S' := sPa) (fun i y => Or.inl y)).trans hF53.1).sI (S := sPa) (Or.inl rfl) _ _
  have hk0 : ∀ k, k ≠ 0 → gI (sI W53 338 0 0) 338 k = gI W53 338 k := fun k hk => by rw [gI_sI, if_neg (by omega)]
  have hk00 : gI (sI W53 338 0 0) 338 0 = 0 := by rw [gI_sI, if_pos ⟨rfl, rfl⟩]
  revert hT hTF hOP hk0 hk00
  generalize sI W53 338 0 0 = X
  intro hT hTF hOP hk0 hk00
  obtain ⟨hMn, hMp, hMs, hNm⟩ := hT
  obtain ⟨tO, t14, t15, tk, -, -, -, -, -⟩ := hTF
  revert hMn hMp hMs hNm tO t14 t15 tk
  generalize tkW X = Y
  intro hMn hMp hMs hNm tO t14 t15 tk
  have hwY := tO.1
  refine lf (a_aload_n dX11_load_76 rfl) ?_
  refine lf (a_getR (cr_338_6 (by repeat (first | with_reducible exact hw | with_reducible exact hwc | with_reducible assumption | with_reducible apply Wf.sI | with_reducible apply Wf.sL | with_reducible apply Wf.cpI | with_reducible apply Wf.cpL | with_reducible apply Wf.cp2 | with_reducible apply Wf.sIs | with_reducible apply Wf.sLs | with_reducible apply Wf.cpU | with_reducible apply Wf.fillI | with_reducible apply Wf.clU | with_reducible apply Wf.dnF | with_reducible apply Wf.gbW))) dX11_load_77 fs_X11_26 rfl (co_338 (by repeat (first | with_reducible exact hw | with_reducible exact hwc | with_reducible assumption | with_reducible apply Wf.sI | with_reducible apply Wf.sL | with_reducible apply Wf.cpI | with_reducible apply Wf.cpL | with_reducible apply Wf.cp2 | with_reducible apply Wf.sIs | with_reducible apply Wf.sLs | with_reducible apply Wf.cpU | with_reducible apply Wf.fillI | with_reducible apply Wf.clU | with_reducible apply Wf.dnF | with_reducible apply Wf.gbW)))) ?_
  refine lf (a_iconst (3 : Int32) dX11_load_80 (by decide)) ?_
  refine lf (a_ild dX11_load_81 (ca_344 (by repeat (first | with_reducible exact hw | with_reducible exact hwc | with_reducible assumption | with_reducible apply Wf.sI | with_reducible apply Wf.sL | with_reducible apply Wf.cpI | with_reducible apply Wf.cpL | with_reducible apply Wf.cp2 | with_reducible apply Wf.sIs | with_reducible apply Wf.sLs | with_reducible apply Wf.cpU | with_reducible apply Wf.fillI | with_reducible apply Wf.clU | with_reducible apply Wf.dnF | with_reducible apply Wf.gbW))) (ixn (m := 3) (by decide) (by decide))) ?_
  rw [hMn.1.s3, show dP (ldA z d) = dP z.2.1 from rfl]
  refine ⟨_, _, (a_ireturn dX11_load_82 rfl rfl), ?_⟩
  refine ⟨_, rfl, rfl, ⟨(hOP.mono (fun i y => Or.inl y)).trans (tO.mono (fun i y => Or.inr y)), ?_, fun k h0 h1 h2 h3 h4 => ?_⟩, hg, hMn, hMp, hMs, ?_, t15, ?_, ?_, hNm⟩
  · rw [tk 17 (by decide) (by decide), hk0 17 (by decide), hF53.2.1 17 (by decide)]; exact hLW.2.2.1.2.2.1
  · rw [tk k h1 h2, hk0 k h0, hF53.2.1 k (by omega)]; exact hLW.2.2.2 k h0 h3 h4
  · rw [tk 0 (by decide) (by decide)]; exact hk00
  · rw [tk 23 (by decide) (by decide), hk0 23 (by decide)]; exact hc.1
  · rw [tk 24 (by decide) (by decide), hk0 24 (by decide)]; exact hc.2
end MFEED
