section SLD
variable {Y : Yd} {rm : Room} {b : Nat × Nat} {μ μ1 : Wd} {pc : Nat} {la : List (Nat × Value)} {st : List Value} {o : Oc}
theorem a_sld {X : Nat × (Nat → Int32)} {j : Nat} {i : Int32} (hd : decode Y.2.1 pc = .ok (.iaload, 1)) (hX : gX μ = X) (hi : Ix i j X.1) (kk : AW Y rm b μ (pc + 1) la (.int (X.2 j) :: st) o μ1) : AW Y rm b μ pc la (.int i :: .ref 2000000 :: st) o μ1 := by
  subst hX
  intro p l e s m args below meth c H locs cells slots ls D cA base ad0 n0 ad C E h1 h2 h3
  obtain ⟨scr, g1, g2, g3, g4, g5⟩ := E.2.2.1.2.2.2.2.1
  have hv : scr.slots[i.toNatClampNeg]? = some (.int ((gX μ).2 j)) := by
    have q := g5 j hi.2.2
    rw [hi.2.1]
    exact q
  refine W.iald (v := .int ((gX μ).2 j)) C.1 C.2.1 g1 g2 g3 (by rw [g4]; exact hi.1) hv rfl rfl hd ?_
  exact kk p l e s m args below meth c H locs cells slots ls D cA base ad0 n0 ad C E h1 (by simpa only [okS_cons, okV_int, true_and] using (okS_cons.mp (okS_cons.mp h2).2).2) h3
theorem a_slen {X : Nat × (Nat → Int32)} (hd : decode Y.2.1 pc = .ok (.arraylength, 1)) (hX : gX μ = X) (kk : AW Y rm b μ (pc + 1) la (.int (nI X.1) :: st) o μ1) : AW Y rm b μ pc la (.ref 2000000 :: st) o μ1 := by
  subst hX
  intro p l e s m args below meth c H locs cells slots ls D cA base ad0 n0 ad C E h1 h2 h3
  obtain ⟨scr, g1, g2, g3, g4, g5⟩ := E.2.2.1.2.2.2.2.1
  refine W.alen (n := nI (gX μ).1) C.1 C.2.1 g1 g2 (by rw [g4]; rfl) rfl rfl hd ?_
  exact kk p l e s m args below meth c H locs cells slots ls D cA base ad0 n0 ad C E h1 (by simpa only [okS_cons, okV_int, true_and] using (okS_cons.mp h2).2) h3
end SLD
section LAWX
variable {μ W V : Wd} {p p0 N k m bc bs : Nat} {q : PDt} {d : FDt} {H : Hst} {S : Nat → Option FDt} {X : Nat × (Nat → Int32)}
theorem law_flight (hI : LwS p p0 N q d H S W) (hn : wn W ≤ k) (hX : gX W = X) (hk : k + 2000 < 1000000) (kx : ∀ (W : Wd) (p p0 : Nat) (q : PDt) (d : FDt) (H : Hst) (S : Nat → Option FDt), LwS p p0 (N + 1) q d H S W → wn W ≤ k + 900 → gX W = X → WP Y_L_law RLaw (bc, bs) W 34 (LA0 (m + 1)) [] QLw) : WP Y_L_law RLaw (bc + 500, bs + 372000) W 65 (LA0 m) [] QLw := by
  have hw := hI.1.wf
  have hwo := hw
  refine lf (a_aload_n dL_law_65 rfl) ?_
  refine lf (a_iconst (0 : Int32) dL_law_66 (by decide)) ?_
  refine lf (a_inv (b2 := (bc + 500, bs + 372000)) (c_account hw hI.1.2.2.1 hI.1.2.1 (k := 0) (by decide)) rfl dL_law_67 yk_X10_account im_X10_account se_X10_account ml_L_139 rfl (co_0 hw) (by decide) hc_X10 (by decide) ⟨Nat.le_of_eq (Nat.zero_add _), Nat.le_of_eq (Nat.zero_add _)⟩ (Nat.le_of_ble_eq_true rfl)) ?_
  refine lf (a_lstore dL_law_70 (by decide)) ?_
  refine lf (a_aload_n dL_law_72 rfl) ?_
  refine lf (a_aload_n dL_law_73 rfl) ?_
  obtain ⟨v_, W74, k74, r, l, rfl, hs, hl, hT, hE, hn1⟩ := t_L_flight hw (by omega)
  refine lf (a_invS (b2 := (bc + 200, bs + 2000)) k74 rfl dL_law_74 yk_L_flight sm_L_flight ml_L_172 rfl (by decide) ⟨by show 290 + (bc + 200) ≤ _; omega, by show 370000 + (bs + 2000) ≤ _; omega⟩ (Nat.le_of_ble_eq_true rfl)) ?_
  have hI := hI.ex hE (fun i hi z => absurd (show i = 338 from z) (by omega))
  have hX := hE.2.2.1.trans hX
  have hw := hI.1.wf
  obtain ⟨v_, W77, k77, z, H2, rfl, hV, hgo, hP2, hP40, hn2, hg2⟩ := t_L_load hI hs hl hT (by omega)
  refine lf (a_invSH (b2 := (bc + 100, bs + 1000)) k77 rfl dL_law_77 yh_L_load sm_L_load ml_L_176 rfl (by decide) ⟨by show 93 + (bc + 100) ≤ _; omega, by show 481 + (bs + 1000) ≤ _; omega⟩ (Nat.le_of_ble_eq_true rfl)) ?_
  have hI : LwK p0 p z.1 (ldA z d) H2 (fun _ => none) N X (k + 800) W77 := ⟨hV, by omega, hg2.trans hX⟩
  have hw := hI.1.wf
  have hwo := hw
  refine lf (a_iconst (2 : Int32) dL_law_80 (by decide)) ?_
  refine lf2 (a_icmp_lt (tgt := 112) dL_law_81 (by decide)) (fun h81 => absurd h81 (fun y => absurd ((nI_ltI (b := 2) (by omega) (by decide)).mp y) (by omega))) (fun h81 => ?_)
  refine lf (a_aload_n dL_law_84 rfl) ?_
  refine lf (a_iconst (0 : Int32) dL_law_85 (by decide)) ?_
  refine lf (a_inv (b2 := (bc + 100, bs + 1000)) (w_account hI.1 (k := 0) (by decide)) rfl dL_law_86 yk_X10_account im_X10_account se_X10_account ml_L_139 rfl (co_0 hw) (by decide) hc_X10 (by decide) ⟨Nat.le_of_eq (Nat.zero_add _), Nat.le_of_eq (Nat.zero_add _)⟩ (Nat.le_of_ble_eq_true rfl)) ?_
  refine lf (a_lload dL_law_89 rfl) ?_
  refine lf (a_lcmp dL_law_91) ?_
  refine lfn (a_if_ne (tgt := 112) dL_law_92 (by decide)) (fun h92 => absurd h92 (fun z => z (lc_eq rfl))) (fun h92 => ?_)
  refine lf (a_aload_n dL_law_95 rfl) ?_
  refine lf (a_iconst (0 : Int32) dL_law_96 (by decide)) ?_
  obtain ⟨v_, W97, k97, rfl, hV2, hO⟩ := w_keep hI.1 (j := 0) (by decide)
  refine lf (a_inv (b2 := (bc + 100, bs + 1000)) k97 rfl dL_law_97 yk_X10_keep im_X10_keep se_X10_keep ml_L_178 rfl (co_0 hw) (by decide) hc_X10 (by decide) ⟨Nat.le_of_eq (Nat.zero_add _), Nat.le_of_eq (Nat.zero_add _)⟩ (Nat.le_of_ble_eq_true rfl)) ?_
  have hI := hI.act hV2 hO
  have hwo := hw
  have hw := hI.1.wf
  refine lf (a_aload_n dL_law_100 rfl) ?_
  refine lf (a_iconst (0 : Int32) dL_law_101 (by decide)) ?_
  obtain ⟨v_, W102, k102, rfl, h102⟩ := (w_count hI.1 (k := 0) (by decide))
  have hwo := hw
  have hI := hI.tr h102
  have hw := hI.1.wf
  refine lf (a_inv (b2 := (bc + 100, bs + 1000)) k102 rfl dL_law_102 yk_X10_count im_X10_count se_X10_count ml_L_131 rfl (co_0 hwo) (by decide) hc_X10 (by decide) ⟨Nat.le_of_eq (Nat.zero_add _), Nat.le_of_eq (Nat.zero_add _)⟩ (Nat.le_of_ble_eq_true rfl)) ?_
  refine lfn (a_icmp_ne (tgt := 112) dL_law_105 (by decide)) (fun h105 => absurd h105 (fun z => z rfl)) (fun h105 => ?_)
  refine lf (a_iconst (1 : Int32) dL_law_108 (by decide)) ?_
  refine lf (a_goto (tgt := 113) dL_law_109 (by decide)) ?_
  refine lf (a_istore_n dL_law_113 (by decide)) ?_
  refine lf (a_aload_n dL_law_114 rfl) ?_
  obtain ⟨v_, W115, k115, rfl, h115⟩ := t_L_sum hI.1
  refine lf (a_invS (b2 := (bc + 100, bs + 1000)) k115 rfl dL_law_115 yk_L_sum sm_L_sum ml_L_181 rfl (by decide) ⟨Nat.le_of_eq (Nat.zero_add _), Nat.le_of_eq (Nat.zero_add _)⟩ (Nat.le_of_ble_eq_true rfl)) ?_
  have hI := hI.tr h115
  have hwo := hw
  have hw := hI.1.wf
  refine lf (a_lstore dL_law_118 (by decide)) ?_
  refine lf (a_iconst (0 : Int32) dL_law_120 (by decide)) ?_
  refine lf (a_istore dL_law_121 (by decide)) ?_
  refine lf (a_room (b' := (bc + 4 + 3 * 14, bs + 36 + 24 * 14)) (by show bc + 4 + 3 * 14 ≤ bc + 100; omega) (by show bs + 36 + 24 * 14 ≤ bs + 1000; omega)) (lf (a_loc (LB0 m (dA d 0) (sumF z.1 (ldA z d)) 0) rfl) ?_)
  refine law_acts (k0 := k + 800) (by omega) (fun W d2 H h1 h2 h3 => ?_) 14 0 _ _ _ rfl hI hgo rfl
  exact law_tail h1 h2 h3 (if_pos rfl) hgo (by omega) (fun W p p0 q d H S g1 g2 g3 => kx W p p0 q d H S g1 (by omega) g3)
theorem k900 (m : Nat) : 339 + 900 * m + 900 = 339 + 900 * (m + 1) := by rw [Nat.mul_succ, Nat.add_assoc]
theorem law_flights (hX1 : X.1 ≤ 260) : ∀ (dd m p p0 : Nat) (q : PDt) (d : FDt) (H : Hst) (S : Nat → Option FDt) (W : Wd), m + dd = 5 → LwS p p0 m q d H S W → wn W ≤ 339 + 900 * m → gX W = X → WP Y_L_law RLaw (500 * dd, 372000 * dd) W 34 (LA0 m) [] QLw := by
  intro dd
  induction dd with
  | zero =>
    intro m p p0 q d H S W hm hI hn hX
    obtain rfl : 5 = m := by omega
    have hw := hI.1.wf
    refine lf (a_iload dL_law_34 rfl) ?_
    refine lf (a_iconst (5 : Int32) dL_law_36 (by decide)) ?_
    refine lf2 (a_icmp_ge (tgt := 585) dL_law_37 (by decide)) (fun h37 => ?_) (fun h37 => absurd h37 (fun z => z (Int32.le_refl _)))
    refine lf (a_iload_n dL_law_585 rfl) ?_
    refine ⟨_, _, (a_ireturn dL_law_586 rfl rfl), ?_⟩
    exact rfl
  | succ dd ih =>
    intro m p p0 q d H S W hm hI hn hX
    have hw := hI.1.wf
    refine lf (a_iload dL_law_34 rfl) ?_
    refine lf (a_iconst (5 : Int32) dL_law_36 (by decide)) ?_
    refine lf2 (a_icmp_ge (tgt := 585) dL_law_37 (by decide)) (fun h37 => absurd h37 (nI_ge (a := m) (b := 5) (by omega) (by decide))) (fun h37 => ?_)
    refine lf (a_iload_n dL_law_40 rfl) ?_
    refine lf2 (a_if_eq (tgt := 585) dL_law_41 (by decide)) (fun h41 => absurd h41 (by decide)) (fun h41 => ?_)
    refine lf (a_aload_n dL_law_44 rfl) ?_
    refine lf (a_iconst (0 : Int32) dL_law_45 (by decide)) ?_
    refine lf (a_dup2 dL_law_46 rfl rfl) ?_
    refine lf (a_ild dL_law_47 (ca_338 hw) (ixn (m := 0) (by decide) (by decide))) ?_
    refine lf (a_iload dL_law_48 rfl) ?_
    refine lf (a_aload_n dL_law_50 rfl) ?_
    refine lf (a_slen dL_law_51 hX) ?_
    refine lf2 (a_icmp_ge (tgt := 62) dL_law_52 (by decide)) (fun h52 => ?_) (fun h52 => ?_)
    · refine lf (a_iconst (0 : Int32) dL_law_62 (by decide)) ?_
      refine lf (a_ixor dL_law_63) ?_
      refine lf (a_ist dL_law_64 (ca_338 hw) (ixn (m := 0) (by decide) (by decide))) ?_
      have h5 : m + 1 + dd = 5 := by omega
      have h6 : 339 + 900 * m + 2000 < 1000000 := by omega
      refine lf (a_room (b' := (500 * dd + 500, 372000 * dd + 372000)) (by show 500 * dd + 500 ≤ 500 * (dd + 1); omega) (by show 372000 * dd + 372000 ≤ 372000 * (dd + 1); omega)) ?_
      exact law_flight (bc := 500 * dd) (bs := 372000 * dd) (k := 339 + 900 * m) (hI.st _) hn hX h6 (fun W p p0 q d H S g1 g2 g3 => ih (m + 1) p p0 q d H S W h5 g1 (Nat.le_trans g2 (Nat.le_of_eq (k900 m))) g3)
    · have hlt : m < X.1 := Nat.lt_of_not_le fun z => h52 (nI_le z (by omega))
      refine lf (a_aload_n dL_law_55 rfl) ?_
      refine lf (a_iload dL_law_56 rfl) ?_
      refine lf (a_sld dL_law_58 hX (ixn hlt (by omega))) ?_
      refine lf (a_goto (tgt := 63) dL_law_59 (by decide)) ?_
      refine lf (a_ixor dL_law_63) ?_
      refine lf (a_ist dL_law_64 (ca_338 hw) (ixn (m := 0) (by decide) (by decide))) ?_
      have h5 : m + 1 + dd = 5 := by omega
      have h6 : 339 + 900 * m + 2000 < 1000000 := by omega
      refine lf (a_room (b' := (500 * dd + 500, 372000 * dd + 372000)) (by show 500 * dd + 500 ≤ 500 * (dd + 1); omega) (by show 372000 * dd + 372000 ≤ 372000 * (dd + 1); omega)) ?_
      exact law_flight (bc := 500 * dd) (bs := 372000 * dd) (k := 339 + 900 * m) (hI.st _) hn hX h6 (fun W p p0 q d H S g1 g2 g3 => ih (m + 1) p p0 q d H S W h5 g1 (Nat.le_trans g2 (Nat.le_of_eq (k900 m))) g3)
end LAWX
