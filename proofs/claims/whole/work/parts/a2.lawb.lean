section LAWB
variable {Y : Yd} {rm : Room} {b : Nat × Nat} {μ μ1 : Wd} {pc : Nat} {la : List (Nat × Value)} {st : List Value} {o : Oc} {N : Nat}
theorem a_sld {X : Nat × (Nat → Int32)} {j : Nat} {i : Int32} (hd : decode Y.2.1 pc = .ok (.iaload, 1)) (hX : gX μ = X) (hi : Ix i j X.1) (kk : AW Y rm b μ (pc + 1) la (.int (X.2 j) :: st) o μ1) : AW Y rm b μ pc la (.int i :: .ref 2000000 :: st) o μ1 := by
  subst hX
  intro p l e s m args below meth c H locs cells slots ls D cA base ad0 n0 ad C E h1 h2 h3
  obtain ⟨scr, g1, g2, g3, g4, g5⟩ := E.2.2.1.2.2.2.2.1
  have hv : scr.slots[i.toNatClampNeg]? = some (.int ((gX μ).2 j)) := by
    have q := g5 j hi.2.2
    rw [hi.2.1]
    exact q
  refine W.iald (v := .int ((gX μ).2 j)) C.1 C.2.1 g1 g2 g3 (by rw [g4]; exact hi.1) hv rfl rfl hd ?_
  exact kk p l e s m args below meth c H locs cells slots ls D cA base ad0 n0 ad C E h1 (by simpa only [okS_cons, okV_int, true_and] using (okS_cons.mp (okS_cons.mp h2).2).2) h3
theorem a_slen {X : Nat × (Nat → Int32)} (hd : decode Y.2.1 pc = .ok (.arraylength, 1)) (hX : gX μ = X) (kk : AW Y rm b μ (pc + 1) la (.int (nI X.1) :: st) o μ1) : AW Y rm b μ pc la (.ref 2000000 :: st) o μ1 := by
  subst hX
  intro p l e s m args below meth c H locs cells slots ls D cA base ad0 n0 ad C E h1 h2 h3
  obtain ⟨scr, g1, g2, g3, g4, g5⟩ := E.2.2.1.2.2.2.2.1
  refine W.alen (n := nI (gX μ).1) C.1 C.2.1 g1 g2 (by rw [g4]; rfl) rfl rfl hd ?_
  exact kk p l e s m args below meth c H locs cells slots ls D cA base ad0 n0 ad C E h1 (by simpa only [okS_cons, okV_int, true_and] using (okS_cons.mp h2).2) h3
theorem ix_s {i k n : Nat} {c : Int32} (hc : nI k = c) (h : i + k < n) (hn : n ≤ 4096) : Ix (nI i + c) (i + k) n := by
  rw [← hc, nI_add]
  exact ixn h hn
theorem lcmp_self (x : Int64) : lg_cmp x x = 0 := by
  unfold lg_cmp
  rw [if_neg (by simp), if_pos rfl]
theorem RelV.wf (h : RelV N μ) : Wf μ := by
  obtain ⟨p, p0, q, d, H, S, L, B, os, nm, h⟩ := h
  exact h.cr.wf
theorem RelV.mono (h : RelV N μ) : RelV (N + 1) μ := by
  obtain ⟨p, p0, q, d, H, S, L, B, os, nm, h⟩ := h
  exact RelP.v ⟨h.1, h.2.1.mono, h.2.2.1, h.2.2.2.1.mono, h.2.2.2.2⟩
abbrev Y_L_law : Yd := (yL_law, cL_law, 9, (some .boolean), [])
abbrev RLaw : Room := { frames := 16, cells := 601024, slots := 7293034, locals := 608 }
abbrev LAw (i : Nat) : List (Nat × Value) := [(0, .ref 2000000), (1, .ref 0), (2, .ref 338), (3, .ref 363), (4, .int (nI i))]
abbrev QLw : Oc → Wd → Prop := fun o _ => o = .inl (some (.int 1))

theorem wx_loadl_1 {W : Wd} (hw : Wf μ) (x0 : Int32) (hct : Ct Y_X10_load RX_X10_load (.ref 0 :: [.int x0]) μ (.inr IAE) W) : Ct Y_L_load RW_L_load [.ref 0, .int x0, .ref 363] μ (.inl (some (.int 1))) W := by
  refine Ct.entH yh_L_load (Nat.le_of_ble_eq_true rfl) ?_
  refine a_aload_n dL_load_0 rfl ?_
  refine a_iconst (0 : Int32) dL_load_1 (by decide) ?_
  refine a_aload_n dL_load_2 rfl ?_
  refine a_iload_n dL_load_3 rfl ?_
  exact a_invC hct rfl dL_load_4 yk_X10_load im_X10_load se_X10_load ml_L_15 rfl (co_0 hw) (by decide) hc_X10 (by decide) (by decide) (Nat.le_of_ble_eq_true rfl) (pre := []) (suf := [(0, 9, 15, 13)]) rfl (fun z hz => nomatch hz) (by decide) (by decide) kl_19 (by decide) (j := 3) (by decide) (Or.inr ⟨⟨3, dL_load_12, rfl⟩, rfl⟩) dL_load_13 rfl dL_load_14 rfl
theorem wx_loadl_2 {W : Wd} (hw : Wf μ) (x0 : Int32) (hct : Ct Y_X10_load RX_X10_load (.ref 0 :: [.int x0]) μ (.inr ISE) W) : Ct Y_L_load RW_L_load [.ref 0, .int x0, .ref 363] μ (.inl (some (.int 2))) W := by
  refine Ct.entH yh_L_load (Nat.le_of_ble_eq_true rfl) ?_
  refine a_aload_n dL_load_0 rfl ?_
  refine a_iconst (0 : Int32) dL_load_1 (by decide) ?_
  refine a_aload_n dL_load_2 rfl ?_
  refine a_iload_n dL_load_3 rfl ?_
  exact a_invC hct rfl dL_load_4 yk_X10_load im_X10_load se_X10_load ml_L_15 rfl (co_0 hw) (by decide) hc_X10 (by decide) (by decide) (Nat.le_of_ble_eq_true rfl) (pre := [(0, 9, 12, 19)]) (suf := []) rfl (fun z hz => by
      simp only [List.mem_cons, List.not_mem_nil, or_false] at hz
      subst hz
      exact ⟨by decide, _, kl_19, by decide⟩) (by decide) (by decide) kl_13 (by decide) (j := 3) (by decide) (Or.inr ⟨⟨3, dL_load_15, rfl⟩, rfl⟩) dL_load_16 rfl dL_load_17 rfl
end LAWB
