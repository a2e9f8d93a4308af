section INVSH
variable {Y : Yd} {rm : Room} {b : Nat × Nat} {μ μ1 : Wd} {pc : Nat} {la : List (Nat × Value)} {st : List Value} {o : Oc}
theorem a_invSH {Y2 : Yd} {rm2 : Room} {as sk : List Value} {v : Option Value} {μ2 : Wd} {i n : Nat} {b2 : Nat × Nat}
    (hct : Ct Y2 rm2 as μ (.inl v) μ2) (hsk : sk = as.reverse ++ st) (hd : decode Y.2.1 pc = .ok (.invokestatic i, 3)) (hy : YOKH Y2 n) (hin : Cond.static Y2.1 ∈ lwa) (hl : Cond.methodLink Y.1.cls i Y2.1 ∈ lwa) (ha : as.length = n) (hR : rm2.frames + 1 ≤ rm.frames ∧ 8 + (Y2.2.2.1 + 11) + rm2.locals ≤ rm.locals) (hb : rm2.cells + b2.1 ≤ b.1 ∧ rm2.slots + b2.2 ≤ b.2) (hst : (st.map fun v => v.category).sum ≤ 8)
    (kk : AW Y rm b2 μ2 (pc + 3) la (v.toList ++ st) o μ1) : AW Y rm b μ pc la sk o μ1 := by
  intro p l e s m args below meth c H locs cells slots ls D cA base ad0 n0 ad C E h1 h2 h3
  subst hsk
  have h4 := okS_app.mp h2
  have hts := C.2.2.2.2.2.1
  obtain ⟨g1, g2, g3, g4, g5, g6⟩ := hy
  have hw9 := hdw_cons g5
  have hG : GoodIn lwa (hdw Y2 :: lwa) := by
    rw [hw9]
    exact lwa_good (List.forall_mem_cons.mpr ⟨g1, fun w h => h⟩)
  have hm9 : Cond.codeWith Y2.1 Y2.2.1 Y2.2.2.1 Y2.2.2.2.1 Y2.2.2.2.2 ∈ hdw Y2 :: lwa := by rw [← hw9]; exact List.mem_cons_self
  have cw9 : vx_CSW rm s args Y.1.cls i Y2.1 Y2.2.1 Y2.2.2.1 Y2.2.2.2.1 Y2.2.2.2.2 (hdw Y2 :: lwa) rm2 rm2.cells rm2.slots n := by
    refine ⟨⟨rfl, rfl, hR.1, hR.2, pay_in hts hG, hm9⟩, hts _ g1, hts _ g2, g3, fun sig h => ?_, hts _ hl, hts _ hin⟩
    rw [h] at g4
    exact (Option.some.inj g4).symm
  refine a_back C E h1 h4.2 h3 hb (A2 := (as.map (tv ad)).toArray) ?_ kk
  refine vx_runSX (n := n) (As := as.map (tv ad)) (rest := st.map (tv ad)) (nL := Y.2.2.1) (own := Y.1.cls) (Ts := lwa) ⟨C.1, C.2.1, C.2.2.1, C.2.2.2.2.1, hts⟩ (hct l D cA base ad C.2.2.2.2.2.2.2.1) cw9 ⟨PcO.blind, PcO.go E (okS_rev.mp h4.1)⟩ rfl (by rw [List.length_map]; exact ha) h3.1 ?_ ?_ hd ⟨?_, ?_⟩
  · exact rev_tvS ad as st
  · exact lv_room (by rw [cat_tv]; exact hst)
  · have h5 := E.2.2.2.2.2.2.2.1
    have h6 := hb.1
    omega
  · have h5 := E.2.2.2.2.2.2.2.2
    have h6 := hb.2
    omega
def sxl_0 : List (Nat × Cond) := [(665, Cond.static yL_feed), (79, Cond.static yL_load), (291, Cond.static yL_count), (65, Cond.static yL_cabin), (50, Cond.static yL_meal), (90, Cond.static yL_passenger), (14, Cond.static yL_trolley), (14, Cond.static yL_held), (6, Cond.static yL_topUpAt), (24, Cond.static yL_board), (37, Cond.static yL_change), (7, Cond.static yL_leave), (10, Cond.static yL_setNeeds), (6, Cond.static yL_loadOrder), (15, Cond.static yL_store), (11, Cond.static yL_unload), (11, Cond.static yL_topUp), (15, Cond.static yL_advance), (7, Cond.static yL_outlook), (7, Cond.static yL_mealFor)]
set_option maxRecDepth 50000 in
theorem sxc_0 : chk sxl_0 lw_tbl = true := by decide +kernel
theorem sm_L_feed : Cond.static yL_feed ∈ lwa := chk_in sxc_0 0 rfl
theorem sm_L_load : Cond.static yL_load ∈ lwa := chk_in sxc_0 1 rfl
theorem sm_L_count : Cond.static yL_count ∈ lwa := chk_in sxc_0 2 rfl
theorem sm_L_cabin : Cond.static yL_cabin ∈ lwa := chk_in sxc_0 3 rfl
theorem sm_L_meal : Cond.static yL_meal ∈ lwa := chk_in sxc_0 4 rfl
theorem sm_L_passenger : Cond.static yL_passenger ∈ lwa := chk_in sxc_0 5 rfl
theorem sm_L_trolley : Cond.static yL_trolley ∈ lwa := chk_in sxc_0 6 rfl
theorem sm_L_held : Cond.static yL_held ∈ lwa := chk_in sxc_0 7 rfl
theorem sm_L_topUpAt : Cond.static yL_topUpAt ∈ lwa := chk_in sxc_0 8 rfl
theorem sm_L_board : Cond.static yL_board ∈ lwa := chk_in sxc_0 9 rfl
theorem sm_L_change : Cond.static yL_change ∈ lwa := chk_in sxc_0 10 rfl
theorem sm_L_leave : Cond.static yL_leave ∈ lwa := chk_in sxc_0 11 rfl
theorem sm_L_setNeeds : Cond.static yL_setNeeds ∈ lwa := chk_in sxc_0 12 rfl
theorem sm_L_loadOrder : Cond.static yL_loadOrder ∈ lwa := chk_in sxc_0 13 rfl
theorem sm_L_store : Cond.static yL_store ∈ lwa := chk_in sxc_0 14 rfl
theorem sm_L_unload : Cond.static yL_unload ∈ lwa := chk_in sxc_0 15 rfl
theorem sm_L_topUp : Cond.static yL_topUp ∈ lwa := chk_in sxc_0 16 rfl
theorem sm_L_advance : Cond.static yL_advance ∈ lwa := chk_in sxc_0 17 rfl
theorem sm_L_outlook : Cond.static yL_outlook ∈ lwa := chk_in sxc_0 18 rfl
theorem sm_L_mealFor : Cond.static yL_mealFor ∈ lwa := chk_in sxc_0 19 rfl
def sxl_1 : List (Nat × Cond) := [(1450, Cond.static yL_serve), (6, Cond.static yL_account), (7, Cond.static yL_undo), (11, Cond.static yL_keep), (11, Cond.static yL_restore), (7, Cond.static yL_writeTrolley), (16, Cond.static yL_outputByte)]
set_option maxRecDepth 50000 in
theorem sxc_1 : chk sxl_1 lw_tbl = true := by decide +kernel
theorem sm_L_serve : Cond.static yL_serve ∈ lwa := chk_in sxc_1 0 rfl
theorem sm_L_account : Cond.static yL_account ∈ lwa := chk_in sxc_1 1 rfl
theorem sm_L_undo : Cond.static yL_undo ∈ lwa := chk_in sxc_1 2 rfl
theorem sm_L_keep : Cond.static yL_keep ∈ lwa := chk_in sxc_1 3 rfl
theorem sm_L_restore : Cond.static yL_restore ∈ lwa := chk_in sxc_1 4 rfl
theorem sm_L_writeTrolley : Cond.static yL_writeTrolley ∈ lwa := chk_in sxc_1 5 rfl
theorem sm_L_outputByte : Cond.static yL_outputByte ∈ lwa := chk_in sxc_1 6 rfl
end INVSH
