section WRAP
variable {μ W : Wd}
abbrev RW_L_undone : Room := { frames := 20, cells := 1, slots := 6, locals := 600 }
theorem wv_undone (hw : Wf μ) {v : Int32} (hct : Ct Y_X10_undo R_X10_undo (.ref 0 :: []) μ (.inl (some (.int v))) W) : Ct Y_L_undone RW_L_undone [.ref 0] μ (.inl (some (.int v))) W := by
  refine Ct.entH yh_L_undone (Nat.le_of_ble_eq_true rfl) ?_
  refine a_aload_n dL_undone_0 rfl ?_
  refine a_inv (b2 := (0, 0)) hct rfl dL_undone_1 yk_X10_undo im_X10_undo se_X10_undo ml_L_101 rfl (co_0 hw) (by decide) hc_X10 (by decide) (by decide) (Nat.le_of_ble_eq_true rfl) ?_
  exact a_out rfl rfl (a_ireturn dL_undone_4 rfl rfl)
theorem ws_undone (hw : Wf μ) (hct : Ct Y_X10_undo RX_X10_undo (.ref 0 :: []) μ (.inr ISE) W) : Ct Y_L_undone RW_L_undone [.ref 0] μ (.inl (some (.int (-2)))) W := by
  refine Ct.entH yh_L_undone (Nat.le_of_ble_eq_true rfl) ?_
  refine a_aload_n dL_undone_0 rfl ?_
  exact a_invD hct rfl dL_undone_1 yk_X10_undo im_X10_undo se_X10_undo ml_L_101 rfl (co_0 hw) (by decide) hc_X10 (by decide) (by decide) (Nat.le_of_ble_eq_true rfl) (pre := []) (suf := []) rfl (fun z hz => nomatch hz) (by decide) (by decide) kl_34 (by decide) (j := 1) (by decide) (Or.inr ⟨⟨_, dL_undone_5, rfl⟩, rfl⟩) dL_undone_6 (by decide) dL_undone_8 rfl
abbrev RW_L_boarded : Room := { frames := 20, cells := 1, slots := 6, locals := 600 }
theorem wv_boarded (hw : Wf μ) (x0 x1 x2 : Int32) {v : Int32} (hct : Ct Y_X10_board R_X10_board (.ref 0 :: [.int x0, .int x1, .int x2]) μ (.inl (some (.int v))) W) : Ct Y_L_boarded RW_L_boarded [.ref 0, .int x0, .int x1, .int x2] μ (.inl (some (.int v))) W := by
  refine Ct.entH yh_L_boarded (Nat.le_of_ble_eq_true rfl) ?_
  refine a_aload_n dL_boarded_0 rfl ?_
  refine a_iload_n dL_boarded_1 rfl ?_
  refine a_iload_n dL_boarded_2 rfl ?_
  refine a_iload_n dL_boarded_3 rfl ?_
  refine a_inv (b2 := (0, 0)) hct rfl dL_boarded_4 yk_X10_board im_X10_board se_X10_board ml_L_104 rfl (co_0 hw) (by decide) hc_X10 (by decide) (by decide) (Nat.le_of_ble_eq_true rfl) ?_
  exact a_out rfl rfl (a_ireturn dL_boarded_7 rfl rfl)
theorem ws_boarded (hw : Wf μ) (x0 x1 x2 : Int32) (hct : Ct Y_X10_board RX_X10_board (.ref 0 :: [.int x0, .int x1, .int x2]) μ (.inr ISE) W) : Ct Y_L_boarded RW_L_boarded [.ref 0, .int x0, .int x1, .int x2] μ (.inl (some (.int (-2)))) W := by
  refine Ct.entH yh_L_boarded (Nat.le_of_ble_eq_true rfl) ?_
  refine a_aload_n dL_boarded_0 rfl ?_
  refine a_iload_n dL_boarded_1 rfl ?_
  refine a_iload_n dL_boarded_2 rfl ?_
  refine a_iload_n dL_boarded_3 rfl ?_
  exact a_invD hct rfl dL_boarded_4 yk_X10_board im_X10_board se_X10_board ml_L_104 rfl (co_0 hw) (by decide) hc_X10 (by decide) (by decide) (Nat.le_of_ble_eq_true rfl) (pre := []) (suf := [(0, 7, 13, 108)]) rfl (fun z hz => nomatch hz) (by decide) (by decide) kl_34 (by decide) (j := 4) (by decide) (Or.inl ⟨dL_boarded_8, rfl⟩) dL_boarded_10 (by decide) dL_boarded_12 rfl
theorem wi_boarded (hw : Wf μ) (x0 x1 x2 : Int32) (hct : Ct Y_X10_board RX_X10_board (.ref 0 :: [.int x0, .int x1, .int x2]) μ (.inr IAE) W) : Ct Y_L_boarded RW_L_boarded [.ref 0, .int x0, .int x1, .int x2] μ (.inl (some (.int (-3)))) W := by
  refine Ct.entH yh_L_boarded (Nat.le_of_ble_eq_true rfl) ?_
  refine a_aload_n dL_boarded_0 rfl ?_
  refine a_iload_n dL_boarded_1 rfl ?_
  refine a_iload_n dL_boarded_2 rfl ?_
  refine a_iload_n dL_boarded_3 rfl ?_
  exact a_invD hct rfl dL_boarded_4 yk_X10_board im_X10_board se_X10_board ml_L_104 rfl (co_0 hw) (by decide) hc_X10 (by decide) (by decide) (Nat.le_of_ble_eq_true rfl) (pre := [(0, 7, 8, 34)]) (suf := []) rfl (fun z hz => by
      simp only [List.mem_cons, List.not_mem_nil, or_false] at hz
      subst hz
      exact ⟨by decide, _, kl_34, by decide⟩) (by decide) (by decide) kl_108 (by decide) (j := 4) (by decide) (Or.inl ⟨dL_boarded_13, rfl⟩) dL_boarded_15 (by decide) dL_boarded_17 rfl
abbrev RW_L_changed : Room := { frames := 20, cells := 1, slots := 6, locals := 600 }
theorem wv_changed (hw : Wf μ) (x0 x1 : Int32) {v : Int32} (hct : Ct Y_X10_change R_X10_change (.ref 0 :: [.int x0, .int x1]) μ (.inl (some (.int v))) W) : Ct Y_L_changed RW_L_changed [.ref 0, .int x0, .int x1] μ (.inl (some (.int v))) W := by
  refine Ct.entH yh_L_changed (Nat.le_of_ble_eq_true rfl) ?_
  refine a_aload_n dL_changed_0 rfl ?_
  refine a_iload_n dL_changed_1 rfl ?_
  refine a_iload_n dL_changed_2 rfl ?_
  refine a_inv (b2 := (0, 0)) hct rfl dL_changed_3 yk_X10_change im_X10_change se_X10_change ml_L_110 rfl (co_0 hw) (by decide) hc_X10 (by decide) (by decide) (Nat.le_of_ble_eq_true rfl) ?_
  exact a_out rfl rfl (a_ireturn dL_changed_6 rfl rfl)
theorem ws_changed (hw : Wf μ) (x0 x1 : Int32) (hct : Ct Y_X10_change RX_X10_change (.ref 0 :: [.int x0, .int x1]) μ (.inr ISE) W) : Ct Y_L_changed RW_L_changed [.ref 0, .int x0, .int x1] μ (.inl (some (.int (-2)))) W := by
  refine Ct.entH yh_L_changed (Nat.le_of_ble_eq_true rfl) ?_
  refine a_aload_n dL_changed_0 rfl ?_
  refine a_iload_n dL_changed_1 rfl ?_
  refine a_iload_n dL_changed_2 rfl ?_
  exact a_invD hct rfl dL_changed_3 yk_X10_change im_X10_change se_X10_change ml_L_110 rfl (co_0 hw) (by decide) hc_X10 (by decide) (by decide) (Nat.le_of_ble_eq_true rfl) (pre := []) (suf := [(0, 6, 11, 108)]) rfl (fun z hz => nomatch hz) (by decide) (by decide) kl_34 (by decide) (j := 3) (by decide) (Or.inr ⟨⟨_, dL_changed_7, rfl⟩, rfl⟩) dL_changed_8 (by decide) dL_changed_10 rfl
theorem wi_changed (hw : Wf μ) (x0 x1 : Int32) (hct : Ct Y_X10_change RX_X10_change (.ref 0 :: [.int x0, .int x1]) μ (.inr IAE) W) : Ct Y_L_changed RW_L_changed [.ref 0, .int x0, .int x1] μ (.inl (some (.int (-3)))) W := by
  refine Ct.entH yh_L_changed (Nat.le_of_ble_eq_true rfl) ?_
  refine a_aload_n dL_changed_0 rfl ?_
  refine a_iload_n dL_changed_1 rfl ?_
  refine a_iload_n dL_changed_2 rfl ?_
  exact a_invD hct rfl dL_changed_3 yk_X10_change im_X10_change se_X10_change ml_L_110 rfl (co_0 hw) (by decide) hc_X10 (by decide) (by decide) (Nat.le_of_ble_eq_true rfl) (pre := [(0, 6, 7, 34)]) (suf := []) rfl (fun z hz => by
      simp only [List.mem_cons, List.not_mem_nil, or_false] at hz
      subst hz
      exact ⟨by decide, _, kl_34, by decide⟩) (by decide) (by decide) kl_108 (by decide) (j := 3) (by decide) (Or.inr ⟨⟨_, dL_changed_11, rfl⟩, rfl⟩) dL_changed_12 (by decide) dL_changed_14 rfl
abbrev RW_L_ordered : Room := { frames := 20, cells := 1, slots := 6, locals := 600 }
theorem wv_ordered (hw : Wf μ) {v : Int32} (hct : Ct Y_X10_loadOrder R_X10_loadOrder (.ref 0 :: []) μ (.inl (some (.int v))) W) : Ct Y_L_ordered RW_L_ordered [.ref 0] μ (.inl (some (.int v))) W := by
  refine Ct.entH yh_L_ordered (Nat.le_of_ble_eq_true rfl) ?_
  refine a_aload_n dL_ordered_0 rfl ?_
  refine a_inv (b2 := (0, 0)) hct rfl dL_ordered_1 yk_X10_loadOrder im_X10_loadOrder se_X10_loadOrder ml_L_114 rfl (co_0 hw) (by decide) hc_X10 (by decide) (by decide) (Nat.le_of_ble_eq_true rfl) ?_
  exact a_out rfl rfl (a_ireturn dL_ordered_4 rfl rfl)
theorem ws_ordered (hw : Wf μ) (hct : Ct Y_X10_loadOrder RX_X10_loadOrder (.ref 0 :: []) μ (.inr ISE) W) : Ct Y_L_ordered RW_L_ordered [.ref 0] μ (.inl (some (.int (-2)))) W := by
  refine Ct.entH yh_L_ordered (Nat.le_of_ble_eq_true rfl) ?_
  refine a_aload_n dL_ordered_0 rfl ?_
  exact a_invD hct rfl dL_ordered_1 yk_X10_loadOrder im_X10_loadOrder se_X10_loadOrder ml_L_114 rfl (co_0 hw) (by decide) hc_X10 (by decide) (by decide) (Nat.le_of_ble_eq_true rfl) (pre := []) (suf := []) rfl (fun z hz => nomatch hz) (by decide) (by decide) kl_34 (by decide) (j := 1) (by decide) (Or.inr ⟨⟨_, dL_ordered_5, rfl⟩, rfl⟩) dL_ordered_6 (by decide) dL_ordered_8 rfl
abbrev RW_L_stored : Room := { frames := 20, cells := 1, slots := 6, locals := 600 }
theorem wv_stored (hw : Wf μ) (x0 x1 : Int32) {v : Int32} (hct : Ct Y_X10_store R_X10_store (.ref 0 :: [.int x0, .int x1]) μ (.inl (some (.int v))) W) : Ct Y_L_stored RW_L_stored [.ref 0, .int x0, .int x1] μ (.inl (some (.int v))) W := by
  refine Ct.entH yh_L_stored (Nat.le_of_ble_eq_true rfl) ?_
  refine a_aload_n dL_stored_0 rfl ?_
  refine a_iload_n dL_stored_1 rfl ?_
  refine a_iload_n dL_stored_2 rfl ?_
  refine a_inv (b2 := (0, 0)) hct rfl dL_stored_3 yk_X10_store im_X10_store se_X10_store ml_L_117 rfl (co_0 hw) (by decide) hc_X10 (by decide) (by decide) (Nat.le_of_ble_eq_true rfl) ?_
  exact a_out rfl rfl (a_ireturn dL_stored_6 rfl rfl)
theorem ws_stored (hw : Wf μ) (x0 x1 : Int32) (hct : Ct Y_X10_store RX_X10_store (.ref 0 :: [.int x0, .int x1]) μ (.inr ISE) W) : Ct Y_L_stored RW_L_stored [.ref 0, .int x0, .int x1] μ (.inl (some (.int (-2)))) W := by
  refine Ct.entH yh_L_stored (Nat.le_of_ble_eq_true rfl) ?_
  refine a_aload_n dL_stored_0 rfl ?_
  refine a_iload_n dL_stored_1 rfl ?_
  refine a_iload_n dL_stored_2 rfl ?_
  exact a_invD hct rfl dL_stored_3 yk_X10_store im_X10_store se_X10_store ml_L_117 rfl (co_0 hw) (by decide) hc_X10 (by decide) (by decide) (Nat.le_of_ble_eq_true rfl) (pre := []) (suf := []) rfl (fun z hz => nomatch hz) (by decide) (by decide) kl_34 (by decide) (j := 3) (by decide) (Or.inr ⟨⟨_, dL_stored_7, rfl⟩, rfl⟩) dL_stored_8 (by decide) dL_stored_10 rfl
abbrev RW_L_unloaded : Room := { frames := 20, cells := 1, slots := 6, locals := 600 }
theorem wv_unloaded (hw : Wf μ) (x0 x1 : Int32) {v : Int32} (hct : Ct Y_X10_unload R_X10_unload (.ref 0 :: [.int x0, .int x1]) μ (.inl (some (.int v))) W) : Ct Y_L_unloaded RW_L_unloaded [.ref 0, .int x0, .int x1] μ (.inl (some (.int v))) W := by
  refine Ct.entH yh_L_unloaded (Nat.le_of_ble_eq_true rfl) ?_
  refine a_aload_n dL_unloaded_0 rfl ?_
  refine a_iload_n dL_unloaded_1 rfl ?_
  refine a_iload_n dL_unloaded_2 rfl ?_
  refine a_inv (b2 := (0, 0)) hct rfl dL_unloaded_3 yk_X10_unload im_X10_unload se_X10_unload ml_L_120 rfl (co_0 hw) (by decide) hc_X10 (by decide) (by decide) (Nat.le_of_ble_eq_true rfl) ?_
  exact a_out rfl rfl (a_ireturn dL_unloaded_6 rfl rfl)
theorem ws_unloaded (hw : Wf μ) (x0 x1 : Int32) (hct : Ct Y_X10_unload RX_X10_unload (.ref 0 :: [.int x0, .int x1]) μ (.inr ISE) W) : Ct Y_L_unloaded RW_L_unloaded [.ref 0, .int x0, .int x1] μ (.inl (some (.int (-2)))) W := by
  refine Ct.entH yh_L_unloaded (Nat.le_of_ble_eq_true rfl) ?_
  refine a_aload_n dL_unloaded_0 rfl ?_
  refine a_iload_n dL_unloaded_1 rfl ?_
  refine a_iload_n dL_unloaded_2 rfl ?_
  exact a_invD hct rfl dL_unloaded_3 yk_X10_unload im_X10_unload se_X10_unload ml_L_120 rfl (co_0 hw) (by decide) hc_X10 (by decide) (by decide) (Nat.le_of_ble_eq_true rfl) (pre := []) (suf := []) rfl (fun z hz => nomatch hz) (by decide) (by decide) kl_34 (by decide) (j := 3) (by decide) (Or.inr ⟨⟨_, dL_unloaded_7, rfl⟩, rfl⟩) dL_unloaded_8 (by decide) dL_unloaded_10 rfl
abbrev RW_L_topped : Room := { frames := 20, cells := 1, slots := 6, locals := 600 }
theorem wv_topped (hw : Wf μ) (x0 x1 : Int32) {v : Int32} (hct : Ct Y_X10_topUp R_X10_topUp (.ref 0 :: [.int x0, .int x1]) μ (.inl (some (.int v))) W) : Ct Y_L_topped RW_L_topped [.ref 0, .int x0, .int x1] μ (.inl (some (.int v))) W := by
  refine Ct.entH yh_L_topped (Nat.le_of_ble_eq_true rfl) ?_
  refine a_aload_n dL_topped_0 rfl ?_
  refine a_iload_n dL_topped_1 rfl ?_
  refine a_iload_n dL_topped_2 rfl ?_
  refine a_inv (b2 := (0, 0)) hct rfl dL_topped_3 yk_X10_topUp im_X10_topUp se_X10_topUp ml_L_123 rfl (co_0 hw) (by decide) hc_X10 (by decide) (by decide) (Nat.le_of_ble_eq_true rfl) ?_
  exact a_out rfl rfl (a_ireturn dL_topped_6 rfl rfl)
theorem ws_topped (hw : Wf μ) (x0 x1 : Int32) (hct : Ct Y_X10_topUp RX_X10_topUp (.ref 0 :: [.int x0, .int x1]) μ (.inr ISE) W) : Ct Y_L_topped RW_L_topped [.ref 0, .int x0, .int x1] μ (.inl (some (.int (-2)))) W := by
  refine Ct.entH yh_L_topped (Nat.le_of_ble_eq_true rfl) ?_
  refine a_aload_n dL_topped_0 rfl ?_
  refine a_iload_n dL_topped_1 rfl ?_
  refine a_iload_n dL_topped_2 rfl ?_
  exact a_invD hct rfl dL_topped_3 yk_X10_topUp im_X10_topUp se_X10_topUp ml_L_123 rfl (co_0 hw) (by decide) hc_X10 (by decide) (by decide) (Nat.le_of_ble_eq_true rfl) (pre := []) (suf := []) rfl (fun z hz => nomatch hz) (by decide) (by decide) kl_34 (by decide) (j := 3) (by decide) (Or.inr ⟨⟨_, dL_topped_7, rfl⟩, rfl⟩) dL_topped_8 (by decide) dL_topped_10 rfl
abbrev RW_L_passed : Room := { frames := 20, cells := 1, slots := 6, locals := 600 }
theorem wv_passed (hw : Wf μ) (x0 : Int32) {v : Int32} (hct : Ct Y_X10_advance R_X10_advance (.ref 0 :: [.int x0]) μ (.inl (some (.int v))) W) : Ct Y_L_passed RW_L_passed [.ref 0, .int x0] μ (.inl (some (.int v))) W := by
  refine Ct.entH yh_L_passed (Nat.le_of_ble_eq_true rfl) ?_
  refine a_aload_n dL_passed_0 rfl ?_
  refine a_iload_n dL_passed_1 rfl ?_
  refine a_inv (b2 := (0, 0)) hct rfl dL_passed_2 yk_X10_advance im_X10_advance se_X10_advance ml_L_126 rfl (co_0 hw) (by decide) hc_X10 (by decide) (by decide) (Nat.le_of_ble_eq_true rfl) ?_
  exact a_out rfl rfl (a_ireturn dL_passed_5 rfl rfl)
theorem ws_passed (hw : Wf μ) (x0 : Int32) (hct : Ct Y_X10_advance RX_X10_advance (.ref 0 :: [.int x0]) μ (.inr ISE) W) : Ct Y_L_passed RW_L_passed [.ref 0, .int x0] μ (.inl (some (.int (-2)))) W := by
  refine Ct.entH yh_L_passed (Nat.le_of_ble_eq_true rfl) ?_
  refine a_aload_n dL_passed_0 rfl ?_
  refine a_iload_n dL_passed_1 rfl ?_
  exact a_invD hct rfl dL_passed_2 yk_X10_advance im_X10_advance se_X10_advance ml_L_126 rfl (co_0 hw) (by decide) hc_X10 (by decide) (by decide) (Nat.le_of_ble_eq_true rfl) (pre := []) (suf := []) rfl (fun z hz => nomatch hz) (by decide) (by decide) kl_34 (by decide) (j := 2) (by decide) (Or.inr ⟨⟨_, dL_passed_6, rfl⟩, rfl⟩) dL_passed_7 (by decide) dL_passed_9 rfl
end WRAP
