section WRAPS
variable {μ W : Wd}
abbrev RW_L_feed : Room := { frames := 8, cells := 1, slots := 6, locals := 165 }
theorem wv_feed (hw : Wf μ) (x0 x1 x2 x3 x4 : Int32) {v : Int32} (hW : Wf W) (hct : Ct Y_X10_feed R_X10_feed (.ref 0 :: [.int x0, .int x1, .int x2, .int x3, .int x4]) μ (.inl (some (.int v))) W) : Ct Y_L_feed RW_L_feed [.ref 0, .int x0, .int x1, .int x2, .int x3, .int x4, .ref 363] μ (.inl (some (.int 0))) (sL W 363 0 (v.toInt64)) := by
  refine Ct.entH yh_L_feed (Nat.le_of_ble_eq_true rfl) ?_
  refine a_aload dL_feed_0 rfl ?_
  refine a_iconst (0 : Int32) dL_feed_2 (by decide) ?_
  refine a_aload_n dL_feed_3 rfl ?_
  refine a_iload_n dL_feed_4 rfl ?_
  refine a_iload_n dL_feed_5 rfl ?_
  refine a_iload_n dL_feed_6 rfl ?_
  refine a_iload dL_feed_7 rfl ?_
  refine a_iload dL_feed_9 rfl ?_
  refine a_inv (b2 := (0, 0)) hct rfl dL_feed_11 yk_X10_feed im_X10_feed se_X10_feed ml_L_7 rfl (co_0 (by repeat (first | with_reducible exact hw | with_reducible exact hwc | with_reducible assumption | with_reducible apply Wf.sI | with_reducible apply Wf.sL | with_reducible apply Wf.cpI | with_reducible apply Wf.cpL | with_reducible apply Wf.cp2 | with_reducible apply Wf.sIs | with_reducible apply Wf.sLs | with_reducible apply Wf.cpU | with_reducible apply Wf.fillI | with_reducible apply Wf.clU | with_reducible apply Wf.dnF | with_reducible apply Wf.gbW))) (by decide) hc_X10 (by decide) (by decide) (Nat.le_of_ble_eq_true rfl) ?_
  refine a_i2l dL_feed_14 ?_
  refine a_lst dL_feed_15 (ca_363 (by repeat (first | with_reducible exact hw | with_reducible exact hwc | with_reducible assumption | with_reducible apply Wf.sI | with_reducible apply Wf.sL | with_reducible apply Wf.cpI | with_reducible apply Wf.cpL | with_reducible apply Wf.cp2 | with_reducible apply Wf.sIs | with_reducible apply Wf.sLs | with_reducible apply Wf.cpU | with_reducible apply Wf.fillI | with_reducible apply Wf.clU | with_reducible apply Wf.dnF | with_reducible apply Wf.gbW))) (ixn (m := 0) (by decide) (by decide)) ?_
  refine a_goto (tgt := 23) dL_feed_16 (by decide) ?_
  refine a_iconst (0 : Int32) dL_feed_23 (by decide) ?_
  exact a_out rfl rfl (a_ireturn dL_feed_24 rfl rfl)
theorem wx_feed_1 (hw : Wf μ) (x0 x1 x2 x3 x4 : Int32) (hct : Ct Y_X10_feed RX_X10_feed (.ref 0 :: [.int x0, .int x1, .int x2, .int x3, .int x4]) μ (.inr ISE) W) : Ct Y_L_feed RW_L_feed [.ref 0, .int x0, .int x1, .int x2, .int x3, .int x4, .ref 363] μ (.inl (some (.int 1))) W := by
  refine Ct.entH yh_L_feed (Nat.le_of_ble_eq_true rfl) ?_
  refine a_aload dL_feed_0 rfl ?_
  refine a_iconst (0 : Int32) dL_feed_2 (by decide) ?_
  refine a_aload_n dL_feed_3 rfl ?_
  refine a_iload_n dL_feed_4 rfl ?_
  refine a_iload_n dL_feed_5 rfl ?_
  refine a_iload_n dL_feed_6 rfl ?_
  refine a_iload dL_feed_7 rfl ?_
  refine a_iload dL_feed_9 rfl ?_
  exact a_invC hct rfl dL_feed_11 yk_X10_feed im_X10_feed se_X10_feed ml_L_7 rfl (co_0 hw) (by decide) hc_X10 (by decide) (by decide) (Nat.le_of_ble_eq_true rfl) (pre := []) (suf := []) rfl (fun z hz => nomatch hz) (by decide) (by decide) kl_13 (by decide) (j := 7) (by decide) (Or.inl ⟨dL_feed_19, rfl⟩) dL_feed_21 rfl dL_feed_22 rfl
abbrev RW_L_load : Room := { frames := 15, cells := 49, slots := 262, locals := 375 }
theorem wv_load (hw : Wf μ) (x0 : Int32) {v : Int32} (hW : Wf W) (hct : Ct Y_X10_load R48_X10_load (.ref 0 :: [.int x0]) μ (.inl (some (.int v))) W) : Ct Y_L_load RW_L_load [.ref 0, .int x0, .ref 363] μ (.inl (some (.int 0))) (sL W 363 0 (v.toInt64)) := by
  refine Ct.entH yh_L_load (Nat.le_of_ble_eq_true rfl) ?_
  refine a_aload_n dL_load_0 rfl ?_
  refine a_iconst (0 : Int32) dL_load_1 (by decide) ?_
  refine a_aload_n dL_load_2 rfl ?_
  refine a_iload_n dL_load_3 rfl ?_
  refine a_inv (b2 := (0, 0)) hct rfl dL_load_4 yk_X10_load im_X10_load se_X10_load ml_L_15 rfl (co_0 (by repeat (first | with_reducible exact hw | with_reducible exact hwc | with_reducible assumption | with_reducible apply Wf.sI | with_reducible apply Wf.sL | with_reducible apply Wf.cpI | with_reducible apply Wf.cpL | with_reducible apply Wf.cp2 | with_reducible apply Wf.sIs | with_reducible apply Wf.sLs | with_reducible apply Wf.cpU | with_reducible apply Wf.fillI | with_reducible apply Wf.clU | with_reducible apply Wf.dnF | with_reducible apply Wf.gbW))) (by decide) hc_X10 (by decide) (by decide) (Nat.le_of_ble_eq_true rfl) ?_
  refine a_i2l dL_load_7 ?_
  refine a_lst dL_load_8 (ca_363 (by repeat (first | with_reducible exact hw | with_reducible exact hwc | with_reducible assumption | with_reducible apply Wf.sI | with_reducible apply Wf.sL | with_reducible apply Wf.cpI | with_reducible apply Wf.cpL | with_reducible apply Wf.cp2 | with_reducible apply Wf.sIs | with_reducible apply Wf.sLs | with_reducible apply Wf.cpU | with_reducible apply Wf.fillI | with_reducible apply Wf.clU | with_reducible apply Wf.dnF | with_reducible apply Wf.gbW))) (ixn (m := 0) (by decide) (by decide)) ?_
  refine a_goto (tgt := 18) dL_load_9 (by decide) ?_
  refine a_iconst (0 : Int32) dL_load_18 (by decide) ?_
  exact a_out rfl rfl (a_ireturn dL_load_19 rfl rfl)
theorem wx_load_1 (hw : Wf μ) (x0 : Int32) (hct : Ct Y_X10_load RX48_X10_load (.ref 0 :: [.int x0]) μ (.inr IAE) W) : Ct Y_L_load RW_L_load [.ref 0, .int x0, .ref 363] μ (.inl (some (.int 1))) W := by
  refine Ct.entH yh_L_load (Nat.le_of_ble_eq_true rfl) ?_
  refine a_aload_n dL_load_0 rfl ?_
  refine a_iconst (0 : Int32) dL_load_1 (by decide) ?_
  refine a_aload_n dL_load_2 rfl ?_
  refine a_iload_n dL_load_3 rfl ?_
  exact a_invC hct rfl dL_load_4 yk_X10_load im_X10_load se_X10_load ml_L_15 rfl (co_0 hw) (by decide) hc_X10 (by decide) (by decide) (Nat.le_of_ble_eq_true rfl) (pre := []) (suf := [(0, 9, 15, 13)]) rfl (fun z hz => nomatch hz) (by decide) (by decide) kl_19 (by decide) (j := 3) (by decide) (Or.inr ⟨⟨3, dL_load_12, rfl⟩, rfl⟩) dL_load_13 rfl dL_load_14 rfl
theorem wx_load_2 (hw : Wf μ) (x0 : Int32) (hct : Ct Y_X10_load RX48_X10_load (.ref 0 :: [.int x0]) μ (.inr ISE) W) : Ct Y_L_load RW_L_load [.ref 0, .int x0, .ref 363] μ (.inl (some (.int 2))) W := by
  refine Ct.entH yh_L_load (Nat.le_of_ble_eq_true rfl) ?_
  refine a_aload_n dL_load_0 rfl ?_
  refine a_iconst (0 : Int32) dL_load_1 (by decide) ?_
  refine a_aload_n dL_load_2 rfl ?_
  refine a_iload_n dL_load_3 rfl ?_
  exact a_invC hct rfl dL_load_4 yk_X10_load im_X10_load se_X10_load ml_L_15 rfl (co_0 hw) (by decide) hc_X10 (by decide) (by decide) (Nat.le_of_ble_eq_true rfl) (pre := [(0, 9, 12, 19)]) (suf := []) rfl (fun z hz => by
      simp only [List.mem_cons, List.not_mem_nil, or_false] at hz
      subst hz
      · exact ⟨by decide, _, kl_19, by decide⟩) (by decide) (by decide) kl_13 (by decide) (j := 3) (by decide) (Or.inr ⟨⟨3, dL_load_15, rfl⟩, rfl⟩) dL_load_16 rfl dL_load_17 rfl
abbrev RW_L_count : Room := { frames := 8, cells := 1, slots := 6, locals := 161 }
theorem wv_count (hw : Wf μ) (x0 : Int32) {v : Int32} (hW : Wf W) (hct : Ct Y_X10_count R_X10_count (.ref 0 :: [.int x0]) μ (.inl (some (.int v))) W) : Ct Y_L_count RW_L_count [.ref 0, .int x0, .ref 363] μ (.inl (some (.int 0))) (sL W 363 0 (v.toInt64)) := by
  refine Ct.entH yh_L_count (Nat.le_of_ble_eq_true rfl) ?_
  refine a_aload_n dL_count_0 rfl ?_
  refine a_iconst (0 : Int32) dL_count_1 (by decide) ?_
  refine a_aload_n dL_count_2 rfl ?_
  refine a_iload_n dL_count_3 rfl ?_
  refine a_inv (b2 := (0, 0)) hct rfl dL_count_4 yk_X10_count im_X10_count se_X10_count ml_L_21 rfl (co_0 (by repeat (first | with_reducible exact hw | with_reducible exact hwc | with_reducible assumption | with_reducible apply Wf.sI | with_reducible apply Wf.sL | with_reducible apply Wf.cpI | with_reducible apply Wf.cpL | with_reducible apply Wf.cp2 | with_reducible apply Wf.sIs | with_reducible apply Wf.sLs | with_reducible apply Wf.cpU | with_reducible apply Wf.fillI | with_reducible apply Wf.clU | with_reducible apply Wf.dnF | with_reducible apply Wf.gbW))) (by decide) hc_X10 (by decide) (by decide) (Nat.le_of_ble_eq_true rfl) ?_
  refine a_i2l dL_count_7 ?_
  refine a_lst dL_count_8 (ca_363 (by repeat (first | with_reducible exact hw | with_reducible exact hwc | with_reducible assumption | with_reducible apply Wf.sI | with_reducible apply Wf.sL | with_reducible apply Wf.cpI | with_reducible apply Wf.cpL | with_reducible apply Wf.cp2 | with_reducible apply Wf.sIs | with_reducible apply Wf.sLs | with_reducible apply Wf.cpU | with_reducible apply Wf.fillI | with_reducible apply Wf.clU | with_reducible apply Wf.dnF | with_reducible apply Wf.gbW))) (ixn (m := 0) (by decide) (by decide)) ?_
  refine a_goto (tgt := 15) dL_count_9 (by decide) ?_
  refine a_iconst (0 : Int32) dL_count_15 (by decide) ?_
  exact a_out rfl rfl (a_ireturn dL_count_16 rfl rfl)
theorem wx_count_1 (hw : Wf μ) (x0 : Int32) (hct : Ct Y_X10_count RX_X10_count (.ref 0 :: [.int x0]) μ (.inr IAE) W) : Ct Y_L_count RW_L_count [.ref 0, .int x0, .ref 363] μ (.inl (some (.int 1))) W := by
  refine Ct.entH yh_L_count (Nat.le_of_ble_eq_true rfl) ?_
  refine a_aload_n dL_count_0 rfl ?_
  refine a_iconst (0 : Int32) dL_count_1 (by decide) ?_
  refine a_aload_n dL_count_2 rfl ?_
  refine a_iload_n dL_count_3 rfl ?_
  exact a_invC hct rfl dL_count_4 yk_X10_count im_X10_count se_X10_count ml_L_21 rfl (co_0 hw) (by decide) hc_X10 (by decide) (by decide) (Nat.le_of_ble_eq_true rfl) (pre := []) (suf := []) rfl (fun z hz => nomatch hz) (by decide) (by decide) kl_19 (by decide) (j := 3) (by decide) (Or.inr ⟨⟨3, dL_count_12, rfl⟩, rfl⟩) dL_count_13 rfl dL_count_14 rfl
abbrev RW_L_cabin : Room := { frames := 9, cells := 1, slots := 6, locals := 183 }
theorem wv_cabin (hw : Wf μ) (x0 x1 : Int32) {v : Int32} (hW : Wf W) (hct : Ct Y_X10_cabin R_X10_cabin (.ref 0 :: [.int x0, .int x1]) μ (.inl (some (.int v))) W) : Ct Y_L_cabin RW_L_cabin [.ref 0, .int x0, .int x1, .ref 363] μ (.inl (some (.int 0))) (sL W 363 0 (v.toInt64)) := by
  refine Ct.entH yh_L_cabin (Nat.le_of_ble_eq_true rfl) ?_
  refine a_aload_n dL_cabin_0 rfl ?_
  refine a_iconst (0 : Int32) dL_cabin_1 (by decide) ?_
  refine a_aload_n dL_cabin_2 rfl ?_
  refine a_iload_n dL_cabin_3 rfl ?_
  refine a_iload_n dL_cabin_4 rfl ?_
  refine a_inv (b2 := (0, 0)) hct rfl dL_cabin_5 yk_X10_cabin im_X10_cabin se_X10_cabin ml_L_24 rfl (co_0 (by repeat (first | with_reducible exact hw | with_reducible exact hwc | with_reducible assumption | with_reducible apply Wf.sI | with_reducible apply Wf.sL | with_reducible apply Wf.cpI | with_reducible apply Wf.cpL | with_reducible apply Wf.cp2 | with_reducible apply Wf.sIs | with_reducible apply Wf.sLs | with_reducible apply Wf.cpU | with_reducible apply Wf.fillI | with_reducible apply Wf.clU | with_reducible apply Wf.dnF | with_reducible apply Wf.gbW))) (by decide) hc_X10 (by decide) (by decide) (Nat.le_of_ble_eq_true rfl) ?_
  refine a_i2l dL_cabin_8 ?_
  refine a_lst dL_cabin_9 (ca_363 (by repeat (first | with_reducible exact hw | with_reducible exact hwc | with_reducible assumption | with_reducible apply Wf.sI | with_reducible apply Wf.sL | with_reducible apply Wf.cpI | with_reducible apply Wf.cpL | with_reducible apply Wf.cp2 | with_reducible apply Wf.sIs | with_reducible apply Wf.sLs | with_reducible apply Wf.cpU | with_reducible apply Wf.fillI | with_reducible apply Wf.clU | with_reducible apply Wf.dnF | with_reducible apply Wf.gbW))) (ixn (m := 0) (by decide) (by decide)) ?_
  refine a_goto (tgt := 21) dL_cabin_10 (by decide) ?_
  refine a_iconst (0 : Int32) dL_cabin_21 (by decide) ?_
  exact a_out rfl rfl (a_ireturn dL_cabin_22 rfl rfl)
theorem wx_cabin_1 (hw : Wf μ) (x0 x1 : Int32) (hct : Ct Y_X10_cabin RX_X10_cabin (.ref 0 :: [.int x0, .int x1]) μ (.inr NSE) W) : Ct Y_L_cabin RW_L_cabin [.ref 0, .int x0, .int x1, .ref 363] μ (.inl (some (.int 1))) W := by
  refine Ct.entH yh_L_cabin (Nat.le_of_ble_eq_true rfl) ?_
  refine a_aload_n dL_cabin_0 rfl ?_
  refine a_iconst (0 : Int32) dL_cabin_1 (by decide) ?_
  refine a_aload_n dL_cabin_2 rfl ?_
  refine a_iload_n dL_cabin_3 rfl ?_
  refine a_iload_n dL_cabin_4 rfl ?_
  exact a_invC hct rfl dL_cabin_5 yk_X10_cabin im_X10_cabin se_X10_cabin ml_L_24 rfl (co_0 hw) (by decide) hc_X10 (by decide) (by decide) (Nat.le_of_ble_eq_true rfl) (pre := []) (suf := [(0, 10, 17, 19)]) rfl (fun z hz => nomatch hz) (by decide) (by decide) kl_28 (by decide) (j := 4) (by decide) (Or.inl ⟨dL_cabin_13, rfl⟩) dL_cabin_15 rfl dL_cabin_16 rfl
theorem wx_cabin_2 (hw : Wf μ) (x0 x1 : Int32) (hct : Ct Y_X10_cabin RX_X10_cabin (.ref 0 :: [.int x0, .int x1]) μ (.inr IAE) W) : Ct Y_L_cabin RW_L_cabin [.ref 0, .int x0, .int x1, .ref 363] μ (.inl (some (.int 2))) W := by
  refine Ct.entH yh_L_cabin (Nat.le_of_ble_eq_true rfl) ?_
  refine a_aload_n dL_cabin_0 rfl ?_
  refine a_iconst (0 : Int32) dL_cabin_1 (by decide) ?_
  refine a_aload_n dL_cabin_2 rfl ?_
  refine a_iload_n dL_cabin_3 rfl ?_
  refine a_iload_n dL_cabin_4 rfl ?_
  exact a_invC hct rfl dL_cabin_5 yk_X10_cabin im_X10_cabin se_X10_cabin ml_L_24 rfl (co_0 hw) (by decide) hc_X10 (by decide) (by decide) (Nat.le_of_ble_eq_true rfl) (pre := [(0, 10, 13, 28)]) (suf := []) rfl (fun z hz => by
      simp only [List.mem_cons, List.not_mem_nil, or_false] at hz
      subst hz
      · exact ⟨by decide, _, kl_28, by decide⟩) (by decide) (by decide) kl_19 (by decide) (j := 4) (by decide) (Or.inl ⟨dL_cabin_17, rfl⟩) dL_cabin_19 rfl dL_cabin_20 rfl
abbrev RW_L_meal : Room := { frames := 9, cells := 1, slots := 6, locals := 183 }
theorem wv_meal (hw : Wf μ) (x0 x1 : Int32) {v : Int32} (hW : Wf W) (hct : Ct Y_X10_meal R_X10_meal (.ref 0 :: [.int x0, .int x1]) μ (.inl (some (.int v))) W) : Ct Y_L_meal RW_L_meal [.ref 0, .int x0, .int x1, .ref 363] μ (.inl (some (.int 0))) (sL W 363 0 (v.toInt64)) := by
  refine Ct.entH yh_L_meal (Nat.le_of_ble_eq_true rfl) ?_
  refine a_aload_n dL_meal_0 rfl ?_
  refine a_iconst (0 : Int32) dL_meal_1 (by decide) ?_
  refine a_aload_n dL_meal_2 rfl ?_
  refine a_iload_n dL_meal_3 rfl ?_
  refine a_iload_n dL_meal_4 rfl ?_
  refine a_inv (b2 := (0, 0)) hct rfl dL_meal_5 yk_X10_meal im_X10_meal se_X10_meal ml_L_30 rfl (co_0 (by repeat (first | with_reducible exact hw | with_reducible exact hwc | with_reducible assumption | with_reducible apply Wf.sI | with_reducible apply Wf.sL | with_reducible apply Wf.cpI | with_reducible apply Wf.cpL | with_reducible apply Wf.cp2 | with_reducible apply Wf.sIs | with_reducible apply Wf.sLs | with_reducible apply Wf.cpU | with_reducible apply Wf.fillI | with_reducible apply Wf.clU | with_reducible apply Wf.dnF | with_reducible apply Wf.gbW))) (by decide) hc_X10 (by decide) (by decide) (Nat.le_of_ble_eq_true rfl) ?_
  refine a_i2l dL_meal_8 ?_
  refine a_lst dL_meal_9 (ca_363 (by repeat (first | with_reducible exact hw | with_reducible exact hwc | with_reducible assumption | with_reducible apply Wf.sI | with_reducible apply Wf.sL | with_reducible apply Wf.cpI | with_reducible apply Wf.cpL | with_reducible apply Wf.cp2 | with_reducible apply Wf.sIs | with_reducible apply Wf.sLs | with_reducible apply Wf.cpU | with_reducible apply Wf.fillI | with_reducible apply Wf.clU | with_reducible apply Wf.dnF | with_reducible apply Wf.gbW))) (ixn (m := 0) (by decide) (by decide)) ?_
  refine a_goto (tgt := 21) dL_meal_10 (by decide) ?_
  refine a_iconst (0 : Int32) dL_meal_21 (by decide) ?_
  exact a_out rfl rfl (a_ireturn dL_meal_22 rfl rfl)
theorem wx_meal_1 (hw : Wf μ) (x0 x1 : Int32) (hct : Ct Y_X10_meal RX_X10_meal (.ref 0 :: [.int x0, .int x1]) μ (.inr NSE) W) : Ct Y_L_meal RW_L_meal [.ref 0, .int x0, .int x1, .ref 363] μ (.inl (some (.int 1))) W := by
  refine Ct.entH yh_L_meal (Nat.le_of_ble_eq_true rfl) ?_
  refine a_aload_n dL_meal_0 rfl ?_
  refine a_iconst (0 : Int32) dL_meal_1 (by decide) ?_
  refine a_aload_n dL_meal_2 rfl ?_
  refine a_iload_n dL_meal_3 rfl ?_
  refine a_iload_n dL_meal_4 rfl ?_
  exact a_invC hct rfl dL_meal_5 yk_X10_meal im_X10_meal se_X10_meal ml_L_30 rfl (co_0 hw) (by decide) hc_X10 (by decide) (by decide) (Nat.le_of_ble_eq_true rfl) (pre := []) (suf := [(0, 10, 17, 19)]) rfl (fun z hz => nomatch hz) (by decide) (by decide) kl_28 (by decide) (j := 4) (by decide) (Or.inl ⟨dL_meal_13, rfl⟩) dL_meal_15 rfl dL_meal_16 rfl
theorem wx_meal_2 (hw : Wf μ) (x0 x1 : Int32) (hct : Ct Y_X10_meal RX_X10_meal (.ref 0 :: [.int x0, .int x1]) μ (.inr IAE) W) : Ct Y_L_meal RW_L_meal [.ref 0, .int x0, .int x1, .ref 363] μ (.inl (some (.int 2))) W := by
  refine Ct.entH yh_L_meal (Nat.le_of_ble_eq_true rfl) ?_
  refine a_aload_n dL_meal_0 rfl ?_
  refine a_iconst (0 : Int32) dL_meal_1 (by decide) ?_
  refine a_aload_n dL_meal_2 rfl ?_
  refine a_iload_n dL_meal_3 rfl ?_
  refine a_iload_n dL_meal_4 rfl ?_
  exact a_invC hct rfl dL_meal_5 yk_X10_meal im_X10_meal se_X10_meal ml_L_30 rfl (co_0 hw) (by decide) hc_X10 (by decide) (by decide) (Nat.le_of_ble_eq_true rfl) (pre := [(0, 10, 13, 28)]) (suf := []) rfl (fun z hz => by
      simp only [List.mem_cons, List.not_mem_nil, or_false] at hz
      subst hz
      · exact ⟨by decide, _, kl_28, by decide⟩) (by decide) (by decide) kl_19 (by decide) (j := 4) (by decide) (Or.inl ⟨dL_meal_17, rfl⟩) dL_meal_19 rfl dL_meal_20 rfl
abbrev RW_L_passenger : Room := { frames := 9, cells := 1, slots := 6, locals := 183 }
theorem wv_passenger (hw : Wf μ) (x0 x1 : Int32) {v : Int32} (hW : Wf W) (hct : Ct Y_X10_passenger R_X10_passenger (.ref 0 :: [.int x0, .int x1]) μ (.inl (some (.int v))) W) : Ct Y_L_passenger RW_L_passenger [.ref 0, .int x0, .int x1, .ref 363] μ (.inl (some (.int 0))) (sL W 363 0 (v.toInt64)) := by
  refine Ct.entH yh_L_passenger (Nat.le_of_ble_eq_true rfl) ?_
  refine a_aload_n dL_passenger_0 rfl ?_
  refine a_iconst (0 : Int32) dL_passenger_1 (by decide) ?_
  refine a_aload_n dL_passenger_2 rfl ?_
  refine a_iload_n dL_passenger_3 rfl ?_
  refine a_iload_n dL_passenger_4 rfl ?_
  refine a_inv (b2 := (0, 0)) hct rfl dL_passenger_5 yk_X10_passenger im_X10_passenger se_X10_passenger ml_L_33 rfl (co_0 (by repeat (first | with_reducible exact hw | with_reducible exact hwc | with_reducible assumption | with_reducible apply Wf.sI | with_reducible apply Wf.sL | with_reducible apply Wf.cpI | with_reducible apply Wf.cpL | with_reducible apply Wf.cp2 | with_reducible apply Wf.sIs | with_reducible apply Wf.sLs | with_reducible apply Wf.cpU | with_reducible apply Wf.fillI | with_reducible apply Wf.clU | with_reducible apply Wf.dnF | with_reducible apply Wf.gbW))) (by decide) hc_X10 (by decide) (by decide) (Nat.le_of_ble_eq_true rfl) ?_
  refine a_i2l dL_passenger_8 ?_
  refine a_lst dL_passenger_9 (ca_363 (by repeat (first | with_reducible exact hw | with_reducible exact hwc | with_reducible assumption | with_reducible apply Wf.sI | with_reducible apply Wf.sL | with_reducible apply Wf.cpI | with_reducible apply Wf.cpL | with_reducible apply Wf.cp2 | with_reducible apply Wf.sIs | with_reducible apply Wf.sLs | with_reducible apply Wf.cpU | with_reducible apply Wf.fillI | with_reducible apply Wf.clU | with_reducible apply Wf.dnF | with_reducible apply Wf.gbW))) (ixn (m := 0) (by decide) (by decide)) ?_
  refine a_goto (tgt := 21) dL_passenger_10 (by decide) ?_
  refine a_iconst (0 : Int32) dL_passenger_21 (by decide) ?_
  exact a_out rfl rfl (a_ireturn dL_passenger_22 rfl rfl)
theorem wx_passenger_1 (hw : Wf μ) (x0 x1 : Int32) (hct : Ct Y_X10_passenger RX_X10_passenger (.ref 0 :: [.int x0, .int x1]) μ (.inr NSE) W) : Ct Y_L_passenger RW_L_passenger [.ref 0, .int x0, .int x1, .ref 363] μ (.inl (some (.int 1))) W := by
  refine Ct.entH yh_L_passenger (Nat.le_of_ble_eq_true rfl) ?_
  refine a_aload_n dL_passenger_0 rfl ?_
  refine a_iconst (0 : Int32) dL_passenger_1 (by decide) ?_
  refine a_aload_n dL_passenger_2 rfl ?_
  refine a_iload_n dL_passenger_3 rfl ?_
  refine a_iload_n dL_passenger_4 rfl ?_
  exact a_invC hct rfl dL_passenger_5 yk_X10_passenger im_X10_passenger se_X10_passenger ml_L_33 rfl (co_0 hw) (by decide) hc_X10 (by decide) (by decide) (Nat.le_of_ble_eq_true rfl) (pre := []) (suf := [(0, 10, 17, 19)]) rfl (fun z hz => nomatch hz) (by decide) (by decide) kl_28 (by decide) (j := 4) (by decide) (Or.inl ⟨dL_passenger_13, rfl⟩) dL_passenger_15 rfl dL_passenger_16 rfl
theorem wx_passenger_2 (hw : Wf μ) (x0 x1 : Int32) (hct : Ct Y_X10_passenger RX_X10_passenger (.ref 0 :: [.int x0, .int x1]) μ (.inr IAE) W) : Ct Y_L_passenger RW_L_passenger [.ref 0, .int x0, .int x1, .ref 363] μ (.inl (some (.int 2))) W := by
  refine Ct.entH yh_L_passenger (Nat.le_of_ble_eq_true rfl) ?_
  refine a_aload_n dL_passenger_0 rfl ?_
  refine a_iconst (0 : Int32) dL_passenger_1 (by decide) ?_
  refine a_aload_n dL_passenger_2 rfl ?_
  refine a_iload_n dL_passenger_3 rfl ?_
  refine a_iload_n dL_passenger_4 rfl ?_
  exact a_invC hct rfl dL_passenger_5 yk_X10_passenger im_X10_passenger se_X10_passenger ml_L_33 rfl (co_0 hw) (by decide) hc_X10 (by decide) (by decide) (Nat.le_of_ble_eq_true rfl) (pre := [(0, 10, 13, 28)]) (suf := []) rfl (fun z hz => by
      simp only [List.mem_cons, List.not_mem_nil, or_false] at hz
      subst hz
      · exact ⟨by decide, _, kl_28, by decide⟩) (by decide) (by decide) kl_19 (by decide) (j := 4) (by decide) (Or.inl ⟨dL_passenger_17, rfl⟩) dL_passenger_19 rfl dL_passenger_20 rfl
abbrev RW_L_trolley : Room := { frames := 9, cells := 1, slots := 6, locals := 183 }
theorem wv_trolley (hw : Wf μ) (x0 x1 : Int32) {v : Int32} (hW : Wf W) (hct : Ct Y_X10_trolley R_X10_trolley (.ref 0 :: [.int x0, .int x1]) μ (.inl (some (.int v))) W) : Ct Y_L_trolley RW_L_trolley [.ref 0, .int x0, .int x1, .ref 363] μ (.inl (some (.int 0))) (sL W 363 0 (v.toInt64)) := by
  refine Ct.entH yh_L_trolley (Nat.le_of_ble_eq_true rfl) ?_
  refine a_aload_n dL_trolley_0 rfl ?_
  refine a_iconst (0 : Int32) dL_trolley_1 (by decide) ?_
  refine a_aload_n dL_trolley_2 rfl ?_
  refine a_iload_n dL_trolley_3 rfl ?_
  refine a_iload_n dL_trolley_4 rfl ?_
  refine a_inv (b2 := (0, 0)) hct rfl dL_trolley_5 yk_X10_trolley im_X10_trolley se_X10_trolley ml_L_36 rfl (co_0 (by repeat (first | with_reducible exact hw | with_reducible exact hwc | with_reducible assumption | with_reducible apply Wf.sI | with_reducible apply Wf.sL | with_reducible apply Wf.cpI | with_reducible apply Wf.cpL | with_reducible apply Wf.cp2 | with_reducible apply Wf.sIs | with_reducible apply Wf.sLs | with_reducible apply Wf.cpU | with_reducible apply Wf.fillI | with_reducible apply Wf.clU | with_reducible apply Wf.dnF | with_reducible apply Wf.gbW))) (by decide) hc_X10 (by decide) (by decide) (Nat.le_of_ble_eq_true rfl) ?_
  refine a_i2l dL_trolley_8 ?_
  refine a_lst dL_trolley_9 (ca_363 (by repeat (first | with_reducible exact hw | with_reducible exact hwc | with_reducible assumption | with_reducible apply Wf.sI | with_reducible apply Wf.sL | with_reducible apply Wf.cpI | with_reducible apply Wf.cpL | with_reducible apply Wf.cp2 | with_reducible apply Wf.sIs | with_reducible apply Wf.sLs | with_reducible apply Wf.cpU | with_reducible apply Wf.fillI | with_reducible apply Wf.clU | with_reducible apply Wf.dnF | with_reducible apply Wf.gbW))) (ixn (m := 0) (by decide) (by decide)) ?_
  refine a_goto (tgt := 21) dL_trolley_10 (by decide) ?_
  refine a_iconst (0 : Int32) dL_trolley_21 (by decide) ?_
  exact a_out rfl rfl (a_ireturn dL_trolley_22 rfl rfl)
theorem wx_trolley_1 (hw : Wf μ) (x0 x1 : Int32) (hct : Ct Y_X10_trolley RX_X10_trolley (.ref 0 :: [.int x0, .int x1]) μ (.inr NSE) W) : Ct Y_L_trolley RW_L_trolley [.ref 0, .int x0, .int x1, .ref 363] μ (.inl (some (.int 1))) W := by
  refine Ct.entH yh_L_trolley (Nat.le_of_ble_eq_true rfl) ?_
  refine a_aload_n dL_trolley_0 rfl ?_
  refine a_iconst (0 : Int32) dL_trolley_1 (by decide) ?_
  refine a_aload_n dL_trolley_2 rfl ?_
  refine a_iload_n dL_trolley_3 rfl ?_
  refine a_iload_n dL_trolley_4 rfl ?_
  exact a_invC hct rfl dL_trolley_5 yk_X10_trolley im_X10_trolley se_X10_trolley ml_L_36 rfl (co_0 hw) (by decide) hc_X10 (by decide) (by decide) (Nat.le_of_ble_eq_true rfl) (pre := []) (suf := [(0, 10, 17, 19)]) rfl (fun z hz => nomatch hz) (by decide) (by decide) kl_28 (by decide) (j := 4) (by decide) (Or.inl ⟨dL_trolley_13, rfl⟩) dL_trolley_15 rfl dL_trolley_16 rfl
theorem wx_trolley_2 (hw : Wf μ) (x0 x1 : Int32) (hct : Ct Y_X10_trolley RX_X10_trolley (.ref 0 :: [.int x0, .int x1]) μ (.inr IAE) W) : Ct Y_L_trolley RW_L_trolley [.ref 0, .int x0, .int x1, .ref 363] μ (.inl (some (.int 2))) W := by
  refine Ct.entH yh_L_trolley (Nat.le_of_ble_eq_true rfl) ?_
  refine a_aload_n dL_trolley_0 rfl ?_
  refine a_iconst (0 : Int32) dL_trolley_1 (by decide) ?_
  refine a_aload_n dL_trolley_2 rfl ?_
  refine a_iload_n dL_trolley_3 rfl ?_
  refine a_iload_n dL_trolley_4 rfl ?_
  exact a_invC hct rfl dL_trolley_5 yk_X10_trolley im_X10_trolley se_X10_trolley ml_L_36 rfl (co_0 hw) (by decide) hc_X10 (by decide) (by decide) (Nat.le_of_ble_eq_true rfl) (pre := [(0, 10, 13, 28)]) (suf := []) rfl (fun z hz => by
      simp only [List.mem_cons, List.not_mem_nil, or_false] at hz
      subst hz
      · exact ⟨by decide, _, kl_28, by decide⟩) (by decide) (by decide) kl_19 (by decide) (j := 4) (by decide) (Or.inl ⟨dL_trolley_17, rfl⟩) dL_trolley_19 rfl dL_trolley_20 rfl
abbrev RW_L_held : Room := { frames := 9, cells := 1, slots := 6, locals := 183 }
theorem wv_held (hw : Wf μ) (x0 x1 : Int32) {v : Int32} (hW : Wf W) (hct : Ct Y_X10_held R_X10_held (.ref 0 :: [.int x0, .int x1]) μ (.inl (some (.int v))) W) : Ct Y_L_held RW_L_held [.ref 0, .int x0, .int x1, .ref 363] μ (.inl (some (.int 0))) (sL W 363 0 (v.toInt64)) := by
  refine Ct.entH yh_L_held (Nat.le_of_ble_eq_true rfl) ?_
  refine a_aload_n dL_held_0 rfl ?_
  refine a_iconst (0 : Int32) dL_held_1 (by decide) ?_
  refine a_aload_n dL_held_2 rfl ?_
  refine a_iload_n dL_held_3 rfl ?_
  refine a_iload_n dL_held_4 rfl ?_
  refine a_inv (b2 := (0, 0)) hct rfl dL_held_5 yk_X10_held im_X10_held se_X10_held ml_L_39 rfl (co_0 (by repeat (first | with_reducible exact hw | with_reducible exact hwc | with_reducible assumption | with_reducible apply Wf.sI | with_reducible apply Wf.sL | with_reducible apply Wf.cpI | with_reducible apply Wf.cpL | with_reducible apply Wf.cp2 | with_reducible apply Wf.sIs | with_reducible apply Wf.sLs | with_reducible apply Wf.cpU | with_reducible apply Wf.fillI | with_reducible apply Wf.clU | with_reducible apply Wf.dnF | with_reducible apply Wf.gbW))) (by decide) hc_X10 (by decide) (by decide) (Nat.le_of_ble_eq_true rfl) ?_
  refine a_i2l dL_held_8 ?_
  refine a_lst dL_held_9 (ca_363 (by repeat (first | with_reducible exact hw | with_reducible exact hwc | with_reducible assumption | with_reducible apply Wf.sI | with_reducible apply Wf.sL | with_reducible apply Wf.cpI | with_reducible apply Wf.cpL | with_reducible apply Wf.cp2 | with_reducible apply Wf.sIs | with_reducible apply Wf.sLs | with_reducible apply Wf.cpU | with_reducible apply Wf.fillI | with_reducible apply Wf.clU | with_reducible apply Wf.dnF | with_reducible apply Wf.gbW))) (ixn (m := 0) (by decide) (by decide)) ?_
  refine a_goto (tgt := 17) dL_held_10 (by decide) ?_
  refine a_iconst (0 : Int32) dL_held_17 (by decide) ?_
  exact a_out rfl rfl (a_ireturn dL_held_18 rfl rfl)
theorem wx_held_1 (hw : Wf μ) (x0 x1 : Int32) (hct : Ct Y_X10_held RX_X10_held (.ref 0 :: [.int x0, .int x1]) μ (.inr NSE) W) : Ct Y_L_held RW_L_held [.ref 0, .int x0, .int x1, .ref 363] μ (.inl (some (.int 1))) W := by
  refine Ct.entH yh_L_held (Nat.le_of_ble_eq_true rfl) ?_
  refine a_aload_n dL_held_0 rfl ?_
  refine a_iconst (0 : Int32) dL_held_1 (by decide) ?_
  refine a_aload_n dL_held_2 rfl ?_
  refine a_iload_n dL_held_3 rfl ?_
  refine a_iload_n dL_held_4 rfl ?_
  exact a_invC hct rfl dL_held_5 yk_X10_held im_X10_held se_X10_held ml_L_39 rfl (co_0 hw) (by decide) hc_X10 (by decide) (by decide) (Nat.le_of_ble_eq_true rfl) (pre := []) (suf := []) rfl (fun z hz => nomatch hz) (by decide) (by decide) kl_28 (by decide) (j := 4) (by decide) (Or.inl ⟨dL_held_13, rfl⟩) dL_held_15 rfl dL_held_16 rfl
abbrev RW_L_topUpAt : Room := { frames := 8, cells := 1, slots := 6, locals := 162 }
theorem wv_topUpAt (hw : Wf μ) (x0 x1 : Int32) {v : Int32} (hW : Wf W) (hct : Ct Y_X10_topUpAt R_X10_topUpAt (.ref 0 :: [.int x0, .int x1]) μ (.inl (some (.int v))) W) : Ct Y_L_topUpAt RW_L_topUpAt [.ref 0, .int x0, .int x1, .ref 363] μ (.inl (some (.int 0))) (sL W 363 0 (v.toInt64)) := by
  refine Ct.entH yh_L_topUpAt (Nat.le_of_ble_eq_true rfl) ?_
  refine a_aload_n dL_topUpAt_0 rfl ?_
  refine a_iconst (0 : Int32) dL_topUpAt_1 (by decide) ?_
  refine a_aload_n dL_topUpAt_2 rfl ?_
  refine a_iload_n dL_topUpAt_3 rfl ?_
  refine a_iload_n dL_topUpAt_4 rfl ?_
  refine a_inv (b2 := (0, 0)) hct rfl dL_topUpAt_5 yk_X10_topUpAt im_X10_topUpAt se_X10_topUpAt ml_L_42 rfl (co_0 (by repeat (first | with_reducible exact hw | with_reducible exact hwc | with_reducible assumption | with_reducible apply Wf.sI | with_reducible apply Wf.sL | with_reducible apply Wf.cpI | with_reducible apply Wf.cpL | with_reducible apply Wf.cp2 | with_reducible apply Wf.sIs | with_reducible apply Wf.sLs | with_reducible apply Wf.cpU | with_reducible apply Wf.fillI | with_reducible apply Wf.clU | with_reducible apply Wf.dnF | with_reducible apply Wf.gbW))) (by decide) hc_X10 (by decide) (by decide) (Nat.le_of_ble_eq_true rfl) ?_
  refine a_i2l dL_topUpAt_8 ?_
  refine a_lst dL_topUpAt_9 (ca_363 (by repeat (first | with_reducible exact hw | with_reducible exact hwc | with_reducible assumption | with_reducible apply Wf.sI | with_reducible apply Wf.sL | with_reducible apply Wf.cpI | with_reducible apply Wf.cpL | with_reducible apply Wf.cp2 | with_reducible apply Wf.sIs | with_reducible apply Wf.sLs | with_reducible apply Wf.cpU | with_reducible apply Wf.fillI | with_reducible apply Wf.clU | with_reducible apply Wf.dnF | with_reducible apply Wf.gbW))) (ixn (m := 0) (by decide) (by decide)) ?_
  refine a_goto (tgt := 21) dL_topUpAt_10 (by decide) ?_
  refine a_iconst (0 : Int32) dL_topUpAt_21 (by decide) ?_
  exact a_out rfl rfl (a_ireturn dL_topUpAt_22 rfl rfl)
theorem wx_topUpAt_1 (hw : Wf μ) (x0 x1 : Int32) (hct : Ct Y_X10_topUpAt RX_X10_topUpAt (.ref 0 :: [.int x0, .int x1]) μ (.inr IOE) W) : Ct Y_L_topUpAt RW_L_topUpAt [.ref 0, .int x0, .int x1, .ref 363] μ (.inl (some (.int 1))) W := by
  refine Ct.entH yh_L_topUpAt (Nat.le_of_ble_eq_true rfl) ?_
  refine a_aload_n dL_topUpAt_0 rfl ?_
  refine a_iconst (0 : Int32) dL_topUpAt_1 (by decide) ?_
  refine a_aload_n dL_topUpAt_2 rfl ?_
  refine a_iload_n dL_topUpAt_3 rfl ?_
  refine a_iload_n dL_topUpAt_4 rfl ?_
  exact a_invC hct rfl dL_topUpAt_5 yk_X10_topUpAt im_X10_topUpAt se_X10_topUpAt ml_L_42 rfl (co_0 hw) (by decide) hc_X10 (by decide) (by decide) (Nat.le_of_ble_eq_true rfl) (pre := []) (suf := [(0, 10, 17, 19)]) rfl (fun z hz => nomatch hz) (by decide) (by decide) kl_45 (by decide) (j := 4) (by decide) (Or.inl ⟨dL_topUpAt_13, rfl⟩) dL_topUpAt_15 rfl dL_topUpAt_16 rfl
theorem wx_topUpAt_2 (hw : Wf μ) (x0 x1 : Int32) (hct : Ct Y_X10_topUpAt RX_X10_topUpAt (.ref 0 :: [.int x0, .int x1]) μ (.inr IAE) W) : Ct Y_L_topUpAt RW_L_topUpAt [.ref 0, .int x0, .int x1, .ref 363] μ (.inl (some (.int 2))) W := by
  refine Ct.entH yh_L_topUpAt (Nat.le_of_ble_eq_true rfl) ?_
  refine a_aload_n dL_topUpAt_0 rfl ?_
  refine a_iconst (0 : Int32) dL_topUpAt_1 (by decide) ?_
  refine a_aload_n dL_topUpAt_2 rfl ?_
  refine a_iload_n dL_topUpAt_3 rfl ?_
  refine a_iload_n dL_topUpAt_4 rfl ?_
  exact a_invC hct rfl dL_topUpAt_5 yk_X10_topUpAt im_X10_topUpAt se_X10_topUpAt ml_L_42 rfl (co_0 hw) (by decide) hc_X10 (by decide) (by decide) (Nat.le_of_ble_eq_true rfl) (pre := [(0, 10, 13, 45)]) (suf := []) rfl (fun z hz => by
      simp only [List.mem_cons, List.not_mem_nil, or_false] at hz
      subst hz
      · exact ⟨by decide, _, kl_45, by decide⟩) (by decide) (by decide) kl_19 (by decide) (j := 4) (by decide) (Or.inl ⟨dL_topUpAt_17, rfl⟩) dL_topUpAt_19 rfl dL_topUpAt_20 rfl
abbrev RW_L_board : Room := { frames := 10, cells := 1, slots := 6, locals := 205 }
theorem wv_board (hw : Wf μ) (x0 x1 x2 : Int32) {v : Int32} (hW : Wf W) (hct : Ct Y_X10_board R_X10_board (.ref 0 :: [.int x0, .int x1, .int x2]) μ (.inl (some (.int v))) W) : Ct Y_L_board RW_L_board [.ref 0, .int x0, .int x1, .int x2, .ref 363] μ (.inl (some (.int 0))) (sL W 363 0 (v.toInt64)) := by
  refine Ct.entH yh_L_board (Nat.le_of_ble_eq_true rfl) ?_
  refine a_aload dL_board_0 rfl ?_
  refine a_iconst (0 : Int32) dL_board_2 (by decide) ?_
  refine a_aload_n dL_board_3 rfl ?_
  refine a_iload_n dL_board_4 rfl ?_
  refine a_iload_n dL_board_5 rfl ?_
  refine a_iload_n dL_board_6 rfl ?_
  refine a_inv (b2 := (0, 0)) hct rfl dL_board_7 yk_X10_board im_X10_board se_X10_board ml_L_47 rfl (co_0 (by repeat (first | with_reducible exact hw | with_reducible exact hwc | with_reducible assumption | with_reducible apply Wf.sI | with_reducible apply Wf.sL | with_reducible apply Wf.cpI | with_reducible apply Wf.cpL | with_reducible apply Wf.cp2 | with_reducible apply Wf.sIs | with_reducible apply Wf.sLs | with_reducible apply Wf.cpU | with_reducible apply Wf.fillI | with_reducible apply Wf.clU | with_reducible apply Wf.dnF | with_reducible apply Wf.gbW))) (by decide) hc_X10 (by decide) (by decide) (Nat.le_of_ble_eq_true rfl) ?_
  refine a_i2l dL_board_10 ?_
  refine a_lst dL_board_11 (ca_363 (by repeat (first | with_reducible exact hw | with_reducible exact hwc | with_reducible assumption | with_reducible apply Wf.sI | with_reducible apply Wf.sL | with_reducible apply Wf.cpI | with_reducible apply Wf.cpL | with_reducible apply Wf.cp2 | with_reducible apply Wf.sIs | with_reducible apply Wf.sLs | with_reducible apply Wf.cpU | with_reducible apply Wf.fillI | with_reducible apply Wf.clU | with_reducible apply Wf.dnF | with_reducible apply Wf.gbW))) (ixn (m := 0) (by decide) (by decide)) ?_
  refine a_goto (tgt := 27) dL_board_12 (by decide) ?_
  refine a_iconst (0 : Int32) dL_board_27 (by decide) ?_
  exact a_out rfl rfl (a_ireturn dL_board_28 rfl rfl)
theorem wx_board_1 (hw : Wf μ) (x0 x1 x2 : Int32) (hct : Ct Y_X10_board RX_X10_board (.ref 0 :: [.int x0, .int x1, .int x2]) μ (.inr NSE) W) : Ct Y_L_board RW_L_board [.ref 0, .int x0, .int x1, .int x2, .ref 363] μ (.inl (some (.int 1))) W := by
  refine Ct.entH yh_L_board (Nat.le_of_ble_eq_true rfl) ?_
  refine a_aload dL_board_0 rfl ?_
  refine a_iconst (0 : Int32) dL_board_2 (by decide) ?_
  refine a_aload_n dL_board_3 rfl ?_
  refine a_iload_n dL_board_4 rfl ?_
  refine a_iload_n dL_board_5 rfl ?_
  refine a_iload_n dL_board_6 rfl ?_
  exact a_invC hct rfl dL_board_7 yk_X10_board im_X10_board se_X10_board ml_L_47 rfl (co_0 hw) (by decide) hc_X10 (by decide) (by decide) (Nat.le_of_ble_eq_true rfl) (pre := []) (suf := [(0, 12, 19, 19), (0, 12, 23, 13)]) rfl (fun z hz => nomatch hz) (by decide) (by decide) kl_28 (by decide) (j := 5) (by decide) (Or.inl ⟨dL_board_15, rfl⟩) dL_board_17 rfl dL_board_18 rfl
theorem wx_board_2 (hw : Wf μ) (x0 x1 x2 : Int32) (hct : Ct Y_X10_board RX_X10_board (.ref 0 :: [.int x0, .int x1, .int x2]) μ (.inr IAE) W) : Ct Y_L_board RW_L_board [.ref 0, .int x0, .int x1, .int x2, .ref 363] μ (.inl (some (.int 2))) W := by
  refine Ct.entH yh_L_board (Nat.le_of_ble_eq_true rfl) ?_
  refine a_aload dL_board_0 rfl ?_
  refine a_iconst (0 : Int32) dL_board_2 (by decide) ?_
  refine a_aload_n dL_board_3 rfl ?_
  refine a_iload_n dL_board_4 rfl ?_
  refine a_iload_n dL_board_5 rfl ?_
  refine a_iload_n dL_board_6 rfl ?_
  exact a_invC hct rfl dL_board_7 yk_X10_board im_X10_board se_X10_board ml_L_47 rfl (co_0 hw) (by decide) hc_X10 (by decide) (by decide) (Nat.le_of_ble_eq_true rfl) (pre := [(0, 12, 15, 28)]) (suf := [(0, 12, 23, 13)]) rfl (fun z hz => by
      simp only [List.mem_cons, List.not_mem_nil, or_false] at hz
      subst hz
      · exact ⟨by decide, _, kl_28, by decide⟩) (by decide) (by decide) kl_19 (by decide) (j := 5) (by decide) (Or.inl ⟨dL_board_19, rfl⟩) dL_board_21 rfl dL_board_22 rfl
theorem wx_board_3 (hw : Wf μ) (x0 x1 x2 : Int32) (hct : Ct Y_X10_board RX_X10_board (.ref 0 :: [.int x0, .int x1, .int x2]) μ (.inr ISE) W) : Ct Y_L_board RW_L_board [.ref 0, .int x0, .int x1, .int x2, .ref 363] μ (.inl (some (.int 3))) W := by
  refine Ct.entH yh_L_board (Nat.le_of_ble_eq_true rfl) ?_
  refine a_aload dL_board_0 rfl ?_
  refine a_iconst (0 : Int32) dL_board_2 (by decide) ?_
  refine a_aload_n dL_board_3 rfl ?_
  refine a_iload_n dL_board_4 rfl ?_
  refine a_iload_n dL_board_5 rfl ?_
  refine a_iload_n dL_board_6 rfl ?_
  exact a_invC hct rfl dL_board_7 yk_X10_board im_X10_board se_X10_board ml_L_47 rfl (co_0 hw) (by decide) hc_X10 (by decide) (by decide) (Nat.le_of_ble_eq_true rfl) (pre := [(0, 12, 15, 28), (0, 12, 19, 19)]) (suf := []) rfl (fun z hz => by
      simp only [List.mem_cons, List.not_mem_nil, or_false] at hz
      rcases hz with rfl | rfl
      · exact ⟨by decide, _, kl_28, by decide⟩
      · exact ⟨by decide, _, kl_19, by decide⟩) (by decide) (by decide) kl_13 (by decide) (j := 5) (by decide) (Or.inl ⟨dL_board_23, rfl⟩) dL_board_25 rfl dL_board_26 rfl
abbrev RW_L_change : Room := { frames := 10, cells := 1, slots := 6, locals := 205 }
theorem wv_change (hw : Wf μ) (x0 x1 : Int32) {v : Int32} (hW : Wf W) (hct : Ct Y_X10_change R_X10_change (.ref 0 :: [.int x0, .int x1]) μ (.inl (some (.int v))) W) : Ct Y_L_change RW_L_change [.ref 0, .int x0, .int x1, .ref 363] μ (.inl (some (.int 0))) (sL W 363 0 (v.toInt64)) := by
  refine Ct.entH yh_L_change (Nat.le_of_ble_eq_true rfl) ?_
  refine a_aload_n dL_change_0 rfl ?_
  refine a_iconst (0 : Int32) dL_change_1 (by decide) ?_
  refine a_aload_n dL_change_2 rfl ?_
  refine a_iload_n dL_change_3 rfl ?_
  refine a_iload_n dL_change_4 rfl ?_
  refine a_inv (b2 := (0, 0)) hct rfl dL_change_5 yk_X10_change im_X10_change se_X10_change ml_L_51 rfl (co_0 (by repeat (first | with_reducible exact hw | with_reducible exact hwc | with_reducible assumption | with_reducible apply Wf.sI | with_reducible apply Wf.sL | with_reducible apply Wf.cpI | with_reducible apply Wf.cpL | with_reducible apply Wf.cp2 | with_reducible apply Wf.sIs | with_reducible apply Wf.sLs | with_reducible apply Wf.cpU | with_reducible apply Wf.fillI | with_reducible apply Wf.clU | with_reducible apply Wf.dnF | with_reducible apply Wf.gbW))) (by decide) hc_X10 (by decide) (by decide) (Nat.le_of_ble_eq_true rfl) ?_
  refine a_i2l dL_change_8 ?_
  refine a_lst dL_change_9 (ca_363 (by repeat (first | with_reducible exact hw | with_reducible exact hwc | with_reducible assumption | with_reducible apply Wf.sI | with_reducible apply Wf.sL | with_reducible apply Wf.cpI | with_reducible apply Wf.cpL | with_reducible apply Wf.cp2 | with_reducible apply Wf.sIs | with_reducible apply Wf.sLs | with_reducible apply Wf.cpU | with_reducible apply Wf.fillI | with_reducible apply Wf.clU | with_reducible apply Wf.dnF | with_reducible apply Wf.gbW))) (ixn (m := 0) (by decide) (by decide)) ?_
  refine a_goto (tgt := 25) dL_change_10 (by decide) ?_
  refine a_iconst (0 : Int32) dL_change_25 (by decide) ?_
  exact a_out rfl rfl (a_ireturn dL_change_26 rfl rfl)
theorem wx_change_1 (hw : Wf μ) (x0 x1 : Int32) (hct : Ct Y_X10_change RX_X10_change (.ref 0 :: [.int x0, .int x1]) μ (.inr NSE) W) : Ct Y_L_change RW_L_change [.ref 0, .int x0, .int x1, .ref 363] μ (.inl (some (.int 1))) W := by
  refine Ct.entH yh_L_change (Nat.le_of_ble_eq_true rfl) ?_
  refine a_aload_n dL_change_0 rfl ?_
  refine a_iconst (0 : Int32) dL_change_1 (by decide) ?_
  refine a_aload_n dL_change_2 rfl ?_
  refine a_iload_n dL_change_3 rfl ?_
  refine a_iload_n dL_change_4 rfl ?_
  exact a_invC hct rfl dL_change_5 yk_X10_change im_X10_change se_X10_change ml_L_51 rfl (co_0 hw) (by decide) hc_X10 (by decide) (by decide) (Nat.le_of_ble_eq_true rfl) (pre := []) (suf := [(0, 10, 17, 19), (0, 10, 21, 13)]) rfl (fun z hz => nomatch hz) (by decide) (by decide) kl_28 (by decide) (j := 4) (by decide) (Or.inl ⟨dL_change_13, rfl⟩) dL_change_15 rfl dL_change_16 rfl
theorem wx_change_2 (hw : Wf μ) (x0 x1 : Int32) (hct : Ct Y_X10_change RX_X10_change (.ref 0 :: [.int x0, .int x1]) μ (.inr IAE) W) : Ct Y_L_change RW_L_change [.ref 0, .int x0, .int x1, .ref 363] μ (.inl (some (.int 2))) W := by
  refine Ct.entH yh_L_change (Nat.le_of_ble_eq_true rfl) ?_
  refine a_aload_n dL_change_0 rfl ?_
  refine a_iconst (0 : Int32) dL_change_1 (by decide) ?_
  refine a_aload_n dL_change_2 rfl ?_
  refine a_iload_n dL_change_3 rfl ?_
  refine a_iload_n dL_change_4 rfl ?_
  exact a_invC hct rfl dL_change_5 yk_X10_change im_X10_change se_X10_change ml_L_51 rfl (co_0 hw) (by decide) hc_X10 (by decide) (by decide) (Nat.le_of_ble_eq_true rfl) (pre := [(0, 10, 13, 28)]) (suf := [(0, 10, 21, 13)]) rfl (fun z hz => by
      simp only [List.mem_cons, List.not_mem_nil, or_false] at hz
      subst hz
      · exact ⟨by decide, _, kl_28, by decide⟩) (by decide) (by decide) kl_19 (by decide) (j := 4) (by decide) (Or.inl ⟨dL_change_17, rfl⟩) dL_change_19 rfl dL_change_20 rfl
theorem wx_change_3 (hw : Wf μ) (x0 x1 : Int32) (hct : Ct Y_X10_change RX_X10_change (.ref 0 :: [.int x0, .int x1]) μ (.inr ISE) W) : Ct Y_L_change RW_L_change [.ref 0, .int x0, .int x1, .ref 363] μ (.inl (some (.int 3))) W := by
  refine Ct.entH yh_L_change (Nat.le_of_ble_eq_true rfl) ?_
  refine a_aload_n dL_change_0 rfl ?_
  refine a_iconst (0 : Int32) dL_change_1 (by decide) ?_
  refine a_aload_n dL_change_2 rfl ?_
  refine a_iload_n dL_change_3 rfl ?_
  refine a_iload_n dL_change_4 rfl ?_
  exact a_invC hct rfl dL_change_5 yk_X10_change im_X10_change se_X10_change ml_L_51 rfl (co_0 hw) (by decide) hc_X10 (by decide) (by decide) (Nat.le_of_ble_eq_true rfl) (pre := [(0, 10, 13, 28), (0, 10, 17, 19)]) (suf := []) rfl (fun z hz => by
      simp only [List.mem_cons, List.not_mem_nil, or_false] at hz
      rcases hz with rfl | rfl
      · exact ⟨by decide, _, kl_28, by decide⟩
      · exact ⟨by decide, _, kl_19, by decide⟩) (by decide) (by decide) kl_13 (by decide) (j := 4) (by decide) (Or.inl ⟨dL_change_21, rfl⟩) dL_change_23 rfl dL_change_24 rfl
abbrev RW_L_leave : Room := { frames := 10, cells := 1, slots := 6, locals := 203 }
theorem wv_leave (hw : Wf μ) (x0 : Int32) {v : Int32} (hW : Wf W) (hct : Ct Y_X10_leave R_X10_leave (.ref 0 :: [.int x0]) μ (.inl (some (.int v))) W) : Ct Y_L_leave RW_L_leave [.ref 0, .int x0, .ref 363] μ (.inl (some (.int 0))) (sL W 363 0 (v.toInt64)) := by
  refine Ct.entH yh_L_leave (Nat.le_of_ble_eq_true rfl) ?_
  refine a_aload_n dL_leave_0 rfl ?_
  refine a_iconst (0 : Int32) dL_leave_1 (by decide) ?_
  refine a_aload_n dL_leave_2 rfl ?_
  refine a_iload_n dL_leave_3 rfl ?_
  refine a_inv (b2 := (0, 0)) hct rfl dL_leave_4 yk_X10_leave im_X10_leave se_X10_leave ml_L_54 rfl (co_0 (by repeat (first | with_reducible exact hw | with_reducible exact hwc | with_reducible assumption | with_reducible apply Wf.sI | with_reducible apply Wf.sL | with_reducible apply Wf.cpI | with_reducible apply Wf.cpL | with_reducible apply Wf.cp2 | with_reducible apply Wf.sIs | with_reducible apply Wf.sLs | with_reducible apply Wf.cpU | with_reducible apply Wf.fillI | with_reducible apply Wf.clU | with_reducible apply Wf.dnF | with_reducible apply Wf.gbW))) (by decide) hc_X10 (by decide) (by decide) (Nat.le_of_ble_eq_true rfl) ?_
  refine a_i2l dL_leave_7 ?_
  refine a_lst dL_leave_8 (ca_363 (by repeat (first | with_reducible exact hw | with_reducible exact hwc | with_reducible assumption | with_reducible apply Wf.sI | with_reducible apply Wf.sL | with_reducible apply Wf.cpI | with_reducible apply Wf.cpL | with_reducible apply Wf.cp2 | with_reducible apply Wf.sIs | with_reducible apply Wf.sLs | with_reducible apply Wf.cpU | with_reducible apply Wf.fillI | with_reducible apply Wf.clU | with_reducible apply Wf.dnF | with_reducible apply Wf.gbW))) (ixn (m := 0) (by decide) (by decide)) ?_
  refine a_goto (tgt := 18) dL_leave_9 (by decide) ?_
  refine a_iconst (0 : Int32) dL_leave_18 (by decide) ?_
  exact a_out rfl rfl (a_ireturn dL_leave_19 rfl rfl)
theorem wx_leave_1 (hw : Wf μ) (x0 : Int32) (hct : Ct Y_X10_leave RX_X10_leave (.ref 0 :: [.int x0]) μ (.inr NSE) W) : Ct Y_L_leave RW_L_leave [.ref 0, .int x0, .ref 363] μ (.inl (some (.int 1))) W := by
  refine Ct.entH yh_L_leave (Nat.le_of_ble_eq_true rfl) ?_
  refine a_aload_n dL_leave_0 rfl ?_
  refine a_iconst (0 : Int32) dL_leave_1 (by decide) ?_
  refine a_aload_n dL_leave_2 rfl ?_
  refine a_iload_n dL_leave_3 rfl ?_
  exact a_invC hct rfl dL_leave_4 yk_X10_leave im_X10_leave se_X10_leave ml_L_54 rfl (co_0 hw) (by decide) hc_X10 (by decide) (by decide) (Nat.le_of_ble_eq_true rfl) (pre := []) (suf := [(0, 9, 15, 13)]) rfl (fun z hz => nomatch hz) (by decide) (by decide) kl_28 (by decide) (j := 3) (by decide) (Or.inr ⟨⟨3, dL_leave_12, rfl⟩, rfl⟩) dL_leave_13 rfl dL_leave_14 rfl
theorem wx_leave_2 (hw : Wf μ) (x0 : Int32) (hct : Ct Y_X10_leave RX_X10_leave (.ref 0 :: [.int x0]) μ (.inr ISE) W) : Ct Y_L_leave RW_L_leave [.ref 0, .int x0, .ref 363] μ (.inl (some (.int 2))) W := by
  refine Ct.entH yh_L_leave (Nat.le_of_ble_eq_true rfl) ?_
  refine a_aload_n dL_leave_0 rfl ?_
  refine a_iconst (0 : Int32) dL_leave_1 (by decide) ?_
  refine a_aload_n dL_leave_2 rfl ?_
  refine a_iload_n dL_leave_3 rfl ?_
  exact a_invC hct rfl dL_leave_4 yk_X10_leave im_X10_leave se_X10_leave ml_L_54 rfl (co_0 hw) (by decide) hc_X10 (by decide) (by decide) (Nat.le_of_ble_eq_true rfl) (pre := [(0, 9, 12, 28)]) (suf := []) rfl (fun z hz => by
      simp only [List.mem_cons, List.not_mem_nil, or_false] at hz
      subst hz
      · exact ⟨by decide, _, kl_28, by decide⟩) (by decide) (by decide) kl_13 (by decide) (j := 3) (by decide) (Or.inr ⟨⟨3, dL_leave_15, rfl⟩, rfl⟩) dL_leave_16 rfl dL_leave_17 rfl
abbrev RW_L_setNeeds : Room := { frames := 10, cells := 1, slots := 6, locals := 205 }
theorem wv_setNeeds (hw : Wf μ) (x0 x1 : Int32) {v : Int32} (hW : Wf W) (hct : Ct Y_X10_setNeeds R_X10_setNeeds (.ref 0 :: [.int x0, .int x1]) μ (.inl (some (.int v))) W) : Ct Y_L_setNeeds RW_L_setNeeds [.ref 0, .int x0, .int x1, .ref 363] μ (.inl (some (.int 0))) (sL W 363 0 (v.toInt64)) := by
  refine Ct.entH yh_L_setNeeds (Nat.le_of_ble_eq_true rfl) ?_
  refine a_aload_n dL_setNeeds_0 rfl ?_
  refine a_iconst (0 : Int32) dL_setNeeds_1 (by decide) ?_
  refine a_aload_n dL_setNeeds_2 rfl ?_
  refine a_iload_n dL_setNeeds_3 rfl ?_
  refine a_iload_n dL_setNeeds_4 rfl ?_
  refine a_inv (b2 := (0, 0)) hct rfl dL_setNeeds_5 yk_X10_setNeeds im_X10_setNeeds se_X10_setNeeds ml_L_57 rfl (co_0 (by repeat (first | with_reducible exact hw | with_reducible exact hwc | with_reducible assumption | with_reducible apply Wf.sI | with_reducible apply Wf.sL | with_reducible apply Wf.cpI | with_reducible apply Wf.cpL | with_reducible apply Wf.cp2 | with_reducible apply Wf.sIs | with_reducible apply Wf.sLs | with_reducible apply Wf.cpU | with_reducible apply Wf.fillI | with_reducible apply Wf.clU | with_reducible apply Wf.dnF | with_reducible apply Wf.gbW))) (by decide) hc_X10 (by decide) (by decide) (Nat.le_of_ble_eq_true rfl) ?_
  refine a_i2l dL_setNeeds_8 ?_
  refine a_lst dL_setNeeds_9 (ca_363 (by repeat (first | with_reducible exact hw | with_reducible exact hwc | with_reducible assumption | with_reducible apply Wf.sI | with_reducible apply Wf.sL | with_reducible apply Wf.cpI | with_reducible apply Wf.cpL | with_reducible apply Wf.cp2 | with_reducible apply Wf.sIs | with_reducible apply Wf.sLs | with_reducible apply Wf.cpU | with_reducible apply Wf.fillI | with_reducible apply Wf.clU | with_reducible apply Wf.dnF | with_reducible apply Wf.gbW))) (ixn (m := 0) (by decide) (by decide)) ?_
  refine a_goto (tgt := 25) dL_setNeeds_10 (by decide) ?_
  refine a_iconst (0 : Int32) dL_setNeeds_25 (by decide) ?_
  exact a_out rfl rfl (a_ireturn dL_setNeeds_26 rfl rfl)
theorem wx_setNeeds_1 (hw : Wf μ) (x0 x1 : Int32) (hct : Ct Y_X10_setNeeds RX_X10_setNeeds (.ref 0 :: [.int x0, .int x1]) μ (.inr NSE) W) : Ct Y_L_setNeeds RW_L_setNeeds [.ref 0, .int x0, .int x1, .ref 363] μ (.inl (some (.int 1))) W := by
  refine Ct.entH yh_L_setNeeds (Nat.le_of_ble_eq_true rfl) ?_
  refine a_aload_n dL_setNeeds_0 rfl ?_
  refine a_iconst (0 : Int32) dL_setNeeds_1 (by decide) ?_
  refine a_aload_n dL_setNeeds_2 rfl ?_
  refine a_iload_n dL_setNeeds_3 rfl ?_
  refine a_iload_n dL_setNeeds_4 rfl ?_
  exact a_invC hct rfl dL_setNeeds_5 yk_X10_setNeeds im_X10_setNeeds se_X10_setNeeds ml_L_57 rfl (co_0 hw) (by decide) hc_X10 (by decide) (by decide) (Nat.le_of_ble_eq_true rfl) (pre := []) (suf := [(0, 10, 17, 19), (0, 10, 21, 13)]) rfl (fun z hz => nomatch hz) (by decide) (by decide) kl_28 (by decide) (j := 4) (by decide) (Or.inl ⟨dL_setNeeds_13, rfl⟩) dL_setNeeds_15 rfl dL_setNeeds_16 rfl
theorem wx_setNeeds_2 (hw : Wf μ) (x0 x1 : Int32) (hct : Ct Y_X10_setNeeds RX_X10_setNeeds (.ref 0 :: [.int x0, .int x1]) μ (.inr IAE) W) : Ct Y_L_setNeeds RW_L_setNeeds [.ref 0, .int x0, .int x1, .ref 363] μ (.inl (some (.int 2))) W := by
  refine Ct.entH yh_L_setNeeds (Nat.le_of_ble_eq_true rfl) ?_
  refine a_aload_n dL_setNeeds_0 rfl ?_
  refine a_iconst (0 : Int32) dL_setNeeds_1 (by decide) ?_
  refine a_aload_n dL_setNeeds_2 rfl ?_
  refine a_iload_n dL_setNeeds_3 rfl ?_
  refine a_iload_n dL_setNeeds_4 rfl ?_
  exact a_invC hct rfl dL_setNeeds_5 yk_X10_setNeeds im_X10_setNeeds se_X10_setNeeds ml_L_57 rfl (co_0 hw) (by decide) hc_X10 (by decide) (by decide) (Nat.le_of_ble_eq_true rfl) (pre := [(0, 10, 13, 28)]) (suf := [(0, 10, 21, 13)]) rfl (fun z hz => by
      simp only [List.mem_cons, List.not_mem_nil, or_false] at hz
      subst hz
      · exact ⟨by decide, _, kl_28, by decide⟩) (by decide) (by decide) kl_19 (by decide) (j := 4) (by decide) (Or.inl ⟨dL_setNeeds_17, rfl⟩) dL_setNeeds_19 rfl dL_setNeeds_20 rfl
theorem wx_setNeeds_3 (hw : Wf μ) (x0 x1 : Int32) (hct : Ct Y_X10_setNeeds RX_X10_setNeeds (.ref 0 :: [.int x0, .int x1]) μ (.inr ISE) W) : Ct Y_L_setNeeds RW_L_setNeeds [.ref 0, .int x0, .int x1, .ref 363] μ (.inl (some (.int 3))) W := by
  refine Ct.entH yh_L_setNeeds (Nat.le_of_ble_eq_true rfl) ?_
  refine a_aload_n dL_setNeeds_0 rfl ?_
  refine a_iconst (0 : Int32) dL_setNeeds_1 (by decide) ?_
  refine a_aload_n dL_setNeeds_2 rfl ?_
  refine a_iload_n dL_setNeeds_3 rfl ?_
  refine a_iload_n dL_setNeeds_4 rfl ?_
  exact a_invC hct rfl dL_setNeeds_5 yk_X10_setNeeds im_X10_setNeeds se_X10_setNeeds ml_L_57 rfl (co_0 hw) (by decide) hc_X10 (by decide) (by decide) (Nat.le_of_ble_eq_true rfl) (pre := [(0, 10, 13, 28), (0, 10, 17, 19)]) (suf := []) rfl (fun z hz => by
      simp only [List.mem_cons, List.not_mem_nil, or_false] at hz
      rcases hz with rfl | rfl
      · exact ⟨by decide, _, kl_28, by decide⟩
      · exact ⟨by decide, _, kl_19, by decide⟩) (by decide) (by decide) kl_13 (by decide) (j := 4) (by decide) (Or.inl ⟨dL_setNeeds_21, rfl⟩) dL_setNeeds_23 rfl dL_setNeeds_24 rfl
abbrev RW_L_loadOrder : Room := { frames := 11, cells := 1, slots := 6, locals := 226 }
theorem wv_loadOrder (hw : Wf μ) {v : Int32} (hW : Wf W) (hct : Ct Y_X10_loadOrder R_X10_loadOrder (.ref 0 :: []) μ (.inl (some (.int v))) W) : Ct Y_L_loadOrder RW_L_loadOrder [.ref 0, .ref 363] μ (.inl (some (.int 0))) (sL W 363 0 (v.toInt64)) := by
  refine Ct.entH yh_L_loadOrder (Nat.le_of_ble_eq_true rfl) ?_
  refine a_aload_n dL_loadOrder_0 rfl ?_
  refine a_iconst (0 : Int32) dL_loadOrder_1 (by decide) ?_
  refine a_aload_n dL_loadOrder_2 rfl ?_
  refine a_inv (b2 := (0, 0)) hct rfl dL_loadOrder_3 yk_X10_loadOrder im_X10_loadOrder se_X10_loadOrder ml_L_60 rfl (co_0 (by repeat (first | with_reducible exact hw | with_reducible exact hwc | with_reducible assumption | with_reducible apply Wf.sI | with_reducible apply Wf.sL | with_reducible apply Wf.cpI | with_reducible apply Wf.cpL | with_reducible apply Wf.cp2 | with_reducible apply Wf.sIs | with_reducible apply Wf.sLs | with_reducible apply Wf.cpU | with_reducible apply Wf.fillI | with_reducible apply Wf.clU | with_reducible apply Wf.dnF | with_reducible apply Wf.gbW))) (by decide) hc_X10 (by decide) (by decide) (Nat.le_of_ble_eq_true rfl) ?_
  refine a_i2l dL_loadOrder_6 ?_
  refine a_lst dL_loadOrder_7 (ca_363 (by repeat (first | with_reducible exact hw | with_reducible exact hwc | with_reducible assumption | with_reducible apply Wf.sI | with_reducible apply Wf.sL | with_reducible apply Wf.cpI | with_reducible apply Wf.cpL | with_reducible apply Wf.cp2 | with_reducible apply Wf.sIs | with_reducible apply Wf.sLs | with_reducible apply Wf.cpU | with_reducible apply Wf.fillI | with_reducible apply Wf.clU | with_reducible apply Wf.dnF | with_reducible apply Wf.gbW))) (ixn (m := 0) (by decide) (by decide)) ?_
  refine a_goto (tgt := 14) dL_loadOrder_8 (by decide) ?_
  refine a_iconst (0 : Int32) dL_loadOrder_14 (by decide) ?_
  exact a_out rfl rfl (a_ireturn dL_loadOrder_15 rfl rfl)
theorem wx_loadOrder_1 (hw : Wf μ) (hct : Ct Y_X10_loadOrder RX_X10_loadOrder (.ref 0 :: []) μ (.inr ISE) W) : Ct Y_L_loadOrder RW_L_loadOrder [.ref 0, .ref 363] μ (.inl (some (.int 1))) W := by
  refine Ct.entH yh_L_loadOrder (Nat.le_of_ble_eq_true rfl) ?_
  refine a_aload_n dL_loadOrder_0 rfl ?_
  refine a_iconst (0 : Int32) dL_loadOrder_1 (by decide) ?_
  refine a_aload_n dL_loadOrder_2 rfl ?_
  exact a_invC hct rfl dL_loadOrder_3 yk_X10_loadOrder im_X10_loadOrder se_X10_loadOrder ml_L_60 rfl (co_0 hw) (by decide) hc_X10 (by decide) (by decide) (Nat.le_of_ble_eq_true rfl) (pre := []) (suf := []) rfl (fun z hz => nomatch hz) (by decide) (by decide) kl_13 (by decide) (j := 2) (by decide) (Or.inr ⟨⟨2, dL_loadOrder_11, rfl⟩, rfl⟩) dL_loadOrder_12 rfl dL_loadOrder_13 rfl
abbrev RW_L_store : Room := { frames := 11, cells := 1, slots := 6, locals := 224 }
theorem wv_store (hw : Wf μ) (x0 x1 : Int32) {v : Int32} (hW : Wf W) (hct : Ct Y_X10_store R_X10_store (.ref 0 :: [.int x0, .int x1]) μ (.inl (some (.int v))) W) : Ct Y_L_store RW_L_store [.ref 0, .int x0, .int x1, .ref 363] μ (.inl (some (.int 0))) (sL W 363 0 (v.toInt64)) := by
  refine Ct.entH yh_L_store (Nat.le_of_ble_eq_true rfl) ?_
  refine a_aload_n dL_store_0 rfl ?_
  refine a_iconst (0 : Int32) dL_store_1 (by decide) ?_
  refine a_aload_n dL_store_2 rfl ?_
  refine a_iload_n dL_store_3 rfl ?_
  refine a_iload_n dL_store_4 rfl ?_
  refine a_inv (b2 := (0, 0)) hct rfl dL_store_5 yk_X10_store im_X10_store se_X10_store ml_L_64 rfl (co_0 (by repeat (first | with_reducible exact hw | with_reducible exact hwc | with_reducible assumption | with_reducible apply Wf.sI | with_reducible apply Wf.sL | with_reducible apply Wf.cpI | with_reducible apply Wf.cpL | with_reducible apply Wf.cp2 | with_reducible apply Wf.sIs | with_reducible apply Wf.sLs | with_reducible apply Wf.cpU | with_reducible apply Wf.fillI | with_reducible apply Wf.clU | with_reducible apply Wf.dnF | with_reducible apply Wf.gbW))) (by decide) hc_X10 (by decide) (by decide) (Nat.le_of_ble_eq_true rfl) ?_
  refine a_i2l dL_store_8 ?_
  refine a_lst dL_store_9 (ca_363 (by repeat (first | with_reducible exact hw | with_reducible exact hwc | with_reducible assumption | with_reducible apply Wf.sI | with_reducible apply Wf.sL | with_reducible apply Wf.cpI | with_reducible apply Wf.cpL | with_reducible apply Wf.cp2 | with_reducible apply Wf.sIs | with_reducible apply Wf.sLs | with_reducible apply Wf.cpU | with_reducible apply Wf.fillI | with_reducible apply Wf.clU | with_reducible apply Wf.dnF | with_reducible apply Wf.gbW))) (ixn (m := 0) (by decide) (by decide)) ?_
  refine a_goto (tgt := 25) dL_store_10 (by decide) ?_
  refine a_iconst (0 : Int32) dL_store_25 (by decide) ?_
  exact a_out rfl rfl (a_ireturn dL_store_26 rfl rfl)
theorem wx_store_1 (hw : Wf μ) (x0 x1 : Int32) (hct : Ct Y_X10_store RX_X10_store (.ref 0 :: [.int x0, .int x1]) μ (.inr NSE) W) : Ct Y_L_store RW_L_store [.ref 0, .int x0, .int x1, .ref 363] μ (.inl (some (.int 1))) W := by
  refine Ct.entH yh_L_store (Nat.le_of_ble_eq_true rfl) ?_
  refine a_aload_n dL_store_0 rfl ?_
  refine a_iconst (0 : Int32) dL_store_1 (by decide) ?_
  refine a_aload_n dL_store_2 rfl ?_
  refine a_iload_n dL_store_3 rfl ?_
  refine a_iload_n dL_store_4 rfl ?_
  exact a_invC hct rfl dL_store_5 yk_X10_store im_X10_store se_X10_store ml_L_64 rfl (co_0 hw) (by decide) hc_X10 (by decide) (by decide) (Nat.le_of_ble_eq_true rfl) (pre := []) (suf := [(0, 10, 17, 19), (0, 10, 21, 13)]) rfl (fun z hz => nomatch hz) (by decide) (by decide) kl_28 (by decide) (j := 4) (by decide) (Or.inl ⟨dL_store_13, rfl⟩) dL_store_15 rfl dL_store_16 rfl
theorem wx_store_2 (hw : Wf μ) (x0 x1 : Int32) (hct : Ct Y_X10_store RX_X10_store (.ref 0 :: [.int x0, .int x1]) μ (.inr IAE) W) : Ct Y_L_store RW_L_store [.ref 0, .int x0, .int x1, .ref 363] μ (.inl (some (.int 2))) W := by
  refine Ct.entH yh_L_store (Nat.le_of_ble_eq_true rfl) ?_
  refine a_aload_n dL_store_0 rfl ?_
  refine a_iconst (0 : Int32) dL_store_1 (by decide) ?_
  refine a_aload_n dL_store_2 rfl ?_
  refine a_iload_n dL_store_3 rfl ?_
  refine a_iload_n dL_store_4 rfl ?_
  exact a_invC hct rfl dL_store_5 yk_X10_store im_X10_store se_X10_store ml_L_64 rfl (co_0 hw) (by decide) hc_X10 (by decide) (by decide) (Nat.le_of_ble_eq_true rfl) (pre := [(0, 10, 13, 28)]) (suf := [(0, 10, 21, 13)]) rfl (fun z hz => by
      simp only [List.mem_cons, List.not_mem_nil, or_false] at hz
      subst hz
      · exact ⟨by decide, _, kl_28, by decide⟩) (by decide) (by decide) kl_19 (by decide) (j := 4) (by decide) (Or.inl ⟨dL_store_17, rfl⟩) dL_store_19 rfl dL_store_20 rfl
theorem wx_store_3 (hw : Wf μ) (x0 x1 : Int32) (hct : Ct Y_X10_store RX_X10_store (.ref 0 :: [.int x0, .int x1]) μ (.inr ISE) W) : Ct Y_L_store RW_L_store [.ref 0, .int x0, .int x1, .ref 363] μ (.inl (some (.int 3))) W := by
  refine Ct.entH yh_L_store (Nat.le_of_ble_eq_true rfl) ?_
  refine a_aload_n dL_store_0 rfl ?_
  refine a_iconst (0 : Int32) dL_store_1 (by decide) ?_
  refine a_aload_n dL_store_2 rfl ?_
  refine a_iload_n dL_store_3 rfl ?_
  refine a_iload_n dL_store_4 rfl ?_
  exact a_invC hct rfl dL_store_5 yk_X10_store im_X10_store se_X10_store ml_L_64 rfl (co_0 hw) (by decide) hc_X10 (by decide) (by decide) (Nat.le_of_ble_eq_true rfl) (pre := [(0, 10, 13, 28), (0, 10, 17, 19)]) (suf := []) rfl (fun z hz => by
      simp only [List.mem_cons, List.not_mem_nil, or_false] at hz
      rcases hz with rfl | rfl
      · exact ⟨by decide, _, kl_28, by decide⟩
      · exact ⟨by decide, _, kl_19, by decide⟩) (by decide) (by decide) kl_13 (by decide) (j := 4) (by decide) (Or.inl ⟨dL_store_21, rfl⟩) dL_store_23 rfl dL_store_24 rfl
abbrev RW_L_unload : Room := { frames := 10, cells := 1, slots := 6, locals := 204 }
theorem wv_unload (hw : Wf μ) (x0 x1 : Int32) {v : Int32} (hW : Wf W) (hct : Ct Y_X10_unload R_X10_unload (.ref 0 :: [.int x0, .int x1]) μ (.inl (some (.int v))) W) : Ct Y_L_unload RW_L_unload [.ref 0, .int x0, .int x1, .ref 363] μ (.inl (some (.int 0))) (sL W 363 0 (v.toInt64)) := by
  refine Ct.entH yh_L_unload (Nat.le_of_ble_eq_true rfl) ?_
  refine a_aload_n dL_unload_0 rfl ?_
  refine a_iconst (0 : Int32) dL_unload_1 (by decide) ?_
  refine a_aload_n dL_unload_2 rfl ?_
  refine a_iload_n dL_unload_3 rfl ?_
  refine a_iload_n dL_unload_4 rfl ?_
  refine a_inv (b2 := (0, 0)) hct rfl dL_unload_5 yk_X10_unload im_X10_unload se_X10_unload ml_L_67 rfl (co_0 (by repeat (first | with_reducible exact hw | with_reducible exact hwc | with_reducible assumption | with_reducible apply Wf.sI | with_reducible apply Wf.sL | with_reducible apply Wf.cpI | with_reducible apply Wf.cpL | with_reducible apply Wf.cp2 | with_reducible apply Wf.sIs | with_reducible apply Wf.sLs | with_reducible apply Wf.cpU | with_reducible apply Wf.fillI | with_reducible apply Wf.clU | with_reducible apply Wf.dnF | with_reducible apply Wf.gbW))) (by decide) hc_X10 (by decide) (by decide) (Nat.le_of_ble_eq_true rfl) ?_
  refine a_i2l dL_unload_8 ?_
  refine a_lst dL_unload_9 (ca_363 (by repeat (first | with_reducible exact hw | with_reducible exact hwc | with_reducible assumption | with_reducible apply Wf.sI | with_reducible apply Wf.sL | with_reducible apply Wf.cpI | with_reducible apply Wf.cpL | with_reducible apply Wf.cp2 | with_reducible apply Wf.sIs | with_reducible apply Wf.sLs | with_reducible apply Wf.cpU | with_reducible apply Wf.fillI | with_reducible apply Wf.clU | with_reducible apply Wf.dnF | with_reducible apply Wf.gbW))) (ixn (m := 0) (by decide) (by decide)) ?_
  refine a_goto (tgt := 25) dL_unload_10 (by decide) ?_
  refine a_iconst (0 : Int32) dL_unload_25 (by decide) ?_
  exact a_out rfl rfl (a_ireturn dL_unload_26 rfl rfl)
theorem wx_unload_1 (hw : Wf μ) (x0 x1 : Int32) (hct : Ct Y_X10_unload RX_X10_unload (.ref 0 :: [.int x0, .int x1]) μ (.inr NSE) W) : Ct Y_L_unload RW_L_unload [.ref 0, .int x0, .int x1, .ref 363] μ (.inl (some (.int 1))) W := by
  refine Ct.entH yh_L_unload (Nat.le_of_ble_eq_true rfl) ?_
  refine a_aload_n dL_unload_0 rfl ?_
  refine a_iconst (0 : Int32) dL_unload_1 (by decide) ?_
  refine a_aload_n dL_unload_2 rfl ?_
  refine a_iload_n dL_unload_3 rfl ?_
  refine a_iload_n dL_unload_4 rfl ?_
  exact a_invC hct rfl dL_unload_5 yk_X10_unload im_X10_unload se_X10_unload ml_L_67 rfl (co_0 hw) (by decide) hc_X10 (by decide) (by decide) (Nat.le_of_ble_eq_true rfl) (pre := []) (suf := [(0, 10, 17, 19), (0, 10, 21, 13)]) rfl (fun z hz => nomatch hz) (by decide) (by decide) kl_28 (by decide) (j := 4) (by decide) (Or.inl ⟨dL_unload_13, rfl⟩) dL_unload_15 rfl dL_unload_16 rfl
theorem wx_unload_2 (hw : Wf μ) (x0 x1 : Int32) (hct : Ct Y_X10_unload RX_X10_unload (.ref 0 :: [.int x0, .int x1]) μ (.inr IAE) W) : Ct Y_L_unload RW_L_unload [.ref 0, .int x0, .int x1, .ref 363] μ (.inl (some (.int 2))) W := by
  refine Ct.entH yh_L_unload (Nat.le_of_ble_eq_true rfl) ?_
  refine a_aload_n dL_unload_0 rfl ?_
  refine a_iconst (0 : Int32) dL_unload_1 (by decide) ?_
  refine a_aload_n dL_unload_2 rfl ?_
  refine a_iload_n dL_unload_3 rfl ?_
  refine a_iload_n dL_unload_4 rfl ?_
  exact a_invC hct rfl dL_unload_5 yk_X10_unload im_X10_unload se_X10_unload ml_L_67 rfl (co_0 hw) (by decide) hc_X10 (by decide) (by decide) (Nat.le_of_ble_eq_true rfl) (pre := [(0, 10, 13, 28)]) (suf := [(0, 10, 21, 13)]) rfl (fun z hz => by
      simp only [List.mem_cons, List.not_mem_nil, or_false] at hz
      subst hz
      · exact ⟨by decide, _, kl_28, by decide⟩) (by decide) (by decide) kl_19 (by decide) (j := 4) (by decide) (Or.inl ⟨dL_unload_17, rfl⟩) dL_unload_19 rfl dL_unload_20 rfl
theorem wx_unload_3 (hw : Wf μ) (x0 x1 : Int32) (hct : Ct Y_X10_unload RX_X10_unload (.ref 0 :: [.int x0, .int x1]) μ (.inr ISE) W) : Ct Y_L_unload RW_L_unload [.ref 0, .int x0, .int x1, .ref 363] μ (.inl (some (.int 3))) W := by
  refine Ct.entH yh_L_unload (Nat.le_of_ble_eq_true rfl) ?_
  refine a_aload_n dL_unload_0 rfl ?_
  refine a_iconst (0 : Int32) dL_unload_1 (by decide) ?_
  refine a_aload_n dL_unload_2 rfl ?_
  refine a_iload_n dL_unload_3 rfl ?_
  refine a_iload_n dL_unload_4 rfl ?_
  exact a_invC hct rfl dL_unload_5 yk_X10_unload im_X10_unload se_X10_unload ml_L_67 rfl (co_0 hw) (by decide) hc_X10 (by decide) (by decide) (Nat.le_of_ble_eq_true rfl) (pre := [(0, 10, 13, 28), (0, 10, 17, 19)]) (suf := []) rfl (fun z hz => by
      simp only [List.mem_cons, List.not_mem_nil, or_false] at hz
      rcases hz with rfl | rfl
      · exact ⟨by decide, _, kl_28, by decide⟩
      · exact ⟨by decide, _, kl_19, by decide⟩) (by decide) (by decide) kl_13 (by decide) (j := 4) (by decide) (Or.inl ⟨dL_unload_21, rfl⟩) dL_unload_23 rfl dL_unload_24 rfl
abbrev RW_L_topUp : Room := { frames := 10, cells := 1, slots := 6, locals := 204 }
theorem wv_topUp (hw : Wf μ) (x0 x1 : Int32) {v : Int32} (hW : Wf W) (hct : Ct Y_X10_topUp R_X10_topUp (.ref 0 :: [.int x0, .int x1]) μ (.inl (some (.int v))) W) : Ct Y_L_topUp RW_L_topUp [.ref 0, .int x0, .int x1, .ref 363] μ (.inl (some (.int 0))) (sL W 363 0 (v.toInt64)) := by
  refine Ct.entH yh_L_topUp (Nat.le_of_ble_eq_true rfl) ?_
  refine a_aload_n dL_topUp_0 rfl ?_
  refine a_iconst (0 : Int32) dL_topUp_1 (by decide) ?_
  refine a_aload_n dL_topUp_2 rfl ?_
  refine a_iload_n dL_topUp_3 rfl ?_
  refine a_iload_n dL_topUp_4 rfl ?_
  refine a_inv (b2 := (0, 0)) hct rfl dL_topUp_5 yk_X10_topUp im_X10_topUp se_X10_topUp ml_L_70 rfl (co_0 (by repeat (first | with_reducible exact hw | with_reducible exact hwc | with_reducible assumption | with_reducible apply Wf.sI | with_reducible apply Wf.sL | with_reducible apply Wf.cpI | with_reducible apply Wf.cpL | with_reducible apply Wf.cp2 | with_reducible apply Wf.sIs | with_reducible apply Wf.sLs | with_reducible apply Wf.cpU | with_reducible apply Wf.fillI | with_reducible apply Wf.clU | with_reducible apply Wf.dnF | with_reducible apply Wf.gbW))) (by decide) hc_X10 (by decide) (by decide) (Nat.le_of_ble_eq_true rfl) ?_
  refine a_i2l dL_topUp_8 ?_
  refine a_lst dL_topUp_9 (ca_363 (by repeat (first | with_reducible exact hw | with_reducible exact hwc | with_reducible assumption | with_reducible apply Wf.sI | with_reducible apply Wf.sL | with_reducible apply Wf.cpI | with_reducible apply Wf.cpL | with_reducible apply Wf.cp2 | with_reducible apply Wf.sIs | with_reducible apply Wf.sLs | with_reducible apply Wf.cpU | with_reducible apply Wf.fillI | with_reducible apply Wf.clU | with_reducible apply Wf.dnF | with_reducible apply Wf.gbW))) (ixn (m := 0) (by decide) (by decide)) ?_
  refine a_goto (tgt := 25) dL_topUp_10 (by decide) ?_
  refine a_iconst (0 : Int32) dL_topUp_25 (by decide) ?_
  exact a_out rfl rfl (a_ireturn dL_topUp_26 rfl rfl)
theorem wx_topUp_1 (hw : Wf μ) (x0 x1 : Int32) (hct : Ct Y_X10_topUp RX_X10_topUp (.ref 0 :: [.int x0, .int x1]) μ (.inr NSE) W) : Ct Y_L_topUp RW_L_topUp [.ref 0, .int x0, .int x1, .ref 363] μ (.inl (some (.int 1))) W := by
  refine Ct.entH yh_L_topUp (Nat.le_of_ble_eq_true rfl) ?_
  refine a_aload_n dL_topUp_0 rfl ?_
  refine a_iconst (0 : Int32) dL_topUp_1 (by decide) ?_
  refine a_aload_n dL_topUp_2 rfl ?_
  refine a_iload_n dL_topUp_3 rfl ?_
  refine a_iload_n dL_topUp_4 rfl ?_
  exact a_invC hct rfl dL_topUp_5 yk_X10_topUp im_X10_topUp se_X10_topUp ml_L_70 rfl (co_0 hw) (by decide) hc_X10 (by decide) (by decide) (Nat.le_of_ble_eq_true rfl) (pre := []) (suf := [(0, 10, 17, 19), (0, 10, 21, 13)]) rfl (fun z hz => nomatch hz) (by decide) (by decide) kl_28 (by decide) (j := 4) (by decide) (Or.inl ⟨dL_topUp_13, rfl⟩) dL_topUp_15 rfl dL_topUp_16 rfl
theorem wx_topUp_2 (hw : Wf μ) (x0 x1 : Int32) (hct : Ct Y_X10_topUp RX_X10_topUp (.ref 0 :: [.int x0, .int x1]) μ (.inr IAE) W) : Ct Y_L_topUp RW_L_topUp [.ref 0, .int x0, .int x1, .ref 363] μ (.inl (some (.int 2))) W := by
  refine Ct.entH yh_L_topUp (Nat.le_of_ble_eq_true rfl) ?_
  refine a_aload_n dL_topUp_0 rfl ?_
  refine a_iconst (0 : Int32) dL_topUp_1 (by decide) ?_
  refine a_aload_n dL_topUp_2 rfl ?_
  refine a_iload_n dL_topUp_3 rfl ?_
  refine a_iload_n dL_topUp_4 rfl ?_
  exact a_invC hct rfl dL_topUp_5 yk_X10_topUp im_X10_topUp se_X10_topUp ml_L_70 rfl (co_0 hw) (by decide) hc_X10 (by decide) (by decide) (Nat.le_of_ble_eq_true rfl) (pre := [(0, 10, 13, 28)]) (suf := [(0, 10, 21, 13)]) rfl (fun z hz => by
      simp only [List.mem_cons, List.not_mem_nil, or_false] at hz
      subst hz
      · exact ⟨by decide, _, kl_28, by decide⟩) (by decide) (by decide) kl_19 (by decide) (j := 4) (by decide) (Or.inl ⟨dL_topUp_17, rfl⟩) dL_topUp_19 rfl dL_topUp_20 rfl
theorem wx_topUp_3 (hw : Wf μ) (x0 x1 : Int32) (hct : Ct Y_X10_topUp RX_X10_topUp (.ref 0 :: [.int x0, .int x1]) μ (.inr ISE) W) : Ct Y_L_topUp RW_L_topUp [.ref 0, .int x0, .int x1, .ref 363] μ (.inl (some (.int 3))) W := by
  refine Ct.entH yh_L_topUp (Nat.le_of_ble_eq_true rfl) ?_
  refine a_aload_n dL_topUp_0 rfl ?_
  refine a_iconst (0 : Int32) dL_topUp_1 (by decide) ?_
  refine a_aload_n dL_topUp_2 rfl ?_
  refine a_iload_n dL_topUp_3 rfl ?_
  refine a_iload_n dL_topUp_4 rfl ?_
  exact a_invC hct rfl dL_topUp_5 yk_X10_topUp im_X10_topUp se_X10_topUp ml_L_70 rfl (co_0 hw) (by decide) hc_X10 (by decide) (by decide) (Nat.le_of_ble_eq_true rfl) (pre := [(0, 10, 13, 28), (0, 10, 17, 19)]) (suf := []) rfl (fun z hz => by
      simp only [List.mem_cons, List.not_mem_nil, or_false] at hz
      rcases hz with rfl | rfl
      · exact ⟨by decide, _, kl_28, by decide⟩
      · exact ⟨by decide, _, kl_19, by decide⟩) (by decide) (by decide) kl_13 (by decide) (j := 4) (by decide) (Or.inl ⟨dL_topUp_21, rfl⟩) dL_topUp_23 rfl dL_topUp_24 rfl
abbrev RW_L_advance : Room := { frames := 10, cells := 1, slots := 6, locals := 203 }
theorem wv_advance (hw : Wf μ) (x0 : Int32) {v : Int32} (hW : Wf W) (hct : Ct Y_X10_advance R_X10_advance (.ref 0 :: [.int x0]) μ (.inl (some (.int v))) W) : Ct Y_L_advance RW_L_advance [.ref 0, .int x0, .ref 363] μ (.inl (some (.int 0))) (sL W 363 0 (v.toInt64)) := by
  refine Ct.entH yh_L_advance (Nat.le_of_ble_eq_true rfl) ?_
  refine a_aload_n dL_advance_0 rfl ?_
  refine a_iconst (0 : Int32) dL_advance_1 (by decide) ?_
  refine a_aload_n dL_advance_2 rfl ?_
  refine a_iload_n dL_advance_3 rfl ?_
  refine a_inv (b2 := (0, 0)) hct rfl dL_advance_4 yk_X10_advance im_X10_advance se_X10_advance ml_L_73 rfl (co_0 (by repeat (first | with_reducible exact hw | with_reducible exact hwc | with_reducible assumption | with_reducible apply Wf.sI | with_reducible apply Wf.sL | with_reducible apply Wf.cpI | with_reducible apply Wf.cpL | with_reducible apply Wf.cp2 | with_reducible apply Wf.sIs | with_reducible apply Wf.sLs | with_reducible apply Wf.cpU | with_reducible apply Wf.fillI | with_reducible apply Wf.clU | with_reducible apply Wf.dnF | with_reducible apply Wf.gbW))) (by decide) hc_X10 (by decide) (by decide) (Nat.le_of_ble_eq_true rfl) ?_
  refine a_i2l dL_advance_7 ?_
  refine a_lst dL_advance_8 (ca_363 (by repeat (first | with_reducible exact hw | with_reducible exact hwc | with_reducible assumption | with_reducible apply Wf.sI | with_reducible apply Wf.sL | with_reducible apply Wf.cpI | with_reducible apply Wf.cpL | with_reducible apply Wf.cp2 | with_reducible apply Wf.sIs | with_reducible apply Wf.sLs | with_reducible apply Wf.cpU | with_reducible apply Wf.fillI | with_reducible apply Wf.clU | with_reducible apply Wf.dnF | with_reducible apply Wf.gbW))) (ixn (m := 0) (by decide) (by decide)) ?_
  refine a_goto (tgt := 18) dL_advance_9 (by decide) ?_
  refine a_iconst (0 : Int32) dL_advance_18 (by decide) ?_
  exact a_out rfl rfl (a_ireturn dL_advance_19 rfl rfl)
theorem wx_advance_1 (hw : Wf μ) (x0 : Int32) (hct : Ct Y_X10_advance RX_X10_advance (.ref 0 :: [.int x0]) μ (.inr IAE) W) : Ct Y_L_advance RW_L_advance [.ref 0, .int x0, .ref 363] μ (.inl (some (.int 1))) W := by
  refine Ct.entH yh_L_advance (Nat.le_of_ble_eq_true rfl) ?_
  refine a_aload_n dL_advance_0 rfl ?_
  refine a_iconst (0 : Int32) dL_advance_1 (by decide) ?_
  refine a_aload_n dL_advance_2 rfl ?_
  refine a_iload_n dL_advance_3 rfl ?_
  exact a_invC hct rfl dL_advance_4 yk_X10_advance im_X10_advance se_X10_advance ml_L_73 rfl (co_0 hw) (by decide) hc_X10 (by decide) (by decide) (Nat.le_of_ble_eq_true rfl) (pre := []) (suf := [(0, 9, 15, 13)]) rfl (fun z hz => nomatch hz) (by decide) (by decide) kl_19 (by decide) (j := 3) (by decide) (Or.inr ⟨⟨3, dL_advance_12, rfl⟩, rfl⟩) dL_advance_13 rfl dL_advance_14 rfl
theorem wx_advance_2 (hw : Wf μ) (x0 : Int32) (hct : Ct Y_X10_advance RX_X10_advance (.ref 0 :: [.int x0]) μ (.inr ISE) W) : Ct Y_L_advance RW_L_advance [.ref 0, .int x0, .ref 363] μ (.inl (some (.int 2))) W := by
  refine Ct.entH yh_L_advance (Nat.le_of_ble_eq_true rfl) ?_
  refine a_aload_n dL_advance_0 rfl ?_
  refine a_iconst (0 : Int32) dL_advance_1 (by decide) ?_
  refine a_aload_n dL_advance_2 rfl ?_
  refine a_iload_n dL_advance_3 rfl ?_
  exact a_invC hct rfl dL_advance_4 yk_X10_advance im_X10_advance se_X10_advance ml_L_73 rfl (co_0 hw) (by decide) hc_X10 (by decide) (by decide) (Nat.le_of_ble_eq_true rfl) (pre := [(0, 9, 12, 19)]) (suf := []) rfl (fun z hz => by
      simp only [List.mem_cons, List.not_mem_nil, or_false] at hz
      subst hz
      · exact ⟨by decide, _, kl_19, by decide⟩) (by decide) (by decide) kl_13 (by decide) (j := 3) (by decide) (Or.inr ⟨⟨3, dL_advance_15, rfl⟩, rfl⟩) dL_advance_16 rfl dL_advance_17 rfl
abbrev RW_L_outlook : Room := { frames := 8, cells := 1, slots := 6, locals := 165 }
theorem wv_outlook (hw : Wf μ) (x0 : Int32) {v : Int32} (hW : Wf W) (hct : Ct Y_X10_outlook R_X10_outlook (.ref 0 :: [.int x0]) μ (.inl (some (.int v))) W) : Ct Y_L_outlook RW_L_outlook [.ref 0, .int x0, .ref 363] μ (.inl (some (.int 0))) (sL W 363 0 (v.toInt64)) := by
  refine Ct.entH yh_L_outlook (Nat.le_of_ble_eq_true rfl) ?_
  refine a_aload_n dL_outlook_0 rfl ?_
  refine a_iconst (0 : Int32) dL_outlook_1 (by decide) ?_
  refine a_aload_n dL_outlook_2 rfl ?_
  refine a_iload_n dL_outlook_3 rfl ?_
  refine a_inv (b2 := (0, 0)) hct rfl dL_outlook_4 yk_X10_outlook im_X10_outlook se_X10_outlook ml_L_76 rfl (co_0 (by repeat (first | with_reducible exact hw | with_reducible exact hwc | with_reducible assumption | with_reducible apply Wf.sI | with_reducible apply Wf.sL | with_reducible apply Wf.cpI | with_reducible apply Wf.cpL | with_reducible apply Wf.cp2 | with_reducible apply Wf.sIs | with_reducible apply Wf.sLs | with_reducible apply Wf.cpU | with_reducible apply Wf.fillI | with_reducible apply Wf.clU | with_reducible apply Wf.dnF | with_reducible apply Wf.gbW))) (by decide) hc_X10 (by decide) (by decide) (Nat.le_of_ble_eq_true rfl) ?_
  refine a_i2l dL_outlook_7 ?_
  refine a_lst dL_outlook_8 (ca_363 (by repeat (first | with_reducible exact hw | with_reducible exact hwc | with_reducible assumption | with_reducible apply Wf.sI | with_reducible apply Wf.sL | with_reducible apply Wf.cpI | with_reducible apply Wf.cpL | with_reducible apply Wf.cp2 | with_reducible apply Wf.sIs | with_reducible apply Wf.sLs | with_reducible apply Wf.cpU | with_reducible apply Wf.fillI | with_reducible apply Wf.clU | with_reducible apply Wf.dnF | with_reducible apply Wf.gbW))) (ixn (m := 0) (by decide) (by decide)) ?_
  refine a_goto (tgt := 15) dL_outlook_9 (by decide) ?_
  refine a_iconst (0 : Int32) dL_outlook_15 (by decide) ?_
  exact a_out rfl rfl (a_ireturn dL_outlook_16 rfl rfl)
theorem wx_outlook_1 (hw : Wf μ) (x0 : Int32) (hct : Ct Y_X10_outlook RX_X10_outlook (.ref 0 :: [.int x0]) μ (.inr IAE) W) : Ct Y_L_outlook RW_L_outlook [.ref 0, .int x0, .ref 363] μ (.inl (some (.int 1))) W := by
  refine Ct.entH yh_L_outlook (Nat.le_of_ble_eq_true rfl) ?_
  refine a_aload_n dL_outlook_0 rfl ?_
  refine a_iconst (0 : Int32) dL_outlook_1 (by decide) ?_
  refine a_aload_n dL_outlook_2 rfl ?_
  refine a_iload_n dL_outlook_3 rfl ?_
  exact a_invC hct rfl dL_outlook_4 yk_X10_outlook im_X10_outlook se_X10_outlook ml_L_76 rfl (co_0 hw) (by decide) hc_X10 (by decide) (by decide) (Nat.le_of_ble_eq_true rfl) (pre := []) (suf := []) rfl (fun z hz => nomatch hz) (by decide) (by decide) kl_19 (by decide) (j := 3) (by decide) (Or.inr ⟨⟨3, dL_outlook_12, rfl⟩, rfl⟩) dL_outlook_13 rfl dL_outlook_14 rfl
abbrev RW_L_mealFor : Room := { frames := 9, cells := 1, slots := 6, locals := 182 }
theorem wv_mealFor (hw : Wf μ) (x0 : Int32) {v : Int32} (hW : Wf W) (hct : Ct Y_X10_mealFor R_X10_mealFor (.ref 0 :: [.int x0]) μ (.inl (some (.int v))) W) : Ct Y_L_mealFor RW_L_mealFor [.ref 0, .int x0, .ref 363] μ (.inl (some (.int 0))) (sL W 363 0 (v.toInt64)) := by
  refine Ct.entH yh_L_mealFor (Nat.le_of_ble_eq_true rfl) ?_
  refine a_aload_n dL_mealFor_0 rfl ?_
  refine a_iconst (0 : Int32) dL_mealFor_1 (by decide) ?_
  refine a_aload_n dL_mealFor_2 rfl ?_
  refine a_iload_n dL_mealFor_3 rfl ?_
  refine a_inv (b2 := (0, 0)) hct rfl dL_mealFor_4 yk_X10_mealFor im_X10_mealFor se_X10_mealFor ml_L_79 rfl (co_0 (by repeat (first | with_reducible exact hw | with_reducible exact hwc | with_reducible assumption | with_reducible apply Wf.sI | with_reducible apply Wf.sL | with_reducible apply Wf.cpI | with_reducible apply Wf.cpL | with_reducible apply Wf.cp2 | with_reducible apply Wf.sIs | with_reducible apply Wf.sLs | with_reducible apply Wf.cpU | with_reducible apply Wf.fillI | with_reducible apply Wf.clU | with_reducible apply Wf.dnF | with_reducible apply Wf.gbW))) (by decide) hc_X10 (by decide) (by decide) (Nat.le_of_ble_eq_true rfl) ?_
  refine a_i2l dL_mealFor_7 ?_
  refine a_lst dL_mealFor_8 (ca_363 (by repeat (first | with_reducible exact hw | with_reducible exact hwc | with_reducible assumption | with_reducible apply Wf.sI | with_reducible apply Wf.sL | with_reducible apply Wf.cpI | with_reducible apply Wf.cpL | with_reducible apply Wf.cp2 | with_reducible apply Wf.sIs | with_reducible apply Wf.sLs | with_reducible apply Wf.cpU | with_reducible apply Wf.fillI | with_reducible apply Wf.clU | with_reducible apply Wf.dnF | with_reducible apply Wf.gbW))) (ixn (m := 0) (by decide) (by decide)) ?_
  refine a_goto (tgt := 15) dL_mealFor_9 (by decide) ?_
  refine a_iconst (0 : Int32) dL_mealFor_15 (by decide) ?_
  exact a_out rfl rfl (a_ireturn dL_mealFor_16 rfl rfl)
theorem wx_mealFor_1 (hw : Wf μ) (x0 : Int32) (hct : Ct Y_X10_mealFor RX_X10_mealFor (.ref 0 :: [.int x0]) μ (.inr NSE) W) : Ct Y_L_mealFor RW_L_mealFor [.ref 0, .int x0, .ref 363] μ (.inl (some (.int 1))) W := by
  refine Ct.entH yh_L_mealFor (Nat.le_of_ble_eq_true rfl) ?_
  refine a_aload_n dL_mealFor_0 rfl ?_
  refine a_iconst (0 : Int32) dL_mealFor_1 (by decide) ?_
  refine a_aload_n dL_mealFor_2 rfl ?_
  refine a_iload_n dL_mealFor_3 rfl ?_
  exact a_invC hct rfl dL_mealFor_4 yk_X10_mealFor im_X10_mealFor se_X10_mealFor ml_L_79 rfl (co_0 hw) (by decide) hc_X10 (by decide) (by decide) (Nat.le_of_ble_eq_true rfl) (pre := []) (suf := []) rfl (fun z hz => nomatch hz) (by decide) (by decide) kl_28 (by decide) (j := 3) (by decide) (Or.inr ⟨⟨3, dL_mealFor_12, rfl⟩, rfl⟩) dL_mealFor_13 rfl dL_mealFor_14 rfl
abbrev RW_L_serve : Room := { frames := 10, cells := 1, slots := 6, locals := 203 }
theorem wv_serve (hw : Wf μ) {v : Int32} (hW : Wf W) (hct : Ct Y_X10_serve R_X10_serve (.ref 0 :: []) μ (.inl (some (.int v))) W) : Ct Y_L_serve RW_L_serve [.ref 0, .ref 363] μ (.inl (some (.int 0))) (sL W 363 0 (v.toInt64)) := by
  refine Ct.entH yh_L_serve (Nat.le_of_ble_eq_true rfl) ?_
  refine a_aload_n dL_serve_0 rfl ?_
  refine a_iconst (0 : Int32) dL_serve_1 (by decide) ?_
  refine a_aload_n dL_serve_2 rfl ?_
  refine a_inv (b2 := (0, 0)) hct rfl dL_serve_3 yk_X10_serve im_X10_serve se_X10_serve ml_L_82 rfl (co_0 (by repeat (first | with_reducible exact hw | with_reducible exact hwc | with_reducible assumption | with_reducible apply Wf.sI | with_reducible apply Wf.sL | with_reducible apply Wf.cpI | with_reducible apply Wf.cpL | with_reducible apply Wf.cp2 | with_reducible apply Wf.sIs | with_reducible apply Wf.sLs | with_reducible apply Wf.cpU | with_reducible apply Wf.fillI | with_reducible apply Wf.clU | with_reducible apply Wf.dnF | with_reducible apply Wf.gbW))) (by decide) hc_X10 (by decide) (by decide) (Nat.le_of_ble_eq_true rfl) ?_
  refine a_i2l dL_serve_6 ?_
  refine a_lst dL_serve_7 (ca_363 (by repeat (first | with_reducible exact hw | with_reducible exact hwc | with_reducible assumption | with_reducible apply Wf.sI | with_reducible apply Wf.sL | with_reducible apply Wf.cpI | with_reducible apply Wf.cpL | with_reducible apply Wf.cp2 | with_reducible apply Wf.sIs | with_reducible apply Wf.sLs | with_reducible apply Wf.cpU | with_reducible apply Wf.fillI | with_reducible apply Wf.clU | with_reducible apply Wf.dnF | with_reducible apply Wf.gbW))) (ixn (m := 0) (by decide) (by decide)) ?_
  refine a_goto (tgt := 14) dL_serve_8 (by decide) ?_
  refine a_iconst (0 : Int32) dL_serve_14 (by decide) ?_
  exact a_out rfl rfl (a_ireturn dL_serve_15 rfl rfl)
theorem wx_serve_1 (hw : Wf μ) (hct : Ct Y_X10_serve RX_X10_serve (.ref 0 :: []) μ (.inr ISE) W) : Ct Y_L_serve RW_L_serve [.ref 0, .ref 363] μ (.inl (some (.int 1))) W := by
  refine Ct.entH yh_L_serve (Nat.le_of_ble_eq_true rfl) ?_
  refine a_aload_n dL_serve_0 rfl ?_
  refine a_iconst (0 : Int32) dL_serve_1 (by decide) ?_
  refine a_aload_n dL_serve_2 rfl ?_
  exact a_invC hct rfl dL_serve_3 yk_X10_serve im_X10_serve se_X10_serve ml_L_82 rfl (co_0 hw) (by decide) hc_X10 (by decide) (by decide) (Nat.le_of_ble_eq_true rfl) (pre := []) (suf := []) rfl (fun z hz => nomatch hz) (by decide) (by decide) kl_13 (by decide) (j := 2) (by decide) (Or.inr ⟨⟨2, dL_serve_11, rfl⟩, rfl⟩) dL_serve_12 rfl dL_serve_13 rfl
abbrev RW_L_account : Room := { frames := 8, cells := 1, slots := 6, locals := 161 }
theorem wv_account (hw : Wf μ) (x0 : Int32) {v : Int64} (hW : Wf W) (hct : Ct Y_X10_account R_X10_account (.ref 0 :: [.int x0]) μ (.inl (some (.long v))) W) : Ct Y_L_account RW_L_account [.ref 0, .int x0, .ref 363] μ (.inl (some (.int 0))) (sL W 363 0 (v)) := by
  refine Ct.entH yh_L_account (Nat.le_of_ble_eq_true rfl) ?_
  refine a_aload_n dL_account_0 rfl ?_
  refine a_iconst (0 : Int32) dL_account_1 (by decide) ?_
  refine a_aload_n dL_account_2 rfl ?_
  refine a_iload_n dL_account_3 rfl ?_
  refine a_inv (b2 := (0, 0)) hct rfl dL_account_4 yk_X10_account im_X10_account se_X10_account ml_L_85 rfl (co_0 (by repeat (first | with_reducible exact hw | with_reducible exact hwc | with_reducible assumption | with_reducible apply Wf.sI | with_reducible apply Wf.sL | with_reducible apply Wf.cpI | with_reducible apply Wf.cpL | with_reducible apply Wf.cp2 | with_reducible apply Wf.sIs | with_reducible apply Wf.sLs | with_reducible apply Wf.cpU | with_reducible apply Wf.fillI | with_reducible apply Wf.clU | with_reducible apply Wf.dnF | with_reducible apply Wf.gbW))) (by decide) hc_X10 (by decide) (by decide) (Nat.le_of_ble_eq_true rfl) ?_
  refine a_lst dL_account_7 (ca_363 (by repeat (first | with_reducible exact hw | with_reducible exact hwc | with_reducible assumption | with_reducible apply Wf.sI | with_reducible apply Wf.sL | with_reducible apply Wf.cpI | with_reducible apply Wf.cpL | with_reducible apply Wf.cp2 | with_reducible apply Wf.sIs | with_reducible apply Wf.sLs | with_reducible apply Wf.cpU | with_reducible apply Wf.fillI | with_reducible apply Wf.clU | with_reducible apply Wf.dnF | with_reducible apply Wf.gbW))) (ixn (m := 0) (by decide) (by decide)) ?_
  refine a_goto (tgt := 14) dL_account_8 (by decide) ?_
  refine a_iconst (0 : Int32) dL_account_14 (by decide) ?_
  exact a_out rfl rfl (a_ireturn dL_account_15 rfl rfl)
theorem wx_account_1 (hw : Wf μ) (x0 : Int32) (hct : Ct Y_X10_account RX_X10_account (.ref 0 :: [.int x0]) μ (.inr IAE) W) : Ct Y_L_account RW_L_account [.ref 0, .int x0, .ref 363] μ (.inl (some (.int 1))) W := by
  refine Ct.entH yh_L_account (Nat.le_of_ble_eq_true rfl) ?_
  refine a_aload_n dL_account_0 rfl ?_
  refine a_iconst (0 : Int32) dL_account_1 (by decide) ?_
  refine a_aload_n dL_account_2 rfl ?_
  refine a_iload_n dL_account_3 rfl ?_
  exact a_invC hct rfl dL_account_4 yk_X10_account im_X10_account se_X10_account ml_L_85 rfl (co_0 hw) (by decide) hc_X10 (by decide) (by decide) (Nat.le_of_ble_eq_true rfl) (pre := []) (suf := []) rfl (fun z hz => nomatch hz) (by decide) (by decide) kl_19 (by decide) (j := 3) (by decide) (Or.inr ⟨⟨3, dL_account_11, rfl⟩, rfl⟩) dL_account_12 rfl dL_account_13 rfl
abbrev RW_L_undo : Room := { frames := 8, cells := 1, slots := 6, locals := 160 }
theorem wv_undo (hw : Wf μ) {v : Int32} (hW : Wf W) (hct : Ct Y_X10_undo R_X10_undo (.ref 0 :: []) μ (.inl (some (.int v))) W) : Ct Y_L_undo RW_L_undo [.ref 0, .ref 363] μ (.inl (some (.int 0))) (sL W 363 0 (v.toInt64)) := by
  refine Ct.entH yh_L_undo (Nat.le_of_ble_eq_true rfl) ?_
  refine a_aload_n dL_undo_0 rfl ?_
  refine a_iconst (0 : Int32) dL_undo_1 (by decide) ?_
  refine a_aload_n dL_undo_2 rfl ?_
  refine a_inv (b2 := (0, 0)) hct rfl dL_undo_3 yk_X10_undo im_X10_undo se_X10_undo ml_L_89 rfl (co_0 (by repeat (first | with_reducible exact hw | with_reducible exact hwc | with_reducible assumption | with_reducible apply Wf.sI | with_reducible apply Wf.sL | with_reducible apply Wf.cpI | with_reducible apply Wf.cpL | with_reducible apply Wf.cp2 | with_reducible apply Wf.sIs | with_reducible apply Wf.sLs | with_reducible apply Wf.cpU | with_reducible apply Wf.fillI | with_reducible apply Wf.clU | with_reducible apply Wf.dnF | with_reducible apply Wf.gbW))) (by decide) hc_X10 (by decide) (by decide) (Nat.le_of_ble_eq_true rfl) ?_
  refine a_i2l dL_undo_6 ?_
  refine a_lst dL_undo_7 (ca_363 (by repeat (first | with_reducible exact hw | with_reducible exact hwc | with_reducible assumption | with_reducible apply Wf.sI | with_reducible apply Wf.sL | with_reducible apply Wf.cpI | with_reducible apply Wf.cpL | with_reducible apply Wf.cp2 | with_reducible apply Wf.sIs | with_reducible apply Wf.sLs | with_reducible apply Wf.cpU | with_reducible apply Wf.fillI | with_reducible apply Wf.clU | with_reducible apply Wf.dnF | with_reducible apply Wf.gbW))) (ixn (m := 0) (by decide) (by decide)) ?_
  refine a_goto (tgt := 14) dL_undo_8 (by decide) ?_
  refine a_iconst (0 : Int32) dL_undo_14 (by decide) ?_
  exact a_out rfl rfl (a_ireturn dL_undo_15 rfl rfl)
theorem wx_undo_1 (hw : Wf μ) (hct : Ct Y_X10_undo RX_X10_undo (.ref 0 :: []) μ (.inr ISE) W) : Ct Y_L_undo RW_L_undo [.ref 0, .ref 363] μ (.inl (some (.int 1))) W := by
  refine Ct.entH yh_L_undo (Nat.le_of_ble_eq_true rfl) ?_
  refine a_aload_n dL_undo_0 rfl ?_
  refine a_iconst (0 : Int32) dL_undo_1 (by decide) ?_
  refine a_aload_n dL_undo_2 rfl ?_
  exact a_invC hct rfl dL_undo_3 yk_X10_undo im_X10_undo se_X10_undo ml_L_89 rfl (co_0 hw) (by decide) hc_X10 (by decide) (by decide) (Nat.le_of_ble_eq_true rfl) (pre := []) (suf := []) rfl (fun z hz => nomatch hz) (by decide) (by decide) kl_13 (by decide) (j := 2) (by decide) (Or.inr ⟨⟨2, dL_undo_11, rfl⟩, rfl⟩) dL_undo_12 rfl dL_undo_13 rfl
abbrev RW_L_keep : Room := { frames := 9, cells := 1, slots := 6, locals := 182 }
theorem wv_keep (hw : Wf μ) (x0 : Int32) {v : Int32} (hW : Wf W) (hct : Ct Y_X10_keep R_X10_keep (.ref 0 :: [.int x0]) μ (.inl (some (.int v))) W) : Ct Y_L_keep RW_L_keep [.ref 0, .int x0, .ref 363] μ (.inl (some (.int 0))) (sL W 363 0 (v.toInt64)) := by
  refine Ct.entH yh_L_keep (Nat.le_of_ble_eq_true rfl) ?_
  refine a_aload_n dL_keep_0 rfl ?_
  refine a_iconst (0 : Int32) dL_keep_1 (by decide) ?_
  refine a_aload_n dL_keep_2 rfl ?_
  refine a_iload_n dL_keep_3 rfl ?_
  refine a_inv (b2 := (0, 0)) hct rfl dL_keep_4 yk_X10_keep im_X10_keep se_X10_keep ml_L_92 rfl (co_0 (by repeat (first | with_reducible exact hw | with_reducible exact hwc | with_reducible assumption | with_reducible apply Wf.sI | with_reducible apply Wf.sL | with_reducible apply Wf.cpI | with_reducible apply Wf.cpL | with_reducible apply Wf.cp2 | with_reducible apply Wf.sIs | with_reducible apply Wf.sLs | with_reducible apply Wf.cpU | with_reducible apply Wf.fillI | with_reducible apply Wf.clU | with_reducible apply Wf.dnF | with_reducible apply Wf.gbW))) (by decide) hc_X10 (by decide) (by decide) (Nat.le_of_ble_eq_true rfl) ?_
  refine a_i2l dL_keep_7 ?_
  refine a_lst dL_keep_8 (ca_363 (by repeat (first | with_reducible exact hw | with_reducible exact hwc | with_reducible assumption | with_reducible apply Wf.sI | with_reducible apply Wf.sL | with_reducible apply Wf.cpI | with_reducible apply Wf.cpL | with_reducible apply Wf.cp2 | with_reducible apply Wf.sIs | with_reducible apply Wf.sLs | with_reducible apply Wf.cpU | with_reducible apply Wf.fillI | with_reducible apply Wf.clU | with_reducible apply Wf.dnF | with_reducible apply Wf.gbW))) (ixn (m := 0) (by decide) (by decide)) ?_
  refine a_goto (tgt := 15) dL_keep_9 (by decide) ?_
  refine a_iconst (0 : Int32) dL_keep_15 (by decide) ?_
  exact a_out rfl rfl (a_ireturn dL_keep_16 rfl rfl)
theorem wx_keep_1 (hw : Wf μ) (x0 : Int32) (hct : Ct Y_X10_keep RX_X10_keep (.ref 0 :: [.int x0]) μ (.inr IAE) W) : Ct Y_L_keep RW_L_keep [.ref 0, .int x0, .ref 363] μ (.inl (some (.int 1))) W := by
  refine Ct.entH yh_L_keep (Nat.le_of_ble_eq_true rfl) ?_
  refine a_aload_n dL_keep_0 rfl ?_
  refine a_iconst (0 : Int32) dL_keep_1 (by decide) ?_
  refine a_aload_n dL_keep_2 rfl ?_
  refine a_iload_n dL_keep_3 rfl ?_
  exact a_invC hct rfl dL_keep_4 yk_X10_keep im_X10_keep se_X10_keep ml_L_92 rfl (co_0 hw) (by decide) hc_X10 (by decide) (by decide) (Nat.le_of_ble_eq_true rfl) (pre := []) (suf := []) rfl (fun z hz => nomatch hz) (by decide) (by decide) kl_19 (by decide) (j := 3) (by decide) (Or.inr ⟨⟨3, dL_keep_12, rfl⟩, rfl⟩) dL_keep_13 rfl dL_keep_14 rfl
abbrev RW_L_restore : Room := { frames := 9, cells := 1, slots := 6, locals := 182 }
theorem wv_restore (hw : Wf μ) (x0 : Int32) {v : Int32} (hW : Wf W) (hct : Ct Y_X10_restore R_X10_restore (.ref 0 :: [.int x0]) μ (.inl (some (.int v))) W) : Ct Y_L_restore RW_L_restore [.ref 0, .int x0, .ref 363] μ (.inl (some (.int 0))) (sL W 363 0 (v.toInt64)) := by
  refine Ct.entH yh_L_restore (Nat.le_of_ble_eq_true rfl) ?_
  refine a_aload_n dL_restore_0 rfl ?_
  refine a_iconst (0 : Int32) dL_restore_1 (by decide) ?_
  refine a_aload_n dL_restore_2 rfl ?_
  refine a_iload_n dL_restore_3 rfl ?_
  refine a_inv (b2 := (0, 0)) hct rfl dL_restore_4 yk_X10_restore im_X10_restore se_X10_restore ml_L_95 rfl (co_0 (by repeat (first | with_reducible exact hw | with_reducible exact hwc | with_reducible assumption | with_reducible apply Wf.sI | with_reducible apply Wf.sL | with_reducible apply Wf.cpI | with_reducible apply Wf.cpL | with_reducible apply Wf.cp2 | with_reducible apply Wf.sIs | with_reducible apply Wf.sLs | with_reducible apply Wf.cpU | with_reducible apply Wf.fillI | with_reducible apply Wf.clU | with_reducible apply Wf.dnF | with_reducible apply Wf.gbW))) (by decide) hc_X10 (by decide) (by decide) (Nat.le_of_ble_eq_true rfl) ?_
  refine a_i2l dL_restore_7 ?_
  refine a_lst dL_restore_8 (ca_363 (by repeat (first | with_reducible exact hw | with_reducible exact hwc | with_reducible assumption | with_reducible apply Wf.sI | with_reducible apply Wf.sL | with_reducible apply Wf.cpI | with_reducible apply Wf.cpL | with_reducible apply Wf.cp2 | with_reducible apply Wf.sIs | with_reducible apply Wf.sLs | with_reducible apply Wf.cpU | with_reducible apply Wf.fillI | with_reducible apply Wf.clU | with_reducible apply Wf.dnF | with_reducible apply Wf.gbW))) (ixn (m := 0) (by decide) (by decide)) ?_
  refine a_goto (tgt := 18) dL_restore_9 (by decide) ?_
  refine a_iconst (0 : Int32) dL_restore_18 (by decide) ?_
  exact a_out rfl rfl (a_ireturn dL_restore_19 rfl rfl)
theorem wx_restore_1 (hw : Wf μ) (x0 : Int32) (hct : Ct Y_X10_restore RX_X10_restore (.ref 0 :: [.int x0]) μ (.inr IAE) W) : Ct Y_L_restore RW_L_restore [.ref 0, .int x0, .ref 363] μ (.inl (some (.int 1))) W := by
  refine Ct.entH yh_L_restore (Nat.le_of_ble_eq_true rfl) ?_
  refine a_aload_n dL_restore_0 rfl ?_
  refine a_iconst (0 : Int32) dL_restore_1 (by decide) ?_
  refine a_aload_n dL_restore_2 rfl ?_
  refine a_iload_n dL_restore_3 rfl ?_
  exact a_invC hct rfl dL_restore_4 yk_X10_restore im_X10_restore se_X10_restore ml_L_95 rfl (co_0 hw) (by decide) hc_X10 (by decide) (by decide) (Nat.le_of_ble_eq_true rfl) (pre := []) (suf := [(0, 9, 15, 28)]) rfl (fun z hz => nomatch hz) (by decide) (by decide) kl_19 (by decide) (j := 3) (by decide) (Or.inr ⟨⟨3, dL_restore_12, rfl⟩, rfl⟩) dL_restore_13 rfl dL_restore_14 rfl
theorem wx_restore_2 (hw : Wf μ) (x0 : Int32) (hct : Ct Y_X10_restore RX_X10_restore (.ref 0 :: [.int x0]) μ (.inr NSE) W) : Ct Y_L_restore RW_L_restore [.ref 0, .int x0, .ref 363] μ (.inl (some (.int 2))) W := by
  refine Ct.entH yh_L_restore (Nat.le_of_ble_eq_true rfl) ?_
  refine a_aload_n dL_restore_0 rfl ?_
  refine a_iconst (0 : Int32) dL_restore_1 (by decide) ?_
  refine a_aload_n dL_restore_2 rfl ?_
  refine a_iload_n dL_restore_3 rfl ?_
  exact a_invC hct rfl dL_restore_4 yk_X10_restore im_X10_restore se_X10_restore ml_L_95 rfl (co_0 hw) (by decide) hc_X10 (by decide) (by decide) (Nat.le_of_ble_eq_true rfl) (pre := [(0, 9, 12, 19)]) (suf := []) rfl (fun z hz => by
      simp only [List.mem_cons, List.not_mem_nil, or_false] at hz
      subst hz
      · exact ⟨by decide, _, kl_19, by decide⟩) (by decide) (by decide) kl_28 (by decide) (j := 3) (by decide) (Or.inr ⟨⟨3, dL_restore_15, rfl⟩, rfl⟩) dL_restore_16 rfl dL_restore_17 rfl
abbrev RW_L_writeTrolley : Room := { frames := 9, cells := 1, slots := 6, locals := 229 }
theorem wv_writeTrolley (hw : Wf μ) (x0 : Int32) {v : Int32} (hW : Wf W) (hct : Ct Y_X10_writeTrolley R_X10_writeTrolley (.ref 0 :: [.int x0]) μ (.inl (some (.int v))) W) : Ct Y_L_writeTrolley RW_L_writeTrolley [.ref 0, .int x0, .ref 363] μ (.inl (some (.int 0))) (sL W 363 0 (v.toInt64)) := by
  refine Ct.entH yh_L_writeTrolley (Nat.le_of_ble_eq_true rfl) ?_
  refine a_aload_n dL_writeTrolley_0 rfl ?_
  refine a_iconst (0 : Int32) dL_writeTrolley_1 (by decide) ?_
  refine a_aload_n dL_writeTrolley_2 rfl ?_
  refine a_iload_n dL_writeTrolley_3 rfl ?_
  refine a_inv (b2 := (0, 0)) hct rfl dL_writeTrolley_4 yk_X10_writeTrolley im_X10_writeTrolley se_X10_writeTrolley ml_L_98 rfl (co_0 (by repeat (first | with_reducible exact hw | with_reducible exact hwc | with_reducible assumption | with_reducible apply Wf.sI | with_reducible apply Wf.sL | with_reducible apply Wf.cpI | with_reducible apply Wf.cpL | with_reducible apply Wf.cp2 | with_reducible apply Wf.sIs | with_reducible apply Wf.sLs | with_reducible apply Wf.cpU | with_reducible apply Wf.fillI | with_reducible apply Wf.clU | with_reducible apply Wf.dnF | with_reducible apply Wf.gbW))) (by decide) hc_X10 (by decide) (by decide) (Nat.le_of_ble_eq_true rfl) ?_
  refine a_i2l dL_writeTrolley_7 ?_
  refine a_lst dL_writeTrolley_8 (ca_363 (by repeat (first | with_reducible exact hw | with_reducible exact hwc | with_reducible assumption | with_reducible apply Wf.sI | with_reducible apply Wf.sL | with_reducible apply Wf.cpI | with_reducible apply Wf.cpL | with_reducible apply Wf.cp2 | with_reducible apply Wf.sIs | with_reducible apply Wf.sLs | with_reducible apply Wf.cpU | with_reducible apply Wf.fillI | with_reducible apply Wf.clU | with_reducible apply Wf.dnF | with_reducible apply Wf.gbW))) (ixn (m := 0) (by decide) (by decide)) ?_
  refine a_goto (tgt := 15) dL_writeTrolley_9 (by decide) ?_
  refine a_iconst (0 : Int32) dL_writeTrolley_15 (by decide) ?_
  exact a_out rfl rfl (a_ireturn dL_writeTrolley_16 rfl rfl)
theorem wx_writeTrolley_1 (hw : Wf μ) (x0 : Int32) (hct : Ct Y_X10_writeTrolley RX_X10_writeTrolley (.ref 0 :: [.int x0]) μ (.inr NSE) W) : Ct Y_L_writeTrolley RW_L_writeTrolley [.ref 0, .int x0, .ref 363] μ (.inl (some (.int 1))) W := by
  refine Ct.entH yh_L_writeTrolley (Nat.le_of_ble_eq_true rfl) ?_
  refine a_aload_n dL_writeTrolley_0 rfl ?_
  refine a_iconst (0 : Int32) dL_writeTrolley_1 (by decide) ?_
  refine a_aload_n dL_writeTrolley_2 rfl ?_
  refine a_iload_n dL_writeTrolley_3 rfl ?_
  exact a_invC hct rfl dL_writeTrolley_4 yk_X10_writeTrolley im_X10_writeTrolley se_X10_writeTrolley ml_L_98 rfl (co_0 hw) (by decide) hc_X10 (by decide) (by decide) (Nat.le_of_ble_eq_true rfl) (pre := []) (suf := []) rfl (fun z hz => nomatch hz) (by decide) (by decide) kl_28 (by decide) (j := 3) (by decide) (Or.inr ⟨⟨3, dL_writeTrolley_12, rfl⟩, rfl⟩) dL_writeTrolley_13 rfl dL_writeTrolley_14 rfl
abbrev RW_L_outputByte : Room := { frames := 8, cells := 1, slots := 6, locals := 161 }
theorem wv_outputByte (hw : Wf μ) (x0 : Int32) {v : Int32} (hW : Wf W) (hct : Ct Y_X10_outputByte R_X10_outputByte (.ref 0 :: [.int x0]) μ (.inl (some (.int v))) W) : Ct Y_L_outputByte RW_L_outputByte [.ref 0, .int x0, .ref 363] μ (.inl (some (.int 0))) (sL W 363 0 (v.toInt64)) := by
  refine Ct.entH yh_L_outputByte (Nat.le_of_ble_eq_true rfl) ?_
  refine a_aload_n dL_outputByte_0 rfl ?_
  refine a_iconst (0 : Int32) dL_outputByte_1 (by decide) ?_
  refine a_aload_n dL_outputByte_2 rfl ?_
  refine a_iload_n dL_outputByte_3 rfl ?_
  refine a_inv (b2 := (0, 0)) hct rfl dL_outputByte_4 yk_X10_outputByte im_X10_outputByte se_X10_outputByte ml_L_101 rfl (co_0 (by repeat (first | with_reducible exact hw | with_reducible exact hwc | with_reducible assumption | with_reducible apply Wf.sI | with_reducible apply Wf.sL | with_reducible apply Wf.cpI | with_reducible apply Wf.cpL | with_reducible apply Wf.cp2 | with_reducible apply Wf.sIs | with_reducible apply Wf.sLs | with_reducible apply Wf.cpU | with_reducible apply Wf.fillI | with_reducible apply Wf.clU | with_reducible apply Wf.dnF | with_reducible apply Wf.gbW))) (by decide) hc_X10 (by decide) (by decide) (Nat.le_of_ble_eq_true rfl) ?_
  refine a_i2l dL_outputByte_7 ?_
  refine a_lst dL_outputByte_8 (ca_363 (by repeat (first | with_reducible exact hw | with_reducible exact hwc | with_reducible assumption | with_reducible apply Wf.sI | with_reducible apply Wf.sL | with_reducible apply Wf.cpI | with_reducible apply Wf.cpL | with_reducible apply Wf.cp2 | with_reducible apply Wf.sIs | with_reducible apply Wf.sLs | with_reducible apply Wf.cpU | with_reducible apply Wf.fillI | with_reducible apply Wf.clU | with_reducible apply Wf.dnF | with_reducible apply Wf.gbW))) (ixn (m := 0) (by decide) (by decide)) ?_
  refine a_goto (tgt := 15) dL_outputByte_9 (by decide) ?_
  refine a_iconst (0 : Int32) dL_outputByte_15 (by decide) ?_
  exact a_out rfl rfl (a_ireturn dL_outputByte_16 rfl rfl)
theorem wx_outputByte_1 (hw : Wf μ) (x0 : Int32) (hct : Ct Y_X10_outputByte RX_X10_outputByte (.ref 0 :: [.int x0]) μ (.inr IOE) W) : Ct Y_L_outputByte RW_L_outputByte [.ref 0, .int x0, .ref 363] μ (.inl (some (.int 1))) W := by
  refine Ct.entH yh_L_outputByte (Nat.le_of_ble_eq_true rfl) ?_
  refine a_aload_n dL_outputByte_0 rfl ?_
  refine a_iconst (0 : Int32) dL_outputByte_1 (by decide) ?_
  refine a_aload_n dL_outputByte_2 rfl ?_
  refine a_iload_n dL_outputByte_3 rfl ?_
  exact a_invC hct rfl dL_outputByte_4 yk_X10_outputByte im_X10_outputByte se_X10_outputByte ml_L_101 rfl (co_0 hw) (by decide) hc_X10 (by decide) (by decide) (Nat.le_of_ble_eq_true rfl) (pre := []) (suf := []) rfl (fun z hz => nomatch hz) (by decide) (by decide) kl_45 (by decide) (j := 3) (by decide) (Or.inr ⟨⟨3, dL_outputByte_12, rfl⟩, rfl⟩) dL_outputByte_13 rfl dL_outputByte_14 rfl
end WRAPS
