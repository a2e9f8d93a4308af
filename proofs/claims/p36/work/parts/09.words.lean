def chk : List (Nat × Cond) → List Cond → Bool
  | [], _ => true
  | (g, w) :: r, t => match t.drop g with
    | [] => false
    | x :: t' => decide (x = w) && (goodWord w && chk r t')
theorem chk_mem : ∀ {L : List (Nat × Cond)} {t : List Cond}, chk L t = true → ∀ q ∈ L, q.2 ∈ t ∧ goodWord q.2 = true
  | [], _, _ => fun _ h => nomatch h
  | (g, w) :: r, t, h => by
    unfold chk at h
    split at h
    · cases h
    · rename_i x t' hd
      simp only [Bool.and_eq_true, decide_eq_true_eq] at h
      have hs : ∀ z, z ∈ x :: t' → z ∈ t := fun z hz => List.mem_of_mem_drop (by rw [hd]; exact hz)
      intro q hq
      rcases List.mem_cons.mp hq with rfl | hq
      · exact ⟨hs _ (by rw [h.1]; exact List.mem_cons_self), h.2.1⟩
      · have h2 := chk_mem h.2.2 q hq
        exact ⟨hs _ (List.mem_cons_of_mem _ h2.1), h2.2⟩
theorem chk_in {L : List (Nat × Cond)} (h : chk L lw_tbl = true) {g : Nat} {w : Cond} (i : Nat) (hi : L[i]? = some (g, w)) : w ∈ lwa := by
  have h2 := chk_mem h (g, w) (List.mem_of_getElem? hi)
  exact List.mem_filter.mpr h2
theorem vwCl_c {ci : Nat} {C : String} (h : vwCl[ci]?.map (fun r => r.1) = some C) : ∀ r, vwCl[ci]? = some r → r.1 = C := fun r hr => by
  rw [hr] at h
  exact Option.some.inj h
theorem hc_J0 : ∀ r, vwCl[0]? = some r → r.1 = RJ0 := vwCl_c rfl
theorem hc_X0 : ∀ r, vwCl[1]? = some r → r.1 = RX0 := vwCl_c rfl
theorem hc_X1 : ∀ r, vwCl[2]? = some r → r.1 = RX1 := vwCl_c rfl
theorem hc_X2 : ∀ r, vwCl[3]? = some r → r.1 = RX2 := vwCl_c rfl
theorem hc_X3 : ∀ r, vwCl[4]? = some r → r.1 = RX3 := vwCl_c rfl
theorem hc_X4 : ∀ r, vwCl[5]? = some r → r.1 = RX4 := vwCl_c rfl
theorem hc_X5 : ∀ r, vwCl[6]? = some r → r.1 = RX5 := vwCl_c rfl
theorem hc_X6 : ∀ r, vwCl[7]? = some r → r.1 = RX6 := vwCl_c rfl
theorem hc_X7 : ∀ r, vwCl[8]? = some r → r.1 = RX7 := vwCl_c rfl
theorem hc_X8 : ∀ r, vwCl[9]? = some r → r.1 = RX8 := vwCl_c rfl
theorem hc_X9 : ∀ r, vwCl[10]? = some r → r.1 = RX9 := vwCl_c rfl
theorem hc_X10 : ∀ r, vwCl[11]? = some r → r.1 = RX10 := vwCl_c rfl
theorem hc_J4 : ∀ r, vwCl[12]? = some r → r.1 = RJ4 := vwCl_c rfl
abbrev Y_X0_init : Yd := (yX0_init, cX0_init, 1, none, [])
abbrev Y_X1_init : Yd := (yX1_init, cX1_init, 2, none, [])
abbrev Y_J7_fill_53178 : Yd := (yJ7_fill_53178, cJ7_fill_53178, 4, none, [])
abbrev Y_X1_clear : Yd := (yX1_clear, cX1_clear, 3, none, [])
abbrev Y_X1_copyAccounts : Yd := (yX1_copyAccounts, cX1_copyAccounts, 2, none, [])
abbrev Y_X1_copy : Yd := (yX1_copy, cX1_copy, 3, none, [])
abbrev Y_X1_phase : Yd := (yX1_phase, cX1_phase, 1, (some .int), [])
abbrev Y_X1_passengersIn : Yd := (yX1_passengersIn, cX1_passengersIn, 4, (some .int), [])
abbrev Y_X1_specialsIn : Yd := (yX1_specialsIn, cX1_specialsIn, 4, (some .int), [])
abbrev Y_X1_freeSeats : Yd := (yX1_freeSeats, cX1_freeSeats, 2, (some .int), [])
abbrev Y_X1_seat : Yd := (yX1_seat, cX1_seat, 4, none, [])
abbrev Y_X1_removePassenger : Yd := (yX1_removePassenger, cX1_removePassenger, 3, none, [])
abbrev Y_X7_admits : Yd := (yX7_admits, cX7_admits, 3, (some .boolean), [])
abbrev Y_X7_suiting : Yd := (yX7_suiting, cX7_suiting, 5, (some .int), [])
abbrev Y_X1_suiting : Yd := (yX1_suiting, cX1_suiting, 2, (some .int), [])
abbrev Y_X7_cheapestOf : Yd := (yX7_cheapestOf, cX7_cheapestOf, 4, (some .int), [])
abbrev Y_X1_cheapestFor : Yd := (yX1_cheapestFor, cX1_cheapestFor, 2, (some .int), [])
abbrev Y_X1_freeSlots : Yd := (yX1_freeSlots, cX1_freeSlots, 4, (some .int), [])
abbrev Y_X1_freeSlotsIn : Yd := (yX1_freeSlotsIn, cX1_freeSlotsIn, 4, (some .int), [])
abbrev Y_X1_unitsIn : Yd := (yX1_unitsIn, cX1_unitsIn, 4, (some .int), [])
abbrev Y_X1_loadedOf : Yd := (yX1_loadedOf, cX1_loadedOf, 4, (some .int), [])
abbrev Y_X1_allLoaded : Yd := (yX1_allLoaded, cX1_allLoaded, 3, (some .int), [])
abbrev Y_X1_onTheWay : Yd := (yX1_onTheWay, cX1_onTheWay, 4, (some .int), [])
abbrev Y_X1_missing : Yd := (yX1_missing, cX1_missing, 3, (some .int), [])
abbrev Y_X1_put : Yd := (yX1_put, cX1_put, 7, (some .int), [])
abbrev Y_X1_takeOut : Yd := (yX1_takeOut, cX1_takeOut, 6, none, [])
abbrev Y_X1_askFor : Yd := (yX1_askFor, cX1_askFor, 3, none, [])
abbrev Y_X1_letArrive : Yd := (yX1_letArrive, cX1_letArrive, 4, (some .int), [])
abbrev Y_X9_init : Yd := (yX9_init, cX9_init, 1, none, [])
abbrev Y_X2_init : Yd := (yX2_init, cX2_init, 1, none, [])
abbrev Y_X7_clear : Yd := (yX7_clear, cX7_clear, 1, none, [])
abbrev Y_X9_begin : Yd := (yX9_begin, cX9_begin, 3, none, [])
abbrev Y_X9_kindOf : Yd := (yX9_kindOf, cX9_kindOf, 1, (some .int), [])
abbrev Y_X9_readNumber : Yd := (yX9_readNumber, cX9_readNumber, 2, none, [])
abbrev Y_X9_next : Yd := (yX9_next, cX9_next, 1, none, [])
abbrev Y_J0_coder_7d493 : Yd := (yJ0_coder_7d493, cJ0_coder_7d493, 1, (some .byte), [])
abbrev Y_J0_length_8abf5 : Yd := (yJ0_length_8abf5, cJ0_length_8abf5, 1, (some .int), [])
abbrev Y_J0_isLatin1_aae02 : Yd := (yJ0_isLatin1_aae02, cJ0_isLatin1_aae02, 1, (some .boolean), [])
abbrev Y_J3_checkIndex_8e157 : Yd := (yJ3_checkIndex_8e157, cJ3_checkIndex_8e157, 3, (some .int), [])
abbrev Y_J0_checkIndex_df160 : Yd := (yJ0_checkIndex_df160, cJ0_checkIndex_df160, 2, none, [])
abbrev Y_J1_charAt_3b067 : Yd := (yJ1_charAt_3b067, cJ1_charAt_3b067, 2, (some .char), [])
abbrev Y_J2_length_9d52b : Yd := (yJ2_length_9d52b, cJ2_length_9d52b, 1, (some .int), [])
abbrev Y_J2_checkIndex_2214a : Yd := (yJ2_checkIndex_2214a, cJ2_checkIndex_2214a, 2, none, [])
abbrev Y_J2_getChar_3b067 : Yd := (yJ2_getChar_3b067, cJ2_getChar_3b067, 2, (some .char), [])
abbrev Y_J2_charAt_3b067 : Yd := (yJ2_charAt_3b067, cJ2_charAt_3b067, 2, (some .char), [])
abbrev Y_J0_charAt_5068e : Yd := (yJ0_charAt_5068e, cJ0_charAt_5068e, 2, (some .char), [])
abbrev Y_X9_is : Yd := (yX9_is, cX9_is, 3, (some .boolean), [])
abbrev Y_X2_fail : Yd := (yX2_fail, cX2_fail, 2, (some .boolean), [])
abbrev Y_X2_numberHere : Yd := (yX2_numberHere, cX2_numberHere, 3, (some .int), [])
abbrev Y_X2_nextNumber : Yd := (yX2_nextNumber, cX2_nextNumber, 3, (some .int), [])
abbrev Y_X2_signHere : Yd := (yX2_signHere, cX2_signHere, 1, (some .boolean), [])
abbrev Y_X2_readTime : Yd := (yX2_readTime, cX2_readTime, 3, (some .boolean), [])
abbrev Y_X2_readLead : Yd := (yX2_readLead, cX2_readLead, 2, (some .boolean), [])
abbrev Y_X9_size : Yd := (yX9_size, cX9_size, 1, (some .int), [])
abbrev Y_X2_nameHere : Yd := (yX2_nameHere, cX2_nameHere, 1, (some .boolean), [])
abbrev Y_X2_cabinHere : Yd := (yX2_cabinHere, cX2_cabinHere, 2, (some .int), [])
abbrev Y_J2_compress_fe38e : Yd := (yJ2_compress_fe38e, cJ2_compress_fe38e, 7, (some .int), [])
abbrev Y_J2_newBytesLength_0f7a4 : Yd := (yJ2_newBytesLength_0f7a4, cJ2_newBytesLength_0f7a4, 1, (some .int), [])
abbrev Y_J2_newBytesFor_77867 : Yd := (yJ2_newBytesFor_77867, cJ2_newBytesFor_77867, 1, (some (.array .byte)), [])
abbrev Y_J2_putChar_b72d1 : Yd := (yJ2_putChar_b72d1, cJ2_putChar_b72d1, 3, none, [])
abbrev Y_J2_toBytes_dfd3c : Yd := (yJ2_toBytes_dfd3c, cJ2_toBytes_dfd3c, 5, (some (.array .byte)), [])
abbrev Y_J3_checkFromIndexSize_8c36e : Yd := (yJ3_checkFromIndexSize_8c36e, cJ3_checkFromIndexSize_8c36e, 4, (some .int), [])
abbrev Y_J0_checkBoundsOffCount_cabcc : Yd := (yJ0_checkBoundsOffCount_cabcc, cJ0_checkBoundsOffCount_cabcc, 3, (some .int), [])
abbrev Y_J2_checkBoundsOffCount_d044e : Yd := (yJ2_checkBoundsOffCount_d044e, cJ2_checkBoundsOffCount_d044e, 3, none, [])
abbrev Y_J2_compress_5af95 : Yd := (yJ2_compress_5af95, cJ2_compress_5af95, 7, (some .int), [])
abbrev Y_J2_compress_dfd3c : Yd := (yJ2_compress_dfd3c, cJ2_compress_dfd3c, 6, (some (.array .byte)), [])
abbrev Y_J2_coderFromArrayLen_85cad : Yd := (yJ2_coderFromArrayLen_85cad, cJ2_coderFromArrayLen_85cad, 2, (some .byte), [])
abbrev Y_J0_init_bb550 : Yd := (yJ0_init_bb550, cJ0_init_bb550, 6, none, [])
abbrev Y_J0_init_905df : Yd := (yJ0_init_905df, cJ0_init_905df, 2, none, [])
abbrev Y_X9_word : Yd := (yX9_word, cX9_word, 3, (some (.object "java/lang/String")), [])
abbrev Y_X2_readCabin : Yd := (yX2_readCabin, cX2_readCabin, 2, (some .boolean), [])
abbrev Y_X2_mealHere : Yd := (yX2_mealHere, cX2_mealHere, 2, (some .int), [])
abbrev Y_X2_nextCabin : Yd := (yX2_nextCabin, cX2_nextCabin, 2, (some .int), [])
abbrev Y_X2_readPlace : Yd := (yX2_readPlace, cX2_readPlace, 2, (some .boolean), [])
abbrev Y_X2_nextDiets : Yd := (yX2_nextDiets, cX2_nextDiets, 5, (some .int), [])
abbrev Y_X2_readMeal : Yd := (yX2_readMeal, cX2_readMeal, 2, (some .boolean), [])
abbrev Y_X2_readTrolley : Yd := (yX2_readTrolley, cX2_readTrolley, 3, (some .boolean), [])
abbrev Y_X2_readGuests : Yd := (yX2_readGuests, cX2_readGuests, 4, (some .boolean), [])
abbrev Y_X2_nextWish : Yd := (yX2_nextWish, cX2_nextWish, 3, (some .int), [])
abbrev Y_X2_readGuest : Yd := (yX2_readGuest, cX2_readGuest, 4, (some .boolean), [])
abbrev Y_X2_readStatement : Yd := (yX2_readStatement, cX2_readStatement, 1, (some .boolean), [])
abbrev Y_X2_read : Yd := (yX2_read, cX2_read, 7, (some .boolean), [])
abbrev Y_X3_init : Yd := (yX3_init, cX3_init, 3, none, [])
abbrev Y_X3_add : Yd := (yX3_add, cX3_add, 2, none, [])
abbrev Y_X3_takeBack : Yd := (yX3_takeBack, cX3_takeBack, 2, none, [])
abbrev Y_X4_init : Yd := (yX4_init, cX4_init, 1, none, [])
abbrev Y_X4_begin : Yd := (yX4_begin, cX4_begin, 3, none, [])
abbrev Y_X4_reach : Yd := (yX4_reach, cX4_reach, 4, none, [])
abbrev Y_X4_findMover : Yd := (yX4_findMover, cX4_findMover, 5, (some .int), [])
abbrev Y_X4_moveAlong : Yd := (yX4_moveAlong, cX4_moveAlong, 7, none, [])
abbrev Y_X4_matchOneMore : Yd := (yX4_matchOneMore, cX4_matchOneMore, 5, (some .boolean), [])
abbrev Y_X4_giveBack : Yd := (yX4_giveBack, cX4_giveBack, 2, none, [])
abbrev Y_X4_canHave : Yd := (yX4_canHave, cX4_canHave, 5, (some .boolean), [])
abbrev Y_X4_match : Yd := (yX4_match, cX4_match, 7, none, [])
abbrev Y_X5_init : Yd := (yX5_init, cX5_init, 1, none, [])
abbrev Y_X6_init : Yd := (yX6_init, cX6_init, 1, none, [])
abbrev Y_X6_greatestRemainder : Yd := (yX6_greatestRemainder, cX6_greatestRemainder, 4, (some .int), [])
abbrev Y_X6_divide : Yd := (yX6_divide, cX6_divide, 8, none, [])
abbrev Y_X6_reckon : Yd := (yX6_reckon, cX6_reckon, 5, none, [])
abbrev Y_X6_allUnits : Yd := (yX6_allUnits, cX6_allUnits, 3, (some .int), [])
abbrev Y_X6_slotsOfMenu : Yd := (yX6_slotsOfMenu, cX6_slotsOfMenu, 5, (some .int), [])
abbrev Y_X7_init : Yd := (yX7_init, cX7_init, 2, none, [])
abbrev Y_X7_menuOf : Yd := (yX7_menuOf, cX7_menuOf, 4, (some .int), [])
abbrev Y_X7_trolleysOf : Yd := (yX7_trolleysOf, cX7_trolleysOf, 4, (some .int), [])
abbrev Y_X8_init : Yd := (yX8_init, cX8_init, 1, none, [])
abbrev Y_X8_give : Yd := (yX8_give, cX8_give, 3, none, [])
abbrev Y_X8_mostLeft : Yd := (yX8_mostLeft, cX8_mostLeft, 5, (some .int), [])
abbrev Y_X8_servePlain : Yd := (yX8_servePlain, cX8_servePlain, 5, none, [])
abbrev Y_X8_addUpWaste : Yd := (yX8_addUpWaste, cX8_addUpWaste, 3, none, [])
abbrev Y_X8_reckon : Yd := (yX8_reckon, cX8_reckon, 4, none, [])
abbrev Y_X10_init : Yd := (yX10_init, cX10_init, 3, none, [])
abbrev Y_X10_appendBytes : Yd := (yX10_appendBytes, cX10_appendBytes, 3, none, [])
abbrev Y_X10_feed : Yd := (yX10_feed, cX10_feed, 6, (some .int), [])
abbrev Y_X10_forgetPast : Yd := (yX10_forgetPast, cX10_forgetPast, 1, none, [])
abbrev Y_X10_load : Yd := (yX10_load, cX10_load, 4, (some .int), [])
abbrev Y_X10_freshOrder : Yd := (yX10_freshOrder, cX10_freshOrder, 1, (some (.object "MealLoader$Order")), [])
abbrev Y_X10_count : Yd := (yX10_count, cX10_count, 2, (some .int), [])
abbrev Y_X10_requireCabin : Yd := (yX10_requireCabin, cX10_requireCabin, 2, none, [])
abbrev Y_X10_cabin : Yd := (yX10_cabin, cX10_cabin, 3, (some .int), [])
abbrev Y_X10_requireMeal : Yd := (yX10_requireMeal, cX10_requireMeal, 2, none, [])
abbrev Y_X10_freshService : Yd := (yX10_freshService, cX10_freshService, 1, (some (.object "MealLoader$Service")), [])
abbrev Y_X10_meal : Yd := (yX10_meal, cX10_meal, 3, (some .int), [])
abbrev Y_X10_requirePassenger : Yd := (yX10_requirePassenger, cX10_requirePassenger, 2, none, [])
abbrev Y_X10_passenger : Yd := (yX10_passenger, cX10_passenger, 3, (some .int), [])
abbrev Y_X10_requireTrolley : Yd := (yX10_requireTrolley, cX10_requireTrolley, 2, none, [])
abbrev Y_X10_trolley : Yd := (yX10_trolley, cX10_trolley, 3, (some .int), [])
abbrev Y_X10_held : Yd := (yX10_held, cX10_held, 3, (some .int), [])
abbrev Y_X10_topUpAt : Yd := (yX10_topUpAt, cX10_topUpAt, 3, (some .int), [])
abbrev Y_X10_requireNeeds : Yd := (yX10_requireNeeds, cX10_requireNeeds, 2, none, [])
abbrev Y_X10_refuse : Yd := (yX10_refuse, cX10_refuse, 2, none, [])
abbrev Y_X10_requireFlight : Yd := (yX10_requireFlight, cX10_requireFlight, 2, none, [])
abbrev Y_X10_requireSeat : Yd := (yX10_requireSeat, cX10_requireSeat, 2, none, [])
abbrev Y_X10_beginAct : Yd := (yX10_beginAct, cX10_beginAct, 1, none, [])
abbrev Y_X10_board : Yd := (yX10_board, cX10_board, 4, (some .int), [])
abbrev Y_X10_change : Yd := (yX10_change, cX10_change, 4, (some .int), [])
abbrev Y_X10_leave : Yd := (yX10_leave, cX10_leave, 2, (some .int), [])
abbrev Y_X10_setNeeds : Yd := (yX10_setNeeds, cX10_setNeeds, 4, (some .int), [])
abbrev Y_X10_requireOpen : Yd := (yX10_requireOpen, cX10_requireOpen, 1, none, [])
abbrev Y_X10_loadOrder : Yd := (yX10_loadOrder, cX10_loadOrder, 5, (some .int), [])
abbrev Y_X10_requireUnits : Yd := (yX10_requireUnits, cX10_requireUnits, 2, none, [])
abbrev Y_X10_store : Yd := (yX10_store, cX10_store, 3, (some .int), [])
abbrev Y_X10_unload : Yd := (yX10_unload, cX10_unload, 3, (some .int), [])
abbrev Y_X10_topUp : Yd := (yX10_topUp, cX10_topUp, 3, (some .int), [])
abbrev Y_X10_advance : Yd := (yX10_advance, cX10_advance, 2, (some .int), [])
abbrev Y_X10_outlook : Yd := (yX10_outlook, cX10_outlook, 2, (some .int), [])
abbrev Y_X10_mealFor : Yd := (yX10_mealFor, cX10_mealFor, 2, (some .int), [])
abbrev Y_X10_serve : Yd := (yX10_serve, cX10_serve, 2, (some .int), [])
abbrev Y_X10_account : Yd := (yX10_account, cX10_account, 2, (some .long), [])
abbrev Y_X10_undo : Yd := (yX10_undo, cX10_undo, 1, (some .int), [])
abbrev Y_X10_requireSlot : Yd := (yX10_requireSlot, cX10_requireSlot, 2, none, [])
abbrev Y_X10_keep : Yd := (yX10_keep, cX10_keep, 2, (some .int), [])
abbrev Y_X10_restore : Yd := (yX10_restore, cX10_restore, 2, (some .int), [])
abbrev Y_J5_init_d00df : Yd := (yJ5_init_d00df, cJ5_init_d00df, 2, none, [])
abbrev Y_J8_hugeLength_7cf53 : Yd := (yJ8_hugeLength_7cf53, cJ8_hugeLength_7cf53, 3, (some .int), [])
abbrev Y_J8_newLength_cabcc : Yd := (yJ8_newLength_cabcc, cJ8_newLength_cabcc, 4, (some .int), [])
abbrev Y_J5_newCapacity_0f7a4 : Yd := (yJ5_newCapacity_0f7a4, cJ5_newCapacity_0f7a4, 6, (some .int), [])
abbrev Y_J7_copyOf_9075b : Yd := (yJ7_copyOf_9075b, cJ7_copyOf_9075b, 3, (some (.array .byte)), [])
abbrev Y_J5_ensureCapacityInternal_d00df : Yd := (yJ5_ensureCapacityInternal_d00df, cJ5_ensureCapacityInternal_d00df, 3, none, [])
abbrev Y_J5_isLatin1_aae02 : Yd := (yJ5_isLatin1_aae02, cJ5_isLatin1_aae02, 1, (some .boolean), [])
abbrev Y_J3_checkFromToIndex_8c36e : Yd := (yJ3_checkFromToIndex_8c36e, cJ3_checkFromToIndex_8c36e, 4, (some .int), [])
abbrev Y_J0_checkBoundsBeginEnd_23922 : Yd := (yJ0_checkBoundsBeginEnd_23922, cJ0_checkBoundsBeginEnd_23922, 3, none, [])
abbrev Y_J2_checkBoundsBeginEnd_d044e : Yd := (yJ2_checkBoundsBeginEnd_d044e, cJ2_checkBoundsBeginEnd_d044e, 3, none, [])
abbrev Y_J2_putCharsAt_cd4e5 : Yd := (yJ2_putCharsAt_cd4e5, cJ2_putCharsAt_cd4e5, 7, (some .int), [])
abbrev Y_J5_appendNull_278bc : Yd := (yJ5_appendNull_278bc, cJ5_appendNull_278bc, 3, (some (.object "java/lang/AbstractStringBuilder")), [])
abbrev Y_J2_inflate_0e8fd : Yd := (yJ2_inflate_0e8fd, cJ2_inflate_0e8fd, 6, none, [])
abbrev Y_J1_inflate_0e8fd : Yd := (yJ1_inflate_0e8fd, cJ1_inflate_0e8fd, 5, none, [])
abbrev Y_J5_inflate_da8c8 : Yd := (yJ5_inflate_da8c8, cJ5_inflate_da8c8, 2, none, [])
abbrev Y_J5_inflateIfNeededFor_a7421 : Yd := (yJ5_inflateIfNeededFor_a7421, cJ5_inflateIfNeededFor_a7421, 2, none, [])
abbrev Y_J0_getBytes_840e7 : Yd := (yJ0_getBytes_840e7, cJ0_getBytes_840e7, 4, none, [])
abbrev Y_J5_putStringAt_47b60 : Yd := (yJ5_putStringAt_47b60, cJ5_putStringAt_47b60, 3, none, [])
abbrev Y_J5_append_cf1ce : Yd := (yJ5_append_cf1ce, cJ5_append_cf1ce, 3, (some (.object "java/lang/AbstractStringBuilder")), [])
abbrev Y_J4_append_15ec4 : Yd := (yJ4_append_15ec4, cJ4_append_15ec4, 2, (some (.object "java/lang/StringBuilder")), [])
abbrev Y_J4_append_cf1ce : Yd := (yJ4_append_cf1ce, cJ4_append_cf1ce, 2, (some (.object "java/lang/AbstractStringBuilder")), [])
abbrev Y_J5_init_a7421 : Yd := (yJ5_init_a7421, cJ5_init_a7421, 5, none, [])
abbrev Y_J5_length_8abf5 : Yd := (yJ5_length_8abf5, cJ5_length_8abf5, 1, (some .int), [])
abbrev Y_J1_canEncode_fc78d : Yd := (yJ1_canEncode_fc78d, cJ1_canEncode_fc78d, 1, (some .boolean), [])
abbrev Y_J2_putCharSB_b72d1 : Yd := (yJ2_putCharSB_b72d1, cJ2_putCharSB_b72d1, 3, none, [])
abbrev Y_J5_append_3fe6f : Yd := (yJ5_append_3fe6f, cJ5_append_3fe6f, 2, (some (.object "java/lang/AbstractStringBuilder")), [])
abbrev Y_J6_stringSize_0f7a4 : Yd := (yJ6_stringSize_0f7a4, cJ6_stringSize_0f7a4, 4, (some .int), [])
abbrev Y_J6_getChars_ba4f3 : Yd := (yJ6_getChars_ba4f3, cJ6_getChars_ba4f3, 7, (some .int), [])
abbrev Y_J2_getChars_ba4f3 : Yd := (yJ2_getChars_ba4f3, cJ2_getChars_ba4f3, 7, (some .int), [])
abbrev Y_J2_getChars_46870 : Yd := (yJ2_getChars_46870, cJ2_getChars_46870, 5, (some .int), [])
abbrev Y_J5_append_c97b9 : Yd := (yJ5_append_c97b9, cJ5_append_c97b9, 4, (some (.object "java/lang/AbstractStringBuilder")), [])
abbrev Y_J5_getValue_6d5f1 : Yd := (yJ5_getValue_6d5f1, cJ5_getValue_6d5f1, 1, (some (.array .byte)), [])
abbrev Y_J9_max_7cf53 : Yd := (yJ9_max_7cf53, cJ9_max_7cf53, 2, (some .int), [])
abbrev Y_J9_min_7cf53 : Yd := (yJ9_min_7cf53, cJ9_min_7cf53, 2, (some .int), [])
abbrev Y_J4_length_8abf5 : Yd := (yJ4_length_8abf5, cJ4_length_8abf5, 1, (some .int), [])
abbrev Y_J7_checkLength_df160 : Yd := (yJ7_checkLength_df160, cJ7_checkLength_df160, 2, none, [])
abbrev Y_J7_copyOfRangeByte_39247 : Yd := (yJ7_copyOfRangeByte_39247, cJ7_copyOfRangeByte_39247, 5, (some (.array .byte)), [])
abbrev Y_J7_copyOfRange_39247 : Yd := (yJ7_copyOfRange_39247, cJ7_copyOfRange_39247, 3, (some (.array .byte)), [])
abbrev Y_J2_compress_39247 : Yd := (yJ2_compress_39247, cJ2_compress_39247, 6, (some (.array .byte)), [])
abbrev Y_J0_init_db425 : Yd := (yJ0_init_db425, cJ0_init_db425, 5, none, [])
abbrev Y_J0_init_81219 : Yd := (yJ0_init_81219, cJ0_init_81219, 2, none, [])
abbrev Y_J4_init_da8c8 : Yd := (yJ4_init_da8c8, cJ4_init_da8c8, 1, none, [])
abbrev Y_J4_init_a7421 : Yd := (yJ4_init_a7421, cJ4_init_a7421, 2, none, [])
abbrev Y_J4_append_cf468 : Yd := (yJ4_append_cf468, cJ4_append_cf468, 2, (some (.object "java/lang/StringBuilder")), [])
abbrev Y_J4_append_bf812 : Yd := (yJ4_append_bf812, cJ4_append_bf812, 2, (some (.object "java/lang/StringBuilder")), [])
abbrev Y_J4_toString_0e30d : Yd := (yJ4_toString_0e30d, cJ4_toString_0e30d, 1, (some (.object "java/lang/String")), [])
abbrev Y_L_next : Yd := (yL_next, cL_next, 1, (some .int), [])
abbrev Y_L_type : Yd := (yL_type, cL_type, 5, (some .int), [])
abbrev Y_L_diets : Yd := (yL_diets, cL_diets, 4, (some (.object "java/lang/String")), [])
abbrev Y_L_flight : Yd := (yL_flight, cL_flight, 3, (some (.object "java/lang/String")), [])
abbrev Y_L_sum : Yd := (yL_sum, cL_sum, 5, (some .long), [])
abbrev Y_L_trolleys : Yd := (yL_trolleys, cL_trolleys, 9, (some .boolean), [])
abbrev Y_L_order : Yd := (yL_order, cL_order, 8, (some .boolean), [])
abbrev Y_L_service : Yd := (yL_service, cL_service, 13, (some .boolean), [])
abbrev Y_L_act : Yd := (yL_act, cL_act, 4, (some .boolean), [])
def wl_0 : List (Nat × Cond) := [(0, Cond.selects RX10 yX10_freshOrder yX10_freshOrder), (0, Cond.selects RX6 yX6_divide yX6_divide), (0, Cond.selects RX6 yX6_greatestRemainder yX6_greatestRemainder), (1, Cond.selects RX10 yX10_requirePassenger yX10_requirePassenger), (0, Cond.selects RX10 yX10_freshService yX10_freshService), (0, Cond.selects RX4 yX4_begin yX4_begin), (0, Cond.selects RX4 yX4_matchOneMore yX4_matchOneMore), (0, Cond.selects RX4 yX4_reach yX4_reach), (0, Cond.selects RX4 yX4_moveAlong yX4_moveAlong), (0, Cond.selects RX4 yX4_findMover yX4_findMover), (0, Cond.selects RX4 yX4_canHave yX4_canHave), (0, Cond.selects RX4 yX4_giveBack yX4_giveBack), (0, Cond.selects RX8 yX8_give yX8_give), (0, Cond.selects RX8 yX8_servePlain yX8_servePlain), (0, Cond.selects RX8 yX8_mostLeft yX8_mostLeft), (0, Cond.selects RX8 yX8_addUpWaste yX8_addUpWaste), (0, Cond.selects RX10 yX10_requireFlight yX10_requireFlight), (0, Cond.selects RX10 yX10_refuse yX10_refuse), (0, Cond.selects RX10 yX10_beginAct yX10_beginAct), (0, Cond.selects RX10 yX10_requireSlot yX10_requireSlot)]
set_option maxRecDepth 50000 in
theorem wc_0 : chk wl_0 lw_tbl = true := by decide +kernel
theorem se_X10_freshOrder : Cond.selects RX10 yX10_freshOrder yX10_freshOrder ∈ lwa := chk_in wc_0 0 rfl
theorem se_X6_divide : Cond.selects RX6 yX6_divide yX6_divide ∈ lwa := chk_in wc_0 1 rfl
theorem se_X6_greatestRemainder : Cond.selects RX6 yX6_greatestRemainder yX6_greatestRemainder ∈ lwa := chk_in wc_0 2 rfl
theorem se_X10_requirePassenger : Cond.selects RX10 yX10_requirePassenger yX10_requirePassenger ∈ lwa := chk_in wc_0 3 rfl
theorem se_X10_freshService : Cond.selects RX10 yX10_freshService yX10_freshService ∈ lwa := chk_in wc_0 4 rfl
theorem se_X4_begin : Cond.selects RX4 yX4_begin yX4_begin ∈ lwa := chk_in wc_0 5 rfl
theorem se_X4_matchOneMore : Cond.selects RX4 yX4_matchOneMore yX4_matchOneMore ∈ lwa := chk_in wc_0 6 rfl
theorem se_X4_reach : Cond.selects RX4 yX4_reach yX4_reach ∈ lwa := chk_in wc_0 7 rfl
theorem se_X4_moveAlong : Cond.selects RX4 yX4_moveAlong yX4_moveAlong ∈ lwa := chk_in wc_0 8 rfl
theorem se_X4_findMover : Cond.selects RX4 yX4_findMover yX4_findMover ∈ lwa := chk_in wc_0 9 rfl
theorem se_X4_canHave : Cond.selects RX4 yX4_canHave yX4_canHave ∈ lwa := chk_in wc_0 10 rfl
theorem se_X4_giveBack : Cond.selects RX4 yX4_giveBack yX4_giveBack ∈ lwa := chk_in wc_0 11 rfl
theorem se_X8_give : Cond.selects RX8 yX8_give yX8_give ∈ lwa := chk_in wc_0 12 rfl
theorem se_X8_servePlain : Cond.selects RX8 yX8_servePlain yX8_servePlain ∈ lwa := chk_in wc_0 13 rfl
theorem se_X8_mostLeft : Cond.selects RX8 yX8_mostLeft yX8_mostLeft ∈ lwa := chk_in wc_0 14 rfl
theorem se_X8_addUpWaste : Cond.selects RX8 yX8_addUpWaste yX8_addUpWaste ∈ lwa := chk_in wc_0 15 rfl
theorem se_X10_requireFlight : Cond.selects RX10 yX10_requireFlight yX10_requireFlight ∈ lwa := chk_in wc_0 16 rfl
theorem se_X10_refuse : Cond.selects RX10 yX10_refuse yX10_refuse ∈ lwa := chk_in wc_0 17 rfl
theorem se_X10_beginAct : Cond.selects RX10 yX10_beginAct yX10_beginAct ∈ lwa := chk_in wc_0 18 rfl
theorem se_X10_requireSlot : Cond.selects RX10 yX10_requireSlot yX10_requireSlot ∈ lwa := chk_in wc_0 19 rfl
def wl_1 : List (Nat × Cond) := [(21, Cond.selects RX10 yX10_forgetPast yX10_forgetPast), (0, Cond.selects RX10 yX10_appendBytes yX10_appendBytes), (0, Cond.selects RX9 yX9_readNumber yX9_readNumber), (0, Cond.selects RX2 yX2_readStatement yX2_readStatement), (0, Cond.selects RX2 yX2_readTime yX2_readTime), (0, Cond.selects RX2 yX2_nextNumber yX2_nextNumber), (0, Cond.selects RX2 yX2_numberHere yX2_numberHere), (0, Cond.selects RX2 yX2_fail yX2_fail), (0, Cond.selects RX2 yX2_signHere yX2_signHere), (0, Cond.selects RX2 yX2_readLead yX2_readLead), (0, Cond.selects RX2 yX2_readCabin yX2_readCabin), (0, Cond.selects RX2 yX2_nameHere yX2_nameHere), (0, Cond.selects RX2 yX2_cabinHere yX2_cabinHere), (0, Cond.selects RX2 yX2_readMeal yX2_readMeal), (0, Cond.selects RX2 yX2_mealHere yX2_mealHere), (0, Cond.selects RX2 yX2_readPlace yX2_readPlace), (0, Cond.selects RX2 yX2_nextCabin yX2_nextCabin), (0, Cond.selects RX2 yX2_nextDiets yX2_nextDiets), (0, Cond.selects RX2 yX2_readTrolley yX2_readTrolley), (0, Cond.selects RX2 yX2_readGuests yX2_readGuests)]
set_option maxRecDepth 50000 in
theorem wc_1 : chk wl_1 lw_tbl = true := by decide +kernel
theorem se_X10_forgetPast : Cond.selects RX10 yX10_forgetPast yX10_forgetPast ∈ lwa := chk_in wc_1 0 rfl
theorem se_X10_appendBytes : Cond.selects RX10 yX10_appendBytes yX10_appendBytes ∈ lwa := chk_in wc_1 1 rfl
theorem se_X9_readNumber : Cond.selects RX9 yX9_readNumber yX9_readNumber ∈ lwa := chk_in wc_1 2 rfl
theorem se_X2_readStatement : Cond.selects RX2 yX2_readStatement yX2_readStatement ∈ lwa := chk_in wc_1 3 rfl
theorem se_X2_readTime : Cond.selects RX2 yX2_readTime yX2_readTime ∈ lwa := chk_in wc_1 4 rfl
theorem se_X2_nextNumber : Cond.selects RX2 yX2_nextNumber yX2_nextNumber ∈ lwa := chk_in wc_1 5 rfl
theorem se_X2_numberHere : Cond.selects RX2 yX2_numberHere yX2_numberHere ∈ lwa := chk_in wc_1 6 rfl
theorem se_X2_fail : Cond.selects RX2 yX2_fail yX2_fail ∈ lwa := chk_in wc_1 7 rfl
theorem se_X2_signHere : Cond.selects RX2 yX2_signHere yX2_signHere ∈ lwa := chk_in wc_1 8 rfl
theorem se_X2_readLead : Cond.selects RX2 yX2_readLead yX2_readLead ∈ lwa := chk_in wc_1 9 rfl
theorem se_X2_readCabin : Cond.selects RX2 yX2_readCabin yX2_readCabin ∈ lwa := chk_in wc_1 10 rfl
theorem se_X2_nameHere : Cond.selects RX2 yX2_nameHere yX2_nameHere ∈ lwa := chk_in wc_1 11 rfl
theorem se_X2_cabinHere : Cond.selects RX2 yX2_cabinHere yX2_cabinHere ∈ lwa := chk_in wc_1 12 rfl
theorem se_X2_readMeal : Cond.selects RX2 yX2_readMeal yX2_readMeal ∈ lwa := chk_in wc_1 13 rfl
theorem se_X2_mealHere : Cond.selects RX2 yX2_mealHere yX2_mealHere ∈ lwa := chk_in wc_1 14 rfl
theorem se_X2_readPlace : Cond.selects RX2 yX2_readPlace yX2_readPlace ∈ lwa := chk_in wc_1 15 rfl
theorem se_X2_nextCabin : Cond.selects RX2 yX2_nextCabin yX2_nextCabin ∈ lwa := chk_in wc_1 16 rfl
theorem se_X2_nextDiets : Cond.selects RX2 yX2_nextDiets yX2_nextDiets ∈ lwa := chk_in wc_1 17 rfl
theorem se_X2_readTrolley : Cond.selects RX2 yX2_readTrolley yX2_readTrolley ∈ lwa := chk_in wc_1 18 rfl
theorem se_X2_readGuests : Cond.selects RX2 yX2_readGuests yX2_readGuests ∈ lwa := chk_in wc_1 19 rfl
def wl_2 : List (Nat × Cond) := [(41, Cond.selects RX2 yX2_readGuest yX2_readGuest), (0, Cond.selects RX2 yX2_nextWish yX2_nextWish), (0, Cond.selects RX10 yX10_requireCabin yX10_requireCabin), (0, Cond.selects RX10 yX10_requireMeal yX10_requireMeal), (0, Cond.selects RX10 yX10_requireTrolley yX10_requireTrolley), (0, Cond.selects RX10 yX10_requireNeeds yX10_requireNeeds), (0, Cond.selects RX10 yX10_requireSeat yX10_requireSeat), (0, Cond.selects RX10 yX10_requireOpen yX10_requireOpen), (0, Cond.selects RX10 yX10_requireUnits yX10_requireUnits), (0, Cond.initialized RL), (0, Cond.initialized RX10), (0, Cond.initialized RX7), (0, Cond.initialized RX0), (0, Cond.initialized RX5), (0, Cond.initialized RX1), (0, Cond.initialized RX2), (0, Cond.initialized RX9), (0, Cond.initialized RX3), (0, Cond.initialized RX6), (0, Cond.initialized RX4)]
set_option maxRecDepth 50000 in
theorem wc_2 : chk wl_2 lw_tbl = true := by decide +kernel
theorem se_X2_readGuest : Cond.selects RX2 yX2_readGuest yX2_readGuest ∈ lwa := chk_in wc_2 0 rfl
theorem se_X2_nextWish : Cond.selects RX2 yX2_nextWish yX2_nextWish ∈ lwa := chk_in wc_2 1 rfl
theorem se_X10_requireCabin : Cond.selects RX10 yX10_requireCabin yX10_requireCabin ∈ lwa := chk_in wc_2 2 rfl
theorem se_X10_requireMeal : Cond.selects RX10 yX10_requireMeal yX10_requireMeal ∈ lwa := chk_in wc_2 3 rfl
theorem se_X10_requireTrolley : Cond.selects RX10 yX10_requireTrolley yX10_requireTrolley ∈ lwa := chk_in wc_2 4 rfl
theorem se_X10_requireNeeds : Cond.selects RX10 yX10_requireNeeds yX10_requireNeeds ∈ lwa := chk_in wc_2 5 rfl
theorem se_X10_requireSeat : Cond.selects RX10 yX10_requireSeat yX10_requireSeat ∈ lwa := chk_in wc_2 6 rfl
theorem se_X10_requireOpen : Cond.selects RX10 yX10_requireOpen yX10_requireOpen ∈ lwa := chk_in wc_2 7 rfl
theorem se_X10_requireUnits : Cond.selects RX10 yX10_requireUnits yX10_requireUnits ∈ lwa := chk_in wc_2 8 rfl
theorem ini_RL : Cond.initialized RL ∈ lwa := chk_in wc_2 9 rfl
theorem ini_RX10 : Cond.initialized RX10 ∈ lwa := chk_in wc_2 10 rfl
theorem ini_RX7 : Cond.initialized RX7 ∈ lwa := chk_in wc_2 11 rfl
theorem ini_RX0 : Cond.initialized RX0 ∈ lwa := chk_in wc_2 12 rfl
theorem ini_RX5 : Cond.initialized RX5 ∈ lwa := chk_in wc_2 13 rfl
theorem ini_RX1 : Cond.initialized RX1 ∈ lwa := chk_in wc_2 14 rfl
theorem ini_RX2 : Cond.initialized RX2 ∈ lwa := chk_in wc_2 15 rfl
theorem ini_RX9 : Cond.initialized RX9 ∈ lwa := chk_in wc_2 16 rfl
theorem ini_RX3 : Cond.initialized RX3 ∈ lwa := chk_in wc_2 17 rfl
theorem ini_RX6 : Cond.initialized RX6 ∈ lwa := chk_in wc_2 18 rfl
theorem ini_RX4 : Cond.initialized RX4 ∈ lwa := chk_in wc_2 19 rfl
def wl_3 : List (Nat × Cond) := [(61, Cond.initialized RX8), (4, Cond.initialized RJ5), (0, Cond.initialized RJ4), (0, Cond.initialized RJ0), (0, Cond.initialized RJ2), (0, Cond.initialized RJ8), (0, Cond.initialized RJ9), (0, Cond.initialized RJ7), (1, Cond.initialized RJ3), (0, Cond.initialized RJ1), (1, Cond.initialized RJ6), (5, Cond.methodLink RL 171 yX10_init), (0, Cond.instanceMethod yX10_init), (0, Cond.code yX10_init cX10_init 3 none), (5, Cond.methodLink RX10 22 yX7_init), (0, Cond.instanceMethod yX7_init), (0, Cond.code yX7_init cX7_init 2 none), (5, Cond.instanceMethod yX0_init), (0, Cond.code yX0_init cX0_init 1 none), (2, Cond.fieldLink RX0 9 RX0 (TX0 0).2.1 (TX0 0).2.2.1)]
set_option maxRecDepth 50000 in
theorem wc_3 : chk wl_3 lw_tbl = true := by decide +kernel
theorem ini_RX8 : Cond.initialized RX8 ∈ lwa := chk_in wc_3 0 rfl
theorem ini_RJ5 : Cond.initialized RJ5 ∈ lwa := chk_in wc_3 1 rfl
theorem ini_RJ4 : Cond.initialized RJ4 ∈ lwa := chk_in wc_3 2 rfl
theorem ini_RJ0 : Cond.initialized RJ0 ∈ lwa := chk_in wc_3 3 rfl
theorem ini_RJ2 : Cond.initialized RJ2 ∈ lwa := chk_in wc_3 4 rfl
theorem ini_RJ8 : Cond.initialized RJ8 ∈ lwa := chk_in wc_3 5 rfl
theorem ini_RJ9 : Cond.initialized RJ9 ∈ lwa := chk_in wc_3 6 rfl
theorem ini_RJ7 : Cond.initialized RJ7 ∈ lwa := chk_in wc_3 7 rfl
theorem ini_RJ3 : Cond.initialized RJ3 ∈ lwa := chk_in wc_3 8 rfl
theorem ini_RJ1 : Cond.initialized RJ1 ∈ lwa := chk_in wc_3 9 rfl
theorem ini_RJ6 : Cond.initialized RJ6 ∈ lwa := chk_in wc_3 10 rfl
theorem ml_L_171 : Cond.methodLink RL 171 yX10_init ∈ lwa := chk_in wc_3 11 rfl
theorem im_X10_init : Cond.instanceMethod yX10_init ∈ lwa := chk_in wc_3 12 rfl
theorem cd_X10_init : Cond.code yX10_init cX10_init 3 none ∈ lwa := chk_in wc_3 13 rfl
theorem ml_X10_22 : Cond.methodLink RX10 22 yX7_init ∈ lwa := chk_in wc_3 14 rfl
theorem im_X7_init : Cond.instanceMethod yX7_init ∈ lwa := chk_in wc_3 15 rfl
theorem cd_X7_init : Cond.code yX7_init cX7_init 2 none ∈ lwa := chk_in wc_3 16 rfl
theorem im_X0_init : Cond.instanceMethod yX0_init ∈ lwa := chk_in wc_3 17 rfl
theorem cd_X0_init : Cond.code yX0_init cX0_init 1 none ∈ lwa := chk_in wc_3 18 rfl
theorem fl_X0_9 : Cond.fieldLink RX0 9 RX0 (TX0 0).2.1 (TX0 0).2.2.1 ∈ lwa := chk_in wc_3 19 rfl
def wl_4 : List (Nat × Cond) := [(104, Cond.fieldLink RX2 135 RX0 (TX0 0).2.1 (TX0 0).2.2.1), (0, Cond.fieldLink RX2 141 RX0 (TX0 1).2.1 (TX0 1).2.2.1), (0, Cond.fieldLink RX1 85 RX0 (TX0 1).2.1 (TX0 1).2.2.1), (0, Cond.fieldLink RX10 182 RX0 (TX0 1).2.1 (TX0 1).2.2.1), (0, Cond.fieldLink RX6 56 RX0 (TX0 2).2.1 (TX0 2).2.2.1), (0, Cond.fieldLink RX2 144 RX0 (TX0 2).2.1 (TX0 2).2.2.1), (0, Cond.fieldLink RX10 187 RX0 (TX0 2).2.1 (TX0 2).2.2.1), (0, u_lay RX0 TX0 0), (1, u_lay RX0 TX0 1), (1, u_lay RX0 TX0 2), (7, Cond.instanceMethod yX5_init), (0, Cond.code yX5_init cX5_init 1 none), (2, Cond.fieldLink RX5 9 RX5 (TX5 0).2.1 (TX5 0).2.2.1), (0, Cond.fieldLink RX2 159 RX5 (TX5 0).2.1 (TX5 0).2.2.1), (0, Cond.fieldLink RX7 55 RX5 (TX5 1).2.1 (TX5 1).2.2.1), (0, Cond.fieldLink RX6 72 RX5 (TX5 1).2.1 (TX5 1).2.2.1), (0, Cond.fieldLink RX8 84 RX5 (TX5 1).2.1 (TX5 1).2.2.1), (0, Cond.fieldLink RX2 179 RX5 (TX5 1).2.1 (TX5 1).2.2.1), (0, Cond.fieldLink RX10 219 RX5 (TX5 1).2.1 (TX5 1).2.2.1), (0, Cond.fieldLink RX6 76 RX5 (TX5 2).2.1 (TX5 2).2.2.1)]
set_option maxRecDepth 50000 in
theorem wc_4 : chk wl_4 lw_tbl = true := by decide +kernel
theorem fl_X2_135 : Cond.fieldLink RX2 135 RX0 (TX0 0).2.1 (TX0 0).2.2.1 ∈ lwa := chk_in wc_4 0 rfl
theorem fl_X2_141 : Cond.fieldLink RX2 141 RX0 (TX0 1).2.1 (TX0 1).2.2.1 ∈ lwa := chk_in wc_4 1 rfl
theorem fl_X1_85 : Cond.fieldLink RX1 85 RX0 (TX0 1).2.1 (TX0 1).2.2.1 ∈ lwa := chk_in wc_4 2 rfl
theorem fl_X10_182 : Cond.fieldLink RX10 182 RX0 (TX0 1).2.1 (TX0 1).2.2.1 ∈ lwa := chk_in wc_4 3 rfl
theorem fl_X6_56 : Cond.fieldLink RX6 56 RX0 (TX0 2).2.1 (TX0 2).2.2.1 ∈ lwa := chk_in wc_4 4 rfl
theorem fl_X2_144 : Cond.fieldLink RX2 144 RX0 (TX0 2).2.1 (TX0 2).2.2.1 ∈ lwa := chk_in wc_4 5 rfl
theorem fl_X10_187 : Cond.fieldLink RX10 187 RX0 (TX0 2).2.1 (TX0 2).2.2.1 ∈ lwa := chk_in wc_4 6 rfl
theorem ul_X0_0 : u_lay RX0 TX0 0 ∈ lwa := chk_in wc_4 7 rfl
theorem ul_X0_1 : u_lay RX0 TX0 1 ∈ lwa := chk_in wc_4 8 rfl
theorem ul_X0_2 : u_lay RX0 TX0 2 ∈ lwa := chk_in wc_4 9 rfl
theorem im_X5_init : Cond.instanceMethod yX5_init ∈ lwa := chk_in wc_4 10 rfl
theorem cd_X5_init : Cond.code yX5_init cX5_init 1 none ∈ lwa := chk_in wc_4 11 rfl
theorem fl_X5_9 : Cond.fieldLink RX5 9 RX5 (TX5 0).2.1 (TX5 0).2.2.1 ∈ lwa := chk_in wc_4 12 rfl
theorem fl_X2_159 : Cond.fieldLink RX2 159 RX5 (TX5 0).2.1 (TX5 0).2.2.1 ∈ lwa := chk_in wc_4 13 rfl
theorem fl_X7_55 : Cond.fieldLink RX7 55 RX5 (TX5 1).2.1 (TX5 1).2.2.1 ∈ lwa := chk_in wc_4 14 rfl
theorem fl_X6_72 : Cond.fieldLink RX6 72 RX5 (TX5 1).2.1 (TX5 1).2.2.1 ∈ lwa := chk_in wc_4 15 rfl
theorem fl_X8_84 : Cond.fieldLink RX8 84 RX5 (TX5 1).2.1 (TX5 1).2.2.1 ∈ lwa := chk_in wc_4 16 rfl
theorem fl_X2_179 : Cond.fieldLink RX2 179 RX5 (TX5 1).2.1 (TX5 1).2.2.1 ∈ lwa := chk_in wc_4 17 rfl
theorem fl_X10_219 : Cond.fieldLink RX10 219 RX5 (TX5 1).2.1 (TX5 1).2.2.1 ∈ lwa := chk_in wc_4 18 rfl
theorem fl_X6_76 : Cond.fieldLink RX6 76 RX5 (TX5 2).2.1 (TX5 2).2.2.1 ∈ lwa := chk_in wc_4 19 rfl
def wl_5 : List (Nat × Cond) := [(135, Cond.fieldLink RX2 181 RX5 (TX5 2).2.1 (TX5 2).2.2.1), (0, Cond.fieldLink RX10 223 RX5 (TX5 2).2.1 (TX5 2).2.2.1), (0, Cond.fieldLink RX6 82 RX5 (TX5 3).2.1 (TX5 3).2.2.1), (0, Cond.fieldLink RX2 166 RX5 (TX5 3).2.1 (TX5 3).2.2.1), (0, Cond.fieldLink RX10 226 RX5 (TX5 3).2.1 (TX5 3).2.2.1), (0, Cond.fieldLink RX1 113 RX5 (TX5 3).2.1 (TX5 3).2.2.1), (0, Cond.fieldLink RX8 95 RX5 (TX5 4).2.1 (TX5 4).2.2.1), (0, Cond.fieldLink RX7 64 RX5 (TX5 4).2.1 (TX5 4).2.2.1), (0, Cond.fieldLink RX2 169 RX5 (TX5 4).2.1 (TX5 4).2.2.1), (0, Cond.fieldLink RX10 227 RX5 (TX5 4).2.1 (TX5 4).2.2.1), (0, Cond.fieldLink RX7 61 RX5 (TX5 5).2.1 (TX5 5).2.2.1), (0, Cond.fieldLink RX2 172 RX5 (TX5 5).2.1 (TX5 5).2.2.1), (0, Cond.fieldLink RX10 230 RX5 (TX5 5).2.1 (TX5 5).2.2.1), (0, u_lay RX5 TX5 0), (1, u_lay RX5 TX5 1), (1, u_lay RX5 TX5 2), (1, u_lay RX5 TX5 3), (1, u_lay RX5 TX5 4), (1, u_lay RX5 TX5 5), (2, Cond.fieldLink RX7 32 RX7 (TX7 0).2.1 (TX7 0).2.2.1)]
set_option maxRecDepth 50000 in
theorem wc_5 : chk wl_5 lw_tbl = true := by decide +kernel
theorem fl_X2_181 : Cond.fieldLink RX2 181 RX5 (TX5 2).2.1 (TX5 2).2.2.1 ∈ lwa := chk_in wc_5 0 rfl
theorem fl_X10_223 : Cond.fieldLink RX10 223 RX5 (TX5 2).2.1 (TX5 2).2.2.1 ∈ lwa := chk_in wc_5 1 rfl
theorem fl_X6_82 : Cond.fieldLink RX6 82 RX5 (TX5 3).2.1 (TX5 3).2.2.1 ∈ lwa := chk_in wc_5 2 rfl
theorem fl_X2_166 : Cond.fieldLink RX2 166 RX5 (TX5 3).2.1 (TX5 3).2.2.1 ∈ lwa := chk_in wc_5 3 rfl
theorem fl_X10_226 : Cond.fieldLink RX10 226 RX5 (TX5 3).2.1 (TX5 3).2.2.1 ∈ lwa := chk_in wc_5 4 rfl
theorem fl_X1_113 : Cond.fieldLink RX1 113 RX5 (TX5 3).2.1 (TX5 3).2.2.1 ∈ lwa := chk_in wc_5 5 rfl
theorem fl_X8_95 : Cond.fieldLink RX8 95 RX5 (TX5 4).2.1 (TX5 4).2.2.1 ∈ lwa := chk_in wc_5 6 rfl
theorem fl_X7_64 : Cond.fieldLink RX7 64 RX5 (TX5 4).2.1 (TX5 4).2.2.1 ∈ lwa := chk_in wc_5 7 rfl
theorem fl_X2_169 : Cond.fieldLink RX2 169 RX5 (TX5 4).2.1 (TX5 4).2.2.1 ∈ lwa := chk_in wc_5 8 rfl
theorem fl_X10_227 : Cond.fieldLink RX10 227 RX5 (TX5 4).2.1 (TX5 4).2.2.1 ∈ lwa := chk_in wc_5 9 rfl
theorem fl_X7_61 : Cond.fieldLink RX7 61 RX5 (TX5 5).2.1 (TX5 5).2.2.1 ∈ lwa := chk_in wc_5 10 rfl
theorem fl_X2_172 : Cond.fieldLink RX2 172 RX5 (TX5 5).2.1 (TX5 5).2.2.1 ∈ lwa := chk_in wc_5 11 rfl
theorem fl_X10_230 : Cond.fieldLink RX10 230 RX5 (TX5 5).2.1 (TX5 5).2.2.1 ∈ lwa := chk_in wc_5 12 rfl
theorem ul_X5_0 : u_lay RX5 TX5 0 ∈ lwa := chk_in wc_5 13 rfl
theorem ul_X5_1 : u_lay RX5 TX5 1 ∈ lwa := chk_in wc_5 14 rfl
theorem ul_X5_2 : u_lay RX5 TX5 2 ∈ lwa := chk_in wc_5 15 rfl
theorem ul_X5_3 : u_lay RX5 TX5 3 ∈ lwa := chk_in wc_5 16 rfl
theorem ul_X5_4 : u_lay RX5 TX5 4 ∈ lwa := chk_in wc_5 17 rfl
theorem ul_X5_5 : u_lay RX5 TX5 5 ∈ lwa := chk_in wc_5 18 rfl
theorem fl_X7_32 : Cond.fieldLink RX7 32 RX7 (TX7 0).2.1 (TX7 0).2.2.1 ∈ lwa := chk_in wc_5 19 rfl
def wl_6 : List (Nat × Cond) := [(162, Cond.fieldLink RX1 73 RX7 (TX7 0).2.1 (TX7 0).2.2.1), (0, Cond.fieldLink RX7 36 RX7 (TX7 1).2.1 (TX7 1).2.2.1), (0, Cond.fieldLink RX6 41 RX7 (TX7 1).2.1 (TX7 1).2.2.1), (0, Cond.fieldLink RX2 118 RX7 (TX7 1).2.1 (TX7 1).2.2.1), (0, Cond.fieldLink RX10 139 RX7 (TX7 1).2.1 (TX7 1).2.2.1), (0, Cond.fieldLink RX7 11 RX7 (TX7 2).2.1 (TX7 2).2.2.1), (0, Cond.fieldLink RX6 52 RX7 (TX7 2).2.1 (TX7 2).2.2.1), (0, Cond.fieldLink RX2 128 RX7 (TX7 2).2.1 (TX7 2).2.2.1), (0, Cond.fieldLink RX1 81 RX7 (TX7 2).2.1 (TX7 2).2.2.1), (0, Cond.fieldLink RX10 178 RX7 (TX7 2).2.1 (TX7 2).2.2.1), (0, Cond.fieldLink RX7 40 RX7 (TX7 3).2.1 (TX7 3).2.2.1), (0, Cond.fieldLink RX4 43 RX7 (TX7 3).2.1 (TX7 3).2.2.1), (0, Cond.fieldLink RX8 40 RX7 (TX7 3).2.1 (TX7 3).2.2.1), (0, Cond.fieldLink RX6 65 RX7 (TX7 3).2.1 (TX7 3).2.2.1), (0, Cond.fieldLink RX2 150 RX7 (TX7 3).2.1 (TX7 3).2.2.1), (0, Cond.fieldLink RX10 142 RX7 (TX7 3).2.1 (TX7 3).2.2.1), (0, Cond.fieldLink RX1 106 RX7 (TX7 3).2.1 (TX7 3).2.2.1), (0, Cond.fieldLink RX7 20 RX7 (TX7 4).2.1 (TX7 4).2.2.1), (0, Cond.fieldLink RX6 68 RX7 (TX7 4).2.1 (TX7 4).2.2.1), (0, Cond.fieldLink RX8 80 RX7 (TX7 4).2.1 (TX7 4).2.2.1)]
set_option maxRecDepth 50000 in
theorem wc_6 : chk wl_6 lw_tbl = true := by decide +kernel
theorem fl_X1_73 : Cond.fieldLink RX1 73 RX7 (TX7 0).2.1 (TX7 0).2.2.1 ∈ lwa := chk_in wc_6 0 rfl
theorem fl_X7_36 : Cond.fieldLink RX7 36 RX7 (TX7 1).2.1 (TX7 1).2.2.1 ∈ lwa := chk_in wc_6 1 rfl
theorem fl_X6_41 : Cond.fieldLink RX6 41 RX7 (TX7 1).2.1 (TX7 1).2.2.1 ∈ lwa := chk_in wc_6 2 rfl
theorem fl_X2_118 : Cond.fieldLink RX2 118 RX7 (TX7 1).2.1 (TX7 1).2.2.1 ∈ lwa := chk_in wc_6 3 rfl
theorem fl_X10_139 : Cond.fieldLink RX10 139 RX7 (TX7 1).2.1 (TX7 1).2.2.1 ∈ lwa := chk_in wc_6 4 rfl
theorem fl_X7_11 : Cond.fieldLink RX7 11 RX7 (TX7 2).2.1 (TX7 2).2.2.1 ∈ lwa := chk_in wc_6 5 rfl
theorem fl_X6_52 : Cond.fieldLink RX6 52 RX7 (TX7 2).2.1 (TX7 2).2.2.1 ∈ lwa := chk_in wc_6 6 rfl
theorem fl_X2_128 : Cond.fieldLink RX2 128 RX7 (TX7 2).2.1 (TX7 2).2.2.1 ∈ lwa := chk_in wc_6 7 rfl
theorem fl_X1_81 : Cond.fieldLink RX1 81 RX7 (TX7 2).2.1 (TX7 2).2.2.1 ∈ lwa := chk_in wc_6 8 rfl
theorem fl_X10_178 : Cond.fieldLink RX10 178 RX7 (TX7 2).2.1 (TX7 2).2.2.1 ∈ lwa := chk_in wc_6 9 rfl
theorem fl_X7_40 : Cond.fieldLink RX7 40 RX7 (TX7 3).2.1 (TX7 3).2.2.1 ∈ lwa := chk_in wc_6 10 rfl
theorem fl_X4_43 : Cond.fieldLink RX4 43 RX7 (TX7 3).2.1 (TX7 3).2.2.1 ∈ lwa := chk_in wc_6 11 rfl
theorem fl_X8_40 : Cond.fieldLink RX8 40 RX7 (TX7 3).2.1 (TX7 3).2.2.1 ∈ lwa := chk_in wc_6 12 rfl
theorem fl_X6_65 : Cond.fieldLink RX6 65 RX7 (TX7 3).2.1 (TX7 3).2.2.1 ∈ lwa := chk_in wc_6 13 rfl
theorem fl_X2_150 : Cond.fieldLink RX2 150 RX7 (TX7 3).2.1 (TX7 3).2.2.1 ∈ lwa := chk_in wc_6 14 rfl
theorem fl_X10_142 : Cond.fieldLink RX10 142 RX7 (TX7 3).2.1 (TX7 3).2.2.1 ∈ lwa := chk_in wc_6 15 rfl
theorem fl_X1_106 : Cond.fieldLink RX1 106 RX7 (TX7 3).2.1 (TX7 3).2.2.1 ∈ lwa := chk_in wc_6 16 rfl
theorem fl_X7_20 : Cond.fieldLink RX7 20 RX7 (TX7 4).2.1 (TX7 4).2.2.1 ∈ lwa := chk_in wc_6 17 rfl
theorem fl_X6_68 : Cond.fieldLink RX6 68 RX7 (TX7 4).2.1 (TX7 4).2.2.1 ∈ lwa := chk_in wc_6 18 rfl
theorem fl_X8_80 : Cond.fieldLink RX8 80 RX7 (TX7 4).2.1 (TX7 4).2.2.1 ∈ lwa := chk_in wc_6 19 rfl
def wl_7 : List (Nat × Cond) := [(182, Cond.fieldLink RX2 156 RX7 (TX7 4).2.1 (TX7 4).2.2.1), (0, Cond.fieldLink RX10 215 RX7 (TX7 4).2.1 (TX7 4).2.2.1), (0, Cond.fieldLink RX1 109 RX7 (TX7 4).2.1 (TX7 4).2.2.1), (0, Cond.fieldLink RX7 43 RX7 (TX7 5).2.1 (TX7 5).2.2.1), (0, Cond.fieldLink RX10 145 RX7 (TX7 5).2.1 (TX7 5).2.2.1), (0, Cond.fieldLink RX2 191 RX7 (TX7 5).2.1 (TX7 5).2.2.1), (0, Cond.fieldLink RX1 118 RX7 (TX7 5).2.1 (TX7 5).2.2.1), (0, Cond.fieldLink RX7 25 RX7 (TX7 6).2.1 (TX7 6).2.2.1), (0, Cond.fieldLink RX2 194 RX7 (TX7 6).2.1 (TX7 6).2.2.1), (0, Cond.fieldLink RX10 282 RX7 (TX7 6).2.1 (TX7 6).2.2.1), (0, Cond.fieldLink RX1 121 RX7 (TX7 6).2.1 (TX7 6).2.2.1), (0, Cond.fieldLink RX7 29 RX7 (TX7 7).2.1 (TX7 7).2.2.1), (0, Cond.fieldLink RX2 198 RX7 (TX7 7).2.1 (TX7 7).2.2.1), (0, Cond.fieldLink RX10 285 RX7 (TX7 7).2.1 (TX7 7).2.2.1), (0, Cond.fieldLink RX1 103 RX7 (TX7 7).2.1 (TX7 7).2.2.1), (0, Cond.fieldLink RX7 46 RX7 (TX7 8).2.1 (TX7 8).2.2.1), (0, Cond.fieldLink RX2 57 RX7 (TX7 8).2.1 (TX7 8).2.2.1), (0, Cond.fieldLink RX7 49 RX7 (TX7 9).2.1 (TX7 9).2.2.1), (0, Cond.fieldLink RX2 110 RX7 (TX7 9).2.1 (TX7 9).2.2.1), (0, Cond.fieldLink RX1 78 RX7 (TX7 9).2.1 (TX7 9).2.2.1)]
set_option maxRecDepth 50000 in
theorem wc_7 : chk wl_7 lw_tbl = true := by decide +kernel
theorem fl_X2_156 : Cond.fieldLink RX2 156 RX7 (TX7 4).2.1 (TX7 4).2.2.1 ∈ lwa := chk_in wc_7 0 rfl
theorem fl_X10_215 : Cond.fieldLink RX10 215 RX7 (TX7 4).2.1 (TX7 4).2.2.1 ∈ lwa := chk_in wc_7 1 rfl
theorem fl_X1_109 : Cond.fieldLink RX1 109 RX7 (TX7 4).2.1 (TX7 4).2.2.1 ∈ lwa := chk_in wc_7 2 rfl
theorem fl_X7_43 : Cond.fieldLink RX7 43 RX7 (TX7 5).2.1 (TX7 5).2.2.1 ∈ lwa := chk_in wc_7 3 rfl
theorem fl_X10_145 : Cond.fieldLink RX10 145 RX7 (TX7 5).2.1 (TX7 5).2.2.1 ∈ lwa := chk_in wc_7 4 rfl
theorem fl_X2_191 : Cond.fieldLink RX2 191 RX7 (TX7 5).2.1 (TX7 5).2.2.1 ∈ lwa := chk_in wc_7 5 rfl
theorem fl_X1_118 : Cond.fieldLink RX1 118 RX7 (TX7 5).2.1 (TX7 5).2.2.1 ∈ lwa := chk_in wc_7 6 rfl
theorem fl_X7_25 : Cond.fieldLink RX7 25 RX7 (TX7 6).2.1 (TX7 6).2.2.1 ∈ lwa := chk_in wc_7 7 rfl
theorem fl_X2_194 : Cond.fieldLink RX2 194 RX7 (TX7 6).2.1 (TX7 6).2.2.1 ∈ lwa := chk_in wc_7 8 rfl
theorem fl_X10_282 : Cond.fieldLink RX10 282 RX7 (TX7 6).2.1 (TX7 6).2.2.1 ∈ lwa := chk_in wc_7 9 rfl
theorem fl_X1_121 : Cond.fieldLink RX1 121 RX7 (TX7 6).2.1 (TX7 6).2.2.1 ∈ lwa := chk_in wc_7 10 rfl
theorem fl_X7_29 : Cond.fieldLink RX7 29 RX7 (TX7 7).2.1 (TX7 7).2.2.1 ∈ lwa := chk_in wc_7 11 rfl
theorem fl_X2_198 : Cond.fieldLink RX2 198 RX7 (TX7 7).2.1 (TX7 7).2.2.1 ∈ lwa := chk_in wc_7 12 rfl
theorem fl_X10_285 : Cond.fieldLink RX10 285 RX7 (TX7 7).2.1 (TX7 7).2.2.1 ∈ lwa := chk_in wc_7 13 rfl
theorem fl_X1_103 : Cond.fieldLink RX1 103 RX7 (TX7 7).2.1 (TX7 7).2.2.1 ∈ lwa := chk_in wc_7 14 rfl
theorem fl_X7_46 : Cond.fieldLink RX7 46 RX7 (TX7 8).2.1 (TX7 8).2.2.1 ∈ lwa := chk_in wc_7 15 rfl
theorem fl_X2_57 : Cond.fieldLink RX2 57 RX7 (TX7 8).2.1 (TX7 8).2.2.1 ∈ lwa := chk_in wc_7 16 rfl
theorem fl_X7_49 : Cond.fieldLink RX7 49 RX7 (TX7 9).2.1 (TX7 9).2.2.1 ∈ lwa := chk_in wc_7 17 rfl
theorem fl_X2_110 : Cond.fieldLink RX2 110 RX7 (TX7 9).2.1 (TX7 9).2.2.1 ∈ lwa := chk_in wc_7 18 rfl
theorem fl_X1_78 : Cond.fieldLink RX1 78 RX7 (TX7 9).2.1 (TX7 9).2.2.1 ∈ lwa := chk_in wc_7 19 rfl
def wl_8 : List (Nat × Cond) := [(202, Cond.fieldLink RX10 167 RX7 (TX7 9).2.1 (TX7 9).2.2.1), (0, Cond.fieldLink RX7 52 RX7 (TX7 10).2.1 (TX7 10).2.2.1), (0, Cond.fieldLink RX2 116 RX7 (TX7 10).2.1 (TX7 10).2.2.1), (0, Cond.fieldLink RX10 170 RX7 (TX7 10).2.1 (TX7 10).2.2.1), (0, Cond.fieldLink RX1 148 RX7 (TX7 10).2.1 (TX7 10).2.2.1), (0, u_lay RX7 TX7 0), (1, u_lay RX7 TX7 1), (1, u_lay RX7 TX7 2), (1, u_lay RX7 TX7 3), (1, u_lay RX7 TX7 4), (1, u_lay RX7 TX7 5), (1, u_lay RX7 TX7 6), (1, u_lay RX7 TX7 7), (1, u_lay RX7 TX7 8), (1, u_lay RX7 TX7 9), (1, u_lay RX7 TX7 10), (5, Cond.methodLink RX10 25 yX1_init), (0, Cond.instanceMethod yX1_init), (0, Cond.code yX1_init cX1_init 2 none), (3, Cond.fieldLink RX1 9 RX1 (TX1 0).2.1 (TX1 0).2.2.1)]
set_option maxRecDepth 50000 in
theorem wc_8 : chk wl_8 lw_tbl = true := by decide +kernel
theorem fl_X10_167 : Cond.fieldLink RX10 167 RX7 (TX7 9).2.1 (TX7 9).2.2.1 ∈ lwa := chk_in wc_8 0 rfl
theorem fl_X7_52 : Cond.fieldLink RX7 52 RX7 (TX7 10).2.1 (TX7 10).2.2.1 ∈ lwa := chk_in wc_8 1 rfl
theorem fl_X2_116 : Cond.fieldLink RX2 116 RX7 (TX7 10).2.1 (TX7 10).2.2.1 ∈ lwa := chk_in wc_8 2 rfl
theorem fl_X10_170 : Cond.fieldLink RX10 170 RX7 (TX7 10).2.1 (TX7 10).2.2.1 ∈ lwa := chk_in wc_8 3 rfl
theorem fl_X1_148 : Cond.fieldLink RX1 148 RX7 (TX7 10).2.1 (TX7 10).2.2.1 ∈ lwa := chk_in wc_8 4 rfl
theorem ul_X7_0 : u_lay RX7 TX7 0 ∈ lwa := chk_in wc_8 5 rfl
theorem ul_X7_1 : u_lay RX7 TX7 1 ∈ lwa := chk_in wc_8 6 rfl
theorem ul_X7_2 : u_lay RX7 TX7 2 ∈ lwa := chk_in wc_8 7 rfl
theorem ul_X7_3 : u_lay RX7 TX7 3 ∈ lwa := chk_in wc_8 8 rfl
theorem ul_X7_4 : u_lay RX7 TX7 4 ∈ lwa := chk_in wc_8 9 rfl
theorem ul_X7_5 : u_lay RX7 TX7 5 ∈ lwa := chk_in wc_8 10 rfl
theorem ul_X7_6 : u_lay RX7 TX7 6 ∈ lwa := chk_in wc_8 11 rfl
theorem ul_X7_7 : u_lay RX7 TX7 7 ∈ lwa := chk_in wc_8 12 rfl
theorem ul_X7_8 : u_lay RX7 TX7 8 ∈ lwa := chk_in wc_8 13 rfl
theorem ul_X7_9 : u_lay RX7 TX7 9 ∈ lwa := chk_in wc_8 14 rfl
theorem ul_X7_10 : u_lay RX7 TX7 10 ∈ lwa := chk_in wc_8 15 rfl
theorem ml_X10_25 : Cond.methodLink RX10 25 yX1_init ∈ lwa := chk_in wc_8 16 rfl
theorem im_X1_init : Cond.instanceMethod yX1_init ∈ lwa := chk_in wc_8 17 rfl
theorem cd_X1_init : Cond.code yX1_init cX1_init 2 none ∈ lwa := chk_in wc_8 18 rfl
theorem fl_X1_9 : Cond.fieldLink RX1 9 RX1 (TX1 0).2.1 (TX1 0).2.2.1 ∈ lwa := chk_in wc_8 19 rfl
def wl_9 : List (Nat × Cond) := [(240, Cond.fieldLink RX4 39 RX1 (TX1 0).2.1 (TX1 0).2.2.1), (0, Cond.fieldLink RX8 34 RX1 (TX1 0).2.1 (TX1 0).2.2.1), (0, Cond.fieldLink RX6 37 RX1 (TX1 0).2.1 (TX1 0).2.2.1), (0, Cond.fieldLink RX10 116 RX1 (TX1 0).2.1 (TX1 0).2.2.1), (0, Cond.fieldLink RX1 43 RX1 (TX1 1).2.1 (TX1 1).2.2.1), (0, Cond.fieldLink RX10 383 RX1 (TX1 1).2.1 (TX1 1).2.2.1), (0, Cond.fieldLink RX2 60 RX1 (TX1 2).2.1 (TX1 2).2.2.1), (0, Cond.fieldLink RX1 60 RX1 (TX1 2).2.1 (TX1 2).2.2.1), (0, Cond.fieldLink RX10 148 RX1 (TX1 2).2.1 (TX1 2).2.2.1), (0, Cond.fieldLink RX4 30 RX1 (TX1 3).2.1 (TX1 3).2.2.1), (0, Cond.fieldLink RX1 47 RX1 (TX1 3).2.1 (TX1 3).2.2.1), (0, Cond.fieldLink RX6 24 RX1 (TX1 3).2.1 (TX1 3).2.2.1), (0, Cond.fieldLink RX8 49 RX1 (TX1 3).2.1 (TX1 3).2.2.1), (0, Cond.fieldLink RX10 132 RX1 (TX1 3).2.1 (TX1 3).2.2.1), (0, Cond.fieldLink RX2 205 RX1 (TX1 3).2.1 (TX1 3).2.2.1), (0, Cond.fieldLink RX1 15 RX1 (TX1 4).2.1 (TX1 4).2.2.1), (0, Cond.fieldLink RX8 73 RX1 (TX1 4).2.1 (TX1 4).2.2.1), (0, Cond.fieldLink RX10 259 RX1 (TX1 4).2.1 (TX1 4).2.2.1), (0, Cond.fieldLink RX1 19 RX1 (TX1 5).2.1 (TX1 5).2.2.1), (0, Cond.fieldLink RX6 30 RX1 (TX1 5).2.1 (TX1 5).2.2.1)]
set_option maxRecDepth 50000 in
theorem wc_9 : chk wl_9 lw_tbl = true := by decide +kernel
theorem fl_X4_39 : Cond.fieldLink RX4 39 RX1 (TX1 0).2.1 (TX1 0).2.2.1 ∈ lwa := chk_in wc_9 0 rfl
theorem fl_X8_34 : Cond.fieldLink RX8 34 RX1 (TX1 0).2.1 (TX1 0).2.2.1 ∈ lwa := chk_in wc_9 1 rfl
theorem fl_X6_37 : Cond.fieldLink RX6 37 RX1 (TX1 0).2.1 (TX1 0).2.2.1 ∈ lwa := chk_in wc_9 2 rfl
theorem fl_X10_116 : Cond.fieldLink RX10 116 RX1 (TX1 0).2.1 (TX1 0).2.2.1 ∈ lwa := chk_in wc_9 3 rfl
theorem fl_X1_43 : Cond.fieldLink RX1 43 RX1 (TX1 1).2.1 (TX1 1).2.2.1 ∈ lwa := chk_in wc_9 4 rfl
theorem fl_X10_383 : Cond.fieldLink RX10 383 RX1 (TX1 1).2.1 (TX1 1).2.2.1 ∈ lwa := chk_in wc_9 5 rfl
theorem fl_X2_60 : Cond.fieldLink RX2 60 RX1 (TX1 2).2.1 (TX1 2).2.2.1 ∈ lwa := chk_in wc_9 6 rfl
theorem fl_X1_60 : Cond.fieldLink RX1 60 RX1 (TX1 2).2.1 (TX1 2).2.2.1 ∈ lwa := chk_in wc_9 7 rfl
theorem fl_X10_148 : Cond.fieldLink RX10 148 RX1 (TX1 2).2.1 (TX1 2).2.2.1 ∈ lwa := chk_in wc_9 8 rfl
theorem fl_X4_30 : Cond.fieldLink RX4 30 RX1 (TX1 3).2.1 (TX1 3).2.2.1 ∈ lwa := chk_in wc_9 9 rfl
theorem fl_X1_47 : Cond.fieldLink RX1 47 RX1 (TX1 3).2.1 (TX1 3).2.2.1 ∈ lwa := chk_in wc_9 10 rfl
theorem fl_X6_24 : Cond.fieldLink RX6 24 RX1 (TX1 3).2.1 (TX1 3).2.2.1 ∈ lwa := chk_in wc_9 11 rfl
theorem fl_X8_49 : Cond.fieldLink RX8 49 RX1 (TX1 3).2.1 (TX1 3).2.2.1 ∈ lwa := chk_in wc_9 12 rfl
theorem fl_X10_132 : Cond.fieldLink RX10 132 RX1 (TX1 3).2.1 (TX1 3).2.2.1 ∈ lwa := chk_in wc_9 13 rfl
theorem fl_X2_205 : Cond.fieldLink RX2 205 RX1 (TX1 3).2.1 (TX1 3).2.2.1 ∈ lwa := chk_in wc_9 14 rfl
theorem fl_X1_15 : Cond.fieldLink RX1 15 RX1 (TX1 4).2.1 (TX1 4).2.2.1 ∈ lwa := chk_in wc_9 15 rfl
theorem fl_X8_73 : Cond.fieldLink RX8 73 RX1 (TX1 4).2.1 (TX1 4).2.2.1 ∈ lwa := chk_in wc_9 16 rfl
theorem fl_X10_259 : Cond.fieldLink RX10 259 RX1 (TX1 4).2.1 (TX1 4).2.2.1 ∈ lwa := chk_in wc_9 17 rfl
theorem fl_X1_19 : Cond.fieldLink RX1 19 RX1 (TX1 5).2.1 (TX1 5).2.2.1 ∈ lwa := chk_in wc_9 18 rfl
theorem fl_X6_30 : Cond.fieldLink RX6 30 RX1 (TX1 5).2.1 (TX1 5).2.2.1 ∈ lwa := chk_in wc_9 19 rfl
def wl_10 : List (Nat × Cond) := [(260, Cond.fieldLink RX4 53 RX1 (TX1 5).2.1 (TX1 5).2.2.1), (0, Cond.fieldLink RX8 67 RX1 (TX1 5).2.1 (TX1 5).2.2.1), (0, Cond.fieldLink RX10 262 RX1 (TX1 5).2.1 (TX1 5).2.2.1), (0, Cond.fieldLink RX1 22 RX1 (TX1 6).2.1 (TX1 6).2.2.1), (0, Cond.fieldLink RX8 70 RX1 (TX1 6).2.1 (TX1 6).2.2.1), (0, Cond.fieldLink RX10 265 RX1 (TX1 6).2.1 (TX1 6).2.2.1), (0, Cond.fieldLink RX1 27 RX1 (TX1 7).2.1 (TX1 7).2.2.1), (0, Cond.fieldLink RX10 296 RX1 (TX1 7).2.1 (TX1 7).2.2.1), (0, Cond.fieldLink RX1 51 RX1 (TX1 8).2.1 (TX1 8).2.2.1), (0, Cond.fieldLink RX10 151 RX1 (TX1 8).2.1 (TX1 8).2.2.1), (0, Cond.fieldLink RX1 30 RX1 (TX1 9).2.1 (TX1 9).2.2.1), (0, Cond.fieldLink RX10 304 RX1 (TX1 9).2.1 (TX1 9).2.2.1), (0, Cond.fieldLink RX1 33 RX1 (TX1 10).2.1 (TX1 10).2.2.1), (0, Cond.fieldLink RX10 307 RX1 (TX1 10).2.1 (TX1 10).2.2.1), (0, Cond.fieldLink RX1 36 RX1 (TX1 11).2.1 (TX1 11).2.2.1), (0, Cond.fieldLink RX10 310 RX1 (TX1 11).2.1 (TX1 11).2.2.1), (0, Cond.fieldLink RX1 39 RX1 (TX1 12).2.1 (TX1 12).2.2.1), (0, Cond.fieldLink RX10 379 RX1 (TX1 12).2.1 (TX1 12).2.2.1), (0, u_lay RX1 TX1 0), (1, u_lay RX1 TX1 1)]
set_option maxRecDepth 50000 in
theorem wc_10 : chk wl_10 lw_tbl = true := by decide +kernel
theorem fl_X4_53 : Cond.fieldLink RX4 53 RX1 (TX1 5).2.1 (TX1 5).2.2.1 ∈ lwa := chk_in wc_10 0 rfl
theorem fl_X8_67 : Cond.fieldLink RX8 67 RX1 (TX1 5).2.1 (TX1 5).2.2.1 ∈ lwa := chk_in wc_10 1 rfl
theorem fl_X10_262 : Cond.fieldLink RX10 262 RX1 (TX1 5).2.1 (TX1 5).2.2.1 ∈ lwa := chk_in wc_10 2 rfl
theorem fl_X1_22 : Cond.fieldLink RX1 22 RX1 (TX1 6).2.1 (TX1 6).2.2.1 ∈ lwa := chk_in wc_10 3 rfl
theorem fl_X8_70 : Cond.fieldLink RX8 70 RX1 (TX1 6).2.1 (TX1 6).2.2.1 ∈ lwa := chk_in wc_10 4 rfl
theorem fl_X10_265 : Cond.fieldLink RX10 265 RX1 (TX1 6).2.1 (TX1 6).2.2.1 ∈ lwa := chk_in wc_10 5 rfl
theorem fl_X1_27 : Cond.fieldLink RX1 27 RX1 (TX1 7).2.1 (TX1 7).2.2.1 ∈ lwa := chk_in wc_10 6 rfl
theorem fl_X10_296 : Cond.fieldLink RX10 296 RX1 (TX1 7).2.1 (TX1 7).2.2.1 ∈ lwa := chk_in wc_10 7 rfl
theorem fl_X1_51 : Cond.fieldLink RX1 51 RX1 (TX1 8).2.1 (TX1 8).2.2.1 ∈ lwa := chk_in wc_10 8 rfl
theorem fl_X10_151 : Cond.fieldLink RX10 151 RX1 (TX1 8).2.1 (TX1 8).2.2.1 ∈ lwa := chk_in wc_10 9 rfl
theorem fl_X1_30 : Cond.fieldLink RX1 30 RX1 (TX1 9).2.1 (TX1 9).2.2.1 ∈ lwa := chk_in wc_10 10 rfl
theorem fl_X10_304 : Cond.fieldLink RX10 304 RX1 (TX1 9).2.1 (TX1 9).2.2.1 ∈ lwa := chk_in wc_10 11 rfl
theorem fl_X1_33 : Cond.fieldLink RX1 33 RX1 (TX1 10).2.1 (TX1 10).2.2.1 ∈ lwa := chk_in wc_10 12 rfl
theorem fl_X10_307 : Cond.fieldLink RX10 307 RX1 (TX1 10).2.1 (TX1 10).2.2.1 ∈ lwa := chk_in wc_10 13 rfl
theorem fl_X1_36 : Cond.fieldLink RX1 36 RX1 (TX1 11).2.1 (TX1 11).2.2.1 ∈ lwa := chk_in wc_10 14 rfl
theorem fl_X10_310 : Cond.fieldLink RX10 310 RX1 (TX1 11).2.1 (TX1 11).2.2.1 ∈ lwa := chk_in wc_10 15 rfl
theorem fl_X1_39 : Cond.fieldLink RX1 39 RX1 (TX1 12).2.1 (TX1 12).2.2.1 ∈ lwa := chk_in wc_10 16 rfl
theorem fl_X10_379 : Cond.fieldLink RX10 379 RX1 (TX1 12).2.1 (TX1 12).2.2.1 ∈ lwa := chk_in wc_10 17 rfl
theorem ul_X1_0 : u_lay RX1 TX1 0 ∈ lwa := chk_in wc_10 18 rfl
theorem ul_X1_1 : u_lay RX1 TX1 1 ∈ lwa := chk_in wc_10 19 rfl
def wl_11 : List (Nat × Cond) := [(282, u_lay RX1 TX1 2), (1, u_lay RX1 TX1 3), (1, u_lay RX1 TX1 4), (1, u_lay RX1 TX1 5), (1, u_lay RX1 TX1 6), (1, u_lay RX1 TX1 7), (1, u_lay RX1 TX1 8), (1, u_lay RX1 TX1 9), (1, u_lay RX1 TX1 10), (1, u_lay RX1 TX1 11), (1, u_lay RX1 TX1 12), (5, Cond.methodLink RX10 41 yX2_init), (0, Cond.instanceMethod yX2_init), (0, Cond.code yX2_init cX2_init 1 none), (4, Cond.instanceMethod yX9_init), (0, Cond.code yX9_init cX9_init 1 none), (1, Cond.fieldLink RX9 7 RX9 (TX9 0).2.1 (TX9 0).2.2.1), (0, Cond.fieldLink RX2 228 RX9 (TX9 0).2.1 (TX9 0).2.2.1), (0, Cond.fieldLink RX9 19 RX9 (TX9 1).2.1 (TX9 1).2.2.1), (0, Cond.fieldLink RX9 26 RX9 (TX9 2).2.1 (TX9 2).2.2.1)]
set_option maxRecDepth 50000 in
theorem wc_11 : chk wl_11 lw_tbl = true := by decide +kernel
theorem ul_X1_2 : u_lay RX1 TX1 2 ∈ lwa := chk_in wc_11 0 rfl
theorem ul_X1_3 : u_lay RX1 TX1 3 ∈ lwa := chk_in wc_11 1 rfl
theorem ul_X1_4 : u_lay RX1 TX1 4 ∈ lwa := chk_in wc_11 2 rfl
theorem ul_X1_5 : u_lay RX1 TX1 5 ∈ lwa := chk_in wc_11 3 rfl
theorem ul_X1_6 : u_lay RX1 TX1 6 ∈ lwa := chk_in wc_11 4 rfl
theorem ul_X1_7 : u_lay RX1 TX1 7 ∈ lwa := chk_in wc_11 5 rfl
theorem ul_X1_8 : u_lay RX1 TX1 8 ∈ lwa := chk_in wc_11 6 rfl
theorem ul_X1_9 : u_lay RX1 TX1 9 ∈ lwa := chk_in wc_11 7 rfl
theorem ul_X1_10 : u_lay RX1 TX1 10 ∈ lwa := chk_in wc_11 8 rfl
theorem ul_X1_11 : u_lay RX1 TX1 11 ∈ lwa := chk_in wc_11 9 rfl
theorem ul_X1_12 : u_lay RX1 TX1 12 ∈ lwa := chk_in wc_11 10 rfl
theorem ml_X10_41 : Cond.methodLink RX10 41 yX2_init ∈ lwa := chk_in wc_11 11 rfl
theorem im_X2_init : Cond.instanceMethod yX2_init ∈ lwa := chk_in wc_11 12 rfl
theorem cd_X2_init : Cond.code yX2_init cX2_init 1 none ∈ lwa := chk_in wc_11 13 rfl
theorem im_X9_init : Cond.instanceMethod yX9_init ∈ lwa := chk_in wc_11 14 rfl
theorem cd_X9_init : Cond.code yX9_init cX9_init 1 none ∈ lwa := chk_in wc_11 15 rfl
theorem fl_X9_7 : Cond.fieldLink RX9 7 RX9 (TX9 0).2.1 (TX9 0).2.2.1 ∈ lwa := chk_in wc_11 16 rfl
theorem fl_X2_228 : Cond.fieldLink RX2 228 RX9 (TX9 0).2.1 (TX9 0).2.2.1 ∈ lwa := chk_in wc_11 17 rfl
theorem fl_X9_19 : Cond.fieldLink RX9 19 RX9 (TX9 1).2.1 (TX9 1).2.2.1 ∈ lwa := chk_in wc_11 18 rfl
theorem fl_X9_26 : Cond.fieldLink RX9 26 RX9 (TX9 2).2.1 (TX9 2).2.2.1 ∈ lwa := chk_in wc_11 19 rfl
def wl_12 : List (Nat × Cond) := [(322, Cond.fieldLink RX2 222 RX9 (TX9 2).2.1 (TX9 2).2.2.1), (0, Cond.fieldLink RX9 23 RX9 (TX9 3).2.1 (TX9 3).2.2.1), (0, Cond.fieldLink RX2 225 RX9 (TX9 3).2.1 (TX9 3).2.2.1), (0, Cond.fieldLink RX2 50 RX9 (TX9 4).2.1 (TX9 4).2.2.1), (0, Cond.fieldLink RX9 29 RX9 (TX9 4).2.1 (TX9 4).2.2.1), (0, Cond.fieldLink RX9 39 RX9 (TX9 5).2.1 (TX9 5).2.2.1), (0, Cond.fieldLink RX2 219 RX9 (TX9 5).2.1 (TX9 5).2.2.1), (0, u_lay RX9 TX9 0), (1, u_lay RX9 TX9 1), (1, u_lay RX9 TX9 2), (1, u_lay RX9 TX9 3), (1, u_lay RX9 TX9 4), (1, u_lay RX9 TX9 5), (2, Cond.fieldLink RX2 12 RX2 (TX2 0).2.1 (TX2 0).2.2.1), (0, Cond.fieldLink RX2 18 RX2 (TX2 1).2.1 (TX2 1).2.2.1), (0, Cond.fieldLink RX2 22 RX2 (TX2 2).2.1 (TX2 2).2.2.1), (0, Cond.fieldLink RX2 36 RX2 (TX2 3).2.1 (TX2 3).2.2.1), (0, Cond.fieldLink RX10 105 RX2 (TX2 3).2.1 (TX2 3).2.2.1), (0, Cond.fieldLink RX2 40 RX2 (TX2 4).2.1 (TX2 4).2.2.1), (0, Cond.fieldLink RX10 111 RX2 (TX2 4).2.1 (TX2 4).2.2.1)]
set_option maxRecDepth 50000 in
theorem wc_12 : chk wl_12 lw_tbl = true := by decide +kernel
theorem fl_X2_222 : Cond.fieldLink RX2 222 RX9 (TX9 2).2.1 (TX9 2).2.2.1 ∈ lwa := chk_in wc_12 0 rfl
theorem fl_X9_23 : Cond.fieldLink RX9 23 RX9 (TX9 3).2.1 (TX9 3).2.2.1 ∈ lwa := chk_in wc_12 1 rfl
theorem fl_X2_225 : Cond.fieldLink RX2 225 RX9 (TX9 3).2.1 (TX9 3).2.2.1 ∈ lwa := chk_in wc_12 2 rfl
theorem fl_X2_50 : Cond.fieldLink RX2 50 RX9 (TX9 4).2.1 (TX9 4).2.2.1 ∈ lwa := chk_in wc_12 3 rfl
theorem fl_X9_29 : Cond.fieldLink RX9 29 RX9 (TX9 4).2.1 (TX9 4).2.2.1 ∈ lwa := chk_in wc_12 4 rfl
theorem fl_X9_39 : Cond.fieldLink RX9 39 RX9 (TX9 5).2.1 (TX9 5).2.2.1 ∈ lwa := chk_in wc_12 5 rfl
theorem fl_X2_219 : Cond.fieldLink RX2 219 RX9 (TX9 5).2.1 (TX9 5).2.2.1 ∈ lwa := chk_in wc_12 6 rfl
theorem ul_X9_0 : u_lay RX9 TX9 0 ∈ lwa := chk_in wc_12 7 rfl
theorem ul_X9_1 : u_lay RX9 TX9 1 ∈ lwa := chk_in wc_12 8 rfl
theorem ul_X9_2 : u_lay RX9 TX9 2 ∈ lwa := chk_in wc_12 9 rfl
theorem ul_X9_3 : u_lay RX9 TX9 3 ∈ lwa := chk_in wc_12 10 rfl
theorem ul_X9_4 : u_lay RX9 TX9 4 ∈ lwa := chk_in wc_12 11 rfl
theorem ul_X9_5 : u_lay RX9 TX9 5 ∈ lwa := chk_in wc_12 12 rfl
theorem fl_X2_12 : Cond.fieldLink RX2 12 RX2 (TX2 0).2.1 (TX2 0).2.2.1 ∈ lwa := chk_in wc_12 13 rfl
theorem fl_X2_18 : Cond.fieldLink RX2 18 RX2 (TX2 1).2.1 (TX2 1).2.2.1 ∈ lwa := chk_in wc_12 14 rfl
theorem fl_X2_22 : Cond.fieldLink RX2 22 RX2 (TX2 2).2.1 (TX2 2).2.2.1 ∈ lwa := chk_in wc_12 15 rfl
theorem fl_X2_36 : Cond.fieldLink RX2 36 RX2 (TX2 3).2.1 (TX2 3).2.2.1 ∈ lwa := chk_in wc_12 16 rfl
theorem fl_X10_105 : Cond.fieldLink RX10 105 RX2 (TX2 3).2.1 (TX2 3).2.2.1 ∈ lwa := chk_in wc_12 17 rfl
theorem fl_X2_40 : Cond.fieldLink RX2 40 RX2 (TX2 4).2.1 (TX2 4).2.2.1 ∈ lwa := chk_in wc_12 18 rfl
theorem fl_X10_111 : Cond.fieldLink RX10 111 RX2 (TX2 4).2.1 (TX2 4).2.2.1 ∈ lwa := chk_in wc_12 19 rfl
