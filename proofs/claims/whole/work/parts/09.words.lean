def chk : List (Nat × Cond) → List Cond → Bool
  | [], _ => true
  | (g, w) :: r, t => match t.drop g with
    | [] => false
    | x :: t' => decide (x = w) && (goodWord w && chk r t')
theorem chk_mem : ∀ {L : List (Nat × Cond)} {t : List Cond}, chk L t = true → ∀ q ∈ L, q.2 ∈ t ∧ goodWord q.2 = true
  | [], _, _ => fun _ h => nomatch h
  | (g, w) :: r, t, h => by
    unfold chk at h
    split at h
    · cases h
    · rename_i x t' hd
      simp only [Bool.and_eq_true, decide_eq_true_eq] at h
      have hs : ∀ z, z ∈ x :: t' → z ∈ t := fun z hz => List.mem_of_mem_drop (by rw [hd]; exact hz)
      intro q hq
      rcases List.mem_cons.mp hq with rfl | hq
      · exact ⟨hs _ (by rw [h.1]; exact List.mem_cons_self), h.2.1⟩
      · have h2 := chk_mem h.2.2 q hq
        exact ⟨hs _ (List.mem_cons_of_mem _ h2.1), h2.2⟩
theorem chk_in {L : List (Nat × Cond)} (h : chk L lw_tbl = true) {g : Nat} {w : Cond} (i : Nat) (hi : L[i]? = some (g, w)) : w ∈ lwa := by
  have h2 := chk_mem h (g, w) (List.mem_of_getElem? hi)
  exact List.mem_filter.mpr h2
theorem vwCl_c {ci : Nat} {C : String} (h : vwCl[ci]?.map (fun r => r.1) = some C) : ∀ r, vwCl[ci]? = some r → r.1 = C := fun r hr => by
  rw [hr] at h
  exact Option.some.inj h
theorem hc_J0 : ∀ r, vwCl[0]? = some r → r.1 = RJ0 := vwCl_c rfl
theorem hc_X0 : ∀ r, vwCl[1]? = some r → r.1 = RX0 := vwCl_c rfl
theorem hc_X1 : ∀ r, vwCl[2]? = some r → r.1 = RX1 := vwCl_c rfl
theorem hc_X2 : ∀ r, vwCl[3]? = some r → r.1 = RX2 := vwCl_c rfl
theorem hc_X3 : ∀ r, vwCl[4]? = some r → r.1 = RX3 := vwCl_c rfl
theorem hc_X4 : ∀ r, vwCl[5]? = some r → r.1 = RX4 := vwCl_c rfl
theorem hc_X5 : ∀ r, vwCl[6]? = some r → r.1 = RX5 := vwCl_c rfl
theorem hc_X6 : ∀ r, vwCl[7]? = some r → r.1 = RX6 := vwCl_c rfl
theorem hc_X7 : ∀ r, vwCl[8]? = some r → r.1 = RX7 := vwCl_c rfl
theorem hc_X8 : ∀ r, vwCl[9]? = some r → r.1 = RX8 := vwCl_c rfl
theorem hc_X9 : ∀ r, vwCl[10]? = some r → r.1 = RX9 := vwCl_c rfl
theorem hc_X10 : ∀ r, vwCl[11]? = some r → r.1 = RX10 := vwCl_c rfl
theorem hc_X11 : ∀ r, vwCl[12]? = some r → r.1 = RX11 := vwCl_c rfl
abbrev Y_X0_init : Yd := (yX0_init, cX0_init, 1, none, [])
abbrev Y_X1_init : Yd := (yX1_init, cX1_init, 2, none, [])
abbrev Y_J7_fill_53178 : Yd := (yJ7_fill_53178, cJ7_fill_53178, 4, none, [])
abbrev Y_X1_clear : Yd := (yX1_clear, cX1_clear, 3, none, [])
abbrev Y_X1_copyAccounts : Yd := (yX1_copyAccounts, cX1_copyAccounts, 2, none, [])
abbrev Y_X1_copy : Yd := (yX1_copy, cX1_copy, 3, none, [])
abbrev Y_X1_phase : Yd := (yX1_phase, cX1_phase, 1, (some .int), [])
abbrev Y_X1_passengersIn : Yd := (yX1_passengersIn, cX1_passengersIn, 4, (some .int), [])
abbrev Y_X1_specialsIn : Yd := (yX1_specialsIn, cX1_specialsIn, 4, (some .int), [])
abbrev Y_X1_freeSeats : Yd := (yX1_freeSeats, cX1_freeSeats, 2, (some .int), [])
abbrev Y_X1_seat : Yd := (yX1_seat, cX1_seat, 4, none, [])
abbrev Y_X1_removePassenger : Yd := (yX1_removePassenger, cX1_removePassenger, 3, none, [])
abbrev Y_X7_admits : Yd := (yX7_admits, cX7_admits, 3, (some .boolean), [])
abbrev Y_X7_suiting : Yd := (yX7_suiting, cX7_suiting, 5, (some .int), [])
abbrev Y_X1_suiting : Yd := (yX1_suiting, cX1_suiting, 2, (some .int), [])
abbrev Y_X7_cheapestOf : Yd := (yX7_cheapestOf, cX7_cheapestOf, 4, (some .int), [])
abbrev Y_X1_cheapestFor : Yd := (yX1_cheapestFor, cX1_cheapestFor, 2, (some .int), [])
abbrev Y_X1_freeSlots : Yd := (yX1_freeSlots, cX1_freeSlots, 4, (some .int), [])
abbrev Y_X1_freeSlotsIn : Yd := (yX1_freeSlotsIn, cX1_freeSlotsIn, 4, (some .int), [])
abbrev Y_X1_unitsIn : Yd := (yX1_unitsIn, cX1_unitsIn, 4, (some .int), [])
abbrev Y_X1_loadedOf : Yd := (yX1_loadedOf, cX1_loadedOf, 4, (some .int), [])
abbrev Y_X1_allLoaded : Yd := (yX1_allLoaded, cX1_allLoaded, 3, (some .int), [])
abbrev Y_X1_onTheWay : Yd := (yX1_onTheWay, cX1_onTheWay, 4, (some .int), [])
abbrev Y_X1_missing : Yd := (yX1_missing, cX1_missing, 3, (some .int), [])
abbrev Y_X1_put : Yd := (yX1_put, cX1_put, 7, (some .int), [])
abbrev Y_X1_takeOut : Yd := (yX1_takeOut, cX1_takeOut, 6, none, [])
abbrev Y_X1_askFor : Yd := (yX1_askFor, cX1_askFor, 3, none, [])
abbrev Y_X1_letArrive : Yd := (yX1_letArrive, cX1_letArrive, 4, (some .int), [])
abbrev Y_X9_init : Yd := (yX9_init, cX9_init, 1, none, [])
abbrev Y_X2_init : Yd := (yX2_init, cX2_init, 1, none, [])
abbrev Y_X7_clear : Yd := (yX7_clear, cX7_clear, 1, none, [])
abbrev Y_X9_begin : Yd := (yX9_begin, cX9_begin, 3, none, [])
abbrev Y_X9_kindOf : Yd := (yX9_kindOf, cX9_kindOf, 1, (some .int), [])
abbrev Y_X9_readNumber : Yd := (yX9_readNumber, cX9_readNumber, 2, none, [])
abbrev Y_X9_next : Yd := (yX9_next, cX9_next, 1, none, [])
abbrev Y_J0_coder_7d493 : Yd := (yJ0_coder_7d493, cJ0_coder_7d493, 1, (some .byte), [])
abbrev Y_J0_length_8abf5 : Yd := (yJ0_length_8abf5, cJ0_length_8abf5, 1, (some .int), [])
abbrev Y_J0_isLatin1_aae02 : Yd := (yJ0_isLatin1_aae02, cJ0_isLatin1_aae02, 1, (some .boolean), [])
abbrev Y_J3_checkIndex_8e157 : Yd := (yJ3_checkIndex_8e157, cJ3_checkIndex_8e157, 3, (some .int), [])
abbrev Y_J0_checkIndex_df160 : Yd := (yJ0_checkIndex_df160, cJ0_checkIndex_df160, 2, none, [])
abbrev Y_J1_charAt_3b067 : Yd := (yJ1_charAt_3b067, cJ1_charAt_3b067, 2, (some .char), [])
abbrev Y_J2_length_9d52b : Yd := (yJ2_length_9d52b, cJ2_length_9d52b, 1, (some .int), [])
abbrev Y_J2_checkIndex_2214a : Yd := (yJ2_checkIndex_2214a, cJ2_checkIndex_2214a, 2, none, [])
abbrev Y_J2_getChar_3b067 : Yd := (yJ2_getChar_3b067, cJ2_getChar_3b067, 2, (some .char), [])
abbrev Y_J2_charAt_3b067 : Yd := (yJ2_charAt_3b067, cJ2_charAt_3b067, 2, (some .char), [])
abbrev Y_J0_charAt_5068e : Yd := (yJ0_charAt_5068e, cJ0_charAt_5068e, 2, (some .char), [])
abbrev Y_X9_is : Yd := (yX9_is, cX9_is, 3, (some .boolean), [])
abbrev Y_X2_fail : Yd := (yX2_fail, cX2_fail, 2, (some .boolean), [])
abbrev Y_X2_numberHere : Yd := (yX2_numberHere, cX2_numberHere, 3, (some .int), [])
abbrev Y_X2_nextNumber : Yd := (yX2_nextNumber, cX2_nextNumber, 3, (some .int), [])
abbrev Y_X2_signHere : Yd := (yX2_signHere, cX2_signHere, 1, (some .boolean), [])
abbrev Y_X2_readTime : Yd := (yX2_readTime, cX2_readTime, 3, (some .boolean), [])
abbrev Y_X2_readLead : Yd := (yX2_readLead, cX2_readLead, 2, (some .boolean), [])
abbrev Y_X9_size : Yd := (yX9_size, cX9_size, 1, (some .int), [])
abbrev Y_X2_nameHere : Yd := (yX2_nameHere, cX2_nameHere, 1, (some .boolean), [])
abbrev Y_X2_cabinHere : Yd := (yX2_cabinHere, cX2_cabinHere, 2, (some .int), [])
abbrev Y_J2_compress_fe38e : Yd := (yJ2_compress_fe38e, cJ2_compress_fe38e, 7, (some .int), [])
abbrev Y_J2_newBytesLength_0f7a4 : Yd := (yJ2_newBytesLength_0f7a4, cJ2_newBytesLength_0f7a4, 1, (some .int), [])
abbrev Y_J2_newBytesFor_77867 : Yd := (yJ2_newBytesFor_77867, cJ2_newBytesFor_77867, 1, (some (.array .byte)), [])
abbrev Y_J2_putChar_b72d1 : Yd := (yJ2_putChar_b72d1, cJ2_putChar_b72d1, 3, none, [])
abbrev Y_J2_toBytes_dfd3c : Yd := (yJ2_toBytes_dfd3c, cJ2_toBytes_dfd3c, 5, (some (.array .byte)), [])
abbrev Y_J3_checkFromIndexSize_8c36e : Yd := (yJ3_checkFromIndexSize_8c36e, cJ3_checkFromIndexSize_8c36e, 4, (some .int), [])
abbrev Y_J0_checkBoundsOffCount_cabcc : Yd := (yJ0_checkBoundsOffCount_cabcc, cJ0_checkBoundsOffCount_cabcc, 3, (some .int), [])
abbrev Y_J2_checkBoundsOffCount_d044e : Yd := (yJ2_checkBoundsOffCount_d044e, cJ2_checkBoundsOffCount_d044e, 3, none, [])
abbrev Y_J2_compress_5af95 : Yd := (yJ2_compress_5af95, cJ2_compress_5af95, 7, (some .int), [])
abbrev Y_J2_compress_dfd3c : Yd := (yJ2_compress_dfd3c, cJ2_compress_dfd3c, 6, (some (.array .byte)), [])
abbrev Y_J2_coderFromArrayLen_85cad : Yd := (yJ2_coderFromArrayLen_85cad, cJ2_coderFromArrayLen_85cad, 2, (some .byte), [])
abbrev Y_J0_init_bb550 : Yd := (yJ0_init_bb550, cJ0_init_bb550, 6, none, [])
abbrev Y_J0_init_905df : Yd := (yJ0_init_905df, cJ0_init_905df, 2, none, [])
abbrev Y_X9_word : Yd := (yX9_word, cX9_word, 3, (some (.object "java/lang/String")), [])
abbrev Y_X2_readCabin : Yd := (yX2_readCabin, cX2_readCabin, 2, (some .boolean), [])
abbrev Y_X2_mealHere : Yd := (yX2_mealHere, cX2_mealHere, 2, (some .int), [])
abbrev Y_X2_nextCabin : Yd := (yX2_nextCabin, cX2_nextCabin, 2, (some .int), [])
abbrev Y_X2_readPlace : Yd := (yX2_readPlace, cX2_readPlace, 2, (some .boolean), [])
abbrev Y_X2_nextDiets : Yd := (yX2_nextDiets, cX2_nextDiets, 5, (some .int), [])
abbrev Y_X2_readMeal : Yd := (yX2_readMeal, cX2_readMeal, 2, (some .boolean), [])
abbrev Y_X2_readTrolley : Yd := (yX2_readTrolley, cX2_readTrolley, 3, (some .boolean), [])
abbrev Y_X2_readGuests : Yd := (yX2_readGuests, cX2_readGuests, 4, (some .boolean), [])
abbrev Y_X2_nextWish : Yd := (yX2_nextWish, cX2_nextWish, 3, (some .int), [])
abbrev Y_X2_readGuest : Yd := (yX2_readGuest, cX2_readGuest, 4, (some .boolean), [])
abbrev Y_X2_readStatement : Yd := (yX2_readStatement, cX2_readStatement, 1, (some .boolean), [])
abbrev Y_X2_read : Yd := (yX2_read, cX2_read, 7, (some .boolean), [])
abbrev Y_X3_init : Yd := (yX3_init, cX3_init, 3, none, [])
abbrev Y_X3_add : Yd := (yX3_add, cX3_add, 2, none, [])
abbrev Y_X3_takeBack : Yd := (yX3_takeBack, cX3_takeBack, 2, none, [])
abbrev Y_X4_init : Yd := (yX4_init, cX4_init, 1, none, [])
abbrev Y_X4_begin : Yd := (yX4_begin, cX4_begin, 3, none, [])
abbrev Y_X4_reach : Yd := (yX4_reach, cX4_reach, 4, none, [])
abbrev Y_X4_findMover : Yd := (yX4_findMover, cX4_findMover, 5, (some .int), [])
abbrev Y_X4_moveAlong : Yd := (yX4_moveAlong, cX4_moveAlong, 7, none, [])
abbrev Y_X4_matchOneMore : Yd := (yX4_matchOneMore, cX4_matchOneMore, 5, (some .boolean), [])
abbrev Y_X4_giveBack : Yd := (yX4_giveBack, cX4_giveBack, 2, none, [])
abbrev Y_X4_canHave : Yd := (yX4_canHave, cX4_canHave, 5, (some .boolean), [])
abbrev Y_X4_match : Yd := (yX4_match, cX4_match, 7, none, [])
abbrev Y_X5_init : Yd := (yX5_init, cX5_init, 1, none, [])
abbrev Y_X6_init : Yd := (yX6_init, cX6_init, 1, none, [])
abbrev Y_X6_greatestRemainder : Yd := (yX6_greatestRemainder, cX6_greatestRemainder, 4, (some .int), [])
abbrev Y_X6_divide : Yd := (yX6_divide, cX6_divide, 8, none, [])
abbrev Y_X6_reckon : Yd := (yX6_reckon, cX6_reckon, 5, none, [])
abbrev Y_X6_allUnits : Yd := (yX6_allUnits, cX6_allUnits, 3, (some .int), [])
abbrev Y_X6_slotsOfMenu : Yd := (yX6_slotsOfMenu, cX6_slotsOfMenu, 5, (some .int), [])
abbrev Y_X7_init : Yd := (yX7_init, cX7_init, 2, none, [])
abbrev Y_X7_menuOf : Yd := (yX7_menuOf, cX7_menuOf, 4, (some .int), [])
abbrev Y_X7_trolleysOf : Yd := (yX7_trolleysOf, cX7_trolleysOf, 4, (some .int), [])
abbrev Y_X8_init : Yd := (yX8_init, cX8_init, 1, none, [])
abbrev Y_X8_give : Yd := (yX8_give, cX8_give, 3, none, [])
abbrev Y_X8_mostLeft : Yd := (yX8_mostLeft, cX8_mostLeft, 5, (some .int), [])
abbrev Y_X8_servePlain : Yd := (yX8_servePlain, cX8_servePlain, 5, none, [])
abbrev Y_X8_addUpWaste : Yd := (yX8_addUpWaste, cX8_addUpWaste, 3, none, [])
abbrev Y_X8_reckon : Yd := (yX8_reckon, cX8_reckon, 4, none, [])
abbrev Y_X10_init : Yd := (yX10_init, cX10_init, 3, none, [])
abbrev Y_X10_appendBytes : Yd := (yX10_appendBytes, cX10_appendBytes, 3, none, [])
abbrev Y_X10_feed : Yd := (yX10_feed, cX10_feed, 6, (some .int), [])
abbrev Y_X10_forgetPast : Yd := (yX10_forgetPast, cX10_forgetPast, 1, none, [])
abbrev Y_X10_load : Yd := (yX10_load, cX10_load, 4, (some .int), [])
abbrev Y_X10_errorCode : Yd := (yX10_errorCode, cX10_errorCode, 1, (some .int), [])
abbrev Y_X10_errorPosition : Yd := (yX10_errorPosition, cX10_errorPosition, 1, (some .int), [])
abbrev Y_X10_freshOrder : Yd := (yX10_freshOrder, cX10_freshOrder, 1, (some (.object "MealLoader$Order")), [])
abbrev Y_X10_count : Yd := (yX10_count, cX10_count, 2, (some .int), [])
abbrev Y_X10_requireCabin : Yd := (yX10_requireCabin, cX10_requireCabin, 2, none, [])
abbrev Y_X10_cabin : Yd := (yX10_cabin, cX10_cabin, 3, (some .int), [])
abbrev Y_X10_requireMeal : Yd := (yX10_requireMeal, cX10_requireMeal, 2, none, [])
abbrev Y_X10_freshService : Yd := (yX10_freshService, cX10_freshService, 1, (some (.object "MealLoader$Service")), [])
abbrev Y_X10_meal : Yd := (yX10_meal, cX10_meal, 3, (some .int), [])
abbrev Y_X10_requirePassenger : Yd := (yX10_requirePassenger, cX10_requirePassenger, 2, none, [])
abbrev Y_X10_passenger : Yd := (yX10_passenger, cX10_passenger, 3, (some .int), [])
abbrev Y_X10_requireTrolley : Yd := (yX10_requireTrolley, cX10_requireTrolley, 2, none, [])
abbrev Y_X10_trolley : Yd := (yX10_trolley, cX10_trolley, 3, (some .int), [])
abbrev Y_X10_held : Yd := (yX10_held, cX10_held, 3, (some .int), [])
abbrev Y_X10_topUpAt : Yd := (yX10_topUpAt, cX10_topUpAt, 3, (some .int), [])
abbrev Y_X10_requireNeeds : Yd := (yX10_requireNeeds, cX10_requireNeeds, 2, none, [])
abbrev Y_X10_refuse : Yd := (yX10_refuse, cX10_refuse, 2, none, [])
abbrev Y_X10_requireFlight : Yd := (yX10_requireFlight, cX10_requireFlight, 2, none, [])
abbrev Y_X10_requireSeat : Yd := (yX10_requireSeat, cX10_requireSeat, 2, none, [])
abbrev Y_X10_beginAct : Yd := (yX10_beginAct, cX10_beginAct, 1, none, [])
abbrev Y_X10_board : Yd := (yX10_board, cX10_board, 4, (some .int), [])
abbrev Y_X10_change : Yd := (yX10_change, cX10_change, 4, (some .int), [])
abbrev Y_X10_leave : Yd := (yX10_leave, cX10_leave, 2, (some .int), [])
abbrev Y_X10_setNeeds : Yd := (yX10_setNeeds, cX10_setNeeds, 4, (some .int), [])
abbrev Y_X10_requireOpen : Yd := (yX10_requireOpen, cX10_requireOpen, 1, none, [])
abbrev Y_X10_loadOrder : Yd := (yX10_loadOrder, cX10_loadOrder, 5, (some .int), [])
abbrev Y_X10_requireUnits : Yd := (yX10_requireUnits, cX10_requireUnits, 2, none, [])
abbrev Y_X10_store : Yd := (yX10_store, cX10_store, 3, (some .int), [])
abbrev Y_X10_unload : Yd := (yX10_unload, cX10_unload, 3, (some .int), [])
abbrev Y_X10_topUp : Yd := (yX10_topUp, cX10_topUp, 3, (some .int), [])
abbrev Y_X10_advance : Yd := (yX10_advance, cX10_advance, 2, (some .int), [])
abbrev Y_X10_reason : Yd := (yX10_reason, cX10_reason, 1, (some .int), [])
abbrev Y_X10_outlook : Yd := (yX10_outlook, cX10_outlook, 2, (some .int), [])
abbrev Y_X10_mealFor : Yd := (yX10_mealFor, cX10_mealFor, 2, (some .int), [])
abbrev Y_X10_serve : Yd := (yX10_serve, cX10_serve, 2, (some .int), [])
abbrev Y_X10_account : Yd := (yX10_account, cX10_account, 2, (some .long), [])
abbrev Y_X10_wasteShare : Yd := (yX10_wasteShare, cX10_wasteShare, 3, (some .float), [])
abbrev Y_X10_bitsOfShare : Yd := (yX10_bitsOfShare, cX10_bitsOfShare, 4, (some .int), [])
abbrev Y_X10_wasteBits : Yd := (yX10_wasteBits, cX10_wasteBits, 1, (some .int), [])
abbrev Y_X10_bitsOfCost : Yd := (yX10_bitsOfCost, cX10_bitsOfCost, 7, (some .long), [])
abbrev Y_X10_costBits : Yd := (yX10_costBits, cX10_costBits, 3, (some .long), [])
abbrev Y_X10_undo : Yd := (yX10_undo, cX10_undo, 1, (some .int), [])
abbrev Y_X10_requireSlot : Yd := (yX10_requireSlot, cX10_requireSlot, 2, none, [])
abbrev Y_X10_keep : Yd := (yX10_keep, cX10_keep, 2, (some .int), [])
abbrev Y_X10_restore : Yd := (yX10_restore, cX10_restore, 2, (some .int), [])
abbrev Y_X10_writeSign : Yd := (yX10_writeSign, cX10_writeSign, 2, none, [])
abbrev Y_X10_writeUnits : Yd := (yX10_writeUnits, cX10_writeUnits, 4, none, [])
abbrev Y_X10_writeTrolley : Yd := (yX10_writeTrolley, cX10_writeTrolley, 4, (some .int), [])
abbrev Y_X10_outputByte : Yd := (yX10_outputByte, cX10_outputByte, 2, (some .int), [])
abbrev Y_X11_init : Yd := (yX11_init, cX11_init, 1, none, [])
abbrev Y_X11_thrown : Yd := (yX11_thrown, cX11_thrown, 1, (some .int), [])
abbrev Y_X11_refuse : Yd := (yX11_refuse, cX11_refuse, 2, (some .int), [])
abbrev Y_X11_told : Yd := (yX11_told, cX11_told, 2, (some .int), [])
abbrev Y_X11_isRefused : Yd := (yX11_isRefused, cX11_isRefused, 2, (some .boolean), [])
abbrev Y_X11_in : Yd := (yX11_in, cX11_in, 3, (some .boolean), [])
abbrev Y_X11_has : Yd := (yX11_has, cX11_has, 2, (some .boolean), [])
abbrev Y_X11_ofCabin : Yd := (yX11_ofCabin, cX11_ofCabin, 3, (some .int), [])
abbrev Y_X11_ofMeal : Yd := (yX11_ofMeal, cX11_ofMeal, 3, (some .int), [])
abbrev Y_X11_ofTrolley : Yd := (yX11_ofTrolley, cX11_ofTrolley, 3, (some .int), [])
abbrev Y_X11_passengerAt : Yd := (yX11_passengerAt, cX11_passengerAt, 2, (some .int), [])
abbrev Y_X11_of : Yd := (yX11_of, cX11_of, 3, (some .int), [])
abbrev Y_X11_unitAt : Yd := (yX11_unitAt, cX11_unitAt, 2, (some .int), [])
abbrev Y_X11_remembers : Yd := (yX11_remembers, cX11_remembers, 2, none, [])
abbrev Y_X11_undo : Yd := (yX11_undo, cX11_undo, 2, (some .int), [])
abbrev Y_X11_phase : Yd := (yX11_phase, cX11_phase, 1, (some .int), [])
abbrev Y_X11_keep : Yd := (yX11_keep, cX11_keep, 3, (some .int), [])
abbrev Y_X11_restore : Yd := (yX11_restore, cX11_restore, 3, (some .int), [])
abbrev Y_X11_lays : Yd := (yX11_lays, cX11_lays, 3, none, [])
abbrev Y_X11_feed : Yd := (yX11_feed, cX11_feed, 6, (some .int), [])
abbrev Y_X11_errorCode : Yd := (yX11_errorCode, cX11_errorCode, 1, (some .int), [])
abbrev Y_X11_errorPosition : Yd := (yX11_errorPosition, cX11_errorPosition, 1, (some .int), [])
abbrev Y_X11_byteAt : Yd := (yX11_byteAt, cX11_byteAt, 2, (some .int), [])
abbrev Y_X11_isLetter : Yd := (yX11_isLetter, cX11_isLetter, 1, (some .boolean), [])
abbrev Y_X11_isDigit : Yd := (yX11_isDigit, cX11_isDigit, 1, (some .boolean), [])
abbrev Y_X11_peek : Yd := (yX11_peek, cX11_peek, 2, (some .int), [])
abbrev Y_X11_fails : Yd := (yX11_fails, cX11_fails, 2, (some .boolean), [])
abbrev Y_X11_passes : Yd := (yX11_passes, cX11_passes, 1, (some .boolean), [])
abbrev Y_X11_letters : Yd := (yX11_letters, cX11_letters, 1, (some .int), [])
abbrev Y_X11_nextWord : Yd := (yX11_nextWord, cX11_nextWord, 4, (some .long), [])
abbrev Y_X11_passesWord : Yd := (yX11_passesWord, cX11_passesWord, 3, (some .boolean), [])
abbrev Y_X11_looksNumber : Yd := (yX11_looksNumber, cX11_looksNumber, 4, (some .boolean), [])
abbrev Y_X11_readNumber : Yd := (yX11_readNumber, cX11_readNumber, 3, (some .boolean), [])
abbrev Y_X11_readSemicolon : Yd := (yX11_readSemicolon, cX11_readSemicolon, 1, (some .boolean), [])
abbrev Y_X11_looksName : Yd := (yX11_looksName, cX11_looksName, 1, (some .boolean), [])
abbrev Y_X11_cabinNamed : Yd := (yX11_cabinNamed, cX11_cabinNamed, 4, (some .int), [])
abbrev Y_X11_mealNamed : Yd := (yX11_mealNamed, cX11_mealNamed, 4, (some .int), [])
abbrev Y_X11_looksCabin : Yd := (yX11_looksCabin, cX11_looksCabin, 1, (some .boolean), [])
abbrev Y_X11_readCabinName : Yd := (yX11_readCabinName, cX11_readCabinName, 1, (some .boolean), [])
abbrev Y_X11_readDiets : Yd := (yX11_readDiets, cX11_readDiets, 3, (some .boolean), [])
abbrev Y_X11_readTime : Yd := (yX11_readTime, cX11_readTime, 1, (some .boolean), [])
abbrev Y_X11_readLead : Yd := (yX11_readLead, cX11_readLead, 1, (some .boolean), [])
abbrev Y_X11_readCabin : Yd := (yX11_readCabin, cX11_readCabin, 2, (some .boolean), [])
abbrev Y_X11_readMenu : Yd := (yX11_readMenu, cX11_readMenu, 2, (some .boolean), [])
abbrev Y_X11_readMeal : Yd := (yX11_readMeal, cX11_readMeal, 3, (some .boolean), [])
abbrev Y_X11_readTrolley : Yd := (yX11_readTrolley, cX11_readTrolley, 2, (some .boolean), [])
abbrev Y_X11_draftFree : Yd := (yX11_draftFree, cX11_draftFree, 4, (some .int), [])
abbrev Y_X11_adds : Yd := (yX11_adds, cX11_adds, 5, none, [])
abbrev Y_X11_readGuests : Yd := (yX11_readGuests, cX11_readGuests, 3, (some .boolean), [])
abbrev Y_X11_readGuest : Yd := (yX11_readGuest, cX11_readGuest, 4, (some .boolean), [])
abbrev Y_X11_isFull : Yd := (yX11_isFull, cX11_isFull, 3, (some .boolean), [])
abbrev Y_X11_isStatement : Yd := (yX11_isStatement, cX11_isStatement, 2, (some .boolean), [])
abbrev Y_X11_readBehind : Yd := (yX11_readBehind, cX11_readBehind, 3, (some .boolean), [])
abbrev Y_X11_readStatement : Yd := (yX11_readStatement, cX11_readStatement, 3, (some .boolean), [])
abbrev Y_X11_readFlight : Yd := (yX11_readFlight, cX11_readFlight, 2, (some .boolean), [])
abbrev Y_X11_takesFlight : Yd := (yX11_takesFlight, cX11_takesFlight, 2, none, [])
abbrev Y_X11_load : Yd := (yX11_load, cX11_load, 2, (some .int), [])
abbrev Y_X11_cabins : Yd := (yX11_cabins, cX11_cabins, 1, (some .int), [])
abbrev Y_X11_meals : Yd := (yX11_meals, cX11_meals, 1, (some .int), [])
abbrev Y_X11_trolleys : Yd := (yX11_trolleys, cX11_trolleys, 1, (some .int), [])
abbrev Y_X11_isSpecial : Yd := (yX11_isSpecial, cX11_isSpecial, 2, (some .boolean), [])
abbrev Y_X11_suits : Yd := (yX11_suits, cX11_suits, 5, (some .boolean), [])
abbrev Y_X11_suiting : Yd := (yX11_suiting, cX11_suiting, 4, (some .int), [])
abbrev Y_X11_cheapest : Yd := (yX11_cheapest, cX11_cheapest, 4, (some .int), [])
abbrev Y_X11_plainIn : Yd := (yX11_plainIn, cX11_plainIn, 4, (some .int), [])
abbrev Y_X11_sharesOf : Yd := (yX11_sharesOf, cX11_sharesOf, 4, (some .int), [])
abbrev Y_X11_greatestRemainder : Yd := (yX11_greatestRemainder, cX11_greatestRemainder, 4, (some .int), [])
abbrev Y_X11_ordersFor : Yd := (yX11_ordersFor, cX11_ordersFor, 8, none, [])
abbrev Y_X11_laysOrder : Yd := (yX11_laysOrder, cX11_laysOrder, 3, none, [])
abbrev Y_X11_loadedOf : Yd := (yX11_loadedOf, cX11_loadedOf, 4, (some .int), [])
abbrev Y_X11_allLoaded : Yd := (yX11_allLoaded, cX11_allLoaded, 3, (some .int), [])
abbrev Y_X11_comingOf : Yd := (yX11_comingOf, cX11_comingOf, 4, (some .int), [])
abbrev Y_X11_missingOf : Yd := (yX11_missingOf, cX11_missingOf, 3, (some .int), [])
abbrev Y_X11_freeOf : Yd := (yX11_freeOf, cX11_freeOf, 4, (some .int), [])
abbrev Y_X11_unitsIn : Yd := (yX11_unitsIn, cX11_unitsIn, 4, (some .int), [])
abbrev Y_X11_takesMeal : Yd := (yX11_takesMeal, cX11_takesMeal, 4, (some .boolean), [])
abbrev Y_X11_storesOne : Yd := (yX11_storesOne, cX11_storesOne, 3, (some .boolean), [])
abbrev Y_X11_storesMany : Yd := (yX11_storesMany, cX11_storesMany, 4, (some .int), [])
abbrev Y_X11_marksUnits : Yd := (yX11_marksUnits, cX11_marksUnits, 2, none, [])
abbrev Y_X11_unitsBack : Yd := (yX11_unitsBack, cX11_unitsBack, 2, none, [])
abbrev Y_X11_orderUnits : Yd := (yX11_orderUnits, cX11_orderUnits, 3, (some .int), [])
abbrev Y_X11_count : Yd := (yX11_count, cX11_count, 2, (some .int), [])
abbrev Y_X11_isCabin : Yd := (yX11_isCabin, cX11_isCabin, 2, (some .boolean), [])
abbrev Y_X11_isMeal : Yd := (yX11_isMeal, cX11_isMeal, 2, (some .boolean), [])
abbrev Y_X11_isTrolley : Yd := (yX11_isTrolley, cX11_isTrolley, 2, (some .boolean), [])
abbrev Y_X11_isPassenger : Yd := (yX11_isPassenger, cX11_isPassenger, 2, (some .boolean), [])
abbrev Y_X11_passengersIn : Yd := (yX11_passengersIn, cX11_passengersIn, 5, (some .int), [])
abbrev Y_X11_trolleysOf : Yd := (yX11_trolleysOf, cX11_trolleysOf, 5, (some .int), [])
abbrev Y_X11_menuOf : Yd := (yX11_menuOf, cX11_menuOf, 4, (some .int), [])
abbrev Y_X11_orderSlots : Yd := (yX11_orderSlots, cX11_orderSlots, 4, (some .int), [])
abbrev Y_X11_cabin : Yd := (yX11_cabin, cX11_cabin, 3, (some .int), [])
abbrev Y_X11_meal : Yd := (yX11_meal, cX11_meal, 3, (some .int), [])
abbrev Y_X11_passenger : Yd := (yX11_passenger, cX11_passenger, 3, (some .int), [])
abbrev Y_X11_trolley : Yd := (yX11_trolley, cX11_trolley, 3, (some .int), [])
abbrev Y_X11_held : Yd := (yX11_held, cX11_held, 3, (some .int), [])
abbrev Y_X11_topUpAt : Yd := (yX11_topUpAt, cX11_topUpAt, 3, (some .int), [])
abbrev Y_X11_refuses : Yd := (yX11_refuses, cX11_refuses, 3, (some .boolean), [])
abbrev Y_X11_isGoing : Yd := (yX11_isGoing, cX11_isGoing, 1, (some .boolean), [])
abbrev Y_X11_hasSeat : Yd := (yX11_hasSeat, cX11_hasSeat, 2, (some .boolean), [])
abbrev Y_X11_wrongBoarding : Yd := (yX11_wrongBoarding, cX11_wrongBoarding, 5, (some .int), [])
abbrev Y_X11_board : Yd := (yX11_board, cX11_board, 6, (some .int), [])
abbrev Y_X11_change : Yd := (yX11_change, cX11_change, 4, (some .int), [])
abbrev Y_X11_leave : Yd := (yX11_leave, cX11_leave, 3, (some .int), [])
abbrev Y_X11_setNeeds : Yd := (yX11_setNeeds, cX11_setNeeds, 4, (some .int), [])
abbrev Y_X11_whyNotLoad : Yd := (yX11_whyNotLoad, cX11_whyNotLoad, 1, (some .int), [])
abbrev Y_X11_storesOrder : Yd := (yX11_storesOrder, cX11_storesOrder, 4, (some .int), [])
abbrev Y_X11_loadOrder : Yd := (yX11_loadOrder, cX11_loadOrder, 2, (some .int), [])
abbrev Y_X11_wrongUnits : Yd := (yX11_wrongUnits, cX11_wrongUnits, 3, (some .int), [])
abbrev Y_X11_store : Yd := (yX11_store, cX11_store, 4, (some .int), [])
abbrev Y_X11_takesOut : Yd := (yX11_takesOut, cX11_takesOut, 3, none, [])
abbrev Y_X11_unload : Yd := (yX11_unload, cX11_unload, 4, (some .int), [])
abbrev Y_X11_whyNotTopUp : Yd := (yX11_whyNotTopUp, cX11_whyNotTopUp, 1, (some .int), [])
abbrev Y_X11_topUp : Yd := (yX11_topUp, cX11_topUp, 4, (some .int), [])
abbrev Y_X11_arrives : Yd := (yX11_arrives, cX11_arrives, 4, (some .int), [])
abbrev Y_X11_advance : Yd := (yX11_advance, cX11_advance, 3, (some .int), [])
abbrev Y_X11_reason : Yd := (yX11_reason, cX11_reason, 1, (some .int), [])
abbrev Y_X11_laysUnits : Yd := (yX11_laysUnits, cX11_laysUnits, 2, none, [])
abbrev Y_X11_freeMeal : Yd := (yX11_freeMeal, cX11_freeMeal, 7, (some .int), [])
abbrev Y_X11_finds : Yd := (yX11_finds, cX11_finds, 5, (some .boolean), [])
abbrev Y_X11_matches : Yd := (yX11_matches, cX11_matches, 3, (some .int), [])
abbrev Y_X11_fixes : Yd := (yX11_fixes, cX11_fixes, 4, none, [])
abbrev Y_X11_mostUnits : Yd := (yX11_mostUnits, cX11_mostUnits, 5, (some .int), [])
abbrev Y_X11_servesPlain : Yd := (yX11_servesPlain, cX11_servesPlain, 4, none, [])
abbrev Y_X11_matchesSpecial : Yd := (yX11_matchesSpecial, cX11_matchesSpecial, 3, none, [])
abbrev Y_X11_laysService : Yd := (yX11_laysService, cX11_laysService, 2, none, [])
abbrev Y_X11_eatenOf : Yd := (yX11_eatenOf, cX11_eatenOf, 4, (some .int), [])
abbrev Y_X11_eaten : Yd := (yX11_eaten, cX11_eaten, 1, (some .int), [])
abbrev Y_X11_specialFed : Yd := (yX11_specialFed, cX11_specialFed, 3, (some .int), [])
abbrev Y_X11_wishes : Yd := (yX11_wishes, cX11_wishes, 3, (some .int), [])
abbrev Y_X11_wastedCost : Yd := (yX11_wastedCost, cX11_wastedCost, 3, (some .int), [])
abbrev Y_X11_outlook : Yd := (yX11_outlook, cX11_outlook, 2, (some .int), [])
abbrev Y_X11_mealFor : Yd := (yX11_mealFor, cX11_mealFor, 2, (some .int), [])
abbrev Y_X11_serve : Yd := (yX11_serve, cX11_serve, 4, (some .int), [])
abbrev Y_X11_account : Yd := (yX11_account, cX11_account, 2, (some .long), [])
abbrev Y_X11_shareNow : Yd := (yX11_shareNow, cX11_shareNow, 1, (some .float), [])
abbrev Y_X11_wasteShare : Yd := (yX11_wasteShare, cX11_wasteShare, 1, (some .float), [])
abbrev Y_Jxf58ca_isNaN_12338 : Yd := (yJxf58ca_isNaN_12338, cJxf58ca_isNaN_12338, 1, (some .boolean), [])
abbrev Y_Jxf58ca_floatToIntBits_5c35a : Yd := (yJxf58ca_floatToIntBits_5c35a, cJxf58ca_floatToIntBits_5c35a, 1, (some .int), [])
abbrev Y_X11_wasteBits : Yd := (yX11_wasteBits, cX11_wasteBits, 1, (some .int), [])
abbrev Y_Jxe99ae_isNaN_b9ae7 : Yd := (yJxe99ae_isNaN_b9ae7, cJxe99ae_isNaN_b9ae7, 2, (some .boolean), [])
abbrev Y_Jxe99ae_doubleToLongBits_ccdee : Yd := (yJxe99ae_doubleToLongBits_ccdee, cJxe99ae_doubleToLongBits_ccdee, 2, (some .long), [])
abbrev Y_X11_costBits : Yd := (yX11_costBits, cX11_costBits, 1, (some .long), [])
abbrev Y_X11_says : Yd := (yX11_says, cX11_says, 2, none, [])
abbrev Y_X11_saysNumber : Yd := (yX11_saysNumber, cX11_saysNumber, 2, none, [])
abbrev Y_X11_saysName : Yd := (yX11_saysName, cX11_saysName, 5, none, [])
abbrev Y_X11_writeTrolley : Yd := (yX11_writeTrolley, cX11_writeTrolley, 4, (some .int), [])
abbrev Y_X11_outputByte : Yd := (yX11_outputByte, cX11_outputByte, 2, (some .int), [])
abbrev Y_J9_max_7cf53 : Yd := (yJ9_max_7cf53, cJ9_max_7cf53, 2, (some .int), [])
abbrev Y_J9_min_7cf53 : Yd := (yJ9_min_7cf53, cJ9_min_7cf53, 2, (some .int), [])
def wl_0 : List (Nat × Cond) := [(1, Cond.selects RX10 yX10_appendBytes yX10_appendBytes), (0, Cond.selects RX9 yX9_readNumber yX9_readNumber), (0, Cond.selects RX2 yX2_readStatement yX2_readStatement), (0, Cond.selects RX2 yX2_readTime yX2_readTime), (0, Cond.selects RX2 yX2_nextNumber yX2_nextNumber), (0, Cond.selects RX2 yX2_numberHere yX2_numberHere), (0, Cond.selects RX2 yX2_fail yX2_fail), (0, Cond.selects RX2 yX2_signHere yX2_signHere), (0, Cond.selects RX2 yX2_readLead yX2_readLead), (0, Cond.selects RX2 yX2_readCabin yX2_readCabin), (0, Cond.selects RX2 yX2_nameHere yX2_nameHere), (0, Cond.selects RX2 yX2_cabinHere yX2_cabinHere), (0, Cond.selects RX2 yX2_readMeal yX2_readMeal), (0, Cond.selects RX2 yX2_mealHere yX2_mealHere), (0, Cond.selects RX2 yX2_readPlace yX2_readPlace), (0, Cond.selects RX2 yX2_nextCabin yX2_nextCabin), (0, Cond.selects RX2 yX2_nextDiets yX2_nextDiets), (0, Cond.selects RX2 yX2_readTrolley yX2_readTrolley), (0, Cond.selects RX2 yX2_readGuests yX2_readGuests), (0, Cond.selects RX2 yX2_readGuest yX2_readGuest)]
set_option maxRecDepth 50000 in
theorem wc_0 : chk wl_0 lw_tbl = true := by decide +kernel
theorem se_X10_appendBytes : Cond.selects RX10 yX10_appendBytes yX10_appendBytes ∈ lwa := chk_in wc_0 0 rfl
theorem se_X9_readNumber : Cond.selects RX9 yX9_readNumber yX9_readNumber ∈ lwa := chk_in wc_0 1 rfl
theorem se_X2_readStatement : Cond.selects RX2 yX2_readStatement yX2_readStatement ∈ lwa := chk_in wc_0 2 rfl
theorem se_X2_readTime : Cond.selects RX2 yX2_readTime yX2_readTime ∈ lwa := chk_in wc_0 3 rfl
theorem se_X2_nextNumber : Cond.selects RX2 yX2_nextNumber yX2_nextNumber ∈ lwa := chk_in wc_0 4 rfl
theorem se_X2_numberHere : Cond.selects RX2 yX2_numberHere yX2_numberHere ∈ lwa := chk_in wc_0 5 rfl
theorem se_X2_fail : Cond.selects RX2 yX2_fail yX2_fail ∈ lwa := chk_in wc_0 6 rfl
theorem se_X2_signHere : Cond.selects RX2 yX2_signHere yX2_signHere ∈ lwa := chk_in wc_0 7 rfl
theorem se_X2_readLead : Cond.selects RX2 yX2_readLead yX2_readLead ∈ lwa := chk_in wc_0 8 rfl
theorem se_X2_readCabin : Cond.selects RX2 yX2_readCabin yX2_readCabin ∈ lwa := chk_in wc_0 9 rfl
theorem se_X2_nameHere : Cond.selects RX2 yX2_nameHere yX2_nameHere ∈ lwa := chk_in wc_0 10 rfl
theorem se_X2_cabinHere : Cond.selects RX2 yX2_cabinHere yX2_cabinHere ∈ lwa := chk_in wc_0 11 rfl
theorem se_X2_readMeal : Cond.selects RX2 yX2_readMeal yX2_readMeal ∈ lwa := chk_in wc_0 12 rfl
theorem se_X2_mealHere : Cond.selects RX2 yX2_mealHere yX2_mealHere ∈ lwa := chk_in wc_0 13 rfl
theorem se_X2_readPlace : Cond.selects RX2 yX2_readPlace yX2_readPlace ∈ lwa := chk_in wc_0 14 rfl
theorem se_X2_nextCabin : Cond.selects RX2 yX2_nextCabin yX2_nextCabin ∈ lwa := chk_in wc_0 15 rfl
theorem se_X2_nextDiets : Cond.selects RX2 yX2_nextDiets yX2_nextDiets ∈ lwa := chk_in wc_0 16 rfl
theorem se_X2_readTrolley : Cond.selects RX2 yX2_readTrolley yX2_readTrolley ∈ lwa := chk_in wc_0 17 rfl
theorem se_X2_readGuests : Cond.selects RX2 yX2_readGuests yX2_readGuests ∈ lwa := chk_in wc_0 18 rfl
theorem se_X2_readGuest : Cond.selects RX2 yX2_readGuest yX2_readGuest ∈ lwa := chk_in wc_0 19 rfl
def wl_1 : List (Nat × Cond) := [(21, Cond.selects RX2 yX2_nextWish yX2_nextWish), (0, Cond.selects RX10 yX10_forgetPast yX10_forgetPast), (0, Cond.selects RX10 yX10_freshOrder yX10_freshOrder), (0, Cond.selects RX6 yX6_divide yX6_divide), (0, Cond.selects RX6 yX6_greatestRemainder yX6_greatestRemainder), (0, Cond.selects RX10 yX10_requireCabin yX10_requireCabin), (0, Cond.selects RX10 yX10_requireMeal yX10_requireMeal), (0, Cond.selects RX10 yX10_freshService yX10_freshService), (0, Cond.selects RX4 yX4_begin yX4_begin), (0, Cond.selects RX4 yX4_matchOneMore yX4_matchOneMore), (0, Cond.selects RX4 yX4_reach yX4_reach), (0, Cond.selects RX4 yX4_moveAlong yX4_moveAlong), (0, Cond.selects RX4 yX4_findMover yX4_findMover), (0, Cond.selects RX4 yX4_canHave yX4_canHave), (0, Cond.selects RX4 yX4_giveBack yX4_giveBack), (0, Cond.selects RX8 yX8_give yX8_give), (0, Cond.selects RX8 yX8_servePlain yX8_servePlain), (0, Cond.selects RX8 yX8_mostLeft yX8_mostLeft), (0, Cond.selects RX8 yX8_addUpWaste yX8_addUpWaste), (0, Cond.selects RX10 yX10_requirePassenger yX10_requirePassenger)]
set_option maxRecDepth 50000 in
theorem wc_1 : chk wl_1 lw_tbl = true := by decide +kernel
theorem se_X2_nextWish : Cond.selects RX2 yX2_nextWish yX2_nextWish ∈ lwa := chk_in wc_1 0 rfl
theorem se_X10_forgetPast : Cond.selects RX10 yX10_forgetPast yX10_forgetPast ∈ lwa := chk_in wc_1 1 rfl
theorem se_X10_freshOrder : Cond.selects RX10 yX10_freshOrder yX10_freshOrder ∈ lwa := chk_in wc_1 2 rfl
theorem se_X6_divide : Cond.selects RX6 yX6_divide yX6_divide ∈ lwa := chk_in wc_1 3 rfl
theorem se_X6_greatestRemainder : Cond.selects RX6 yX6_greatestRemainder yX6_greatestRemainder ∈ lwa := chk_in wc_1 4 rfl
theorem se_X10_requireCabin : Cond.selects RX10 yX10_requireCabin yX10_requireCabin ∈ lwa := chk_in wc_1 5 rfl
theorem se_X10_requireMeal : Cond.selects RX10 yX10_requireMeal yX10_requireMeal ∈ lwa := chk_in wc_1 6 rfl
theorem se_X10_freshService : Cond.selects RX10 yX10_freshService yX10_freshService ∈ lwa := chk_in wc_1 7 rfl
theorem se_X4_begin : Cond.selects RX4 yX4_begin yX4_begin ∈ lwa := chk_in wc_1 8 rfl
theorem se_X4_matchOneMore : Cond.selects RX4 yX4_matchOneMore yX4_matchOneMore ∈ lwa := chk_in wc_1 9 rfl
theorem se_X4_reach : Cond.selects RX4 yX4_reach yX4_reach ∈ lwa := chk_in wc_1 10 rfl
theorem se_X4_moveAlong : Cond.selects RX4 yX4_moveAlong yX4_moveAlong ∈ lwa := chk_in wc_1 11 rfl
theorem se_X4_findMover : Cond.selects RX4 yX4_findMover yX4_findMover ∈ lwa := chk_in wc_1 12 rfl
theorem se_X4_canHave : Cond.selects RX4 yX4_canHave yX4_canHave ∈ lwa := chk_in wc_1 13 rfl
theorem se_X4_giveBack : Cond.selects RX4 yX4_giveBack yX4_giveBack ∈ lwa := chk_in wc_1 14 rfl
theorem se_X8_give : Cond.selects RX8 yX8_give yX8_give ∈ lwa := chk_in wc_1 15 rfl
theorem se_X8_servePlain : Cond.selects RX8 yX8_servePlain yX8_servePlain ∈ lwa := chk_in wc_1 16 rfl
theorem se_X8_mostLeft : Cond.selects RX8 yX8_mostLeft yX8_mostLeft ∈ lwa := chk_in wc_1 17 rfl
theorem se_X8_addUpWaste : Cond.selects RX8 yX8_addUpWaste yX8_addUpWaste ∈ lwa := chk_in wc_1 18 rfl
theorem se_X10_requirePassenger : Cond.selects RX10 yX10_requirePassenger yX10_requirePassenger ∈ lwa := chk_in wc_1 19 rfl
def wl_2 : List (Nat × Cond) := [(41, Cond.selects RX10 yX10_requireTrolley yX10_requireTrolley), (0, Cond.selects RX10 yX10_requireNeeds yX10_requireNeeds), (0, Cond.selects RX10 yX10_requireFlight yX10_requireFlight), (0, Cond.selects RX10 yX10_refuse yX10_refuse), (0, Cond.selects RX10 yX10_requireSeat yX10_requireSeat), (0, Cond.selects RX10 yX10_beginAct yX10_beginAct), (0, Cond.selects RX10 yX10_requireOpen yX10_requireOpen), (0, Cond.selects RX10 yX10_requireUnits yX10_requireUnits), (0, Cond.selects RX10 yX10_requireSlot yX10_requireSlot), (0, Cond.selects RX10 yX10_writeSign yX10_writeSign), (0, Cond.selects RX10 yX10_writeUnits yX10_writeUnits), (0, Cond.selects RX11 yX11_isRefused yX11_isRefused), (0, Cond.selects RX11 yX11_phase yX11_phase), (0, Cond.selects RX11 yX11_refuse yX11_refuse), (0, Cond.selects RX11 yX11_lays yX11_lays), (0, Cond.selects RX11 yX11_told yX11_told), (0, Cond.selects RX11 yX11_readFlight yX11_readFlight), (0, Cond.selects RX11 yX11_peek yX11_peek), (0, Cond.selects RX11 yX11_byteAt yX11_byteAt), (0, Cond.selects RX11 yX11_readStatement yX11_readStatement)]
set_option maxRecDepth 50000 in
theorem wc_2 : chk wl_2 lw_tbl = true := by decide +kernel
theorem se_X10_requireTrolley : Cond.selects RX10 yX10_requireTrolley yX10_requireTrolley ∈ lwa := chk_in wc_2 0 rfl
theorem se_X10_requireNeeds : Cond.selects RX10 yX10_requireNeeds yX10_requireNeeds ∈ lwa := chk_in wc_2 1 rfl
theorem se_X10_requireFlight : Cond.selects RX10 yX10_requireFlight yX10_requireFlight ∈ lwa := chk_in wc_2 2 rfl
theorem se_X10_refuse : Cond.selects RX10 yX10_refuse yX10_refuse ∈ lwa := chk_in wc_2 3 rfl
theorem se_X10_requireSeat : Cond.selects RX10 yX10_requireSeat yX10_requireSeat ∈ lwa := chk_in wc_2 4 rfl
theorem se_X10_beginAct : Cond.selects RX10 yX10_beginAct yX10_beginAct ∈ lwa := chk_in wc_2 5 rfl
theorem se_X10_requireOpen : Cond.selects RX10 yX10_requireOpen yX10_requireOpen ∈ lwa := chk_in wc_2 6 rfl
theorem se_X10_requireUnits : Cond.selects RX10 yX10_requireUnits yX10_requireUnits ∈ lwa := chk_in wc_2 7 rfl
theorem se_X10_requireSlot : Cond.selects RX10 yX10_requireSlot yX10_requireSlot ∈ lwa := chk_in wc_2 8 rfl
theorem se_X10_writeSign : Cond.selects RX10 yX10_writeSign yX10_writeSign ∈ lwa := chk_in wc_2 9 rfl
theorem se_X10_writeUnits : Cond.selects RX10 yX10_writeUnits yX10_writeUnits ∈ lwa := chk_in wc_2 10 rfl
theorem se_X11_isRefused : Cond.selects RX11 yX11_isRefused yX11_isRefused ∈ lwa := chk_in wc_2 11 rfl
theorem se_X11_phase : Cond.selects RX11 yX11_phase yX11_phase ∈ lwa := chk_in wc_2 12 rfl
theorem se_X11_refuse : Cond.selects RX11 yX11_refuse yX11_refuse ∈ lwa := chk_in wc_2 13 rfl
theorem se_X11_lays : Cond.selects RX11 yX11_lays yX11_lays ∈ lwa := chk_in wc_2 14 rfl
theorem se_X11_told : Cond.selects RX11 yX11_told yX11_told ∈ lwa := chk_in wc_2 15 rfl
theorem se_X11_readFlight : Cond.selects RX11 yX11_readFlight yX11_readFlight ∈ lwa := chk_in wc_2 16 rfl
theorem se_X11_peek : Cond.selects RX11 yX11_peek yX11_peek ∈ lwa := chk_in wc_2 17 rfl
theorem se_X11_byteAt : Cond.selects RX11 yX11_byteAt yX11_byteAt ∈ lwa := chk_in wc_2 18 rfl
theorem se_X11_readStatement : Cond.selects RX11 yX11_readStatement yX11_readStatement ∈ lwa := chk_in wc_2 19 rfl
def wl_3 : List (Nat × Cond) := [(61, Cond.selects RX11 yX11_nextWord yX11_nextWord), (0, Cond.selects RX11 yX11_letters yX11_letters), (0, Cond.selects RX11 yX11_fails yX11_fails), (0, Cond.selects RX11 yX11_isFull yX11_isFull), (0, Cond.selects RX11 yX11_passes yX11_passes), (0, Cond.selects RX11 yX11_readBehind yX11_readBehind), (0, Cond.selects RX11 yX11_readTime yX11_readTime), (0, Cond.selects RX11 yX11_readNumber yX11_readNumber), (0, Cond.selects RX11 yX11_looksNumber yX11_looksNumber), (0, Cond.selects RX11 yX11_readLead yX11_readLead), (0, Cond.selects RX11 yX11_readCabin yX11_readCabin), (0, Cond.selects RX11 yX11_looksName yX11_looksName), (0, Cond.selects RX11 yX11_cabinNamed yX11_cabinNamed), (0, Cond.selects RX11 yX11_readMeal yX11_readMeal), (0, Cond.selects RX11 yX11_mealNamed yX11_mealNamed), (0, Cond.selects RX11 yX11_readMenu yX11_readMenu), (0, Cond.selects RX11 yX11_passesWord yX11_passesWord), (0, Cond.selects RX11 yX11_readCabinName yX11_readCabinName), (0, Cond.selects RX11 yX11_looksCabin yX11_looksCabin), (0, Cond.selects RX11 yX11_readDiets yX11_readDiets)]
set_option maxRecDepth 50000 in
theorem wc_3 : chk wl_3 lw_tbl = true := by decide +kernel
theorem se_X11_nextWord : Cond.selects RX11 yX11_nextWord yX11_nextWord ∈ lwa := chk_in wc_3 0 rfl
theorem se_X11_letters : Cond.selects RX11 yX11_letters yX11_letters ∈ lwa := chk_in wc_3 1 rfl
theorem se_X11_fails : Cond.selects RX11 yX11_fails yX11_fails ∈ lwa := chk_in wc_3 2 rfl
theorem se_X11_isFull : Cond.selects RX11 yX11_isFull yX11_isFull ∈ lwa := chk_in wc_3 3 rfl
theorem se_X11_passes : Cond.selects RX11 yX11_passes yX11_passes ∈ lwa := chk_in wc_3 4 rfl
theorem se_X11_readBehind : Cond.selects RX11 yX11_readBehind yX11_readBehind ∈ lwa := chk_in wc_3 5 rfl
theorem se_X11_readTime : Cond.selects RX11 yX11_readTime yX11_readTime ∈ lwa := chk_in wc_3 6 rfl
theorem se_X11_readNumber : Cond.selects RX11 yX11_readNumber yX11_readNumber ∈ lwa := chk_in wc_3 7 rfl
theorem se_X11_looksNumber : Cond.selects RX11 yX11_looksNumber yX11_looksNumber ∈ lwa := chk_in wc_3 8 rfl
theorem se_X11_readLead : Cond.selects RX11 yX11_readLead yX11_readLead ∈ lwa := chk_in wc_3 9 rfl
theorem se_X11_readCabin : Cond.selects RX11 yX11_readCabin yX11_readCabin ∈ lwa := chk_in wc_3 10 rfl
theorem se_X11_looksName : Cond.selects RX11 yX11_looksName yX11_looksName ∈ lwa := chk_in wc_3 11 rfl
theorem se_X11_cabinNamed : Cond.selects RX11 yX11_cabinNamed yX11_cabinNamed ∈ lwa := chk_in wc_3 12 rfl
theorem se_X11_readMeal : Cond.selects RX11 yX11_readMeal yX11_readMeal ∈ lwa := chk_in wc_3 13 rfl
theorem se_X11_mealNamed : Cond.selects RX11 yX11_mealNamed yX11_mealNamed ∈ lwa := chk_in wc_3 14 rfl
theorem se_X11_readMenu : Cond.selects RX11 yX11_readMenu yX11_readMenu ∈ lwa := chk_in wc_3 15 rfl
theorem se_X11_passesWord : Cond.selects RX11 yX11_passesWord yX11_passesWord ∈ lwa := chk_in wc_3 16 rfl
theorem se_X11_readCabinName : Cond.selects RX11 yX11_readCabinName yX11_readCabinName ∈ lwa := chk_in wc_3 17 rfl
theorem se_X11_looksCabin : Cond.selects RX11 yX11_looksCabin yX11_looksCabin ∈ lwa := chk_in wc_3 18 rfl
theorem se_X11_readDiets : Cond.selects RX11 yX11_readDiets yX11_readDiets ∈ lwa := chk_in wc_3 19 rfl
def wl_4 : List (Nat × Cond) := [(81, Cond.selects RX11 yX11_readTrolley yX11_readTrolley), (0, Cond.selects RX11 yX11_readGuests yX11_readGuests), (0, Cond.selects RX11 yX11_draftFree yX11_draftFree), (0, Cond.selects RX11 yX11_adds yX11_adds), (0, Cond.selects RX11 yX11_readGuest yX11_readGuest), (0, Cond.selects RX11 yX11_readSemicolon yX11_readSemicolon), (0, Cond.selects RX11 yX11_takesFlight yX11_takesFlight), (0, Cond.selects RX11 yX11_allLoaded yX11_allLoaded), (0, Cond.selects RX11 yX11_meals yX11_meals), (0, Cond.selects RX11 yX11_loadedOf yX11_loadedOf), (0, Cond.selects RX11 yX11_trolleys yX11_trolleys), (0, Cond.selects RX11 yX11_orderUnits yX11_orderUnits), (0, Cond.selects RX11 yX11_laysOrder yX11_laysOrder), (0, Cond.selects RX11 yX11_isSpecial yX11_isSpecial), (0, Cond.selects RX11 yX11_of yX11_of), (0, Cond.selects RX11 yX11_cheapest yX11_cheapest), (0, Cond.selects RX11 yX11_suits yX11_suits), (0, Cond.selects RX11 yX11_ofMeal yX11_ofMeal), (0, Cond.selects RX11 yX11_cabins yX11_cabins), (0, Cond.selects RX11 yX11_ordersFor yX11_ordersFor)]
set_option maxRecDepth 50000 in
theorem wc_4 : chk wl_4 lw_tbl = true := by decide +kernel
theorem se_X11_readTrolley : Cond.selects RX11 yX11_readTrolley yX11_readTrolley ∈ lwa := chk_in wc_4 0 rfl
theorem se_X11_readGuests : Cond.selects RX11 yX11_readGuests yX11_readGuests ∈ lwa := chk_in wc_4 1 rfl
theorem se_X11_draftFree : Cond.selects RX11 yX11_draftFree yX11_draftFree ∈ lwa := chk_in wc_4 2 rfl
theorem se_X11_adds : Cond.selects RX11 yX11_adds yX11_adds ∈ lwa := chk_in wc_4 3 rfl
theorem se_X11_readGuest : Cond.selects RX11 yX11_readGuest yX11_readGuest ∈ lwa := chk_in wc_4 4 rfl
theorem se_X11_readSemicolon : Cond.selects RX11 yX11_readSemicolon yX11_readSemicolon ∈ lwa := chk_in wc_4 5 rfl
theorem se_X11_takesFlight : Cond.selects RX11 yX11_takesFlight yX11_takesFlight ∈ lwa := chk_in wc_4 6 rfl
theorem se_X11_allLoaded : Cond.selects RX11 yX11_allLoaded yX11_allLoaded ∈ lwa := chk_in wc_4 7 rfl
theorem se_X11_meals : Cond.selects RX11 yX11_meals yX11_meals ∈ lwa := chk_in wc_4 8 rfl
theorem se_X11_loadedOf : Cond.selects RX11 yX11_loadedOf yX11_loadedOf ∈ lwa := chk_in wc_4 9 rfl
theorem se_X11_trolleys : Cond.selects RX11 yX11_trolleys yX11_trolleys ∈ lwa := chk_in wc_4 10 rfl
theorem se_X11_orderUnits : Cond.selects RX11 yX11_orderUnits yX11_orderUnits ∈ lwa := chk_in wc_4 11 rfl
theorem se_X11_laysOrder : Cond.selects RX11 yX11_laysOrder yX11_laysOrder ∈ lwa := chk_in wc_4 12 rfl
theorem se_X11_isSpecial : Cond.selects RX11 yX11_isSpecial yX11_isSpecial ∈ lwa := chk_in wc_4 13 rfl
theorem se_X11_of : Cond.selects RX11 yX11_of yX11_of ∈ lwa := chk_in wc_4 14 rfl
theorem se_X11_cheapest : Cond.selects RX11 yX11_cheapest yX11_cheapest ∈ lwa := chk_in wc_4 15 rfl
theorem se_X11_suits : Cond.selects RX11 yX11_suits yX11_suits ∈ lwa := chk_in wc_4 16 rfl
theorem se_X11_ofMeal : Cond.selects RX11 yX11_ofMeal yX11_ofMeal ∈ lwa := chk_in wc_4 17 rfl
theorem se_X11_cabins : Cond.selects RX11 yX11_cabins yX11_cabins ∈ lwa := chk_in wc_4 18 rfl
theorem se_X11_ordersFor : Cond.selects RX11 yX11_ordersFor yX11_ordersFor ∈ lwa := chk_in wc_4 19 rfl
def wl_5 : List (Nat × Cond) := [(101, Cond.selects RX11 yX11_plainIn yX11_plainIn), (0, Cond.selects RX11 yX11_sharesOf yX11_sharesOf), (0, Cond.selects RX11 yX11_ofCabin yX11_ofCabin), (0, Cond.selects RX11 yX11_greatestRemainder yX11_greatestRemainder), (0, Cond.selects RX11 yX11_isCabin yX11_isCabin), (0, Cond.selects RX11 yX11_passengersIn yX11_passengersIn), (0, Cond.selects RX11 yX11_trolleysOf yX11_trolleysOf), (0, Cond.selects RX11 yX11_ofTrolley yX11_ofTrolley), (0, Cond.selects RX11 yX11_freeOf yX11_freeOf), (0, Cond.selects RX11 yX11_menuOf yX11_menuOf), (0, Cond.selects RX11 yX11_orderSlots yX11_orderSlots), (0, Cond.selects RX11 yX11_isMeal yX11_isMeal), (0, Cond.selects RX11 yX11_comingOf yX11_comingOf), (0, Cond.selects RX11 yX11_missingOf yX11_missingOf), (0, Cond.selects RX11 yX11_isPassenger yX11_isPassenger), (0, Cond.selects RX11 yX11_suiting yX11_suiting), (0, Cond.selects RX11 yX11_isTrolley yX11_isTrolley), (0, Cond.selects RX11 yX11_unitsIn yX11_unitsIn), (0, Cond.selects RX11 yX11_wrongBoarding yX11_wrongBoarding), (0, Cond.selects RX11 yX11_isGoing yX11_isGoing)]
set_option maxRecDepth 50000 in
theorem wc_5 : chk wl_5 lw_tbl = true := by decide +kernel
theorem se_X11_plainIn : Cond.selects RX11 yX11_plainIn yX11_plainIn ∈ lwa := chk_in wc_5 0 rfl
theorem se_X11_sharesOf : Cond.selects RX11 yX11_sharesOf yX11_sharesOf ∈ lwa := chk_in wc_5 1 rfl
theorem se_X11_ofCabin : Cond.selects RX11 yX11_ofCabin yX11_ofCabin ∈ lwa := chk_in wc_5 2 rfl
theorem se_X11_greatestRemainder : Cond.selects RX11 yX11_greatestRemainder yX11_greatestRemainder ∈ lwa := chk_in wc_5 3 rfl
theorem se_X11_isCabin : Cond.selects RX11 yX11_isCabin yX11_isCabin ∈ lwa := chk_in wc_5 4 rfl
theorem se_X11_passengersIn : Cond.selects RX11 yX11_passengersIn yX11_passengersIn ∈ lwa := chk_in wc_5 5 rfl
theorem se_X11_trolleysOf : Cond.selects RX11 yX11_trolleysOf yX11_trolleysOf ∈ lwa := chk_in wc_5 6 rfl
theorem se_X11_ofTrolley : Cond.selects RX11 yX11_ofTrolley yX11_ofTrolley ∈ lwa := chk_in wc_5 7 rfl
theorem se_X11_freeOf : Cond.selects RX11 yX11_freeOf yX11_freeOf ∈ lwa := chk_in wc_5 8 rfl
theorem se_X11_menuOf : Cond.selects RX11 yX11_menuOf yX11_menuOf ∈ lwa := chk_in wc_5 9 rfl
theorem se_X11_orderSlots : Cond.selects RX11 yX11_orderSlots yX11_orderSlots ∈ lwa := chk_in wc_5 10 rfl
theorem se_X11_isMeal : Cond.selects RX11 yX11_isMeal yX11_isMeal ∈ lwa := chk_in wc_5 11 rfl
theorem se_X11_comingOf : Cond.selects RX11 yX11_comingOf yX11_comingOf ∈ lwa := chk_in wc_5 12 rfl
theorem se_X11_missingOf : Cond.selects RX11 yX11_missingOf yX11_missingOf ∈ lwa := chk_in wc_5 13 rfl
theorem se_X11_isPassenger : Cond.selects RX11 yX11_isPassenger yX11_isPassenger ∈ lwa := chk_in wc_5 14 rfl
theorem se_X11_suiting : Cond.selects RX11 yX11_suiting yX11_suiting ∈ lwa := chk_in wc_5 15 rfl
theorem se_X11_isTrolley : Cond.selects RX11 yX11_isTrolley yX11_isTrolley ∈ lwa := chk_in wc_5 16 rfl
theorem se_X11_unitsIn : Cond.selects RX11 yX11_unitsIn yX11_unitsIn ∈ lwa := chk_in wc_5 17 rfl
theorem se_X11_wrongBoarding : Cond.selects RX11 yX11_wrongBoarding yX11_wrongBoarding ∈ lwa := chk_in wc_5 18 rfl
theorem se_X11_isGoing : Cond.selects RX11 yX11_isGoing yX11_isGoing ∈ lwa := chk_in wc_5 19 rfl
def wl_6 : List (Nat × Cond) := [(121, Cond.selects RX11 yX11_hasSeat yX11_hasSeat), (0, Cond.selects RX11 yX11_refuses yX11_refuses), (0, Cond.selects RX11 yX11_remembers yX11_remembers), (0, Cond.selects RX11 yX11_whyNotLoad yX11_whyNotLoad), (0, Cond.selects RX11 yX11_marksUnits yX11_marksUnits), (0, Cond.selects RX11 yX11_storesOrder yX11_storesOrder), (0, Cond.selects RX11 yX11_storesMany yX11_storesMany), (0, Cond.selects RX11 yX11_storesOne yX11_storesOne), (0, Cond.selects RX11 yX11_takesMeal yX11_takesMeal), (0, Cond.selects RX11 yX11_unitsBack yX11_unitsBack), (0, Cond.selects RX11 yX11_wrongUnits yX11_wrongUnits), (0, Cond.selects RX11 yX11_takesOut yX11_takesOut), (0, Cond.selects RX11 yX11_whyNotTopUp yX11_whyNotTopUp), (0, Cond.selects RX11 yX11_arrives yX11_arrives), (0, Cond.selects RX11 yX11_laysService yX11_laysService), (0, Cond.selects RX11 yX11_matchesSpecial yX11_matchesSpecial), (0, Cond.selects RX11 yX11_matches yX11_matches), (0, Cond.selects RX11 yX11_laysUnits yX11_laysUnits), (0, Cond.selects RX11 yX11_finds yX11_finds), (0, Cond.selects RX11 yX11_freeMeal yX11_freeMeal)]
set_option maxRecDepth 50000 in
theorem wc_6 : chk wl_6 lw_tbl = true := by decide +kernel
theorem se_X11_hasSeat : Cond.selects RX11 yX11_hasSeat yX11_hasSeat ∈ lwa := chk_in wc_6 0 rfl
theorem se_X11_refuses : Cond.selects RX11 yX11_refuses yX11_refuses ∈ lwa := chk_in wc_6 1 rfl
theorem se_X11_remembers : Cond.selects RX11 yX11_remembers yX11_remembers ∈ lwa := chk_in wc_6 2 rfl
theorem se_X11_whyNotLoad : Cond.selects RX11 yX11_whyNotLoad yX11_whyNotLoad ∈ lwa := chk_in wc_6 3 rfl
theorem se_X11_marksUnits : Cond.selects RX11 yX11_marksUnits yX11_marksUnits ∈ lwa := chk_in wc_6 4 rfl
theorem se_X11_storesOrder : Cond.selects RX11 yX11_storesOrder yX11_storesOrder ∈ lwa := chk_in wc_6 5 rfl
theorem se_X11_storesMany : Cond.selects RX11 yX11_storesMany yX11_storesMany ∈ lwa := chk_in wc_6 6 rfl
theorem se_X11_storesOne : Cond.selects RX11 yX11_storesOne yX11_storesOne ∈ lwa := chk_in wc_6 7 rfl
theorem se_X11_takesMeal : Cond.selects RX11 yX11_takesMeal yX11_takesMeal ∈ lwa := chk_in wc_6 8 rfl
theorem se_X11_unitsBack : Cond.selects RX11 yX11_unitsBack yX11_unitsBack ∈ lwa := chk_in wc_6 9 rfl
theorem se_X11_wrongUnits : Cond.selects RX11 yX11_wrongUnits yX11_wrongUnits ∈ lwa := chk_in wc_6 10 rfl
theorem se_X11_takesOut : Cond.selects RX11 yX11_takesOut yX11_takesOut ∈ lwa := chk_in wc_6 11 rfl
theorem se_X11_whyNotTopUp : Cond.selects RX11 yX11_whyNotTopUp yX11_whyNotTopUp ∈ lwa := chk_in wc_6 12 rfl
theorem se_X11_arrives : Cond.selects RX11 yX11_arrives yX11_arrives ∈ lwa := chk_in wc_6 13 rfl
theorem se_X11_laysService : Cond.selects RX11 yX11_laysService yX11_laysService ∈ lwa := chk_in wc_6 14 rfl
theorem se_X11_matchesSpecial : Cond.selects RX11 yX11_matchesSpecial yX11_matchesSpecial ∈ lwa := chk_in wc_6 15 rfl
theorem se_X11_matches : Cond.selects RX11 yX11_matches yX11_matches ∈ lwa := chk_in wc_6 16 rfl
theorem se_X11_laysUnits : Cond.selects RX11 yX11_laysUnits yX11_laysUnits ∈ lwa := chk_in wc_6 17 rfl
theorem se_X11_finds : Cond.selects RX11 yX11_finds yX11_finds ∈ lwa := chk_in wc_6 18 rfl
theorem se_X11_freeMeal : Cond.selects RX11 yX11_freeMeal yX11_freeMeal ∈ lwa := chk_in wc_6 19 rfl
def wl_7 : List (Nat × Cond) := [(141, Cond.selects RX11 yX11_fixes yX11_fixes), (0, Cond.selects RX11 yX11_servesPlain yX11_servesPlain), (0, Cond.selects RX11 yX11_mostUnits yX11_mostUnits), (0, Cond.selects RX11 yX11_specialFed yX11_specialFed), (0, Cond.selects RX11 yX11_eaten yX11_eaten), (0, Cond.selects RX11 yX11_eatenOf yX11_eatenOf), (0, Cond.selects RX11 yX11_wastedCost yX11_wastedCost), (0, Cond.selects RX11 yX11_wishes yX11_wishes), (0, Cond.selects RX11 yX11_shareNow yX11_shareNow), (0, Cond.selects RX11 yX11_says yX11_says), (0, Cond.selects RX11 yX11_saysNumber yX11_saysNumber), (0, Cond.selects RX11 yX11_saysName yX11_saysName), (1, Cond.initialized RX10), (0, Cond.initialized RX7), (0, Cond.initialized RX0), (0, Cond.initialized RX5), (0, Cond.initialized RX1), (0, Cond.initialized RX2), (0, Cond.initialized RX9), (0, Cond.initialized RX3)]
set_option maxRecDepth 50000 in
theorem wc_7 : chk wl_7 lw_tbl = true := by decide +kernel
theorem se_X11_fixes : Cond.selects RX11 yX11_fixes yX11_fixes ∈ lwa := chk_in wc_7 0 rfl
theorem se_X11_servesPlain : Cond.selects RX11 yX11_servesPlain yX11_servesPlain ∈ lwa := chk_in wc_7 1 rfl
theorem se_X11_mostUnits : Cond.selects RX11 yX11_mostUnits yX11_mostUnits ∈ lwa := chk_in wc_7 2 rfl
theorem se_X11_specialFed : Cond.selects RX11 yX11_specialFed yX11_specialFed ∈ lwa := chk_in wc_7 3 rfl
theorem se_X11_eaten : Cond.selects RX11 yX11_eaten yX11_eaten ∈ lwa := chk_in wc_7 4 rfl
theorem se_X11_eatenOf : Cond.selects RX11 yX11_eatenOf yX11_eatenOf ∈ lwa := chk_in wc_7 5 rfl
theorem se_X11_wastedCost : Cond.selects RX11 yX11_wastedCost yX11_wastedCost ∈ lwa := chk_in wc_7 6 rfl
theorem se_X11_wishes : Cond.selects RX11 yX11_wishes yX11_wishes ∈ lwa := chk_in wc_7 7 rfl
theorem se_X11_shareNow : Cond.selects RX11 yX11_shareNow yX11_shareNow ∈ lwa := chk_in wc_7 8 rfl
theorem se_X11_says : Cond.selects RX11 yX11_says yX11_says ∈ lwa := chk_in wc_7 9 rfl
theorem se_X11_saysNumber : Cond.selects RX11 yX11_saysNumber yX11_saysNumber ∈ lwa := chk_in wc_7 10 rfl
theorem se_X11_saysName : Cond.selects RX11 yX11_saysName yX11_saysName ∈ lwa := chk_in wc_7 11 rfl
theorem ini_RX10 : Cond.initialized RX10 ∈ lwa := chk_in wc_7 12 rfl
theorem ini_RX7 : Cond.initialized RX7 ∈ lwa := chk_in wc_7 13 rfl
theorem ini_RX0 : Cond.initialized RX0 ∈ lwa := chk_in wc_7 14 rfl
theorem ini_RX5 : Cond.initialized RX5 ∈ lwa := chk_in wc_7 15 rfl
theorem ini_RX1 : Cond.initialized RX1 ∈ lwa := chk_in wc_7 16 rfl
theorem ini_RX2 : Cond.initialized RX2 ∈ lwa := chk_in wc_7 17 rfl
theorem ini_RX9 : Cond.initialized RX9 ∈ lwa := chk_in wc_7 18 rfl
theorem ini_RX3 : Cond.initialized RX3 ∈ lwa := chk_in wc_7 19 rfl
def wl_8 : List (Nat × Cond) := [(162, Cond.initialized RX6), (0, Cond.initialized RX4), (0, Cond.initialized RX8), (0, Cond.initialized RX11), (5, Cond.initialized RJ7), (0, Cond.initialized RJ9), (0, Cond.initialized RJ0), (0, Cond.initialized RJ1), (0, Cond.initialized RJ3), (0, Cond.initialized RJ2), (4, Cond.initialized RJxf58ca), (0, Cond.initialized RJxe99ae), (2, Cond.methodLink RL 104 yX10_init), (0, Cond.instanceMethod yX10_init), (0, Cond.code yX10_init cX10_init 3 none), (5, Cond.methodLink RX10 22 yX7_init), (0, Cond.instanceMethod yX7_init), (0, Cond.code yX7_init cX7_init 2 none), (5, Cond.instanceMethod yX0_init), (0, Cond.code yX0_init cX0_init 1 none)]
set_option maxRecDepth 50000 in
theorem wc_8 : chk wl_8 lw_tbl = true := by decide +kernel
theorem ini_RX6 : Cond.initialized RX6 ∈ lwa := chk_in wc_8 0 rfl
theorem ini_RX4 : Cond.initialized RX4 ∈ lwa := chk_in wc_8 1 rfl
theorem ini_RX8 : Cond.initialized RX8 ∈ lwa := chk_in wc_8 2 rfl
theorem ini_RX11 : Cond.initialized RX11 ∈ lwa := chk_in wc_8 3 rfl
theorem ini_RJ7 : Cond.initialized RJ7 ∈ lwa := chk_in wc_8 4 rfl
theorem ini_RJ9 : Cond.initialized RJ9 ∈ lwa := chk_in wc_8 5 rfl
theorem ini_RJ0 : Cond.initialized RJ0 ∈ lwa := chk_in wc_8 6 rfl
theorem ini_RJ1 : Cond.initialized RJ1 ∈ lwa := chk_in wc_8 7 rfl
theorem ini_RJ3 : Cond.initialized RJ3 ∈ lwa := chk_in wc_8 8 rfl
theorem ini_RJ2 : Cond.initialized RJ2 ∈ lwa := chk_in wc_8 9 rfl
theorem ini_RJxf58ca : Cond.initialized RJxf58ca ∈ lwa := chk_in wc_8 10 rfl
theorem ini_RJxe99ae : Cond.initialized RJxe99ae ∈ lwa := chk_in wc_8 11 rfl
theorem ml_L_104 : Cond.methodLink RL 104 yX10_init ∈ lwa := chk_in wc_8 12 rfl
theorem im_X10_init : Cond.instanceMethod yX10_init ∈ lwa := chk_in wc_8 13 rfl
theorem cd_X10_init : Cond.code yX10_init cX10_init 3 none ∈ lwa := chk_in wc_8 14 rfl
theorem ml_X10_22 : Cond.methodLink RX10 22 yX7_init ∈ lwa := chk_in wc_8 15 rfl
theorem im_X7_init : Cond.instanceMethod yX7_init ∈ lwa := chk_in wc_8 16 rfl
theorem cd_X7_init : Cond.code yX7_init cX7_init 2 none ∈ lwa := chk_in wc_8 17 rfl
theorem im_X0_init : Cond.instanceMethod yX0_init ∈ lwa := chk_in wc_8 18 rfl
theorem cd_X0_init : Cond.code yX0_init cX0_init 1 none ∈ lwa := chk_in wc_8 19 rfl
def wl_9 : List (Nat × Cond) := [(205, Cond.fieldLink RX0 9 RX0 (TX0 0).2.1 (TX0 0).2.2.1), (0, Cond.fieldLink RX2 135 RX0 (TX0 0).2.1 (TX0 0).2.2.1), (0, Cond.fieldLink RX2 141 RX0 (TX0 1).2.1 (TX0 1).2.2.1), (0, Cond.fieldLink RX1 85 RX0 (TX0 1).2.1 (TX0 1).2.2.1), (0, Cond.fieldLink RX10 182 RX0 (TX0 1).2.1 (TX0 1).2.2.1), (0, Cond.fieldLink RX6 56 RX0 (TX0 2).2.1 (TX0 2).2.2.1), (0, Cond.fieldLink RX2 144 RX0 (TX0 2).2.1 (TX0 2).2.2.1), (0, Cond.fieldLink RX10 187 RX0 (TX0 2).2.1 (TX0 2).2.2.1), (0, u_lay RX0 TX0 0), (1, u_lay RX0 TX0 1), (1, u_lay RX0 TX0 2), (7, Cond.instanceMethod yX5_init), (0, Cond.code yX5_init cX5_init 1 none), (2, Cond.fieldLink RX5 9 RX5 (TX5 0).2.1 (TX5 0).2.2.1), (0, Cond.fieldLink RX2 159 RX5 (TX5 0).2.1 (TX5 0).2.2.1), (0, Cond.fieldLink RX10 424 RX5 (TX5 0).2.1 (TX5 0).2.2.1), (0, Cond.fieldLink RX7 55 RX5 (TX5 1).2.1 (TX5 1).2.2.1), (0, Cond.fieldLink RX6 72 RX5 (TX5 1).2.1 (TX5 1).2.2.1), (0, Cond.fieldLink RX8 84 RX5 (TX5 1).2.1 (TX5 1).2.2.1), (0, Cond.fieldLink RX2 179 RX5 (TX5 1).2.1 (TX5 1).2.2.1)]
set_option maxRecDepth 50000 in
theorem wc_9 : chk wl_9 lw_tbl = true := by decide +kernel
theorem fl_X0_9 : Cond.fieldLink RX0 9 RX0 (TX0 0).2.1 (TX0 0).2.2.1 ∈ lwa := chk_in wc_9 0 rfl
theorem fl_X2_135 : Cond.fieldLink RX2 135 RX0 (TX0 0).2.1 (TX0 0).2.2.1 ∈ lwa := chk_in wc_9 1 rfl
theorem fl_X2_141 : Cond.fieldLink RX2 141 RX0 (TX0 1).2.1 (TX0 1).2.2.1 ∈ lwa := chk_in wc_9 2 rfl
theorem fl_X1_85 : Cond.fieldLink RX1 85 RX0 (TX0 1).2.1 (TX0 1).2.2.1 ∈ lwa := chk_in wc_9 3 rfl
theorem fl_X10_182 : Cond.fieldLink RX10 182 RX0 (TX0 1).2.1 (TX0 1).2.2.1 ∈ lwa := chk_in wc_9 4 rfl
theorem fl_X6_56 : Cond.fieldLink RX6 56 RX0 (TX0 2).2.1 (TX0 2).2.2.1 ∈ lwa := chk_in wc_9 5 rfl
theorem fl_X2_144 : Cond.fieldLink RX2 144 RX0 (TX0 2).2.1 (TX0 2).2.2.1 ∈ lwa := chk_in wc_9 6 rfl
theorem fl_X10_187 : Cond.fieldLink RX10 187 RX0 (TX0 2).2.1 (TX0 2).2.2.1 ∈ lwa := chk_in wc_9 7 rfl
theorem ul_X0_0 : u_lay RX0 TX0 0 ∈ lwa := chk_in wc_9 8 rfl
theorem ul_X0_1 : u_lay RX0 TX0 1 ∈ lwa := chk_in wc_9 9 rfl
theorem ul_X0_2 : u_lay RX0 TX0 2 ∈ lwa := chk_in wc_9 10 rfl
theorem im_X5_init : Cond.instanceMethod yX5_init ∈ lwa := chk_in wc_9 11 rfl
theorem cd_X5_init : Cond.code yX5_init cX5_init 1 none ∈ lwa := chk_in wc_9 12 rfl
theorem fl_X5_9 : Cond.fieldLink RX5 9 RX5 (TX5 0).2.1 (TX5 0).2.2.1 ∈ lwa := chk_in wc_9 13 rfl
theorem fl_X2_159 : Cond.fieldLink RX2 159 RX5 (TX5 0).2.1 (TX5 0).2.2.1 ∈ lwa := chk_in wc_9 14 rfl
theorem fl_X10_424 : Cond.fieldLink RX10 424 RX5 (TX5 0).2.1 (TX5 0).2.2.1 ∈ lwa := chk_in wc_9 15 rfl
theorem fl_X7_55 : Cond.fieldLink RX7 55 RX5 (TX5 1).2.1 (TX5 1).2.2.1 ∈ lwa := chk_in wc_9 16 rfl
theorem fl_X6_72 : Cond.fieldLink RX6 72 RX5 (TX5 1).2.1 (TX5 1).2.2.1 ∈ lwa := chk_in wc_9 17 rfl
theorem fl_X8_84 : Cond.fieldLink RX8 84 RX5 (TX5 1).2.1 (TX5 1).2.2.1 ∈ lwa := chk_in wc_9 18 rfl
theorem fl_X2_179 : Cond.fieldLink RX2 179 RX5 (TX5 1).2.1 (TX5 1).2.2.1 ∈ lwa := chk_in wc_9 19 rfl
def wl_10 : List (Nat × Cond) := [(236, Cond.fieldLink RX10 219 RX5 (TX5 1).2.1 (TX5 1).2.2.1), (0, Cond.fieldLink RX6 76 RX5 (TX5 2).2.1 (TX5 2).2.2.1), (0, Cond.fieldLink RX2 181 RX5 (TX5 2).2.1 (TX5 2).2.2.1), (0, Cond.fieldLink RX10 223 RX5 (TX5 2).2.1 (TX5 2).2.2.1), (0, Cond.fieldLink RX6 82 RX5 (TX5 3).2.1 (TX5 3).2.2.1), (0, Cond.fieldLink RX2 166 RX5 (TX5 3).2.1 (TX5 3).2.2.1), (0, Cond.fieldLink RX10 226 RX5 (TX5 3).2.1 (TX5 3).2.2.1), (0, Cond.fieldLink RX1 113 RX5 (TX5 3).2.1 (TX5 3).2.2.1), (0, Cond.fieldLink RX8 95 RX5 (TX5 4).2.1 (TX5 4).2.2.1), (0, Cond.fieldLink RX7 64 RX5 (TX5 4).2.1 (TX5 4).2.2.1), (0, Cond.fieldLink RX2 169 RX5 (TX5 4).2.1 (TX5 4).2.2.1), (0, Cond.fieldLink RX10 227 RX5 (TX5 4).2.1 (TX5 4).2.2.1), (0, Cond.fieldLink RX7 61 RX5 (TX5 5).2.1 (TX5 5).2.2.1), (0, Cond.fieldLink RX2 172 RX5 (TX5 5).2.1 (TX5 5).2.2.1), (0, Cond.fieldLink RX10 230 RX5 (TX5 5).2.1 (TX5 5).2.2.1), (0, u_lay RX5 TX5 0), (1, u_lay RX5 TX5 1), (1, u_lay RX5 TX5 2), (1, u_lay RX5 TX5 3), (1, u_lay RX5 TX5 4)]
set_option maxRecDepth 50000 in
theorem wc_10 : chk wl_10 lw_tbl = true := by decide +kernel
theorem fl_X10_219 : Cond.fieldLink RX10 219 RX5 (TX5 1).2.1 (TX5 1).2.2.1 ∈ lwa := chk_in wc_10 0 rfl
theorem fl_X6_76 : Cond.fieldLink RX6 76 RX5 (TX5 2).2.1 (TX5 2).2.2.1 ∈ lwa := chk_in wc_10 1 rfl
theorem fl_X2_181 : Cond.fieldLink RX2 181 RX5 (TX5 2).2.1 (TX5 2).2.2.1 ∈ lwa := chk_in wc_10 2 rfl
theorem fl_X10_223 : Cond.fieldLink RX10 223 RX5 (TX5 2).2.1 (TX5 2).2.2.1 ∈ lwa := chk_in wc_10 3 rfl
theorem fl_X6_82 : Cond.fieldLink RX6 82 RX5 (TX5 3).2.1 (TX5 3).2.2.1 ∈ lwa := chk_in wc_10 4 rfl
theorem fl_X2_166 : Cond.fieldLink RX2 166 RX5 (TX5 3).2.1 (TX5 3).2.2.1 ∈ lwa := chk_in wc_10 5 rfl
theorem fl_X10_226 : Cond.fieldLink RX10 226 RX5 (TX5 3).2.1 (TX5 3).2.2.1 ∈ lwa := chk_in wc_10 6 rfl
theorem fl_X1_113 : Cond.fieldLink RX1 113 RX5 (TX5 3).2.1 (TX5 3).2.2.1 ∈ lwa := chk_in wc_10 7 rfl
theorem fl_X8_95 : Cond.fieldLink RX8 95 RX5 (TX5 4).2.1 (TX5 4).2.2.1 ∈ lwa := chk_in wc_10 8 rfl
theorem fl_X7_64 : Cond.fieldLink RX7 64 RX5 (TX5 4).2.1 (TX5 4).2.2.1 ∈ lwa := chk_in wc_10 9 rfl
theorem fl_X2_169 : Cond.fieldLink RX2 169 RX5 (TX5 4).2.1 (TX5 4).2.2.1 ∈ lwa := chk_in wc_10 10 rfl
theorem fl_X10_227 : Cond.fieldLink RX10 227 RX5 (TX5 4).2.1 (TX5 4).2.2.1 ∈ lwa := chk_in wc_10 11 rfl
theorem fl_X7_61 : Cond.fieldLink RX7 61 RX5 (TX5 5).2.1 (TX5 5).2.2.1 ∈ lwa := chk_in wc_10 12 rfl
theorem fl_X2_172 : Cond.fieldLink RX2 172 RX5 (TX5 5).2.1 (TX5 5).2.2.1 ∈ lwa := chk_in wc_10 13 rfl
theorem fl_X10_230 : Cond.fieldLink RX10 230 RX5 (TX5 5).2.1 (TX5 5).2.2.1 ∈ lwa := chk_in wc_10 14 rfl
theorem ul_X5_0 : u_lay RX5 TX5 0 ∈ lwa := chk_in wc_10 15 rfl
theorem ul_X5_1 : u_lay RX5 TX5 1 ∈ lwa := chk_in wc_10 16 rfl
theorem ul_X5_2 : u_lay RX5 TX5 2 ∈ lwa := chk_in wc_10 17 rfl
theorem ul_X5_3 : u_lay RX5 TX5 3 ∈ lwa := chk_in wc_10 18 rfl
theorem ul_X5_4 : u_lay RX5 TX5 4 ∈ lwa := chk_in wc_10 19 rfl
def wl_11 : List (Nat × Cond) := [(261, u_lay RX5 TX5 5), (2, Cond.fieldLink RX7 32 RX7 (TX7 0).2.1 (TX7 0).2.2.1), (0, Cond.fieldLink RX1 73 RX7 (TX7 0).2.1 (TX7 0).2.2.1), (0, Cond.fieldLink RX7 36 RX7 (TX7 1).2.1 (TX7 1).2.2.1), (0, Cond.fieldLink RX6 41 RX7 (TX7 1).2.1 (TX7 1).2.2.1), (0, Cond.fieldLink RX2 118 RX7 (TX7 1).2.1 (TX7 1).2.2.1), (0, Cond.fieldLink RX10 139 RX7 (TX7 1).2.1 (TX7 1).2.2.1), (0, Cond.fieldLink RX7 11 RX7 (TX7 2).2.1 (TX7 2).2.2.1), (0, Cond.fieldLink RX6 52 RX7 (TX7 2).2.1 (TX7 2).2.2.1), (0, Cond.fieldLink RX2 128 RX7 (TX7 2).2.1 (TX7 2).2.2.1), (0, Cond.fieldLink RX1 81 RX7 (TX7 2).2.1 (TX7 2).2.2.1), (0, Cond.fieldLink RX10 178 RX7 (TX7 2).2.1 (TX7 2).2.2.1), (0, Cond.fieldLink RX7 40 RX7 (TX7 3).2.1 (TX7 3).2.2.1), (0, Cond.fieldLink RX4 43 RX7 (TX7 3).2.1 (TX7 3).2.2.1), (0, Cond.fieldLink RX8 40 RX7 (TX7 3).2.1 (TX7 3).2.2.1), (0, Cond.fieldLink RX6 65 RX7 (TX7 3).2.1 (TX7 3).2.2.1), (0, Cond.fieldLink RX2 150 RX7 (TX7 3).2.1 (TX7 3).2.2.1), (0, Cond.fieldLink RX10 142 RX7 (TX7 3).2.1 (TX7 3).2.2.1), (0, Cond.fieldLink RX1 106 RX7 (TX7 3).2.1 (TX7 3).2.2.1), (0, Cond.fieldLink RX7 20 RX7 (TX7 4).2.1 (TX7 4).2.2.1)]
set_option maxRecDepth 50000 in
theorem wc_11 : chk wl_11 lw_tbl = true := by decide +kernel
theorem ul_X5_5 : u_lay RX5 TX5 5 ∈ lwa := chk_in wc_11 0 rfl
theorem fl_X7_32 : Cond.fieldLink RX7 32 RX7 (TX7 0).2.1 (TX7 0).2.2.1 ∈ lwa := chk_in wc_11 1 rfl
theorem fl_X1_73 : Cond.fieldLink RX1 73 RX7 (TX7 0).2.1 (TX7 0).2.2.1 ∈ lwa := chk_in wc_11 2 rfl
theorem fl_X7_36 : Cond.fieldLink RX7 36 RX7 (TX7 1).2.1 (TX7 1).2.2.1 ∈ lwa := chk_in wc_11 3 rfl
theorem fl_X6_41 : Cond.fieldLink RX6 41 RX7 (TX7 1).2.1 (TX7 1).2.2.1 ∈ lwa := chk_in wc_11 4 rfl
theorem fl_X2_118 : Cond.fieldLink RX2 118 RX7 (TX7 1).2.1 (TX7 1).2.2.1 ∈ lwa := chk_in wc_11 5 rfl
theorem fl_X10_139 : Cond.fieldLink RX10 139 RX7 (TX7 1).2.1 (TX7 1).2.2.1 ∈ lwa := chk_in wc_11 6 rfl
theorem fl_X7_11 : Cond.fieldLink RX7 11 RX7 (TX7 2).2.1 (TX7 2).2.2.1 ∈ lwa := chk_in wc_11 7 rfl
theorem fl_X6_52 : Cond.fieldLink RX6 52 RX7 (TX7 2).2.1 (TX7 2).2.2.1 ∈ lwa := chk_in wc_11 8 rfl
theorem fl_X2_128 : Cond.fieldLink RX2 128 RX7 (TX7 2).2.1 (TX7 2).2.2.1 ∈ lwa := chk_in wc_11 9 rfl
theorem fl_X1_81 : Cond.fieldLink RX1 81 RX7 (TX7 2).2.1 (TX7 2).2.2.1 ∈ lwa := chk_in wc_11 10 rfl
theorem fl_X10_178 : Cond.fieldLink RX10 178 RX7 (TX7 2).2.1 (TX7 2).2.2.1 ∈ lwa := chk_in wc_11 11 rfl
theorem fl_X7_40 : Cond.fieldLink RX7 40 RX7 (TX7 3).2.1 (TX7 3).2.2.1 ∈ lwa := chk_in wc_11 12 rfl
theorem fl_X4_43 : Cond.fieldLink RX4 43 RX7 (TX7 3).2.1 (TX7 3).2.2.1 ∈ lwa := chk_in wc_11 13 rfl
theorem fl_X8_40 : Cond.fieldLink RX8 40 RX7 (TX7 3).2.1 (TX7 3).2.2.1 ∈ lwa := chk_in wc_11 14 rfl
theorem fl_X6_65 : Cond.fieldLink RX6 65 RX7 (TX7 3).2.1 (TX7 3).2.2.1 ∈ lwa := chk_in wc_11 15 rfl
theorem fl_X2_150 : Cond.fieldLink RX2 150 RX7 (TX7 3).2.1 (TX7 3).2.2.1 ∈ lwa := chk_in wc_11 16 rfl
theorem fl_X10_142 : Cond.fieldLink RX10 142 RX7 (TX7 3).2.1 (TX7 3).2.2.1 ∈ lwa := chk_in wc_11 17 rfl
theorem fl_X1_106 : Cond.fieldLink RX1 106 RX7 (TX7 3).2.1 (TX7 3).2.2.1 ∈ lwa := chk_in wc_11 18 rfl
theorem fl_X7_20 : Cond.fieldLink RX7 20 RX7 (TX7 4).2.1 (TX7 4).2.2.1 ∈ lwa := chk_in wc_11 19 rfl
def wl_12 : List (Nat × Cond) := [(283, Cond.fieldLink RX6 68 RX7 (TX7 4).2.1 (TX7 4).2.2.1), (0, Cond.fieldLink RX8 80 RX7 (TX7 4).2.1 (TX7 4).2.2.1), (0, Cond.fieldLink RX2 156 RX7 (TX7 4).2.1 (TX7 4).2.2.1), (0, Cond.fieldLink RX10 215 RX7 (TX7 4).2.1 (TX7 4).2.2.1), (0, Cond.fieldLink RX1 109 RX7 (TX7 4).2.1 (TX7 4).2.2.1), (0, Cond.fieldLink RX7 43 RX7 (TX7 5).2.1 (TX7 5).2.2.1), (0, Cond.fieldLink RX10 145 RX7 (TX7 5).2.1 (TX7 5).2.2.1), (0, Cond.fieldLink RX2 191 RX7 (TX7 5).2.1 (TX7 5).2.2.1), (0, Cond.fieldLink RX1 118 RX7 (TX7 5).2.1 (TX7 5).2.2.1), (0, Cond.fieldLink RX7 25 RX7 (TX7 6).2.1 (TX7 6).2.2.1), (0, Cond.fieldLink RX2 194 RX7 (TX7 6).2.1 (TX7 6).2.2.1), (0, Cond.fieldLink RX10 282 RX7 (TX7 6).2.1 (TX7 6).2.2.1), (0, Cond.fieldLink RX1 121 RX7 (TX7 6).2.1 (TX7 6).2.2.1), (0, Cond.fieldLink RX7 29 RX7 (TX7 7).2.1 (TX7 7).2.2.1), (0, Cond.fieldLink RX2 198 RX7 (TX7 7).2.1 (TX7 7).2.2.1), (0, Cond.fieldLink RX10 285 RX7 (TX7 7).2.1 (TX7 7).2.2.1), (0, Cond.fieldLink RX1 103 RX7 (TX7 7).2.1 (TX7 7).2.2.1), (0, Cond.fieldLink RX7 46 RX7 (TX7 8).2.1 (TX7 8).2.2.1), (0, Cond.fieldLink RX2 57 RX7 (TX7 8).2.1 (TX7 8).2.2.1), (0, Cond.fieldLink RX7 49 RX7 (TX7 9).2.1 (TX7 9).2.2.1)]
set_option maxRecDepth 50000 in
theorem wc_12 : chk wl_12 lw_tbl = true := by decide +kernel
theorem fl_X6_68 : Cond.fieldLink RX6 68 RX7 (TX7 4).2.1 (TX7 4).2.2.1 ∈ lwa := chk_in wc_12 0 rfl
theorem fl_X8_80 : Cond.fieldLink RX8 80 RX7 (TX7 4).2.1 (TX7 4).2.2.1 ∈ lwa := chk_in wc_12 1 rfl
theorem fl_X2_156 : Cond.fieldLink RX2 156 RX7 (TX7 4).2.1 (TX7 4).2.2.1 ∈ lwa := chk_in wc_12 2 rfl
theorem fl_X10_215 : Cond.fieldLink RX10 215 RX7 (TX7 4).2.1 (TX7 4).2.2.1 ∈ lwa := chk_in wc_12 3 rfl
theorem fl_X1_109 : Cond.fieldLink RX1 109 RX7 (TX7 4).2.1 (TX7 4).2.2.1 ∈ lwa := chk_in wc_12 4 rfl
theorem fl_X7_43 : Cond.fieldLink RX7 43 RX7 (TX7 5).2.1 (TX7 5).2.2.1 ∈ lwa := chk_in wc_12 5 rfl
theorem fl_X10_145 : Cond.fieldLink RX10 145 RX7 (TX7 5).2.1 (TX7 5).2.2.1 ∈ lwa := chk_in wc_12 6 rfl
theorem fl_X2_191 : Cond.fieldLink RX2 191 RX7 (TX7 5).2.1 (TX7 5).2.2.1 ∈ lwa := chk_in wc_12 7 rfl
theorem fl_X1_118 : Cond.fieldLink RX1 118 RX7 (TX7 5).2.1 (TX7 5).2.2.1 ∈ lwa := chk_in wc_12 8 rfl
theorem fl_X7_25 : Cond.fieldLink RX7 25 RX7 (TX7 6).2.1 (TX7 6).2.2.1 ∈ lwa := chk_in wc_12 9 rfl
theorem fl_X2_194 : Cond.fieldLink RX2 194 RX7 (TX7 6).2.1 (TX7 6).2.2.1 ∈ lwa := chk_in wc_12 10 rfl
theorem fl_X10_282 : Cond.fieldLink RX10 282 RX7 (TX7 6).2.1 (TX7 6).2.2.1 ∈ lwa := chk_in wc_12 11 rfl
theorem fl_X1_121 : Cond.fieldLink RX1 121 RX7 (TX7 6).2.1 (TX7 6).2.2.1 ∈ lwa := chk_in wc_12 12 rfl
theorem fl_X7_29 : Cond.fieldLink RX7 29 RX7 (TX7 7).2.1 (TX7 7).2.2.1 ∈ lwa := chk_in wc_12 13 rfl
theorem fl_X2_198 : Cond.fieldLink RX2 198 RX7 (TX7 7).2.1 (TX7 7).2.2.1 ∈ lwa := chk_in wc_12 14 rfl
theorem fl_X10_285 : Cond.fieldLink RX10 285 RX7 (TX7 7).2.1 (TX7 7).2.2.1 ∈ lwa := chk_in wc_12 15 rfl
theorem fl_X1_103 : Cond.fieldLink RX1 103 RX7 (TX7 7).2.1 (TX7 7).2.2.1 ∈ lwa := chk_in wc_12 16 rfl
theorem fl_X7_46 : Cond.fieldLink RX7 46 RX7 (TX7 8).2.1 (TX7 8).2.2.1 ∈ lwa := chk_in wc_12 17 rfl
theorem fl_X2_57 : Cond.fieldLink RX2 57 RX7 (TX7 8).2.1 (TX7 8).2.2.1 ∈ lwa := chk_in wc_12 18 rfl
theorem fl_X7_49 : Cond.fieldLink RX7 49 RX7 (TX7 9).2.1 (TX7 9).2.2.1 ∈ lwa := chk_in wc_12 19 rfl
def wl_13 : List (Nat × Cond) := [(303, Cond.fieldLink RX2 110 RX7 (TX7 9).2.1 (TX7 9).2.2.1), (0, Cond.fieldLink RX1 78 RX7 (TX7 9).2.1 (TX7 9).2.2.1), (0, Cond.fieldLink RX10 167 RX7 (TX7 9).2.1 (TX7 9).2.2.1), (0, Cond.fieldLink RX7 52 RX7 (TX7 10).2.1 (TX7 10).2.2.1), (0, Cond.fieldLink RX2 116 RX7 (TX7 10).2.1 (TX7 10).2.2.1), (0, Cond.fieldLink RX10 170 RX7 (TX7 10).2.1 (TX7 10).2.2.1), (0, Cond.fieldLink RX1 148 RX7 (TX7 10).2.1 (TX7 10).2.2.1), (0, u_lay RX7 TX7 0), (1, u_lay RX7 TX7 1), (1, u_lay RX7 TX7 2), (1, u_lay RX7 TX7 3), (1, u_lay RX7 TX7 4), (1, u_lay RX7 TX7 5), (1, u_lay RX7 TX7 6), (1, u_lay RX7 TX7 7), (1, u_lay RX7 TX7 8), (1, u_lay RX7 TX7 9), (1, u_lay RX7 TX7 10), (5, Cond.methodLink RX10 25 yX1_init), (0, Cond.instanceMethod yX1_init)]
set_option maxRecDepth 50000 in
theorem wc_13 : chk wl_13 lw_tbl = true := by decide +kernel
theorem fl_X2_110 : Cond.fieldLink RX2 110 RX7 (TX7 9).2.1 (TX7 9).2.2.1 ∈ lwa := chk_in wc_13 0 rfl
theorem fl_X1_78 : Cond.fieldLink RX1 78 RX7 (TX7 9).2.1 (TX7 9).2.2.1 ∈ lwa := chk_in wc_13 1 rfl
theorem fl_X10_167 : Cond.fieldLink RX10 167 RX7 (TX7 9).2.1 (TX7 9).2.2.1 ∈ lwa := chk_in wc_13 2 rfl
theorem fl_X7_52 : Cond.fieldLink RX7 52 RX7 (TX7 10).2.1 (TX7 10).2.2.1 ∈ lwa := chk_in wc_13 3 rfl
theorem fl_X2_116 : Cond.fieldLink RX2 116 RX7 (TX7 10).2.1 (TX7 10).2.2.1 ∈ lwa := chk_in wc_13 4 rfl
theorem fl_X10_170 : Cond.fieldLink RX10 170 RX7 (TX7 10).2.1 (TX7 10).2.2.1 ∈ lwa := chk_in wc_13 5 rfl
theorem fl_X1_148 : Cond.fieldLink RX1 148 RX7 (TX7 10).2.1 (TX7 10).2.2.1 ∈ lwa := chk_in wc_13 6 rfl
theorem ul_X7_0 : u_lay RX7 TX7 0 ∈ lwa := chk_in wc_13 7 rfl
theorem ul_X7_1 : u_lay RX7 TX7 1 ∈ lwa := chk_in wc_13 8 rfl
theorem ul_X7_2 : u_lay RX7 TX7 2 ∈ lwa := chk_in wc_13 9 rfl
theorem ul_X7_3 : u_lay RX7 TX7 3 ∈ lwa := chk_in wc_13 10 rfl
theorem ul_X7_4 : u_lay RX7 TX7 4 ∈ lwa := chk_in wc_13 11 rfl
theorem ul_X7_5 : u_lay RX7 TX7 5 ∈ lwa := chk_in wc_13 12 rfl
theorem ul_X7_6 : u_lay RX7 TX7 6 ∈ lwa := chk_in wc_13 13 rfl
theorem ul_X7_7 : u_lay RX7 TX7 7 ∈ lwa := chk_in wc_13 14 rfl
theorem ul_X7_8 : u_lay RX7 TX7 8 ∈ lwa := chk_in wc_13 15 rfl
theorem ul_X7_9 : u_lay RX7 TX7 9 ∈ lwa := chk_in wc_13 16 rfl
theorem ul_X7_10 : u_lay RX7 TX7 10 ∈ lwa := chk_in wc_13 17 rfl
theorem ml_X10_25 : Cond.methodLink RX10 25 yX1_init ∈ lwa := chk_in wc_13 18 rfl
theorem im_X1_init : Cond.instanceMethod yX1_init ∈ lwa := chk_in wc_13 19 rfl
def wl_14 : List (Nat × Cond) := [(338, Cond.code yX1_init cX1_init 2 none), (3, Cond.fieldLink RX1 9 RX1 (TX1 0).2.1 (TX1 0).2.2.1), (0, Cond.fieldLink RX4 39 RX1 (TX1 0).2.1 (TX1 0).2.2.1), (0, Cond.fieldLink RX8 34 RX1 (TX1 0).2.1 (TX1 0).2.2.1), (0, Cond.fieldLink RX6 37 RX1 (TX1 0).2.1 (TX1 0).2.2.1), (0, Cond.fieldLink RX10 116 RX1 (TX1 0).2.1 (TX1 0).2.2.1), (0, Cond.fieldLink RX1 43 RX1 (TX1 1).2.1 (TX1 1).2.2.1), (0, Cond.fieldLink RX10 383 RX1 (TX1 1).2.1 (TX1 1).2.2.1), (0, Cond.fieldLink RX2 60 RX1 (TX1 2).2.1 (TX1 2).2.2.1), (0, Cond.fieldLink RX1 60 RX1 (TX1 2).2.1 (TX1 2).2.2.1), (0, Cond.fieldLink RX10 148 RX1 (TX1 2).2.1 (TX1 2).2.2.1), (0, Cond.fieldLink RX4 30 RX1 (TX1 3).2.1 (TX1 3).2.2.1), (0, Cond.fieldLink RX1 47 RX1 (TX1 3).2.1 (TX1 3).2.2.1), (0, Cond.fieldLink RX6 24 RX1 (TX1 3).2.1 (TX1 3).2.2.1), (0, Cond.fieldLink RX8 49 RX1 (TX1 3).2.1 (TX1 3).2.2.1), (0, Cond.fieldLink RX10 132 RX1 (TX1 3).2.1 (TX1 3).2.2.1), (0, Cond.fieldLink RX2 205 RX1 (TX1 3).2.1 (TX1 3).2.2.1), (0, Cond.fieldLink RX1 15 RX1 (TX1 4).2.1 (TX1 4).2.2.1), (0, Cond.fieldLink RX8 73 RX1 (TX1 4).2.1 (TX1 4).2.2.1), (0, Cond.fieldLink RX10 259 RX1 (TX1 4).2.1 (TX1 4).2.2.1)]
set_option maxRecDepth 50000 in
theorem wc_14 : chk wl_14 lw_tbl = true := by decide +kernel
theorem cd_X1_init : Cond.code yX1_init cX1_init 2 none ∈ lwa := chk_in wc_14 0 rfl
theorem fl_X1_9 : Cond.fieldLink RX1 9 RX1 (TX1 0).2.1 (TX1 0).2.2.1 ∈ lwa := chk_in wc_14 1 rfl
theorem fl_X4_39 : Cond.fieldLink RX4 39 RX1 (TX1 0).2.1 (TX1 0).2.2.1 ∈ lwa := chk_in wc_14 2 rfl
theorem fl_X8_34 : Cond.fieldLink RX8 34 RX1 (TX1 0).2.1 (TX1 0).2.2.1 ∈ lwa := chk_in wc_14 3 rfl
theorem fl_X6_37 : Cond.fieldLink RX6 37 RX1 (TX1 0).2.1 (TX1 0).2.2.1 ∈ lwa := chk_in wc_14 4 rfl
theorem fl_X10_116 : Cond.fieldLink RX10 116 RX1 (TX1 0).2.1 (TX1 0).2.2.1 ∈ lwa := chk_in wc_14 5 rfl
theorem fl_X1_43 : Cond.fieldLink RX1 43 RX1 (TX1 1).2.1 (TX1 1).2.2.1 ∈ lwa := chk_in wc_14 6 rfl
theorem fl_X10_383 : Cond.fieldLink RX10 383 RX1 (TX1 1).2.1 (TX1 1).2.2.1 ∈ lwa := chk_in wc_14 7 rfl
theorem fl_X2_60 : Cond.fieldLink RX2 60 RX1 (TX1 2).2.1 (TX1 2).2.2.1 ∈ lwa := chk_in wc_14 8 rfl
theorem fl_X1_60 : Cond.fieldLink RX1 60 RX1 (TX1 2).2.1 (TX1 2).2.2.1 ∈ lwa := chk_in wc_14 9 rfl
theorem fl_X10_148 : Cond.fieldLink RX10 148 RX1 (TX1 2).2.1 (TX1 2).2.2.1 ∈ lwa := chk_in wc_14 10 rfl
theorem fl_X4_30 : Cond.fieldLink RX4 30 RX1 (TX1 3).2.1 (TX1 3).2.2.1 ∈ lwa := chk_in wc_14 11 rfl
theorem fl_X1_47 : Cond.fieldLink RX1 47 RX1 (TX1 3).2.1 (TX1 3).2.2.1 ∈ lwa := chk_in wc_14 12 rfl
theorem fl_X6_24 : Cond.fieldLink RX6 24 RX1 (TX1 3).2.1 (TX1 3).2.2.1 ∈ lwa := chk_in wc_14 13 rfl
theorem fl_X8_49 : Cond.fieldLink RX8 49 RX1 (TX1 3).2.1 (TX1 3).2.2.1 ∈ lwa := chk_in wc_14 14 rfl
theorem fl_X10_132 : Cond.fieldLink RX10 132 RX1 (TX1 3).2.1 (TX1 3).2.2.1 ∈ lwa := chk_in wc_14 15 rfl
theorem fl_X2_205 : Cond.fieldLink RX2 205 RX1 (TX1 3).2.1 (TX1 3).2.2.1 ∈ lwa := chk_in wc_14 16 rfl
theorem fl_X1_15 : Cond.fieldLink RX1 15 RX1 (TX1 4).2.1 (TX1 4).2.2.1 ∈ lwa := chk_in wc_14 17 rfl
theorem fl_X8_73 : Cond.fieldLink RX8 73 RX1 (TX1 4).2.1 (TX1 4).2.2.1 ∈ lwa := chk_in wc_14 18 rfl
theorem fl_X10_259 : Cond.fieldLink RX10 259 RX1 (TX1 4).2.1 (TX1 4).2.2.1 ∈ lwa := chk_in wc_14 19 rfl
def wl_15 : List (Nat × Cond) := [(361, Cond.fieldLink RX1 19 RX1 (TX1 5).2.1 (TX1 5).2.2.1), (0, Cond.fieldLink RX6 30 RX1 (TX1 5).2.1 (TX1 5).2.2.1), (0, Cond.fieldLink RX4 53 RX1 (TX1 5).2.1 (TX1 5).2.2.1), (0, Cond.fieldLink RX8 67 RX1 (TX1 5).2.1 (TX1 5).2.2.1), (0, Cond.fieldLink RX10 262 RX1 (TX1 5).2.1 (TX1 5).2.2.1), (0, Cond.fieldLink RX1 22 RX1 (TX1 6).2.1 (TX1 6).2.2.1), (0, Cond.fieldLink RX8 70 RX1 (TX1 6).2.1 (TX1 6).2.2.1), (0, Cond.fieldLink RX10 265 RX1 (TX1 6).2.1 (TX1 6).2.2.1), (0, Cond.fieldLink RX1 27 RX1 (TX1 7).2.1 (TX1 7).2.2.1), (0, Cond.fieldLink RX10 296 RX1 (TX1 7).2.1 (TX1 7).2.2.1), (0, Cond.fieldLink RX1 51 RX1 (TX1 8).2.1 (TX1 8).2.2.1), (0, Cond.fieldLink RX10 151 RX1 (TX1 8).2.1 (TX1 8).2.2.1), (0, Cond.fieldLink RX1 30 RX1 (TX1 9).2.1 (TX1 9).2.2.1), (0, Cond.fieldLink RX10 304 RX1 (TX1 9).2.1 (TX1 9).2.2.1), (0, Cond.fieldLink RX1 33 RX1 (TX1 10).2.1 (TX1 10).2.2.1), (0, Cond.fieldLink RX10 307 RX1 (TX1 10).2.1 (TX1 10).2.2.1), (0, Cond.fieldLink RX1 36 RX1 (TX1 11).2.1 (TX1 11).2.2.1), (0, Cond.fieldLink RX10 310 RX1 (TX1 11).2.1 (TX1 11).2.2.1), (0, Cond.fieldLink RX1 39 RX1 (TX1 12).2.1 (TX1 12).2.2.1), (0, Cond.fieldLink RX10 379 RX1 (TX1 12).2.1 (TX1 12).2.2.1)]
set_option maxRecDepth 50000 in
theorem wc_15 : chk wl_15 lw_tbl = true := by decide +kernel
theorem fl_X1_19 : Cond.fieldLink RX1 19 RX1 (TX1 5).2.1 (TX1 5).2.2.1 ∈ lwa := chk_in wc_15 0 rfl
theorem fl_X6_30 : Cond.fieldLink RX6 30 RX1 (TX1 5).2.1 (TX1 5).2.2.1 ∈ lwa := chk_in wc_15 1 rfl
theorem fl_X4_53 : Cond.fieldLink RX4 53 RX1 (TX1 5).2.1 (TX1 5).2.2.1 ∈ lwa := chk_in wc_15 2 rfl
theorem fl_X8_67 : Cond.fieldLink RX8 67 RX1 (TX1 5).2.1 (TX1 5).2.2.1 ∈ lwa := chk_in wc_15 3 rfl
theorem fl_X10_262 : Cond.fieldLink RX10 262 RX1 (TX1 5).2.1 (TX1 5).2.2.1 ∈ lwa := chk_in wc_15 4 rfl
theorem fl_X1_22 : Cond.fieldLink RX1 22 RX1 (TX1 6).2.1 (TX1 6).2.2.1 ∈ lwa := chk_in wc_15 5 rfl
theorem fl_X8_70 : Cond.fieldLink RX8 70 RX1 (TX1 6).2.1 (TX1 6).2.2.1 ∈ lwa := chk_in wc_15 6 rfl
theorem fl_X10_265 : Cond.fieldLink RX10 265 RX1 (TX1 6).2.1 (TX1 6).2.2.1 ∈ lwa := chk_in wc_15 7 rfl
theorem fl_X1_27 : Cond.fieldLink RX1 27 RX1 (TX1 7).2.1 (TX1 7).2.2.1 ∈ lwa := chk_in wc_15 8 rfl
theorem fl_X10_296 : Cond.fieldLink RX10 296 RX1 (TX1 7).2.1 (TX1 7).2.2.1 ∈ lwa := chk_in wc_15 9 rfl
theorem fl_X1_51 : Cond.fieldLink RX1 51 RX1 (TX1 8).2.1 (TX1 8).2.2.1 ∈ lwa := chk_in wc_15 10 rfl
theorem fl_X10_151 : Cond.fieldLink RX10 151 RX1 (TX1 8).2.1 (TX1 8).2.2.1 ∈ lwa := chk_in wc_15 11 rfl
theorem fl_X1_30 : Cond.fieldLink RX1 30 RX1 (TX1 9).2.1 (TX1 9).2.2.1 ∈ lwa := chk_in wc_15 12 rfl
theorem fl_X10_304 : Cond.fieldLink RX10 304 RX1 (TX1 9).2.1 (TX1 9).2.2.1 ∈ lwa := chk_in wc_15 13 rfl
theorem fl_X1_33 : Cond.fieldLink RX1 33 RX1 (TX1 10).2.1 (TX1 10).2.2.1 ∈ lwa := chk_in wc_15 14 rfl
theorem fl_X10_307 : Cond.fieldLink RX10 307 RX1 (TX1 10).2.1 (TX1 10).2.2.1 ∈ lwa := chk_in wc_15 15 rfl
theorem fl_X1_36 : Cond.fieldLink RX1 36 RX1 (TX1 11).2.1 (TX1 11).2.2.1 ∈ lwa := chk_in wc_15 16 rfl
theorem fl_X10_310 : Cond.fieldLink RX10 310 RX1 (TX1 11).2.1 (TX1 11).2.2.1 ∈ lwa := chk_in wc_15 17 rfl
theorem fl_X1_39 : Cond.fieldLink RX1 39 RX1 (TX1 12).2.1 (TX1 12).2.2.1 ∈ lwa := chk_in wc_15 18 rfl
theorem fl_X10_379 : Cond.fieldLink RX10 379 RX1 (TX1 12).2.1 (TX1 12).2.2.1 ∈ lwa := chk_in wc_15 19 rfl
def wl_16 : List (Nat × Cond) := [(381, u_lay RX1 TX1 0), (1, u_lay RX1 TX1 1), (1, u_lay RX1 TX1 2), (1, u_lay RX1 TX1 3), (1, u_lay RX1 TX1 4), (1, u_lay RX1 TX1 5), (1, u_lay RX1 TX1 6), (1, u_lay RX1 TX1 7), (1, u_lay RX1 TX1 8), (1, u_lay RX1 TX1 9), (1, u_lay RX1 TX1 10), (1, u_lay RX1 TX1 11), (1, u_lay RX1 TX1 12), (5, Cond.methodLink RX10 41 yX2_init), (0, Cond.instanceMethod yX2_init), (0, Cond.code yX2_init cX2_init 1 none), (4, Cond.instanceMethod yX9_init), (0, Cond.code yX9_init cX9_init 1 none), (1, Cond.fieldLink RX9 7 RX9 (TX9 0).2.1 (TX9 0).2.2.1), (0, Cond.fieldLink RX2 228 RX9 (TX9 0).2.1 (TX9 0).2.2.1)]
set_option maxRecDepth 50000 in
theorem wc_16 : chk wl_16 lw_tbl = true := by decide +kernel
theorem ul_X1_0 : u_lay RX1 TX1 0 ∈ lwa := chk_in wc_16 0 rfl
theorem ul_X1_1 : u_lay RX1 TX1 1 ∈ lwa := chk_in wc_16 1 rfl
theorem ul_X1_2 : u_lay RX1 TX1 2 ∈ lwa := chk_in wc_16 2 rfl
theorem ul_X1_3 : u_lay RX1 TX1 3 ∈ lwa := chk_in wc_16 3 rfl
theorem ul_X1_4 : u_lay RX1 TX1 4 ∈ lwa := chk_in wc_16 4 rfl
theorem ul_X1_5 : u_lay RX1 TX1 5 ∈ lwa := chk_in wc_16 5 rfl
theorem ul_X1_6 : u_lay RX1 TX1 6 ∈ lwa := chk_in wc_16 6 rfl
theorem ul_X1_7 : u_lay RX1 TX1 7 ∈ lwa := chk_in wc_16 7 rfl
theorem ul_X1_8 : u_lay RX1 TX1 8 ∈ lwa := chk_in wc_16 8 rfl
theorem ul_X1_9 : u_lay RX1 TX1 9 ∈ lwa := chk_in wc_16 9 rfl
theorem ul_X1_10 : u_lay RX1 TX1 10 ∈ lwa := chk_in wc_16 10 rfl
theorem ul_X1_11 : u_lay RX1 TX1 11 ∈ lwa := chk_in wc_16 11 rfl
theorem ul_X1_12 : u_lay RX1 TX1 12 ∈ lwa := chk_in wc_16 12 rfl
theorem ml_X10_41 : Cond.methodLink RX10 41 yX2_init ∈ lwa := chk_in wc_16 13 rfl
theorem im_X2_init : Cond.instanceMethod yX2_init ∈ lwa := chk_in wc_16 14 rfl
theorem cd_X2_init : Cond.code yX2_init cX2_init 1 none ∈ lwa := chk_in wc_16 15 rfl
theorem im_X9_init : Cond.instanceMethod yX9_init ∈ lwa := chk_in wc_16 16 rfl
theorem cd_X9_init : Cond.code yX9_init cX9_init 1 none ∈ lwa := chk_in wc_16 17 rfl
theorem fl_X9_7 : Cond.fieldLink RX9 7 RX9 (TX9 0).2.1 (TX9 0).2.2.1 ∈ lwa := chk_in wc_16 18 rfl
theorem fl_X2_228 : Cond.fieldLink RX2 228 RX9 (TX9 0).2.1 (TX9 0).2.2.1 ∈ lwa := chk_in wc_16 19 rfl
def wl_17 : List (Nat × Cond) := [(423, Cond.fieldLink RX9 19 RX9 (TX9 1).2.1 (TX9 1).2.2.1), (0, Cond.fieldLink RX9 26 RX9 (TX9 2).2.1 (TX9 2).2.2.1), (0, Cond.fieldLink RX2 222 RX9 (TX9 2).2.1 (TX9 2).2.2.1), (0, Cond.fieldLink RX9 23 RX9 (TX9 3).2.1 (TX9 3).2.2.1), (0, Cond.fieldLink RX2 225 RX9 (TX9 3).2.1 (TX9 3).2.2.1), (0, Cond.fieldLink RX2 50 RX9 (TX9 4).2.1 (TX9 4).2.2.1), (0, Cond.fieldLink RX9 29 RX9 (TX9 4).2.1 (TX9 4).2.2.1), (0, Cond.fieldLink RX9 39 RX9 (TX9 5).2.1 (TX9 5).2.2.1), (0, Cond.fieldLink RX2 219 RX9 (TX9 5).2.1 (TX9 5).2.2.1), (0, u_lay RX9 TX9 0), (1, u_lay RX9 TX9 1), (1, u_lay RX9 TX9 2), (1, u_lay RX9 TX9 3), (1, u_lay RX9 TX9 4), (1, u_lay RX9 TX9 5), (2, Cond.fieldLink RX2 12 RX2 (TX2 0).2.1 (TX2 0).2.2.1), (0, Cond.fieldLink RX2 18 RX2 (TX2 1).2.1 (TX2 1).2.2.1), (0, Cond.fieldLink RX2 22 RX2 (TX2 2).2.1 (TX2 2).2.2.1), (0, Cond.fieldLink RX2 36 RX2 (TX2 3).2.1 (TX2 3).2.2.1), (0, Cond.fieldLink RX10 105 RX2 (TX2 3).2.1 (TX2 3).2.2.1)]
set_option maxRecDepth 50000 in
theorem wc_17 : chk wl_17 lw_tbl = true := by decide +kernel
theorem fl_X9_19 : Cond.fieldLink RX9 19 RX9 (TX9 1).2.1 (TX9 1).2.2.1 ∈ lwa := chk_in wc_17 0 rfl
theorem fl_X9_26 : Cond.fieldLink RX9 26 RX9 (TX9 2).2.1 (TX9 2).2.2.1 ∈ lwa := chk_in wc_17 1 rfl
theorem fl_X2_222 : Cond.fieldLink RX2 222 RX9 (TX9 2).2.1 (TX9 2).2.2.1 ∈ lwa := chk_in wc_17 2 rfl
theorem fl_X9_23 : Cond.fieldLink RX9 23 RX9 (TX9 3).2.1 (TX9 3).2.2.1 ∈ lwa := chk_in wc_17 3 rfl
theorem fl_X2_225 : Cond.fieldLink RX2 225 RX9 (TX9 3).2.1 (TX9 3).2.2.1 ∈ lwa := chk_in wc_17 4 rfl
theorem fl_X2_50 : Cond.fieldLink RX2 50 RX9 (TX9 4).2.1 (TX9 4).2.2.1 ∈ lwa := chk_in wc_17 5 rfl
theorem fl_X9_29 : Cond.fieldLink RX9 29 RX9 (TX9 4).2.1 (TX9 4).2.2.1 ∈ lwa := chk_in wc_17 6 rfl
theorem fl_X9_39 : Cond.fieldLink RX9 39 RX9 (TX9 5).2.1 (TX9 5).2.2.1 ∈ lwa := chk_in wc_17 7 rfl
theorem fl_X2_219 : Cond.fieldLink RX2 219 RX9 (TX9 5).2.1 (TX9 5).2.2.1 ∈ lwa := chk_in wc_17 8 rfl
theorem ul_X9_0 : u_lay RX9 TX9 0 ∈ lwa := chk_in wc_17 9 rfl
theorem ul_X9_1 : u_lay RX9 TX9 1 ∈ lwa := chk_in wc_17 10 rfl
theorem ul_X9_2 : u_lay RX9 TX9 2 ∈ lwa := chk_in wc_17 11 rfl
theorem ul_X9_3 : u_lay RX9 TX9 3 ∈ lwa := chk_in wc_17 12 rfl
theorem ul_X9_4 : u_lay RX9 TX9 4 ∈ lwa := chk_in wc_17 13 rfl
theorem ul_X9_5 : u_lay RX9 TX9 5 ∈ lwa := chk_in wc_17 14 rfl
theorem fl_X2_12 : Cond.fieldLink RX2 12 RX2 (TX2 0).2.1 (TX2 0).2.2.1 ∈ lwa := chk_in wc_17 15 rfl
theorem fl_X2_18 : Cond.fieldLink RX2 18 RX2 (TX2 1).2.1 (TX2 1).2.2.1 ∈ lwa := chk_in wc_17 16 rfl
theorem fl_X2_22 : Cond.fieldLink RX2 22 RX2 (TX2 2).2.1 (TX2 2).2.2.1 ∈ lwa := chk_in wc_17 17 rfl
theorem fl_X2_36 : Cond.fieldLink RX2 36 RX2 (TX2 3).2.1 (TX2 3).2.2.1 ∈ lwa := chk_in wc_17 18 rfl
theorem fl_X10_105 : Cond.fieldLink RX10 105 RX2 (TX2 3).2.1 (TX2 3).2.2.1 ∈ lwa := chk_in wc_17 19 rfl
def wl_18 : List (Nat × Cond) := [(450, Cond.fieldLink RX2 40 RX2 (TX2 4).2.1 (TX2 4).2.2.1), (0, Cond.fieldLink RX10 111 RX2 (TX2 4).2.1 (TX2 4).2.2.1), (0, u_lay RX2 TX2 0), (1, u_lay RX2 TX2 1), (1, u_lay RX2 TX2 2), (1, u_lay RX2 TX2 3), (1, u_lay RX2 TX2 4), (4, Cond.methodLink RX10 48 yX3_init), (0, Cond.instanceMethod yX3_init), (0, Cond.code yX3_init cX3_init 3 none), (3, Cond.methodLink RX3 17 yX1_init), (0, Cond.fieldLink RX3 11 RX3 (TX3 0).2.1 (TX3 0).2.2.1), (0, Cond.fieldLink RX3 20 RX3 (TX3 1).2.1 (TX3 1).2.2.1), (0, Cond.fieldLink RX3 28 RX3 (TX3 2).2.1 (TX3 2).2.2.1), (0, Cond.fieldLink RX10 164 RX3 (TX3 2).2.1 (TX3 2).2.2.1), (0, u_lay RX3 TX3 0), (1, u_lay RX3 TX3 1), (1, u_lay RX3 TX3 2), (4, Cond.methodLink RX10 63 yX6_init), (0, Cond.instanceMethod yX6_init)]
set_option maxRecDepth 50000 in
theorem wc_18 : chk wl_18 lw_tbl = true := by decide +kernel
theorem fl_X2_40 : Cond.fieldLink RX2 40 RX2 (TX2 4).2.1 (TX2 4).2.2.1 ∈ lwa := chk_in wc_18 0 rfl
theorem fl_X10_111 : Cond.fieldLink RX10 111 RX2 (TX2 4).2.1 (TX2 4).2.2.1 ∈ lwa := chk_in wc_18 1 rfl
theorem ul_X2_0 : u_lay RX2 TX2 0 ∈ lwa := chk_in wc_18 2 rfl
theorem ul_X2_1 : u_lay RX2 TX2 1 ∈ lwa := chk_in wc_18 3 rfl
theorem ul_X2_2 : u_lay RX2 TX2 2 ∈ lwa := chk_in wc_18 4 rfl
theorem ul_X2_3 : u_lay RX2 TX2 3 ∈ lwa := chk_in wc_18 5 rfl
theorem ul_X2_4 : u_lay RX2 TX2 4 ∈ lwa := chk_in wc_18 6 rfl
theorem ml_X10_48 : Cond.methodLink RX10 48 yX3_init ∈ lwa := chk_in wc_18 7 rfl
theorem im_X3_init : Cond.instanceMethod yX3_init ∈ lwa := chk_in wc_18 8 rfl
theorem cd_X3_init : Cond.code yX3_init cX3_init 3 none ∈ lwa := chk_in wc_18 9 rfl
theorem ml_X3_17 : Cond.methodLink RX3 17 yX1_init ∈ lwa := chk_in wc_18 10 rfl
theorem fl_X3_11 : Cond.fieldLink RX3 11 RX3 (TX3 0).2.1 (TX3 0).2.2.1 ∈ lwa := chk_in wc_18 11 rfl
theorem fl_X3_20 : Cond.fieldLink RX3 20 RX3 (TX3 1).2.1 (TX3 1).2.2.1 ∈ lwa := chk_in wc_18 12 rfl
theorem fl_X3_28 : Cond.fieldLink RX3 28 RX3 (TX3 2).2.1 (TX3 2).2.2.1 ∈ lwa := chk_in wc_18 13 rfl
theorem fl_X10_164 : Cond.fieldLink RX10 164 RX3 (TX3 2).2.1 (TX3 2).2.2.1 ∈ lwa := chk_in wc_18 14 rfl
theorem ul_X3_0 : u_lay RX3 TX3 0 ∈ lwa := chk_in wc_18 15 rfl
theorem ul_X3_1 : u_lay RX3 TX3 1 ∈ lwa := chk_in wc_18 16 rfl
theorem ul_X3_2 : u_lay RX3 TX3 2 ∈ lwa := chk_in wc_18 17 rfl
theorem ml_X10_63 : Cond.methodLink RX10 63 yX6_init ∈ lwa := chk_in wc_18 18 rfl
theorem im_X6_init : Cond.instanceMethod yX6_init ∈ lwa := chk_in wc_18 19 rfl
def wl_19 : List (Nat × Cond) := [(487, Cond.code yX6_init cX6_init 1 none), (1, Cond.fieldLink RX6 9 RX6 (TX6 0).2.1 (TX6 0).2.2.1), (0, Cond.fieldLink RX10 236 RX6 (TX6 0).2.1 (TX6 0).2.2.1), (0, Cond.fieldLink RX6 15 RX6 (TX6 1).2.1 (TX6 1).2.2.1), (0, u_lay RX6 TX6 0), (1, u_lay RX6 TX6 1), (5, Cond.methodLink RX10 70 yX4_init), (0, Cond.instanceMethod yX4_init), (0, Cond.code yX4_init cX4_init 1 none), (1, Cond.fieldLink RX4 36 RX4 (TX4 0).2.1 (TX4 0).2.2.1), (0, Cond.fieldLink RX4 48 RX4 (TX4 1).2.1 (TX4 1).2.2.1), (0, Cond.fieldLink RX4 9 RX4 (TX4 2).2.1 (TX4 2).2.2.1), (0, Cond.fieldLink RX4 15 RX4 (TX4 3).2.1 (TX4 3).2.2.1), (0, Cond.fieldLink RX10 471 RX4 (TX4 3).2.1 (TX4 3).2.2.1), (0, Cond.fieldLink RX4 18 RX4 (TX4 4).2.1 (TX4 4).2.2.1), (0, Cond.fieldLink RX4 21 RX4 (TX4 5).2.1 (TX4 5).2.2.1), (0, Cond.fieldLink RX4 24 RX4 (TX4 6).2.1 (TX4 6).2.2.1), (0, Cond.fieldLink RX4 27 RX4 (TX4 7).2.1 (TX4 7).2.2.1), (0, Cond.fieldLink RX4 85 RX4 (TX4 8).2.1 (TX4 8).2.2.1), (0, Cond.fieldLink RX4 88 RX4 (TX4 9).2.1 (TX4 9).2.2.1)]
set_option maxRecDepth 50000 in
theorem wc_19 : chk wl_19 lw_tbl = true := by decide +kernel
theorem cd_X6_init : Cond.code yX6_init cX6_init 1 none ∈ lwa := chk_in wc_19 0 rfl
theorem fl_X6_9 : Cond.fieldLink RX6 9 RX6 (TX6 0).2.1 (TX6 0).2.2.1 ∈ lwa := chk_in wc_19 1 rfl
theorem fl_X10_236 : Cond.fieldLink RX10 236 RX6 (TX6 0).2.1 (TX6 0).2.2.1 ∈ lwa := chk_in wc_19 2 rfl
theorem fl_X6_15 : Cond.fieldLink RX6 15 RX6 (TX6 1).2.1 (TX6 1).2.2.1 ∈ lwa := chk_in wc_19 3 rfl
theorem ul_X6_0 : u_lay RX6 TX6 0 ∈ lwa := chk_in wc_19 4 rfl
theorem ul_X6_1 : u_lay RX6 TX6 1 ∈ lwa := chk_in wc_19 5 rfl
theorem ml_X10_70 : Cond.methodLink RX10 70 yX4_init ∈ lwa := chk_in wc_19 6 rfl
theorem im_X4_init : Cond.instanceMethod yX4_init ∈ lwa := chk_in wc_19 7 rfl
theorem cd_X4_init : Cond.code yX4_init cX4_init 1 none ∈ lwa := chk_in wc_19 8 rfl
theorem fl_X4_36 : Cond.fieldLink RX4 36 RX4 (TX4 0).2.1 (TX4 0).2.2.1 ∈ lwa := chk_in wc_19 9 rfl
theorem fl_X4_48 : Cond.fieldLink RX4 48 RX4 (TX4 1).2.1 (TX4 1).2.2.1 ∈ lwa := chk_in wc_19 10 rfl
theorem fl_X4_9 : Cond.fieldLink RX4 9 RX4 (TX4 2).2.1 (TX4 2).2.2.1 ∈ lwa := chk_in wc_19 11 rfl
theorem fl_X4_15 : Cond.fieldLink RX4 15 RX4 (TX4 3).2.1 (TX4 3).2.2.1 ∈ lwa := chk_in wc_19 12 rfl
theorem fl_X10_471 : Cond.fieldLink RX10 471 RX4 (TX4 3).2.1 (TX4 3).2.2.1 ∈ lwa := chk_in wc_19 13 rfl
theorem fl_X4_18 : Cond.fieldLink RX4 18 RX4 (TX4 4).2.1 (TX4 4).2.2.1 ∈ lwa := chk_in wc_19 14 rfl
theorem fl_X4_21 : Cond.fieldLink RX4 21 RX4 (TX4 5).2.1 (TX4 5).2.2.1 ∈ lwa := chk_in wc_19 15 rfl
theorem fl_X4_24 : Cond.fieldLink RX4 24 RX4 (TX4 6).2.1 (TX4 6).2.2.1 ∈ lwa := chk_in wc_19 16 rfl
theorem fl_X4_27 : Cond.fieldLink RX4 27 RX4 (TX4 7).2.1 (TX4 7).2.2.1 ∈ lwa := chk_in wc_19 17 rfl
theorem fl_X4_85 : Cond.fieldLink RX4 85 RX4 (TX4 8).2.1 (TX4 8).2.2.1 ∈ lwa := chk_in wc_19 18 rfl
theorem fl_X4_88 : Cond.fieldLink RX4 88 RX4 (TX4 9).2.1 (TX4 9).2.2.1 ∈ lwa := chk_in wc_19 19 rfl
def wl_20 : List (Nat × Cond) := [(515, u_lay RX4 TX4 0), (1, u_lay RX4 TX4 1), (1, u_lay RX4 TX4 2), (1, u_lay RX4 TX4 3), (1, u_lay RX4 TX4 4), (1, u_lay RX4 TX4 5), (1, u_lay RX4 TX4 6), (1, u_lay RX4 TX4 7), (1, u_lay RX4 TX4 8), (1, u_lay RX4 TX4 9), (4, Cond.methodLink RX10 77 yX8_init), (0, Cond.instanceMethod yX8_init), (0, Cond.code yX8_init cX8_init 1 none), (1, Cond.fieldLink RX8 9 RX8 (TX8 0).2.1 (TX8 0).2.2.1), (0, Cond.fieldLink RX10 268 RX8 (TX8 0).2.1 (TX8 0).2.2.1), (0, Cond.fieldLink RX8 15 RX8 (TX8 1).2.1 (TX8 1).2.2.1), (0, Cond.fieldLink RX8 18 RX8 (TX8 2).2.1 (TX8 2).2.2.1), (0, Cond.fieldLink RX10 247 RX8 (TX8 2).2.1 (TX8 2).2.2.1), (0, Cond.fieldLink RX8 56 RX8 (TX8 3).2.1 (TX8 3).2.2.1), (0, Cond.fieldLink RX10 362 RX8 (TX8 3).2.1 (TX8 3).2.2.1)]
set_option maxRecDepth 50000 in
theorem wc_20 : chk wl_20 lw_tbl = true := by decide +kernel
theorem ul_X4_0 : u_lay RX4 TX4 0 ∈ lwa := chk_in wc_20 0 rfl
theorem ul_X4_1 : u_lay RX4 TX4 1 ∈ lwa := chk_in wc_20 1 rfl
theorem ul_X4_2 : u_lay RX4 TX4 2 ∈ lwa := chk_in wc_20 2 rfl
theorem ul_X4_3 : u_lay RX4 TX4 3 ∈ lwa := chk_in wc_20 3 rfl
theorem ul_X4_4 : u_lay RX4 TX4 4 ∈ lwa := chk_in wc_20 4 rfl
theorem ul_X4_5 : u_lay RX4 TX4 5 ∈ lwa := chk_in wc_20 5 rfl
theorem ul_X4_6 : u_lay RX4 TX4 6 ∈ lwa := chk_in wc_20 6 rfl
theorem ul_X4_7 : u_lay RX4 TX4 7 ∈ lwa := chk_in wc_20 7 rfl
theorem ul_X4_8 : u_lay RX4 TX4 8 ∈ lwa := chk_in wc_20 8 rfl
theorem ul_X4_9 : u_lay RX4 TX4 9 ∈ lwa := chk_in wc_20 9 rfl
theorem ml_X10_77 : Cond.methodLink RX10 77 yX8_init ∈ lwa := chk_in wc_20 10 rfl
theorem im_X8_init : Cond.instanceMethod yX8_init ∈ lwa := chk_in wc_20 11 rfl
theorem cd_X8_init : Cond.code yX8_init cX8_init 1 none ∈ lwa := chk_in wc_20 12 rfl
theorem fl_X8_9 : Cond.fieldLink RX8 9 RX8 (TX8 0).2.1 (TX8 0).2.2.1 ∈ lwa := chk_in wc_20 13 rfl
theorem fl_X10_268 : Cond.fieldLink RX10 268 RX8 (TX8 0).2.1 (TX8 0).2.2.1 ∈ lwa := chk_in wc_20 14 rfl
theorem fl_X8_15 : Cond.fieldLink RX8 15 RX8 (TX8 1).2.1 (TX8 1).2.2.1 ∈ lwa := chk_in wc_20 15 rfl
theorem fl_X8_18 : Cond.fieldLink RX8 18 RX8 (TX8 2).2.1 (TX8 2).2.2.1 ∈ lwa := chk_in wc_20 16 rfl
theorem fl_X10_247 : Cond.fieldLink RX10 247 RX8 (TX8 2).2.1 (TX8 2).2.2.1 ∈ lwa := chk_in wc_20 17 rfl
theorem fl_X8_56 : Cond.fieldLink RX8 56 RX8 (TX8 3).2.1 (TX8 3).2.2.1 ∈ lwa := chk_in wc_20 18 rfl
theorem fl_X10_362 : Cond.fieldLink RX10 362 RX8 (TX8 3).2.1 (TX8 3).2.2.1 ∈ lwa := chk_in wc_20 19 rfl
def wl_21 : List (Nat × Cond) := [(549, Cond.fieldLink RX8 21 RX8 (TX8 4).2.1 (TX8 4).2.2.1), (0, Cond.fieldLink RX10 365 RX8 (TX8 4).2.1 (TX8 4).2.2.1), (0, Cond.fieldLink RX8 89 RX8 (TX8 5).2.1 (TX8 5).2.2.1), (0, Cond.fieldLink RX10 368 RX8 (TX8 5).2.1 (TX8 5).2.2.1), (0, Cond.fieldLink RX8 92 RX8 (TX8 6).2.1 (TX8 6).2.2.1), (0, Cond.fieldLink RX10 371 RX8 (TX8 6).2.1 (TX8 6).2.2.1), (0, Cond.fieldLink RX8 25 RX8 (TX8 7).2.1 (TX8 7).2.2.1), (0, Cond.fieldLink RX10 374 RX8 (TX8 7).2.1 (TX8 7).2.2.1), (0, u_lay RX8 TX8 0), (1, u_lay RX8 TX8 1), (1, u_lay RX8 TX8 2), (1, u_lay RX8 TX8 3), (1, u_lay RX8 TX8 4), (1, u_lay RX8 TX8 5), (1, u_lay RX8 TX8 6), (1, u_lay RX8 TX8 7), (2, Cond.fieldLink RX10 9 RX10 (TX10 0).2.1 (TX10 0).2.2.1), (0, Cond.fieldLink RX10 82 RX10 (TX10 1).2.1 (TX10 1).2.2.1), (0, Cond.fieldLink RX10 13 RX10 (TX10 2).2.1 (TX10 2).2.2.1), (0, Cond.fieldLink RX10 417 RX10 (TX10 3).2.1 (TX10 3).2.2.1)]
set_option maxRecDepth 50000 in
theorem wc_21 : chk wl_21 lw_tbl = true := by decide +kernel
theorem fl_X8_21 : Cond.fieldLink RX8 21 RX8 (TX8 4).2.1 (TX8 4).2.2.1 ∈ lwa := chk_in wc_21 0 rfl
theorem fl_X10_365 : Cond.fieldLink RX10 365 RX8 (TX8 4).2.1 (TX8 4).2.2.1 ∈ lwa := chk_in wc_21 1 rfl
theorem fl_X8_89 : Cond.fieldLink RX8 89 RX8 (TX8 5).2.1 (TX8 5).2.2.1 ∈ lwa := chk_in wc_21 2 rfl
theorem fl_X10_368 : Cond.fieldLink RX10 368 RX8 (TX8 5).2.1 (TX8 5).2.2.1 ∈ lwa := chk_in wc_21 3 rfl
theorem fl_X8_92 : Cond.fieldLink RX8 92 RX8 (TX8 6).2.1 (TX8 6).2.2.1 ∈ lwa := chk_in wc_21 4 rfl
theorem fl_X10_371 : Cond.fieldLink RX10 371 RX8 (TX8 6).2.1 (TX8 6).2.2.1 ∈ lwa := chk_in wc_21 5 rfl
theorem fl_X8_25 : Cond.fieldLink RX8 25 RX8 (TX8 7).2.1 (TX8 7).2.2.1 ∈ lwa := chk_in wc_21 6 rfl
theorem fl_X10_374 : Cond.fieldLink RX10 374 RX8 (TX8 7).2.1 (TX8 7).2.2.1 ∈ lwa := chk_in wc_21 7 rfl
theorem ul_X8_0 : u_lay RX8 TX8 0 ∈ lwa := chk_in wc_21 8 rfl
theorem ul_X8_1 : u_lay RX8 TX8 1 ∈ lwa := chk_in wc_21 9 rfl
theorem ul_X8_2 : u_lay RX8 TX8 2 ∈ lwa := chk_in wc_21 10 rfl
theorem ul_X8_3 : u_lay RX8 TX8 3 ∈ lwa := chk_in wc_21 11 rfl
theorem ul_X8_4 : u_lay RX8 TX8 4 ∈ lwa := chk_in wc_21 12 rfl
theorem ul_X8_5 : u_lay RX8 TX8 5 ∈ lwa := chk_in wc_21 13 rfl
theorem ul_X8_6 : u_lay RX8 TX8 6 ∈ lwa := chk_in wc_21 14 rfl
theorem ul_X8_7 : u_lay RX8 TX8 7 ∈ lwa := chk_in wc_21 15 rfl
theorem fl_X10_9 : Cond.fieldLink RX10 9 RX10 (TX10 0).2.1 (TX10 0).2.2.1 ∈ lwa := chk_in wc_21 16 rfl
theorem fl_X10_82 : Cond.fieldLink RX10 82 RX10 (TX10 1).2.1 (TX10 1).2.2.1 ∈ lwa := chk_in wc_21 17 rfl
theorem fl_X10_13 : Cond.fieldLink RX10 13 RX10 (TX10 2).2.1 (TX10 2).2.2.1 ∈ lwa := chk_in wc_21 18 rfl
theorem fl_X10_417 : Cond.fieldLink RX10 417 RX10 (TX10 3).2.1 (TX10 3).2.2.1 ∈ lwa := chk_in wc_21 19 rfl
def wl_22 : List (Nat × Cond) := [(578, Cond.fieldLink RX10 108 RX10 (TX10 4).2.1 (TX10 4).2.2.1), (0, Cond.fieldLink RX10 16 RX10 (TX10 5).2.1 (TX10 5).2.2.1), (0, Cond.fieldLink RX10 129 RX10 (TX10 6).2.1 (TX10 6).2.2.1), (0, Cond.fieldLink RX10 28 RX10 (TX10 7).2.1 (TX10 7).2.2.1), (0, Cond.fieldLink RX10 32 RX10 (TX10 8).2.1 (TX10 8).2.2.1), (0, Cond.fieldLink RX10 35 RX10 (TX10 9).2.1 (TX10 9).2.2.1), (0, Cond.fieldLink RX10 42 RX10 (TX10 10).2.1 (TX10 10).2.2.1), (0, Cond.fieldLink RX10 49 RX10 (TX10 11).2.1 (TX10 11).2.2.1), (0, Cond.fieldLink RX10 53 RX10 (TX10 12).2.1 (TX10 12).2.2.1), (0, Cond.fieldLink RX10 57 RX10 (TX10 13).2.1 (TX10 13).2.2.1), (0, Cond.fieldLink RX10 64 RX10 (TX10 14).2.1 (TX10 14).2.2.1), (0, Cond.fieldLink RX10 71 RX10 (TX10 15).2.1 (TX10 15).2.2.1), (0, Cond.fieldLink RX10 78 RX10 (TX10 16).2.1 (TX10 16).2.2.1), (0, Cond.fieldLink RX10 406 RX10 (TX10 17).2.1 (TX10 17).2.2.1), (0, u_lay RX10 TX10 0), (1, u_lay RX10 TX10 1), (1, u_lay RX10 TX10 2), (1, u_lay RX10 TX10 3), (1, u_lay RX10 TX10 4), (1, u_lay RX10 TX10 5)]
set_option maxRecDepth 50000 in
theorem wc_22 : chk wl_22 lw_tbl = true := by decide +kernel
theorem fl_X10_108 : Cond.fieldLink RX10 108 RX10 (TX10 4).2.1 (TX10 4).2.2.1 ∈ lwa := chk_in wc_22 0 rfl
theorem fl_X10_16 : Cond.fieldLink RX10 16 RX10 (TX10 5).2.1 (TX10 5).2.2.1 ∈ lwa := chk_in wc_22 1 rfl
theorem fl_X10_129 : Cond.fieldLink RX10 129 RX10 (TX10 6).2.1 (TX10 6).2.2.1 ∈ lwa := chk_in wc_22 2 rfl
theorem fl_X10_28 : Cond.fieldLink RX10 28 RX10 (TX10 7).2.1 (TX10 7).2.2.1 ∈ lwa := chk_in wc_22 3 rfl
theorem fl_X10_32 : Cond.fieldLink RX10 32 RX10 (TX10 8).2.1 (TX10 8).2.2.1 ∈ lwa := chk_in wc_22 4 rfl
theorem fl_X10_35 : Cond.fieldLink RX10 35 RX10 (TX10 9).2.1 (TX10 9).2.2.1 ∈ lwa := chk_in wc_22 5 rfl
theorem fl_X10_42 : Cond.fieldLink RX10 42 RX10 (TX10 10).2.1 (TX10 10).2.2.1 ∈ lwa := chk_in wc_22 6 rfl
theorem fl_X10_49 : Cond.fieldLink RX10 49 RX10 (TX10 11).2.1 (TX10 11).2.2.1 ∈ lwa := chk_in wc_22 7 rfl
theorem fl_X10_53 : Cond.fieldLink RX10 53 RX10 (TX10 12).2.1 (TX10 12).2.2.1 ∈ lwa := chk_in wc_22 8 rfl
theorem fl_X10_57 : Cond.fieldLink RX10 57 RX10 (TX10 13).2.1 (TX10 13).2.2.1 ∈ lwa := chk_in wc_22 9 rfl
theorem fl_X10_64 : Cond.fieldLink RX10 64 RX10 (TX10 14).2.1 (TX10 14).2.2.1 ∈ lwa := chk_in wc_22 10 rfl
theorem fl_X10_71 : Cond.fieldLink RX10 71 RX10 (TX10 15).2.1 (TX10 15).2.2.1 ∈ lwa := chk_in wc_22 11 rfl
theorem fl_X10_78 : Cond.fieldLink RX10 78 RX10 (TX10 16).2.1 (TX10 16).2.2.1 ∈ lwa := chk_in wc_22 12 rfl
theorem fl_X10_406 : Cond.fieldLink RX10 406 RX10 (TX10 17).2.1 (TX10 17).2.2.1 ∈ lwa := chk_in wc_22 13 rfl
theorem ul_X10_0 : u_lay RX10 TX10 0 ∈ lwa := chk_in wc_22 14 rfl
theorem ul_X10_1 : u_lay RX10 TX10 1 ∈ lwa := chk_in wc_22 15 rfl
theorem ul_X10_2 : u_lay RX10 TX10 2 ∈ lwa := chk_in wc_22 16 rfl
theorem ul_X10_3 : u_lay RX10 TX10 3 ∈ lwa := chk_in wc_22 17 rfl
theorem ul_X10_4 : u_lay RX10 TX10 4 ∈ lwa := chk_in wc_22 18 rfl
theorem ul_X10_5 : u_lay RX10 TX10 5 ∈ lwa := chk_in wc_22 19 rfl
def wl_23 : List (Nat × Cond) := [(604, u_lay RX10 TX10 6), (1, u_lay RX10 TX10 7), (1, u_lay RX10 TX10 8), (1, u_lay RX10 TX10 9), (1, u_lay RX10 TX10 10), (1, u_lay RX10 TX10 11), (1, u_lay RX10 TX10 12), (1, u_lay RX10 TX10 13), (1, u_lay RX10 TX10 14), (1, u_lay RX10 TX10 15), (1, u_lay RX10 TX10 16), (1, u_lay RX10 TX10 17), (2, Cond.methodLink RL 121 yX10_errorCode), (0, Cond.instanceMethod yX10_errorCode), (0, Cond.selects RX10 yX10_errorCode yX10_errorCode), (0, Cond.code yX10_errorCode cX10_errorCode 1 (some .int)), (0, Cond.methodLink RL 125 yX10_errorPosition), (0, Cond.instanceMethod yX10_errorPosition), (0, Cond.selects RX10 yX10_errorPosition yX10_errorPosition), (0, Cond.code yX10_errorPosition cX10_errorPosition 1 (some .int))]
set_option maxRecDepth 50000 in
theorem wc_23 : chk wl_23 lw_tbl = true := by decide +kernel
theorem ul_X10_6 : u_lay RX10 TX10 6 ∈ lwa := chk_in wc_23 0 rfl
theorem ul_X10_7 : u_lay RX10 TX10 7 ∈ lwa := chk_in wc_23 1 rfl
theorem ul_X10_8 : u_lay RX10 TX10 8 ∈ lwa := chk_in wc_23 2 rfl
theorem ul_X10_9 : u_lay RX10 TX10 9 ∈ lwa := chk_in wc_23 3 rfl
theorem ul_X10_10 : u_lay RX10 TX10 10 ∈ lwa := chk_in wc_23 4 rfl
theorem ul_X10_11 : u_lay RX10 TX10 11 ∈ lwa := chk_in wc_23 5 rfl
theorem ul_X10_12 : u_lay RX10 TX10 12 ∈ lwa := chk_in wc_23 6 rfl
theorem ul_X10_13 : u_lay RX10 TX10 13 ∈ lwa := chk_in wc_23 7 rfl
theorem ul_X10_14 : u_lay RX10 TX10 14 ∈ lwa := chk_in wc_23 8 rfl
theorem ul_X10_15 : u_lay RX10 TX10 15 ∈ lwa := chk_in wc_23 9 rfl
theorem ul_X10_16 : u_lay RX10 TX10 16 ∈ lwa := chk_in wc_23 10 rfl
theorem ul_X10_17 : u_lay RX10 TX10 17 ∈ lwa := chk_in wc_23 11 rfl
theorem ml_L_121 : Cond.methodLink RL 121 yX10_errorCode ∈ lwa := chk_in wc_23 12 rfl
theorem im_X10_errorCode : Cond.instanceMethod yX10_errorCode ∈ lwa := chk_in wc_23 13 rfl
theorem se_X10_errorCode : Cond.selects RX10 yX10_errorCode yX10_errorCode ∈ lwa := chk_in wc_23 14 rfl
theorem cd_X10_errorCode : Cond.code yX10_errorCode cX10_errorCode 1 (some .int) ∈ lwa := chk_in wc_23 15 rfl
theorem ml_L_125 : Cond.methodLink RL 125 yX10_errorPosition ∈ lwa := chk_in wc_23 16 rfl
theorem im_X10_errorPosition : Cond.instanceMethod yX10_errorPosition ∈ lwa := chk_in wc_23 17 rfl
theorem se_X10_errorPosition : Cond.selects RX10 yX10_errorPosition yX10_errorPosition ∈ lwa := chk_in wc_23 18 rfl
theorem cd_X10_errorPosition : Cond.code yX10_errorPosition cX10_errorPosition 1 (some .int) ∈ lwa := chk_in wc_23 19 rfl
def wl_24 : List (Nat × Cond) := [(637, Cond.methodLink RL 180 yX10_reason), (0, Cond.instanceMethod yX10_reason), (0, Cond.selects RX10 yX10_reason yX10_reason), (0, Cond.code yX10_reason cX10_reason 1 (some .int)), (0, Cond.methodLink RL 196 yX10_wasteShare), (0, Cond.instanceMethod yX10_wasteShare), (0, Cond.selects RX10 yX10_wasteShare yX10_wasteShare), (0, Cond.code yX10_wasteShare cX10_wasteShare 3 (some .float)), (0, Cond.methodLink RL 201 yX10_wasteBits), (0, Cond.instanceMethod yX10_wasteBits), (0, Cond.selects RX10 yX10_wasteBits yX10_wasteBits), (0, Cond.code yX10_wasteBits cX10_wasteBits 1 (some .int)), (0, Cond.methodLink RX10 389 yX10_wasteShare), (0, Cond.methodLink RX10 393 yX10_bitsOfShare), (0, Cond.static yX10_bitsOfShare), (0, Cond.code yX10_bitsOfShare cX10_bitsOfShare 4 (some .int)), (1, Cond.methodLink RL 205 yX10_costBits), (0, Cond.instanceMethod yX10_costBits), (0, Cond.selects RX10 yX10_costBits yX10_costBits), (0, Cond.code yX10_costBits cX10_costBits 3 (some .long))]
set_option maxRecDepth 50000 in
theorem wc_24 : chk wl_24 lw_tbl = true := by decide +kernel
theorem ml_L_180 : Cond.methodLink RL 180 yX10_reason ∈ lwa := chk_in wc_24 0 rfl
theorem im_X10_reason : Cond.instanceMethod yX10_reason ∈ lwa := chk_in wc_24 1 rfl
theorem se_X10_reason : Cond.selects RX10 yX10_reason yX10_reason ∈ lwa := chk_in wc_24 2 rfl
theorem cd_X10_reason : Cond.code yX10_reason cX10_reason 1 (some .int) ∈ lwa := chk_in wc_24 3 rfl
theorem ml_L_196 : Cond.methodLink RL 196 yX10_wasteShare ∈ lwa := chk_in wc_24 4 rfl
theorem im_X10_wasteShare : Cond.instanceMethod yX10_wasteShare ∈ lwa := chk_in wc_24 5 rfl
theorem se_X10_wasteShare : Cond.selects RX10 yX10_wasteShare yX10_wasteShare ∈ lwa := chk_in wc_24 6 rfl
theorem cd_X10_wasteShare : Cond.code yX10_wasteShare cX10_wasteShare 3 (some .float) ∈ lwa := chk_in wc_24 7 rfl
theorem ml_L_201 : Cond.methodLink RL 201 yX10_wasteBits ∈ lwa := chk_in wc_24 8 rfl
theorem im_X10_wasteBits : Cond.instanceMethod yX10_wasteBits ∈ lwa := chk_in wc_24 9 rfl
theorem se_X10_wasteBits : Cond.selects RX10 yX10_wasteBits yX10_wasteBits ∈ lwa := chk_in wc_24 10 rfl
theorem cd_X10_wasteBits : Cond.code yX10_wasteBits cX10_wasteBits 1 (some .int) ∈ lwa := chk_in wc_24 11 rfl
theorem ml_X10_389 : Cond.methodLink RX10 389 yX10_wasteShare ∈ lwa := chk_in wc_24 12 rfl
theorem ml_X10_393 : Cond.methodLink RX10 393 yX10_bitsOfShare ∈ lwa := chk_in wc_24 13 rfl
theorem sm_X10_bitsOfShare : Cond.static yX10_bitsOfShare ∈ lwa := chk_in wc_24 14 rfl
theorem cd_X10_bitsOfShare : Cond.code yX10_bitsOfShare cX10_bitsOfShare 4 (some .int) ∈ lwa := chk_in wc_24 15 rfl
theorem ml_L_205 : Cond.methodLink RL 205 yX10_costBits ∈ lwa := chk_in wc_24 16 rfl
theorem im_X10_costBits : Cond.instanceMethod yX10_costBits ∈ lwa := chk_in wc_24 17 rfl
theorem se_X10_costBits : Cond.selects RX10 yX10_costBits yX10_costBits ∈ lwa := chk_in wc_24 18 rfl
theorem cd_X10_costBits : Cond.code yX10_costBits cX10_costBits 3 (some .long) ∈ lwa := chk_in wc_24 19 rfl
def wl_25 : List (Nat × Cond) := [(658, Cond.methodLink RX10 397 yX10_bitsOfCost), (0, Cond.static yX10_bitsOfCost), (0, Cond.code yX10_bitsOfCost cX10_bitsOfCost 7 (some .long)), (3, Cond.methodLink RL 108 yL_feed), (3, Cond.methodLink RL 7 yX10_feed), (0, Cond.instanceMethod yX10_feed), (0, Cond.selects RX10 yX10_feed yX10_feed), (0, Cond.code yX10_feed cX10_feed 6 (some .int)), (68, Cond.methodLink RX10 92 yX10_appendBytes), (1, Cond.instanceMethod yX10_appendBytes), (0, Cond.code yX10_appendBytes cX10_appendBytes 3 none), (0, Cond.methodLink RL 117 yL_load), (3, Cond.methodLink RL 15 yX10_load), (0, Cond.instanceMethod yX10_load), (0, Cond.selects RX10 yX10_load yX10_load), (0, Cond.code yX10_load cX10_load 4 (some .int)), (16, Cond.methodLink RX10 101 yX2_read), (0, Cond.instanceMethod yX2_read), (0, Cond.selects RX2 yX2_read yX2_read), (0, Cond.code yX2_read cX2_read 7 (some .boolean))]
set_option maxRecDepth 50000 in
theorem wc_25 : chk wl_25 lw_tbl = true := by decide +kernel
theorem ml_X10_397 : Cond.methodLink RX10 397 yX10_bitsOfCost ∈ lwa := chk_in wc_25 0 rfl
theorem sm_X10_bitsOfCost : Cond.static yX10_bitsOfCost ∈ lwa := chk_in wc_25 1 rfl
theorem cd_X10_bitsOfCost : Cond.code yX10_bitsOfCost cX10_bitsOfCost 7 (some .long) ∈ lwa := chk_in wc_25 2 rfl
theorem ml_L_108 : Cond.methodLink RL 108 yL_feed ∈ lwa := chk_in wc_25 3 rfl
theorem ml_L_7 : Cond.methodLink RL 7 yX10_feed ∈ lwa := chk_in wc_25 4 rfl
theorem im_X10_feed : Cond.instanceMethod yX10_feed ∈ lwa := chk_in wc_25 5 rfl
theorem se_X10_feed : Cond.selects RX10 yX10_feed yX10_feed ∈ lwa := chk_in wc_25 6 rfl
theorem cd_X10_feed : Cond.code yX10_feed cX10_feed 6 (some .int) ∈ lwa := chk_in wc_25 7 rfl
theorem ml_X10_92 : Cond.methodLink RX10 92 yX10_appendBytes ∈ lwa := chk_in wc_25 8 rfl
theorem im_X10_appendBytes : Cond.instanceMethod yX10_appendBytes ∈ lwa := chk_in wc_25 9 rfl
theorem cd_X10_appendBytes : Cond.code yX10_appendBytes cX10_appendBytes 3 none ∈ lwa := chk_in wc_25 10 rfl
theorem ml_L_117 : Cond.methodLink RL 117 yL_load ∈ lwa := chk_in wc_25 11 rfl
theorem ml_L_15 : Cond.methodLink RL 15 yX10_load ∈ lwa := chk_in wc_25 12 rfl
theorem im_X10_load : Cond.instanceMethod yX10_load ∈ lwa := chk_in wc_25 13 rfl
theorem se_X10_load : Cond.selects RX10 yX10_load yX10_load ∈ lwa := chk_in wc_25 14 rfl
theorem cd_X10_load : Cond.code yX10_load cX10_load 4 (some .int) ∈ lwa := chk_in wc_25 15 rfl
theorem ml_X10_101 : Cond.methodLink RX10 101 yX2_read ∈ lwa := chk_in wc_25 16 rfl
theorem im_X2_read : Cond.instanceMethod yX2_read ∈ lwa := chk_in wc_25 17 rfl
theorem se_X2_read : Cond.selects RX2 yX2_read yX2_read ∈ lwa := chk_in wc_25 18 rfl
theorem cd_X2_read : Cond.code yX2_read cX2_read 7 (some .boolean) ∈ lwa := chk_in wc_25 19 rfl
def wl_26 : List (Nat × Cond) := [(772, Cond.methodLink RX2 26 yX7_clear), (0, Cond.instanceMethod yX7_clear), (0, Cond.selects RX7 yX7_clear yX7_clear), (0, Cond.code yX7_clear cX7_clear 1 none), (0, Cond.methodLink RX2 31 yX1_clear), (0, Cond.instanceMethod yX1_clear), (0, Cond.selects RX1 yX1_clear yX1_clear), (0, Cond.code yX1_clear cX1_clear 3 none), (0, Cond.methodLink RX1 54 yJ7_fill_53178), (0, Cond.static yJ7_fill_53178), (0, Cond.code yJ7_fill_53178 cJ7_fill_53178 4 none), (0, Cond.methodLink RX2 43 yX9_begin), (0, Cond.instanceMethod yX9_begin), (0, Cond.selects RX9 yX9_begin yX9_begin), (0, Cond.code yX9_begin cX9_begin 3 none), (0, Cond.methodLink RX9 13 yJ9_min_7cf53), (1, Cond.code yJ9_min_7cf53 cJ9_min_7cf53 2 (some .int)), (0, Cond.methodLink RX2 47 yX9_next), (0, Cond.instanceMethod yX9_next), (0, Cond.selects RX9 yX9_next yX9_next)]
set_option maxRecDepth 50000 in
theorem wc_26 : chk wl_26 lw_tbl = true := by decide +kernel
theorem ml_X2_26 : Cond.methodLink RX2 26 yX7_clear ∈ lwa := chk_in wc_26 0 rfl
theorem im_X7_clear : Cond.instanceMethod yX7_clear ∈ lwa := chk_in wc_26 1 rfl
theorem se_X7_clear : Cond.selects RX7 yX7_clear yX7_clear ∈ lwa := chk_in wc_26 2 rfl
theorem cd_X7_clear : Cond.code yX7_clear cX7_clear 1 none ∈ lwa := chk_in wc_26 3 rfl
theorem ml_X2_31 : Cond.methodLink RX2 31 yX1_clear ∈ lwa := chk_in wc_26 4 rfl
theorem im_X1_clear : Cond.instanceMethod yX1_clear ∈ lwa := chk_in wc_26 5 rfl
theorem se_X1_clear : Cond.selects RX1 yX1_clear yX1_clear ∈ lwa := chk_in wc_26 6 rfl
theorem cd_X1_clear : Cond.code yX1_clear cX1_clear 3 none ∈ lwa := chk_in wc_26 7 rfl
theorem ml_X1_54 : Cond.methodLink RX1 54 yJ7_fill_53178 ∈ lwa := chk_in wc_26 8 rfl
theorem sm_J7_fill_53178 : Cond.static yJ7_fill_53178 ∈ lwa := chk_in wc_26 9 rfl
theorem cd_J7_fill_53178 : Cond.code yJ7_fill_53178 cJ7_fill_53178 4 none ∈ lwa := chk_in wc_26 10 rfl
theorem ml_X2_43 : Cond.methodLink RX2 43 yX9_begin ∈ lwa := chk_in wc_26 11 rfl
theorem im_X9_begin : Cond.instanceMethod yX9_begin ∈ lwa := chk_in wc_26 12 rfl
theorem se_X9_begin : Cond.selects RX9 yX9_begin yX9_begin ∈ lwa := chk_in wc_26 13 rfl
theorem cd_X9_begin : Cond.code yX9_begin cX9_begin 3 none ∈ lwa := chk_in wc_26 14 rfl
theorem ml_X9_13 : Cond.methodLink RX9 13 yJ9_min_7cf53 ∈ lwa := chk_in wc_26 15 rfl
theorem cd_J9_min_7cf53 : Cond.code yJ9_min_7cf53 cJ9_min_7cf53 2 (some .int) ∈ lwa := chk_in wc_26 16 rfl
theorem ml_X2_47 : Cond.methodLink RX2 47 yX9_next ∈ lwa := chk_in wc_26 17 rfl
theorem im_X9_next : Cond.instanceMethod yX9_next ∈ lwa := chk_in wc_26 18 rfl
theorem se_X9_next : Cond.selects RX9 yX9_next yX9_next ∈ lwa := chk_in wc_26 19 rfl
def wl_27 : List (Nat × Cond) := [(793, Cond.code yX9_next cX9_next 1 none), (0, Cond.methodLink RX9 32 yX9_kindOf), (0, Cond.static yX9_kindOf), (0, Cond.code yX9_kindOf cX9_kindOf 1 (some .int)), (0, Cond.methodLink RX9 36 yX9_readNumber), (1, Cond.instanceMethod yX9_readNumber), (0, Cond.code yX9_readNumber cX9_readNumber 2 none), (0, Cond.methodLink RX2 53 yX2_readStatement), (1, Cond.instanceMethod yX2_readStatement), (0, Cond.code yX2_readStatement cX2_readStatement 1 (some .boolean)), (1, Cond.methodLink RX2 65 yX9_is), (0, Cond.instanceMethod yX9_is), (0, Cond.selects RX9 yX9_is yX9_is), (0, Cond.code yX9_is cX9_is 3 (some .boolean)), (0, Cond.methodLink RX9 42 yJ0_length_8abf5), (0, Cond.instanceMethod yJ0_length_8abf5), (0, Cond.selects RJ0 yJ0_length_8abf5 yJ0_length_8abf5), (0, Cond.code yJ0_length_8abf5 cJ0_length_8abf5 1 (some .int)), (1, Cond.instanceMethod yJ0_coder_7d493), (0, Cond.selects RJ0 yJ0_coder_7d493 yJ0_coder_7d493)]
set_option maxRecDepth 50000 in
theorem wc_27 : chk wl_27 lw_tbl = true := by decide +kernel
theorem cd_X9_next : Cond.code yX9_next cX9_next 1 none ∈ lwa := chk_in wc_27 0 rfl
theorem ml_X9_32 : Cond.methodLink RX9 32 yX9_kindOf ∈ lwa := chk_in wc_27 1 rfl
theorem sm_X9_kindOf : Cond.static yX9_kindOf ∈ lwa := chk_in wc_27 2 rfl
theorem cd_X9_kindOf : Cond.code yX9_kindOf cX9_kindOf 1 (some .int) ∈ lwa := chk_in wc_27 3 rfl
theorem ml_X9_36 : Cond.methodLink RX9 36 yX9_readNumber ∈ lwa := chk_in wc_27 4 rfl
theorem im_X9_readNumber : Cond.instanceMethod yX9_readNumber ∈ lwa := chk_in wc_27 5 rfl
theorem cd_X9_readNumber : Cond.code yX9_readNumber cX9_readNumber 2 none ∈ lwa := chk_in wc_27 6 rfl
theorem ml_X2_53 : Cond.methodLink RX2 53 yX2_readStatement ∈ lwa := chk_in wc_27 7 rfl
theorem im_X2_readStatement : Cond.instanceMethod yX2_readStatement ∈ lwa := chk_in wc_27 8 rfl
theorem cd_X2_readStatement : Cond.code yX2_readStatement cX2_readStatement 1 (some .boolean) ∈ lwa := chk_in wc_27 9 rfl
theorem ml_X2_65 : Cond.methodLink RX2 65 yX9_is ∈ lwa := chk_in wc_27 10 rfl
theorem im_X9_is : Cond.instanceMethod yX9_is ∈ lwa := chk_in wc_27 11 rfl
theorem se_X9_is : Cond.selects RX9 yX9_is yX9_is ∈ lwa := chk_in wc_27 12 rfl
theorem cd_X9_is : Cond.code yX9_is cX9_is 3 (some .boolean) ∈ lwa := chk_in wc_27 13 rfl
theorem ml_X9_42 : Cond.methodLink RX9 42 yJ0_length_8abf5 ∈ lwa := chk_in wc_27 14 rfl
theorem im_J0_length_8abf5 : Cond.instanceMethod yJ0_length_8abf5 ∈ lwa := chk_in wc_27 15 rfl
theorem se_J0_length_8abf5 : Cond.selects RJ0 yJ0_length_8abf5 yJ0_length_8abf5 ∈ lwa := chk_in wc_27 16 rfl
theorem cd_J0_length_8abf5 : Cond.code yJ0_length_8abf5 cJ0_length_8abf5 1 (some .int) ∈ lwa := chk_in wc_27 17 rfl
theorem im_J0_coder_7d493 : Cond.instanceMethod yJ0_coder_7d493 ∈ lwa := chk_in wc_27 18 rfl
theorem se_J0_coder_7d493 : Cond.selects RJ0 yJ0_coder_7d493 yJ0_coder_7d493 ∈ lwa := chk_in wc_27 19 rfl
def wl_28 : List (Nat × Cond) := [(817, Cond.code yJ0_coder_7d493 cJ0_coder_7d493 1 (some .byte)), (2, Cond.methodLink RX9 47 yJ0_charAt_5068e), (0, Cond.instanceMethod yJ0_charAt_5068e), (0, Cond.selects RJ0 yJ0_charAt_5068e yJ0_charAt_5068e), (0, Cond.code yJ0_charAt_5068e cJ0_charAt_5068e 2 (some .char)), (1, Cond.instanceMethod yJ0_isLatin1_aae02), (0, Cond.selects RJ0 yJ0_isLatin1_aae02 yJ0_isLatin1_aae02), (0, Cond.code yJ0_isLatin1_aae02 cJ0_isLatin1_aae02 1 (some .boolean)), (1, Cond.static yJ1_charAt_3b067), (0, Cond.code yJ1_charAt_3b067 cJ1_charAt_3b067 2 (some .char)), (1, Cond.static yJ0_checkIndex_df160), (0, Cond.code yJ0_checkIndex_df160 cJ0_checkIndex_df160 2 none), (3, Cond.static yJ3_checkIndex_8e157), (0, Cond.code yJ3_checkIndex_8e157 cJ3_checkIndex_8e157 3 (some .int)), (1, Cond.static yJ2_charAt_3b067), (0, Cond.code yJ2_charAt_3b067 cJ2_charAt_3b067 2 (some .char)), (1, Cond.static yJ2_checkIndex_2214a), (0, Cond.code yJ2_checkIndex_2214a cJ2_checkIndex_2214a 2 none), (1, Cond.static yJ2_length_9d52b), (0, Cond.code yJ2_length_9d52b cJ2_length_9d52b 1 (some .int))]
set_option maxRecDepth 50000 in
theorem wc_28 : chk wl_28 lw_tbl = true := by decide +kernel
theorem cd_J0_coder_7d493 : Cond.code yJ0_coder_7d493 cJ0_coder_7d493 1 (some .byte) ∈ lwa := chk_in wc_28 0 rfl
theorem ml_X9_47 : Cond.methodLink RX9 47 yJ0_charAt_5068e ∈ lwa := chk_in wc_28 1 rfl
theorem im_J0_charAt_5068e : Cond.instanceMethod yJ0_charAt_5068e ∈ lwa := chk_in wc_28 2 rfl
theorem se_J0_charAt_5068e : Cond.selects RJ0 yJ0_charAt_5068e yJ0_charAt_5068e ∈ lwa := chk_in wc_28 3 rfl
theorem cd_J0_charAt_5068e : Cond.code yJ0_charAt_5068e cJ0_charAt_5068e 2 (some .char) ∈ lwa := chk_in wc_28 4 rfl
theorem im_J0_isLatin1_aae02 : Cond.instanceMethod yJ0_isLatin1_aae02 ∈ lwa := chk_in wc_28 5 rfl
theorem se_J0_isLatin1_aae02 : Cond.selects RJ0 yJ0_isLatin1_aae02 yJ0_isLatin1_aae02 ∈ lwa := chk_in wc_28 6 rfl
theorem cd_J0_isLatin1_aae02 : Cond.code yJ0_isLatin1_aae02 cJ0_isLatin1_aae02 1 (some .boolean) ∈ lwa := chk_in wc_28 7 rfl
theorem sm_J1_charAt_3b067 : Cond.static yJ1_charAt_3b067 ∈ lwa := chk_in wc_28 8 rfl
theorem cd_J1_charAt_3b067 : Cond.code yJ1_charAt_3b067 cJ1_charAt_3b067 2 (some .char) ∈ lwa := chk_in wc_28 9 rfl
theorem sm_J0_checkIndex_df160 : Cond.static yJ0_checkIndex_df160 ∈ lwa := chk_in wc_28 10 rfl
theorem cd_J0_checkIndex_df160 : Cond.code yJ0_checkIndex_df160 cJ0_checkIndex_df160 2 none ∈ lwa := chk_in wc_28 11 rfl
theorem sm_J3_checkIndex_8e157 : Cond.static yJ3_checkIndex_8e157 ∈ lwa := chk_in wc_28 12 rfl
theorem cd_J3_checkIndex_8e157 : Cond.code yJ3_checkIndex_8e157 cJ3_checkIndex_8e157 3 (some .int) ∈ lwa := chk_in wc_28 13 rfl
theorem sm_J2_charAt_3b067 : Cond.static yJ2_charAt_3b067 ∈ lwa := chk_in wc_28 14 rfl
theorem cd_J2_charAt_3b067 : Cond.code yJ2_charAt_3b067 cJ2_charAt_3b067 2 (some .char) ∈ lwa := chk_in wc_28 15 rfl
theorem sm_J2_checkIndex_2214a : Cond.static yJ2_checkIndex_2214a ∈ lwa := chk_in wc_28 16 rfl
theorem cd_J2_checkIndex_2214a : Cond.code yJ2_checkIndex_2214a cJ2_checkIndex_2214a 2 none ∈ lwa := chk_in wc_28 17 rfl
theorem sm_J2_length_9d52b : Cond.static yJ2_length_9d52b ∈ lwa := chk_in wc_28 18 rfl
theorem cd_J2_length_9d52b : Cond.code yJ2_length_9d52b cJ2_length_9d52b 1 (some .int) ∈ lwa := chk_in wc_28 19 rfl
def wl_29 : List (Nat × Cond) := [(850, Cond.static yJ2_getChar_3b067), (0, Cond.code yJ2_getChar_3b067 cJ2_getChar_3b067 2 (some .char)), (6, Cond.methodLink RX2 69 yX2_readTime), (1, Cond.instanceMethod yX2_readTime), (0, Cond.code yX2_readTime cX2_readTime 3 (some .boolean)), (0, Cond.methodLink RX2 106 yX2_nextNumber), (1, Cond.instanceMethod yX2_nextNumber), (0, Cond.code yX2_nextNumber cX2_nextNumber 3 (some .int)), (0, Cond.methodLink RX2 147 yX2_numberHere), (1, Cond.instanceMethod yX2_numberHere), (0, Cond.code yX2_numberHere cX2_numberHere 3 (some .int)), (0, Cond.methodLink RX2 102 yX2_fail), (1, Cond.instanceMethod yX2_fail), (0, Cond.code yX2_fail cX2_fail 2 (some .boolean)), (0, Cond.methodLink RX2 113 yX2_signHere), (1, Cond.instanceMethod yX2_signHere), (0, Cond.code yX2_signHere cX2_signHere 1 (some .boolean)), (1, Cond.methodLink RX2 74 yX2_readLead), (1, Cond.instanceMethod yX2_readLead), (0, Cond.code yX2_readLead cX2_readLead 2 (some .boolean))]
set_option maxRecDepth 50000 in
theorem wc_29 : chk wl_29 lw_tbl = true := by decide +kernel
theorem sm_J2_getChar_3b067 : Cond.static yJ2_getChar_3b067 ∈ lwa := chk_in wc_29 0 rfl
theorem cd_J2_getChar_3b067 : Cond.code yJ2_getChar_3b067 cJ2_getChar_3b067 2 (some .char) ∈ lwa := chk_in wc_29 1 rfl
theorem ml_X2_69 : Cond.methodLink RX2 69 yX2_readTime ∈ lwa := chk_in wc_29 2 rfl
theorem im_X2_readTime : Cond.instanceMethod yX2_readTime ∈ lwa := chk_in wc_29 3 rfl
theorem cd_X2_readTime : Cond.code yX2_readTime cX2_readTime 3 (some .boolean) ∈ lwa := chk_in wc_29 4 rfl
theorem ml_X2_106 : Cond.methodLink RX2 106 yX2_nextNumber ∈ lwa := chk_in wc_29 5 rfl
theorem im_X2_nextNumber : Cond.instanceMethod yX2_nextNumber ∈ lwa := chk_in wc_29 6 rfl
theorem cd_X2_nextNumber : Cond.code yX2_nextNumber cX2_nextNumber 3 (some .int) ∈ lwa := chk_in wc_29 7 rfl
theorem ml_X2_147 : Cond.methodLink RX2 147 yX2_numberHere ∈ lwa := chk_in wc_29 8 rfl
theorem im_X2_numberHere : Cond.instanceMethod yX2_numberHere ∈ lwa := chk_in wc_29 9 rfl
theorem cd_X2_numberHere : Cond.code yX2_numberHere cX2_numberHere 3 (some .int) ∈ lwa := chk_in wc_29 10 rfl
theorem ml_X2_102 : Cond.methodLink RX2 102 yX2_fail ∈ lwa := chk_in wc_29 11 rfl
theorem im_X2_fail : Cond.instanceMethod yX2_fail ∈ lwa := chk_in wc_29 12 rfl
theorem cd_X2_fail : Cond.code yX2_fail cX2_fail 2 (some .boolean) ∈ lwa := chk_in wc_29 13 rfl
theorem ml_X2_113 : Cond.methodLink RX2 113 yX2_signHere ∈ lwa := chk_in wc_29 14 rfl
theorem im_X2_signHere : Cond.instanceMethod yX2_signHere ∈ lwa := chk_in wc_29 15 rfl
theorem cd_X2_signHere : Cond.code yX2_signHere cX2_signHere 1 (some .boolean) ∈ lwa := chk_in wc_29 16 rfl
theorem ml_X2_74 : Cond.methodLink RX2 74 yX2_readLead ∈ lwa := chk_in wc_29 17 rfl
theorem im_X2_readLead : Cond.instanceMethod yX2_readLead ∈ lwa := chk_in wc_29 18 rfl
theorem cd_X2_readLead : Cond.code yX2_readLead cX2_readLead 2 (some .boolean) ∈ lwa := chk_in wc_29 19 rfl
def wl_30 : List (Nat × Cond) := [(884, Cond.methodLink RX2 79 yX2_readCabin), (1, Cond.instanceMethod yX2_readCabin), (0, Cond.code yX2_readCabin cX2_readCabin 2 (some .boolean)), (0, Cond.methodLink RX2 121 yX2_nameHere), (1, Cond.instanceMethod yX2_nameHere), (0, Cond.code yX2_nameHere cX2_nameHere 1 (some .boolean)), (0, Cond.methodLink RX2 232 yX9_size), (0, Cond.instanceMethod yX9_size), (0, Cond.selects RX9 yX9_size yX9_size), (0, Cond.code yX9_size cX9_size 1 (some .int)), (0, Cond.methodLink RX2 124 yX2_cabinHere), (1, Cond.instanceMethod yX2_cabinHere), (0, Cond.code yX2_cabinHere cX2_cabinHere 2 (some .int)), (0, Cond.methodLink RX2 131 yX9_word), (0, Cond.instanceMethod yX9_word), (0, Cond.selects RX9 yX9_word yX9_word), (0, Cond.code yX9_word cX9_word 3 (some (.object "java/lang/String"))), (0, Cond.methodLink RX9 51 yX9_size), (2, Cond.methodLink RX9 54 yJ0_init_905df), (0, Cond.instanceMethod yJ0_init_905df)]
set_option maxRecDepth 50000 in
theorem wc_30 : chk wl_30 lw_tbl = true := by decide +kernel
theorem ml_X2_79 : Cond.methodLink RX2 79 yX2_readCabin ∈ lwa := chk_in wc_30 0 rfl
theorem im_X2_readCabin : Cond.instanceMethod yX2_readCabin ∈ lwa := chk_in wc_30 1 rfl
theorem cd_X2_readCabin : Cond.code yX2_readCabin cX2_readCabin 2 (some .boolean) ∈ lwa := chk_in wc_30 2 rfl
theorem ml_X2_121 : Cond.methodLink RX2 121 yX2_nameHere ∈ lwa := chk_in wc_30 3 rfl
theorem im_X2_nameHere : Cond.instanceMethod yX2_nameHere ∈ lwa := chk_in wc_30 4 rfl
theorem cd_X2_nameHere : Cond.code yX2_nameHere cX2_nameHere 1 (some .boolean) ∈ lwa := chk_in wc_30 5 rfl
theorem ml_X2_232 : Cond.methodLink RX2 232 yX9_size ∈ lwa := chk_in wc_30 6 rfl
theorem im_X9_size : Cond.instanceMethod yX9_size ∈ lwa := chk_in wc_30 7 rfl
theorem se_X9_size : Cond.selects RX9 yX9_size yX9_size ∈ lwa := chk_in wc_30 8 rfl
theorem cd_X9_size : Cond.code yX9_size cX9_size 1 (some .int) ∈ lwa := chk_in wc_30 9 rfl
theorem ml_X2_124 : Cond.methodLink RX2 124 yX2_cabinHere ∈ lwa := chk_in wc_30 10 rfl
theorem im_X2_cabinHere : Cond.instanceMethod yX2_cabinHere ∈ lwa := chk_in wc_30 11 rfl
theorem cd_X2_cabinHere : Cond.code yX2_cabinHere cX2_cabinHere 2 (some .int) ∈ lwa := chk_in wc_30 12 rfl
theorem ml_X2_131 : Cond.methodLink RX2 131 yX9_word ∈ lwa := chk_in wc_30 13 rfl
theorem im_X9_word : Cond.instanceMethod yX9_word ∈ lwa := chk_in wc_30 14 rfl
theorem se_X9_word : Cond.selects RX9 yX9_word yX9_word ∈ lwa := chk_in wc_30 15 rfl
theorem cd_X9_word : Cond.code yX9_word cX9_word 3 (some (.object "java/lang/String")) ∈ lwa := chk_in wc_30 16 rfl
theorem ml_X9_51 : Cond.methodLink RX9 51 yX9_size ∈ lwa := chk_in wc_30 17 rfl
theorem ml_X9_54 : Cond.methodLink RX9 54 yJ0_init_905df ∈ lwa := chk_in wc_30 18 rfl
theorem im_J0_init_905df : Cond.instanceMethod yJ0_init_905df ∈ lwa := chk_in wc_30 19 rfl
def wl_31 : List (Nat × Cond) := [(909, Cond.code yJ0_init_905df cJ0_init_905df 2 none), (1, Cond.instanceMethod yJ0_init_bb550), (0, Cond.code yJ0_init_bb550 cJ0_init_bb550 6 none), (3, Cond.static yJ2_compress_dfd3c), (0, Cond.code yJ2_compress_dfd3c cJ2_compress_dfd3c 6 (some (.array .byte))), (1, Cond.static yJ2_compress_fe38e), (0, Cond.code yJ2_compress_fe38e cJ2_compress_fe38e 7 (some .int)), (1, Cond.static yJ2_toBytes_dfd3c), (0, Cond.code yJ2_toBytes_dfd3c cJ2_toBytes_dfd3c 5 (some (.array .byte))), (1, Cond.static yJ2_newBytesFor_77867), (0, Cond.code yJ2_newBytesFor_77867 cJ2_newBytesFor_77867 1 (some (.array .byte))), (1, Cond.static yJ2_newBytesLength_0f7a4), (0, Cond.code yJ2_newBytesLength_0f7a4 cJ2_newBytesLength_0f7a4 1 (some .int)), (2, Cond.static yJ2_putChar_b72d1), (0, Cond.code yJ2_putChar_b72d1 cJ2_putChar_b72d1 3 none), (1, Cond.static yJ2_compress_5af95), (0, Cond.code yJ2_compress_5af95 cJ2_compress_5af95 7 (some .int)), (1, Cond.static yJ2_checkBoundsOffCount_d044e), (0, Cond.code yJ2_checkBoundsOffCount_d044e cJ2_checkBoundsOffCount_d044e 3 none), (1, Cond.static yJ0_checkBoundsOffCount_cabcc)]
set_option maxRecDepth 50000 in
theorem wc_31 : chk wl_31 lw_tbl = true := by decide +kernel
theorem cd_J0_init_905df : Cond.code yJ0_init_905df cJ0_init_905df 2 none ∈ lwa := chk_in wc_31 0 rfl
theorem im_J0_init_bb550 : Cond.instanceMethod yJ0_init_bb550 ∈ lwa := chk_in wc_31 1 rfl
theorem cd_J0_init_bb550 : Cond.code yJ0_init_bb550 cJ0_init_bb550 6 none ∈ lwa := chk_in wc_31 2 rfl
theorem sm_J2_compress_dfd3c : Cond.static yJ2_compress_dfd3c ∈ lwa := chk_in wc_31 3 rfl
theorem cd_J2_compress_dfd3c : Cond.code yJ2_compress_dfd3c cJ2_compress_dfd3c 6 (some (.array .byte)) ∈ lwa := chk_in wc_31 4 rfl
theorem sm_J2_compress_fe38e : Cond.static yJ2_compress_fe38e ∈ lwa := chk_in wc_31 5 rfl
theorem cd_J2_compress_fe38e : Cond.code yJ2_compress_fe38e cJ2_compress_fe38e 7 (some .int) ∈ lwa := chk_in wc_31 6 rfl
theorem sm_J2_toBytes_dfd3c : Cond.static yJ2_toBytes_dfd3c ∈ lwa := chk_in wc_31 7 rfl
theorem cd_J2_toBytes_dfd3c : Cond.code yJ2_toBytes_dfd3c cJ2_toBytes_dfd3c 5 (some (.array .byte)) ∈ lwa := chk_in wc_31 8 rfl
theorem sm_J2_newBytesFor_77867 : Cond.static yJ2_newBytesFor_77867 ∈ lwa := chk_in wc_31 9 rfl
theorem cd_J2_newBytesFor_77867 : Cond.code yJ2_newBytesFor_77867 cJ2_newBytesFor_77867 1 (some (.array .byte)) ∈ lwa := chk_in wc_31 10 rfl
theorem sm_J2_newBytesLength_0f7a4 : Cond.static yJ2_newBytesLength_0f7a4 ∈ lwa := chk_in wc_31 11 rfl
theorem cd_J2_newBytesLength_0f7a4 : Cond.code yJ2_newBytesLength_0f7a4 cJ2_newBytesLength_0f7a4 1 (some .int) ∈ lwa := chk_in wc_31 12 rfl
theorem sm_J2_putChar_b72d1 : Cond.static yJ2_putChar_b72d1 ∈ lwa := chk_in wc_31 13 rfl
theorem cd_J2_putChar_b72d1 : Cond.code yJ2_putChar_b72d1 cJ2_putChar_b72d1 3 none ∈ lwa := chk_in wc_31 14 rfl
theorem sm_J2_compress_5af95 : Cond.static yJ2_compress_5af95 ∈ lwa := chk_in wc_31 15 rfl
theorem cd_J2_compress_5af95 : Cond.code yJ2_compress_5af95 cJ2_compress_5af95 7 (some .int) ∈ lwa := chk_in wc_31 16 rfl
theorem sm_J2_checkBoundsOffCount_d044e : Cond.static yJ2_checkBoundsOffCount_d044e ∈ lwa := chk_in wc_31 17 rfl
theorem cd_J2_checkBoundsOffCount_d044e : Cond.code yJ2_checkBoundsOffCount_d044e cJ2_checkBoundsOffCount_d044e 3 none ∈ lwa := chk_in wc_31 18 rfl
theorem sm_J0_checkBoundsOffCount_cabcc : Cond.static yJ0_checkBoundsOffCount_cabcc ∈ lwa := chk_in wc_31 19 rfl
def wl_32 : List (Nat × Cond) := [(942, Cond.code yJ0_checkBoundsOffCount_cabcc cJ0_checkBoundsOffCount_cabcc 3 (some .int)), (1, Cond.static yJ3_checkFromIndexSize_8c36e), (0, Cond.code yJ3_checkFromIndexSize_8c36e cJ3_checkFromIndexSize_8c36e 4 (some .int)), (1, Cond.static yJ2_coderFromArrayLen_85cad), (0, Cond.code yJ2_coderFromArrayLen_85cad cJ2_coderFromArrayLen_85cad 2 (some .byte)), (3, u_lay RJ0 TJ0 0), (1, u_lay RJ0 TJ0 1), (1, u_lay RJ0 TJ0 2), (1, u_lay RJ0 TJ0 3), (4, Cond.methodLink RX2 84 yX2_readMeal), (1, Cond.instanceMethod yX2_readMeal), (0, Cond.code yX2_readMeal cX2_readMeal 2 (some .boolean)), (0, Cond.methodLink RX2 153 yX2_mealHere), (1, Cond.instanceMethod yX2_mealHere), (0, Cond.code yX2_mealHere cX2_mealHere 2 (some .int)), (0, Cond.methodLink RX2 162 yX2_readPlace), (1, Cond.instanceMethod yX2_readPlace), (0, Cond.code yX2_readPlace cX2_readPlace 2 (some .boolean)), (2, Cond.methodLink RX2 188 yX2_nextCabin), (1, Cond.instanceMethod yX2_nextCabin)]
set_option maxRecDepth 50000 in
theorem wc_32 : chk wl_32 lw_tbl = true := by decide +kernel
theorem cd_J0_checkBoundsOffCount_cabcc : Cond.code yJ0_checkBoundsOffCount_cabcc cJ0_checkBoundsOffCount_cabcc 3 (some .int) ∈ lwa := chk_in wc_32 0 rfl
theorem sm_J3_checkFromIndexSize_8c36e : Cond.static yJ3_checkFromIndexSize_8c36e ∈ lwa := chk_in wc_32 1 rfl
theorem cd_J3_checkFromIndexSize_8c36e : Cond.code yJ3_checkFromIndexSize_8c36e cJ3_checkFromIndexSize_8c36e 4 (some .int) ∈ lwa := chk_in wc_32 2 rfl
theorem sm_J2_coderFromArrayLen_85cad : Cond.static yJ2_coderFromArrayLen_85cad ∈ lwa := chk_in wc_32 3 rfl
theorem cd_J2_coderFromArrayLen_85cad : Cond.code yJ2_coderFromArrayLen_85cad cJ2_coderFromArrayLen_85cad 2 (some .byte) ∈ lwa := chk_in wc_32 4 rfl
theorem ul_J0_0 : u_lay RJ0 TJ0 0 ∈ lwa := chk_in wc_32 5 rfl
theorem ul_J0_1 : u_lay RJ0 TJ0 1 ∈ lwa := chk_in wc_32 6 rfl
theorem ul_J0_2 : u_lay RJ0 TJ0 2 ∈ lwa := chk_in wc_32 7 rfl
theorem ul_J0_3 : u_lay RJ0 TJ0 3 ∈ lwa := chk_in wc_32 8 rfl
theorem ml_X2_84 : Cond.methodLink RX2 84 yX2_readMeal ∈ lwa := chk_in wc_32 9 rfl
theorem im_X2_readMeal : Cond.instanceMethod yX2_readMeal ∈ lwa := chk_in wc_32 10 rfl
theorem cd_X2_readMeal : Cond.code yX2_readMeal cX2_readMeal 2 (some .boolean) ∈ lwa := chk_in wc_32 11 rfl
theorem ml_X2_153 : Cond.methodLink RX2 153 yX2_mealHere ∈ lwa := chk_in wc_32 12 rfl
theorem im_X2_mealHere : Cond.instanceMethod yX2_mealHere ∈ lwa := chk_in wc_32 13 rfl
theorem cd_X2_mealHere : Cond.code yX2_mealHere cX2_mealHere 2 (some .int) ∈ lwa := chk_in wc_32 14 rfl
theorem ml_X2_162 : Cond.methodLink RX2 162 yX2_readPlace ∈ lwa := chk_in wc_32 15 rfl
theorem im_X2_readPlace : Cond.instanceMethod yX2_readPlace ∈ lwa := chk_in wc_32 16 rfl
theorem cd_X2_readPlace : Cond.code yX2_readPlace cX2_readPlace 2 (some .boolean) ∈ lwa := chk_in wc_32 17 rfl
theorem ml_X2_188 : Cond.methodLink RX2 188 yX2_nextCabin ∈ lwa := chk_in wc_32 18 rfl
theorem im_X2_nextCabin : Cond.instanceMethod yX2_nextCabin ∈ lwa := chk_in wc_32 19 rfl
def wl_33 : List (Nat × Cond) := [(980, Cond.code yX2_nextCabin cX2_nextCabin 2 (some .int)), (1, Cond.methodLink RX2 176 yX2_nextDiets), (1, Cond.instanceMethod yX2_nextDiets), (0, Cond.code yX2_nextDiets cX2_nextDiets 5 (some .int)), (1, Cond.methodLink RX2 89 yX2_readTrolley), (1, Cond.instanceMethod yX2_readTrolley), (0, Cond.code yX2_readTrolley cX2_readTrolley 3 (some .boolean)), (1, Cond.methodLink RX2 94 yX2_readGuests), (1, Cond.instanceMethod yX2_readGuests), (0, Cond.code yX2_readGuests cX2_readGuests 4 (some .boolean)), (0, Cond.methodLink RX2 201 yX1_freeSeats), (0, Cond.instanceMethod yX1_freeSeats), (0, Cond.selects RX1 yX1_freeSeats yX1_freeSeats), (0, Cond.code yX1_freeSeats cX1_freeSeats 2 (some .int)), (0, Cond.methodLink RX1 90 yX1_passengersIn), (0, Cond.instanceMethod yX1_passengersIn), (0, Cond.selects RX1 yX1_passengersIn yX1_passengersIn), (0, Cond.code yX1_passengersIn cX1_passengersIn 4 (some .int)), (0, Cond.methodLink RX2 208 yX1_seat), (0, Cond.instanceMethod yX1_seat)]
set_option maxRecDepth 50000 in
theorem wc_33 : chk wl_33 lw_tbl = true := by decide +kernel
theorem cd_X2_nextCabin : Cond.code yX2_nextCabin cX2_nextCabin 2 (some .int) ∈ lwa := chk_in wc_33 0 rfl
theorem ml_X2_176 : Cond.methodLink RX2 176 yX2_nextDiets ∈ lwa := chk_in wc_33 1 rfl
theorem im_X2_nextDiets : Cond.instanceMethod yX2_nextDiets ∈ lwa := chk_in wc_33 2 rfl
theorem cd_X2_nextDiets : Cond.code yX2_nextDiets cX2_nextDiets 5 (some .int) ∈ lwa := chk_in wc_33 3 rfl
theorem ml_X2_89 : Cond.methodLink RX2 89 yX2_readTrolley ∈ lwa := chk_in wc_33 4 rfl
theorem im_X2_readTrolley : Cond.instanceMethod yX2_readTrolley ∈ lwa := chk_in wc_33 5 rfl
theorem cd_X2_readTrolley : Cond.code yX2_readTrolley cX2_readTrolley 3 (some .boolean) ∈ lwa := chk_in wc_33 6 rfl
theorem ml_X2_94 : Cond.methodLink RX2 94 yX2_readGuests ∈ lwa := chk_in wc_33 7 rfl
theorem im_X2_readGuests : Cond.instanceMethod yX2_readGuests ∈ lwa := chk_in wc_33 8 rfl
theorem cd_X2_readGuests : Cond.code yX2_readGuests cX2_readGuests 4 (some .boolean) ∈ lwa := chk_in wc_33 9 rfl
theorem ml_X2_201 : Cond.methodLink RX2 201 yX1_freeSeats ∈ lwa := chk_in wc_33 10 rfl
theorem im_X1_freeSeats : Cond.instanceMethod yX1_freeSeats ∈ lwa := chk_in wc_33 11 rfl
theorem se_X1_freeSeats : Cond.selects RX1 yX1_freeSeats yX1_freeSeats ∈ lwa := chk_in wc_33 12 rfl
theorem cd_X1_freeSeats : Cond.code yX1_freeSeats cX1_freeSeats 2 (some .int) ∈ lwa := chk_in wc_33 13 rfl
theorem ml_X1_90 : Cond.methodLink RX1 90 yX1_passengersIn ∈ lwa := chk_in wc_33 14 rfl
theorem im_X1_passengersIn : Cond.instanceMethod yX1_passengersIn ∈ lwa := chk_in wc_33 15 rfl
theorem se_X1_passengersIn : Cond.selects RX1 yX1_passengersIn yX1_passengersIn ∈ lwa := chk_in wc_33 16 rfl
theorem cd_X1_passengersIn : Cond.code yX1_passengersIn cX1_passengersIn 4 (some .int) ∈ lwa := chk_in wc_33 17 rfl
theorem ml_X2_208 : Cond.methodLink RX2 208 yX1_seat ∈ lwa := chk_in wc_33 18 rfl
theorem im_X1_seat : Cond.instanceMethod yX1_seat ∈ lwa := chk_in wc_33 19 rfl
def wl_34 : List (Nat × Cond) := [(1006, Cond.selects RX1 yX1_seat yX1_seat), (0, Cond.code yX1_seat cX1_seat 4 none), (1, Cond.methodLink RX2 99 yX2_readGuest), (1, Cond.instanceMethod yX2_readGuest), (0, Cond.code yX2_readGuest cX2_readGuest 4 (some .boolean)), (2, Cond.methodLink RX2 216 yX2_nextWish), (1, Cond.instanceMethod yX2_nextWish), (0, Cond.code yX2_nextWish cX2_nextWish 3 (some .int)), (1, Cond.methodLink RX10 119 yX1_copyAccounts), (0, Cond.instanceMethod yX1_copyAccounts), (0, Cond.selects RX1 yX1_copyAccounts yX1_copyAccounts), (0, Cond.code yX1_copyAccounts cX1_copyAccounts 2 none), (3, Cond.methodLink RX10 123 yX1_copy), (0, Cond.instanceMethod yX1_copy), (0, Cond.selects RX1 yX1_copy yX1_copy), (0, Cond.code yX1_copy cX1_copy 3 none), (0, Cond.methodLink RX1 69 yX1_copyAccounts), (0, Cond.methodLink RX10 126 yX10_forgetPast), (1, Cond.instanceMethod yX10_forgetPast), (0, Cond.code yX10_forgetPast cX10_forgetPast 1 none)]
set_option maxRecDepth 50000 in
theorem wc_34 : chk wl_34 lw_tbl = true := by decide +kernel
theorem se_X1_seat : Cond.selects RX1 yX1_seat yX1_seat ∈ lwa := chk_in wc_34 0 rfl
theorem cd_X1_seat : Cond.code yX1_seat cX1_seat 4 none ∈ lwa := chk_in wc_34 1 rfl
theorem ml_X2_99 : Cond.methodLink RX2 99 yX2_readGuest ∈ lwa := chk_in wc_34 2 rfl
theorem im_X2_readGuest : Cond.instanceMethod yX2_readGuest ∈ lwa := chk_in wc_34 3 rfl
theorem cd_X2_readGuest : Cond.code yX2_readGuest cX2_readGuest 4 (some .boolean) ∈ lwa := chk_in wc_34 4 rfl
theorem ml_X2_216 : Cond.methodLink RX2 216 yX2_nextWish ∈ lwa := chk_in wc_34 5 rfl
theorem im_X2_nextWish : Cond.instanceMethod yX2_nextWish ∈ lwa := chk_in wc_34 6 rfl
theorem cd_X2_nextWish : Cond.code yX2_nextWish cX2_nextWish 3 (some .int) ∈ lwa := chk_in wc_34 7 rfl
theorem ml_X10_119 : Cond.methodLink RX10 119 yX1_copyAccounts ∈ lwa := chk_in wc_34 8 rfl
theorem im_X1_copyAccounts : Cond.instanceMethod yX1_copyAccounts ∈ lwa := chk_in wc_34 9 rfl
theorem se_X1_copyAccounts : Cond.selects RX1 yX1_copyAccounts yX1_copyAccounts ∈ lwa := chk_in wc_34 10 rfl
theorem cd_X1_copyAccounts : Cond.code yX1_copyAccounts cX1_copyAccounts 2 none ∈ lwa := chk_in wc_34 11 rfl
theorem ml_X10_123 : Cond.methodLink RX10 123 yX1_copy ∈ lwa := chk_in wc_34 12 rfl
theorem im_X1_copy : Cond.instanceMethod yX1_copy ∈ lwa := chk_in wc_34 13 rfl
theorem se_X1_copy : Cond.selects RX1 yX1_copy yX1_copy ∈ lwa := chk_in wc_34 14 rfl
theorem cd_X1_copy : Cond.code yX1_copy cX1_copy 3 none ∈ lwa := chk_in wc_34 15 rfl
theorem ml_X1_69 : Cond.methodLink RX1 69 yX1_copyAccounts ∈ lwa := chk_in wc_34 16 rfl
theorem ml_X10_126 : Cond.methodLink RX10 126 yX10_forgetPast ∈ lwa := chk_in wc_34 17 rfl
theorem im_X10_forgetPast : Cond.instanceMethod yX10_forgetPast ∈ lwa := chk_in wc_34 18 rfl
theorem cd_X10_forgetPast : Cond.code yX10_forgetPast cX10_forgetPast 1 none ∈ lwa := chk_in wc_34 19 rfl
def wl_35 : List (Nat × Cond) := [(1036, Cond.methodLink RL 129 yL_count), (2, Cond.methodLink RL 21 yX10_count), (0, Cond.instanceMethod yX10_count), (0, Cond.selects RX10 yX10_count yX10_count), (0, Cond.code yX10_count cX10_count 2 (some .int)), (0, Cond.methodLink RX10 135 yX1_phase), (0, Cond.instanceMethod yX1_phase), (0, Cond.selects RX1 yX1_phase yX1_phase), (0, Cond.code yX1_phase cX1_phase 1 (some .int)), (0, Cond.methodLink RX10 154 yX1_allLoaded), (0, Cond.instanceMethod yX1_allLoaded), (0, Cond.selects RX1 yX1_allLoaded yX1_allLoaded), (0, Cond.code yX1_allLoaded cX1_allLoaded 3 (some .int)), (0, Cond.methodLink RX1 127 yX1_unitsIn), (0, Cond.instanceMethod yX1_unitsIn), (0, Cond.selects RX1 yX1_unitsIn yX1_unitsIn), (0, Cond.code yX1_unitsIn cX1_unitsIn 4 (some .int)), (0, Cond.methodLink RX10 157 yX10_freshOrder), (1, Cond.instanceMethod yX10_freshOrder), (0, Cond.code yX10_freshOrder cX10_freshOrder 1 (some (.object "MealLoader$Order")))]
set_option maxRecDepth 50000 in
theorem wc_35 : chk wl_35 lw_tbl = true := by decide +kernel
theorem ml_L_129 : Cond.methodLink RL 129 yL_count ∈ lwa := chk_in wc_35 0 rfl
theorem ml_L_21 : Cond.methodLink RL 21 yX10_count ∈ lwa := chk_in wc_35 1 rfl
theorem im_X10_count : Cond.instanceMethod yX10_count ∈ lwa := chk_in wc_35 2 rfl
theorem se_X10_count : Cond.selects RX10 yX10_count yX10_count ∈ lwa := chk_in wc_35 3 rfl
theorem cd_X10_count : Cond.code yX10_count cX10_count 2 (some .int) ∈ lwa := chk_in wc_35 4 rfl
theorem ml_X10_135 : Cond.methodLink RX10 135 yX1_phase ∈ lwa := chk_in wc_35 5 rfl
theorem im_X1_phase : Cond.instanceMethod yX1_phase ∈ lwa := chk_in wc_35 6 rfl
theorem se_X1_phase : Cond.selects RX1 yX1_phase yX1_phase ∈ lwa := chk_in wc_35 7 rfl
theorem cd_X1_phase : Cond.code yX1_phase cX1_phase 1 (some .int) ∈ lwa := chk_in wc_35 8 rfl
theorem ml_X10_154 : Cond.methodLink RX10 154 yX1_allLoaded ∈ lwa := chk_in wc_35 9 rfl
theorem im_X1_allLoaded : Cond.instanceMethod yX1_allLoaded ∈ lwa := chk_in wc_35 10 rfl
theorem se_X1_allLoaded : Cond.selects RX1 yX1_allLoaded yX1_allLoaded ∈ lwa := chk_in wc_35 11 rfl
theorem cd_X1_allLoaded : Cond.code yX1_allLoaded cX1_allLoaded 3 (some .int) ∈ lwa := chk_in wc_35 12 rfl
theorem ml_X1_127 : Cond.methodLink RX1 127 yX1_unitsIn ∈ lwa := chk_in wc_35 13 rfl
theorem im_X1_unitsIn : Cond.instanceMethod yX1_unitsIn ∈ lwa := chk_in wc_35 14 rfl
theorem se_X1_unitsIn : Cond.selects RX1 yX1_unitsIn yX1_unitsIn ∈ lwa := chk_in wc_35 15 rfl
theorem cd_X1_unitsIn : Cond.code yX1_unitsIn cX1_unitsIn 4 (some .int) ∈ lwa := chk_in wc_35 16 rfl
theorem ml_X10_157 : Cond.methodLink RX10 157 yX10_freshOrder ∈ lwa := chk_in wc_35 17 rfl
theorem im_X10_freshOrder : Cond.instanceMethod yX10_freshOrder ∈ lwa := chk_in wc_35 18 rfl
theorem cd_X10_freshOrder : Cond.code yX10_freshOrder cX10_freshOrder 1 (some (.object "MealLoader$Order")) ∈ lwa := chk_in wc_35 19 rfl
def wl_36 : List (Nat × Cond) := [(1059, Cond.methodLink RX10 465 yX6_reckon), (0, Cond.instanceMethod yX6_reckon), (0, Cond.selects RX6 yX6_reckon yX6_reckon), (0, Cond.code yX6_reckon cX6_reckon 5 none), (0, Cond.methodLink RX6 18 yJ7_fill_53178), (0, Cond.methodLink RX6 33 yX1_cheapestFor), (0, Cond.instanceMethod yX1_cheapestFor), (0, Cond.selects RX1 yX1_cheapestFor yX1_cheapestFor), (0, Cond.code yX1_cheapestFor cX1_cheapestFor 2 (some .int)), (0, Cond.methodLink RX1 98 yX1_suiting), (0, Cond.instanceMethod yX1_suiting), (0, Cond.selects RX1 yX1_suiting yX1_suiting), (0, Cond.code yX1_suiting cX1_suiting 2 (some .int)), (0, Cond.methodLink RX1 94 yX7_suiting), (0, Cond.instanceMethod yX7_suiting), (0, Cond.selects RX7 yX7_suiting yX7_suiting), (0, Cond.code yX7_suiting cX7_suiting 5 (some .int)), (0, Cond.methodLink RX7 57 yX7_admits), (0, Cond.instanceMethod yX7_admits), (0, Cond.selects RX7 yX7_admits yX7_admits)]
set_option maxRecDepth 50000 in
theorem wc_36 : chk wl_36 lw_tbl = true := by decide +kernel
theorem ml_X10_465 : Cond.methodLink RX10 465 yX6_reckon ∈ lwa := chk_in wc_36 0 rfl
theorem im_X6_reckon : Cond.instanceMethod yX6_reckon ∈ lwa := chk_in wc_36 1 rfl
theorem se_X6_reckon : Cond.selects RX6 yX6_reckon yX6_reckon ∈ lwa := chk_in wc_36 2 rfl
theorem cd_X6_reckon : Cond.code yX6_reckon cX6_reckon 5 none ∈ lwa := chk_in wc_36 3 rfl
theorem ml_X6_18 : Cond.methodLink RX6 18 yJ7_fill_53178 ∈ lwa := chk_in wc_36 4 rfl
theorem ml_X6_33 : Cond.methodLink RX6 33 yX1_cheapestFor ∈ lwa := chk_in wc_36 5 rfl
theorem im_X1_cheapestFor : Cond.instanceMethod yX1_cheapestFor ∈ lwa := chk_in wc_36 6 rfl
theorem se_X1_cheapestFor : Cond.selects RX1 yX1_cheapestFor yX1_cheapestFor ∈ lwa := chk_in wc_36 7 rfl
theorem cd_X1_cheapestFor : Cond.code yX1_cheapestFor cX1_cheapestFor 2 (some .int) ∈ lwa := chk_in wc_36 8 rfl
theorem ml_X1_98 : Cond.methodLink RX1 98 yX1_suiting ∈ lwa := chk_in wc_36 9 rfl
theorem im_X1_suiting : Cond.instanceMethod yX1_suiting ∈ lwa := chk_in wc_36 10 rfl
theorem se_X1_suiting : Cond.selects RX1 yX1_suiting yX1_suiting ∈ lwa := chk_in wc_36 11 rfl
theorem cd_X1_suiting : Cond.code yX1_suiting cX1_suiting 2 (some .int) ∈ lwa := chk_in wc_36 12 rfl
theorem ml_X1_94 : Cond.methodLink RX1 94 yX7_suiting ∈ lwa := chk_in wc_36 13 rfl
theorem im_X7_suiting : Cond.instanceMethod yX7_suiting ∈ lwa := chk_in wc_36 14 rfl
theorem se_X7_suiting : Cond.selects RX7 yX7_suiting yX7_suiting ∈ lwa := chk_in wc_36 15 rfl
theorem cd_X7_suiting : Cond.code yX7_suiting cX7_suiting 5 (some .int) ∈ lwa := chk_in wc_36 16 rfl
theorem ml_X7_57 : Cond.methodLink RX7 57 yX7_admits ∈ lwa := chk_in wc_36 17 rfl
theorem im_X7_admits : Cond.instanceMethod yX7_admits ∈ lwa := chk_in wc_36 18 rfl
theorem se_X7_admits : Cond.selects RX7 yX7_admits yX7_admits ∈ lwa := chk_in wc_36 19 rfl
def wl_37 : List (Nat × Cond) := [(1079, Cond.code yX7_admits cX7_admits 3 (some .boolean)), (0, Cond.methodLink RX1 100 yX7_cheapestOf), (0, Cond.instanceMethod yX7_cheapestOf), (0, Cond.selects RX7 yX7_cheapestOf yX7_cheapestOf), (0, Cond.code yX7_cheapestOf cX7_cheapestOf 4 (some .int)), (0, Cond.methodLink RX6 46 yX1_passengersIn), (0, Cond.methodLink RX6 49 yX1_specialsIn), (0, Cond.instanceMethod yX1_specialsIn), (0, Cond.selects RX1 yX1_specialsIn yX1_specialsIn), (0, Cond.code yX1_specialsIn cX1_specialsIn 4 (some .int)), (0, Cond.methodLink RX6 61 yX6_divide), (1, Cond.instanceMethod yX6_divide), (0, Cond.code yX6_divide cX6_divide 8 none), (0, Cond.methodLink RX6 79 yX6_greatestRemainder), (1, Cond.instanceMethod yX6_greatestRemainder), (0, Cond.code yX6_greatestRemainder cX6_greatestRemainder 4 (some .int)), (0, Cond.methodLink RX10 161 yX6_allUnits), (0, Cond.instanceMethod yX6_allUnits), (0, Cond.selects RX6 yX6_allUnits yX6_allUnits), (0, Cond.code yX6_allUnits cX6_allUnits 3 (some .int))]
set_option maxRecDepth 50000 in
theorem wc_37 : chk wl_37 lw_tbl = true := by decide +kernel
theorem cd_X7_admits : Cond.code yX7_admits cX7_admits 3 (some .boolean) ∈ lwa := chk_in wc_37 0 rfl
theorem ml_X1_100 : Cond.methodLink RX1 100 yX7_cheapestOf ∈ lwa := chk_in wc_37 1 rfl
theorem im_X7_cheapestOf : Cond.instanceMethod yX7_cheapestOf ∈ lwa := chk_in wc_37 2 rfl
theorem se_X7_cheapestOf : Cond.selects RX7 yX7_cheapestOf yX7_cheapestOf ∈ lwa := chk_in wc_37 3 rfl
theorem cd_X7_cheapestOf : Cond.code yX7_cheapestOf cX7_cheapestOf 4 (some .int) ∈ lwa := chk_in wc_37 4 rfl
theorem ml_X6_46 : Cond.methodLink RX6 46 yX1_passengersIn ∈ lwa := chk_in wc_37 5 rfl
theorem ml_X6_49 : Cond.methodLink RX6 49 yX1_specialsIn ∈ lwa := chk_in wc_37 6 rfl
theorem im_X1_specialsIn : Cond.instanceMethod yX1_specialsIn ∈ lwa := chk_in wc_37 7 rfl
theorem se_X1_specialsIn : Cond.selects RX1 yX1_specialsIn yX1_specialsIn ∈ lwa := chk_in wc_37 8 rfl
theorem cd_X1_specialsIn : Cond.code yX1_specialsIn cX1_specialsIn 4 (some .int) ∈ lwa := chk_in wc_37 9 rfl
theorem ml_X6_61 : Cond.methodLink RX6 61 yX6_divide ∈ lwa := chk_in wc_37 10 rfl
theorem im_X6_divide : Cond.instanceMethod yX6_divide ∈ lwa := chk_in wc_37 11 rfl
theorem cd_X6_divide : Cond.code yX6_divide cX6_divide 8 none ∈ lwa := chk_in wc_37 12 rfl
theorem ml_X6_79 : Cond.methodLink RX6 79 yX6_greatestRemainder ∈ lwa := chk_in wc_37 13 rfl
theorem im_X6_greatestRemainder : Cond.instanceMethod yX6_greatestRemainder ∈ lwa := chk_in wc_37 14 rfl
theorem cd_X6_greatestRemainder : Cond.code yX6_greatestRemainder cX6_greatestRemainder 4 (some .int) ∈ lwa := chk_in wc_37 15 rfl
theorem ml_X10_161 : Cond.methodLink RX10 161 yX6_allUnits ∈ lwa := chk_in wc_37 16 rfl
theorem im_X6_allUnits : Cond.instanceMethod yX6_allUnits ∈ lwa := chk_in wc_37 17 rfl
theorem se_X6_allUnits : Cond.selects RX6 yX6_allUnits yX6_allUnits ∈ lwa := chk_in wc_37 18 rfl
theorem cd_X6_allUnits : Cond.code yX6_allUnits cX6_allUnits 3 (some .int) ∈ lwa := chk_in wc_37 19 rfl
def wl_38 : List (Nat × Cond) := [(1102, Cond.methodLink RL 132 yL_cabin), (3, Cond.methodLink RL 24 yX10_cabin), (0, Cond.instanceMethod yX10_cabin), (0, Cond.selects RX10 yX10_cabin yX10_cabin), (0, Cond.code yX10_cabin cX10_cabin 3 (some .int)), (0, Cond.methodLink RX10 175 yX10_requireCabin), (1, Cond.instanceMethod yX10_requireCabin), (0, Cond.code yX10_requireCabin cX10_requireCabin 2 none), (16, Cond.methodLink RX10 190 yX1_passengersIn), (0, Cond.methodLink RX10 194 yX1_specialsIn), (0, Cond.methodLink RX10 197 yX7_trolleysOf), (0, Cond.instanceMethod yX7_trolleysOf), (0, Cond.selects RX7 yX7_trolleysOf yX7_trolleysOf), (0, Cond.code yX7_trolleysOf cX7_trolleysOf 4 (some .int)), (0, Cond.methodLink RX10 200 yX1_freeSlotsIn), (0, Cond.instanceMethod yX1_freeSlotsIn), (0, Cond.selects RX1 yX1_freeSlotsIn yX1_freeSlotsIn), (0, Cond.code yX1_freeSlotsIn cX1_freeSlotsIn 4 (some .int)), (0, Cond.methodLink RX1 124 yX1_freeSlots), (0, Cond.instanceMethod yX1_freeSlots)]
set_option maxRecDepth 50000 in
theorem wc_38 : chk wl_38 lw_tbl = true := by decide +kernel
theorem ml_L_132 : Cond.methodLink RL 132 yL_cabin ∈ lwa := chk_in wc_38 0 rfl
theorem ml_L_24 : Cond.methodLink RL 24 yX10_cabin ∈ lwa := chk_in wc_38 1 rfl
theorem im_X10_cabin : Cond.instanceMethod yX10_cabin ∈ lwa := chk_in wc_38 2 rfl
theorem se_X10_cabin : Cond.selects RX10 yX10_cabin yX10_cabin ∈ lwa := chk_in wc_38 3 rfl
theorem cd_X10_cabin : Cond.code yX10_cabin cX10_cabin 3 (some .int) ∈ lwa := chk_in wc_38 4 rfl
theorem ml_X10_175 : Cond.methodLink RX10 175 yX10_requireCabin ∈ lwa := chk_in wc_38 5 rfl
theorem im_X10_requireCabin : Cond.instanceMethod yX10_requireCabin ∈ lwa := chk_in wc_38 6 rfl
theorem cd_X10_requireCabin : Cond.code yX10_requireCabin cX10_requireCabin 2 none ∈ lwa := chk_in wc_38 7 rfl
theorem ml_X10_190 : Cond.methodLink RX10 190 yX1_passengersIn ∈ lwa := chk_in wc_38 8 rfl
theorem ml_X10_194 : Cond.methodLink RX10 194 yX1_specialsIn ∈ lwa := chk_in wc_38 9 rfl
theorem ml_X10_197 : Cond.methodLink RX10 197 yX7_trolleysOf ∈ lwa := chk_in wc_38 10 rfl
theorem im_X7_trolleysOf : Cond.instanceMethod yX7_trolleysOf ∈ lwa := chk_in wc_38 11 rfl
theorem se_X7_trolleysOf : Cond.selects RX7 yX7_trolleysOf yX7_trolleysOf ∈ lwa := chk_in wc_38 12 rfl
theorem cd_X7_trolleysOf : Cond.code yX7_trolleysOf cX7_trolleysOf 4 (some .int) ∈ lwa := chk_in wc_38 13 rfl
theorem ml_X10_200 : Cond.methodLink RX10 200 yX1_freeSlotsIn ∈ lwa := chk_in wc_38 14 rfl
theorem im_X1_freeSlotsIn : Cond.instanceMethod yX1_freeSlotsIn ∈ lwa := chk_in wc_38 15 rfl
theorem se_X1_freeSlotsIn : Cond.selects RX1 yX1_freeSlotsIn yX1_freeSlotsIn ∈ lwa := chk_in wc_38 16 rfl
theorem cd_X1_freeSlotsIn : Cond.code yX1_freeSlotsIn cX1_freeSlotsIn 4 (some .int) ∈ lwa := chk_in wc_38 17 rfl
theorem ml_X1_124 : Cond.methodLink RX1 124 yX1_freeSlots ∈ lwa := chk_in wc_38 18 rfl
theorem im_X1_freeSlots : Cond.instanceMethod yX1_freeSlots ∈ lwa := chk_in wc_38 19 rfl
def wl_39 : List (Nat × Cond) := [(1142, Cond.selects RX1 yX1_freeSlots yX1_freeSlots), (0, Cond.code yX1_freeSlots cX1_freeSlots 4 (some .int)), (0, Cond.methodLink RX10 203 yX7_menuOf), (0, Cond.instanceMethod yX7_menuOf), (0, Cond.selects RX7 yX7_menuOf yX7_menuOf), (0, Cond.code yX7_menuOf cX7_menuOf 4 (some .int)), (0, Cond.methodLink RX10 206 yX6_slotsOfMenu), (0, Cond.instanceMethod yX6_slotsOfMenu), (0, Cond.selects RX6 yX6_slotsOfMenu yX6_slotsOfMenu), (0, Cond.code yX6_slotsOfMenu cX6_slotsOfMenu 5 (some .int)), (1, Cond.methodLink RL 136 yL_meal), (2, Cond.methodLink RL 30 yX10_meal), (0, Cond.instanceMethod yX10_meal), (0, Cond.selects RX10 yX10_meal yX10_meal), (0, Cond.code yX10_meal cX10_meal 3 (some .int)), (0, Cond.methodLink RX10 212 yX10_requireMeal), (1, Cond.instanceMethod yX10_requireMeal), (0, Cond.code yX10_requireMeal cX10_requireMeal 2 none), (1, Cond.methodLink RX10 233 yX1_loadedOf), (0, Cond.instanceMethod yX1_loadedOf)]
set_option maxRecDepth 50000 in
theorem wc_39 : chk wl_39 lw_tbl = true := by decide +kernel
theorem se_X1_freeSlots : Cond.selects RX1 yX1_freeSlots yX1_freeSlots ∈ lwa := chk_in wc_39 0 rfl
theorem cd_X1_freeSlots : Cond.code yX1_freeSlots cX1_freeSlots 4 (some .int) ∈ lwa := chk_in wc_39 1 rfl
theorem ml_X10_203 : Cond.methodLink RX10 203 yX7_menuOf ∈ lwa := chk_in wc_39 2 rfl
theorem im_X7_menuOf : Cond.instanceMethod yX7_menuOf ∈ lwa := chk_in wc_39 3 rfl
theorem se_X7_menuOf : Cond.selects RX7 yX7_menuOf yX7_menuOf ∈ lwa := chk_in wc_39 4 rfl
theorem cd_X7_menuOf : Cond.code yX7_menuOf cX7_menuOf 4 (some .int) ∈ lwa := chk_in wc_39 5 rfl
theorem ml_X10_206 : Cond.methodLink RX10 206 yX6_slotsOfMenu ∈ lwa := chk_in wc_39 6 rfl
theorem im_X6_slotsOfMenu : Cond.instanceMethod yX6_slotsOfMenu ∈ lwa := chk_in wc_39 7 rfl
theorem se_X6_slotsOfMenu : Cond.selects RX6 yX6_slotsOfMenu yX6_slotsOfMenu ∈ lwa := chk_in wc_39 8 rfl
theorem cd_X6_slotsOfMenu : Cond.code yX6_slotsOfMenu cX6_slotsOfMenu 5 (some .int) ∈ lwa := chk_in wc_39 9 rfl
theorem ml_L_136 : Cond.methodLink RL 136 yL_meal ∈ lwa := chk_in wc_39 10 rfl
theorem ml_L_30 : Cond.methodLink RL 30 yX10_meal ∈ lwa := chk_in wc_39 11 rfl
theorem im_X10_meal : Cond.instanceMethod yX10_meal ∈ lwa := chk_in wc_39 12 rfl
theorem se_X10_meal : Cond.selects RX10 yX10_meal yX10_meal ∈ lwa := chk_in wc_39 13 rfl
theorem cd_X10_meal : Cond.code yX10_meal cX10_meal 3 (some .int) ∈ lwa := chk_in wc_39 14 rfl
theorem ml_X10_212 : Cond.methodLink RX10 212 yX10_requireMeal ∈ lwa := chk_in wc_39 15 rfl
theorem im_X10_requireMeal : Cond.instanceMethod yX10_requireMeal ∈ lwa := chk_in wc_39 16 rfl
theorem cd_X10_requireMeal : Cond.code yX10_requireMeal cX10_requireMeal 2 none ∈ lwa := chk_in wc_39 17 rfl
theorem ml_X10_233 : Cond.methodLink RX10 233 yX1_loadedOf ∈ lwa := chk_in wc_39 18 rfl
theorem im_X1_loadedOf : Cond.instanceMethod yX1_loadedOf ∈ lwa := chk_in wc_39 19 rfl
def wl_40 : List (Nat × Cond) := [(1167, Cond.selects RX1 yX1_loadedOf yX1_loadedOf), (0, Cond.code yX1_loadedOf cX1_loadedOf 4 (some .int)), (0, Cond.methodLink RX10 240 yX1_onTheWay), (0, Cond.instanceMethod yX1_onTheWay), (0, Cond.selects RX1 yX1_onTheWay yX1_onTheWay), (0, Cond.code yX1_onTheWay cX1_onTheWay 4 (some .int)), (0, Cond.methodLink RX10 243 yX10_freshService), (1, Cond.instanceMethod yX10_freshService), (0, Cond.code yX10_freshService cX10_freshService 1 (some (.object "MealLoader$Service"))), (0, Cond.methodLink RX10 468 yX4_match), (0, Cond.instanceMethod yX4_match), (0, Cond.selects RX4 yX4_match yX4_match), (0, Cond.code yX4_match cX4_match 7 none), (0, Cond.methodLink RX4 59 yX4_begin), (1, Cond.instanceMethod yX4_begin), (0, Cond.code yX4_begin cX4_begin 3 none), (0, Cond.methodLink RX4 49 yX1_loadedOf), (0, Cond.methodLink RX4 56 yX1_suiting), (0, Cond.methodLink RX4 63 yX4_matchOneMore), (1, Cond.instanceMethod yX4_matchOneMore)]
set_option maxRecDepth 50000 in
theorem wc_40 : chk wl_40 lw_tbl = true := by decide +kernel
theorem se_X1_loadedOf : Cond.selects RX1 yX1_loadedOf yX1_loadedOf ∈ lwa := chk_in wc_40 0 rfl
theorem cd_X1_loadedOf : Cond.code yX1_loadedOf cX1_loadedOf 4 (some .int) ∈ lwa := chk_in wc_40 1 rfl
theorem ml_X10_240 : Cond.methodLink RX10 240 yX1_onTheWay ∈ lwa := chk_in wc_40 2 rfl
theorem im_X1_onTheWay : Cond.instanceMethod yX1_onTheWay ∈ lwa := chk_in wc_40 3 rfl
theorem se_X1_onTheWay : Cond.selects RX1 yX1_onTheWay yX1_onTheWay ∈ lwa := chk_in wc_40 4 rfl
theorem cd_X1_onTheWay : Cond.code yX1_onTheWay cX1_onTheWay 4 (some .int) ∈ lwa := chk_in wc_40 5 rfl
theorem ml_X10_243 : Cond.methodLink RX10 243 yX10_freshService ∈ lwa := chk_in wc_40 6 rfl
theorem im_X10_freshService : Cond.instanceMethod yX10_freshService ∈ lwa := chk_in wc_40 7 rfl
theorem cd_X10_freshService : Cond.code yX10_freshService cX10_freshService 1 (some (.object "MealLoader$Service")) ∈ lwa := chk_in wc_40 8 rfl
theorem ml_X10_468 : Cond.methodLink RX10 468 yX4_match ∈ lwa := chk_in wc_40 9 rfl
theorem im_X4_match : Cond.instanceMethod yX4_match ∈ lwa := chk_in wc_40 10 rfl
theorem se_X4_match : Cond.selects RX4 yX4_match yX4_match ∈ lwa := chk_in wc_40 11 rfl
theorem cd_X4_match : Cond.code yX4_match cX4_match 7 none ∈ lwa := chk_in wc_40 12 rfl
theorem ml_X4_59 : Cond.methodLink RX4 59 yX4_begin ∈ lwa := chk_in wc_40 13 rfl
theorem im_X4_begin : Cond.instanceMethod yX4_begin ∈ lwa := chk_in wc_40 14 rfl
theorem cd_X4_begin : Cond.code yX4_begin cX4_begin 3 none ∈ lwa := chk_in wc_40 15 rfl
theorem ml_X4_49 : Cond.methodLink RX4 49 yX1_loadedOf ∈ lwa := chk_in wc_40 16 rfl
theorem ml_X4_56 : Cond.methodLink RX4 56 yX1_suiting ∈ lwa := chk_in wc_40 17 rfl
theorem ml_X4_63 : Cond.methodLink RX4 63 yX4_matchOneMore ∈ lwa := chk_in wc_40 18 rfl
theorem im_X4_matchOneMore : Cond.instanceMethod yX4_matchOneMore ∈ lwa := chk_in wc_40 19 rfl
def wl_41 : List (Nat × Cond) := [(1190, Cond.code yX4_matchOneMore cX4_matchOneMore 5 (some .boolean)), (0, Cond.methodLink RX4 79 yJ7_fill_53178), (0, Cond.methodLink RX4 91 yX4_reach), (1, Cond.instanceMethod yX4_reach), (0, Cond.code yX4_reach cX4_reach 4 none), (0, Cond.methodLink RX4 95 yX4_moveAlong), (1, Cond.instanceMethod yX4_moveAlong), (0, Cond.code yX4_moveAlong cX4_moveAlong 7 none), (0, Cond.methodLink RX4 75 yX4_findMover), (1, Cond.instanceMethod yX4_findMover), (0, Cond.code yX4_findMover cX4_findMover 5 (some .int)), (0, Cond.methodLink RX4 67 yX4_canHave), (1, Cond.instanceMethod yX4_canHave), (0, Cond.code yX4_canHave cX4_canHave 5 (some .boolean)), (0, Cond.methodLink RX4 71 yX4_giveBack), (1, Cond.instanceMethod yX4_giveBack), (0, Cond.code yX4_giveBack cX4_giveBack 2 none), (0, Cond.methodLink RX10 472 yX8_reckon), (0, Cond.instanceMethod yX8_reckon), (0, Cond.selects RX8 yX8_reckon yX8_reckon)]
set_option maxRecDepth 50000 in
theorem wc_41 : chk wl_41 lw_tbl = true := by decide +kernel
theorem cd_X4_matchOneMore : Cond.code yX4_matchOneMore cX4_matchOneMore 5 (some .boolean) ∈ lwa := chk_in wc_41 0 rfl
theorem ml_X4_79 : Cond.methodLink RX4 79 yJ7_fill_53178 ∈ lwa := chk_in wc_41 1 rfl
theorem ml_X4_91 : Cond.methodLink RX4 91 yX4_reach ∈ lwa := chk_in wc_41 2 rfl
theorem im_X4_reach : Cond.instanceMethod yX4_reach ∈ lwa := chk_in wc_41 3 rfl
theorem cd_X4_reach : Cond.code yX4_reach cX4_reach 4 none ∈ lwa := chk_in wc_41 4 rfl
theorem ml_X4_95 : Cond.methodLink RX4 95 yX4_moveAlong ∈ lwa := chk_in wc_41 5 rfl
theorem im_X4_moveAlong : Cond.instanceMethod yX4_moveAlong ∈ lwa := chk_in wc_41 6 rfl
theorem cd_X4_moveAlong : Cond.code yX4_moveAlong cX4_moveAlong 7 none ∈ lwa := chk_in wc_41 7 rfl
theorem ml_X4_75 : Cond.methodLink RX4 75 yX4_findMover ∈ lwa := chk_in wc_41 8 rfl
theorem im_X4_findMover : Cond.instanceMethod yX4_findMover ∈ lwa := chk_in wc_41 9 rfl
theorem cd_X4_findMover : Cond.code yX4_findMover cX4_findMover 5 (some .int) ∈ lwa := chk_in wc_41 10 rfl
theorem ml_X4_67 : Cond.methodLink RX4 67 yX4_canHave ∈ lwa := chk_in wc_41 11 rfl
theorem im_X4_canHave : Cond.instanceMethod yX4_canHave ∈ lwa := chk_in wc_41 12 rfl
theorem cd_X4_canHave : Cond.code yX4_canHave cX4_canHave 5 (some .boolean) ∈ lwa := chk_in wc_41 13 rfl
theorem ml_X4_71 : Cond.methodLink RX4 71 yX4_giveBack ∈ lwa := chk_in wc_41 14 rfl
theorem im_X4_giveBack : Cond.instanceMethod yX4_giveBack ∈ lwa := chk_in wc_41 15 rfl
theorem cd_X4_giveBack : Cond.code yX4_giveBack cX4_giveBack 2 none ∈ lwa := chk_in wc_41 16 rfl
theorem ml_X10_472 : Cond.methodLink RX10 472 yX8_reckon ∈ lwa := chk_in wc_41 17 rfl
theorem im_X8_reckon : Cond.instanceMethod yX8_reckon ∈ lwa := chk_in wc_41 18 rfl
theorem se_X8_reckon : Cond.selects RX8 yX8_reckon yX8_reckon ∈ lwa := chk_in wc_41 19 rfl
def wl_42 : List (Nat × Cond) := [(1215, Cond.code yX8_reckon cX8_reckon 4 none), (0, Cond.methodLink RX8 28 yJ7_fill_53178), (0, Cond.methodLink RX8 45 yX1_loadedOf), (0, Cond.methodLink RX8 52 yX8_give), (1, Cond.instanceMethod yX8_give), (0, Cond.code yX8_give cX8_give 3 none), (0, Cond.methodLink RX8 59 yX8_servePlain), (1, Cond.instanceMethod yX8_servePlain), (0, Cond.code yX8_servePlain cX8_servePlain 5 none), (0, Cond.methodLink RX8 76 yX8_mostLeft), (1, Cond.instanceMethod yX8_mostLeft), (0, Cond.code yX8_mostLeft cX8_mostLeft 5 (some .int)), (0, Cond.methodLink RX8 63 yX8_addUpWaste), (1, Cond.instanceMethod yX8_addUpWaste), (0, Cond.code yX8_addUpWaste cX8_addUpWaste 3 none), (0, Cond.methodLink RX10 250 yX1_missing), (0, Cond.instanceMethod yX1_missing), (0, Cond.selects RX1 yX1_missing yX1_missing), (0, Cond.code yX1_missing cX1_missing 3 (some .int)), (0, Cond.methodLink RX1 130 yX1_loadedOf)]
set_option maxRecDepth 50000 in
theorem wc_42 : chk wl_42 lw_tbl = true := by decide +kernel
theorem cd_X8_reckon : Cond.code yX8_reckon cX8_reckon 4 none ∈ lwa := chk_in wc_42 0 rfl
theorem ml_X8_28 : Cond.methodLink RX8 28 yJ7_fill_53178 ∈ lwa := chk_in wc_42 1 rfl
theorem ml_X8_45 : Cond.methodLink RX8 45 yX1_loadedOf ∈ lwa := chk_in wc_42 2 rfl
theorem ml_X8_52 : Cond.methodLink RX8 52 yX8_give ∈ lwa := chk_in wc_42 3 rfl
theorem im_X8_give : Cond.instanceMethod yX8_give ∈ lwa := chk_in wc_42 4 rfl
theorem cd_X8_give : Cond.code yX8_give cX8_give 3 none ∈ lwa := chk_in wc_42 5 rfl
theorem ml_X8_59 : Cond.methodLink RX8 59 yX8_servePlain ∈ lwa := chk_in wc_42 6 rfl
theorem im_X8_servePlain : Cond.instanceMethod yX8_servePlain ∈ lwa := chk_in wc_42 7 rfl
theorem cd_X8_servePlain : Cond.code yX8_servePlain cX8_servePlain 5 none ∈ lwa := chk_in wc_42 8 rfl
theorem ml_X8_76 : Cond.methodLink RX8 76 yX8_mostLeft ∈ lwa := chk_in wc_42 9 rfl
theorem im_X8_mostLeft : Cond.instanceMethod yX8_mostLeft ∈ lwa := chk_in wc_42 10 rfl
theorem cd_X8_mostLeft : Cond.code yX8_mostLeft cX8_mostLeft 5 (some .int) ∈ lwa := chk_in wc_42 11 rfl
theorem ml_X8_63 : Cond.methodLink RX8 63 yX8_addUpWaste ∈ lwa := chk_in wc_42 12 rfl
theorem im_X8_addUpWaste : Cond.instanceMethod yX8_addUpWaste ∈ lwa := chk_in wc_42 13 rfl
theorem cd_X8_addUpWaste : Cond.code yX8_addUpWaste cX8_addUpWaste 3 none ∈ lwa := chk_in wc_42 14 rfl
theorem ml_X10_250 : Cond.methodLink RX10 250 yX1_missing ∈ lwa := chk_in wc_42 15 rfl
theorem im_X1_missing : Cond.instanceMethod yX1_missing ∈ lwa := chk_in wc_42 16 rfl
theorem se_X1_missing : Cond.selects RX1 yX1_missing yX1_missing ∈ lwa := chk_in wc_42 17 rfl
theorem cd_X1_missing : Cond.code yX1_missing cX1_missing 3 (some .int) ∈ lwa := chk_in wc_42 18 rfl
theorem ml_X1_130 : Cond.methodLink RX1 130 yX1_loadedOf ∈ lwa := chk_in wc_42 19 rfl
def wl_43 : List (Nat × Cond) := [(1239, Cond.methodLink RX1 133 yX1_onTheWay), (0, Cond.methodLink RX1 136 yJ9_max_7cf53), (1, Cond.code yJ9_max_7cf53 cJ9_max_7cf53 2 (some .int)), (1, Cond.methodLink RL 139 yL_passenger), (2, Cond.methodLink RL 33 yX10_passenger), (0, Cond.instanceMethod yX10_passenger), (0, Cond.selects RX10 yX10_passenger yX10_passenger), (0, Cond.code yX10_passenger cX10_passenger 3 (some .int)), (0, Cond.methodLink RX10 256 yX10_requirePassenger), (1, Cond.instanceMethod yX10_requirePassenger), (0, Cond.code yX10_requirePassenger cX10_requirePassenger 2 none), (1, Cond.methodLink RX10 271 yX1_suiting), (0, Cond.methodLink RX10 274 yX1_cheapestFor), (1, Cond.methodLink RL 142 yL_trolley), (2, Cond.methodLink RL 36 yX10_trolley), (0, Cond.instanceMethod yX10_trolley), (0, Cond.selects RX10 yX10_trolley yX10_trolley), (0, Cond.code yX10_trolley cX10_trolley 3 (some .int)), (0, Cond.methodLink RX10 279 yX10_requireTrolley), (1, Cond.instanceMethod yX10_requireTrolley)]
set_option maxRecDepth 50000 in
theorem wc_43 : chk wl_43 lw_tbl = true := by decide +kernel
theorem ml_X1_133 : Cond.methodLink RX1 133 yX1_onTheWay ∈ lwa := chk_in wc_43 0 rfl
theorem ml_X1_136 : Cond.methodLink RX1 136 yJ9_max_7cf53 ∈ lwa := chk_in wc_43 1 rfl
theorem cd_J9_max_7cf53 : Cond.code yJ9_max_7cf53 cJ9_max_7cf53 2 (some .int) ∈ lwa := chk_in wc_43 2 rfl
theorem ml_L_139 : Cond.methodLink RL 139 yL_passenger ∈ lwa := chk_in wc_43 3 rfl
theorem ml_L_33 : Cond.methodLink RL 33 yX10_passenger ∈ lwa := chk_in wc_43 4 rfl
theorem im_X10_passenger : Cond.instanceMethod yX10_passenger ∈ lwa := chk_in wc_43 5 rfl
theorem se_X10_passenger : Cond.selects RX10 yX10_passenger yX10_passenger ∈ lwa := chk_in wc_43 6 rfl
theorem cd_X10_passenger : Cond.code yX10_passenger cX10_passenger 3 (some .int) ∈ lwa := chk_in wc_43 7 rfl
theorem ml_X10_256 : Cond.methodLink RX10 256 yX10_requirePassenger ∈ lwa := chk_in wc_43 8 rfl
theorem im_X10_requirePassenger : Cond.instanceMethod yX10_requirePassenger ∈ lwa := chk_in wc_43 9 rfl
theorem cd_X10_requirePassenger : Cond.code yX10_requirePassenger cX10_requirePassenger 2 none ∈ lwa := chk_in wc_43 10 rfl
theorem ml_X10_271 : Cond.methodLink RX10 271 yX1_suiting ∈ lwa := chk_in wc_43 11 rfl
theorem ml_X10_274 : Cond.methodLink RX10 274 yX1_cheapestFor ∈ lwa := chk_in wc_43 12 rfl
theorem ml_L_142 : Cond.methodLink RL 142 yL_trolley ∈ lwa := chk_in wc_43 13 rfl
theorem ml_L_36 : Cond.methodLink RL 36 yX10_trolley ∈ lwa := chk_in wc_43 14 rfl
theorem im_X10_trolley : Cond.instanceMethod yX10_trolley ∈ lwa := chk_in wc_43 15 rfl
theorem se_X10_trolley : Cond.selects RX10 yX10_trolley yX10_trolley ∈ lwa := chk_in wc_43 16 rfl
theorem cd_X10_trolley : Cond.code yX10_trolley cX10_trolley 3 (some .int) ∈ lwa := chk_in wc_43 17 rfl
theorem ml_X10_279 : Cond.methodLink RX10 279 yX10_requireTrolley ∈ lwa := chk_in wc_43 18 rfl
theorem im_X10_requireTrolley : Cond.instanceMethod yX10_requireTrolley ∈ lwa := chk_in wc_43 19 rfl
def wl_44 : List (Nat × Cond) := [(1269, Cond.code yX10_requireTrolley cX10_requireTrolley 2 none), (1, Cond.methodLink RX10 288 yX1_freeSlots), (0, Cond.methodLink RX10 291 yX1_unitsIn), (1, Cond.methodLink RL 145 yL_held), (2, Cond.methodLink RL 39 yX10_held), (0, Cond.instanceMethod yX10_held), (0, Cond.selects RX10 yX10_held yX10_held), (0, Cond.code yX10_held cX10_held 3 (some .int)), (0, Cond.methodLink RL 148 yL_topUpAt), (3, Cond.methodLink RL 42 yX10_topUpAt), (0, Cond.instanceMethod yX10_topUpAt), (0, Cond.selects RX10 yX10_topUpAt yX10_topUpAt), (0, Cond.code yX10_topUpAt cX10_topUpAt 3 (some .int)), (17, Cond.methodLink RL 151 yL_board), (2, Cond.methodLink RL 47 yX10_board), (0, Cond.instanceMethod yX10_board), (0, Cond.selects RX10 yX10_board yX10_board), (0, Cond.code yX10_board cX10_board 4 (some .int)), (0, Cond.methodLink RX10 315 yX10_requireNeeds), (1, Cond.instanceMethod yX10_requireNeeds)]
set_option maxRecDepth 50000 in
theorem wc_44 : chk wl_44 lw_tbl = true := by decide +kernel
theorem cd_X10_requireTrolley : Cond.code yX10_requireTrolley cX10_requireTrolley 2 none ∈ lwa := chk_in wc_44 0 rfl
theorem ml_X10_288 : Cond.methodLink RX10 288 yX1_freeSlots ∈ lwa := chk_in wc_44 1 rfl
theorem ml_X10_291 : Cond.methodLink RX10 291 yX1_unitsIn ∈ lwa := chk_in wc_44 2 rfl
theorem ml_L_145 : Cond.methodLink RL 145 yL_held ∈ lwa := chk_in wc_44 3 rfl
theorem ml_L_39 : Cond.methodLink RL 39 yX10_held ∈ lwa := chk_in wc_44 4 rfl
theorem im_X10_held : Cond.instanceMethod yX10_held ∈ lwa := chk_in wc_44 5 rfl
theorem se_X10_held : Cond.selects RX10 yX10_held yX10_held ∈ lwa := chk_in wc_44 6 rfl
theorem cd_X10_held : Cond.code yX10_held cX10_held 3 (some .int) ∈ lwa := chk_in wc_44 7 rfl
theorem ml_L_148 : Cond.methodLink RL 148 yL_topUpAt ∈ lwa := chk_in wc_44 8 rfl
theorem ml_L_42 : Cond.methodLink RL 42 yX10_topUpAt ∈ lwa := chk_in wc_44 9 rfl
theorem im_X10_topUpAt : Cond.instanceMethod yX10_topUpAt ∈ lwa := chk_in wc_44 10 rfl
theorem se_X10_topUpAt : Cond.selects RX10 yX10_topUpAt yX10_topUpAt ∈ lwa := chk_in wc_44 11 rfl
theorem cd_X10_topUpAt : Cond.code yX10_topUpAt cX10_topUpAt 3 (some .int) ∈ lwa := chk_in wc_44 12 rfl
theorem ml_L_151 : Cond.methodLink RL 151 yL_board ∈ lwa := chk_in wc_44 13 rfl
theorem ml_L_47 : Cond.methodLink RL 47 yX10_board ∈ lwa := chk_in wc_44 14 rfl
theorem im_X10_board : Cond.instanceMethod yX10_board ∈ lwa := chk_in wc_44 15 rfl
theorem se_X10_board : Cond.selects RX10 yX10_board yX10_board ∈ lwa := chk_in wc_44 16 rfl
theorem cd_X10_board : Cond.code yX10_board cX10_board 4 (some .int) ∈ lwa := chk_in wc_44 17 rfl
theorem ml_X10_315 : Cond.methodLink RX10 315 yX10_requireNeeds ∈ lwa := chk_in wc_44 18 rfl
theorem im_X10_requireNeeds : Cond.instanceMethod yX10_requireNeeds ∈ lwa := chk_in wc_44 19 rfl
def wl_45 : List (Nat × Cond) := [(1316, Cond.code yX10_requireNeeds cX10_requireNeeds 2 none), (2, Cond.methodLink RX10 320 yX10_requireFlight), (1, Cond.instanceMethod yX10_requireFlight), (0, Cond.code yX10_requireFlight cX10_requireFlight 2 none), (0, Cond.methodLink RX10 323 yX10_refuse), (1, Cond.instanceMethod yX10_refuse), (0, Cond.code yX10_refuse cX10_refuse 2 none), (1, Cond.methodLink RX10 326 yX10_requireSeat), (1, Cond.instanceMethod yX10_requireSeat), (0, Cond.code yX10_requireSeat cX10_requireSeat 2 none), (0, Cond.methodLink RX10 457 yX1_freeSeats), (0, Cond.methodLink RX10 329 yX10_beginAct), (1, Cond.instanceMethod yX10_beginAct), (0, Cond.code yX10_beginAct cX10_beginAct 1 none), (0, Cond.methodLink RX10 462 yX3_add), (0, Cond.instanceMethod yX3_add), (0, Cond.selects RX3 yX3_add yX3_add), (0, Cond.code yX3_add cX3_add 2 none), (0, Cond.methodLink RX3 24 yX1_copy), (0, Cond.methodLink RX3 31 yJ9_min_7cf53)]
set_option maxRecDepth 50000 in
theorem wc_45 : chk wl_45 lw_tbl = true := by decide +kernel
theorem cd_X10_requireNeeds : Cond.code yX10_requireNeeds cX10_requireNeeds 2 none ∈ lwa := chk_in wc_45 0 rfl
theorem ml_X10_320 : Cond.methodLink RX10 320 yX10_requireFlight ∈ lwa := chk_in wc_45 1 rfl
theorem im_X10_requireFlight : Cond.instanceMethod yX10_requireFlight ∈ lwa := chk_in wc_45 2 rfl
theorem cd_X10_requireFlight : Cond.code yX10_requireFlight cX10_requireFlight 2 none ∈ lwa := chk_in wc_45 3 rfl
theorem ml_X10_323 : Cond.methodLink RX10 323 yX10_refuse ∈ lwa := chk_in wc_45 4 rfl
theorem im_X10_refuse : Cond.instanceMethod yX10_refuse ∈ lwa := chk_in wc_45 5 rfl
theorem cd_X10_refuse : Cond.code yX10_refuse cX10_refuse 2 none ∈ lwa := chk_in wc_45 6 rfl
theorem ml_X10_326 : Cond.methodLink RX10 326 yX10_requireSeat ∈ lwa := chk_in wc_45 7 rfl
theorem im_X10_requireSeat : Cond.instanceMethod yX10_requireSeat ∈ lwa := chk_in wc_45 8 rfl
theorem cd_X10_requireSeat : Cond.code yX10_requireSeat cX10_requireSeat 2 none ∈ lwa := chk_in wc_45 9 rfl
theorem ml_X10_457 : Cond.methodLink RX10 457 yX1_freeSeats ∈ lwa := chk_in wc_45 10 rfl
theorem ml_X10_329 : Cond.methodLink RX10 329 yX10_beginAct ∈ lwa := chk_in wc_45 11 rfl
theorem im_X10_beginAct : Cond.instanceMethod yX10_beginAct ∈ lwa := chk_in wc_45 12 rfl
theorem cd_X10_beginAct : Cond.code yX10_beginAct cX10_beginAct 1 none ∈ lwa := chk_in wc_45 13 rfl
theorem ml_X10_462 : Cond.methodLink RX10 462 yX3_add ∈ lwa := chk_in wc_45 14 rfl
theorem im_X3_add : Cond.instanceMethod yX3_add ∈ lwa := chk_in wc_45 15 rfl
theorem se_X3_add : Cond.selects RX3 yX3_add yX3_add ∈ lwa := chk_in wc_45 16 rfl
theorem cd_X3_add : Cond.code yX3_add cX3_add 2 none ∈ lwa := chk_in wc_45 17 rfl
theorem ml_X3_24 : Cond.methodLink RX3 24 yX1_copy ∈ lwa := chk_in wc_45 18 rfl
theorem ml_X3_31 : Cond.methodLink RX3 31 yJ9_min_7cf53 ∈ lwa := chk_in wc_45 19 rfl
def wl_46 : List (Nat × Cond) := [(1343, Cond.methodLink RX10 332 yX1_seat), (0, Cond.methodLink RL 155 yL_change), (2, Cond.methodLink RL 51 yX10_change), (0, Cond.instanceMethod yX10_change), (0, Cond.selects RX10 yX10_change yX10_change), (0, Cond.code yX10_change cX10_change 4 (some .int)), (1, Cond.methodLink RL 158 yL_leave), (2, Cond.methodLink RL 54 yX10_leave), (0, Cond.instanceMethod yX10_leave), (0, Cond.selects RX10 yX10_leave yX10_leave), (0, Cond.code yX10_leave cX10_leave 2 (some .int)), (0, Cond.methodLink RX10 338 yX1_removePassenger), (0, Cond.instanceMethod yX1_removePassenger), (0, Cond.selects RX1 yX1_removePassenger yX1_removePassenger), (0, Cond.code yX1_removePassenger cX1_removePassenger 3 none), (0, Cond.methodLink RL 161 yL_setNeeds), (2, Cond.methodLink RL 57 yX10_setNeeds), (0, Cond.instanceMethod yX10_setNeeds), (0, Cond.selects RX10 yX10_setNeeds yX10_setNeeds), (0, Cond.code yX10_setNeeds cX10_setNeeds 4 (some .int))]
set_option maxRecDepth 50000 in
theorem wc_46 : chk wl_46 lw_tbl = true := by decide +kernel
theorem ml_X10_332 : Cond.methodLink RX10 332 yX1_seat ∈ lwa := chk_in wc_46 0 rfl
theorem ml_L_155 : Cond.methodLink RL 155 yL_change ∈ lwa := chk_in wc_46 1 rfl
theorem ml_L_51 : Cond.methodLink RL 51 yX10_change ∈ lwa := chk_in wc_46 2 rfl
theorem im_X10_change : Cond.instanceMethod yX10_change ∈ lwa := chk_in wc_46 3 rfl
theorem se_X10_change : Cond.selects RX10 yX10_change yX10_change ∈ lwa := chk_in wc_46 4 rfl
theorem cd_X10_change : Cond.code yX10_change cX10_change 4 (some .int) ∈ lwa := chk_in wc_46 5 rfl
theorem ml_L_158 : Cond.methodLink RL 158 yL_leave ∈ lwa := chk_in wc_46 6 rfl
theorem ml_L_54 : Cond.methodLink RL 54 yX10_leave ∈ lwa := chk_in wc_46 7 rfl
theorem im_X10_leave : Cond.instanceMethod yX10_leave ∈ lwa := chk_in wc_46 8 rfl
theorem se_X10_leave : Cond.selects RX10 yX10_leave yX10_leave ∈ lwa := chk_in wc_46 9 rfl
theorem cd_X10_leave : Cond.code yX10_leave cX10_leave 2 (some .int) ∈ lwa := chk_in wc_46 10 rfl
theorem ml_X10_338 : Cond.methodLink RX10 338 yX1_removePassenger ∈ lwa := chk_in wc_46 11 rfl
theorem im_X1_removePassenger : Cond.instanceMethod yX1_removePassenger ∈ lwa := chk_in wc_46 12 rfl
theorem se_X1_removePassenger : Cond.selects RX1 yX1_removePassenger yX1_removePassenger ∈ lwa := chk_in wc_46 13 rfl
theorem cd_X1_removePassenger : Cond.code yX1_removePassenger cX1_removePassenger 3 none ∈ lwa := chk_in wc_46 14 rfl
theorem ml_L_161 : Cond.methodLink RL 161 yL_setNeeds ∈ lwa := chk_in wc_46 15 rfl
theorem ml_L_57 : Cond.methodLink RL 57 yX10_setNeeds ∈ lwa := chk_in wc_46 16 rfl
theorem im_X10_setNeeds : Cond.instanceMethod yX10_setNeeds ∈ lwa := chk_in wc_46 17 rfl
theorem se_X10_setNeeds : Cond.selects RX10 yX10_setNeeds yX10_setNeeds ∈ lwa := chk_in wc_46 18 rfl
theorem cd_X10_setNeeds : Cond.code yX10_setNeeds cX10_setNeeds 4 (some .int) ∈ lwa := chk_in wc_46 19 rfl
def wl_47 : List (Nat × Cond) := [(1370, Cond.methodLink RL 164 yL_loadOrder), (2, Cond.methodLink RL 60 yX10_loadOrder), (0, Cond.instanceMethod yX10_loadOrder), (0, Cond.selects RX10 yX10_loadOrder yX10_loadOrder), (0, Cond.code yX10_loadOrder cX10_loadOrder 5 (some .int)), (0, Cond.methodLink RX10 341 yX10_requireOpen), (1, Cond.instanceMethod yX10_requireOpen), (0, Cond.code yX10_requireOpen cX10_requireOpen 1 none), (0, Cond.methodLink RX10 344 yX1_put), (0, Cond.instanceMethod yX1_put), (0, Cond.selects RX1 yX1_put yX1_put), (0, Cond.code yX1_put cX1_put 7 (some .int)), (0, Cond.methodLink RX1 141 yX7_admits), (0, Cond.methodLink RL 168 yL_store), (2, Cond.methodLink RL 64 yX10_store), (0, Cond.instanceMethod yX10_store), (0, Cond.selects RX10 yX10_store yX10_store), (0, Cond.code yX10_store cX10_store 3 (some .int)), (0, Cond.methodLink RX10 347 yX10_requireUnits), (1, Cond.instanceMethod yX10_requireUnits)]
set_option maxRecDepth 50000 in
theorem wc_47 : chk wl_47 lw_tbl = true := by decide +kernel
theorem ml_L_164 : Cond.methodLink RL 164 yL_loadOrder ∈ lwa := chk_in wc_47 0 rfl
theorem ml_L_60 : Cond.methodLink RL 60 yX10_loadOrder ∈ lwa := chk_in wc_47 1 rfl
theorem im_X10_loadOrder : Cond.instanceMethod yX10_loadOrder ∈ lwa := chk_in wc_47 2 rfl
theorem se_X10_loadOrder : Cond.selects RX10 yX10_loadOrder yX10_loadOrder ∈ lwa := chk_in wc_47 3 rfl
theorem cd_X10_loadOrder : Cond.code yX10_loadOrder cX10_loadOrder 5 (some .int) ∈ lwa := chk_in wc_47 4 rfl
theorem ml_X10_341 : Cond.methodLink RX10 341 yX10_requireOpen ∈ lwa := chk_in wc_47 5 rfl
theorem im_X10_requireOpen : Cond.instanceMethod yX10_requireOpen ∈ lwa := chk_in wc_47 6 rfl
theorem cd_X10_requireOpen : Cond.code yX10_requireOpen cX10_requireOpen 1 none ∈ lwa := chk_in wc_47 7 rfl
theorem ml_X10_344 : Cond.methodLink RX10 344 yX1_put ∈ lwa := chk_in wc_47 8 rfl
theorem im_X1_put : Cond.instanceMethod yX1_put ∈ lwa := chk_in wc_47 9 rfl
theorem se_X1_put : Cond.selects RX1 yX1_put yX1_put ∈ lwa := chk_in wc_47 10 rfl
theorem cd_X1_put : Cond.code yX1_put cX1_put 7 (some .int) ∈ lwa := chk_in wc_47 11 rfl
theorem ml_X1_141 : Cond.methodLink RX1 141 yX7_admits ∈ lwa := chk_in wc_47 12 rfl
theorem ml_L_168 : Cond.methodLink RL 168 yL_store ∈ lwa := chk_in wc_47 13 rfl
theorem ml_L_64 : Cond.methodLink RL 64 yX10_store ∈ lwa := chk_in wc_47 14 rfl
theorem im_X10_store : Cond.instanceMethod yX10_store ∈ lwa := chk_in wc_47 15 rfl
theorem se_X10_store : Cond.selects RX10 yX10_store yX10_store ∈ lwa := chk_in wc_47 16 rfl
theorem cd_X10_store : Cond.code yX10_store cX10_store 3 (some .int) ∈ lwa := chk_in wc_47 17 rfl
theorem ml_X10_347 : Cond.methodLink RX10 347 yX10_requireUnits ∈ lwa := chk_in wc_47 18 rfl
theorem im_X10_requireUnits : Cond.instanceMethod yX10_requireUnits ∈ lwa := chk_in wc_47 19 rfl
def wl_48 : List (Nat × Cond) := [(1396, Cond.code yX10_requireUnits cX10_requireUnits 2 none), (1, Cond.methodLink RL 171 yL_unload), (2, Cond.methodLink RL 67 yX10_unload), (0, Cond.instanceMethod yX10_unload), (0, Cond.selects RX10 yX10_unload yX10_unload), (0, Cond.code yX10_unload cX10_unload 3 (some .int)), (0, Cond.methodLink RX10 350 yX1_takeOut), (0, Cond.instanceMethod yX1_takeOut), (0, Cond.selects RX1 yX1_takeOut yX1_takeOut), (0, Cond.code yX1_takeOut cX1_takeOut 6 none), (0, Cond.methodLink RX1 145 yJ9_min_7cf53), (0, Cond.methodLink RL 174 yL_topUp), (2, Cond.methodLink RL 70 yX10_topUp), (0, Cond.instanceMethod yX10_topUp), (0, Cond.selects RX10 yX10_topUp yX10_topUp), (0, Cond.code yX10_topUp cX10_topUp 3 (some .int)), (0, Cond.methodLink RX10 354 yX1_askFor), (0, Cond.instanceMethod yX1_askFor), (0, Cond.selects RX1 yX1_askFor yX1_askFor), (0, Cond.code yX1_askFor cX1_askFor 3 none)]
set_option maxRecDepth 50000 in
theorem wc_48 : chk wl_48 lw_tbl = true := by decide +kernel
theorem cd_X10_requireUnits : Cond.code yX10_requireUnits cX10_requireUnits 2 none ∈ lwa := chk_in wc_48 0 rfl
theorem ml_L_171 : Cond.methodLink RL 171 yL_unload ∈ lwa := chk_in wc_48 1 rfl
theorem ml_L_67 : Cond.methodLink RL 67 yX10_unload ∈ lwa := chk_in wc_48 2 rfl
theorem im_X10_unload : Cond.instanceMethod yX10_unload ∈ lwa := chk_in wc_48 3 rfl
theorem se_X10_unload : Cond.selects RX10 yX10_unload yX10_unload ∈ lwa := chk_in wc_48 4 rfl
theorem cd_X10_unload : Cond.code yX10_unload cX10_unload 3 (some .int) ∈ lwa := chk_in wc_48 5 rfl
theorem ml_X10_350 : Cond.methodLink RX10 350 yX1_takeOut ∈ lwa := chk_in wc_48 6 rfl
theorem im_X1_takeOut : Cond.instanceMethod yX1_takeOut ∈ lwa := chk_in wc_48 7 rfl
theorem se_X1_takeOut : Cond.selects RX1 yX1_takeOut yX1_takeOut ∈ lwa := chk_in wc_48 8 rfl
theorem cd_X1_takeOut : Cond.code yX1_takeOut cX1_takeOut 6 none ∈ lwa := chk_in wc_48 9 rfl
theorem ml_X1_145 : Cond.methodLink RX1 145 yJ9_min_7cf53 ∈ lwa := chk_in wc_48 10 rfl
theorem ml_L_174 : Cond.methodLink RL 174 yL_topUp ∈ lwa := chk_in wc_48 11 rfl
theorem ml_L_70 : Cond.methodLink RL 70 yX10_topUp ∈ lwa := chk_in wc_48 12 rfl
theorem im_X10_topUp : Cond.instanceMethod yX10_topUp ∈ lwa := chk_in wc_48 13 rfl
theorem se_X10_topUp : Cond.selects RX10 yX10_topUp yX10_topUp ∈ lwa := chk_in wc_48 14 rfl
theorem cd_X10_topUp : Cond.code yX10_topUp cX10_topUp 3 (some .int) ∈ lwa := chk_in wc_48 15 rfl
theorem ml_X10_354 : Cond.methodLink RX10 354 yX1_askFor ∈ lwa := chk_in wc_48 16 rfl
theorem im_X1_askFor : Cond.instanceMethod yX1_askFor ∈ lwa := chk_in wc_48 17 rfl
theorem se_X1_askFor : Cond.selects RX1 yX1_askFor yX1_askFor ∈ lwa := chk_in wc_48 18 rfl
theorem cd_X1_askFor : Cond.code yX1_askFor cX1_askFor 3 none ∈ lwa := chk_in wc_48 19 rfl
def wl_49 : List (Nat × Cond) := [(1421, Cond.methodLink RX10 357 yX1_letArrive), (0, Cond.instanceMethod yX1_letArrive), (0, Cond.selects RX1 yX1_letArrive yX1_letArrive), (0, Cond.code yX1_letArrive cX1_letArrive 4 (some .int)), (0, Cond.methodLink RX1 151 yX1_put), (0, Cond.methodLink RL 177 yL_advance), (2, Cond.methodLink RL 73 yX10_advance), (0, Cond.instanceMethod yX10_advance), (0, Cond.selects RX10 yX10_advance yX10_advance), (0, Cond.code yX10_advance cX10_advance 2 (some .int)), (1, Cond.methodLink RL 184 yL_outlook), (2, Cond.methodLink RL 76 yX10_outlook), (0, Cond.instanceMethod yX10_outlook), (0, Cond.selects RX10 yX10_outlook yX10_outlook), (0, Cond.code yX10_outlook cX10_outlook 2 (some .int)), (1, Cond.methodLink RL 187 yL_mealFor), (2, Cond.methodLink RL 79 yX10_mealFor), (0, Cond.instanceMethod yX10_mealFor), (0, Cond.selects RX10 yX10_mealFor yX10_mealFor), (0, Cond.code yX10_mealFor cX10_mealFor 2 (some .int))]
set_option maxRecDepth 50000 in
theorem wc_49 : chk wl_49 lw_tbl = true := by decide +kernel
theorem ml_X10_357 : Cond.methodLink RX10 357 yX1_letArrive ∈ lwa := chk_in wc_49 0 rfl
theorem im_X1_letArrive : Cond.instanceMethod yX1_letArrive ∈ lwa := chk_in wc_49 1 rfl
theorem se_X1_letArrive : Cond.selects RX1 yX1_letArrive yX1_letArrive ∈ lwa := chk_in wc_49 2 rfl
theorem cd_X1_letArrive : Cond.code yX1_letArrive cX1_letArrive 4 (some .int) ∈ lwa := chk_in wc_49 3 rfl
theorem ml_X1_151 : Cond.methodLink RX1 151 yX1_put ∈ lwa := chk_in wc_49 4 rfl
theorem ml_L_177 : Cond.methodLink RL 177 yL_advance ∈ lwa := chk_in wc_49 5 rfl
theorem ml_L_73 : Cond.methodLink RL 73 yX10_advance ∈ lwa := chk_in wc_49 6 rfl
theorem im_X10_advance : Cond.instanceMethod yX10_advance ∈ lwa := chk_in wc_49 7 rfl
theorem se_X10_advance : Cond.selects RX10 yX10_advance yX10_advance ∈ lwa := chk_in wc_49 8 rfl
theorem cd_X10_advance : Cond.code yX10_advance cX10_advance 2 (some .int) ∈ lwa := chk_in wc_49 9 rfl
theorem ml_L_184 : Cond.methodLink RL 184 yL_outlook ∈ lwa := chk_in wc_49 10 rfl
theorem ml_L_76 : Cond.methodLink RL 76 yX10_outlook ∈ lwa := chk_in wc_49 11 rfl
theorem im_X10_outlook : Cond.instanceMethod yX10_outlook ∈ lwa := chk_in wc_49 12 rfl
theorem se_X10_outlook : Cond.selects RX10 yX10_outlook yX10_outlook ∈ lwa := chk_in wc_49 13 rfl
theorem cd_X10_outlook : Cond.code yX10_outlook cX10_outlook 2 (some .int) ∈ lwa := chk_in wc_49 14 rfl
theorem ml_L_187 : Cond.methodLink RL 187 yL_mealFor ∈ lwa := chk_in wc_49 15 rfl
theorem ml_L_79 : Cond.methodLink RL 79 yX10_mealFor ∈ lwa := chk_in wc_49 16 rfl
theorem im_X10_mealFor : Cond.instanceMethod yX10_mealFor ∈ lwa := chk_in wc_49 17 rfl
theorem se_X10_mealFor : Cond.selects RX10 yX10_mealFor yX10_mealFor ∈ lwa := chk_in wc_49 18 rfl
theorem cd_X10_mealFor : Cond.code yX10_mealFor cX10_mealFor 2 (some .int) ∈ lwa := chk_in wc_49 19 rfl
def wl_50 : List (Nat × Cond) := [(1449, Cond.methodLink RL 190 yL_serve), (2, Cond.methodLink RL 82 yX10_serve), (0, Cond.instanceMethod yX10_serve), (0, Cond.selects RX10 yX10_serve yX10_serve), (0, Cond.code yX10_serve cX10_serve 2 (some .int)), (0, Cond.methodLink RL 193 yL_account), (2, Cond.methodLink RL 85 yX10_account), (0, Cond.instanceMethod yX10_account), (0, Cond.selects RX10 yX10_account yX10_account), (0, Cond.code yX10_account cX10_account 2 (some .long)), (1, Cond.methodLink RL 210 yL_undo), (2, Cond.methodLink RL 89 yX10_undo), (0, Cond.instanceMethod yX10_undo), (0, Cond.selects RX10 yX10_undo yX10_undo), (0, Cond.code yX10_undo cX10_undo 1 (some .int)), (1, Cond.methodLink RX10 403 yX3_takeBack), (0, Cond.instanceMethod yX3_takeBack), (0, Cond.selects RX3 yX3_takeBack yX3_takeBack), (0, Cond.code yX3_takeBack cX3_takeBack 2 none), (0, Cond.methodLink RL 213 yL_keep)]
set_option maxRecDepth 50000 in
theorem wc_50 : chk wl_50 lw_tbl = true := by decide +kernel
theorem ml_L_190 : Cond.methodLink RL 190 yL_serve ∈ lwa := chk_in wc_50 0 rfl
theorem ml_L_82 : Cond.methodLink RL 82 yX10_serve ∈ lwa := chk_in wc_50 1 rfl
theorem im_X10_serve : Cond.instanceMethod yX10_serve ∈ lwa := chk_in wc_50 2 rfl
theorem se_X10_serve : Cond.selects RX10 yX10_serve yX10_serve ∈ lwa := chk_in wc_50 3 rfl
theorem cd_X10_serve : Cond.code yX10_serve cX10_serve 2 (some .int) ∈ lwa := chk_in wc_50 4 rfl
theorem ml_L_193 : Cond.methodLink RL 193 yL_account ∈ lwa := chk_in wc_50 5 rfl
theorem ml_L_85 : Cond.methodLink RL 85 yX10_account ∈ lwa := chk_in wc_50 6 rfl
theorem im_X10_account : Cond.instanceMethod yX10_account ∈ lwa := chk_in wc_50 7 rfl
theorem se_X10_account : Cond.selects RX10 yX10_account yX10_account ∈ lwa := chk_in wc_50 8 rfl
theorem cd_X10_account : Cond.code yX10_account cX10_account 2 (some .long) ∈ lwa := chk_in wc_50 9 rfl
theorem ml_L_210 : Cond.methodLink RL 210 yL_undo ∈ lwa := chk_in wc_50 10 rfl
theorem ml_L_89 : Cond.methodLink RL 89 yX10_undo ∈ lwa := chk_in wc_50 11 rfl
theorem im_X10_undo : Cond.instanceMethod yX10_undo ∈ lwa := chk_in wc_50 12 rfl
theorem se_X10_undo : Cond.selects RX10 yX10_undo yX10_undo ∈ lwa := chk_in wc_50 13 rfl
theorem cd_X10_undo : Cond.code yX10_undo cX10_undo 1 (some .int) ∈ lwa := chk_in wc_50 14 rfl
theorem ml_X10_403 : Cond.methodLink RX10 403 yX3_takeBack ∈ lwa := chk_in wc_50 15 rfl
theorem im_X3_takeBack : Cond.instanceMethod yX3_takeBack ∈ lwa := chk_in wc_50 16 rfl
theorem se_X3_takeBack : Cond.selects RX3 yX3_takeBack yX3_takeBack ∈ lwa := chk_in wc_50 17 rfl
theorem cd_X3_takeBack : Cond.code yX3_takeBack cX3_takeBack 2 none ∈ lwa := chk_in wc_50 18 rfl
theorem ml_L_213 : Cond.methodLink RL 213 yL_keep ∈ lwa := chk_in wc_50 19 rfl
def wl_51 : List (Nat × Cond) := [(1479, Cond.methodLink RL 92 yX10_keep), (0, Cond.instanceMethod yX10_keep), (0, Cond.selects RX10 yX10_keep yX10_keep), (0, Cond.code yX10_keep cX10_keep 2 (some .int)), (0, Cond.methodLink RX10 409 yX10_requireSlot), (1, Cond.instanceMethod yX10_requireSlot), (0, Cond.code yX10_requireSlot cX10_requireSlot 2 none), (1, Cond.methodLink RL 216 yL_restore), (2, Cond.methodLink RL 95 yX10_restore), (0, Cond.instanceMethod yX10_restore), (0, Cond.selects RX10 yX10_restore yX10_restore), (0, Cond.code yX10_restore cX10_restore 2 (some .int)), (1, Cond.methodLink RL 219 yL_writeTrolley), (2, Cond.methodLink RL 98 yX10_writeTrolley), (0, Cond.instanceMethod yX10_writeTrolley), (0, Cond.selects RX10 yX10_writeTrolley yX10_writeTrolley), (0, Cond.code yX10_writeTrolley cX10_writeTrolley 4 (some .int)), (0, Cond.methodLink RX10 420 yX10_writeSign), (1, Cond.instanceMethod yX10_writeSign), (0, Cond.code yX10_writeSign cX10_writeSign 2 none)]
set_option maxRecDepth 50000 in
theorem wc_51 : chk wl_51 lw_tbl = true := by decide +kernel
theorem ml_L_92 : Cond.methodLink RL 92 yX10_keep ∈ lwa := chk_in wc_51 0 rfl
theorem im_X10_keep : Cond.instanceMethod yX10_keep ∈ lwa := chk_in wc_51 1 rfl
theorem se_X10_keep : Cond.selects RX10 yX10_keep yX10_keep ∈ lwa := chk_in wc_51 2 rfl
theorem cd_X10_keep : Cond.code yX10_keep cX10_keep 2 (some .int) ∈ lwa := chk_in wc_51 3 rfl
theorem ml_X10_409 : Cond.methodLink RX10 409 yX10_requireSlot ∈ lwa := chk_in wc_51 4 rfl
theorem im_X10_requireSlot : Cond.instanceMethod yX10_requireSlot ∈ lwa := chk_in wc_51 5 rfl
theorem cd_X10_requireSlot : Cond.code yX10_requireSlot cX10_requireSlot 2 none ∈ lwa := chk_in wc_51 6 rfl
theorem ml_L_216 : Cond.methodLink RL 216 yL_restore ∈ lwa := chk_in wc_51 7 rfl
theorem ml_L_95 : Cond.methodLink RL 95 yX10_restore ∈ lwa := chk_in wc_51 8 rfl
theorem im_X10_restore : Cond.instanceMethod yX10_restore ∈ lwa := chk_in wc_51 9 rfl
theorem se_X10_restore : Cond.selects RX10 yX10_restore yX10_restore ∈ lwa := chk_in wc_51 10 rfl
theorem cd_X10_restore : Cond.code yX10_restore cX10_restore 2 (some .int) ∈ lwa := chk_in wc_51 11 rfl
theorem ml_L_219 : Cond.methodLink RL 219 yL_writeTrolley ∈ lwa := chk_in wc_51 12 rfl
theorem ml_L_98 : Cond.methodLink RL 98 yX10_writeTrolley ∈ lwa := chk_in wc_51 13 rfl
theorem im_X10_writeTrolley : Cond.instanceMethod yX10_writeTrolley ∈ lwa := chk_in wc_51 14 rfl
theorem se_X10_writeTrolley : Cond.selects RX10 yX10_writeTrolley yX10_writeTrolley ∈ lwa := chk_in wc_51 15 rfl
theorem cd_X10_writeTrolley : Cond.code yX10_writeTrolley cX10_writeTrolley 4 (some .int) ∈ lwa := chk_in wc_51 16 rfl
theorem ml_X10_420 : Cond.methodLink RX10 420 yX10_writeSign ∈ lwa := chk_in wc_51 17 rfl
theorem im_X10_writeSign : Cond.instanceMethod yX10_writeSign ∈ lwa := chk_in wc_51 18 rfl
theorem cd_X10_writeSign : Cond.code yX10_writeSign cX10_writeSign 2 none ∈ lwa := chk_in wc_51 19 rfl
def wl_52 : List (Nat × Cond) := [(1507, Cond.methodLink RX10 428 yX10_writeUnits), (1, Cond.instanceMethod yX10_writeUnits), (0, Cond.code yX10_writeUnits cX10_writeUnits 4 none), (0, Cond.methodLink RX10 434 yJ0_length_8abf5), (0, Cond.methodLink RX10 439 yJ0_charAt_5068e), (0, Cond.methodLink RL 222 yL_outputByte), (2, Cond.methodLink RL 101 yX10_outputByte), (0, Cond.instanceMethod yX10_outputByte), (0, Cond.selects RX10 yX10_outputByte yX10_outputByte), (0, Cond.code yX10_outputByte cX10_outputByte 2 (some .int)), (3, Cond.methodLink RL 107 yX11_init), (0, Cond.instanceMethod yX11_init), (0, Cond.code yX11_init cX11_init 1 none), (1, Cond.fieldLink RX11 88 RX11 (TX11 0).2.1 (TX11 0).2.2.1), (0, Cond.fieldLink RX11 7 RX11 (TX11 1).2.1 (TX11 1).2.2.1), (0, Cond.fieldLink RX11 13 RX11 (TX11 2).2.1 (TX11 2).2.2.1), (0, Cond.fieldLink RX11 16 RX11 (TX11 3).2.1 (TX11 3).2.2.1), (0, Cond.fieldLink RX11 20 RX11 (TX11 4).2.1 (TX11 4).2.2.1), (0, Cond.fieldLink RX11 23 RX11 (TX11 5).2.1 (TX11 5).2.2.1), (0, Cond.fieldLink RX11 26 RX11 (TX11 6).2.1 (TX11 6).2.2.1)]
set_option maxRecDepth 50000 in
theorem wc_52 : chk wl_52 lw_tbl = true := by decide +kernel
theorem ml_X10_428 : Cond.methodLink RX10 428 yX10_writeUnits ∈ lwa := chk_in wc_52 0 rfl
theorem im_X10_writeUnits : Cond.instanceMethod yX10_writeUnits ∈ lwa := chk_in wc_52 1 rfl
theorem cd_X10_writeUnits : Cond.code yX10_writeUnits cX10_writeUnits 4 none ∈ lwa := chk_in wc_52 2 rfl
theorem ml_X10_434 : Cond.methodLink RX10 434 yJ0_length_8abf5 ∈ lwa := chk_in wc_52 3 rfl
theorem ml_X10_439 : Cond.methodLink RX10 439 yJ0_charAt_5068e ∈ lwa := chk_in wc_52 4 rfl
theorem ml_L_222 : Cond.methodLink RL 222 yL_outputByte ∈ lwa := chk_in wc_52 5 rfl
theorem ml_L_101 : Cond.methodLink RL 101 yX10_outputByte ∈ lwa := chk_in wc_52 6 rfl
theorem im_X10_outputByte : Cond.instanceMethod yX10_outputByte ∈ lwa := chk_in wc_52 7 rfl
theorem se_X10_outputByte : Cond.selects RX10 yX10_outputByte yX10_outputByte ∈ lwa := chk_in wc_52 8 rfl
theorem cd_X10_outputByte : Cond.code yX10_outputByte cX10_outputByte 2 (some .int) ∈ lwa := chk_in wc_52 9 rfl
theorem ml_L_107 : Cond.methodLink RL 107 yX11_init ∈ lwa := chk_in wc_52 10 rfl
theorem im_X11_init : Cond.instanceMethod yX11_init ∈ lwa := chk_in wc_52 11 rfl
theorem cd_X11_init : Cond.code yX11_init cX11_init 1 none ∈ lwa := chk_in wc_52 12 rfl
theorem fl_X11_88 : Cond.fieldLink RX11 88 RX11 (TX11 0).2.1 (TX11 0).2.2.1 ∈ lwa := chk_in wc_52 13 rfl
theorem fl_X11_7 : Cond.fieldLink RX11 7 RX11 (TX11 1).2.1 (TX11 1).2.2.1 ∈ lwa := chk_in wc_52 14 rfl
theorem fl_X11_13 : Cond.fieldLink RX11 13 RX11 (TX11 2).2.1 (TX11 2).2.2.1 ∈ lwa := chk_in wc_52 15 rfl
theorem fl_X11_16 : Cond.fieldLink RX11 16 RX11 (TX11 3).2.1 (TX11 3).2.2.1 ∈ lwa := chk_in wc_52 16 rfl
theorem fl_X11_20 : Cond.fieldLink RX11 20 RX11 (TX11 4).2.1 (TX11 4).2.2.1 ∈ lwa := chk_in wc_52 17 rfl
theorem fl_X11_23 : Cond.fieldLink RX11 23 RX11 (TX11 5).2.1 (TX11 5).2.2.1 ∈ lwa := chk_in wc_52 18 rfl
theorem fl_X11_26 : Cond.fieldLink RX11 26 RX11 (TX11 6).2.1 (TX11 6).2.2.1 ∈ lwa := chk_in wc_52 19 rfl
def wl_53 : List (Nat × Cond) := [(1534, Cond.fieldLink RX11 29 RX11 (TX11 7).2.1 (TX11 7).2.2.1), (0, Cond.fieldLink RX11 32 RX11 (TX11 8).2.1 (TX11 8).2.2.1), (0, Cond.fieldLink RX11 35 RX11 (TX11 9).2.1 (TX11 9).2.2.1), (0, Cond.fieldLink RX11 38 RX11 (TX11 10).2.1 (TX11 10).2.2.1), (0, Cond.fieldLink RX11 41 RX11 (TX11 11).2.1 (TX11 11).2.2.1), (0, Cond.fieldLink RX11 44 RX11 (TX11 12).2.1 (TX11 12).2.2.1), (0, Cond.fieldLink RX11 47 RX11 (TX11 13).2.1 (TX11 13).2.2.1), (0, Cond.fieldLink RX11 95 RX11 (TX11 14).2.1 (TX11 14).2.2.1), (0, Cond.fieldLink RX11 285 RX11 (TX11 15).2.1 (TX11 15).2.2.1), (0, Cond.fieldLink RX11 51 RX11 (TX11 16).2.1 (TX11 16).2.2.1), (0, Cond.fieldLink RX11 110 RX11 (TX11 17).2.1 (TX11 17).2.2.1), (0, Cond.fieldLink RX11 130 RX11 (TX11 18).2.1 (TX11 18).2.2.1), (0, Cond.fieldLink RX11 127 RX11 (TX11 19).2.1 (TX11 19).2.2.1), (0, Cond.fieldLink RX11 136 RX11 (TX11 20).2.1 (TX11 20).2.2.1), (0, Cond.fieldLink RX11 139 RX11 (TX11 21).2.1 (TX11 21).2.2.1), (0, Cond.fieldLink RX11 169 RX11 (TX11 22).2.1 (TX11 22).2.2.1), (0, Cond.fieldLink RX11 121 RX11 (TX11 23).2.1 (TX11 23).2.2.1), (0, Cond.fieldLink RX11 54 RX11 (TX11 24).2.1 (TX11 24).2.2.1), (0, Cond.fieldLink RX11 176 RX11 (TX11 25).2.1 (TX11 25).2.2.1), (0, Cond.fieldLink RX11 184 RX11 (TX11 26).2.1 (TX11 26).2.2.1)]
set_option maxRecDepth 50000 in
theorem wc_53 : chk wl_53 lw_tbl = true := by decide +kernel
theorem fl_X11_29 : Cond.fieldLink RX11 29 RX11 (TX11 7).2.1 (TX11 7).2.2.1 ∈ lwa := chk_in wc_53 0 rfl
theorem fl_X11_32 : Cond.fieldLink RX11 32 RX11 (TX11 8).2.1 (TX11 8).2.2.1 ∈ lwa := chk_in wc_53 1 rfl
theorem fl_X11_35 : Cond.fieldLink RX11 35 RX11 (TX11 9).2.1 (TX11 9).2.2.1 ∈ lwa := chk_in wc_53 2 rfl
theorem fl_X11_38 : Cond.fieldLink RX11 38 RX11 (TX11 10).2.1 (TX11 10).2.2.1 ∈ lwa := chk_in wc_53 3 rfl
theorem fl_X11_41 : Cond.fieldLink RX11 41 RX11 (TX11 11).2.1 (TX11 11).2.2.1 ∈ lwa := chk_in wc_53 4 rfl
theorem fl_X11_44 : Cond.fieldLink RX11 44 RX11 (TX11 12).2.1 (TX11 12).2.2.1 ∈ lwa := chk_in wc_53 5 rfl
theorem fl_X11_47 : Cond.fieldLink RX11 47 RX11 (TX11 13).2.1 (TX11 13).2.2.1 ∈ lwa := chk_in wc_53 6 rfl
theorem fl_X11_95 : Cond.fieldLink RX11 95 RX11 (TX11 14).2.1 (TX11 14).2.2.1 ∈ lwa := chk_in wc_53 7 rfl
theorem fl_X11_285 : Cond.fieldLink RX11 285 RX11 (TX11 15).2.1 (TX11 15).2.2.1 ∈ lwa := chk_in wc_53 8 rfl
theorem fl_X11_51 : Cond.fieldLink RX11 51 RX11 (TX11 16).2.1 (TX11 16).2.2.1 ∈ lwa := chk_in wc_53 9 rfl
theorem fl_X11_110 : Cond.fieldLink RX11 110 RX11 (TX11 17).2.1 (TX11 17).2.2.1 ∈ lwa := chk_in wc_53 10 rfl
theorem fl_X11_130 : Cond.fieldLink RX11 130 RX11 (TX11 18).2.1 (TX11 18).2.2.1 ∈ lwa := chk_in wc_53 11 rfl
theorem fl_X11_127 : Cond.fieldLink RX11 127 RX11 (TX11 19).2.1 (TX11 19).2.2.1 ∈ lwa := chk_in wc_53 12 rfl
theorem fl_X11_136 : Cond.fieldLink RX11 136 RX11 (TX11 20).2.1 (TX11 20).2.2.1 ∈ lwa := chk_in wc_53 13 rfl
theorem fl_X11_139 : Cond.fieldLink RX11 139 RX11 (TX11 21).2.1 (TX11 21).2.2.1 ∈ lwa := chk_in wc_53 14 rfl
theorem fl_X11_169 : Cond.fieldLink RX11 169 RX11 (TX11 22).2.1 (TX11 22).2.2.1 ∈ lwa := chk_in wc_53 15 rfl
theorem fl_X11_121 : Cond.fieldLink RX11 121 RX11 (TX11 23).2.1 (TX11 23).2.2.1 ∈ lwa := chk_in wc_53 16 rfl
theorem fl_X11_54 : Cond.fieldLink RX11 54 RX11 (TX11 24).2.1 (TX11 24).2.2.1 ∈ lwa := chk_in wc_53 17 rfl
theorem fl_X11_176 : Cond.fieldLink RX11 176 RX11 (TX11 25).2.1 (TX11 25).2.2.1 ∈ lwa := chk_in wc_53 18 rfl
theorem fl_X11_184 : Cond.fieldLink RX11 184 RX11 (TX11 26).2.1 (TX11 26).2.2.1 ∈ lwa := chk_in wc_53 19 rfl
def wl_54 : List (Nat × Cond) := [(1554, Cond.fieldLink RX11 190 RX11 (TX11 27).2.1 (TX11 27).2.2.1), (0, Cond.fieldLink RX11 58 RX11 (TX11 28).2.1 (TX11 28).2.2.1), (0, Cond.fieldLink RX11 61 RX11 (TX11 29).2.1 (TX11 29).2.2.1), (0, Cond.fieldLink RX11 64 RX11 (TX11 30).2.1 (TX11 30).2.2.1), (0, Cond.fieldLink RX11 67 RX11 (TX11 31).2.1 (TX11 31).2.2.1), (0, Cond.fieldLink RX11 70 RX11 (TX11 32).2.1 (TX11 32).2.2.1), (0, Cond.fieldLink RX11 73 RX11 (TX11 33).2.1 (TX11 33).2.2.1), (0, Cond.fieldLink RX11 76 RX11 (TX11 34).2.1 (TX11 34).2.2.1), (0, Cond.fieldLink RX11 79 RX11 (TX11 35).2.1 (TX11 35).2.2.1), (0, Cond.fieldLink RX11 82 RX11 (TX11 36).2.1 (TX11 36).2.2.1), (0, Cond.fieldLink RX11 85 RX11 (TX11 37).2.1 (TX11 37).2.2.1), (0, Cond.fieldLink RX11 499 RX11 (TX11 38).2.1 (TX11 38).2.2.1), (0, u_lay RX11 TX11 0), (1, u_lay RX11 TX11 1), (1, u_lay RX11 TX11 2), (1, u_lay RX11 TX11 3), (1, u_lay RX11 TX11 4), (1, u_lay RX11 TX11 5), (1, u_lay RX11 TX11 6), (1, u_lay RX11 TX11 7)]
set_option maxRecDepth 50000 in
theorem wc_54 : chk wl_54 lw_tbl = true := by decide +kernel
theorem fl_X11_190 : Cond.fieldLink RX11 190 RX11 (TX11 27).2.1 (TX11 27).2.2.1 ∈ lwa := chk_in wc_54 0 rfl
theorem fl_X11_58 : Cond.fieldLink RX11 58 RX11 (TX11 28).2.1 (TX11 28).2.2.1 ∈ lwa := chk_in wc_54 1 rfl
theorem fl_X11_61 : Cond.fieldLink RX11 61 RX11 (TX11 29).2.1 (TX11 29).2.2.1 ∈ lwa := chk_in wc_54 2 rfl
theorem fl_X11_64 : Cond.fieldLink RX11 64 RX11 (TX11 30).2.1 (TX11 30).2.2.1 ∈ lwa := chk_in wc_54 3 rfl
theorem fl_X11_67 : Cond.fieldLink RX11 67 RX11 (TX11 31).2.1 (TX11 31).2.2.1 ∈ lwa := chk_in wc_54 4 rfl
theorem fl_X11_70 : Cond.fieldLink RX11 70 RX11 (TX11 32).2.1 (TX11 32).2.2.1 ∈ lwa := chk_in wc_54 5 rfl
theorem fl_X11_73 : Cond.fieldLink RX11 73 RX11 (TX11 33).2.1 (TX11 33).2.2.1 ∈ lwa := chk_in wc_54 6 rfl
theorem fl_X11_76 : Cond.fieldLink RX11 76 RX11 (TX11 34).2.1 (TX11 34).2.2.1 ∈ lwa := chk_in wc_54 7 rfl
theorem fl_X11_79 : Cond.fieldLink RX11 79 RX11 (TX11 35).2.1 (TX11 35).2.2.1 ∈ lwa := chk_in wc_54 8 rfl
theorem fl_X11_82 : Cond.fieldLink RX11 82 RX11 (TX11 36).2.1 (TX11 36).2.2.1 ∈ lwa := chk_in wc_54 9 rfl
theorem fl_X11_85 : Cond.fieldLink RX11 85 RX11 (TX11 37).2.1 (TX11 37).2.2.1 ∈ lwa := chk_in wc_54 10 rfl
theorem fl_X11_499 : Cond.fieldLink RX11 499 RX11 (TX11 38).2.1 (TX11 38).2.2.1 ∈ lwa := chk_in wc_54 11 rfl
theorem ul_X11_0 : u_lay RX11 TX11 0 ∈ lwa := chk_in wc_54 12 rfl
theorem ul_X11_1 : u_lay RX11 TX11 1 ∈ lwa := chk_in wc_54 13 rfl
theorem ul_X11_2 : u_lay RX11 TX11 2 ∈ lwa := chk_in wc_54 14 rfl
theorem ul_X11_3 : u_lay RX11 TX11 3 ∈ lwa := chk_in wc_54 15 rfl
theorem ul_X11_4 : u_lay RX11 TX11 4 ∈ lwa := chk_in wc_54 16 rfl
theorem ul_X11_5 : u_lay RX11 TX11 5 ∈ lwa := chk_in wc_54 17 rfl
theorem ul_X11_6 : u_lay RX11 TX11 6 ∈ lwa := chk_in wc_54 18 rfl
theorem ul_X11_7 : u_lay RX11 TX11 7 ∈ lwa := chk_in wc_54 19 rfl
def wl_55 : List (Nat × Cond) := [(1582, u_lay RX11 TX11 8), (1, u_lay RX11 TX11 9), (1, u_lay RX11 TX11 10), (1, u_lay RX11 TX11 11), (1, u_lay RX11 TX11 12), (1, u_lay RX11 TX11 13), (1, u_lay RX11 TX11 14), (1, u_lay RX11 TX11 15), (1, u_lay RX11 TX11 16), (1, u_lay RX11 TX11 17), (1, u_lay RX11 TX11 18), (1, u_lay RX11 TX11 19), (1, u_lay RX11 TX11 20), (1, u_lay RX11 TX11 21), (1, u_lay RX11 TX11 22), (1, u_lay RX11 TX11 23), (1, u_lay RX11 TX11 24), (1, u_lay RX11 TX11 25), (1, u_lay RX11 TX11 26), (1, u_lay RX11 TX11 27)]
set_option maxRecDepth 50000 in
theorem wc_55 : chk wl_55 lw_tbl = true := by decide +kernel
theorem ul_X11_8 : u_lay RX11 TX11 8 ∈ lwa := chk_in wc_55 0 rfl
theorem ul_X11_9 : u_lay RX11 TX11 9 ∈ lwa := chk_in wc_55 1 rfl
theorem ul_X11_10 : u_lay RX11 TX11 10 ∈ lwa := chk_in wc_55 2 rfl
theorem ul_X11_11 : u_lay RX11 TX11 11 ∈ lwa := chk_in wc_55 3 rfl
theorem ul_X11_12 : u_lay RX11 TX11 12 ∈ lwa := chk_in wc_55 4 rfl
theorem ul_X11_13 : u_lay RX11 TX11 13 ∈ lwa := chk_in wc_55 5 rfl
theorem ul_X11_14 : u_lay RX11 TX11 14 ∈ lwa := chk_in wc_55 6 rfl
theorem ul_X11_15 : u_lay RX11 TX11 15 ∈ lwa := chk_in wc_55 7 rfl
theorem ul_X11_16 : u_lay RX11 TX11 16 ∈ lwa := chk_in wc_55 8 rfl
theorem ul_X11_17 : u_lay RX11 TX11 17 ∈ lwa := chk_in wc_55 9 rfl
theorem ul_X11_18 : u_lay RX11 TX11 18 ∈ lwa := chk_in wc_55 10 rfl
theorem ul_X11_19 : u_lay RX11 TX11 19 ∈ lwa := chk_in wc_55 11 rfl
theorem ul_X11_20 : u_lay RX11 TX11 20 ∈ lwa := chk_in wc_55 12 rfl
theorem ul_X11_21 : u_lay RX11 TX11 21 ∈ lwa := chk_in wc_55 13 rfl
theorem ul_X11_22 : u_lay RX11 TX11 22 ∈ lwa := chk_in wc_55 14 rfl
theorem ul_X11_23 : u_lay RX11 TX11 23 ∈ lwa := chk_in wc_55 15 rfl
theorem ul_X11_24 : u_lay RX11 TX11 24 ∈ lwa := chk_in wc_55 16 rfl
theorem ul_X11_25 : u_lay RX11 TX11 25 ∈ lwa := chk_in wc_55 17 rfl
theorem ul_X11_26 : u_lay RX11 TX11 26 ∈ lwa := chk_in wc_55 18 rfl
theorem ul_X11_27 : u_lay RX11 TX11 27 ∈ lwa := chk_in wc_55 19 rfl
def wl_56 : List (Nat × Cond) := [(1622, u_lay RX11 TX11 28), (1, u_lay RX11 TX11 29), (1, u_lay RX11 TX11 30), (1, u_lay RX11 TX11 31), (1, u_lay RX11 TX11 32), (1, u_lay RX11 TX11 33), (1, u_lay RX11 TX11 34), (1, u_lay RX11 TX11 35), (1, u_lay RX11 TX11 36), (1, u_lay RX11 TX11 37), (1, u_lay RX11 TX11 38), (2, Cond.methodLink RL 114 yX11_thrown), (0, Cond.instanceMethod yX11_thrown), (0, Cond.selects RX11 yX11_thrown yX11_thrown), (0, Cond.code yX11_thrown cX11_thrown 1 (some .int)), (0, Cond.methodLink RL 212 yX11_undo), (0, Cond.instanceMethod yX11_undo), (0, Cond.selects RX11 yX11_undo yX11_undo), (0, Cond.code yX11_undo cX11_undo 2 (some .int)), (0, Cond.methodLink RX11 98 yX11_isRefused)]
set_option maxRecDepth 50000 in
theorem wc_56 : chk wl_56 lw_tbl = true := by decide +kernel
theorem ul_X11_28 : u_lay RX11 TX11 28 ∈ lwa := chk_in wc_56 0 rfl
theorem ul_X11_29 : u_lay RX11 TX11 29 ∈ lwa := chk_in wc_56 1 rfl
theorem ul_X11_30 : u_lay RX11 TX11 30 ∈ lwa := chk_in wc_56 2 rfl
theorem ul_X11_31 : u_lay RX11 TX11 31 ∈ lwa := chk_in wc_56 3 rfl
theorem ul_X11_32 : u_lay RX11 TX11 32 ∈ lwa := chk_in wc_56 4 rfl
theorem ul_X11_33 : u_lay RX11 TX11 33 ∈ lwa := chk_in wc_56 5 rfl
theorem ul_X11_34 : u_lay RX11 TX11 34 ∈ lwa := chk_in wc_56 6 rfl
theorem ul_X11_35 : u_lay RX11 TX11 35 ∈ lwa := chk_in wc_56 7 rfl
theorem ul_X11_36 : u_lay RX11 TX11 36 ∈ lwa := chk_in wc_56 8 rfl
theorem ul_X11_37 : u_lay RX11 TX11 37 ∈ lwa := chk_in wc_56 9 rfl
theorem ul_X11_38 : u_lay RX11 TX11 38 ∈ lwa := chk_in wc_56 10 rfl
theorem ml_L_114 : Cond.methodLink RL 114 yX11_thrown ∈ lwa := chk_in wc_56 11 rfl
theorem im_X11_thrown : Cond.instanceMethod yX11_thrown ∈ lwa := chk_in wc_56 12 rfl
theorem se_X11_thrown : Cond.selects RX11 yX11_thrown yX11_thrown ∈ lwa := chk_in wc_56 13 rfl
theorem cd_X11_thrown : Cond.code yX11_thrown cX11_thrown 1 (some .int) ∈ lwa := chk_in wc_56 14 rfl
theorem ml_L_212 : Cond.methodLink RL 212 yX11_undo ∈ lwa := chk_in wc_56 15 rfl
theorem im_X11_undo : Cond.instanceMethod yX11_undo ∈ lwa := chk_in wc_56 16 rfl
theorem se_X11_undo : Cond.selects RX11 yX11_undo yX11_undo ∈ lwa := chk_in wc_56 17 rfl
theorem cd_X11_undo : Cond.code yX11_undo cX11_undo 2 (some .int) ∈ lwa := chk_in wc_56 18 rfl
theorem ml_X11_98 : Cond.methodLink RX11 98 yX11_isRefused ∈ lwa := chk_in wc_56 19 rfl
def wl_57 : List (Nat × Cond) := [(1655, Cond.instanceMethod yX11_isRefused), (0, Cond.code yX11_isRefused cX11_isRefused 2 (some .boolean)), (0, Cond.methodLink RL 215 yX11_keep), (0, Cond.instanceMethod yX11_keep), (0, Cond.selects RX11 yX11_keep yX11_keep), (0, Cond.code yX11_keep cX11_keep 3 (some .int)), (0, Cond.methodLink RX11 102 yX11_in), (0, Cond.static yX11_in), (0, Cond.code yX11_in cX11_in 3 (some .boolean)), (0, Cond.methodLink RX11 106 yX11_phase), (1, Cond.instanceMethod yX11_phase), (0, Cond.code yX11_phase cX11_phase 1 (some .int)), (0, Cond.methodLink RL 218 yX11_restore), (0, Cond.instanceMethod yX11_restore), (0, Cond.selects RX11 yX11_restore yX11_restore), (0, Cond.code yX11_restore cX11_restore 3 (some .int)), (0, Cond.methodLink RL 113 yX11_feed), (0, Cond.instanceMethod yX11_feed), (0, Cond.selects RX11 yX11_feed yX11_feed), (0, Cond.code yX11_feed cX11_feed 6 (some .int))]
set_option maxRecDepth 50000 in
theorem wc_57 : chk wl_57 lw_tbl = true := by decide +kernel
theorem im_X11_isRefused : Cond.instanceMethod yX11_isRefused ∈ lwa := chk_in wc_57 0 rfl
theorem cd_X11_isRefused : Cond.code yX11_isRefused cX11_isRefused 2 (some .boolean) ∈ lwa := chk_in wc_57 1 rfl
theorem ml_L_215 : Cond.methodLink RL 215 yX11_keep ∈ lwa := chk_in wc_57 2 rfl
theorem im_X11_keep : Cond.instanceMethod yX11_keep ∈ lwa := chk_in wc_57 3 rfl
theorem se_X11_keep : Cond.selects RX11 yX11_keep yX11_keep ∈ lwa := chk_in wc_57 4 rfl
theorem cd_X11_keep : Cond.code yX11_keep cX11_keep 3 (some .int) ∈ lwa := chk_in wc_57 5 rfl
theorem ml_X11_102 : Cond.methodLink RX11 102 yX11_in ∈ lwa := chk_in wc_57 6 rfl
theorem sm_X11_in : Cond.static yX11_in ∈ lwa := chk_in wc_57 7 rfl
theorem cd_X11_in : Cond.code yX11_in cX11_in 3 (some .boolean) ∈ lwa := chk_in wc_57 8 rfl
theorem ml_X11_106 : Cond.methodLink RX11 106 yX11_phase ∈ lwa := chk_in wc_57 9 rfl
theorem im_X11_phase : Cond.instanceMethod yX11_phase ∈ lwa := chk_in wc_57 10 rfl
theorem cd_X11_phase : Cond.code yX11_phase cX11_phase 1 (some .int) ∈ lwa := chk_in wc_57 11 rfl
theorem ml_L_218 : Cond.methodLink RL 218 yX11_restore ∈ lwa := chk_in wc_57 12 rfl
theorem im_X11_restore : Cond.instanceMethod yX11_restore ∈ lwa := chk_in wc_57 13 rfl
theorem se_X11_restore : Cond.selects RX11 yX11_restore yX11_restore ∈ lwa := chk_in wc_57 14 rfl
theorem cd_X11_restore : Cond.code yX11_restore cX11_restore 3 (some .int) ∈ lwa := chk_in wc_57 15 rfl
theorem ml_L_113 : Cond.methodLink RL 113 yX11_feed ∈ lwa := chk_in wc_57 16 rfl
theorem im_X11_feed : Cond.instanceMethod yX11_feed ∈ lwa := chk_in wc_57 17 rfl
theorem se_X11_feed : Cond.selects RX11 yX11_feed yX11_feed ∈ lwa := chk_in wc_57 18 rfl
theorem cd_X11_feed : Cond.code yX11_feed cX11_feed 6 (some .int) ∈ lwa := chk_in wc_57 19 rfl
def wl_58 : List (Nat × Cond) := [(1676, Cond.methodLink RX11 113 yX11_refuse), (1, Cond.instanceMethod yX11_refuse), (0, Cond.code yX11_refuse cX11_refuse 2 (some .int)), (0, Cond.methodLink RX11 117 yX11_lays), (1, Cond.instanceMethod yX11_lays), (0, Cond.code yX11_lays cX11_lays 3 none), (0, Cond.methodLink RL 124 yX11_errorCode), (0, Cond.instanceMethod yX11_errorCode), (0, Cond.selects RX11 yX11_errorCode yX11_errorCode), (0, Cond.code yX11_errorCode cX11_errorCode 1 (some .int)), (0, Cond.methodLink RX11 124 yX11_told), (1, Cond.instanceMethod yX11_told), (0, Cond.code yX11_told cX11_told 2 (some .int)), (0, Cond.methodLink RL 128 yX11_errorPosition), (0, Cond.instanceMethod yX11_errorPosition), (0, Cond.selects RX11 yX11_errorPosition yX11_errorPosition), (0, Cond.code yX11_errorPosition cX11_errorPosition 1 (some .int)), (0, Cond.methodLink RL 120 yX11_load), (0, Cond.instanceMethod yX11_load), (0, Cond.selects RX11 yX11_load yX11_load)]
set_option maxRecDepth 50000 in
theorem wc_58 : chk wl_58 lw_tbl = true := by decide +kernel
theorem ml_X11_113 : Cond.methodLink RX11 113 yX11_refuse ∈ lwa := chk_in wc_58 0 rfl
theorem im_X11_refuse : Cond.instanceMethod yX11_refuse ∈ lwa := chk_in wc_58 1 rfl
theorem cd_X11_refuse : Cond.code yX11_refuse cX11_refuse 2 (some .int) ∈ lwa := chk_in wc_58 2 rfl
theorem ml_X11_117 : Cond.methodLink RX11 117 yX11_lays ∈ lwa := chk_in wc_58 3 rfl
theorem im_X11_lays : Cond.instanceMethod yX11_lays ∈ lwa := chk_in wc_58 4 rfl
theorem cd_X11_lays : Cond.code yX11_lays cX11_lays 3 none ∈ lwa := chk_in wc_58 5 rfl
theorem ml_L_124 : Cond.methodLink RL 124 yX11_errorCode ∈ lwa := chk_in wc_58 6 rfl
theorem im_X11_errorCode : Cond.instanceMethod yX11_errorCode ∈ lwa := chk_in wc_58 7 rfl
theorem se_X11_errorCode : Cond.selects RX11 yX11_errorCode yX11_errorCode ∈ lwa := chk_in wc_58 8 rfl
theorem cd_X11_errorCode : Cond.code yX11_errorCode cX11_errorCode 1 (some .int) ∈ lwa := chk_in wc_58 9 rfl
theorem ml_X11_124 : Cond.methodLink RX11 124 yX11_told ∈ lwa := chk_in wc_58 10 rfl
theorem im_X11_told : Cond.instanceMethod yX11_told ∈ lwa := chk_in wc_58 11 rfl
theorem cd_X11_told : Cond.code yX11_told cX11_told 2 (some .int) ∈ lwa := chk_in wc_58 12 rfl
theorem ml_L_128 : Cond.methodLink RL 128 yX11_errorPosition ∈ lwa := chk_in wc_58 13 rfl
theorem im_X11_errorPosition : Cond.instanceMethod yX11_errorPosition ∈ lwa := chk_in wc_58 14 rfl
theorem se_X11_errorPosition : Cond.selects RX11 yX11_errorPosition yX11_errorPosition ∈ lwa := chk_in wc_58 15 rfl
theorem cd_X11_errorPosition : Cond.code yX11_errorPosition cX11_errorPosition 1 (some .int) ∈ lwa := chk_in wc_58 16 rfl
theorem ml_L_120 : Cond.methodLink RL 120 yX11_load ∈ lwa := chk_in wc_58 17 rfl
theorem im_X11_load : Cond.instanceMethod yX11_load ∈ lwa := chk_in wc_58 18 rfl
theorem se_X11_load : Cond.selects RX11 yX11_load yX11_load ∈ lwa := chk_in wc_58 19 rfl
def wl_59 : List (Nat × Cond) := [(1699, Cond.code yX11_load cX11_load 2 (some .int)), (0, Cond.methodLink RX11 288 yX11_readFlight), (1, Cond.instanceMethod yX11_readFlight), (0, Cond.code yX11_readFlight cX11_readFlight 2 (some .boolean)), (0, Cond.methodLink RX11 148 yX11_peek), (1, Cond.instanceMethod yX11_peek), (0, Cond.code yX11_peek cX11_peek 2 (some .int)), (0, Cond.methodLink RX11 133 yX11_byteAt), (1, Cond.instanceMethod yX11_byteAt), (0, Cond.code yX11_byteAt cX11_byteAt 2 (some .int)), (0, Cond.methodLink RX11 142 yX11_isLetter), (0, Cond.static yX11_isLetter), (0, Cond.code yX11_isLetter cX11_isLetter 1 (some .boolean)), (0, Cond.methodLink RX11 145 yX11_isDigit), (0, Cond.static yX11_isDigit), (0, Cond.code yX11_isDigit cX11_isDigit 1 (some .boolean)), (0, Cond.methodLink RX11 279 yX11_readStatement), (1, Cond.instanceMethod yX11_readStatement), (0, Cond.code yX11_readStatement cX11_readStatement 3 (some .boolean)), (0, Cond.methodLink RX11 158 yX11_nextWord)]
set_option maxRecDepth 50000 in
theorem wc_59 : chk wl_59 lw_tbl = true := by decide +kernel
theorem cd_X11_load : Cond.code yX11_load cX11_load 2 (some .int) ∈ lwa := chk_in wc_59 0 rfl
theorem ml_X11_288 : Cond.methodLink RX11 288 yX11_readFlight ∈ lwa := chk_in wc_59 1 rfl
theorem im_X11_readFlight : Cond.instanceMethod yX11_readFlight ∈ lwa := chk_in wc_59 2 rfl
theorem cd_X11_readFlight : Cond.code yX11_readFlight cX11_readFlight 2 (some .boolean) ∈ lwa := chk_in wc_59 3 rfl
theorem ml_X11_148 : Cond.methodLink RX11 148 yX11_peek ∈ lwa := chk_in wc_59 4 rfl
theorem im_X11_peek : Cond.instanceMethod yX11_peek ∈ lwa := chk_in wc_59 5 rfl
theorem cd_X11_peek : Cond.code yX11_peek cX11_peek 2 (some .int) ∈ lwa := chk_in wc_59 6 rfl
theorem ml_X11_133 : Cond.methodLink RX11 133 yX11_byteAt ∈ lwa := chk_in wc_59 7 rfl
theorem im_X11_byteAt : Cond.instanceMethod yX11_byteAt ∈ lwa := chk_in wc_59 8 rfl
theorem cd_X11_byteAt : Cond.code yX11_byteAt cX11_byteAt 2 (some .int) ∈ lwa := chk_in wc_59 9 rfl
theorem ml_X11_142 : Cond.methodLink RX11 142 yX11_isLetter ∈ lwa := chk_in wc_59 10 rfl
theorem sm_X11_isLetter : Cond.static yX11_isLetter ∈ lwa := chk_in wc_59 11 rfl
theorem cd_X11_isLetter : Cond.code yX11_isLetter cX11_isLetter 1 (some .boolean) ∈ lwa := chk_in wc_59 12 rfl
theorem ml_X11_145 : Cond.methodLink RX11 145 yX11_isDigit ∈ lwa := chk_in wc_59 13 rfl
theorem sm_X11_isDigit : Cond.static yX11_isDigit ∈ lwa := chk_in wc_59 14 rfl
theorem cd_X11_isDigit : Cond.code yX11_isDigit cX11_isDigit 1 (some .boolean) ∈ lwa := chk_in wc_59 15 rfl
theorem ml_X11_279 : Cond.methodLink RX11 279 yX11_readStatement ∈ lwa := chk_in wc_59 16 rfl
theorem im_X11_readStatement : Cond.instanceMethod yX11_readStatement ∈ lwa := chk_in wc_59 17 rfl
theorem cd_X11_readStatement : Cond.code yX11_readStatement cX11_readStatement 3 (some .boolean) ∈ lwa := chk_in wc_59 18 rfl
theorem ml_X11_158 : Cond.methodLink RX11 158 yX11_nextWord ∈ lwa := chk_in wc_59 19 rfl
def wl_60 : List (Nat × Cond) := [(1724, Cond.instanceMethod yX11_nextWord), (0, Cond.code yX11_nextWord cX11_nextWord 4 (some .long)), (0, Cond.methodLink RX11 151 yX11_letters), (1, Cond.instanceMethod yX11_letters), (0, Cond.code yX11_letters cX11_letters 1 (some .int)), (2, Cond.methodLink RX11 270 yX11_isStatement), (0, Cond.static yX11_isStatement), (0, Cond.code yX11_isStatement cX11_isStatement 2 (some .boolean)), (7, Cond.methodLink RX11 166 yX11_fails), (1, Cond.instanceMethod yX11_fails), (0, Cond.code yX11_fails cX11_fails 2 (some .boolean)), (0, Cond.methodLink RX11 273 yX11_isFull), (1, Cond.instanceMethod yX11_isFull), (0, Cond.code yX11_isFull cX11_isFull 3 (some .boolean)), (0, Cond.methodLink RX11 162 yX11_passes), (1, Cond.instanceMethod yX11_passes), (0, Cond.code yX11_passes cX11_passes 1 (some .boolean)), (0, Cond.methodLink RX11 276 yX11_readBehind), (1, Cond.instanceMethod yX11_readBehind), (0, Cond.code yX11_readBehind cX11_readBehind 3 (some .boolean))]
set_option maxRecDepth 50000 in
theorem wc_60 : chk wl_60 lw_tbl = true := by decide +kernel
theorem im_X11_nextWord : Cond.instanceMethod yX11_nextWord ∈ lwa := chk_in wc_60 0 rfl
theorem cd_X11_nextWord : Cond.code yX11_nextWord cX11_nextWord 4 (some .long) ∈ lwa := chk_in wc_60 1 rfl
theorem ml_X11_151 : Cond.methodLink RX11 151 yX11_letters ∈ lwa := chk_in wc_60 2 rfl
theorem im_X11_letters : Cond.instanceMethod yX11_letters ∈ lwa := chk_in wc_60 3 rfl
theorem cd_X11_letters : Cond.code yX11_letters cX11_letters 1 (some .int) ∈ lwa := chk_in wc_60 4 rfl
theorem ml_X11_270 : Cond.methodLink RX11 270 yX11_isStatement ∈ lwa := chk_in wc_60 5 rfl
theorem sm_X11_isStatement : Cond.static yX11_isStatement ∈ lwa := chk_in wc_60 6 rfl
theorem cd_X11_isStatement : Cond.code yX11_isStatement cX11_isStatement 2 (some .boolean) ∈ lwa := chk_in wc_60 7 rfl
theorem ml_X11_166 : Cond.methodLink RX11 166 yX11_fails ∈ lwa := chk_in wc_60 8 rfl
theorem im_X11_fails : Cond.instanceMethod yX11_fails ∈ lwa := chk_in wc_60 9 rfl
theorem cd_X11_fails : Cond.code yX11_fails cX11_fails 2 (some .boolean) ∈ lwa := chk_in wc_60 10 rfl
theorem ml_X11_273 : Cond.methodLink RX11 273 yX11_isFull ∈ lwa := chk_in wc_60 11 rfl
theorem im_X11_isFull : Cond.instanceMethod yX11_isFull ∈ lwa := chk_in wc_60 12 rfl
theorem cd_X11_isFull : Cond.code yX11_isFull cX11_isFull 3 (some .boolean) ∈ lwa := chk_in wc_60 13 rfl
theorem ml_X11_162 : Cond.methodLink RX11 162 yX11_passes ∈ lwa := chk_in wc_60 14 rfl
theorem im_X11_passes : Cond.instanceMethod yX11_passes ∈ lwa := chk_in wc_60 15 rfl
theorem cd_X11_passes : Cond.code yX11_passes cX11_passes 1 (some .boolean) ∈ lwa := chk_in wc_60 16 rfl
theorem ml_X11_276 : Cond.methodLink RX11 276 yX11_readBehind ∈ lwa := chk_in wc_60 17 rfl
theorem im_X11_readBehind : Cond.instanceMethod yX11_readBehind ∈ lwa := chk_in wc_60 18 rfl
theorem cd_X11_readBehind : Cond.code yX11_readBehind cX11_readBehind 3 (some .boolean) ∈ lwa := chk_in wc_60 19 rfl
def wl_61 : List (Nat × Cond) := [(1758, Cond.methodLink RX11 249 yX11_readTime), (1, Cond.instanceMethod yX11_readTime), (0, Cond.code yX11_readTime cX11_readTime 1 (some .boolean)), (0, Cond.methodLink RX11 196 yX11_readNumber), (1, Cond.instanceMethod yX11_readNumber), (0, Cond.code yX11_readNumber cX11_readNumber 3 (some .boolean)), (0, Cond.methodLink RX11 172 yX11_looksNumber), (1, Cond.instanceMethod yX11_looksNumber), (0, Cond.code yX11_looksNumber cX11_looksNumber 4 (some .boolean)), (0, Cond.methodLink RX11 252 yX11_readLead), (1, Cond.instanceMethod yX11_readLead), (0, Cond.code yX11_readLead cX11_readLead 1 (some .boolean)), (0, Cond.methodLink RX11 255 yX11_readCabin), (1, Cond.instanceMethod yX11_readCabin), (0, Cond.code yX11_readCabin cX11_readCabin 2 (some .boolean)), (0, Cond.methodLink RX11 199 yX11_looksName), (1, Cond.instanceMethod yX11_looksName), (0, Cond.code yX11_looksName cX11_looksName 1 (some .boolean)), (0, Cond.methodLink RX11 180 yX11_cabinNamed), (1, Cond.instanceMethod yX11_cabinNamed)]
set_option maxRecDepth 50000 in
theorem wc_61 : chk wl_61 lw_tbl = true := by decide +kernel
theorem ml_X11_249 : Cond.methodLink RX11 249 yX11_readTime ∈ lwa := chk_in wc_61 0 rfl
theorem im_X11_readTime : Cond.instanceMethod yX11_readTime ∈ lwa := chk_in wc_61 1 rfl
theorem cd_X11_readTime : Cond.code yX11_readTime cX11_readTime 1 (some .boolean) ∈ lwa := chk_in wc_61 2 rfl
theorem ml_X11_196 : Cond.methodLink RX11 196 yX11_readNumber ∈ lwa := chk_in wc_61 3 rfl
theorem im_X11_readNumber : Cond.instanceMethod yX11_readNumber ∈ lwa := chk_in wc_61 4 rfl
theorem cd_X11_readNumber : Cond.code yX11_readNumber cX11_readNumber 3 (some .boolean) ∈ lwa := chk_in wc_61 5 rfl
theorem ml_X11_172 : Cond.methodLink RX11 172 yX11_looksNumber ∈ lwa := chk_in wc_61 6 rfl
theorem im_X11_looksNumber : Cond.instanceMethod yX11_looksNumber ∈ lwa := chk_in wc_61 7 rfl
theorem cd_X11_looksNumber : Cond.code yX11_looksNumber cX11_looksNumber 4 (some .boolean) ∈ lwa := chk_in wc_61 8 rfl
theorem ml_X11_252 : Cond.methodLink RX11 252 yX11_readLead ∈ lwa := chk_in wc_61 9 rfl
theorem im_X11_readLead : Cond.instanceMethod yX11_readLead ∈ lwa := chk_in wc_61 10 rfl
theorem cd_X11_readLead : Cond.code yX11_readLead cX11_readLead 1 (some .boolean) ∈ lwa := chk_in wc_61 11 rfl
theorem ml_X11_255 : Cond.methodLink RX11 255 yX11_readCabin ∈ lwa := chk_in wc_61 12 rfl
theorem im_X11_readCabin : Cond.instanceMethod yX11_readCabin ∈ lwa := chk_in wc_61 13 rfl
theorem cd_X11_readCabin : Cond.code yX11_readCabin cX11_readCabin 2 (some .boolean) ∈ lwa := chk_in wc_61 14 rfl
theorem ml_X11_199 : Cond.methodLink RX11 199 yX11_looksName ∈ lwa := chk_in wc_61 15 rfl
theorem im_X11_looksName : Cond.instanceMethod yX11_looksName ∈ lwa := chk_in wc_61 16 rfl
theorem cd_X11_looksName : Cond.code yX11_looksName cX11_looksName 1 (some .boolean) ∈ lwa := chk_in wc_61 17 rfl
theorem ml_X11_180 : Cond.methodLink RX11 180 yX11_cabinNamed ∈ lwa := chk_in wc_61 18 rfl
theorem im_X11_cabinNamed : Cond.instanceMethod yX11_cabinNamed ∈ lwa := chk_in wc_61 19 rfl
def wl_62 : List (Nat × Cond) := [(1785, Cond.code yX11_cabinNamed cX11_cabinNamed 4 (some .int)), (0, Cond.methodLink RX11 258 yX11_readMeal), (1, Cond.instanceMethod yX11_readMeal), (0, Cond.code yX11_readMeal cX11_readMeal 3 (some .boolean)), (0, Cond.methodLink RX11 213 yX11_mealNamed), (1, Cond.instanceMethod yX11_mealNamed), (0, Cond.code yX11_mealNamed cX11_mealNamed 4 (some .int)), (0, Cond.methodLink RX11 216 yX11_readMenu), (1, Cond.instanceMethod yX11_readMenu), (0, Cond.code yX11_readMenu cX11_readMenu 2 (some .boolean)), (1, Cond.methodLink RX11 204 yX11_passesWord), (1, Cond.instanceMethod yX11_passesWord), (0, Cond.code yX11_passesWord cX11_passesWord 3 (some .boolean)), (1, Cond.methodLink RX11 210 yX11_readCabinName), (1, Cond.instanceMethod yX11_readCabinName), (0, Cond.code yX11_readCabinName cX11_readCabinName 1 (some .boolean)), (0, Cond.methodLink RX11 187 yX11_looksCabin), (1, Cond.instanceMethod yX11_looksCabin), (0, Cond.code yX11_looksCabin cX11_looksCabin 1 (some .boolean)), (1, Cond.methodLink RX11 221 yX11_readDiets)]
set_option maxRecDepth 50000 in
theorem wc_62 : chk wl_62 lw_tbl = true := by decide +kernel
theorem cd_X11_cabinNamed : Cond.code yX11_cabinNamed cX11_cabinNamed 4 (some .int) ∈ lwa := chk_in wc_62 0 rfl
theorem ml_X11_258 : Cond.methodLink RX11 258 yX11_readMeal ∈ lwa := chk_in wc_62 1 rfl
theorem im_X11_readMeal : Cond.instanceMethod yX11_readMeal ∈ lwa := chk_in wc_62 2 rfl
theorem cd_X11_readMeal : Cond.code yX11_readMeal cX11_readMeal 3 (some .boolean) ∈ lwa := chk_in wc_62 3 rfl
theorem ml_X11_213 : Cond.methodLink RX11 213 yX11_mealNamed ∈ lwa := chk_in wc_62 4 rfl
theorem im_X11_mealNamed : Cond.instanceMethod yX11_mealNamed ∈ lwa := chk_in wc_62 5 rfl
theorem cd_X11_mealNamed : Cond.code yX11_mealNamed cX11_mealNamed 4 (some .int) ∈ lwa := chk_in wc_62 6 rfl
theorem ml_X11_216 : Cond.methodLink RX11 216 yX11_readMenu ∈ lwa := chk_in wc_62 7 rfl
theorem im_X11_readMenu : Cond.instanceMethod yX11_readMenu ∈ lwa := chk_in wc_62 8 rfl
theorem cd_X11_readMenu : Cond.code yX11_readMenu cX11_readMenu 2 (some .boolean) ∈ lwa := chk_in wc_62 9 rfl
theorem ml_X11_204 : Cond.methodLink RX11 204 yX11_passesWord ∈ lwa := chk_in wc_62 10 rfl
theorem im_X11_passesWord : Cond.instanceMethod yX11_passesWord ∈ lwa := chk_in wc_62 11 rfl
theorem cd_X11_passesWord : Cond.code yX11_passesWord cX11_passesWord 3 (some .boolean) ∈ lwa := chk_in wc_62 12 rfl
theorem ml_X11_210 : Cond.methodLink RX11 210 yX11_readCabinName ∈ lwa := chk_in wc_62 13 rfl
theorem im_X11_readCabinName : Cond.instanceMethod yX11_readCabinName ∈ lwa := chk_in wc_62 14 rfl
theorem cd_X11_readCabinName : Cond.code yX11_readCabinName cX11_readCabinName 1 (some .boolean) ∈ lwa := chk_in wc_62 15 rfl
theorem ml_X11_187 : Cond.methodLink RX11 187 yX11_looksCabin ∈ lwa := chk_in wc_62 16 rfl
theorem im_X11_looksCabin : Cond.instanceMethod yX11_looksCabin ∈ lwa := chk_in wc_62 17 rfl
theorem cd_X11_looksCabin : Cond.code yX11_looksCabin cX11_looksCabin 1 (some .boolean) ∈ lwa := chk_in wc_62 18 rfl
theorem ml_X11_221 : Cond.methodLink RX11 221 yX11_readDiets ∈ lwa := chk_in wc_62 19 rfl
def wl_63 : List (Nat × Cond) := [(1815, Cond.instanceMethod yX11_readDiets), (0, Cond.code yX11_readDiets cX11_readDiets 3 (some .boolean)), (0, Cond.methodLink RX11 193 yX11_has), (0, Cond.static yX11_has), (0, Cond.code yX11_has cX11_has 2 (some .boolean)), (0, Cond.methodLink RX11 261 yX11_readTrolley), (1, Cond.instanceMethod yX11_readTrolley), (0, Cond.code yX11_readTrolley cX11_readTrolley 2 (some .boolean)), (0, Cond.methodLink RX11 264 yX11_readGuests), (1, Cond.instanceMethod yX11_readGuests), (0, Cond.code yX11_readGuests cX11_readGuests 3 (some .boolean)), (0, Cond.methodLink RX11 224 yX11_draftFree), (1, Cond.instanceMethod yX11_draftFree), (0, Cond.code yX11_draftFree cX11_draftFree 4 (some .int)), (0, Cond.methodLink RX11 91 yX11_passengerAt), (0, Cond.static yX11_passengerAt), (0, Cond.code yX11_passengerAt cX11_passengerAt 2 (some .int)), (0, Cond.methodLink RX11 227 yX11_adds), (1, Cond.instanceMethod yX11_adds), (0, Cond.code yX11_adds cX11_adds 5 none)]
set_option maxRecDepth 50000 in
theorem wc_63 : chk wl_63 lw_tbl = true := by decide +kernel
theorem im_X11_readDiets : Cond.instanceMethod yX11_readDiets ∈ lwa := chk_in wc_63 0 rfl
theorem cd_X11_readDiets : Cond.code yX11_readDiets cX11_readDiets 3 (some .boolean) ∈ lwa := chk_in wc_63 1 rfl
theorem ml_X11_193 : Cond.methodLink RX11 193 yX11_has ∈ lwa := chk_in wc_63 2 rfl
theorem sm_X11_has : Cond.static yX11_has ∈ lwa := chk_in wc_63 3 rfl
theorem cd_X11_has : Cond.code yX11_has cX11_has 2 (some .boolean) ∈ lwa := chk_in wc_63 4 rfl
theorem ml_X11_261 : Cond.methodLink RX11 261 yX11_readTrolley ∈ lwa := chk_in wc_63 5 rfl
theorem im_X11_readTrolley : Cond.instanceMethod yX11_readTrolley ∈ lwa := chk_in wc_63 6 rfl
theorem cd_X11_readTrolley : Cond.code yX11_readTrolley cX11_readTrolley 2 (some .boolean) ∈ lwa := chk_in wc_63 7 rfl
theorem ml_X11_264 : Cond.methodLink RX11 264 yX11_readGuests ∈ lwa := chk_in wc_63 8 rfl
theorem im_X11_readGuests : Cond.instanceMethod yX11_readGuests ∈ lwa := chk_in wc_63 9 rfl
theorem cd_X11_readGuests : Cond.code yX11_readGuests cX11_readGuests 3 (some .boolean) ∈ lwa := chk_in wc_63 10 rfl
theorem ml_X11_224 : Cond.methodLink RX11 224 yX11_draftFree ∈ lwa := chk_in wc_63 11 rfl
theorem im_X11_draftFree : Cond.instanceMethod yX11_draftFree ∈ lwa := chk_in wc_63 12 rfl
theorem cd_X11_draftFree : Cond.code yX11_draftFree cX11_draftFree 4 (some .int) ∈ lwa := chk_in wc_63 13 rfl
theorem ml_X11_91 : Cond.methodLink RX11 91 yX11_passengerAt ∈ lwa := chk_in wc_63 14 rfl
theorem sm_X11_passengerAt : Cond.static yX11_passengerAt ∈ lwa := chk_in wc_63 15 rfl
theorem cd_X11_passengerAt : Cond.code yX11_passengerAt cX11_passengerAt 2 (some .int) ∈ lwa := chk_in wc_63 16 rfl
theorem ml_X11_227 : Cond.methodLink RX11 227 yX11_adds ∈ lwa := chk_in wc_63 17 rfl
theorem im_X11_adds : Cond.instanceMethod yX11_adds ∈ lwa := chk_in wc_63 18 rfl
theorem cd_X11_adds : Cond.code yX11_adds cX11_adds 5 none ∈ lwa := chk_in wc_63 19 rfl
def wl_64 : List (Nat × Cond) := [(1839, Cond.methodLink RX11 267 yX11_readGuest), (1, Cond.instanceMethod yX11_readGuest), (0, Cond.code yX11_readGuest cX11_readGuest 4 (some .boolean)), (2, Cond.methodLink RX11 282 yX11_readSemicolon), (1, Cond.instanceMethod yX11_readSemicolon), (0, Cond.code yX11_readSemicolon cX11_readSemicolon 1 (some .boolean)), (0, Cond.methodLink RX11 291 yX11_takesFlight), (1, Cond.instanceMethod yX11_takesFlight), (0, Cond.code yX11_takesFlight cX11_takesFlight 2 none), (0, Cond.methodLink RL 131 yX11_count), (0, Cond.instanceMethod yX11_count), (0, Cond.selects RX11 yX11_count yX11_count), (0, Cond.code yX11_count cX11_count 2 (some .int)), (0, Cond.methodLink RX11 357 yX11_allLoaded), (1, Cond.instanceMethod yX11_allLoaded), (0, Cond.code yX11_allLoaded cX11_allLoaded 3 (some .int)), (0, Cond.methodLink RX11 300 yX11_meals), (1, Cond.instanceMethod yX11_meals), (0, Cond.code yX11_meals cX11_meals 1 (some .int)), (0, Cond.methodLink RX11 336 yX11_loadedOf)]
set_option maxRecDepth 50000 in
theorem wc_64 : chk wl_64 lw_tbl = true := by decide +kernel
theorem ml_X11_267 : Cond.methodLink RX11 267 yX11_readGuest ∈ lwa := chk_in wc_64 0 rfl
theorem im_X11_readGuest : Cond.instanceMethod yX11_readGuest ∈ lwa := chk_in wc_64 1 rfl
theorem cd_X11_readGuest : Cond.code yX11_readGuest cX11_readGuest 4 (some .boolean) ∈ lwa := chk_in wc_64 2 rfl
theorem ml_X11_282 : Cond.methodLink RX11 282 yX11_readSemicolon ∈ lwa := chk_in wc_64 3 rfl
theorem im_X11_readSemicolon : Cond.instanceMethod yX11_readSemicolon ∈ lwa := chk_in wc_64 4 rfl
theorem cd_X11_readSemicolon : Cond.code yX11_readSemicolon cX11_readSemicolon 1 (some .boolean) ∈ lwa := chk_in wc_64 5 rfl
theorem ml_X11_291 : Cond.methodLink RX11 291 yX11_takesFlight ∈ lwa := chk_in wc_64 6 rfl
theorem im_X11_takesFlight : Cond.instanceMethod yX11_takesFlight ∈ lwa := chk_in wc_64 7 rfl
theorem cd_X11_takesFlight : Cond.code yX11_takesFlight cX11_takesFlight 2 none ∈ lwa := chk_in wc_64 8 rfl
theorem ml_L_131 : Cond.methodLink RL 131 yX11_count ∈ lwa := chk_in wc_64 9 rfl
theorem im_X11_count : Cond.instanceMethod yX11_count ∈ lwa := chk_in wc_64 10 rfl
theorem se_X11_count : Cond.selects RX11 yX11_count yX11_count ∈ lwa := chk_in wc_64 11 rfl
theorem cd_X11_count : Cond.code yX11_count cX11_count 2 (some .int) ∈ lwa := chk_in wc_64 12 rfl
theorem ml_X11_357 : Cond.methodLink RX11 357 yX11_allLoaded ∈ lwa := chk_in wc_64 13 rfl
theorem im_X11_allLoaded : Cond.instanceMethod yX11_allLoaded ∈ lwa := chk_in wc_64 14 rfl
theorem cd_X11_allLoaded : Cond.code yX11_allLoaded cX11_allLoaded 3 (some .int) ∈ lwa := chk_in wc_64 15 rfl
theorem ml_X11_300 : Cond.methodLink RX11 300 yX11_meals ∈ lwa := chk_in wc_64 16 rfl
theorem im_X11_meals : Cond.instanceMethod yX11_meals ∈ lwa := chk_in wc_64 17 rfl
theorem cd_X11_meals : Cond.code yX11_meals cX11_meals 1 (some .int) ∈ lwa := chk_in wc_64 18 rfl
theorem ml_X11_336 : Cond.methodLink RX11 336 yX11_loadedOf ∈ lwa := chk_in wc_64 19 rfl
def wl_65 : List (Nat × Cond) := [(1867, Cond.instanceMethod yX11_loadedOf), (0, Cond.code yX11_loadedOf cX11_loadedOf 4 (some .int)), (0, Cond.methodLink RX11 330 yX11_trolleys), (1, Cond.instanceMethod yX11_trolleys), (0, Cond.code yX11_trolleys cX11_trolleys 1 (some .int)), (0, Cond.methodLink RX11 333 yX11_unitAt), (0, Cond.static yX11_unitAt), (0, Cond.code yX11_unitAt cX11_unitAt 2 (some .int)), (0, Cond.methodLink RX11 360 yX11_orderUnits), (1, Cond.instanceMethod yX11_orderUnits), (0, Cond.code yX11_orderUnits cX11_orderUnits 3 (some .int)), (0, Cond.methodLink RX11 354 yX11_laysOrder), (1, Cond.instanceMethod yX11_laysOrder), (0, Cond.code yX11_laysOrder cX11_laysOrder 3 none), (0, Cond.methodLink RX11 306 yX11_isSpecial), (1, Cond.instanceMethod yX11_isSpecial), (0, Cond.code yX11_isSpecial cX11_isSpecial 2 (some .boolean)), (0, Cond.methodLink RX11 294 yX11_of), (1, Cond.instanceMethod yX11_of), (0, Cond.code yX11_of cX11_of 3 (some .int))]
set_option maxRecDepth 50000 in
theorem wc_65 : chk wl_65 lw_tbl = true := by decide +kernel
theorem im_X11_loadedOf : Cond.instanceMethod yX11_loadedOf ∈ lwa := chk_in wc_65 0 rfl
theorem cd_X11_loadedOf : Cond.code yX11_loadedOf cX11_loadedOf 4 (some .int) ∈ lwa := chk_in wc_65 1 rfl
theorem ml_X11_330 : Cond.methodLink RX11 330 yX11_trolleys ∈ lwa := chk_in wc_65 2 rfl
theorem im_X11_trolleys : Cond.instanceMethod yX11_trolleys ∈ lwa := chk_in wc_65 3 rfl
theorem cd_X11_trolleys : Cond.code yX11_trolleys cX11_trolleys 1 (some .int) ∈ lwa := chk_in wc_65 4 rfl
theorem ml_X11_333 : Cond.methodLink RX11 333 yX11_unitAt ∈ lwa := chk_in wc_65 5 rfl
theorem sm_X11_unitAt : Cond.static yX11_unitAt ∈ lwa := chk_in wc_65 6 rfl
theorem cd_X11_unitAt : Cond.code yX11_unitAt cX11_unitAt 2 (some .int) ∈ lwa := chk_in wc_65 7 rfl
theorem ml_X11_360 : Cond.methodLink RX11 360 yX11_orderUnits ∈ lwa := chk_in wc_65 8 rfl
theorem im_X11_orderUnits : Cond.instanceMethod yX11_orderUnits ∈ lwa := chk_in wc_65 9 rfl
theorem cd_X11_orderUnits : Cond.code yX11_orderUnits cX11_orderUnits 3 (some .int) ∈ lwa := chk_in wc_65 10 rfl
theorem ml_X11_354 : Cond.methodLink RX11 354 yX11_laysOrder ∈ lwa := chk_in wc_65 11 rfl
theorem im_X11_laysOrder : Cond.instanceMethod yX11_laysOrder ∈ lwa := chk_in wc_65 12 rfl
theorem cd_X11_laysOrder : Cond.code yX11_laysOrder cX11_laysOrder 3 none ∈ lwa := chk_in wc_65 13 rfl
theorem ml_X11_306 : Cond.methodLink RX11 306 yX11_isSpecial ∈ lwa := chk_in wc_65 14 rfl
theorem im_X11_isSpecial : Cond.instanceMethod yX11_isSpecial ∈ lwa := chk_in wc_65 15 rfl
theorem cd_X11_isSpecial : Cond.code yX11_isSpecial cX11_isSpecial 2 (some .boolean) ∈ lwa := chk_in wc_65 16 rfl
theorem ml_X11_294 : Cond.methodLink RX11 294 yX11_of ∈ lwa := chk_in wc_65 17 rfl
theorem im_X11_of : Cond.instanceMethod yX11_of ∈ lwa := chk_in wc_65 18 rfl
theorem cd_X11_of : Cond.code yX11_of cX11_of 3 (some .int) ∈ lwa := chk_in wc_65 19 rfl
def wl_66 : List (Nat × Cond) := [(1892, Cond.methodLink RX11 321 yX11_cheapest), (1, Cond.instanceMethod yX11_cheapest), (0, Cond.code yX11_cheapest cX11_cheapest 4 (some .int)), (0, Cond.methodLink RX11 303 yX11_suits), (1, Cond.instanceMethod yX11_suits), (0, Cond.code yX11_suits cX11_suits 5 (some .boolean)), (0, Cond.methodLink RX11 297 yX11_ofMeal), (1, Cond.instanceMethod yX11_ofMeal), (0, Cond.code yX11_ofMeal cX11_ofMeal 3 (some .int)), (0, Cond.methodLink RX11 324 yX11_cabins), (1, Cond.instanceMethod yX11_cabins), (0, Cond.code yX11_cabins cX11_cabins 1 (some .int)), (0, Cond.methodLink RX11 327 yX11_ordersFor), (1, Cond.instanceMethod yX11_ordersFor), (0, Cond.code yX11_ordersFor cX11_ordersFor 8 none), (0, Cond.methodLink RX11 309 yX11_plainIn), (1, Cond.instanceMethod yX11_plainIn), (0, Cond.code yX11_plainIn cX11_plainIn 4 (some .int)), (0, Cond.methodLink RX11 312 yX11_sharesOf), (1, Cond.instanceMethod yX11_sharesOf)]
set_option maxRecDepth 50000 in
theorem wc_66 : chk wl_66 lw_tbl = true := by decide +kernel
theorem ml_X11_321 : Cond.methodLink RX11 321 yX11_cheapest ∈ lwa := chk_in wc_66 0 rfl
theorem im_X11_cheapest : Cond.instanceMethod yX11_cheapest ∈ lwa := chk_in wc_66 1 rfl
theorem cd_X11_cheapest : Cond.code yX11_cheapest cX11_cheapest 4 (some .int) ∈ lwa := chk_in wc_66 2 rfl
theorem ml_X11_303 : Cond.methodLink RX11 303 yX11_suits ∈ lwa := chk_in wc_66 3 rfl
theorem im_X11_suits : Cond.instanceMethod yX11_suits ∈ lwa := chk_in wc_66 4 rfl
theorem cd_X11_suits : Cond.code yX11_suits cX11_suits 5 (some .boolean) ∈ lwa := chk_in wc_66 5 rfl
theorem ml_X11_297 : Cond.methodLink RX11 297 yX11_ofMeal ∈ lwa := chk_in wc_66 6 rfl
theorem im_X11_ofMeal : Cond.instanceMethod yX11_ofMeal ∈ lwa := chk_in wc_66 7 rfl
theorem cd_X11_ofMeal : Cond.code yX11_ofMeal cX11_ofMeal 3 (some .int) ∈ lwa := chk_in wc_66 8 rfl
theorem ml_X11_324 : Cond.methodLink RX11 324 yX11_cabins ∈ lwa := chk_in wc_66 9 rfl
theorem im_X11_cabins : Cond.instanceMethod yX11_cabins ∈ lwa := chk_in wc_66 10 rfl
theorem cd_X11_cabins : Cond.code yX11_cabins cX11_cabins 1 (some .int) ∈ lwa := chk_in wc_66 11 rfl
theorem ml_X11_327 : Cond.methodLink RX11 327 yX11_ordersFor ∈ lwa := chk_in wc_66 12 rfl
theorem im_X11_ordersFor : Cond.instanceMethod yX11_ordersFor ∈ lwa := chk_in wc_66 13 rfl
theorem cd_X11_ordersFor : Cond.code yX11_ordersFor cX11_ordersFor 8 none ∈ lwa := chk_in wc_66 14 rfl
theorem ml_X11_309 : Cond.methodLink RX11 309 yX11_plainIn ∈ lwa := chk_in wc_66 15 rfl
theorem im_X11_plainIn : Cond.instanceMethod yX11_plainIn ∈ lwa := chk_in wc_66 16 rfl
theorem cd_X11_plainIn : Cond.code yX11_plainIn cX11_plainIn 4 (some .int) ∈ lwa := chk_in wc_66 17 rfl
theorem ml_X11_312 : Cond.methodLink RX11 312 yX11_sharesOf ∈ lwa := chk_in wc_66 18 rfl
theorem im_X11_sharesOf : Cond.instanceMethod yX11_sharesOf ∈ lwa := chk_in wc_66 19 rfl
def wl_67 : List (Nat × Cond) := [(1919, Cond.code yX11_sharesOf cX11_sharesOf 4 (some .int)), (0, Cond.methodLink RX11 315 yX11_ofCabin), (1, Cond.instanceMethod yX11_ofCabin), (0, Cond.code yX11_ofCabin cX11_ofCabin 3 (some .int)), (0, Cond.methodLink RX11 318 yX11_greatestRemainder), (1, Cond.instanceMethod yX11_greatestRemainder), (0, Cond.code yX11_greatestRemainder cX11_greatestRemainder 4 (some .int)), (0, Cond.methodLink RL 135 yX11_cabin), (0, Cond.instanceMethod yX11_cabin), (0, Cond.selects RX11 yX11_cabin yX11_cabin), (0, Cond.code yX11_cabin cX11_cabin 3 (some .int)), (0, Cond.methodLink RX11 363 yX11_isCabin), (1, Cond.instanceMethod yX11_isCabin), (0, Cond.code yX11_isCabin cX11_isCabin 2 (some .boolean)), (0, Cond.methodLink RX11 366 yX11_passengersIn), (1, Cond.instanceMethod yX11_passengersIn), (0, Cond.code yX11_passengersIn cX11_passengersIn 5 (some .int)), (0, Cond.methodLink RX11 370 yX11_trolleysOf), (1, Cond.instanceMethod yX11_trolleysOf), (0, Cond.code yX11_trolleysOf cX11_trolleysOf 5 (some .int))]
set_option maxRecDepth 50000 in
theorem wc_67 : chk wl_67 lw_tbl = true := by decide +kernel
theorem cd_X11_sharesOf : Cond.code yX11_sharesOf cX11_sharesOf 4 (some .int) ∈ lwa := chk_in wc_67 0 rfl
theorem ml_X11_315 : Cond.methodLink RX11 315 yX11_ofCabin ∈ lwa := chk_in wc_67 1 rfl
theorem im_X11_ofCabin : Cond.instanceMethod yX11_ofCabin ∈ lwa := chk_in wc_67 2 rfl
theorem cd_X11_ofCabin : Cond.code yX11_ofCabin cX11_ofCabin 3 (some .int) ∈ lwa := chk_in wc_67 3 rfl
theorem ml_X11_318 : Cond.methodLink RX11 318 yX11_greatestRemainder ∈ lwa := chk_in wc_67 4 rfl
theorem im_X11_greatestRemainder : Cond.instanceMethod yX11_greatestRemainder ∈ lwa := chk_in wc_67 5 rfl
theorem cd_X11_greatestRemainder : Cond.code yX11_greatestRemainder cX11_greatestRemainder 4 (some .int) ∈ lwa := chk_in wc_67 6 rfl
theorem ml_L_135 : Cond.methodLink RL 135 yX11_cabin ∈ lwa := chk_in wc_67 7 rfl
theorem im_X11_cabin : Cond.instanceMethod yX11_cabin ∈ lwa := chk_in wc_67 8 rfl
theorem se_X11_cabin : Cond.selects RX11 yX11_cabin yX11_cabin ∈ lwa := chk_in wc_67 9 rfl
theorem cd_X11_cabin : Cond.code yX11_cabin cX11_cabin 3 (some .int) ∈ lwa := chk_in wc_67 10 rfl
theorem ml_X11_363 : Cond.methodLink RX11 363 yX11_isCabin ∈ lwa := chk_in wc_67 11 rfl
theorem im_X11_isCabin : Cond.instanceMethod yX11_isCabin ∈ lwa := chk_in wc_67 12 rfl
theorem cd_X11_isCabin : Cond.code yX11_isCabin cX11_isCabin 2 (some .boolean) ∈ lwa := chk_in wc_67 13 rfl
theorem ml_X11_366 : Cond.methodLink RX11 366 yX11_passengersIn ∈ lwa := chk_in wc_67 14 rfl
theorem im_X11_passengersIn : Cond.instanceMethod yX11_passengersIn ∈ lwa := chk_in wc_67 15 rfl
theorem cd_X11_passengersIn : Cond.code yX11_passengersIn cX11_passengersIn 5 (some .int) ∈ lwa := chk_in wc_67 16 rfl
theorem ml_X11_370 : Cond.methodLink RX11 370 yX11_trolleysOf ∈ lwa := chk_in wc_67 17 rfl
theorem im_X11_trolleysOf : Cond.instanceMethod yX11_trolleysOf ∈ lwa := chk_in wc_67 18 rfl
theorem cd_X11_trolleysOf : Cond.code yX11_trolleysOf cX11_trolleysOf 5 (some .int) ∈ lwa := chk_in wc_67 19 rfl
def wl_68 : List (Nat × Cond) := [(1944, Cond.methodLink RX11 342 yX11_ofTrolley), (1, Cond.instanceMethod yX11_ofTrolley), (0, Cond.code yX11_ofTrolley cX11_ofTrolley 3 (some .int)), (0, Cond.methodLink RX11 348 yX11_freeOf), (1, Cond.instanceMethod yX11_freeOf), (0, Cond.code yX11_freeOf cX11_freeOf 4 (some .int)), (0, Cond.methodLink RX11 373 yX11_menuOf), (1, Cond.instanceMethod yX11_menuOf), (0, Cond.code yX11_menuOf cX11_menuOf 4 (some .int)), (0, Cond.methodLink RX11 376 yX11_orderSlots), (1, Cond.instanceMethod yX11_orderSlots), (0, Cond.code yX11_orderSlots cX11_orderSlots 4 (some .int)), (0, Cond.methodLink RL 138 yX11_meal), (0, Cond.instanceMethod yX11_meal), (0, Cond.selects RX11 yX11_meal yX11_meal), (0, Cond.code yX11_meal cX11_meal 3 (some .int)), (0, Cond.methodLink RX11 379 yX11_isMeal), (1, Cond.instanceMethod yX11_isMeal), (0, Cond.code yX11_isMeal cX11_isMeal 2 (some .boolean)), (0, Cond.methodLink RX11 339 yX11_comingOf)]
set_option maxRecDepth 50000 in
theorem wc_68 : chk wl_68 lw_tbl = true := by decide +kernel
theorem ml_X11_342 : Cond.methodLink RX11 342 yX11_ofTrolley ∈ lwa := chk_in wc_68 0 rfl
theorem im_X11_ofTrolley : Cond.instanceMethod yX11_ofTrolley ∈ lwa := chk_in wc_68 1 rfl
theorem cd_X11_ofTrolley : Cond.code yX11_ofTrolley cX11_ofTrolley 3 (some .int) ∈ lwa := chk_in wc_68 2 rfl
theorem ml_X11_348 : Cond.methodLink RX11 348 yX11_freeOf ∈ lwa := chk_in wc_68 3 rfl
theorem im_X11_freeOf : Cond.instanceMethod yX11_freeOf ∈ lwa := chk_in wc_68 4 rfl
theorem cd_X11_freeOf : Cond.code yX11_freeOf cX11_freeOf 4 (some .int) ∈ lwa := chk_in wc_68 5 rfl
theorem ml_X11_373 : Cond.methodLink RX11 373 yX11_menuOf ∈ lwa := chk_in wc_68 6 rfl
theorem im_X11_menuOf : Cond.instanceMethod yX11_menuOf ∈ lwa := chk_in wc_68 7 rfl
theorem cd_X11_menuOf : Cond.code yX11_menuOf cX11_menuOf 4 (some .int) ∈ lwa := chk_in wc_68 8 rfl
theorem ml_X11_376 : Cond.methodLink RX11 376 yX11_orderSlots ∈ lwa := chk_in wc_68 9 rfl
theorem im_X11_orderSlots : Cond.instanceMethod yX11_orderSlots ∈ lwa := chk_in wc_68 10 rfl
theorem cd_X11_orderSlots : Cond.code yX11_orderSlots cX11_orderSlots 4 (some .int) ∈ lwa := chk_in wc_68 11 rfl
theorem ml_L_138 : Cond.methodLink RL 138 yX11_meal ∈ lwa := chk_in wc_68 12 rfl
theorem im_X11_meal : Cond.instanceMethod yX11_meal ∈ lwa := chk_in wc_68 13 rfl
theorem se_X11_meal : Cond.selects RX11 yX11_meal yX11_meal ∈ lwa := chk_in wc_68 14 rfl
theorem cd_X11_meal : Cond.code yX11_meal cX11_meal 3 (some .int) ∈ lwa := chk_in wc_68 15 rfl
theorem ml_X11_379 : Cond.methodLink RX11 379 yX11_isMeal ∈ lwa := chk_in wc_68 16 rfl
theorem im_X11_isMeal : Cond.instanceMethod yX11_isMeal ∈ lwa := chk_in wc_68 17 rfl
theorem cd_X11_isMeal : Cond.code yX11_isMeal cX11_isMeal 2 (some .boolean) ∈ lwa := chk_in wc_68 18 rfl
theorem ml_X11_339 : Cond.methodLink RX11 339 yX11_comingOf ∈ lwa := chk_in wc_68 19 rfl
def wl_69 : List (Nat × Cond) := [(1970, Cond.instanceMethod yX11_comingOf), (0, Cond.code yX11_comingOf cX11_comingOf 4 (some .int)), (0, Cond.methodLink RX11 382 yX11_missingOf), (1, Cond.instanceMethod yX11_missingOf), (0, Cond.code yX11_missingOf cX11_missingOf 3 (some .int)), (0, Cond.methodLink RL 141 yX11_passenger), (0, Cond.instanceMethod yX11_passenger), (0, Cond.selects RX11 yX11_passenger yX11_passenger), (0, Cond.code yX11_passenger cX11_passenger 3 (some .int)), (0, Cond.methodLink RX11 385 yX11_isPassenger), (1, Cond.instanceMethod yX11_isPassenger), (0, Cond.code yX11_isPassenger cX11_isPassenger 2 (some .boolean)), (0, Cond.methodLink RX11 388 yX11_suiting), (1, Cond.instanceMethod yX11_suiting), (0, Cond.code yX11_suiting cX11_suiting 4 (some .int)), (0, Cond.methodLink RL 144 yX11_trolley), (0, Cond.instanceMethod yX11_trolley), (0, Cond.selects RX11 yX11_trolley yX11_trolley), (0, Cond.code yX11_trolley cX11_trolley 3 (some .int)), (0, Cond.methodLink RX11 391 yX11_isTrolley)]
set_option maxRecDepth 50000 in
theorem wc_69 : chk wl_69 lw_tbl = true := by decide +kernel
theorem im_X11_comingOf : Cond.instanceMethod yX11_comingOf ∈ lwa := chk_in wc_69 0 rfl
theorem cd_X11_comingOf : Cond.code yX11_comingOf cX11_comingOf 4 (some .int) ∈ lwa := chk_in wc_69 1 rfl
theorem ml_X11_382 : Cond.methodLink RX11 382 yX11_missingOf ∈ lwa := chk_in wc_69 2 rfl
theorem im_X11_missingOf : Cond.instanceMethod yX11_missingOf ∈ lwa := chk_in wc_69 3 rfl
theorem cd_X11_missingOf : Cond.code yX11_missingOf cX11_missingOf 3 (some .int) ∈ lwa := chk_in wc_69 4 rfl
theorem ml_L_141 : Cond.methodLink RL 141 yX11_passenger ∈ lwa := chk_in wc_69 5 rfl
theorem im_X11_passenger : Cond.instanceMethod yX11_passenger ∈ lwa := chk_in wc_69 6 rfl
theorem se_X11_passenger : Cond.selects RX11 yX11_passenger yX11_passenger ∈ lwa := chk_in wc_69 7 rfl
theorem cd_X11_passenger : Cond.code yX11_passenger cX11_passenger 3 (some .int) ∈ lwa := chk_in wc_69 8 rfl
theorem ml_X11_385 : Cond.methodLink RX11 385 yX11_isPassenger ∈ lwa := chk_in wc_69 9 rfl
theorem im_X11_isPassenger : Cond.instanceMethod yX11_isPassenger ∈ lwa := chk_in wc_69 10 rfl
theorem cd_X11_isPassenger : Cond.code yX11_isPassenger cX11_isPassenger 2 (some .boolean) ∈ lwa := chk_in wc_69 11 rfl
theorem ml_X11_388 : Cond.methodLink RX11 388 yX11_suiting ∈ lwa := chk_in wc_69 12 rfl
theorem im_X11_suiting : Cond.instanceMethod yX11_suiting ∈ lwa := chk_in wc_69 13 rfl
theorem cd_X11_suiting : Cond.code yX11_suiting cX11_suiting 4 (some .int) ∈ lwa := chk_in wc_69 14 rfl
theorem ml_L_144 : Cond.methodLink RL 144 yX11_trolley ∈ lwa := chk_in wc_69 15 rfl
theorem im_X11_trolley : Cond.instanceMethod yX11_trolley ∈ lwa := chk_in wc_69 16 rfl
theorem se_X11_trolley : Cond.selects RX11 yX11_trolley yX11_trolley ∈ lwa := chk_in wc_69 17 rfl
theorem cd_X11_trolley : Cond.code yX11_trolley cX11_trolley 3 (some .int) ∈ lwa := chk_in wc_69 18 rfl
theorem ml_X11_391 : Cond.methodLink RX11 391 yX11_isTrolley ∈ lwa := chk_in wc_69 19 rfl
def wl_70 : List (Nat × Cond) := [(1994, Cond.instanceMethod yX11_isTrolley), (0, Cond.code yX11_isTrolley cX11_isTrolley 2 (some .boolean)), (0, Cond.methodLink RX11 394 yX11_unitsIn), (1, Cond.instanceMethod yX11_unitsIn), (0, Cond.code yX11_unitsIn cX11_unitsIn 4 (some .int)), (0, Cond.methodLink RL 147 yX11_held), (0, Cond.instanceMethod yX11_held), (0, Cond.selects RX11 yX11_held yX11_held), (0, Cond.code yX11_held cX11_held 3 (some .int)), (0, Cond.methodLink RL 150 yX11_topUpAt), (0, Cond.instanceMethod yX11_topUpAt), (0, Cond.selects RX11 yX11_topUpAt yX11_topUpAt), (0, Cond.code yX11_topUpAt cX11_topUpAt 3 (some .int)), (0, Cond.methodLink RL 154 yX11_board), (0, Cond.instanceMethod yX11_board), (0, Cond.selects RX11 yX11_board yX11_board), (0, Cond.code yX11_board cX11_board 6 (some .int)), (0, Cond.methodLink RX11 397 yX11_wrongBoarding), (1, Cond.instanceMethod yX11_wrongBoarding), (0, Cond.code yX11_wrongBoarding cX11_wrongBoarding 5 (some .int))]
set_option maxRecDepth 50000 in
theorem wc_70 : chk wl_70 lw_tbl = true := by decide +kernel
theorem im_X11_isTrolley : Cond.instanceMethod yX11_isTrolley ∈ lwa := chk_in wc_70 0 rfl
theorem cd_X11_isTrolley : Cond.code yX11_isTrolley cX11_isTrolley 2 (some .boolean) ∈ lwa := chk_in wc_70 1 rfl
theorem ml_X11_394 : Cond.methodLink RX11 394 yX11_unitsIn ∈ lwa := chk_in wc_70 2 rfl
theorem im_X11_unitsIn : Cond.instanceMethod yX11_unitsIn ∈ lwa := chk_in wc_70 3 rfl
theorem cd_X11_unitsIn : Cond.code yX11_unitsIn cX11_unitsIn 4 (some .int) ∈ lwa := chk_in wc_70 4 rfl
theorem ml_L_147 : Cond.methodLink RL 147 yX11_held ∈ lwa := chk_in wc_70 5 rfl
theorem im_X11_held : Cond.instanceMethod yX11_held ∈ lwa := chk_in wc_70 6 rfl
theorem se_X11_held : Cond.selects RX11 yX11_held yX11_held ∈ lwa := chk_in wc_70 7 rfl
theorem cd_X11_held : Cond.code yX11_held cX11_held 3 (some .int) ∈ lwa := chk_in wc_70 8 rfl
theorem ml_L_150 : Cond.methodLink RL 150 yX11_topUpAt ∈ lwa := chk_in wc_70 9 rfl
theorem im_X11_topUpAt : Cond.instanceMethod yX11_topUpAt ∈ lwa := chk_in wc_70 10 rfl
theorem se_X11_topUpAt : Cond.selects RX11 yX11_topUpAt yX11_topUpAt ∈ lwa := chk_in wc_70 11 rfl
theorem cd_X11_topUpAt : Cond.code yX11_topUpAt cX11_topUpAt 3 (some .int) ∈ lwa := chk_in wc_70 12 rfl
theorem ml_L_154 : Cond.methodLink RL 154 yX11_board ∈ lwa := chk_in wc_70 13 rfl
theorem im_X11_board : Cond.instanceMethod yX11_board ∈ lwa := chk_in wc_70 14 rfl
theorem se_X11_board : Cond.selects RX11 yX11_board yX11_board ∈ lwa := chk_in wc_70 15 rfl
theorem cd_X11_board : Cond.code yX11_board cX11_board 6 (some .int) ∈ lwa := chk_in wc_70 16 rfl
theorem ml_X11_397 : Cond.methodLink RX11 397 yX11_wrongBoarding ∈ lwa := chk_in wc_70 17 rfl
theorem im_X11_wrongBoarding : Cond.instanceMethod yX11_wrongBoarding ∈ lwa := chk_in wc_70 18 rfl
theorem cd_X11_wrongBoarding : Cond.code yX11_wrongBoarding cX11_wrongBoarding 5 (some .int) ∈ lwa := chk_in wc_70 19 rfl
def wl_71 : List (Nat × Cond) := [(2016, Cond.methodLink RX11 401 yX11_isGoing), (1, Cond.instanceMethod yX11_isGoing), (0, Cond.code yX11_isGoing cX11_isGoing 1 (some .boolean)), (0, Cond.methodLink RX11 404 yX11_hasSeat), (1, Cond.instanceMethod yX11_hasSeat), (0, Cond.code yX11_hasSeat cX11_hasSeat 2 (some .boolean)), (0, Cond.methodLink RX11 407 yX11_refuses), (1, Cond.instanceMethod yX11_refuses), (0, Cond.code yX11_refuses cX11_refuses 3 (some .boolean)), (0, Cond.methodLink RX11 410 yX11_remembers), (1, Cond.instanceMethod yX11_remembers), (0, Cond.code yX11_remembers cX11_remembers 2 none), (0, Cond.methodLink RL 157 yX11_change), (0, Cond.instanceMethod yX11_change), (0, Cond.selects RX11 yX11_change yX11_change), (0, Cond.code yX11_change cX11_change 4 (some .int)), (0, Cond.methodLink RL 160 yX11_leave), (0, Cond.instanceMethod yX11_leave), (0, Cond.selects RX11 yX11_leave yX11_leave), (0, Cond.code yX11_leave cX11_leave 3 (some .int))]
set_option maxRecDepth 50000 in
theorem wc_71 : chk wl_71 lw_tbl = true := by decide +kernel
theorem ml_X11_401 : Cond.methodLink RX11 401 yX11_isGoing ∈ lwa := chk_in wc_71 0 rfl
theorem im_X11_isGoing : Cond.instanceMethod yX11_isGoing ∈ lwa := chk_in wc_71 1 rfl
theorem cd_X11_isGoing : Cond.code yX11_isGoing cX11_isGoing 1 (some .boolean) ∈ lwa := chk_in wc_71 2 rfl
theorem ml_X11_404 : Cond.methodLink RX11 404 yX11_hasSeat ∈ lwa := chk_in wc_71 3 rfl
theorem im_X11_hasSeat : Cond.instanceMethod yX11_hasSeat ∈ lwa := chk_in wc_71 4 rfl
theorem cd_X11_hasSeat : Cond.code yX11_hasSeat cX11_hasSeat 2 (some .boolean) ∈ lwa := chk_in wc_71 5 rfl
theorem ml_X11_407 : Cond.methodLink RX11 407 yX11_refuses ∈ lwa := chk_in wc_71 6 rfl
theorem im_X11_refuses : Cond.instanceMethod yX11_refuses ∈ lwa := chk_in wc_71 7 rfl
theorem cd_X11_refuses : Cond.code yX11_refuses cX11_refuses 3 (some .boolean) ∈ lwa := chk_in wc_71 8 rfl
theorem ml_X11_410 : Cond.methodLink RX11 410 yX11_remembers ∈ lwa := chk_in wc_71 9 rfl
theorem im_X11_remembers : Cond.instanceMethod yX11_remembers ∈ lwa := chk_in wc_71 10 rfl
theorem cd_X11_remembers : Cond.code yX11_remembers cX11_remembers 2 none ∈ lwa := chk_in wc_71 11 rfl
theorem ml_L_157 : Cond.methodLink RL 157 yX11_change ∈ lwa := chk_in wc_71 12 rfl
theorem im_X11_change : Cond.instanceMethod yX11_change ∈ lwa := chk_in wc_71 13 rfl
theorem se_X11_change : Cond.selects RX11 yX11_change yX11_change ∈ lwa := chk_in wc_71 14 rfl
theorem cd_X11_change : Cond.code yX11_change cX11_change 4 (some .int) ∈ lwa := chk_in wc_71 15 rfl
theorem ml_L_160 : Cond.methodLink RL 160 yX11_leave ∈ lwa := chk_in wc_71 16 rfl
theorem im_X11_leave : Cond.instanceMethod yX11_leave ∈ lwa := chk_in wc_71 17 rfl
theorem se_X11_leave : Cond.selects RX11 yX11_leave yX11_leave ∈ lwa := chk_in wc_71 18 rfl
theorem cd_X11_leave : Cond.code yX11_leave cX11_leave 3 (some .int) ∈ lwa := chk_in wc_71 19 rfl
def wl_72 : List (Nat × Cond) := [(2040, Cond.methodLink RL 163 yX11_setNeeds), (0, Cond.instanceMethod yX11_setNeeds), (0, Cond.selects RX11 yX11_setNeeds yX11_setNeeds), (0, Cond.code yX11_setNeeds cX11_setNeeds 4 (some .int)), (0, Cond.methodLink RL 167 yX11_loadOrder), (0, Cond.instanceMethod yX11_loadOrder), (0, Cond.selects RX11 yX11_loadOrder yX11_loadOrder), (0, Cond.code yX11_loadOrder cX11_loadOrder 2 (some .int)), (0, Cond.methodLink RX11 416 yX11_whyNotLoad), (1, Cond.instanceMethod yX11_whyNotLoad), (0, Cond.code yX11_whyNotLoad cX11_whyNotLoad 1 (some .int)), (0, Cond.methodLink RX11 419 yX11_marksUnits), (1, Cond.instanceMethod yX11_marksUnits), (0, Cond.code yX11_marksUnits cX11_marksUnits 2 none), (0, Cond.methodLink RX11 422 yX11_storesOrder), (1, Cond.instanceMethod yX11_storesOrder), (0, Cond.code yX11_storesOrder cX11_storesOrder 4 (some .int)), (0, Cond.methodLink RX11 413 yX11_storesMany), (1, Cond.instanceMethod yX11_storesMany), (0, Cond.code yX11_storesMany cX11_storesMany 4 (some .int))]
set_option maxRecDepth 50000 in
theorem wc_72 : chk wl_72 lw_tbl = true := by decide +kernel
theorem ml_L_163 : Cond.methodLink RL 163 yX11_setNeeds ∈ lwa := chk_in wc_72 0 rfl
theorem im_X11_setNeeds : Cond.instanceMethod yX11_setNeeds ∈ lwa := chk_in wc_72 1 rfl
theorem se_X11_setNeeds : Cond.selects RX11 yX11_setNeeds yX11_setNeeds ∈ lwa := chk_in wc_72 2 rfl
theorem cd_X11_setNeeds : Cond.code yX11_setNeeds cX11_setNeeds 4 (some .int) ∈ lwa := chk_in wc_72 3 rfl
theorem ml_L_167 : Cond.methodLink RL 167 yX11_loadOrder ∈ lwa := chk_in wc_72 4 rfl
theorem im_X11_loadOrder : Cond.instanceMethod yX11_loadOrder ∈ lwa := chk_in wc_72 5 rfl
theorem se_X11_loadOrder : Cond.selects RX11 yX11_loadOrder yX11_loadOrder ∈ lwa := chk_in wc_72 6 rfl
theorem cd_X11_loadOrder : Cond.code yX11_loadOrder cX11_loadOrder 2 (some .int) ∈ lwa := chk_in wc_72 7 rfl
theorem ml_X11_416 : Cond.methodLink RX11 416 yX11_whyNotLoad ∈ lwa := chk_in wc_72 8 rfl
theorem im_X11_whyNotLoad : Cond.instanceMethod yX11_whyNotLoad ∈ lwa := chk_in wc_72 9 rfl
theorem cd_X11_whyNotLoad : Cond.code yX11_whyNotLoad cX11_whyNotLoad 1 (some .int) ∈ lwa := chk_in wc_72 10 rfl
theorem ml_X11_419 : Cond.methodLink RX11 419 yX11_marksUnits ∈ lwa := chk_in wc_72 11 rfl
theorem im_X11_marksUnits : Cond.instanceMethod yX11_marksUnits ∈ lwa := chk_in wc_72 12 rfl
theorem cd_X11_marksUnits : Cond.code yX11_marksUnits cX11_marksUnits 2 none ∈ lwa := chk_in wc_72 13 rfl
theorem ml_X11_422 : Cond.methodLink RX11 422 yX11_storesOrder ∈ lwa := chk_in wc_72 14 rfl
theorem im_X11_storesOrder : Cond.instanceMethod yX11_storesOrder ∈ lwa := chk_in wc_72 15 rfl
theorem cd_X11_storesOrder : Cond.code yX11_storesOrder cX11_storesOrder 4 (some .int) ∈ lwa := chk_in wc_72 16 rfl
theorem ml_X11_413 : Cond.methodLink RX11 413 yX11_storesMany ∈ lwa := chk_in wc_72 17 rfl
theorem im_X11_storesMany : Cond.instanceMethod yX11_storesMany ∈ lwa := chk_in wc_72 18 rfl
theorem cd_X11_storesMany : Cond.code yX11_storesMany cX11_storesMany 4 (some .int) ∈ lwa := chk_in wc_72 19 rfl
def wl_73 : List (Nat × Cond) := [(2064, Cond.methodLink RX11 351 yX11_storesOne), (1, Cond.instanceMethod yX11_storesOne), (0, Cond.code yX11_storesOne cX11_storesOne 3 (some .boolean)), (0, Cond.methodLink RX11 345 yX11_takesMeal), (1, Cond.instanceMethod yX11_takesMeal), (0, Cond.code yX11_takesMeal cX11_takesMeal 4 (some .boolean)), (0, Cond.methodLink RX11 425 yX11_unitsBack), (1, Cond.instanceMethod yX11_unitsBack), (0, Cond.code yX11_unitsBack cX11_unitsBack 2 none), (0, Cond.methodLink RL 170 yX11_store), (0, Cond.instanceMethod yX11_store), (0, Cond.selects RX11 yX11_store yX11_store), (0, Cond.code yX11_store cX11_store 4 (some .int)), (0, Cond.methodLink RX11 428 yX11_wrongUnits), (1, Cond.instanceMethod yX11_wrongUnits), (0, Cond.code yX11_wrongUnits cX11_wrongUnits 3 (some .int)), (0, Cond.methodLink RL 173 yX11_unload), (0, Cond.instanceMethod yX11_unload), (0, Cond.selects RX11 yX11_unload yX11_unload), (0, Cond.code yX11_unload cX11_unload 4 (some .int))]
set_option maxRecDepth 50000 in
theorem wc_73 : chk wl_73 lw_tbl = true := by decide +kernel
theorem ml_X11_351 : Cond.methodLink RX11 351 yX11_storesOne ∈ lwa := chk_in wc_73 0 rfl
theorem im_X11_storesOne : Cond.instanceMethod yX11_storesOne ∈ lwa := chk_in wc_73 1 rfl
theorem cd_X11_storesOne : Cond.code yX11_storesOne cX11_storesOne 3 (some .boolean) ∈ lwa := chk_in wc_73 2 rfl
theorem ml_X11_345 : Cond.methodLink RX11 345 yX11_takesMeal ∈ lwa := chk_in wc_73 3 rfl
theorem im_X11_takesMeal : Cond.instanceMethod yX11_takesMeal ∈ lwa := chk_in wc_73 4 rfl
theorem cd_X11_takesMeal : Cond.code yX11_takesMeal cX11_takesMeal 4 (some .boolean) ∈ lwa := chk_in wc_73 5 rfl
theorem ml_X11_425 : Cond.methodLink RX11 425 yX11_unitsBack ∈ lwa := chk_in wc_73 6 rfl
theorem im_X11_unitsBack : Cond.instanceMethod yX11_unitsBack ∈ lwa := chk_in wc_73 7 rfl
theorem cd_X11_unitsBack : Cond.code yX11_unitsBack cX11_unitsBack 2 none ∈ lwa := chk_in wc_73 8 rfl
theorem ml_L_170 : Cond.methodLink RL 170 yX11_store ∈ lwa := chk_in wc_73 9 rfl
theorem im_X11_store : Cond.instanceMethod yX11_store ∈ lwa := chk_in wc_73 10 rfl
theorem se_X11_store : Cond.selects RX11 yX11_store yX11_store ∈ lwa := chk_in wc_73 11 rfl
theorem cd_X11_store : Cond.code yX11_store cX11_store 4 (some .int) ∈ lwa := chk_in wc_73 12 rfl
theorem ml_X11_428 : Cond.methodLink RX11 428 yX11_wrongUnits ∈ lwa := chk_in wc_73 13 rfl
theorem im_X11_wrongUnits : Cond.instanceMethod yX11_wrongUnits ∈ lwa := chk_in wc_73 14 rfl
theorem cd_X11_wrongUnits : Cond.code yX11_wrongUnits cX11_wrongUnits 3 (some .int) ∈ lwa := chk_in wc_73 15 rfl
theorem ml_L_173 : Cond.methodLink RL 173 yX11_unload ∈ lwa := chk_in wc_73 16 rfl
theorem im_X11_unload : Cond.instanceMethod yX11_unload ∈ lwa := chk_in wc_73 17 rfl
theorem se_X11_unload : Cond.selects RX11 yX11_unload yX11_unload ∈ lwa := chk_in wc_73 18 rfl
theorem cd_X11_unload : Cond.code yX11_unload cX11_unload 4 (some .int) ∈ lwa := chk_in wc_73 19 rfl
def wl_74 : List (Nat × Cond) := [(2088, Cond.methodLink RX11 431 yX11_takesOut), (1, Cond.instanceMethod yX11_takesOut), (0, Cond.code yX11_takesOut cX11_takesOut 3 none), (0, Cond.methodLink RL 176 yX11_topUp), (0, Cond.instanceMethod yX11_topUp), (0, Cond.selects RX11 yX11_topUp yX11_topUp), (0, Cond.code yX11_topUp cX11_topUp 4 (some .int)), (0, Cond.methodLink RX11 434 yX11_whyNotTopUp), (1, Cond.instanceMethod yX11_whyNotTopUp), (0, Cond.code yX11_whyNotTopUp cX11_whyNotTopUp 1 (some .int)), (0, Cond.methodLink RL 179 yX11_advance), (0, Cond.instanceMethod yX11_advance), (0, Cond.selects RX11 yX11_advance yX11_advance), (0, Cond.code yX11_advance cX11_advance 3 (some .int)), (0, Cond.methodLink RX11 437 yX11_arrives), (1, Cond.instanceMethod yX11_arrives), (0, Cond.code yX11_arrives cX11_arrives 4 (some .int)), (0, Cond.methodLink RL 183 yX11_reason), (0, Cond.instanceMethod yX11_reason), (0, Cond.selects RX11 yX11_reason yX11_reason)]
set_option maxRecDepth 50000 in
theorem wc_74 : chk wl_74 lw_tbl = true := by decide +kernel
theorem ml_X11_431 : Cond.methodLink RX11 431 yX11_takesOut ∈ lwa := chk_in wc_74 0 rfl
theorem im_X11_takesOut : Cond.instanceMethod yX11_takesOut ∈ lwa := chk_in wc_74 1 rfl
theorem cd_X11_takesOut : Cond.code yX11_takesOut cX11_takesOut 3 none ∈ lwa := chk_in wc_74 2 rfl
theorem ml_L_176 : Cond.methodLink RL 176 yX11_topUp ∈ lwa := chk_in wc_74 3 rfl
theorem im_X11_topUp : Cond.instanceMethod yX11_topUp ∈ lwa := chk_in wc_74 4 rfl
theorem se_X11_topUp : Cond.selects RX11 yX11_topUp yX11_topUp ∈ lwa := chk_in wc_74 5 rfl
theorem cd_X11_topUp : Cond.code yX11_topUp cX11_topUp 4 (some .int) ∈ lwa := chk_in wc_74 6 rfl
theorem ml_X11_434 : Cond.methodLink RX11 434 yX11_whyNotTopUp ∈ lwa := chk_in wc_74 7 rfl
theorem im_X11_whyNotTopUp : Cond.instanceMethod yX11_whyNotTopUp ∈ lwa := chk_in wc_74 8 rfl
theorem cd_X11_whyNotTopUp : Cond.code yX11_whyNotTopUp cX11_whyNotTopUp 1 (some .int) ∈ lwa := chk_in wc_74 9 rfl
theorem ml_L_179 : Cond.methodLink RL 179 yX11_advance ∈ lwa := chk_in wc_74 10 rfl
theorem im_X11_advance : Cond.instanceMethod yX11_advance ∈ lwa := chk_in wc_74 11 rfl
theorem se_X11_advance : Cond.selects RX11 yX11_advance yX11_advance ∈ lwa := chk_in wc_74 12 rfl
theorem cd_X11_advance : Cond.code yX11_advance cX11_advance 3 (some .int) ∈ lwa := chk_in wc_74 13 rfl
theorem ml_X11_437 : Cond.methodLink RX11 437 yX11_arrives ∈ lwa := chk_in wc_74 14 rfl
theorem im_X11_arrives : Cond.instanceMethod yX11_arrives ∈ lwa := chk_in wc_74 15 rfl
theorem cd_X11_arrives : Cond.code yX11_arrives cX11_arrives 4 (some .int) ∈ lwa := chk_in wc_74 16 rfl
theorem ml_L_183 : Cond.methodLink RL 183 yX11_reason ∈ lwa := chk_in wc_74 17 rfl
theorem im_X11_reason : Cond.instanceMethod yX11_reason ∈ lwa := chk_in wc_74 18 rfl
theorem se_X11_reason : Cond.selects RX11 yX11_reason yX11_reason ∈ lwa := chk_in wc_74 19 rfl
def wl_75 : List (Nat × Cond) := [(2111, Cond.code yX11_reason cX11_reason 1 (some .int)), (0, Cond.methodLink RL 186 yX11_outlook), (0, Cond.instanceMethod yX11_outlook), (0, Cond.selects RX11 yX11_outlook yX11_outlook), (0, Cond.code yX11_outlook cX11_outlook 2 (some .int)), (0, Cond.methodLink RX11 468 yX11_laysService), (1, Cond.instanceMethod yX11_laysService), (0, Cond.code yX11_laysService cX11_laysService 2 none), (0, Cond.methodLink RX11 459 yX11_matchesSpecial), (1, Cond.instanceMethod yX11_matchesSpecial), (0, Cond.code yX11_matchesSpecial cX11_matchesSpecial 3 none), (0, Cond.methodLink RX11 449 yX11_matches), (1, Cond.instanceMethod yX11_matches), (0, Cond.code yX11_matches cX11_matches 3 (some .int)), (0, Cond.methodLink RX11 443 yX11_laysUnits), (1, Cond.instanceMethod yX11_laysUnits), (0, Cond.code yX11_laysUnits cX11_laysUnits 2 none), (0, Cond.methodLink RX11 446 yX11_finds), (1, Cond.instanceMethod yX11_finds), (0, Cond.code yX11_finds cX11_finds 5 (some .boolean))]
set_option maxRecDepth 50000 in
theorem wc_75 : chk wl_75 lw_tbl = true := by decide +kernel
theorem cd_X11_reason : Cond.code yX11_reason cX11_reason 1 (some .int) ∈ lwa := chk_in wc_75 0 rfl
theorem ml_L_186 : Cond.methodLink RL 186 yX11_outlook ∈ lwa := chk_in wc_75 1 rfl
theorem im_X11_outlook : Cond.instanceMethod yX11_outlook ∈ lwa := chk_in wc_75 2 rfl
theorem se_X11_outlook : Cond.selects RX11 yX11_outlook yX11_outlook ∈ lwa := chk_in wc_75 3 rfl
theorem cd_X11_outlook : Cond.code yX11_outlook cX11_outlook 2 (some .int) ∈ lwa := chk_in wc_75 4 rfl
theorem ml_X11_468 : Cond.methodLink RX11 468 yX11_laysService ∈ lwa := chk_in wc_75 5 rfl
theorem im_X11_laysService : Cond.instanceMethod yX11_laysService ∈ lwa := chk_in wc_75 6 rfl
theorem cd_X11_laysService : Cond.code yX11_laysService cX11_laysService 2 none ∈ lwa := chk_in wc_75 7 rfl
theorem ml_X11_459 : Cond.methodLink RX11 459 yX11_matchesSpecial ∈ lwa := chk_in wc_75 8 rfl
theorem im_X11_matchesSpecial : Cond.instanceMethod yX11_matchesSpecial ∈ lwa := chk_in wc_75 9 rfl
theorem cd_X11_matchesSpecial : Cond.code yX11_matchesSpecial cX11_matchesSpecial 3 none ∈ lwa := chk_in wc_75 10 rfl
theorem ml_X11_449 : Cond.methodLink RX11 449 yX11_matches ∈ lwa := chk_in wc_75 11 rfl
theorem im_X11_matches : Cond.instanceMethod yX11_matches ∈ lwa := chk_in wc_75 12 rfl
theorem cd_X11_matches : Cond.code yX11_matches cX11_matches 3 (some .int) ∈ lwa := chk_in wc_75 13 rfl
theorem ml_X11_443 : Cond.methodLink RX11 443 yX11_laysUnits ∈ lwa := chk_in wc_75 14 rfl
theorem im_X11_laysUnits : Cond.instanceMethod yX11_laysUnits ∈ lwa := chk_in wc_75 15 rfl
theorem cd_X11_laysUnits : Cond.code yX11_laysUnits cX11_laysUnits 2 none ∈ lwa := chk_in wc_75 16 rfl
theorem ml_X11_446 : Cond.methodLink RX11 446 yX11_finds ∈ lwa := chk_in wc_75 17 rfl
theorem im_X11_finds : Cond.instanceMethod yX11_finds ∈ lwa := chk_in wc_75 18 rfl
theorem cd_X11_finds : Cond.code yX11_finds cX11_finds 5 (some .boolean) ∈ lwa := chk_in wc_75 19 rfl
def wl_76 : List (Nat × Cond) := [(2136, Cond.methodLink RX11 440 yX11_freeMeal), (1, Cond.instanceMethod yX11_freeMeal), (0, Cond.code yX11_freeMeal cX11_freeMeal 7 (some .int)), (0, Cond.methodLink RX11 455 yX11_fixes), (1, Cond.instanceMethod yX11_fixes), (0, Cond.code yX11_fixes cX11_fixes 4 none), (0, Cond.methodLink RX11 462 yX11_servesPlain), (1, Cond.instanceMethod yX11_servesPlain), (0, Cond.code yX11_servesPlain cX11_servesPlain 4 none), (0, Cond.methodLink RX11 452 yX11_mostUnits), (1, Cond.instanceMethod yX11_mostUnits), (0, Cond.code yX11_mostUnits cX11_mostUnits 5 (some .int)), (0, Cond.methodLink RX11 471 yX11_specialFed), (1, Cond.instanceMethod yX11_specialFed), (0, Cond.code yX11_specialFed cX11_specialFed 3 (some .int)), (0, Cond.methodLink RX11 474 yX11_eaten), (1, Cond.instanceMethod yX11_eaten), (0, Cond.code yX11_eaten cX11_eaten 1 (some .int)), (0, Cond.methodLink RX11 465 yX11_eatenOf), (1, Cond.instanceMethod yX11_eatenOf)]
set_option maxRecDepth 50000 in
theorem wc_76 : chk wl_76 lw_tbl = true := by decide +kernel
theorem ml_X11_440 : Cond.methodLink RX11 440 yX11_freeMeal ∈ lwa := chk_in wc_76 0 rfl
theorem im_X11_freeMeal : Cond.instanceMethod yX11_freeMeal ∈ lwa := chk_in wc_76 1 rfl
theorem cd_X11_freeMeal : Cond.code yX11_freeMeal cX11_freeMeal 7 (some .int) ∈ lwa := chk_in wc_76 2 rfl
theorem ml_X11_455 : Cond.methodLink RX11 455 yX11_fixes ∈ lwa := chk_in wc_76 3 rfl
theorem im_X11_fixes : Cond.instanceMethod yX11_fixes ∈ lwa := chk_in wc_76 4 rfl
theorem cd_X11_fixes : Cond.code yX11_fixes cX11_fixes 4 none ∈ lwa := chk_in wc_76 5 rfl
theorem ml_X11_462 : Cond.methodLink RX11 462 yX11_servesPlain ∈ lwa := chk_in wc_76 6 rfl
theorem im_X11_servesPlain : Cond.instanceMethod yX11_servesPlain ∈ lwa := chk_in wc_76 7 rfl
theorem cd_X11_servesPlain : Cond.code yX11_servesPlain cX11_servesPlain 4 none ∈ lwa := chk_in wc_76 8 rfl
theorem ml_X11_452 : Cond.methodLink RX11 452 yX11_mostUnits ∈ lwa := chk_in wc_76 9 rfl
theorem im_X11_mostUnits : Cond.instanceMethod yX11_mostUnits ∈ lwa := chk_in wc_76 10 rfl
theorem cd_X11_mostUnits : Cond.code yX11_mostUnits cX11_mostUnits 5 (some .int) ∈ lwa := chk_in wc_76 11 rfl
theorem ml_X11_471 : Cond.methodLink RX11 471 yX11_specialFed ∈ lwa := chk_in wc_76 12 rfl
theorem im_X11_specialFed : Cond.instanceMethod yX11_specialFed ∈ lwa := chk_in wc_76 13 rfl
theorem cd_X11_specialFed : Cond.code yX11_specialFed cX11_specialFed 3 (some .int) ∈ lwa := chk_in wc_76 14 rfl
theorem ml_X11_474 : Cond.methodLink RX11 474 yX11_eaten ∈ lwa := chk_in wc_76 15 rfl
theorem im_X11_eaten : Cond.instanceMethod yX11_eaten ∈ lwa := chk_in wc_76 16 rfl
theorem cd_X11_eaten : Cond.code yX11_eaten cX11_eaten 1 (some .int) ∈ lwa := chk_in wc_76 17 rfl
theorem ml_X11_465 : Cond.methodLink RX11 465 yX11_eatenOf ∈ lwa := chk_in wc_76 18 rfl
theorem im_X11_eatenOf : Cond.instanceMethod yX11_eatenOf ∈ lwa := chk_in wc_76 19 rfl
def wl_77 : List (Nat × Cond) := [(2163, Cond.code yX11_eatenOf cX11_eatenOf 4 (some .int)), (0, Cond.methodLink RX11 477 yX11_wastedCost), (1, Cond.instanceMethod yX11_wastedCost), (0, Cond.code yX11_wastedCost cX11_wastedCost 3 (some .int)), (0, Cond.methodLink RX11 480 yX11_wishes), (1, Cond.instanceMethod yX11_wishes), (0, Cond.code yX11_wishes cX11_wishes 3 (some .int)), (0, Cond.methodLink RL 189 yX11_mealFor), (0, Cond.instanceMethod yX11_mealFor), (0, Cond.selects RX11 yX11_mealFor yX11_mealFor), (0, Cond.code yX11_mealFor cX11_mealFor 2 (some .int)), (0, Cond.methodLink RL 192 yX11_serve), (0, Cond.instanceMethod yX11_serve), (0, Cond.selects RX11 yX11_serve yX11_serve), (0, Cond.code yX11_serve cX11_serve 4 (some .int)), (0, Cond.methodLink RL 195 yX11_account), (0, Cond.instanceMethod yX11_account), (0, Cond.selects RX11 yX11_account yX11_account), (0, Cond.code yX11_account cX11_account 2 (some .long)), (0, Cond.methodLink RL 200 yX11_wasteShare)]
set_option maxRecDepth 50000 in
theorem wc_77 : chk wl_77 lw_tbl = true := by decide +kernel
theorem cd_X11_eatenOf : Cond.code yX11_eatenOf cX11_eatenOf 4 (some .int) ∈ lwa := chk_in wc_77 0 rfl
theorem ml_X11_477 : Cond.methodLink RX11 477 yX11_wastedCost ∈ lwa := chk_in wc_77 1 rfl
theorem im_X11_wastedCost : Cond.instanceMethod yX11_wastedCost ∈ lwa := chk_in wc_77 2 rfl
theorem cd_X11_wastedCost : Cond.code yX11_wastedCost cX11_wastedCost 3 (some .int) ∈ lwa := chk_in wc_77 3 rfl
theorem ml_X11_480 : Cond.methodLink RX11 480 yX11_wishes ∈ lwa := chk_in wc_77 4 rfl
theorem im_X11_wishes : Cond.instanceMethod yX11_wishes ∈ lwa := chk_in wc_77 5 rfl
theorem cd_X11_wishes : Cond.code yX11_wishes cX11_wishes 3 (some .int) ∈ lwa := chk_in wc_77 6 rfl
theorem ml_L_189 : Cond.methodLink RL 189 yX11_mealFor ∈ lwa := chk_in wc_77 7 rfl
theorem im_X11_mealFor : Cond.instanceMethod yX11_mealFor ∈ lwa := chk_in wc_77 8 rfl
theorem se_X11_mealFor : Cond.selects RX11 yX11_mealFor yX11_mealFor ∈ lwa := chk_in wc_77 9 rfl
theorem cd_X11_mealFor : Cond.code yX11_mealFor cX11_mealFor 2 (some .int) ∈ lwa := chk_in wc_77 10 rfl
theorem ml_L_192 : Cond.methodLink RL 192 yX11_serve ∈ lwa := chk_in wc_77 11 rfl
theorem im_X11_serve : Cond.instanceMethod yX11_serve ∈ lwa := chk_in wc_77 12 rfl
theorem se_X11_serve : Cond.selects RX11 yX11_serve yX11_serve ∈ lwa := chk_in wc_77 13 rfl
theorem cd_X11_serve : Cond.code yX11_serve cX11_serve 4 (some .int) ∈ lwa := chk_in wc_77 14 rfl
theorem ml_L_195 : Cond.methodLink RL 195 yX11_account ∈ lwa := chk_in wc_77 15 rfl
theorem im_X11_account : Cond.instanceMethod yX11_account ∈ lwa := chk_in wc_77 16 rfl
theorem se_X11_account : Cond.selects RX11 yX11_account yX11_account ∈ lwa := chk_in wc_77 17 rfl
theorem cd_X11_account : Cond.code yX11_account cX11_account 2 (some .long) ∈ lwa := chk_in wc_77 18 rfl
theorem ml_L_200 : Cond.methodLink RL 200 yX11_wasteShare ∈ lwa := chk_in wc_77 19 rfl
def wl_78 : List (Nat × Cond) := [(2185, Cond.instanceMethod yX11_wasteShare), (0, Cond.selects RX11 yX11_wasteShare yX11_wasteShare), (0, Cond.code yX11_wasteShare cX11_wasteShare 1 (some .float)), (0, Cond.methodLink RX11 483 yX11_shareNow), (1, Cond.instanceMethod yX11_shareNow), (0, Cond.code yX11_shareNow cX11_shareNow 1 (some .float)), (0, Cond.methodLink RL 204 yX11_wasteBits), (0, Cond.instanceMethod yX11_wasteBits), (0, Cond.selects RX11 yX11_wasteBits yX11_wasteBits), (0, Cond.code yX11_wasteBits cX11_wasteBits 1 (some .int)), (0, Cond.methodLink RX11 487 yJxf58ca_floatToIntBits_5c35a), (1, Cond.code yJxf58ca_floatToIntBits_5c35a cJxf58ca_floatToIntBits_5c35a 1 (some .int)), (2, Cond.code yJxf58ca_isNaN_12338 cJxf58ca_isNaN_12338 1 (some .boolean)), (4, Cond.methodLink RL 209 yX11_costBits), (0, Cond.instanceMethod yX11_costBits), (0, Cond.selects RX11 yX11_costBits yX11_costBits), (0, Cond.code yX11_costBits cX11_costBits 1 (some .long)), (0, Cond.methodLink RX11 493 yJxe99ae_doubleToLongBits_ccdee), (0, Cond.static yJxe99ae_doubleToLongBits_ccdee), (0, Cond.code yJxe99ae_doubleToLongBits_ccdee cJxe99ae_doubleToLongBits_ccdee 2 (some .long))]
set_option maxRecDepth 50000 in
theorem wc_78 : chk wl_78 lw_tbl = true := by decide +kernel
theorem im_X11_wasteShare : Cond.instanceMethod yX11_wasteShare ∈ lwa := chk_in wc_78 0 rfl
theorem se_X11_wasteShare : Cond.selects RX11 yX11_wasteShare yX11_wasteShare ∈ lwa := chk_in wc_78 1 rfl
theorem cd_X11_wasteShare : Cond.code yX11_wasteShare cX11_wasteShare 1 (some .float) ∈ lwa := chk_in wc_78 2 rfl
theorem ml_X11_483 : Cond.methodLink RX11 483 yX11_shareNow ∈ lwa := chk_in wc_78 3 rfl
theorem im_X11_shareNow : Cond.instanceMethod yX11_shareNow ∈ lwa := chk_in wc_78 4 rfl
theorem cd_X11_shareNow : Cond.code yX11_shareNow cX11_shareNow 1 (some .float) ∈ lwa := chk_in wc_78 5 rfl
theorem ml_L_204 : Cond.methodLink RL 204 yX11_wasteBits ∈ lwa := chk_in wc_78 6 rfl
theorem im_X11_wasteBits : Cond.instanceMethod yX11_wasteBits ∈ lwa := chk_in wc_78 7 rfl
theorem se_X11_wasteBits : Cond.selects RX11 yX11_wasteBits yX11_wasteBits ∈ lwa := chk_in wc_78 8 rfl
theorem cd_X11_wasteBits : Cond.code yX11_wasteBits cX11_wasteBits 1 (some .int) ∈ lwa := chk_in wc_78 9 rfl
theorem ml_X11_487 : Cond.methodLink RX11 487 yJxf58ca_floatToIntBits_5c35a ∈ lwa := chk_in wc_78 10 rfl
theorem cd_Jxf58ca_floatToIntBits_5c35a : Cond.code yJxf58ca_floatToIntBits_5c35a cJxf58ca_floatToIntBits_5c35a 1 (some .int) ∈ lwa := chk_in wc_78 11 rfl
theorem cd_Jxf58ca_isNaN_12338 : Cond.code yJxf58ca_isNaN_12338 cJxf58ca_isNaN_12338 1 (some .boolean) ∈ lwa := chk_in wc_78 12 rfl
theorem ml_L_209 : Cond.methodLink RL 209 yX11_costBits ∈ lwa := chk_in wc_78 13 rfl
theorem im_X11_costBits : Cond.instanceMethod yX11_costBits ∈ lwa := chk_in wc_78 14 rfl
theorem se_X11_costBits : Cond.selects RX11 yX11_costBits yX11_costBits ∈ lwa := chk_in wc_78 15 rfl
theorem cd_X11_costBits : Cond.code yX11_costBits cX11_costBits 1 (some .long) ∈ lwa := chk_in wc_78 16 rfl
theorem ml_X11_493 : Cond.methodLink RX11 493 yJxe99ae_doubleToLongBits_ccdee ∈ lwa := chk_in wc_78 17 rfl
theorem sm_Jxe99ae_doubleToLongBits_ccdee : Cond.static yJxe99ae_doubleToLongBits_ccdee ∈ lwa := chk_in wc_78 18 rfl
theorem cd_Jxe99ae_doubleToLongBits_ccdee : Cond.code yJxe99ae_doubleToLongBits_ccdee cJxe99ae_doubleToLongBits_ccdee 2 (some .long) ∈ lwa := chk_in wc_78 19 rfl
def wl_79 : List (Nat × Cond) := [(2214, Cond.static yJxe99ae_isNaN_b9ae7), (0, Cond.code yJxe99ae_isNaN_b9ae7 cJxe99ae_isNaN_b9ae7 2 (some .boolean)), (4, Cond.methodLink RL 221 yX11_writeTrolley), (0, Cond.instanceMethod yX11_writeTrolley), (0, Cond.selects RX11 yX11_writeTrolley yX11_writeTrolley), (0, Cond.code yX11_writeTrolley cX11_writeTrolley 4 (some .int)), (0, Cond.methodLink RX11 502 yX11_says), (1, Cond.instanceMethod yX11_says), (0, Cond.code yX11_says cX11_says 2 none), (0, Cond.methodLink RX11 507 yX11_saysNumber), (1, Cond.instanceMethod yX11_saysNumber), (0, Cond.code yX11_saysNumber cX11_saysNumber 2 none), (0, Cond.methodLink RX11 510 yX11_saysName), (1, Cond.instanceMethod yX11_saysName), (0, Cond.code yX11_saysName cX11_saysName 5 none), (1, Cond.methodLink RL 224 yX11_outputByte), (0, Cond.instanceMethod yX11_outputByte), (0, Cond.selects RX11 yX11_outputByte yX11_outputByte), (0, Cond.code yX11_outputByte cX11_outputByte 2 (some .int))]
set_option maxRecDepth 50000 in
theorem wc_79 : chk wl_79 lw_tbl = true := by decide +kernel
theorem sm_Jxe99ae_isNaN_b9ae7 : Cond.static yJxe99ae_isNaN_b9ae7 ∈ lwa := chk_in wc_79 0 rfl
theorem cd_Jxe99ae_isNaN_b9ae7 : Cond.code yJxe99ae_isNaN_b9ae7 cJxe99ae_isNaN_b9ae7 2 (some .boolean) ∈ lwa := chk_in wc_79 1 rfl
theorem ml_L_221 : Cond.methodLink RL 221 yX11_writeTrolley ∈ lwa := chk_in wc_79 2 rfl
theorem im_X11_writeTrolley : Cond.instanceMethod yX11_writeTrolley ∈ lwa := chk_in wc_79 3 rfl
theorem se_X11_writeTrolley : Cond.selects RX11 yX11_writeTrolley yX11_writeTrolley ∈ lwa := chk_in wc_79 4 rfl
theorem cd_X11_writeTrolley : Cond.code yX11_writeTrolley cX11_writeTrolley 4 (some .int) ∈ lwa := chk_in wc_79 5 rfl
theorem ml_X11_502 : Cond.methodLink RX11 502 yX11_says ∈ lwa := chk_in wc_79 6 rfl
theorem im_X11_says : Cond.instanceMethod yX11_says ∈ lwa := chk_in wc_79 7 rfl
theorem cd_X11_says : Cond.code yX11_says cX11_says 2 none ∈ lwa := chk_in wc_79 8 rfl
theorem ml_X11_507 : Cond.methodLink RX11 507 yX11_saysNumber ∈ lwa := chk_in wc_79 9 rfl
theorem im_X11_saysNumber : Cond.instanceMethod yX11_saysNumber ∈ lwa := chk_in wc_79 10 rfl
theorem cd_X11_saysNumber : Cond.code yX11_saysNumber cX11_saysNumber 2 none ∈ lwa := chk_in wc_79 11 rfl
theorem ml_X11_510 : Cond.methodLink RX11 510 yX11_saysName ∈ lwa := chk_in wc_79 12 rfl
theorem im_X11_saysName : Cond.instanceMethod yX11_saysName ∈ lwa := chk_in wc_79 13 rfl
theorem cd_X11_saysName : Cond.code yX11_saysName cX11_saysName 5 none ∈ lwa := chk_in wc_79 14 rfl
theorem ml_L_224 : Cond.methodLink RL 224 yX11_outputByte ∈ lwa := chk_in wc_79 15 rfl
theorem im_X11_outputByte : Cond.instanceMethod yX11_outputByte ∈ lwa := chk_in wc_79 16 rfl
theorem se_X11_outputByte : Cond.selects RX11 yX11_outputByte yX11_outputByte ∈ lwa := chk_in wc_79 17 rfl
theorem cd_X11_outputByte : Cond.code yX11_outputByte cX11_outputByte 2 (some .int) ∈ lwa := chk_in wc_79 18 rfl
theorem uw_J0 : ∀ w ∈ u_ws RJ0 TJ0 4, w ∈ lwa := by
  intro w hw
  obtain ⟨k, hk, rfl⟩ := List.mem_map.mp hw
  have hk := List.mem_range.mp hk
  rcases (by omega : k = 0 ∨ k = 1 ∨ k = 2 ∨ k = 3) with rfl | rfl | rfl | rfl
  · exact ul_J0_0
  · exact ul_J0_1
  · exact ul_J0_2
  · exact ul_J0_3
theorem cls_J0 : ClsOK 0 RJ0 TJ0 4 tyJ0 := ⟨rfl, rfl, uw_J0, tyJ0_ok, nmJ0, by decide +kernel, by decide +kernel, by decide⟩
theorem uw_X0 : ∀ w ∈ u_ws RX0 TX0 3, w ∈ lwa := by
  intro w hw
  obtain ⟨k, hk, rfl⟩ := List.mem_map.mp hw
  have hk := List.mem_range.mp hk
  rcases (by omega : k = 0 ∨ k = 1 ∨ k = 2) with rfl | rfl | rfl
  · exact ul_X0_0
  · exact ul_X0_1
  · exact ul_X0_2
theorem cls_X0 : ClsOK 1 RX0 TX0 3 tyX0 := ⟨rfl, rfl, uw_X0, tyX0_ok, nmX0, by decide +kernel, by decide +kernel, by decide⟩
theorem uw_X1 : ∀ w ∈ u_ws RX1 TX1 13, w ∈ lwa := by
  intro w hw
  obtain ⟨k, hk, rfl⟩ := List.mem_map.mp hw
  have hk := List.mem_range.mp hk
  rcases (by omega : k = 0 ∨ k = 1 ∨ k = 2 ∨ k = 3 ∨ k = 4 ∨ k = 5 ∨ k = 6 ∨ k = 7 ∨ k = 8 ∨ k = 9 ∨ k = 10 ∨ k = 11 ∨ k = 12) with rfl | rfl | rfl | rfl | rfl | rfl | rfl | rfl | rfl | rfl | rfl | rfl | rfl
  · exact ul_X1_0
  · exact ul_X1_1
  · exact ul_X1_2
  · exact ul_X1_3
  · exact ul_X1_4
  · exact ul_X1_5
  · exact ul_X1_6
  · exact ul_X1_7
  · exact ul_X1_8
  · exact ul_X1_9
  · exact ul_X1_10
  · exact ul_X1_11
  · exact ul_X1_12
theorem cls_X1 : ClsOK 2 RX1 TX1 13 tyX1 := ⟨rfl, rfl, uw_X1, tyX1_ok, nmX1, by decide +kernel, by decide +kernel, by decide⟩
theorem uw_X2 : ∀ w ∈ u_ws RX2 TX2 5, w ∈ lwa := by
  intro w hw
  obtain ⟨k, hk, rfl⟩ := List.mem_map.mp hw
  have hk := List.mem_range.mp hk
  rcases (by omega : k = 0 ∨ k = 1 ∨ k = 2 ∨ k = 3 ∨ k = 4) with rfl | rfl | rfl | rfl | rfl
  · exact ul_X2_0
  · exact ul_X2_1
  · exact ul_X2_2
  · exact ul_X2_3
  · exact ul_X2_4
theorem cls_X2 : ClsOK 3 RX2 TX2 5 tyX2 := ⟨rfl, rfl, uw_X2, tyX2_ok, nmX2, by decide +kernel, by decide +kernel, by decide⟩
theorem uw_X3 : ∀ w ∈ u_ws RX3 TX3 3, w ∈ lwa := by
  intro w hw
  obtain ⟨k, hk, rfl⟩ := List.mem_map.mp hw
  have hk := List.mem_range.mp hk
  rcases (by omega : k = 0 ∨ k = 1 ∨ k = 2) with rfl | rfl | rfl
  · exact ul_X3_0
  · exact ul_X3_1
  · exact ul_X3_2
theorem cls_X3 : ClsOK 4 RX3 TX3 3 tyX3 := ⟨rfl, rfl, uw_X3, tyX3_ok, nmX3, by decide +kernel, by decide +kernel, by decide⟩
theorem uw_X4 : ∀ w ∈ u_ws RX4 TX4 10, w ∈ lwa := by
  intro w hw
  obtain ⟨k, hk, rfl⟩ := List.mem_map.mp hw
  have hk := List.mem_range.mp hk
  rcases (by omega : k = 0 ∨ k = 1 ∨ k = 2 ∨ k = 3 ∨ k = 4 ∨ k = 5 ∨ k = 6 ∨ k = 7 ∨ k = 8 ∨ k = 9) with rfl | rfl | rfl | rfl | rfl | rfl | rfl | rfl | rfl | rfl
  · exact ul_X4_0
  · exact ul_X4_1
  · exact ul_X4_2
  · exact ul_X4_3
  · exact ul_X4_4
  · exact ul_X4_5
  · exact ul_X4_6
  · exact ul_X4_7
  · exact ul_X4_8
  · exact ul_X4_9
theorem cls_X4 : ClsOK 5 RX4 TX4 10 tyX4 := ⟨rfl, rfl, uw_X4, tyX4_ok, nmX4, by decide +kernel, by decide +kernel, by decide⟩
theorem uw_X5 : ∀ w ∈ u_ws RX5 TX5 6, w ∈ lwa := by
  intro w hw
  obtain ⟨k, hk, rfl⟩ := List.mem_map.mp hw
  have hk := List.mem_range.mp hk
  rcases (by omega : k = 0 ∨ k = 1 ∨ k = 2 ∨ k = 3 ∨ k = 4 ∨ k = 5) with rfl | rfl | rfl | rfl | rfl | rfl
  · exact ul_X5_0
  · exact ul_X5_1
  · exact ul_X5_2
  · exact ul_X5_3
  · exact ul_X5_4
  · exact ul_X5_5
theorem cls_X5 : ClsOK 6 RX5 TX5 6 tyX5 := ⟨rfl, rfl, uw_X5, tyX5_ok, nmX5, by decide +kernel, by decide +kernel, by decide⟩
theorem uw_X6 : ∀ w ∈ u_ws RX6 TX6 2, w ∈ lwa := by
  intro w hw
  obtain ⟨k, hk, rfl⟩ := List.mem_map.mp hw
  have hk := List.mem_range.mp hk
  rcases (by omega : k = 0 ∨ k = 1) with rfl | rfl
  · exact ul_X6_0
  · exact ul_X6_1
theorem cls_X6 : ClsOK 7 RX6 TX6 2 tyX6 := ⟨rfl, rfl, uw_X6, tyX6_ok, nmX6, by decide +kernel, by decide +kernel, by decide⟩
theorem uw_X7 : ∀ w ∈ u_ws RX7 TX7 11, w ∈ lwa := by
  intro w hw
  obtain ⟨k, hk, rfl⟩ := List.mem_map.mp hw
  have hk := List.mem_range.mp hk
  rcases (by omega : k = 0 ∨ k = 1 ∨ k = 2 ∨ k = 3 ∨ k = 4 ∨ k = 5 ∨ k = 6 ∨ k = 7 ∨ k = 8 ∨ k = 9 ∨ k = 10) with rfl | rfl | rfl | rfl | rfl | rfl | rfl | rfl | rfl | rfl | rfl
  · exact ul_X7_0
  · exact ul_X7_1
  · exact ul_X7_2
  · exact ul_X7_3
  · exact ul_X7_4
  · exact ul_X7_5
  · exact ul_X7_6
  · exact ul_X7_7
  · exact ul_X7_8
  · exact ul_X7_9
  · exact ul_X7_10
theorem cls_X7 : ClsOK 8 RX7 TX7 11 tyX7 := ⟨rfl, rfl, uw_X7, tyX7_ok, nmX7, by decide +kernel, by decide +kernel, by decide⟩
theorem uw_X8 : ∀ w ∈ u_ws RX8 TX8 8, w ∈ lwa := by
  intro w hw
  obtain ⟨k, hk, rfl⟩ := List.mem_map.mp hw
  have hk := List.mem_range.mp hk
  rcases (by omega : k = 0 ∨ k = 1 ∨ k = 2 ∨ k = 3 ∨ k = 4 ∨ k = 5 ∨ k = 6 ∨ k = 7) with rfl | rfl | rfl | rfl | rfl | rfl | rfl | rfl
  · exact ul_X8_0
  · exact ul_X8_1
  · exact ul_X8_2
  · exact ul_X8_3
  · exact ul_X8_4
  · exact ul_X8_5
  · exact ul_X8_6
  · exact ul_X8_7
theorem cls_X8 : ClsOK 9 RX8 TX8 8 tyX8 := ⟨rfl, rfl, uw_X8, tyX8_ok, nmX8, by decide +kernel, by decide +kernel, by decide⟩
theorem uw_X9 : ∀ w ∈ u_ws RX9 TX9 6, w ∈ lwa := by
  intro w hw
  obtain ⟨k, hk, rfl⟩ := List.mem_map.mp hw
  have hk := List.mem_range.mp hk
  rcases (by omega : k = 0 ∨ k = 1 ∨ k = 2 ∨ k = 3 ∨ k = 4 ∨ k = 5) with rfl | rfl | rfl | rfl | rfl | rfl
  · exact ul_X9_0
  · exact ul_X9_1
  · exact ul_X9_2
  · exact ul_X9_3
  · exact ul_X9_4
  · exact ul_X9_5
theorem cls_X9 : ClsOK 10 RX9 TX9 6 tyX9 := ⟨rfl, rfl, uw_X9, tyX9_ok, nmX9, by decide +kernel, by decide +kernel, by decide⟩
theorem uw_X10 : ∀ w ∈ u_ws RX10 TX10 18, w ∈ lwa := by
  intro w hw
  obtain ⟨k, hk, rfl⟩ := List.mem_map.mp hw
  have hk := List.mem_range.mp hk
  rcases (by omega : k = 0 ∨ k = 1 ∨ k = 2 ∨ k = 3 ∨ k = 4 ∨ k = 5 ∨ k = 6 ∨ k = 7 ∨ k = 8 ∨ k = 9 ∨ k = 10 ∨ k = 11 ∨ k = 12 ∨ k = 13 ∨ k = 14 ∨ k = 15 ∨ k = 16 ∨ k = 17) with rfl | rfl | rfl | rfl | rfl | rfl | rfl | rfl | rfl | rfl | rfl | rfl | rfl | rfl | rfl | rfl | rfl | rfl
  · exact ul_X10_0
  · exact ul_X10_1
  · exact ul_X10_2
  · exact ul_X10_3
  · exact ul_X10_4
  · exact ul_X10_5
  · exact ul_X10_6
  · exact ul_X10_7
  · exact ul_X10_8
  · exact ul_X10_9
  · exact ul_X10_10
  · exact ul_X10_11
  · exact ul_X10_12
  · exact ul_X10_13
  · exact ul_X10_14
  · exact ul_X10_15
  · exact ul_X10_16
  · exact ul_X10_17
theorem cls_X10 : ClsOK 11 RX10 TX10 18 tyX10 := ⟨rfl, rfl, uw_X10, tyX10_ok, nmX10, by decide +kernel, by decide +kernel, by decide⟩
theorem uw_X11 : ∀ w ∈ u_ws RX11 TX11 39, w ∈ lwa := by
  intro w hw
  obtain ⟨k, hk, rfl⟩ := List.mem_map.mp hw
  have hk := List.mem_range.mp hk
  rcases (by omega : k = 0 ∨ k = 1 ∨ k = 2 ∨ k = 3 ∨ k = 4 ∨ k = 5 ∨ k = 6 ∨ k = 7 ∨ k = 8 ∨ k = 9 ∨ k = 10 ∨ k = 11 ∨ k = 12 ∨ k = 13 ∨ k = 14 ∨ k = 15 ∨ k = 16 ∨ k = 17 ∨ k = 18 ∨ k = 19 ∨ k = 20 ∨ k = 21 ∨ k = 22 ∨ k = 23 ∨ k = 24 ∨ k = 25 ∨ k = 26 ∨ k = 27 ∨ k = 28 ∨ k = 29 ∨ k = 30 ∨ k = 31 ∨ k = 32 ∨ k = 33 ∨ k = 34 ∨ k = 35 ∨ k = 36 ∨ k = 37 ∨ k = 38) with rfl | rfl | rfl | rfl | rfl | rfl | rfl | rfl | rfl | rfl | rfl | rfl | rfl | rfl | rfl | rfl | rfl | rfl | rfl | rfl | rfl | rfl | rfl | rfl | rfl | rfl | rfl | rfl | rfl | rfl | rfl | rfl | rfl | rfl | rfl | rfl | rfl | rfl | rfl
  · exact ul_X11_0
  · exact ul_X11_1
  · exact ul_X11_2
  · exact ul_X11_3
  · exact ul_X11_4
  · exact ul_X11_5
  · exact ul_X11_6
  · exact ul_X11_7
  · exact ul_X11_8
  · exact ul_X11_9
  · exact ul_X11_10
  · exact ul_X11_11
  · exact ul_X11_12
  · exact ul_X11_13
  · exact ul_X11_14
  · exact ul_X11_15
  · exact ul_X11_16
  · exact ul_X11_17
  · exact ul_X11_18
  · exact ul_X11_19
  · exact ul_X11_20
  · exact ul_X11_21
  · exact ul_X11_22
  · exact ul_X11_23
  · exact ul_X11_24
  · exact ul_X11_25
  · exact ul_X11_26
  · exact ul_X11_27
  · exact ul_X11_28
  · exact ul_X11_29
  · exact ul_X11_30
  · exact ul_X11_31
  · exact ul_X11_32
  · exact ul_X11_33
  · exact ul_X11_34
  · exact ul_X11_35
  · exact ul_X11_36
  · exact ul_X11_37
  · exact ul_X11_38
theorem cls_X11 : ClsOK 12 RX11 TX11 39 tyX11 := ⟨rfl, rfl, uw_X11, tyX11_ok, nmX11, by decide +kernel, by decide +kernel, by decide⟩
theorem fs_X0_9 : FSite RX0 9 1 0 (.object "java/lang/String") false := ⟨_, _, _, _, cls_X0, by decide, fl_X0_9, rfl, rfl⟩
theorem fs_X1_9 : FSite RX1 9 2 0 (.object "MealLoader$Plan") false := ⟨_, _, _, _, cls_X1, by decide, fl_X1_9, rfl, rfl⟩
theorem fs_X1_15 : FSite RX1 15 2 4 (.array .int) true := ⟨_, _, _, _, cls_X1, by decide, fl_X1_15, rfl, rfl⟩
theorem fs_X1_19 : FSite RX1 19 2 5 (.array .int) true := ⟨_, _, _, _, cls_X1, by decide, fl_X1_19, rfl, rfl⟩
theorem fs_X1_22 : FSite RX1 22 2 6 (.array .int) true := ⟨_, _, _, _, cls_X1, by decide, fl_X1_22, rfl, rfl⟩
theorem fs_X1_27 : FSite RX1 27 2 7 (.array (.array .int)) true := ⟨_, _, _, _, cls_X1, by decide, fl_X1_27, rfl, rfl⟩
theorem fs_X1_30 : FSite RX1 30 2 9 (.array .int) true := ⟨_, _, _, _, cls_X1, by decide, fl_X1_30, rfl, rfl⟩
theorem fs_X1_33 : FSite RX1 33 2 10 (.array .int) true := ⟨_, _, _, _, cls_X1, by decide, fl_X1_33, rfl, rfl⟩
theorem fs_X1_36 : FSite RX1 36 2 11 (.array .int) true := ⟨_, _, _, _, cls_X1, by decide, fl_X1_36, rfl, rfl⟩
theorem fs_X1_39 : FSite RX1 39 2 12 (.array .long) true := ⟨_, _, _, _, cls_X1, by decide, fl_X1_39, rfl, rfl⟩
theorem fs_X1_43 : FSite RX1 43 2 1 (.boolean) false := ⟨_, _, _, _, cls_X1, by decide, fl_X1_43, rfl, rfl⟩
theorem fs_X1_47 : FSite RX1 47 2 3 (.int) false := ⟨_, _, _, _, cls_X1, by decide, fl_X1_47, rfl, rfl⟩
theorem fs_X1_51 : FSite RX1 51 2 8 (.int) false := ⟨_, _, _, _, cls_X1, by decide, fl_X1_51, rfl, rfl⟩
theorem fs_X1_60 : FSite RX1 60 2 2 (.int) false := ⟨_, _, _, _, cls_X1, by decide, fl_X1_60, rfl, rfl⟩
theorem fs_X1_73 : FSite RX1 73 8 0 (.boolean) false := ⟨_, _, _, _, cls_X7, by decide, fl_X1_73, rfl, rfl⟩
theorem fs_X1_78 : FSite RX1 78 8 9 (.int) false := ⟨_, _, _, _, cls_X7, by decide, fl_X1_78, rfl, rfl⟩
theorem fs_X1_81 : FSite RX1 81 8 2 (.array (.object "MealLoader$Cabin")) true := ⟨_, _, _, _, cls_X7, by decide, fl_X1_81, rfl, rfl⟩
theorem fs_X1_85 : FSite RX1 85 1 1 (.int) false := ⟨_, _, _, _, cls_X0, by decide, fl_X1_85, rfl, rfl⟩
theorem fs_X1_103 : FSite RX1 103 8 7 (.array .int) true := ⟨_, _, _, _, cls_X7, by decide, fl_X1_103, rfl, rfl⟩
theorem fs_X1_106 : FSite RX1 106 8 3 (.int) false := ⟨_, _, _, _, cls_X7, by decide, fl_X1_106, rfl, rfl⟩
theorem fs_X1_109 : FSite RX1 109 8 4 (.array (.object "MealLoader$Meal")) true := ⟨_, _, _, _, cls_X7, by decide, fl_X1_109, rfl, rfl⟩
theorem fs_X1_113 : FSite RX1 113 6 3 (.int) false := ⟨_, _, _, _, cls_X5, by decide, fl_X1_113, rfl, rfl⟩
theorem fs_X1_118 : FSite RX1 118 8 5 (.int) false := ⟨_, _, _, _, cls_X7, by decide, fl_X1_118, rfl, rfl⟩
theorem fs_X1_121 : FSite RX1 121 8 6 (.array .int) true := ⟨_, _, _, _, cls_X7, by decide, fl_X1_121, rfl, rfl⟩
theorem fs_X1_148 : FSite RX1 148 8 10 (.int) false := ⟨_, _, _, _, cls_X7, by decide, fl_X1_148, rfl, rfl⟩
theorem fs_X10_9 : FSite RX10 9 11 0 (.array .byte) true := ⟨_, _, _, _, cls_X10, by decide, fl_X10_9, rfl, rfl⟩
theorem fs_X10_13 : FSite RX10 13 11 2 (.array .byte) true := ⟨_, _, _, _, cls_X10, by decide, fl_X10_13, rfl, rfl⟩
theorem fs_X10_16 : FSite RX10 16 11 5 (.int) false := ⟨_, _, _, _, cls_X10, by decide, fl_X10_16, rfl, rfl⟩
theorem fs_X10_28 : FSite RX10 28 11 7 (.object "MealLoader$Flight") true := ⟨_, _, _, _, cls_X10, by decide, fl_X10_28, rfl, rfl⟩
theorem fs_X10_32 : FSite RX10 32 11 8 (.object "MealLoader$Flight") true := ⟨_, _, _, _, cls_X10, by decide, fl_X10_32, rfl, rfl⟩
theorem fs_X10_35 : FSite RX10 35 11 9 (.object "MealLoader$Plan") false := ⟨_, _, _, _, cls_X10, by decide, fl_X10_35, rfl, rfl⟩
theorem fs_X10_42 : FSite RX10 42 11 10 (.object "MealLoader$FlightText") true := ⟨_, _, _, _, cls_X10, by decide, fl_X10_42, rfl, rfl⟩
theorem fs_X10_49 : FSite RX10 49 11 11 (.object "MealLoader$History") true := ⟨_, _, _, _, cls_X10, by decide, fl_X10_49, rfl, rfl⟩
theorem fs_X10_53 : FSite RX10 53 11 12 (.array (.object "MealLoader$Flight")) true := ⟨_, _, _, _, cls_X10, by decide, fl_X10_53, rfl, rfl⟩
theorem fs_X10_57 : FSite RX10 57 11 13 (.array .boolean) true := ⟨_, _, _, _, cls_X10, by decide, fl_X10_57, rfl, rfl⟩
theorem fs_X10_64 : FSite RX10 64 11 14 (.object "MealLoader$Order") true := ⟨_, _, _, _, cls_X10, by decide, fl_X10_64, rfl, rfl⟩
theorem fs_X10_71 : FSite RX10 71 11 15 (.object "MealLoader$Matching") true := ⟨_, _, _, _, cls_X10, by decide, fl_X10_71, rfl, rfl⟩
theorem fs_X10_78 : FSite RX10 78 11 16 (.object "MealLoader$Service") true := ⟨_, _, _, _, cls_X10, by decide, fl_X10_78, rfl, rfl⟩
theorem fs_X10_82 : FSite RX10 82 11 1 (.int) false := ⟨_, _, _, _, cls_X10, by decide, fl_X10_82, rfl, rfl⟩
theorem fs_X10_105 : FSite RX10 105 3 3 (.int) false := ⟨_, _, _, _, cls_X2, by decide, fl_X10_105, rfl, rfl⟩
theorem fs_X10_108 : FSite RX10 108 11 4 (.int) false := ⟨_, _, _, _, cls_X10, by decide, fl_X10_108, rfl, rfl⟩
theorem fs_X10_111 : FSite RX10 111 3 4 (.int) false := ⟨_, _, _, _, cls_X2, by decide, fl_X10_111, rfl, rfl⟩
theorem fs_X10_116 : FSite RX10 116 2 0 (.object "MealLoader$Plan") false := ⟨_, _, _, _, cls_X1, by decide, fl_X10_116, rfl, rfl⟩
theorem fs_X10_129 : FSite RX10 129 11 6 (.int) false := ⟨_, _, _, _, cls_X10, by decide, fl_X10_129, rfl, rfl⟩
theorem fs_X10_132 : FSite RX10 132 2 3 (.int) false := ⟨_, _, _, _, cls_X1, by decide, fl_X10_132, rfl, rfl⟩
theorem fs_X10_139 : FSite RX10 139 8 1 (.int) false := ⟨_, _, _, _, cls_X7, by decide, fl_X10_139, rfl, rfl⟩
theorem fs_X10_142 : FSite RX10 142 8 3 (.int) false := ⟨_, _, _, _, cls_X7, by decide, fl_X10_142, rfl, rfl⟩
theorem fs_X10_145 : FSite RX10 145 8 5 (.int) false := ⟨_, _, _, _, cls_X7, by decide, fl_X10_145, rfl, rfl⟩
theorem fs_X10_148 : FSite RX10 148 2 2 (.int) false := ⟨_, _, _, _, cls_X1, by decide, fl_X10_148, rfl, rfl⟩
theorem fs_X10_151 : FSite RX10 151 2 8 (.int) false := ⟨_, _, _, _, cls_X1, by decide, fl_X10_151, rfl, rfl⟩
theorem fs_X10_164 : FSite RX10 164 4 2 (.int) false := ⟨_, _, _, _, cls_X3, by decide, fl_X10_164, rfl, rfl⟩
theorem fs_X10_167 : FSite RX10 167 8 9 (.int) false := ⟨_, _, _, _, cls_X7, by decide, fl_X10_167, rfl, rfl⟩
theorem fs_X10_170 : FSite RX10 170 8 10 (.int) false := ⟨_, _, _, _, cls_X7, by decide, fl_X10_170, rfl, rfl⟩
theorem fs_X10_178 : FSite RX10 178 8 2 (.array (.object "MealLoader$Cabin")) true := ⟨_, _, _, _, cls_X7, by decide, fl_X10_178, rfl, rfl⟩
theorem fs_X10_182 : FSite RX10 182 1 1 (.int) false := ⟨_, _, _, _, cls_X0, by decide, fl_X10_182, rfl, rfl⟩
theorem fs_X10_187 : FSite RX10 187 1 2 (.int) false := ⟨_, _, _, _, cls_X0, by decide, fl_X10_187, rfl, rfl⟩
theorem fs_X10_215 : FSite RX10 215 8 4 (.array (.object "MealLoader$Meal")) true := ⟨_, _, _, _, cls_X7, by decide, fl_X10_215, rfl, rfl⟩
theorem fs_X10_219 : FSite RX10 219 6 1 (.int) false := ⟨_, _, _, _, cls_X5, by decide, fl_X10_219, rfl, rfl⟩
theorem fs_X10_223 : FSite RX10 223 6 2 (.int) false := ⟨_, _, _, _, cls_X5, by decide, fl_X10_223, rfl, rfl⟩
theorem fs_X10_226 : FSite RX10 226 6 3 (.int) false := ⟨_, _, _, _, cls_X5, by decide, fl_X10_226, rfl, rfl⟩
theorem fs_X10_227 : FSite RX10 227 6 4 (.int) false := ⟨_, _, _, _, cls_X5, by decide, fl_X10_227, rfl, rfl⟩
theorem fs_X10_230 : FSite RX10 230 6 5 (.int) false := ⟨_, _, _, _, cls_X5, by decide, fl_X10_230, rfl, rfl⟩
theorem fs_X10_236 : FSite RX10 236 7 0 (.array .int) true := ⟨_, _, _, _, cls_X6, by decide, fl_X10_236, rfl, rfl⟩
theorem fs_X10_247 : FSite RX10 247 9 2 (.array .int) true := ⟨_, _, _, _, cls_X8, by decide, fl_X10_247, rfl, rfl⟩
theorem fs_X10_259 : FSite RX10 259 2 4 (.array .int) true := ⟨_, _, _, _, cls_X1, by decide, fl_X10_259, rfl, rfl⟩
theorem fs_X10_262 : FSite RX10 262 2 5 (.array .int) true := ⟨_, _, _, _, cls_X1, by decide, fl_X10_262, rfl, rfl⟩
theorem fs_X10_265 : FSite RX10 265 2 6 (.array .int) true := ⟨_, _, _, _, cls_X1, by decide, fl_X10_265, rfl, rfl⟩
theorem fs_X10_268 : FSite RX10 268 9 0 (.array .int) true := ⟨_, _, _, _, cls_X8, by decide, fl_X10_268, rfl, rfl⟩
theorem fs_X10_282 : FSite RX10 282 8 6 (.array .int) true := ⟨_, _, _, _, cls_X7, by decide, fl_X10_282, rfl, rfl⟩
theorem fs_X10_285 : FSite RX10 285 8 7 (.array .int) true := ⟨_, _, _, _, cls_X7, by decide, fl_X10_285, rfl, rfl⟩
theorem fs_X10_296 : FSite RX10 296 2 7 (.array (.array .int)) true := ⟨_, _, _, _, cls_X1, by decide, fl_X10_296, rfl, rfl⟩
theorem fs_X10_304 : FSite RX10 304 2 9 (.array .int) true := ⟨_, _, _, _, cls_X1, by decide, fl_X10_304, rfl, rfl⟩
theorem fs_X10_307 : FSite RX10 307 2 10 (.array .int) true := ⟨_, _, _, _, cls_X1, by decide, fl_X10_307, rfl, rfl⟩
theorem fs_X10_310 : FSite RX10 310 2 11 (.array .int) true := ⟨_, _, _, _, cls_X1, by decide, fl_X10_310, rfl, rfl⟩
theorem fs_X10_362 : FSite RX10 362 9 3 (.int) false := ⟨_, _, _, _, cls_X8, by decide, fl_X10_362, rfl, rfl⟩
theorem fs_X10_365 : FSite RX10 365 9 4 (.int) false := ⟨_, _, _, _, cls_X8, by decide, fl_X10_365, rfl, rfl⟩
theorem fs_X10_368 : FSite RX10 368 9 5 (.int) false := ⟨_, _, _, _, cls_X8, by decide, fl_X10_368, rfl, rfl⟩
theorem fs_X10_371 : FSite RX10 371 9 6 (.int) false := ⟨_, _, _, _, cls_X8, by decide, fl_X10_371, rfl, rfl⟩
theorem fs_X10_374 : FSite RX10 374 9 7 (.int) false := ⟨_, _, _, _, cls_X8, by decide, fl_X10_374, rfl, rfl⟩
theorem fs_X10_379 : FSite RX10 379 2 12 (.array .long) true := ⟨_, _, _, _, cls_X1, by decide, fl_X10_379, rfl, rfl⟩
theorem fs_X10_383 : FSite RX10 383 2 1 (.boolean) false := ⟨_, _, _, _, cls_X1, by decide, fl_X10_383, rfl, rfl⟩
theorem fs_X10_406 : FSite RX10 406 11 17 (.boolean) false := ⟨_, _, _, _, cls_X10, by decide, fl_X10_406, rfl, rfl⟩
theorem fs_X10_417 : FSite RX10 417 11 3 (.int) false := ⟨_, _, _, _, cls_X10, by decide, fl_X10_417, rfl, rfl⟩
theorem fs_X10_424 : FSite RX10 424 6 0 (.object "java/lang/String") false := ⟨_, _, _, _, cls_X5, by decide, fl_X10_424, rfl, rfl⟩
theorem fs_X10_471 : FSite RX10 471 5 3 (.array .int) true := ⟨_, _, _, _, cls_X4, by decide, fl_X10_471, rfl, rfl⟩
theorem fs_X11_7 : FSite RX11 7 12 1 (.array .int) true := ⟨_, _, _, _, cls_X11, by decide, fl_X11_7, rfl, rfl⟩
theorem fs_X11_13 : FSite RX11 13 12 2 (.array .int) true := ⟨_, _, _, _, cls_X11, by decide, fl_X11_13, rfl, rfl⟩
theorem fs_X11_16 : FSite RX11 16 12 3 (.array .long) true := ⟨_, _, _, _, cls_X11, by decide, fl_X11_16, rfl, rfl⟩
theorem fs_X11_20 : FSite RX11 20 12 4 (.array .long) true := ⟨_, _, _, _, cls_X11, by decide, fl_X11_20, rfl, rfl⟩
theorem fs_X11_23 : FSite RX11 23 12 5 (.array .long) true := ⟨_, _, _, _, cls_X11, by decide, fl_X11_23, rfl, rfl⟩
theorem fs_X11_26 : FSite RX11 26 12 6 (.array .int) true := ⟨_, _, _, _, cls_X11, by decide, fl_X11_26, rfl, rfl⟩
theorem fs_X11_29 : FSite RX11 29 12 7 (.array .int) true := ⟨_, _, _, _, cls_X11, by decide, fl_X11_29, rfl, rfl⟩
theorem fs_X11_32 : FSite RX11 32 12 8 (.array .int) true := ⟨_, _, _, _, cls_X11, by decide, fl_X11_32, rfl, rfl⟩
theorem fs_X11_35 : FSite RX11 35 12 9 (.array .int) true := ⟨_, _, _, _, cls_X11, by decide, fl_X11_35, rfl, rfl⟩
theorem fs_X11_38 : FSite RX11 38 12 10 (.array .long) true := ⟨_, _, _, _, cls_X11, by decide, fl_X11_38, rfl, rfl⟩
theorem fs_X11_41 : FSite RX11 41 12 11 (.array .long) true := ⟨_, _, _, _, cls_X11, by decide, fl_X11_41, rfl, rfl⟩
theorem fs_X11_44 : FSite RX11 44 12 12 (.array .long) true := ⟨_, _, _, _, cls_X11, by decide, fl_X11_44, rfl, rfl⟩
theorem fs_X11_47 : FSite RX11 47 12 13 (.array .boolean) true := ⟨_, _, _, _, cls_X11, by decide, fl_X11_47, rfl, rfl⟩
theorem fs_X11_51 : FSite RX11 51 12 16 (.array .int) true := ⟨_, _, _, _, cls_X11, by decide, fl_X11_51, rfl, rfl⟩
theorem fs_X11_54 : FSite RX11 54 12 24 (.int) false := ⟨_, _, _, _, cls_X11, by decide, fl_X11_54, rfl, rfl⟩
theorem fs_X11_58 : FSite RX11 58 12 28 (.array .int) true := ⟨_, _, _, _, cls_X11, by decide, fl_X11_58, rfl, rfl⟩
theorem fs_X11_61 : FSite RX11 61 12 29 (.array .int) true := ⟨_, _, _, _, cls_X11, by decide, fl_X11_61, rfl, rfl⟩
theorem fs_X11_64 : FSite RX11 64 12 30 (.array .int) true := ⟨_, _, _, _, cls_X11, by decide, fl_X11_64, rfl, rfl⟩
theorem fs_X11_67 : FSite RX11 67 12 31 (.array .int) true := ⟨_, _, _, _, cls_X11, by decide, fl_X11_67, rfl, rfl⟩
theorem fs_X11_70 : FSite RX11 70 12 32 (.array .int) true := ⟨_, _, _, _, cls_X11, by decide, fl_X11_70, rfl, rfl⟩
theorem fs_X11_73 : FSite RX11 73 12 33 (.array .int) true := ⟨_, _, _, _, cls_X11, by decide, fl_X11_73, rfl, rfl⟩
theorem fs_X11_76 : FSite RX11 76 12 34 (.array .int) true := ⟨_, _, _, _, cls_X11, by decide, fl_X11_76, rfl, rfl⟩
theorem fs_X11_79 : FSite RX11 79 12 35 (.array .int) true := ⟨_, _, _, _, cls_X11, by decide, fl_X11_79, rfl, rfl⟩
theorem fs_X11_82 : FSite RX11 82 12 36 (.array .int) true := ⟨_, _, _, _, cls_X11, by decide, fl_X11_82, rfl, rfl⟩
theorem fs_X11_85 : FSite RX11 85 12 37 (.array .int) true := ⟨_, _, _, _, cls_X11, by decide, fl_X11_85, rfl, rfl⟩
theorem fs_X11_88 : FSite RX11 88 12 0 (.int) false := ⟨_, _, _, _, cls_X11, by decide, fl_X11_88, rfl, rfl⟩
theorem fs_X11_95 : FSite RX11 95 12 14 (.int) false := ⟨_, _, _, _, cls_X11, by decide, fl_X11_95, rfl, rfl⟩
theorem fs_X11_110 : FSite RX11 110 12 17 (.int) false := ⟨_, _, _, _, cls_X11, by decide, fl_X11_110, rfl, rfl⟩
theorem fs_X11_121 : FSite RX11 121 12 23 (.int) false := ⟨_, _, _, _, cls_X11, by decide, fl_X11_121, rfl, rfl⟩
theorem fs_X11_127 : FSite RX11 127 12 19 (.int) false := ⟨_, _, _, _, cls_X11, by decide, fl_X11_127, rfl, rfl⟩
theorem fs_X11_130 : FSite RX11 130 12 18 (.int) false := ⟨_, _, _, _, cls_X11, by decide, fl_X11_130, rfl, rfl⟩
theorem fs_X11_136 : FSite RX11 136 12 20 (.int) false := ⟨_, _, _, _, cls_X11, by decide, fl_X11_136, rfl, rfl⟩
theorem fs_X11_139 : FSite RX11 139 12 21 (.int) false := ⟨_, _, _, _, cls_X11, by decide, fl_X11_139, rfl, rfl⟩
theorem fs_X11_169 : FSite RX11 169 12 22 (.int) false := ⟨_, _, _, _, cls_X11, by decide, fl_X11_169, rfl, rfl⟩
theorem fs_X11_176 : FSite RX11 176 12 25 (.long) false := ⟨_, _, _, _, cls_X11, by decide, fl_X11_176, rfl, rfl⟩
theorem fs_X11_184 : FSite RX11 184 12 26 (.int) false := ⟨_, _, _, _, cls_X11, by decide, fl_X11_184, rfl, rfl⟩
theorem fs_X11_190 : FSite RX11 190 12 27 (.int) false := ⟨_, _, _, _, cls_X11, by decide, fl_X11_190, rfl, rfl⟩
theorem fs_X11_285 : FSite RX11 285 12 15 (.int) false := ⟨_, _, _, _, cls_X11, by decide, fl_X11_285, rfl, rfl⟩
theorem fs_X11_499 : FSite RX11 499 12 38 (.int) false := ⟨_, _, _, _, cls_X11, by decide, fl_X11_499, rfl, rfl⟩
theorem fs_X2_12 : FSite RX2 12 3 0 (.object "MealLoader$Tokens") true := ⟨_, _, _, _, cls_X2, by decide, fl_X2_12, rfl, rfl⟩
theorem fs_X2_18 : FSite RX2 18 3 1 (.object "MealLoader$Flight") false := ⟨_, _, _, _, cls_X2, by decide, fl_X2_18, rfl, rfl⟩
theorem fs_X2_22 : FSite RX2 22 3 2 (.object "MealLoader$Plan") false := ⟨_, _, _, _, cls_X2, by decide, fl_X2_22, rfl, rfl⟩
theorem fs_X2_36 : FSite RX2 36 3 3 (.int) false := ⟨_, _, _, _, cls_X2, by decide, fl_X2_36, rfl, rfl⟩
theorem fs_X2_40 : FSite RX2 40 3 4 (.int) false := ⟨_, _, _, _, cls_X2, by decide, fl_X2_40, rfl, rfl⟩
theorem fs_X2_50 : FSite RX2 50 10 4 (.int) false := ⟨_, _, _, _, cls_X9, by decide, fl_X2_50, rfl, rfl⟩
theorem fs_X2_57 : FSite RX2 57 8 8 (.int) false := ⟨_, _, _, _, cls_X7, by decide, fl_X2_57, rfl, rfl⟩
theorem fs_X2_60 : FSite RX2 60 2 2 (.int) false := ⟨_, _, _, _, cls_X1, by decide, fl_X2_60, rfl, rfl⟩
theorem fs_X2_110 : FSite RX2 110 8 9 (.int) false := ⟨_, _, _, _, cls_X7, by decide, fl_X2_110, rfl, rfl⟩
theorem fs_X2_116 : FSite RX2 116 8 10 (.int) false := ⟨_, _, _, _, cls_X7, by decide, fl_X2_116, rfl, rfl⟩
theorem fs_X2_118 : FSite RX2 118 8 1 (.int) false := ⟨_, _, _, _, cls_X7, by decide, fl_X2_118, rfl, rfl⟩
theorem fs_X2_128 : FSite RX2 128 8 2 (.array (.object "MealLoader$Cabin")) true := ⟨_, _, _, _, cls_X7, by decide, fl_X2_128, rfl, rfl⟩
theorem fs_X2_135 : FSite RX2 135 1 0 (.object "java/lang/String") false := ⟨_, _, _, _, cls_X0, by decide, fl_X2_135, rfl, rfl⟩
theorem fs_X2_141 : FSite RX2 141 1 1 (.int) false := ⟨_, _, _, _, cls_X0, by decide, fl_X2_141, rfl, rfl⟩
theorem fs_X2_144 : FSite RX2 144 1 2 (.int) false := ⟨_, _, _, _, cls_X0, by decide, fl_X2_144, rfl, rfl⟩
theorem fs_X2_150 : FSite RX2 150 8 3 (.int) false := ⟨_, _, _, _, cls_X7, by decide, fl_X2_150, rfl, rfl⟩
theorem fs_X2_156 : FSite RX2 156 8 4 (.array (.object "MealLoader$Meal")) true := ⟨_, _, _, _, cls_X7, by decide, fl_X2_156, rfl, rfl⟩
theorem fs_X2_159 : FSite RX2 159 6 0 (.object "java/lang/String") false := ⟨_, _, _, _, cls_X5, by decide, fl_X2_159, rfl, rfl⟩
theorem fs_X2_166 : FSite RX2 166 6 3 (.int) false := ⟨_, _, _, _, cls_X5, by decide, fl_X2_166, rfl, rfl⟩
theorem fs_X2_169 : FSite RX2 169 6 4 (.int) false := ⟨_, _, _, _, cls_X5, by decide, fl_X2_169, rfl, rfl⟩
theorem fs_X2_172 : FSite RX2 172 6 5 (.int) false := ⟨_, _, _, _, cls_X5, by decide, fl_X2_172, rfl, rfl⟩
theorem fs_X2_179 : FSite RX2 179 6 1 (.int) false := ⟨_, _, _, _, cls_X5, by decide, fl_X2_179, rfl, rfl⟩
theorem fs_X2_181 : FSite RX2 181 6 2 (.int) false := ⟨_, _, _, _, cls_X5, by decide, fl_X2_181, rfl, rfl⟩
theorem fs_X2_191 : FSite RX2 191 8 5 (.int) false := ⟨_, _, _, _, cls_X7, by decide, fl_X2_191, rfl, rfl⟩
theorem fs_X2_194 : FSite RX2 194 8 6 (.array .int) true := ⟨_, _, _, _, cls_X7, by decide, fl_X2_194, rfl, rfl⟩
theorem fs_X2_198 : FSite RX2 198 8 7 (.array .int) true := ⟨_, _, _, _, cls_X7, by decide, fl_X2_198, rfl, rfl⟩
theorem fs_X2_205 : FSite RX2 205 2 3 (.int) false := ⟨_, _, _, _, cls_X1, by decide, fl_X2_205, rfl, rfl⟩
theorem fs_X2_219 : FSite RX2 219 10 5 (.int) false := ⟨_, _, _, _, cls_X9, by decide, fl_X2_219, rfl, rfl⟩
theorem fs_X2_222 : FSite RX2 222 10 2 (.int) false := ⟨_, _, _, _, cls_X9, by decide, fl_X2_222, rfl, rfl⟩
theorem fs_X2_225 : FSite RX2 225 10 3 (.int) false := ⟨_, _, _, _, cls_X9, by decide, fl_X2_225, rfl, rfl⟩
theorem fs_X2_228 : FSite RX2 228 10 0 (.array .byte) false := ⟨_, _, _, _, cls_X9, by decide, fl_X2_228, rfl, rfl⟩
theorem fs_X3_11 : FSite RX3 11 4 0 (.array (.object "MealLoader$Flight")) true := ⟨_, _, _, _, cls_X3, by decide, fl_X3_11, rfl, rfl⟩
theorem fs_X3_20 : FSite RX3 20 4 1 (.int) false := ⟨_, _, _, _, cls_X3, by decide, fl_X3_20, rfl, rfl⟩
theorem fs_X3_28 : FSite RX3 28 4 2 (.int) false := ⟨_, _, _, _, cls_X3, by decide, fl_X3_28, rfl, rfl⟩
theorem fs_X4_9 : FSite RX4 9 5 2 (.array .int) true := ⟨_, _, _, _, cls_X4, by decide, fl_X4_9, rfl, rfl⟩
theorem fs_X4_15 : FSite RX4 15 5 3 (.array .int) true := ⟨_, _, _, _, cls_X4, by decide, fl_X4_15, rfl, rfl⟩
theorem fs_X4_18 : FSite RX4 18 5 4 (.array .int) true := ⟨_, _, _, _, cls_X4, by decide, fl_X4_18, rfl, rfl⟩
theorem fs_X4_21 : FSite RX4 21 5 5 (.array .int) true := ⟨_, _, _, _, cls_X4, by decide, fl_X4_21, rfl, rfl⟩
theorem fs_X4_24 : FSite RX4 24 5 6 (.array .int) true := ⟨_, _, _, _, cls_X4, by decide, fl_X4_24, rfl, rfl⟩
theorem fs_X4_27 : FSite RX4 27 5 7 (.array .int) true := ⟨_, _, _, _, cls_X4, by decide, fl_X4_27, rfl, rfl⟩
theorem fs_X4_30 : FSite RX4 30 2 3 (.int) false := ⟨_, _, _, _, cls_X1, by decide, fl_X4_30, rfl, rfl⟩
theorem fs_X4_36 : FSite RX4 36 5 0 (.int) false := ⟨_, _, _, _, cls_X4, by decide, fl_X4_36, rfl, rfl⟩
theorem fs_X4_39 : FSite RX4 39 2 0 (.object "MealLoader$Plan") false := ⟨_, _, _, _, cls_X1, by decide, fl_X4_39, rfl, rfl⟩
theorem fs_X4_43 : FSite RX4 43 8 3 (.int) false := ⟨_, _, _, _, cls_X7, by decide, fl_X4_43, rfl, rfl⟩
theorem fs_X4_48 : FSite RX4 48 5 1 (.int) false := ⟨_, _, _, _, cls_X4, by decide, fl_X4_48, rfl, rfl⟩
theorem fs_X4_53 : FSite RX4 53 2 5 (.array .int) true := ⟨_, _, _, _, cls_X1, by decide, fl_X4_53, rfl, rfl⟩
theorem fs_X4_85 : FSite RX4 85 5 8 (.int) false := ⟨_, _, _, _, cls_X4, by decide, fl_X4_85, rfl, rfl⟩
theorem fs_X4_88 : FSite RX4 88 5 9 (.int) false := ⟨_, _, _, _, cls_X4, by decide, fl_X4_88, rfl, rfl⟩
theorem fs_X5_9 : FSite RX5 9 6 0 (.object "java/lang/String") false := ⟨_, _, _, _, cls_X5, by decide, fl_X5_9, rfl, rfl⟩
theorem fs_X6_9 : FSite RX6 9 7 0 (.array .int) true := ⟨_, _, _, _, cls_X6, by decide, fl_X6_9, rfl, rfl⟩
theorem fs_X6_15 : FSite RX6 15 7 1 (.array .int) true := ⟨_, _, _, _, cls_X6, by decide, fl_X6_15, rfl, rfl⟩
theorem fs_X6_24 : FSite RX6 24 2 3 (.int) false := ⟨_, _, _, _, cls_X1, by decide, fl_X6_24, rfl, rfl⟩
theorem fs_X6_30 : FSite RX6 30 2 5 (.array .int) true := ⟨_, _, _, _, cls_X1, by decide, fl_X6_30, rfl, rfl⟩
theorem fs_X6_37 : FSite RX6 37 2 0 (.object "MealLoader$Plan") false := ⟨_, _, _, _, cls_X1, by decide, fl_X6_37, rfl, rfl⟩
theorem fs_X6_41 : FSite RX6 41 8 1 (.int) false := ⟨_, _, _, _, cls_X7, by decide, fl_X6_41, rfl, rfl⟩
theorem fs_X6_52 : FSite RX6 52 8 2 (.array (.object "MealLoader$Cabin")) true := ⟨_, _, _, _, cls_X7, by decide, fl_X6_52, rfl, rfl⟩
theorem fs_X6_56 : FSite RX6 56 1 2 (.int) false := ⟨_, _, _, _, cls_X0, by decide, fl_X6_56, rfl, rfl⟩
theorem fs_X6_65 : FSite RX6 65 8 3 (.int) false := ⟨_, _, _, _, cls_X7, by decide, fl_X6_65, rfl, rfl⟩
theorem fs_X6_68 : FSite RX6 68 8 4 (.array (.object "MealLoader$Meal")) true := ⟨_, _, _, _, cls_X7, by decide, fl_X6_68, rfl, rfl⟩
theorem fs_X6_72 : FSite RX6 72 6 1 (.int) false := ⟨_, _, _, _, cls_X5, by decide, fl_X6_72, rfl, rfl⟩
theorem fs_X6_76 : FSite RX6 76 6 2 (.int) false := ⟨_, _, _, _, cls_X5, by decide, fl_X6_76, rfl, rfl⟩
theorem fs_X6_82 : FSite RX6 82 6 3 (.int) false := ⟨_, _, _, _, cls_X5, by decide, fl_X6_82, rfl, rfl⟩
theorem fs_X7_11 : FSite RX7 11 8 2 (.array (.object "MealLoader$Cabin")) true := ⟨_, _, _, _, cls_X7, by decide, fl_X7_11, rfl, rfl⟩
theorem fs_X7_20 : FSite RX7 20 8 4 (.array (.object "MealLoader$Meal")) true := ⟨_, _, _, _, cls_X7, by decide, fl_X7_20, rfl, rfl⟩
theorem fs_X7_25 : FSite RX7 25 8 6 (.array .int) true := ⟨_, _, _, _, cls_X7, by decide, fl_X7_25, rfl, rfl⟩
theorem fs_X7_29 : FSite RX7 29 8 7 (.array .int) true := ⟨_, _, _, _, cls_X7, by decide, fl_X7_29, rfl, rfl⟩
theorem fs_X7_32 : FSite RX7 32 8 0 (.boolean) false := ⟨_, _, _, _, cls_X7, by decide, fl_X7_32, rfl, rfl⟩
theorem fs_X7_36 : FSite RX7 36 8 1 (.int) false := ⟨_, _, _, _, cls_X7, by decide, fl_X7_36, rfl, rfl⟩
theorem fs_X7_40 : FSite RX7 40 8 3 (.int) false := ⟨_, _, _, _, cls_X7, by decide, fl_X7_40, rfl, rfl⟩
theorem fs_X7_43 : FSite RX7 43 8 5 (.int) false := ⟨_, _, _, _, cls_X7, by decide, fl_X7_43, rfl, rfl⟩
theorem fs_X7_46 : FSite RX7 46 8 8 (.int) false := ⟨_, _, _, _, cls_X7, by decide, fl_X7_46, rfl, rfl⟩
theorem fs_X7_49 : FSite RX7 49 8 9 (.int) false := ⟨_, _, _, _, cls_X7, by decide, fl_X7_49, rfl, rfl⟩
theorem fs_X7_52 : FSite RX7 52 8 10 (.int) false := ⟨_, _, _, _, cls_X7, by decide, fl_X7_52, rfl, rfl⟩
theorem fs_X7_55 : FSite RX7 55 6 1 (.int) false := ⟨_, _, _, _, cls_X5, by decide, fl_X7_55, rfl, rfl⟩
theorem fs_X7_61 : FSite RX7 61 6 5 (.int) false := ⟨_, _, _, _, cls_X5, by decide, fl_X7_61, rfl, rfl⟩
theorem fs_X7_64 : FSite RX7 64 6 4 (.int) false := ⟨_, _, _, _, cls_X5, by decide, fl_X7_64, rfl, rfl⟩
theorem fs_X8_9 : FSite RX8 9 9 0 (.array .int) true := ⟨_, _, _, _, cls_X8, by decide, fl_X8_9, rfl, rfl⟩
theorem fs_X8_15 : FSite RX8 15 9 1 (.array .int) true := ⟨_, _, _, _, cls_X8, by decide, fl_X8_15, rfl, rfl⟩
theorem fs_X8_18 : FSite RX8 18 9 2 (.array .int) true := ⟨_, _, _, _, cls_X8, by decide, fl_X8_18, rfl, rfl⟩
theorem fs_X8_21 : FSite RX8 21 9 4 (.int) false := ⟨_, _, _, _, cls_X8, by decide, fl_X8_21, rfl, rfl⟩
theorem fs_X8_25 : FSite RX8 25 9 7 (.int) false := ⟨_, _, _, _, cls_X8, by decide, fl_X8_25, rfl, rfl⟩
theorem fs_X8_34 : FSite RX8 34 2 0 (.object "MealLoader$Plan") false := ⟨_, _, _, _, cls_X1, by decide, fl_X8_34, rfl, rfl⟩
theorem fs_X8_40 : FSite RX8 40 8 3 (.int) false := ⟨_, _, _, _, cls_X7, by decide, fl_X8_40, rfl, rfl⟩
theorem fs_X8_49 : FSite RX8 49 2 3 (.int) false := ⟨_, _, _, _, cls_X1, by decide, fl_X8_49, rfl, rfl⟩
theorem fs_X8_56 : FSite RX8 56 9 3 (.int) false := ⟨_, _, _, _, cls_X8, by decide, fl_X8_56, rfl, rfl⟩
theorem fs_X8_67 : FSite RX8 67 2 5 (.array .int) true := ⟨_, _, _, _, cls_X1, by decide, fl_X8_67, rfl, rfl⟩
theorem fs_X8_70 : FSite RX8 70 2 6 (.array .int) true := ⟨_, _, _, _, cls_X1, by decide, fl_X8_70, rfl, rfl⟩
theorem fs_X8_73 : FSite RX8 73 2 4 (.array .int) true := ⟨_, _, _, _, cls_X1, by decide, fl_X8_73, rfl, rfl⟩
theorem fs_X8_80 : FSite RX8 80 8 4 (.array (.object "MealLoader$Meal")) true := ⟨_, _, _, _, cls_X7, by decide, fl_X8_80, rfl, rfl⟩
theorem fs_X8_84 : FSite RX8 84 6 1 (.int) false := ⟨_, _, _, _, cls_X5, by decide, fl_X8_84, rfl, rfl⟩
theorem fs_X8_89 : FSite RX8 89 9 5 (.int) false := ⟨_, _, _, _, cls_X8, by decide, fl_X8_89, rfl, rfl⟩
theorem fs_X8_92 : FSite RX8 92 9 6 (.int) false := ⟨_, _, _, _, cls_X8, by decide, fl_X8_92, rfl, rfl⟩
theorem fs_X8_95 : FSite RX8 95 6 4 (.int) false := ⟨_, _, _, _, cls_X5, by decide, fl_X8_95, rfl, rfl⟩
theorem fs_X9_7 : FSite RX9 7 10 0 (.array .byte) false := ⟨_, _, _, _, cls_X9, by decide, fl_X9_7, rfl, rfl⟩
theorem fs_X9_19 : FSite RX9 19 10 1 (.int) false := ⟨_, _, _, _, cls_X9, by decide, fl_X9_19, rfl, rfl⟩
theorem fs_X9_23 : FSite RX9 23 10 3 (.int) false := ⟨_, _, _, _, cls_X9, by decide, fl_X9_23, rfl, rfl⟩
theorem fs_X9_26 : FSite RX9 26 10 2 (.int) false := ⟨_, _, _, _, cls_X9, by decide, fl_X9_26, rfl, rfl⟩
theorem fs_X9_29 : FSite RX9 29 10 4 (.int) false := ⟨_, _, _, _, cls_X9, by decide, fl_X9_29, rfl, rfl⟩
theorem fs_X9_39 : FSite RX9 39 10 5 (.int) false := ⟨_, _, _, _, cls_X9, by decide, fl_X9_39, rfl, rfl⟩
theorem pn_RX0 : (RX0 ≠ "java/lang/invoke/MethodHandle" ∧ RX0 ≠ "java/lang/invoke/VarHandle") ∧ plainName RX0 = true := ⟨⟨by decide +kernel, by decide +kernel⟩, by decide +kernel⟩
theorem pd_0 : (parseMethodDescriptor "()V").map (fun d => d.parameters.length) = some 0 := by decide +kernel
theorem yk_X0_init : YOK Y_X0_init 0 := ⟨cd_X0_init, ini_RX0, pn_RX0.1, pd_0, rfl, pn_RX0.2⟩
theorem pn_RX1 : (RX1 ≠ "java/lang/invoke/MethodHandle" ∧ RX1 ≠ "java/lang/invoke/VarHandle") ∧ plainName RX1 = true := ⟨⟨by decide +kernel, by decide +kernel⟩, by decide +kernel⟩
theorem pd_1 : (parseMethodDescriptor "(LMealLoader$Plan;)V").map (fun d => d.parameters.length) = some 1 := by decide +kernel
theorem yk_X1_init : YOK Y_X1_init 1 := ⟨cd_X1_init, ini_RX1, pn_RX1.1, pd_1, rfl, pn_RX1.2⟩
theorem pn_RJ7 : (RJ7 ≠ "java/lang/invoke/MethodHandle" ∧ RJ7 ≠ "java/lang/invoke/VarHandle") ∧ plainName RJ7 = true := ⟨⟨by decide +kernel, by decide +kernel⟩, by decide +kernel⟩
theorem pd_2 : (parseMethodDescriptor "([II)V").map (fun d => d.parameters.length) = some 2 := by decide +kernel
theorem yk_J7_fill_53178 : YOK Y_J7_fill_53178 2 := ⟨cd_J7_fill_53178, ini_RJ7, pn_RJ7.1, pd_2, rfl, pn_RJ7.2⟩
theorem yk_X1_clear : YOK Y_X1_clear 1 := ⟨cd_X1_clear, ini_RX1, pn_RX1.1, pd_1, rfl, pn_RX1.2⟩
theorem pd_3 : (parseMethodDescriptor "(LMealLoader$Flight;)V").map (fun d => d.parameters.length) = some 1 := by decide +kernel
theorem yk_X1_copyAccounts : YOK Y_X1_copyAccounts 1 := ⟨cd_X1_copyAccounts, ini_RX1, pn_RX1.1, pd_3, rfl, pn_RX1.2⟩
theorem yk_X1_copy : YOK Y_X1_copy 1 := ⟨cd_X1_copy, ini_RX1, pn_RX1.1, pd_3, rfl, pn_RX1.2⟩
theorem pd_4 : (parseMethodDescriptor "()I").map (fun d => d.parameters.length) = some 0 := by decide +kernel
theorem yk_X1_phase : YOK Y_X1_phase 0 := ⟨cd_X1_phase, ini_RX1, pn_RX1.1, pd_4, rfl, pn_RX1.2⟩
theorem pd_5 : (parseMethodDescriptor "(I)I").map (fun d => d.parameters.length) = some 1 := by decide +kernel
theorem yk_X1_passengersIn : YOK Y_X1_passengersIn 1 := ⟨cd_X1_passengersIn, ini_RX1, pn_RX1.1, pd_5, rfl, pn_RX1.2⟩
theorem yk_X1_specialsIn : YOK Y_X1_specialsIn 1 := ⟨cd_X1_specialsIn, ini_RX1, pn_RX1.1, pd_5, rfl, pn_RX1.2⟩
theorem yk_X1_freeSeats : YOK Y_X1_freeSeats 1 := ⟨cd_X1_freeSeats, ini_RX1, pn_RX1.1, pd_5, rfl, pn_RX1.2⟩
theorem pd_6 : (parseMethodDescriptor "(III)V").map (fun d => d.parameters.length) = some 3 := by decide +kernel
theorem yk_X1_seat : YOK Y_X1_seat 3 := ⟨cd_X1_seat, ini_RX1, pn_RX1.1, pd_6, rfl, pn_RX1.2⟩
theorem pd_7 : (parseMethodDescriptor "(I)V").map (fun d => d.parameters.length) = some 1 := by decide +kernel
theorem yk_X1_removePassenger : YOK Y_X1_removePassenger 1 := ⟨cd_X1_removePassenger, ini_RX1, pn_RX1.1, pd_7, rfl, pn_RX1.2⟩
theorem pn_RX7 : (RX7 ≠ "java/lang/invoke/MethodHandle" ∧ RX7 ≠ "java/lang/invoke/VarHandle") ∧ plainName RX7 = true := ⟨⟨by decide +kernel, by decide +kernel⟩, by decide +kernel⟩
theorem pd_8 : (parseMethodDescriptor "(II)Z").map (fun d => d.parameters.length) = some 2 := by decide +kernel
theorem yk_X7_admits : YOK Y_X7_admits 2 := ⟨cd_X7_admits, ini_RX7, pn_RX7.1, pd_8, rfl, pn_RX7.2⟩
theorem pd_9 : (parseMethodDescriptor "(II)I").map (fun d => d.parameters.length) = some 2 := by decide +kernel
theorem yk_X7_suiting : YOK Y_X7_suiting 2 := ⟨cd_X7_suiting, ini_RX7, pn_RX7.1, pd_9, rfl, pn_RX7.2⟩
theorem yk_X1_suiting : YOK Y_X1_suiting 1 := ⟨cd_X1_suiting, ini_RX1, pn_RX1.1, pd_5, rfl, pn_RX1.2⟩
theorem yk_X7_cheapestOf : YOK Y_X7_cheapestOf 1 := ⟨cd_X7_cheapestOf, ini_RX7, pn_RX7.1, pd_5, rfl, pn_RX7.2⟩
theorem yk_X1_cheapestFor : YOK Y_X1_cheapestFor 1 := ⟨cd_X1_cheapestFor, ini_RX1, pn_RX1.1, pd_5, rfl, pn_RX1.2⟩
theorem yk_X1_freeSlots : YOK Y_X1_freeSlots 1 := ⟨cd_X1_freeSlots, ini_RX1, pn_RX1.1, pd_5, rfl, pn_RX1.2⟩
theorem yk_X1_freeSlotsIn : YOK Y_X1_freeSlotsIn 1 := ⟨cd_X1_freeSlotsIn, ini_RX1, pn_RX1.1, pd_5, rfl, pn_RX1.2⟩
theorem yk_X1_unitsIn : YOK Y_X1_unitsIn 1 := ⟨cd_X1_unitsIn, ini_RX1, pn_RX1.1, pd_5, rfl, pn_RX1.2⟩
theorem yk_X1_loadedOf : YOK Y_X1_loadedOf 1 := ⟨cd_X1_loadedOf, ini_RX1, pn_RX1.1, pd_5, rfl, pn_RX1.2⟩
theorem yk_X1_allLoaded : YOK Y_X1_allLoaded 0 := ⟨cd_X1_allLoaded, ini_RX1, pn_RX1.1, pd_4, rfl, pn_RX1.2⟩
theorem yk_X1_onTheWay : YOK Y_X1_onTheWay 1 := ⟨cd_X1_onTheWay, ini_RX1, pn_RX1.1, pd_5, rfl, pn_RX1.2⟩
theorem yk_X1_missing : YOK Y_X1_missing 2 := ⟨cd_X1_missing, ini_RX1, pn_RX1.1, pd_9, rfl, pn_RX1.2⟩
theorem yk_X1_put : YOK Y_X1_put 2 := ⟨cd_X1_put, ini_RX1, pn_RX1.1, pd_9, rfl, pn_RX1.2⟩
theorem pd_10 : (parseMethodDescriptor "(II)V").map (fun d => d.parameters.length) = some 2 := by decide +kernel
theorem yk_X1_takeOut : YOK Y_X1_takeOut 2 := ⟨cd_X1_takeOut, ini_RX1, pn_RX1.1, pd_10, rfl, pn_RX1.2⟩
theorem yk_X1_askFor : YOK Y_X1_askFor 2 := ⟨cd_X1_askFor, ini_RX1, pn_RX1.1, pd_10, rfl, pn_RX1.2⟩
theorem yk_X1_letArrive : YOK Y_X1_letArrive 0 := ⟨cd_X1_letArrive, ini_RX1, pn_RX1.1, pd_4, rfl, pn_RX1.2⟩
theorem pn_RX9 : (RX9 ≠ "java/lang/invoke/MethodHandle" ∧ RX9 ≠ "java/lang/invoke/VarHandle") ∧ plainName RX9 = true := ⟨⟨by decide +kernel, by decide +kernel⟩, by decide +kernel⟩
theorem yk_X9_init : YOK Y_X9_init 0 := ⟨cd_X9_init, ini_RX9, pn_RX9.1, pd_0, rfl, pn_RX9.2⟩
theorem pn_RX2 : (RX2 ≠ "java/lang/invoke/MethodHandle" ∧ RX2 ≠ "java/lang/invoke/VarHandle") ∧ plainName RX2 = true := ⟨⟨by decide +kernel, by decide +kernel⟩, by decide +kernel⟩
theorem yk_X2_init : YOK Y_X2_init 0 := ⟨cd_X2_init, ini_RX2, pn_RX2.1, pd_0, rfl, pn_RX2.2⟩
theorem yk_X7_clear : YOK Y_X7_clear 0 := ⟨cd_X7_clear, ini_RX7, pn_RX7.1, pd_0, rfl, pn_RX7.2⟩
theorem pd_11 : (parseMethodDescriptor "([BI)V").map (fun d => d.parameters.length) = some 2 := by decide +kernel
theorem yk_X9_begin : YOK Y_X9_begin 2 := ⟨cd_X9_begin, ini_RX9, pn_RX9.1, pd_11, rfl, pn_RX9.2⟩
theorem pd_12 : (parseMethodDescriptor "(B)I").map (fun d => d.parameters.length) = some 1 := by decide +kernel
theorem yk_X9_kindOf : YOK Y_X9_kindOf 1 := ⟨cd_X9_kindOf, ini_RX9, pn_RX9.1, pd_12, rfl, pn_RX9.2⟩
theorem yk_X9_readNumber : YOK Y_X9_readNumber 0 := ⟨cd_X9_readNumber, ini_RX9, pn_RX9.1, pd_0, rfl, pn_RX9.2⟩
theorem yk_X9_next : YOK Y_X9_next 0 := ⟨cd_X9_next, ini_RX9, pn_RX9.1, pd_0, rfl, pn_RX9.2⟩
theorem pn_RJ0 : (RJ0 ≠ "java/lang/invoke/MethodHandle" ∧ RJ0 ≠ "java/lang/invoke/VarHandle") ∧ plainName RJ0 = true := ⟨⟨by decide +kernel, by decide +kernel⟩, by decide +kernel⟩
theorem pd_13 : (parseMethodDescriptor "()B").map (fun d => d.parameters.length) = some 0 := by decide +kernel
theorem yk_J0_coder_7d493 : YOK Y_J0_coder_7d493 0 := ⟨cd_J0_coder_7d493, ini_RJ0, pn_RJ0.1, pd_13, rfl, pn_RJ0.2⟩
theorem yk_J0_length_8abf5 : YOK Y_J0_length_8abf5 0 := ⟨cd_J0_length_8abf5, ini_RJ0, pn_RJ0.1, pd_4, rfl, pn_RJ0.2⟩
theorem pd_14 : (parseMethodDescriptor "()Z").map (fun d => d.parameters.length) = some 0 := by decide +kernel
theorem yk_J0_isLatin1_aae02 : YOK Y_J0_isLatin1_aae02 0 := ⟨cd_J0_isLatin1_aae02, ini_RJ0, pn_RJ0.1, pd_14, rfl, pn_RJ0.2⟩
theorem pn_RJ3 : (RJ3 ≠ "java/lang/invoke/MethodHandle" ∧ RJ3 ≠ "java/lang/invoke/VarHandle") ∧ plainName RJ3 = true := ⟨⟨by decide +kernel, by decide +kernel⟩, by decide +kernel⟩
theorem pd_15 : (parseMethodDescriptor "(IILjava/util/function/BiFunction;)I").map (fun d => d.parameters.length) = some 3 := by decide +kernel
theorem yk_J3_checkIndex_8e157 : YOK Y_J3_checkIndex_8e157 3 := ⟨cd_J3_checkIndex_8e157, ini_RJ3, pn_RJ3.1, pd_15, rfl, pn_RJ3.2⟩
theorem yk_J0_checkIndex_df160 : YOK Y_J0_checkIndex_df160 2 := ⟨cd_J0_checkIndex_df160, ini_RJ0, pn_RJ0.1, pd_10, rfl, pn_RJ0.2⟩
theorem pn_RJ1 : (RJ1 ≠ "java/lang/invoke/MethodHandle" ∧ RJ1 ≠ "java/lang/invoke/VarHandle") ∧ plainName RJ1 = true := ⟨⟨by decide +kernel, by decide +kernel⟩, by decide +kernel⟩
theorem pd_16 : (parseMethodDescriptor "([BI)C").map (fun d => d.parameters.length) = some 2 := by decide +kernel
theorem yk_J1_charAt_3b067 : YOK Y_J1_charAt_3b067 2 := ⟨cd_J1_charAt_3b067, ini_RJ1, pn_RJ1.1, pd_16, rfl, pn_RJ1.2⟩
theorem pn_RJ2 : (RJ2 ≠ "java/lang/invoke/MethodHandle" ∧ RJ2 ≠ "java/lang/invoke/VarHandle") ∧ plainName RJ2 = true := ⟨⟨by decide +kernel, by decide +kernel⟩, by decide +kernel⟩
theorem pd_17 : (parseMethodDescriptor "([B)I").map (fun d => d.parameters.length) = some 1 := by decide +kernel
theorem yk_J2_length_9d52b : YOK Y_J2_length_9d52b 1 := ⟨cd_J2_length_9d52b, ini_RJ2, pn_RJ2.1, pd_17, rfl, pn_RJ2.2⟩
theorem pd_18 : (parseMethodDescriptor "(I[B)V").map (fun d => d.parameters.length) = some 2 := by decide +kernel
theorem yk_J2_checkIndex_2214a : YOK Y_J2_checkIndex_2214a 2 := ⟨cd_J2_checkIndex_2214a, ini_RJ2, pn_RJ2.1, pd_18, rfl, pn_RJ2.2⟩
theorem yk_J2_getChar_3b067 : YOK Y_J2_getChar_3b067 2 := ⟨cd_J2_getChar_3b067, ini_RJ2, pn_RJ2.1, pd_16, rfl, pn_RJ2.2⟩
theorem yk_J2_charAt_3b067 : YOK Y_J2_charAt_3b067 2 := ⟨cd_J2_charAt_3b067, ini_RJ2, pn_RJ2.1, pd_16, rfl, pn_RJ2.2⟩
theorem pd_19 : (parseMethodDescriptor "(I)C").map (fun d => d.parameters.length) = some 1 := by decide +kernel
theorem yk_J0_charAt_5068e : YOK Y_J0_charAt_5068e 1 := ⟨cd_J0_charAt_5068e, ini_RJ0, pn_RJ0.1, pd_19, rfl, pn_RJ0.2⟩
theorem pd_20 : (parseMethodDescriptor "(Ljava/lang/String;)Z").map (fun d => d.parameters.length) = some 1 := by decide +kernel
theorem yk_X9_is : YOK Y_X9_is 1 := ⟨cd_X9_is, ini_RX9, pn_RX9.1, pd_20, rfl, pn_RX9.2⟩
theorem pd_21 : (parseMethodDescriptor "(I)Z").map (fun d => d.parameters.length) = some 1 := by decide +kernel
theorem yk_X2_fail : YOK Y_X2_fail 1 := ⟨cd_X2_fail, ini_RX2, pn_RX2.1, pd_21, rfl, pn_RX2.2⟩
theorem yk_X2_numberHere : YOK Y_X2_numberHere 2 := ⟨cd_X2_numberHere, ini_RX2, pn_RX2.1, pd_9, rfl, pn_RX2.2⟩
theorem yk_X2_nextNumber : YOK Y_X2_nextNumber 2 := ⟨cd_X2_nextNumber, ini_RX2, pn_RX2.1, pd_9, rfl, pn_RX2.2⟩
theorem yk_X2_signHere : YOK Y_X2_signHere 0 := ⟨cd_X2_signHere, ini_RX2, pn_RX2.1, pd_14, rfl, pn_RX2.2⟩
theorem yk_X2_readTime : YOK Y_X2_readTime 0 := ⟨cd_X2_readTime, ini_RX2, pn_RX2.1, pd_14, rfl, pn_RX2.2⟩
theorem yk_X2_readLead : YOK Y_X2_readLead 0 := ⟨cd_X2_readLead, ini_RX2, pn_RX2.1, pd_14, rfl, pn_RX2.2⟩
theorem yk_X9_size : YOK Y_X9_size 0 := ⟨cd_X9_size, ini_RX9, pn_RX9.1, pd_4, rfl, pn_RX9.2⟩
theorem yk_X2_nameHere : YOK Y_X2_nameHere 0 := ⟨cd_X2_nameHere, ini_RX2, pn_RX2.1, pd_14, rfl, pn_RX2.2⟩
theorem yk_X2_cabinHere : YOK Y_X2_cabinHere 0 := ⟨cd_X2_cabinHere, ini_RX2, pn_RX2.1, pd_4, rfl, pn_RX2.2⟩
theorem pd_22 : (parseMethodDescriptor "([CI[BII)I").map (fun d => d.parameters.length) = some 5 := by decide +kernel
theorem yk_J2_compress_fe38e : YOK Y_J2_compress_fe38e 5 := ⟨cd_J2_compress_fe38e, ini_RJ2, pn_RJ2.1, pd_22, rfl, pn_RJ2.2⟩
theorem yk_J2_newBytesLength_0f7a4 : YOK Y_J2_newBytesLength_0f7a4 1 := ⟨cd_J2_newBytesLength_0f7a4, ini_RJ2, pn_RJ2.1, pd_5, rfl, pn_RJ2.2⟩
theorem pd_23 : (parseMethodDescriptor "(I)[B").map (fun d => d.parameters.length) = some 1 := by decide +kernel
theorem yk_J2_newBytesFor_77867 : YOK Y_J2_newBytesFor_77867 1 := ⟨cd_J2_newBytesFor_77867, ini_RJ2, pn_RJ2.1, pd_23, rfl, pn_RJ2.2⟩
theorem pd_24 : (parseMethodDescriptor "([BII)V").map (fun d => d.parameters.length) = some 3 := by decide +kernel
theorem yk_J2_putChar_b72d1 : YOK Y_J2_putChar_b72d1 3 := ⟨cd_J2_putChar_b72d1, ini_RJ2, pn_RJ2.1, pd_24, rfl, pn_RJ2.2⟩
theorem pd_25 : (parseMethodDescriptor "([CII)[B").map (fun d => d.parameters.length) = some 3 := by decide +kernel
theorem yk_J2_toBytes_dfd3c : YOK Y_J2_toBytes_dfd3c 3 := ⟨cd_J2_toBytes_dfd3c, ini_RJ2, pn_RJ2.1, pd_25, rfl, pn_RJ2.2⟩
theorem pd_26 : (parseMethodDescriptor "(IIILjava/util/function/BiFunction;)I").map (fun d => d.parameters.length) = some 4 := by decide +kernel
theorem yk_J3_checkFromIndexSize_8c36e : YOK Y_J3_checkFromIndexSize_8c36e 4 := ⟨cd_J3_checkFromIndexSize_8c36e, ini_RJ3, pn_RJ3.1, pd_26, rfl, pn_RJ3.2⟩
theorem pd_27 : (parseMethodDescriptor "(III)I").map (fun d => d.parameters.length) = some 3 := by decide +kernel
theorem yk_J0_checkBoundsOffCount_cabcc : YOK Y_J0_checkBoundsOffCount_cabcc 3 := ⟨cd_J0_checkBoundsOffCount_cabcc, ini_RJ0, pn_RJ0.1, pd_27, rfl, pn_RJ0.2⟩
theorem pd_28 : (parseMethodDescriptor "(II[B)V").map (fun d => d.parameters.length) = some 3 := by decide +kernel
theorem yk_J2_checkBoundsOffCount_d044e : YOK Y_J2_checkBoundsOffCount_d044e 3 := ⟨cd_J2_checkBoundsOffCount_d044e, ini_RJ2, pn_RJ2.1, pd_28, rfl, pn_RJ2.2⟩
theorem pd_29 : (parseMethodDescriptor "([BI[BII)I").map (fun d => d.parameters.length) = some 5 := by decide +kernel
theorem yk_J2_compress_5af95 : YOK Y_J2_compress_5af95 5 := ⟨cd_J2_compress_5af95, ini_RJ2, pn_RJ2.1, pd_29, rfl, pn_RJ2.2⟩
theorem yk_J2_compress_dfd3c : YOK Y_J2_compress_dfd3c 3 := ⟨cd_J2_compress_dfd3c, ini_RJ2, pn_RJ2.1, pd_25, rfl, pn_RJ2.2⟩
theorem pd_30 : (parseMethodDescriptor "([BI)B").map (fun d => d.parameters.length) = some 2 := by decide +kernel
theorem yk_J2_coderFromArrayLen_85cad : YOK Y_J2_coderFromArrayLen_85cad 2 := ⟨cd_J2_coderFromArrayLen_85cad, ini_RJ2, pn_RJ2.1, pd_30, rfl, pn_RJ2.2⟩
theorem pd_31 : (parseMethodDescriptor "([CIILjava/lang/Void;)V").map (fun d => d.parameters.length) = some 4 := by decide +kernel
theorem yk_J0_init_bb550 : YOK Y_J0_init_bb550 4 := ⟨cd_J0_init_bb550, ini_RJ0, pn_RJ0.1, pd_31, rfl, pn_RJ0.2⟩
theorem pd_32 : (parseMethodDescriptor "([C)V").map (fun d => d.parameters.length) = some 1 := by decide +kernel
theorem yk_J0_init_905df : YOK Y_J0_init_905df 1 := ⟨cd_J0_init_905df, ini_RJ0, pn_RJ0.1, pd_32, rfl, pn_RJ0.2⟩
theorem pd_33 : (parseMethodDescriptor "()Ljava/lang/String;").map (fun d => d.parameters.length) = some 0 := by decide +kernel
theorem yk_X9_word : YOK Y_X9_word 0 := ⟨cd_X9_word, ini_RX9, pn_RX9.1, pd_33, rfl, pn_RX9.2⟩
theorem yk_X2_readCabin : YOK Y_X2_readCabin 0 := ⟨cd_X2_readCabin, ini_RX2, pn_RX2.1, pd_14, rfl, pn_RX2.2⟩
theorem yk_X2_mealHere : YOK Y_X2_mealHere 0 := ⟨cd_X2_mealHere, ini_RX2, pn_RX2.1, pd_4, rfl, pn_RX2.2⟩
theorem yk_X2_nextCabin : YOK Y_X2_nextCabin 0 := ⟨cd_X2_nextCabin, ini_RX2, pn_RX2.1, pd_4, rfl, pn_RX2.2⟩
theorem pd_34 : (parseMethodDescriptor "(LMealLoader$Meal;)Z").map (fun d => d.parameters.length) = some 1 := by decide +kernel
theorem yk_X2_readPlace : YOK Y_X2_readPlace 1 := ⟨cd_X2_readPlace, ini_RX2, pn_RX2.1, pd_34, rfl, pn_RX2.2⟩
theorem yk_X2_nextDiets : YOK Y_X2_nextDiets 0 := ⟨cd_X2_nextDiets, ini_RX2, pn_RX2.1, pd_4, rfl, pn_RX2.2⟩
theorem yk_X2_readMeal : YOK Y_X2_readMeal 0 := ⟨cd_X2_readMeal, ini_RX2, pn_RX2.1, pd_14, rfl, pn_RX2.2⟩
theorem yk_X2_readTrolley : YOK Y_X2_readTrolley 0 := ⟨cd_X2_readTrolley, ini_RX2, pn_RX2.1, pd_14, rfl, pn_RX2.2⟩
theorem yk_X2_readGuests : YOK Y_X2_readGuests 0 := ⟨cd_X2_readGuests, ini_RX2, pn_RX2.1, pd_14, rfl, pn_RX2.2⟩
theorem yk_X2_nextWish : YOK Y_X2_nextWish 1 := ⟨cd_X2_nextWish, ini_RX2, pn_RX2.1, pd_5, rfl, pn_RX2.2⟩
theorem yk_X2_readGuest : YOK Y_X2_readGuest 0 := ⟨cd_X2_readGuest, ini_RX2, pn_RX2.1, pd_14, rfl, pn_RX2.2⟩
theorem yk_X2_readStatement : YOK Y_X2_readStatement 0 := ⟨cd_X2_readStatement, ini_RX2, pn_RX2.1, pd_14, rfl, pn_RX2.2⟩
theorem pd_35 : (parseMethodDescriptor "([BILMealLoader$Flight;LMealLoader$Plan;)Z").map (fun d => d.parameters.length) = some 4 := by decide +kernel
theorem yk_X2_read : YOK Y_X2_read 4 := ⟨cd_X2_read, ini_RX2, pn_RX2.1, pd_35, rfl, pn_RX2.2⟩
theorem pn_RX3 : (RX3 ≠ "java/lang/invoke/MethodHandle" ∧ RX3 ≠ "java/lang/invoke/VarHandle") ∧ plainName RX3 = true := ⟨⟨by decide +kernel, by decide +kernel⟩, by decide +kernel⟩
theorem yk_X3_init : YOK Y_X3_init 1 := ⟨cd_X3_init, ini_RX3, pn_RX3.1, pd_1, rfl, pn_RX3.2⟩
theorem yk_X3_add : YOK Y_X3_add 1 := ⟨cd_X3_add, ini_RX3, pn_RX3.1, pd_3, rfl, pn_RX3.2⟩
theorem yk_X3_takeBack : YOK Y_X3_takeBack 1 := ⟨cd_X3_takeBack, ini_RX3, pn_RX3.1, pd_3, rfl, pn_RX3.2⟩
theorem pn_RX4 : (RX4 ≠ "java/lang/invoke/MethodHandle" ∧ RX4 ≠ "java/lang/invoke/VarHandle") ∧ plainName RX4 = true := ⟨⟨by decide +kernel, by decide +kernel⟩, by decide +kernel⟩
theorem yk_X4_init : YOK Y_X4_init 0 := ⟨cd_X4_init, ini_RX4, pn_RX4.1, pd_0, rfl, pn_RX4.2⟩
theorem yk_X4_begin : YOK Y_X4_begin 1 := ⟨cd_X4_begin, ini_RX4, pn_RX4.1, pd_3, rfl, pn_RX4.2⟩
theorem yk_X4_reach : YOK Y_X4_reach 2 := ⟨cd_X4_reach, ini_RX4, pn_RX4.1, pd_10, rfl, pn_RX4.2⟩
theorem yk_X4_findMover : YOK Y_X4_findMover 3 := ⟨cd_X4_findMover, ini_RX4, pn_RX4.1, pd_27, rfl, pn_RX4.2⟩
theorem yk_X4_moveAlong : YOK Y_X4_moveAlong 2 := ⟨cd_X4_moveAlong, ini_RX4, pn_RX4.1, pd_10, rfl, pn_RX4.2⟩
theorem yk_X4_matchOneMore : YOK Y_X4_matchOneMore 1 := ⟨cd_X4_matchOneMore, ini_RX4, pn_RX4.1, pd_21, rfl, pn_RX4.2⟩
theorem yk_X4_giveBack : YOK Y_X4_giveBack 1 := ⟨cd_X4_giveBack, ini_RX4, pn_RX4.1, pd_7, rfl, pn_RX4.2⟩
theorem yk_X4_canHave : YOK Y_X4_canHave 2 := ⟨cd_X4_canHave, ini_RX4, pn_RX4.1, pd_8, rfl, pn_RX4.2⟩
theorem yk_X4_match : YOK Y_X4_match 1 := ⟨cd_X4_match, ini_RX4, pn_RX4.1, pd_3, rfl, pn_RX4.2⟩
theorem pn_RX5 : (RX5 ≠ "java/lang/invoke/MethodHandle" ∧ RX5 ≠ "java/lang/invoke/VarHandle") ∧ plainName RX5 = true := ⟨⟨by decide +kernel, by decide +kernel⟩, by decide +kernel⟩
theorem yk_X5_init : YOK Y_X5_init 0 := ⟨cd_X5_init, ini_RX5, pn_RX5.1, pd_0, rfl, pn_RX5.2⟩
theorem pn_RX6 : (RX6 ≠ "java/lang/invoke/MethodHandle" ∧ RX6 ≠ "java/lang/invoke/VarHandle") ∧ plainName RX6 = true := ⟨⟨by decide +kernel, by decide +kernel⟩, by decide +kernel⟩
theorem yk_X6_init : YOK Y_X6_init 0 := ⟨cd_X6_init, ini_RX6, pn_RX6.1, pd_0, rfl, pn_RX6.2⟩
theorem yk_X6_greatestRemainder : YOK Y_X6_greatestRemainder 1 := ⟨cd_X6_greatestRemainder, ini_RX6, pn_RX6.1, pd_5, rfl, pn_RX6.2⟩
theorem pd_36 : (parseMethodDescriptor "(LMealLoader$Plan;II)V").map (fun d => d.parameters.length) = some 3 := by decide +kernel
theorem yk_X6_divide : YOK Y_X6_divide 3 := ⟨cd_X6_divide, ini_RX6, pn_RX6.1, pd_36, rfl, pn_RX6.2⟩
theorem yk_X6_reckon : YOK Y_X6_reckon 1 := ⟨cd_X6_reckon, ini_RX6, pn_RX6.1, pd_3, rfl, pn_RX6.2⟩
theorem yk_X6_allUnits : YOK Y_X6_allUnits 0 := ⟨cd_X6_allUnits, ini_RX6, pn_RX6.1, pd_4, rfl, pn_RX6.2⟩
theorem pd_37 : (parseMethodDescriptor "(LMealLoader$Plan;I)I").map (fun d => d.parameters.length) = some 2 := by decide +kernel
theorem yk_X6_slotsOfMenu : YOK Y_X6_slotsOfMenu 2 := ⟨cd_X6_slotsOfMenu, ini_RX6, pn_RX6.1, pd_37, rfl, pn_RX6.2⟩
theorem yk_X7_init : YOK Y_X7_init 0 := ⟨cd_X7_init, ini_RX7, pn_RX7.1, pd_0, rfl, pn_RX7.2⟩
theorem yk_X7_menuOf : YOK Y_X7_menuOf 1 := ⟨cd_X7_menuOf, ini_RX7, pn_RX7.1, pd_5, rfl, pn_RX7.2⟩
theorem yk_X7_trolleysOf : YOK Y_X7_trolleysOf 1 := ⟨cd_X7_trolleysOf, ini_RX7, pn_RX7.1, pd_5, rfl, pn_RX7.2⟩
theorem pn_RX8 : (RX8 ≠ "java/lang/invoke/MethodHandle" ∧ RX8 ≠ "java/lang/invoke/VarHandle") ∧ plainName RX8 = true := ⟨⟨by decide +kernel, by decide +kernel⟩, by decide +kernel⟩
theorem yk_X8_init : YOK Y_X8_init 0 := ⟨cd_X8_init, ini_RX8, pn_RX8.1, pd_0, rfl, pn_RX8.2⟩
theorem yk_X8_give : YOK Y_X8_give 2 := ⟨cd_X8_give, ini_RX8, pn_RX8.1, pd_10, rfl, pn_RX8.2⟩
theorem yk_X8_mostLeft : YOK Y_X8_mostLeft 2 := ⟨cd_X8_mostLeft, ini_RX8, pn_RX8.1, pd_37, rfl, pn_RX8.2⟩
theorem yk_X8_servePlain : YOK Y_X8_servePlain 1 := ⟨cd_X8_servePlain, ini_RX8, pn_RX8.1, pd_3, rfl, pn_RX8.2⟩
theorem yk_X8_addUpWaste : YOK Y_X8_addUpWaste 1 := ⟨cd_X8_addUpWaste, ini_RX8, pn_RX8.1, pd_1, rfl, pn_RX8.2⟩
theorem pd_38 : (parseMethodDescriptor "(LMealLoader$Flight;[I)V").map (fun d => d.parameters.length) = some 2 := by decide +kernel
theorem yk_X8_reckon : YOK Y_X8_reckon 2 := ⟨cd_X8_reckon, ini_RX8, pn_RX8.1, pd_38, rfl, pn_RX8.2⟩
theorem pn_RX10 : (RX10 ≠ "java/lang/invoke/MethodHandle" ∧ RX10 ≠ "java/lang/invoke/VarHandle") ∧ plainName RX10 = true := ⟨⟨by decide +kernel, by decide +kernel⟩, by decide +kernel⟩
theorem yk_X10_init : YOK Y_X10_init 0 := ⟨cd_X10_init, ini_RX10, pn_RX10.1, pd_0, rfl, pn_RX10.2⟩
theorem yk_X10_appendBytes : YOK Y_X10_appendBytes 1 := ⟨cd_X10_appendBytes, ini_RX10, pn_RX10.1, pd_7, rfl, pn_RX10.2⟩
theorem pd_39 : (parseMethodDescriptor "(IIIII)I").map (fun d => d.parameters.length) = some 5 := by decide +kernel
theorem yk_X10_feed : YOK Y_X10_feed 5 := ⟨cd_X10_feed, ini_RX10, pn_RX10.1, pd_39, rfl, pn_RX10.2⟩
theorem yk_X10_forgetPast : YOK Y_X10_forgetPast 0 := ⟨cd_X10_forgetPast, ini_RX10, pn_RX10.1, pd_0, rfl, pn_RX10.2⟩
theorem yk_X10_load : YOK Y_X10_load 1 := ⟨cd_X10_load, ini_RX10, pn_RX10.1, pd_5, rfl, pn_RX10.2⟩
theorem yk_X10_errorCode : YOK Y_X10_errorCode 0 := ⟨cd_X10_errorCode, ini_RX10, pn_RX10.1, pd_4, rfl, pn_RX10.2⟩
theorem yk_X10_errorPosition : YOK Y_X10_errorPosition 0 := ⟨cd_X10_errorPosition, ini_RX10, pn_RX10.1, pd_4, rfl, pn_RX10.2⟩
theorem pd_40 : (parseMethodDescriptor "()LMealLoader$Order;").map (fun d => d.parameters.length) = some 0 := by decide +kernel
theorem yk_X10_freshOrder : YOK Y_X10_freshOrder 0 := ⟨cd_X10_freshOrder, ini_RX10, pn_RX10.1, pd_40, rfl, pn_RX10.2⟩
theorem yk_X10_count : YOK Y_X10_count 1 := ⟨cd_X10_count, ini_RX10, pn_RX10.1, pd_5, rfl, pn_RX10.2⟩
theorem yk_X10_requireCabin : YOK Y_X10_requireCabin 1 := ⟨cd_X10_requireCabin, ini_RX10, pn_RX10.1, pd_7, rfl, pn_RX10.2⟩
theorem yk_X10_cabin : YOK Y_X10_cabin 2 := ⟨cd_X10_cabin, ini_RX10, pn_RX10.1, pd_9, rfl, pn_RX10.2⟩
theorem yk_X10_requireMeal : YOK Y_X10_requireMeal 1 := ⟨cd_X10_requireMeal, ini_RX10, pn_RX10.1, pd_7, rfl, pn_RX10.2⟩
theorem pd_41 : (parseMethodDescriptor "()LMealLoader$Service;").map (fun d => d.parameters.length) = some 0 := by decide +kernel
theorem yk_X10_freshService : YOK Y_X10_freshService 0 := ⟨cd_X10_freshService, ini_RX10, pn_RX10.1, pd_41, rfl, pn_RX10.2⟩
theorem yk_X10_meal : YOK Y_X10_meal 2 := ⟨cd_X10_meal, ini_RX10, pn_RX10.1, pd_9, rfl, pn_RX10.2⟩
theorem yk_X10_requirePassenger : YOK Y_X10_requirePassenger 1 := ⟨cd_X10_requirePassenger, ini_RX10, pn_RX10.1, pd_7, rfl, pn_RX10.2⟩
theorem yk_X10_passenger : YOK Y_X10_passenger 2 := ⟨cd_X10_passenger, ini_RX10, pn_RX10.1, pd_9, rfl, pn_RX10.2⟩
theorem yk_X10_requireTrolley : YOK Y_X10_requireTrolley 1 := ⟨cd_X10_requireTrolley, ini_RX10, pn_RX10.1, pd_7, rfl, pn_RX10.2⟩
theorem yk_X10_trolley : YOK Y_X10_trolley 2 := ⟨cd_X10_trolley, ini_RX10, pn_RX10.1, pd_9, rfl, pn_RX10.2⟩
theorem yk_X10_held : YOK Y_X10_held 2 := ⟨cd_X10_held, ini_RX10, pn_RX10.1, pd_9, rfl, pn_RX10.2⟩
theorem yk_X10_topUpAt : YOK Y_X10_topUpAt 2 := ⟨cd_X10_topUpAt, ini_RX10, pn_RX10.1, pd_9, rfl, pn_RX10.2⟩
theorem yk_X10_requireNeeds : YOK Y_X10_requireNeeds 1 := ⟨cd_X10_requireNeeds, ini_RX10, pn_RX10.1, pd_7, rfl, pn_RX10.2⟩
theorem yk_X10_refuse : YOK Y_X10_refuse 1 := ⟨cd_X10_refuse, ini_RX10, pn_RX10.1, pd_7, rfl, pn_RX10.2⟩
theorem yk_X10_requireFlight : YOK Y_X10_requireFlight 0 := ⟨cd_X10_requireFlight, ini_RX10, pn_RX10.1, pd_0, rfl, pn_RX10.2⟩
theorem yk_X10_requireSeat : YOK Y_X10_requireSeat 1 := ⟨cd_X10_requireSeat, ini_RX10, pn_RX10.1, pd_7, rfl, pn_RX10.2⟩
theorem yk_X10_beginAct : YOK Y_X10_beginAct 0 := ⟨cd_X10_beginAct, ini_RX10, pn_RX10.1, pd_0, rfl, pn_RX10.2⟩
theorem yk_X10_board : YOK Y_X10_board 3 := ⟨cd_X10_board, ini_RX10, pn_RX10.1, pd_27, rfl, pn_RX10.2⟩
theorem yk_X10_change : YOK Y_X10_change 2 := ⟨cd_X10_change, ini_RX10, pn_RX10.1, pd_9, rfl, pn_RX10.2⟩
theorem yk_X10_leave : YOK Y_X10_leave 1 := ⟨cd_X10_leave, ini_RX10, pn_RX10.1, pd_5, rfl, pn_RX10.2⟩
theorem yk_X10_setNeeds : YOK Y_X10_setNeeds 2 := ⟨cd_X10_setNeeds, ini_RX10, pn_RX10.1, pd_9, rfl, pn_RX10.2⟩
theorem yk_X10_requireOpen : YOK Y_X10_requireOpen 0 := ⟨cd_X10_requireOpen, ini_RX10, pn_RX10.1, pd_0, rfl, pn_RX10.2⟩
theorem yk_X10_loadOrder : YOK Y_X10_loadOrder 0 := ⟨cd_X10_loadOrder, ini_RX10, pn_RX10.1, pd_4, rfl, pn_RX10.2⟩
theorem yk_X10_requireUnits : YOK Y_X10_requireUnits 1 := ⟨cd_X10_requireUnits, ini_RX10, pn_RX10.1, pd_7, rfl, pn_RX10.2⟩
theorem yk_X10_store : YOK Y_X10_store 2 := ⟨cd_X10_store, ini_RX10, pn_RX10.1, pd_9, rfl, pn_RX10.2⟩
theorem yk_X10_unload : YOK Y_X10_unload 2 := ⟨cd_X10_unload, ini_RX10, pn_RX10.1, pd_9, rfl, pn_RX10.2⟩
theorem yk_X10_topUp : YOK Y_X10_topUp 2 := ⟨cd_X10_topUp, ini_RX10, pn_RX10.1, pd_9, rfl, pn_RX10.2⟩
theorem yk_X10_advance : YOK Y_X10_advance 1 := ⟨cd_X10_advance, ini_RX10, pn_RX10.1, pd_5, rfl, pn_RX10.2⟩
theorem yk_X10_reason : YOK Y_X10_reason 0 := ⟨cd_X10_reason, ini_RX10, pn_RX10.1, pd_4, rfl, pn_RX10.2⟩
theorem yk_X10_outlook : YOK Y_X10_outlook 1 := ⟨cd_X10_outlook, ini_RX10, pn_RX10.1, pd_5, rfl, pn_RX10.2⟩
theorem yk_X10_mealFor : YOK Y_X10_mealFor 1 := ⟨cd_X10_mealFor, ini_RX10, pn_RX10.1, pd_5, rfl, pn_RX10.2⟩
theorem yk_X10_serve : YOK Y_X10_serve 0 := ⟨cd_X10_serve, ini_RX10, pn_RX10.1, pd_4, rfl, pn_RX10.2⟩
theorem pd_42 : (parseMethodDescriptor "(I)J").map (fun d => d.parameters.length) = some 1 := by decide +kernel
theorem yk_X10_account : YOK Y_X10_account 1 := ⟨cd_X10_account, ini_RX10, pn_RX10.1, pd_42, rfl, pn_RX10.2⟩
theorem pd_43 : (parseMethodDescriptor "()F").map (fun d => d.parameters.length) = some 0 := by decide +kernel
theorem yk_X10_wasteShare : YOK Y_X10_wasteShare 0 := ⟨cd_X10_wasteShare, ini_RX10, pn_RX10.1, pd_43, rfl, pn_RX10.2⟩
theorem pd_44 : (parseMethodDescriptor "(F)I").map (fun d => d.parameters.length) = some 1 := by decide +kernel
theorem yk_X10_bitsOfShare : YOK Y_X10_bitsOfShare 1 := ⟨cd_X10_bitsOfShare, ini_RX10, pn_RX10.1, pd_44, rfl, pn_RX10.2⟩
theorem yk_X10_wasteBits : YOK Y_X10_wasteBits 0 := ⟨cd_X10_wasteBits, ini_RX10, pn_RX10.1, pd_4, rfl, pn_RX10.2⟩
theorem pd_45 : (parseMethodDescriptor "(D)J").map (fun d => d.parameters.length) = some 1 := by decide +kernel
theorem yk_X10_bitsOfCost : YOK Y_X10_bitsOfCost 1 := ⟨cd_X10_bitsOfCost, ini_RX10, pn_RX10.1, pd_45, rfl, pn_RX10.2⟩
theorem pd_46 : (parseMethodDescriptor "()J").map (fun d => d.parameters.length) = some 0 := by decide +kernel
theorem yk_X10_costBits : YOK Y_X10_costBits 0 := ⟨cd_X10_costBits, ini_RX10, pn_RX10.1, pd_46, rfl, pn_RX10.2⟩
theorem yk_X10_undo : YOK Y_X10_undo 0 := ⟨cd_X10_undo, ini_RX10, pn_RX10.1, pd_4, rfl, pn_RX10.2⟩
theorem yk_X10_requireSlot : YOK Y_X10_requireSlot 1 := ⟨cd_X10_requireSlot, ini_RX10, pn_RX10.1, pd_7, rfl, pn_RX10.2⟩
theorem yk_X10_keep : YOK Y_X10_keep 1 := ⟨cd_X10_keep, ini_RX10, pn_RX10.1, pd_5, rfl, pn_RX10.2⟩
theorem yk_X10_restore : YOK Y_X10_restore 1 := ⟨cd_X10_restore, ini_RX10, pn_RX10.1, pd_5, rfl, pn_RX10.2⟩
theorem pd_47 : (parseMethodDescriptor "(C)V").map (fun d => d.parameters.length) = some 1 := by decide +kernel
theorem yk_X10_writeSign : YOK Y_X10_writeSign 1 := ⟨cd_X10_writeSign, ini_RX10, pn_RX10.1, pd_47, rfl, pn_RX10.2⟩
theorem pd_48 : (parseMethodDescriptor "(ILjava/lang/String;)V").map (fun d => d.parameters.length) = some 2 := by decide +kernel
theorem yk_X10_writeUnits : YOK Y_X10_writeUnits 2 := ⟨cd_X10_writeUnits, ini_RX10, pn_RX10.1, pd_48, rfl, pn_RX10.2⟩
theorem yk_X10_writeTrolley : YOK Y_X10_writeTrolley 1 := ⟨cd_X10_writeTrolley, ini_RX10, pn_RX10.1, pd_5, rfl, pn_RX10.2⟩
theorem yk_X10_outputByte : YOK Y_X10_outputByte 1 := ⟨cd_X10_outputByte, ini_RX10, pn_RX10.1, pd_5, rfl, pn_RX10.2⟩
theorem pn_RX11 : (RX11 ≠ "java/lang/invoke/MethodHandle" ∧ RX11 ≠ "java/lang/invoke/VarHandle") ∧ plainName RX11 = true := ⟨⟨by decide +kernel, by decide +kernel⟩, by decide +kernel⟩
theorem yk_X11_init : YOK Y_X11_init 0 := ⟨cd_X11_init, ini_RX11, pn_RX11.1, pd_0, rfl, pn_RX11.2⟩
theorem yk_X11_thrown : YOK Y_X11_thrown 0 := ⟨cd_X11_thrown, ini_RX11, pn_RX11.1, pd_4, rfl, pn_RX11.2⟩
theorem yk_X11_refuse : YOK Y_X11_refuse 1 := ⟨cd_X11_refuse, ini_RX11, pn_RX11.1, pd_5, rfl, pn_RX11.2⟩
theorem yk_X11_told : YOK Y_X11_told 1 := ⟨cd_X11_told, ini_RX11, pn_RX11.1, pd_5, rfl, pn_RX11.2⟩
theorem yk_X11_isRefused : YOK Y_X11_isRefused 1 := ⟨cd_X11_isRefused, ini_RX11, pn_RX11.1, pd_21, rfl, pn_RX11.2⟩
theorem pd_49 : (parseMethodDescriptor "(III)Z").map (fun d => d.parameters.length) = some 3 := by decide +kernel
theorem yk_X11_in : YOK Y_X11_in 3 := ⟨cd_X11_in, ini_RX11, pn_RX11.1, pd_49, rfl, pn_RX11.2⟩
theorem yk_X11_has : YOK Y_X11_has 2 := ⟨cd_X11_has, ini_RX11, pn_RX11.1, pd_8, rfl, pn_RX11.2⟩
theorem yk_X11_ofCabin : YOK Y_X11_ofCabin 2 := ⟨cd_X11_ofCabin, ini_RX11, pn_RX11.1, pd_9, rfl, pn_RX11.2⟩
theorem yk_X11_ofMeal : YOK Y_X11_ofMeal 2 := ⟨cd_X11_ofMeal, ini_RX11, pn_RX11.1, pd_9, rfl, pn_RX11.2⟩
theorem yk_X11_ofTrolley : YOK Y_X11_ofTrolley 2 := ⟨cd_X11_ofTrolley, ini_RX11, pn_RX11.1, pd_9, rfl, pn_RX11.2⟩
theorem yk_X11_passengerAt : YOK Y_X11_passengerAt 2 := ⟨cd_X11_passengerAt, ini_RX11, pn_RX11.1, pd_9, rfl, pn_RX11.2⟩
theorem yk_X11_of : YOK Y_X11_of 2 := ⟨cd_X11_of, ini_RX11, pn_RX11.1, pd_9, rfl, pn_RX11.2⟩
theorem yk_X11_unitAt : YOK Y_X11_unitAt 2 := ⟨cd_X11_unitAt, ini_RX11, pn_RX11.1, pd_9, rfl, pn_RX11.2⟩
theorem yk_X11_remembers : YOK Y_X11_remembers 0 := ⟨cd_X11_remembers, ini_RX11, pn_RX11.1, pd_0, rfl, pn_RX11.2⟩
theorem yk_X11_undo : YOK Y_X11_undo 0 := ⟨cd_X11_undo, ini_RX11, pn_RX11.1, pd_4, rfl, pn_RX11.2⟩
theorem yk_X11_phase : YOK Y_X11_phase 0 := ⟨cd_X11_phase, ini_RX11, pn_RX11.1, pd_4, rfl, pn_RX11.2⟩
theorem yk_X11_keep : YOK Y_X11_keep 1 := ⟨cd_X11_keep, ini_RX11, pn_RX11.1, pd_5, rfl, pn_RX11.2⟩
theorem yk_X11_restore : YOK Y_X11_restore 1 := ⟨cd_X11_restore, ini_RX11, pn_RX11.1, pd_5, rfl, pn_RX11.2⟩
theorem yk_X11_lays : YOK Y_X11_lays 1 := ⟨cd_X11_lays, ini_RX11, pn_RX11.1, pd_7, rfl, pn_RX11.2⟩
theorem yk_X11_feed : YOK Y_X11_feed 5 := ⟨cd_X11_feed, ini_RX11, pn_RX11.1, pd_39, rfl, pn_RX11.2⟩
theorem yk_X11_errorCode : YOK Y_X11_errorCode 0 := ⟨cd_X11_errorCode, ini_RX11, pn_RX11.1, pd_4, rfl, pn_RX11.2⟩
theorem yk_X11_errorPosition : YOK Y_X11_errorPosition 0 := ⟨cd_X11_errorPosition, ini_RX11, pn_RX11.1, pd_4, rfl, pn_RX11.2⟩
theorem yk_X11_byteAt : YOK Y_X11_byteAt 1 := ⟨cd_X11_byteAt, ini_RX11, pn_RX11.1, pd_5, rfl, pn_RX11.2⟩
theorem yk_X11_isLetter : YOK Y_X11_isLetter 1 := ⟨cd_X11_isLetter, ini_RX11, pn_RX11.1, pd_21, rfl, pn_RX11.2⟩
theorem yk_X11_isDigit : YOK Y_X11_isDigit 1 := ⟨cd_X11_isDigit, ini_RX11, pn_RX11.1, pd_21, rfl, pn_RX11.2⟩
theorem yk_X11_peek : YOK Y_X11_peek 0 := ⟨cd_X11_peek, ini_RX11, pn_RX11.1, pd_4, rfl, pn_RX11.2⟩
theorem yk_X11_fails : YOK Y_X11_fails 1 := ⟨cd_X11_fails, ini_RX11, pn_RX11.1, pd_21, rfl, pn_RX11.2⟩
theorem yk_X11_passes : YOK Y_X11_passes 0 := ⟨cd_X11_passes, ini_RX11, pn_RX11.1, pd_14, rfl, pn_RX11.2⟩
theorem yk_X11_letters : YOK Y_X11_letters 0 := ⟨cd_X11_letters, ini_RX11, pn_RX11.1, pd_4, rfl, pn_RX11.2⟩
theorem yk_X11_nextWord : YOK Y_X11_nextWord 0 := ⟨cd_X11_nextWord, ini_RX11, pn_RX11.1, pd_46, rfl, pn_RX11.2⟩
theorem pd_50 : (parseMethodDescriptor "(J)Z").map (fun d => d.parameters.length) = some 1 := by decide +kernel
theorem yk_X11_passesWord : YOK Y_X11_passesWord 1 := ⟨cd_X11_passesWord, ini_RX11, pn_RX11.1, pd_50, rfl, pn_RX11.2⟩
theorem yk_X11_looksNumber : YOK Y_X11_looksNumber 2 := ⟨cd_X11_looksNumber, ini_RX11, pn_RX11.1, pd_8, rfl, pn_RX11.2⟩
theorem yk_X11_readNumber : YOK Y_X11_readNumber 2 := ⟨cd_X11_readNumber, ini_RX11, pn_RX11.1, pd_8, rfl, pn_RX11.2⟩
theorem yk_X11_readSemicolon : YOK Y_X11_readSemicolon 0 := ⟨cd_X11_readSemicolon, ini_RX11, pn_RX11.1, pd_14, rfl, pn_RX11.2⟩
theorem yk_X11_looksName : YOK Y_X11_looksName 0 := ⟨cd_X11_looksName, ini_RX11, pn_RX11.1, pd_14, rfl, pn_RX11.2⟩
theorem pd_51 : (parseMethodDescriptor "(J)I").map (fun d => d.parameters.length) = some 1 := by decide +kernel
theorem yk_X11_cabinNamed : YOK Y_X11_cabinNamed 1 := ⟨cd_X11_cabinNamed, ini_RX11, pn_RX11.1, pd_51, rfl, pn_RX11.2⟩
theorem yk_X11_mealNamed : YOK Y_X11_mealNamed 1 := ⟨cd_X11_mealNamed, ini_RX11, pn_RX11.1, pd_51, rfl, pn_RX11.2⟩
theorem yk_X11_looksCabin : YOK Y_X11_looksCabin 0 := ⟨cd_X11_looksCabin, ini_RX11, pn_RX11.1, pd_14, rfl, pn_RX11.2⟩
theorem yk_X11_readCabinName : YOK Y_X11_readCabinName 0 := ⟨cd_X11_readCabinName, ini_RX11, pn_RX11.1, pd_14, rfl, pn_RX11.2⟩
theorem yk_X11_readDiets : YOK Y_X11_readDiets 0 := ⟨cd_X11_readDiets, ini_RX11, pn_RX11.1, pd_14, rfl, pn_RX11.2⟩
theorem yk_X11_readTime : YOK Y_X11_readTime 0 := ⟨cd_X11_readTime, ini_RX11, pn_RX11.1, pd_14, rfl, pn_RX11.2⟩
theorem yk_X11_readLead : YOK Y_X11_readLead 0 := ⟨cd_X11_readLead, ini_RX11, pn_RX11.1, pd_14, rfl, pn_RX11.2⟩
theorem yk_X11_readCabin : YOK Y_X11_readCabin 0 := ⟨cd_X11_readCabin, ini_RX11, pn_RX11.1, pd_14, rfl, pn_RX11.2⟩
theorem yk_X11_readMenu : YOK Y_X11_readMenu 1 := ⟨cd_X11_readMenu, ini_RX11, pn_RX11.1, pd_21, rfl, pn_RX11.2⟩
theorem yk_X11_readMeal : YOK Y_X11_readMeal 0 := ⟨cd_X11_readMeal, ini_RX11, pn_RX11.1, pd_14, rfl, pn_RX11.2⟩
theorem yk_X11_readTrolley : YOK Y_X11_readTrolley 0 := ⟨cd_X11_readTrolley, ini_RX11, pn_RX11.1, pd_14, rfl, pn_RX11.2⟩
theorem yk_X11_draftFree : YOK Y_X11_draftFree 1 := ⟨cd_X11_draftFree, ini_RX11, pn_RX11.1, pd_5, rfl, pn_RX11.2⟩
theorem yk_X11_adds : YOK Y_X11_adds 3 := ⟨cd_X11_adds, ini_RX11, pn_RX11.1, pd_6, rfl, pn_RX11.2⟩
theorem yk_X11_readGuests : YOK Y_X11_readGuests 0 := ⟨cd_X11_readGuests, ini_RX11, pn_RX11.1, pd_14, rfl, pn_RX11.2⟩
theorem yk_X11_readGuest : YOK Y_X11_readGuest 0 := ⟨cd_X11_readGuest, ini_RX11, pn_RX11.1, pd_14, rfl, pn_RX11.2⟩
theorem yk_X11_isFull : YOK Y_X11_isFull 1 := ⟨cd_X11_isFull, ini_RX11, pn_RX11.1, pd_50, rfl, pn_RX11.2⟩
theorem yk_X11_isStatement : YOK Y_X11_isStatement 1 := ⟨cd_X11_isStatement, ini_RX11, pn_RX11.1, pd_50, rfl, pn_RX11.2⟩
theorem yk_X11_readBehind : YOK Y_X11_readBehind 1 := ⟨cd_X11_readBehind, ini_RX11, pn_RX11.1, pd_50, rfl, pn_RX11.2⟩
theorem yk_X11_readStatement : YOK Y_X11_readStatement 0 := ⟨cd_X11_readStatement, ini_RX11, pn_RX11.1, pd_14, rfl, pn_RX11.2⟩
theorem yk_X11_readFlight : YOK Y_X11_readFlight 0 := ⟨cd_X11_readFlight, ini_RX11, pn_RX11.1, pd_14, rfl, pn_RX11.2⟩
theorem yk_X11_takesFlight : YOK Y_X11_takesFlight 0 := ⟨cd_X11_takesFlight, ini_RX11, pn_RX11.1, pd_0, rfl, pn_RX11.2⟩
theorem yk_X11_load : YOK Y_X11_load 1 := ⟨cd_X11_load, ini_RX11, pn_RX11.1, pd_5, rfl, pn_RX11.2⟩
theorem yk_X11_cabins : YOK Y_X11_cabins 0 := ⟨cd_X11_cabins, ini_RX11, pn_RX11.1, pd_4, rfl, pn_RX11.2⟩
theorem yk_X11_meals : YOK Y_X11_meals 0 := ⟨cd_X11_meals, ini_RX11, pn_RX11.1, pd_4, rfl, pn_RX11.2⟩
theorem yk_X11_trolleys : YOK Y_X11_trolleys 0 := ⟨cd_X11_trolleys, ini_RX11, pn_RX11.1, pd_4, rfl, pn_RX11.2⟩
theorem yk_X11_isSpecial : YOK Y_X11_isSpecial 1 := ⟨cd_X11_isSpecial, ini_RX11, pn_RX11.1, pd_21, rfl, pn_RX11.2⟩
theorem yk_X11_suits : YOK Y_X11_suits 2 := ⟨cd_X11_suits, ini_RX11, pn_RX11.1, pd_8, rfl, pn_RX11.2⟩
theorem yk_X11_suiting : YOK Y_X11_suiting 1 := ⟨cd_X11_suiting, ini_RX11, pn_RX11.1, pd_5, rfl, pn_RX11.2⟩
theorem yk_X11_cheapest : YOK Y_X11_cheapest 1 := ⟨cd_X11_cheapest, ini_RX11, pn_RX11.1, pd_5, rfl, pn_RX11.2⟩
theorem yk_X11_plainIn : YOK Y_X11_plainIn 1 := ⟨cd_X11_plainIn, ini_RX11, pn_RX11.1, pd_5, rfl, pn_RX11.2⟩
theorem yk_X11_sharesOf : YOK Y_X11_sharesOf 1 := ⟨cd_X11_sharesOf, ini_RX11, pn_RX11.1, pd_5, rfl, pn_RX11.2⟩
theorem yk_X11_greatestRemainder : YOK Y_X11_greatestRemainder 1 := ⟨cd_X11_greatestRemainder, ini_RX11, pn_RX11.1, pd_5, rfl, pn_RX11.2⟩
theorem yk_X11_ordersFor : YOK Y_X11_ordersFor 1 := ⟨cd_X11_ordersFor, ini_RX11, pn_RX11.1, pd_7, rfl, pn_RX11.2⟩
theorem yk_X11_laysOrder : YOK Y_X11_laysOrder 0 := ⟨cd_X11_laysOrder, ini_RX11, pn_RX11.1, pd_0, rfl, pn_RX11.2⟩
theorem yk_X11_loadedOf : YOK Y_X11_loadedOf 1 := ⟨cd_X11_loadedOf, ini_RX11, pn_RX11.1, pd_5, rfl, pn_RX11.2⟩
theorem yk_X11_allLoaded : YOK Y_X11_allLoaded 0 := ⟨cd_X11_allLoaded, ini_RX11, pn_RX11.1, pd_4, rfl, pn_RX11.2⟩
theorem yk_X11_comingOf : YOK Y_X11_comingOf 1 := ⟨cd_X11_comingOf, ini_RX11, pn_RX11.1, pd_5, rfl, pn_RX11.2⟩
theorem yk_X11_missingOf : YOK Y_X11_missingOf 1 := ⟨cd_X11_missingOf, ini_RX11, pn_RX11.1, pd_5, rfl, pn_RX11.2⟩
theorem yk_X11_freeOf : YOK Y_X11_freeOf 1 := ⟨cd_X11_freeOf, ini_RX11, pn_RX11.1, pd_5, rfl, pn_RX11.2⟩
theorem yk_X11_unitsIn : YOK Y_X11_unitsIn 1 := ⟨cd_X11_unitsIn, ini_RX11, pn_RX11.1, pd_5, rfl, pn_RX11.2⟩
theorem yk_X11_takesMeal : YOK Y_X11_takesMeal 2 := ⟨cd_X11_takesMeal, ini_RX11, pn_RX11.1, pd_8, rfl, pn_RX11.2⟩
theorem yk_X11_storesOne : YOK Y_X11_storesOne 1 := ⟨cd_X11_storesOne, ini_RX11, pn_RX11.1, pd_21, rfl, pn_RX11.2⟩
theorem yk_X11_storesMany : YOK Y_X11_storesMany 2 := ⟨cd_X11_storesMany, ini_RX11, pn_RX11.1, pd_9, rfl, pn_RX11.2⟩
theorem yk_X11_marksUnits : YOK Y_X11_marksUnits 0 := ⟨cd_X11_marksUnits, ini_RX11, pn_RX11.1, pd_0, rfl, pn_RX11.2⟩
theorem yk_X11_unitsBack : YOK Y_X11_unitsBack 0 := ⟨cd_X11_unitsBack, ini_RX11, pn_RX11.1, pd_0, rfl, pn_RX11.2⟩
theorem yk_X11_orderUnits : YOK Y_X11_orderUnits 0 := ⟨cd_X11_orderUnits, ini_RX11, pn_RX11.1, pd_4, rfl, pn_RX11.2⟩
theorem yk_X11_count : YOK Y_X11_count 1 := ⟨cd_X11_count, ini_RX11, pn_RX11.1, pd_5, rfl, pn_RX11.2⟩
theorem yk_X11_isCabin : YOK Y_X11_isCabin 1 := ⟨cd_X11_isCabin, ini_RX11, pn_RX11.1, pd_21, rfl, pn_RX11.2⟩
theorem yk_X11_isMeal : YOK Y_X11_isMeal 1 := ⟨cd_X11_isMeal, ini_RX11, pn_RX11.1, pd_21, rfl, pn_RX11.2⟩
theorem yk_X11_isTrolley : YOK Y_X11_isTrolley 1 := ⟨cd_X11_isTrolley, ini_RX11, pn_RX11.1, pd_21, rfl, pn_RX11.2⟩
theorem yk_X11_isPassenger : YOK Y_X11_isPassenger 1 := ⟨cd_X11_isPassenger, ini_RX11, pn_RX11.1, pd_21, rfl, pn_RX11.2⟩
theorem pd_52 : (parseMethodDescriptor "(IZ)I").map (fun d => d.parameters.length) = some 2 := by decide +kernel
theorem yk_X11_passengersIn : YOK Y_X11_passengersIn 2 := ⟨cd_X11_passengersIn, ini_RX11, pn_RX11.1, pd_52, rfl, pn_RX11.2⟩
theorem yk_X11_trolleysOf : YOK Y_X11_trolleysOf 2 := ⟨cd_X11_trolleysOf, ini_RX11, pn_RX11.1, pd_52, rfl, pn_RX11.2⟩
theorem yk_X11_menuOf : YOK Y_X11_menuOf 1 := ⟨cd_X11_menuOf, ini_RX11, pn_RX11.1, pd_5, rfl, pn_RX11.2⟩
theorem yk_X11_orderSlots : YOK Y_X11_orderSlots 1 := ⟨cd_X11_orderSlots, ini_RX11, pn_RX11.1, pd_5, rfl, pn_RX11.2⟩
theorem yk_X11_cabin : YOK Y_X11_cabin 2 := ⟨cd_X11_cabin, ini_RX11, pn_RX11.1, pd_9, rfl, pn_RX11.2⟩
theorem yk_X11_meal : YOK Y_X11_meal 2 := ⟨cd_X11_meal, ini_RX11, pn_RX11.1, pd_9, rfl, pn_RX11.2⟩
theorem yk_X11_passenger : YOK Y_X11_passenger 2 := ⟨cd_X11_passenger, ini_RX11, pn_RX11.1, pd_9, rfl, pn_RX11.2⟩
theorem yk_X11_trolley : YOK Y_X11_trolley 2 := ⟨cd_X11_trolley, ini_RX11, pn_RX11.1, pd_9, rfl, pn_RX11.2⟩
theorem yk_X11_held : YOK Y_X11_held 2 := ⟨cd_X11_held, ini_RX11, pn_RX11.1, pd_9, rfl, pn_RX11.2⟩
theorem yk_X11_topUpAt : YOK Y_X11_topUpAt 2 := ⟨cd_X11_topUpAt, ini_RX11, pn_RX11.1, pd_9, rfl, pn_RX11.2⟩
theorem yk_X11_refuses : YOK Y_X11_refuses 2 := ⟨cd_X11_refuses, ini_RX11, pn_RX11.1, pd_8, rfl, pn_RX11.2⟩
theorem yk_X11_isGoing : YOK Y_X11_isGoing 0 := ⟨cd_X11_isGoing, ini_RX11, pn_RX11.1, pd_14, rfl, pn_RX11.2⟩
theorem yk_X11_hasSeat : YOK Y_X11_hasSeat 1 := ⟨cd_X11_hasSeat, ini_RX11, pn_RX11.1, pd_21, rfl, pn_RX11.2⟩
theorem yk_X11_wrongBoarding : YOK Y_X11_wrongBoarding 3 := ⟨cd_X11_wrongBoarding, ini_RX11, pn_RX11.1, pd_27, rfl, pn_RX11.2⟩
theorem yk_X11_board : YOK Y_X11_board 3 := ⟨cd_X11_board, ini_RX11, pn_RX11.1, pd_27, rfl, pn_RX11.2⟩
theorem yk_X11_change : YOK Y_X11_change 2 := ⟨cd_X11_change, ini_RX11, pn_RX11.1, pd_9, rfl, pn_RX11.2⟩
theorem yk_X11_leave : YOK Y_X11_leave 1 := ⟨cd_X11_leave, ini_RX11, pn_RX11.1, pd_5, rfl, pn_RX11.2⟩
theorem yk_X11_setNeeds : YOK Y_X11_setNeeds 2 := ⟨cd_X11_setNeeds, ini_RX11, pn_RX11.1, pd_9, rfl, pn_RX11.2⟩
theorem yk_X11_whyNotLoad : YOK Y_X11_whyNotLoad 0 := ⟨cd_X11_whyNotLoad, ini_RX11, pn_RX11.1, pd_4, rfl, pn_RX11.2⟩
theorem yk_X11_storesOrder : YOK Y_X11_storesOrder 0 := ⟨cd_X11_storesOrder, ini_RX11, pn_RX11.1, pd_4, rfl, pn_RX11.2⟩
theorem yk_X11_loadOrder : YOK Y_X11_loadOrder 0 := ⟨cd_X11_loadOrder, ini_RX11, pn_RX11.1, pd_4, rfl, pn_RX11.2⟩
theorem yk_X11_wrongUnits : YOK Y_X11_wrongUnits 2 := ⟨cd_X11_wrongUnits, ini_RX11, pn_RX11.1, pd_9, rfl, pn_RX11.2⟩
theorem yk_X11_store : YOK Y_X11_store 2 := ⟨cd_X11_store, ini_RX11, pn_RX11.1, pd_9, rfl, pn_RX11.2⟩
theorem yk_X11_takesOut : YOK Y_X11_takesOut 1 := ⟨cd_X11_takesOut, ini_RX11, pn_RX11.1, pd_7, rfl, pn_RX11.2⟩
theorem yk_X11_unload : YOK Y_X11_unload 2 := ⟨cd_X11_unload, ini_RX11, pn_RX11.1, pd_9, rfl, pn_RX11.2⟩
theorem yk_X11_whyNotTopUp : YOK Y_X11_whyNotTopUp 0 := ⟨cd_X11_whyNotTopUp, ini_RX11, pn_RX11.1, pd_4, rfl, pn_RX11.2⟩
theorem yk_X11_topUp : YOK Y_X11_topUp 2 := ⟨cd_X11_topUp, ini_RX11, pn_RX11.1, pd_9, rfl, pn_RX11.2⟩
theorem yk_X11_arrives : YOK Y_X11_arrives 0 := ⟨cd_X11_arrives, ini_RX11, pn_RX11.1, pd_4, rfl, pn_RX11.2⟩
theorem yk_X11_advance : YOK Y_X11_advance 1 := ⟨cd_X11_advance, ini_RX11, pn_RX11.1, pd_5, rfl, pn_RX11.2⟩
theorem yk_X11_reason : YOK Y_X11_reason 0 := ⟨cd_X11_reason, ini_RX11, pn_RX11.1, pd_4, rfl, pn_RX11.2⟩
theorem yk_X11_laysUnits : YOK Y_X11_laysUnits 0 := ⟨cd_X11_laysUnits, ini_RX11, pn_RX11.1, pd_0, rfl, pn_RX11.2⟩
theorem yk_X11_freeMeal : YOK Y_X11_freeMeal 1 := ⟨cd_X11_freeMeal, ini_RX11, pn_RX11.1, pd_5, rfl, pn_RX11.2⟩
theorem yk_X11_finds : YOK Y_X11_finds 1 := ⟨cd_X11_finds, ini_RX11, pn_RX11.1, pd_21, rfl, pn_RX11.2⟩
theorem yk_X11_matches : YOK Y_X11_matches 0 := ⟨cd_X11_matches, ini_RX11, pn_RX11.1, pd_4, rfl, pn_RX11.2⟩
theorem yk_X11_fixes : YOK Y_X11_fixes 2 := ⟨cd_X11_fixes, ini_RX11, pn_RX11.1, pd_10, rfl, pn_RX11.2⟩
theorem yk_X11_mostUnits : YOK Y_X11_mostUnits 1 := ⟨cd_X11_mostUnits, ini_RX11, pn_RX11.1, pd_5, rfl, pn_RX11.2⟩
theorem yk_X11_servesPlain : YOK Y_X11_servesPlain 1 := ⟨cd_X11_servesPlain, ini_RX11, pn_RX11.1, pd_7, rfl, pn_RX11.2⟩
theorem yk_X11_matchesSpecial : YOK Y_X11_matchesSpecial 0 := ⟨cd_X11_matchesSpecial, ini_RX11, pn_RX11.1, pd_0, rfl, pn_RX11.2⟩
theorem yk_X11_laysService : YOK Y_X11_laysService 0 := ⟨cd_X11_laysService, ini_RX11, pn_RX11.1, pd_0, rfl, pn_RX11.2⟩
theorem yk_X11_eatenOf : YOK Y_X11_eatenOf 1 := ⟨cd_X11_eatenOf, ini_RX11, pn_RX11.1, pd_5, rfl, pn_RX11.2⟩
theorem yk_X11_eaten : YOK Y_X11_eaten 0 := ⟨cd_X11_eaten, ini_RX11, pn_RX11.1, pd_4, rfl, pn_RX11.2⟩
theorem yk_X11_specialFed : YOK Y_X11_specialFed 0 := ⟨cd_X11_specialFed, ini_RX11, pn_RX11.1, pd_4, rfl, pn_RX11.2⟩
theorem yk_X11_wishes : YOK Y_X11_wishes 0 := ⟨cd_X11_wishes, ini_RX11, pn_RX11.1, pd_4, rfl, pn_RX11.2⟩
theorem yk_X11_wastedCost : YOK Y_X11_wastedCost 0 := ⟨cd_X11_wastedCost, ini_RX11, pn_RX11.1, pd_4, rfl, pn_RX11.2⟩
theorem yk_X11_outlook : YOK Y_X11_outlook 1 := ⟨cd_X11_outlook, ini_RX11, pn_RX11.1, pd_5, rfl, pn_RX11.2⟩
theorem yk_X11_mealFor : YOK Y_X11_mealFor 1 := ⟨cd_X11_mealFor, ini_RX11, pn_RX11.1, pd_5, rfl, pn_RX11.2⟩
theorem yk_X11_serve : YOK Y_X11_serve 0 := ⟨cd_X11_serve, ini_RX11, pn_RX11.1, pd_4, rfl, pn_RX11.2⟩
theorem yk_X11_account : YOK Y_X11_account 1 := ⟨cd_X11_account, ini_RX11, pn_RX11.1, pd_42, rfl, pn_RX11.2⟩
theorem yk_X11_shareNow : YOK Y_X11_shareNow 0 := ⟨cd_X11_shareNow, ini_RX11, pn_RX11.1, pd_43, rfl, pn_RX11.2⟩
theorem yk_X11_wasteShare : YOK Y_X11_wasteShare 0 := ⟨cd_X11_wasteShare, ini_RX11, pn_RX11.1, pd_43, rfl, pn_RX11.2⟩
theorem yk_X11_wasteBits : YOK Y_X11_wasteBits 0 := ⟨cd_X11_wasteBits, ini_RX11, pn_RX11.1, pd_4, rfl, pn_RX11.2⟩
theorem pn_RJxe99ae : (RJxe99ae ≠ "java/lang/invoke/MethodHandle" ∧ RJxe99ae ≠ "java/lang/invoke/VarHandle") ∧ plainName RJxe99ae = true := ⟨⟨by decide +kernel, by decide +kernel⟩, by decide +kernel⟩
theorem pd_53 : (parseMethodDescriptor "(D)Z").map (fun d => d.parameters.length) = some 1 := by decide +kernel
theorem yk_Jxe99ae_isNaN_b9ae7 : YOK Y_Jxe99ae_isNaN_b9ae7 1 := ⟨cd_Jxe99ae_isNaN_b9ae7, ini_RJxe99ae, pn_RJxe99ae.1, pd_53, rfl, pn_RJxe99ae.2⟩
theorem yk_Jxe99ae_doubleToLongBits_ccdee : YOK Y_Jxe99ae_doubleToLongBits_ccdee 1 := ⟨cd_Jxe99ae_doubleToLongBits_ccdee, ini_RJxe99ae, pn_RJxe99ae.1, pd_45, rfl, pn_RJxe99ae.2⟩
theorem yk_X11_costBits : YOK Y_X11_costBits 0 := ⟨cd_X11_costBits, ini_RX11, pn_RX11.1, pd_46, rfl, pn_RX11.2⟩
theorem yk_X11_says : YOK Y_X11_says 1 := ⟨cd_X11_says, ini_RX11, pn_RX11.1, pd_7, rfl, pn_RX11.2⟩
theorem yk_X11_saysNumber : YOK Y_X11_saysNumber 1 := ⟨cd_X11_saysNumber, ini_RX11, pn_RX11.1, pd_7, rfl, pn_RX11.2⟩
theorem pd_54 : (parseMethodDescriptor "(J)V").map (fun d => d.parameters.length) = some 1 := by decide +kernel
theorem yk_X11_saysName : YOK Y_X11_saysName 1 := ⟨cd_X11_saysName, ini_RX11, pn_RX11.1, pd_54, rfl, pn_RX11.2⟩
theorem yk_X11_writeTrolley : YOK Y_X11_writeTrolley 1 := ⟨cd_X11_writeTrolley, ini_RX11, pn_RX11.1, pd_5, rfl, pn_RX11.2⟩
theorem yk_X11_outputByte : YOK Y_X11_outputByte 1 := ⟨cd_X11_outputByte, ini_RX11, pn_RX11.1, pd_5, rfl, pn_RX11.2⟩
