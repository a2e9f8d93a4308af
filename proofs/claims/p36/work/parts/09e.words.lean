def wl_45 : List (Nat × Cond) := [(1237, Cond.static yJ6_getChars_ba4f3), (0, Cond.code yJ6_getChars_ba4f3 cJ6_getChars_ba4f3 7 (some .int)), (5, Cond.static yJ2_getChars_46870), (0, Cond.code yJ2_getChars_46870 cJ2_getChars_46870 5 (some .int)), (1, Cond.static yJ2_getChars_ba4f3), (0, Cond.code yJ2_getChars_ba4f3 cJ2_getChars_ba4f3 7 (some .int)), (2, Cond.methodLink RL 43 yJ4_append_cf468), (0, Cond.instanceMethod yJ4_append_cf468), (0, Cond.selects RJ4 yJ4_append_cf468 yJ4_append_cf468), (0, Cond.code yJ4_append_cf468 cJ4_append_cf468 2 (some (.object "java/lang/StringBuilder"))), (1, Cond.instanceMethod yJ5_append_3fe6f), (0, Cond.code yJ5_append_3fe6f cJ5_append_3fe6f 2 (some (.object "java/lang/AbstractStringBuilder"))), (1, Cond.static yJ1_canEncode_fc78d), (0, Cond.code yJ1_canEncode_fc78d cJ1_canEncode_fc78d 1 (some .boolean)), (1, Cond.static yJ2_putCharSB_b72d1), (0, Cond.code yJ2_putCharSB_b72d1 cJ2_putCharSB_b72d1 3 none), (1, Cond.methodLink RL 64 yJ4_append_15ec4), (4, Cond.methodLink RL 38 yJ4_init_da8c8), (0, Cond.instanceMethod yJ4_init_da8c8), (0, Cond.code yJ4_init_da8c8 cJ4_init_da8c8 1 none)]
set_option maxRecDepth 50000 in
theorem wc_45 : chk wl_45 lw_tbl = true := by decide +kernel
theorem sm_J6_getChars_ba4f3 : Cond.static yJ6_getChars_ba4f3 ∈ lwa := chk_in wc_45 0 rfl
theorem cd_J6_getChars_ba4f3 : Cond.code yJ6_getChars_ba4f3 cJ6_getChars_ba4f3 7 (some .int) ∈ lwa := chk_in wc_45 1 rfl
theorem sm_J2_getChars_46870 : Cond.static yJ2_getChars_46870 ∈ lwa := chk_in wc_45 2 rfl
theorem cd_J2_getChars_46870 : Cond.code yJ2_getChars_46870 cJ2_getChars_46870 5 (some .int) ∈ lwa := chk_in wc_45 3 rfl
theorem sm_J2_getChars_ba4f3 : Cond.static yJ2_getChars_ba4f3 ∈ lwa := chk_in wc_45 4 rfl
theorem cd_J2_getChars_ba4f3 : Cond.code yJ2_getChars_ba4f3 cJ2_getChars_ba4f3 7 (some .int) ∈ lwa := chk_in wc_45 5 rfl
theorem ml_L_43 : Cond.methodLink RL 43 yJ4_append_cf468 ∈ lwa := chk_in wc_45 6 rfl
theorem im_J4_append_cf468 : Cond.instanceMethod yJ4_append_cf468 ∈ lwa := chk_in wc_45 7 rfl
theorem se_J4_append_cf468 : Cond.selects RJ4 yJ4_append_cf468 yJ4_append_cf468 ∈ lwa := chk_in wc_45 8 rfl
theorem cd_J4_append_cf468 : Cond.code yJ4_append_cf468 cJ4_append_cf468 2 (some (.object "java/lang/StringBuilder")) ∈ lwa := chk_in wc_45 9 rfl
theorem im_J5_append_3fe6f : Cond.instanceMethod yJ5_append_3fe6f ∈ lwa := chk_in wc_45 10 rfl
theorem cd_J5_append_3fe6f : Cond.code yJ5_append_3fe6f cJ5_append_3fe6f 2 (some (.object "java/lang/AbstractStringBuilder")) ∈ lwa := chk_in wc_45 11 rfl
theorem sm_J1_canEncode_fc78d : Cond.static yJ1_canEncode_fc78d ∈ lwa := chk_in wc_45 12 rfl
theorem cd_J1_canEncode_fc78d : Cond.code yJ1_canEncode_fc78d cJ1_canEncode_fc78d 1 (some .boolean) ∈ lwa := chk_in wc_45 13 rfl
theorem sm_J2_putCharSB_b72d1 : Cond.static yJ2_putCharSB_b72d1 ∈ lwa := chk_in wc_45 14 rfl
theorem cd_J2_putCharSB_b72d1 : Cond.code yJ2_putCharSB_b72d1 cJ2_putCharSB_b72d1 3 none ∈ lwa := chk_in wc_45 15 rfl
theorem ml_L_64 : Cond.methodLink RL 64 yJ4_append_15ec4 ∈ lwa := chk_in wc_45 16 rfl
theorem ml_L_38 : Cond.methodLink RL 38 yJ4_init_da8c8 ∈ lwa := chk_in wc_45 17 rfl
theorem im_J4_init_da8c8 : Cond.instanceMethod yJ4_init_da8c8 ∈ lwa := chk_in wc_45 18 rfl
theorem cd_J4_init_da8c8 : Cond.code yJ4_init_da8c8 cJ4_init_da8c8 1 none ∈ lwa := chk_in wc_45 19 rfl
def wl_46 : List (Nat × Cond) := [(1274, Cond.instanceMethod yJ5_init_d00df), (0, Cond.code yJ5_init_d00df cJ5_init_d00df 2 none), (4, Cond.methodLink RL 50 yJ4_toString_0e30d), (0, Cond.instanceMethod yJ4_toString_0e30d), (0, Cond.selects RJ4 yJ4_toString_0e30d yJ4_toString_0e30d), (0, Cond.code yJ4_toString_0e30d cJ4_toString_0e30d 1 (some (.object "java/lang/String"))), (2, Cond.instanceMethod yJ0_init_81219), (0, Cond.code yJ0_init_81219 cJ0_init_81219 2 none), (1, Cond.instanceMethod yJ0_init_db425), (0, Cond.code yJ0_init_db425 cJ0_init_db425 5 none), (1, Cond.instanceMethod yJ5_getValue_6d5f1), (2, Cond.code yJ5_getValue_6d5f1 cJ5_getValue_6d5f1 1 (some (.array .byte))), (1, Cond.instanceMethod yJ5_length_8abf5), (2, Cond.instanceMethod yJ4_length_8abf5), (0, Cond.code yJ4_length_8abf5 cJ4_length_8abf5 1 (some .int)), (1, Cond.code yJ5_length_8abf5 cJ5_length_8abf5 1 (some .int)), (2, Cond.static yJ7_copyOfRange_39247), (0, Cond.code yJ7_copyOfRange_39247 cJ7_copyOfRange_39247 3 (some (.array .byte))), (1, Cond.static yJ7_copyOfRangeByte_39247), (0, Cond.code yJ7_copyOfRangeByte_39247 cJ7_copyOfRangeByte_39247 5 (some (.array .byte)))]
set_option maxRecDepth 50000 in
theorem wc_46 : chk wl_46 lw_tbl = true := by decide +kernel
theorem im_J5_init_d00df : Cond.instanceMethod yJ5_init_d00df ∈ lwa := chk_in wc_46 0 rfl
theorem cd_J5_init_d00df : Cond.code yJ5_init_d00df cJ5_init_d00df 2 none ∈ lwa := chk_in wc_46 1 rfl
theorem ml_L_50 : Cond.methodLink RL 50 yJ4_toString_0e30d ∈ lwa := chk_in wc_46 2 rfl
theorem im_J4_toString_0e30d : Cond.instanceMethod yJ4_toString_0e30d ∈ lwa := chk_in wc_46 3 rfl
theorem se_J4_toString_0e30d : Cond.selects RJ4 yJ4_toString_0e30d yJ4_toString_0e30d ∈ lwa := chk_in wc_46 4 rfl
theorem cd_J4_toString_0e30d : Cond.code yJ4_toString_0e30d cJ4_toString_0e30d 1 (some (.object "java/lang/String")) ∈ lwa := chk_in wc_46 5 rfl
theorem im_J0_init_81219 : Cond.instanceMethod yJ0_init_81219 ∈ lwa := chk_in wc_46 6 rfl
theorem cd_J0_init_81219 : Cond.code yJ0_init_81219 cJ0_init_81219 2 none ∈ lwa := chk_in wc_46 7 rfl
theorem im_J0_init_db425 : Cond.instanceMethod yJ0_init_db425 ∈ lwa := chk_in wc_46 8 rfl
theorem cd_J0_init_db425 : Cond.code yJ0_init_db425 cJ0_init_db425 5 none ∈ lwa := chk_in wc_46 9 rfl
theorem im_J5_getValue_6d5f1 : Cond.instanceMethod yJ5_getValue_6d5f1 ∈ lwa := chk_in wc_46 10 rfl
theorem cd_J5_getValue_6d5f1 : Cond.code yJ5_getValue_6d5f1 cJ5_getValue_6d5f1 1 (some (.array .byte)) ∈ lwa := chk_in wc_46 11 rfl
theorem im_J5_length_8abf5 : Cond.instanceMethod yJ5_length_8abf5 ∈ lwa := chk_in wc_46 12 rfl
theorem im_J4_length_8abf5 : Cond.instanceMethod yJ4_length_8abf5 ∈ lwa := chk_in wc_46 13 rfl
theorem cd_J4_length_8abf5 : Cond.code yJ4_length_8abf5 cJ4_length_8abf5 1 (some .int) ∈ lwa := chk_in wc_46 14 rfl
theorem cd_J5_length_8abf5 : Cond.code yJ5_length_8abf5 cJ5_length_8abf5 1 (some .int) ∈ lwa := chk_in wc_46 15 rfl
theorem sm_J7_copyOfRange_39247 : Cond.static yJ7_copyOfRange_39247 ∈ lwa := chk_in wc_46 16 rfl
theorem cd_J7_copyOfRange_39247 : Cond.code yJ7_copyOfRange_39247 cJ7_copyOfRange_39247 3 (some (.array .byte)) ∈ lwa := chk_in wc_46 17 rfl
theorem sm_J7_copyOfRangeByte_39247 : Cond.static yJ7_copyOfRangeByte_39247 ∈ lwa := chk_in wc_46 18 rfl
theorem cd_J7_copyOfRangeByte_39247 : Cond.code yJ7_copyOfRangeByte_39247 cJ7_copyOfRangeByte_39247 5 (some (.array .byte)) ∈ lwa := chk_in wc_46 19 rfl
def wl_47 : List (Nat × Cond) := [(1312, Cond.static yJ7_checkLength_df160), (0, Cond.code yJ7_checkLength_df160 cJ7_checkLength_df160 2 none), (9, Cond.static yJ2_compress_39247), (0, Cond.code yJ2_compress_39247 cJ2_compress_39247 6 (some (.array .byte))), (2, Cond.methodLink RL 85 yL_diets), (0, Cond.static yL_diets)]
set_option maxRecDepth 50000 in
theorem wc_47 : chk wl_47 lw_tbl = true := by decide +kernel
theorem sm_J7_checkLength_df160 : Cond.static yJ7_checkLength_df160 ∈ lwa := chk_in wc_47 0 rfl
theorem cd_J7_checkLength_df160 : Cond.code yJ7_checkLength_df160 cJ7_checkLength_df160 2 none ∈ lwa := chk_in wc_47 1 rfl
theorem sm_J2_compress_39247 : Cond.static yJ2_compress_39247 ∈ lwa := chk_in wc_47 2 rfl
theorem cd_J2_compress_39247 : Cond.code yJ2_compress_39247 cJ2_compress_39247 6 (some (.array .byte)) ∈ lwa := chk_in wc_47 3 rfl
theorem ml_L_85 : Cond.methodLink RL 85 yL_diets ∈ lwa := chk_in wc_47 4 rfl
theorem sm_L_diets : Cond.static yL_diets ∈ lwa := chk_in wc_47 5 rfl
def wl_48 : List (Nat × Cond) := [(1329, Cond.code yL_diets cL_diets 4 (some (.object "java/lang/String")))]
set_option maxRecDepth 50000 in
theorem wc_48 : chk wl_48 lw_tbl = true := by decide +kernel
theorem cd_L_diets : Cond.code yL_diets cL_diets 4 (some (.object "java/lang/String")) ∈ lwa := chk_in wc_48 0 rfl
def wl_49 : List (Nat × Cond) := [(1330, Cond.methodLink RL 47 yJ4_length_8abf5), (7, Cond.methodLink RL 199 yL_undone), (2, Cond.methodLink RL 101 yX10_undo), (0, Cond.instanceMethod yX10_undo), (0, Cond.selects RX10 yX10_undo yX10_undo), (0, Cond.code yX10_undo cX10_undo 1 (some .int)), (1, Cond.methodLink RX10 403 yX3_takeBack), (0, Cond.instanceMethod yX3_takeBack), (0, Cond.selects RX3 yX3_takeBack yX3_takeBack), (0, Cond.code yX3_takeBack cX3_takeBack 2 none), (0, Cond.methodLink RL 181 yL_sum), (0, Cond.static yL_sum)]
set_option maxRecDepth 50000 in
theorem wc_49 : chk wl_49 lw_tbl = true := by decide +kernel
theorem ml_L_47 : Cond.methodLink RL 47 yJ4_length_8abf5 ∈ lwa := chk_in wc_49 0 rfl
theorem ml_L_199 : Cond.methodLink RL 199 yL_undone ∈ lwa := chk_in wc_49 1 rfl
theorem ml_L_101 : Cond.methodLink RL 101 yX10_undo ∈ lwa := chk_in wc_49 2 rfl
theorem im_X10_undo : Cond.instanceMethod yX10_undo ∈ lwa := chk_in wc_49 3 rfl
theorem se_X10_undo : Cond.selects RX10 yX10_undo yX10_undo ∈ lwa := chk_in wc_49 4 rfl
theorem cd_X10_undo : Cond.code yX10_undo cX10_undo 1 (some .int) ∈ lwa := chk_in wc_49 5 rfl
theorem ml_X10_403 : Cond.methodLink RX10 403 yX3_takeBack ∈ lwa := chk_in wc_49 6 rfl
theorem im_X3_takeBack : Cond.instanceMethod yX3_takeBack ∈ lwa := chk_in wc_49 7 rfl
theorem se_X3_takeBack : Cond.selects RX3 yX3_takeBack yX3_takeBack ∈ lwa := chk_in wc_49 8 rfl
theorem cd_X3_takeBack : Cond.code yX3_takeBack cX3_takeBack 2 none ∈ lwa := chk_in wc_49 9 rfl
theorem ml_L_181 : Cond.methodLink RL 181 yL_sum ∈ lwa := chk_in wc_49 10 rfl
theorem sm_L_sum : Cond.static yL_sum ∈ lwa := chk_in wc_49 11 rfl
def wl_50 : List (Nat × Cond) := [(1352, Cond.code yL_sum cL_sum 5 (some .long))]
set_option maxRecDepth 50000 in
theorem wc_50 : chk wl_50 lw_tbl = true := by decide +kernel
theorem cd_L_sum : Cond.code yL_sum cL_sum 5 (some .long) ∈ lwa := chk_in wc_50 0 rfl
def wl_51 : List (Nat × Cond) := [(1355, Cond.methodLink RL 143 yX10_cabin), (0, Cond.instanceMethod yX10_cabin), (0, Cond.selects RX10 yX10_cabin yX10_cabin), (0, Cond.code yX10_cabin cX10_cabin 3 (some .int)), (0, Cond.methodLink RX10 175 yX10_requireCabin), (1, Cond.instanceMethod yX10_requireCabin), (0, Cond.code yX10_requireCabin cX10_requireCabin 2 none), (1, Cond.methodLink RX10 190 yX1_passengersIn), (0, Cond.methodLink RX10 194 yX1_specialsIn), (0, Cond.methodLink RX10 197 yX7_trolleysOf), (0, Cond.instanceMethod yX7_trolleysOf), (0, Cond.selects RX7 yX7_trolleysOf yX7_trolleysOf), (0, Cond.code yX7_trolleysOf cX7_trolleysOf 4 (some .int)), (0, Cond.methodLink RX10 200 yX1_freeSlotsIn), (0, Cond.instanceMethod yX1_freeSlotsIn), (0, Cond.selects RX1 yX1_freeSlotsIn yX1_freeSlotsIn), (0, Cond.code yX1_freeSlotsIn cX1_freeSlotsIn 4 (some .int)), (0, Cond.methodLink RX1 124 yX1_freeSlots), (0, Cond.instanceMethod yX1_freeSlots), (0, Cond.selects RX1 yX1_freeSlots yX1_freeSlots)]
set_option maxRecDepth 50000 in
theorem wc_51 : chk wl_51 lw_tbl = true := by decide +kernel
theorem ml_L_143 : Cond.methodLink RL 143 yX10_cabin ∈ lwa := chk_in wc_51 0 rfl
theorem im_X10_cabin : Cond.instanceMethod yX10_cabin ∈ lwa := chk_in wc_51 1 rfl
theorem se_X10_cabin : Cond.selects RX10 yX10_cabin yX10_cabin ∈ lwa := chk_in wc_51 2 rfl
theorem cd_X10_cabin : Cond.code yX10_cabin cX10_cabin 3 (some .int) ∈ lwa := chk_in wc_51 3 rfl
theorem ml_X10_175 : Cond.methodLink RX10 175 yX10_requireCabin ∈ lwa := chk_in wc_51 4 rfl
theorem im_X10_requireCabin : Cond.instanceMethod yX10_requireCabin ∈ lwa := chk_in wc_51 5 rfl
theorem cd_X10_requireCabin : Cond.code yX10_requireCabin cX10_requireCabin 2 none ∈ lwa := chk_in wc_51 6 rfl
theorem ml_X10_190 : Cond.methodLink RX10 190 yX1_passengersIn ∈ lwa := chk_in wc_51 7 rfl
theorem ml_X10_194 : Cond.methodLink RX10 194 yX1_specialsIn ∈ lwa := chk_in wc_51 8 rfl
theorem ml_X10_197 : Cond.methodLink RX10 197 yX7_trolleysOf ∈ lwa := chk_in wc_51 9 rfl
theorem im_X7_trolleysOf : Cond.instanceMethod yX7_trolleysOf ∈ lwa := chk_in wc_51 10 rfl
theorem se_X7_trolleysOf : Cond.selects RX7 yX7_trolleysOf yX7_trolleysOf ∈ lwa := chk_in wc_51 11 rfl
theorem cd_X7_trolleysOf : Cond.code yX7_trolleysOf cX7_trolleysOf 4 (some .int) ∈ lwa := chk_in wc_51 12 rfl
theorem ml_X10_200 : Cond.methodLink RX10 200 yX1_freeSlotsIn ∈ lwa := chk_in wc_51 13 rfl
theorem im_X1_freeSlotsIn : Cond.instanceMethod yX1_freeSlotsIn ∈ lwa := chk_in wc_51 14 rfl
theorem se_X1_freeSlotsIn : Cond.selects RX1 yX1_freeSlotsIn yX1_freeSlotsIn ∈ lwa := chk_in wc_51 15 rfl
theorem cd_X1_freeSlotsIn : Cond.code yX1_freeSlotsIn cX1_freeSlotsIn 4 (some .int) ∈ lwa := chk_in wc_51 16 rfl
theorem ml_X1_124 : Cond.methodLink RX1 124 yX1_freeSlots ∈ lwa := chk_in wc_51 17 rfl
theorem im_X1_freeSlots : Cond.instanceMethod yX1_freeSlots ∈ lwa := chk_in wc_51 18 rfl
theorem se_X1_freeSlots : Cond.selects RX1 yX1_freeSlots yX1_freeSlots ∈ lwa := chk_in wc_51 19 rfl
def wl_52 : List (Nat × Cond) := [(1377, Cond.code yX1_freeSlots cX1_freeSlots 4 (some .int)), (0, Cond.methodLink RX10 203 yX7_menuOf), (0, Cond.instanceMethod yX7_menuOf), (0, Cond.selects RX7 yX7_menuOf yX7_menuOf), (0, Cond.code yX7_menuOf cX7_menuOf 4 (some .int)), (0, Cond.methodLink RX10 206 yX6_slotsOfMenu), (0, Cond.instanceMethod yX6_slotsOfMenu), (0, Cond.selects RX6 yX6_slotsOfMenu yX6_slotsOfMenu), (0, Cond.code yX6_slotsOfMenu cX6_slotsOfMenu 5 (some .int)), (1, Cond.methodLink RL 146 yX10_meal), (0, Cond.instanceMethod yX10_meal), (0, Cond.selects RX10 yX10_meal yX10_meal), (0, Cond.code yX10_meal cX10_meal 3 (some .int)), (0, Cond.methodLink RX10 212 yX10_requireMeal), (1, Cond.instanceMethod yX10_requireMeal), (0, Cond.code yX10_requireMeal cX10_requireMeal 2 none), (1, Cond.methodLink RX10 233 yX1_loadedOf), (0, Cond.methodLink RX10 240 yX1_onTheWay), (0, Cond.instanceMethod yX1_onTheWay), (0, Cond.selects RX1 yX1_onTheWay yX1_onTheWay)]
set_option maxRecDepth 50000 in
theorem wc_52 : chk wl_52 lw_tbl = true := by decide +kernel
theorem cd_X1_freeSlots : Cond.code yX1_freeSlots cX1_freeSlots 4 (some .int) ∈ lwa := chk_in wc_52 0 rfl
theorem ml_X10_203 : Cond.methodLink RX10 203 yX7_menuOf ∈ lwa := chk_in wc_52 1 rfl
theorem im_X7_menuOf : Cond.instanceMethod yX7_menuOf ∈ lwa := chk_in wc_52 2 rfl
theorem se_X7_menuOf : Cond.selects RX7 yX7_menuOf yX7_menuOf ∈ lwa := chk_in wc_52 3 rfl
theorem cd_X7_menuOf : Cond.code yX7_menuOf cX7_menuOf 4 (some .int) ∈ lwa := chk_in wc_52 4 rfl
theorem ml_X10_206 : Cond.methodLink RX10 206 yX6_slotsOfMenu ∈ lwa := chk_in wc_52 5 rfl
theorem im_X6_slotsOfMenu : Cond.instanceMethod yX6_slotsOfMenu ∈ lwa := chk_in wc_52 6 rfl
theorem se_X6_slotsOfMenu : Cond.selects RX6 yX6_slotsOfMenu yX6_slotsOfMenu ∈ lwa := chk_in wc_52 7 rfl
theorem cd_X6_slotsOfMenu : Cond.code yX6_slotsOfMenu cX6_slotsOfMenu 5 (some .int) ∈ lwa := chk_in wc_52 8 rfl
theorem ml_L_146 : Cond.methodLink RL 146 yX10_meal ∈ lwa := chk_in wc_52 9 rfl
theorem im_X10_meal : Cond.instanceMethod yX10_meal ∈ lwa := chk_in wc_52 10 rfl
theorem se_X10_meal : Cond.selects RX10 yX10_meal yX10_meal ∈ lwa := chk_in wc_52 11 rfl
theorem cd_X10_meal : Cond.code yX10_meal cX10_meal 3 (some .int) ∈ lwa := chk_in wc_52 12 rfl
theorem ml_X10_212 : Cond.methodLink RX10 212 yX10_requireMeal ∈ lwa := chk_in wc_52 13 rfl
theorem im_X10_requireMeal : Cond.instanceMethod yX10_requireMeal ∈ lwa := chk_in wc_52 14 rfl
theorem cd_X10_requireMeal : Cond.code yX10_requireMeal cX10_requireMeal 2 none ∈ lwa := chk_in wc_52 15 rfl
theorem ml_X10_233 : Cond.methodLink RX10 233 yX1_loadedOf ∈ lwa := chk_in wc_52 16 rfl
theorem ml_X10_240 : Cond.methodLink RX10 240 yX1_onTheWay ∈ lwa := chk_in wc_52 17 rfl
theorem im_X1_onTheWay : Cond.instanceMethod yX1_onTheWay ∈ lwa := chk_in wc_52 18 rfl
theorem se_X1_onTheWay : Cond.selects RX1 yX1_onTheWay yX1_onTheWay ∈ lwa := chk_in wc_52 19 rfl
def wl_53 : List (Nat × Cond) := [(1400, Cond.code yX1_onTheWay cX1_onTheWay 4 (some .int)), (0, Cond.methodLink RX10 250 yX1_missing), (0, Cond.instanceMethod yX1_missing), (0, Cond.selects RX1 yX1_missing yX1_missing), (0, Cond.code yX1_missing cX1_missing 3 (some .int)), (0, Cond.methodLink RX1 130 yX1_loadedOf), (0, Cond.methodLink RX1 133 yX1_onTheWay), (0, Cond.methodLink RX1 136 yJ9_max_7cf53), (1, Cond.methodLink RL 152 yX10_held), (0, Cond.instanceMethod yX10_held), (0, Cond.selects RX10 yX10_held yX10_held), (0, Cond.code yX10_held cX10_held 3 (some .int)), (0, Cond.methodLink RX10 279 yX10_requireTrolley), (1, Cond.instanceMethod yX10_requireTrolley), (0, Cond.code yX10_requireTrolley cX10_requireTrolley 2 none), (1, Cond.methodLink RL 155 yX10_topUpAt), (0, Cond.instanceMethod yX10_topUpAt), (0, Cond.selects RX10 yX10_topUpAt yX10_topUpAt), (0, Cond.code yX10_topUpAt cX10_topUpAt 3 (some .int)), (18, Cond.methodLink RL 189 yL_trolleys)]
set_option maxRecDepth 50000 in
theorem wc_53 : chk wl_53 lw_tbl = true := by decide +kernel
theorem cd_X1_onTheWay : Cond.code yX1_onTheWay cX1_onTheWay 4 (some .int) ∈ lwa := chk_in wc_53 0 rfl
theorem ml_X10_250 : Cond.methodLink RX10 250 yX1_missing ∈ lwa := chk_in wc_53 1 rfl
theorem im_X1_missing : Cond.instanceMethod yX1_missing ∈ lwa := chk_in wc_53 2 rfl
theorem se_X1_missing : Cond.selects RX1 yX1_missing yX1_missing ∈ lwa := chk_in wc_53 3 rfl
theorem cd_X1_missing : Cond.code yX1_missing cX1_missing 3 (some .int) ∈ lwa := chk_in wc_53 4 rfl
theorem ml_X1_130 : Cond.methodLink RX1 130 yX1_loadedOf ∈ lwa := chk_in wc_53 5 rfl
theorem ml_X1_133 : Cond.methodLink RX1 133 yX1_onTheWay ∈ lwa := chk_in wc_53 6 rfl
theorem ml_X1_136 : Cond.methodLink RX1 136 yJ9_max_7cf53 ∈ lwa := chk_in wc_53 7 rfl
theorem ml_L_152 : Cond.methodLink RL 152 yX10_held ∈ lwa := chk_in wc_53 8 rfl
theorem im_X10_held : Cond.instanceMethod yX10_held ∈ lwa := chk_in wc_53 9 rfl
theorem se_X10_held : Cond.selects RX10 yX10_held yX10_held ∈ lwa := chk_in wc_53 10 rfl
theorem cd_X10_held : Cond.code yX10_held cX10_held 3 (some .int) ∈ lwa := chk_in wc_53 11 rfl
theorem ml_X10_279 : Cond.methodLink RX10 279 yX10_requireTrolley ∈ lwa := chk_in wc_53 12 rfl
theorem im_X10_requireTrolley : Cond.instanceMethod yX10_requireTrolley ∈ lwa := chk_in wc_53 13 rfl
theorem cd_X10_requireTrolley : Cond.code yX10_requireTrolley cX10_requireTrolley 2 none ∈ lwa := chk_in wc_53 14 rfl
theorem ml_L_155 : Cond.methodLink RL 155 yX10_topUpAt ∈ lwa := chk_in wc_53 15 rfl
theorem im_X10_topUpAt : Cond.instanceMethod yX10_topUpAt ∈ lwa := chk_in wc_53 16 rfl
theorem se_X10_topUpAt : Cond.selects RX10 yX10_topUpAt yX10_topUpAt ∈ lwa := chk_in wc_53 17 rfl
theorem cd_X10_topUpAt : Cond.code yX10_topUpAt cX10_topUpAt 3 (some .int) ∈ lwa := chk_in wc_53 18 rfl
theorem ml_L_189 : Cond.methodLink RL 189 yL_trolleys ∈ lwa := chk_in wc_53 19 rfl
def wl_54 : List (Nat × Cond) := [(1441, Cond.static yL_trolleys)]
set_option maxRecDepth 50000 in
theorem wc_54 : chk wl_54 lw_tbl = true := by decide +kernel
theorem sm_L_trolleys : Cond.static yL_trolleys ∈ lwa := chk_in wc_54 0 rfl
def wl_55 : List (Nat × Cond) := [(1442, Cond.code yL_trolleys cL_trolleys 9 (some .boolean))]
set_option maxRecDepth 50000 in
theorem wc_55 : chk wl_55 lw_tbl = true := by decide +kernel
theorem cd_L_trolleys : Cond.code yL_trolleys cL_trolleys 9 (some .boolean) ∈ lwa := chk_in wc_55 0 rfl
def wl_56 : List (Nat × Cond) := [(1443, Cond.methodLink RL 160 yX10_trolley), (0, Cond.instanceMethod yX10_trolley), (0, Cond.selects RX10 yX10_trolley yX10_trolley), (0, Cond.code yX10_trolley cX10_trolley 3 (some .int)), (0, Cond.methodLink RX10 288 yX1_freeSlots), (0, Cond.methodLink RX10 291 yX1_unitsIn), (1, Cond.methodLink RL 193 yL_order), (0, Cond.static yL_order)]
set_option maxRecDepth 50000 in
theorem wc_56 : chk wl_56 lw_tbl = true := by decide +kernel
theorem ml_L_160 : Cond.methodLink RL 160 yX10_trolley ∈ lwa := chk_in wc_56 0 rfl
theorem im_X10_trolley : Cond.instanceMethod yX10_trolley ∈ lwa := chk_in wc_56 1 rfl
theorem se_X10_trolley : Cond.selects RX10 yX10_trolley yX10_trolley ∈ lwa := chk_in wc_56 2 rfl
theorem cd_X10_trolley : Cond.code yX10_trolley cX10_trolley 3 (some .int) ∈ lwa := chk_in wc_56 3 rfl
theorem ml_X10_288 : Cond.methodLink RX10 288 yX1_freeSlots ∈ lwa := chk_in wc_56 4 rfl
theorem ml_X10_291 : Cond.methodLink RX10 291 yX1_unitsIn ∈ lwa := chk_in wc_56 5 rfl
theorem ml_L_193 : Cond.methodLink RL 193 yL_order ∈ lwa := chk_in wc_56 6 rfl
theorem sm_L_order : Cond.static yL_order ∈ lwa := chk_in wc_56 7 rfl
def wl_57 : List (Nat × Cond) := [(1452, Cond.code yL_order cL_order 8 (some .boolean))]
set_option maxRecDepth 50000 in
theorem wc_57 : chk wl_57 lw_tbl = true := by decide +kernel
theorem cd_L_order : Cond.code yL_order cL_order 8 (some .boolean) ∈ lwa := chk_in wc_57 0 rfl
def wl_58 : List (Nat × Cond) := [(1453, Cond.methodLink RL 163 yJ9_max_7cf53), (0, Cond.methodLink RL 196 yL_service), (0, Cond.static yL_service)]
set_option maxRecDepth 50000 in
theorem wc_58 : chk wl_58 lw_tbl = true := by decide +kernel
theorem ml_L_163 : Cond.methodLink RL 163 yJ9_max_7cf53 ∈ lwa := chk_in wc_58 0 rfl
theorem ml_L_196 : Cond.methodLink RL 196 yL_service ∈ lwa := chk_in wc_58 1 rfl
theorem sm_L_service : Cond.static yL_service ∈ lwa := chk_in wc_58 2 rfl
def wl_59 : List (Nat × Cond) := [(1456, Cond.code yL_service cL_service 13 (some .boolean))]
set_option maxRecDepth 50000 in
theorem wc_59 : chk wl_59 lw_tbl = true := by decide +kernel
theorem cd_L_service : Cond.code yL_service cL_service 13 (some .boolean) ∈ lwa := chk_in wc_59 0 rfl
def wl_60 : List (Nat × Cond) := [(1457, Cond.methodLink RL 185 yL_act), (0, Cond.static yL_act)]
set_option maxRecDepth 50000 in
theorem wc_60 : chk wl_60 lw_tbl = true := by decide +kernel
theorem ml_L_185 : Cond.methodLink RL 185 yL_act ∈ lwa := chk_in wc_60 0 rfl
theorem sm_L_act : Cond.static yL_act ∈ lwa := chk_in wc_60 1 rfl
def wl_61 : List (Nat × Cond) := [(1459, Cond.code yL_act cL_act 4 (some .boolean))]
set_option maxRecDepth 50000 in
theorem wc_61 : chk wl_61 lw_tbl = true := by decide +kernel
theorem cd_L_act : Cond.code yL_act cL_act 4 (some .boolean) ∈ lwa := chk_in wc_61 0 rfl
def wl_62 : List (Nat × Cond) := [(1460, Cond.methodLink RL 209 yL_boarded), (3, Cond.methodLink RL 104 yX10_board), (0, Cond.instanceMethod yX10_board), (0, Cond.selects RX10 yX10_board yX10_board), (0, Cond.code yX10_board cX10_board 4 (some .int)), (0, Cond.methodLink RX10 315 yX10_requireNeeds), (1, Cond.instanceMethod yX10_requireNeeds), (0, Cond.code yX10_requireNeeds cX10_requireNeeds 2 none), (2, Cond.methodLink RX10 326 yX10_requireSeat), (1, Cond.instanceMethod yX10_requireSeat), (0, Cond.code yX10_requireSeat cX10_requireSeat 2 none), (0, Cond.methodLink RX10 457 yX1_freeSeats), (0, Cond.methodLink RX10 332 yX1_seat), (0, Cond.methodLink RL 213 yL_changed), (2, Cond.methodLink RL 110 yX10_change), (0, Cond.instanceMethod yX10_change), (0, Cond.selects RX10 yX10_change yX10_change), (0, Cond.code yX10_change cX10_change 4 (some .int)), (1, Cond.methodLink RL 217 yX10_leave), (0, Cond.instanceMethod yX10_leave)]
set_option maxRecDepth 50000 in
theorem wc_62 : chk wl_62 lw_tbl = true := by decide +kernel
theorem ml_L_209 : Cond.methodLink RL 209 yL_boarded ∈ lwa := chk_in wc_62 0 rfl
theorem ml_L_104 : Cond.methodLink RL 104 yX10_board ∈ lwa := chk_in wc_62 1 rfl
theorem im_X10_board : Cond.instanceMethod yX10_board ∈ lwa := chk_in wc_62 2 rfl
theorem se_X10_board : Cond.selects RX10 yX10_board yX10_board ∈ lwa := chk_in wc_62 3 rfl
theorem cd_X10_board : Cond.code yX10_board cX10_board 4 (some .int) ∈ lwa := chk_in wc_62 4 rfl
theorem ml_X10_315 : Cond.methodLink RX10 315 yX10_requireNeeds ∈ lwa := chk_in wc_62 5 rfl
theorem im_X10_requireNeeds : Cond.instanceMethod yX10_requireNeeds ∈ lwa := chk_in wc_62 6 rfl
theorem cd_X10_requireNeeds : Cond.code yX10_requireNeeds cX10_requireNeeds 2 none ∈ lwa := chk_in wc_62 7 rfl
theorem ml_X10_326 : Cond.methodLink RX10 326 yX10_requireSeat ∈ lwa := chk_in wc_62 8 rfl
theorem im_X10_requireSeat : Cond.instanceMethod yX10_requireSeat ∈ lwa := chk_in wc_62 9 rfl
theorem cd_X10_requireSeat : Cond.code yX10_requireSeat cX10_requireSeat 2 none ∈ lwa := chk_in wc_62 10 rfl
theorem ml_X10_457 : Cond.methodLink RX10 457 yX1_freeSeats ∈ lwa := chk_in wc_62 11 rfl
theorem ml_X10_332 : Cond.methodLink RX10 332 yX1_seat ∈ lwa := chk_in wc_62 12 rfl
theorem ml_L_213 : Cond.methodLink RL 213 yL_changed ∈ lwa := chk_in wc_62 13 rfl
theorem ml_L_110 : Cond.methodLink RL 110 yX10_change ∈ lwa := chk_in wc_62 14 rfl
theorem im_X10_change : Cond.instanceMethod yX10_change ∈ lwa := chk_in wc_62 15 rfl
theorem se_X10_change : Cond.selects RX10 yX10_change yX10_change ∈ lwa := chk_in wc_62 16 rfl
theorem cd_X10_change : Cond.code yX10_change cX10_change 4 (some .int) ∈ lwa := chk_in wc_62 17 rfl
theorem ml_L_217 : Cond.methodLink RL 217 yX10_leave ∈ lwa := chk_in wc_62 18 rfl
theorem im_X10_leave : Cond.instanceMethod yX10_leave ∈ lwa := chk_in wc_62 19 rfl
def wl_63 : List (Nat × Cond) := [(1490, Cond.selects RX10 yX10_leave yX10_leave), (0, Cond.code yX10_leave cX10_leave 2 (some .int)), (0, Cond.methodLink RX10 338 yX1_removePassenger), (0, Cond.instanceMethod yX1_removePassenger), (0, Cond.selects RX1 yX1_removePassenger yX1_removePassenger), (0, Cond.code yX1_removePassenger cX1_removePassenger 3 none), (0, Cond.methodLink RL 220 yX10_setNeeds), (0, Cond.instanceMethod yX10_setNeeds), (0, Cond.selects RX10 yX10_setNeeds yX10_setNeeds), (0, Cond.code yX10_setNeeds cX10_setNeeds 4 (some .int)), (0, Cond.methodLink RL 223 yL_ordered), (2, Cond.methodLink RL 114 yX10_loadOrder), (0, Cond.instanceMethod yX10_loadOrder), (0, Cond.selects RX10 yX10_loadOrder yX10_loadOrder), (0, Cond.code yX10_loadOrder cX10_loadOrder 5 (some .int)), (0, Cond.methodLink RX10 341 yX10_requireOpen), (1, Cond.instanceMethod yX10_requireOpen), (0, Cond.code yX10_requireOpen cX10_requireOpen 1 none), (0, Cond.methodLink RX10 344 yX1_put), (0, Cond.instanceMethod yX1_put)]
set_option maxRecDepth 50000 in
theorem wc_63 : chk wl_63 lw_tbl = true := by decide +kernel
theorem se_X10_leave : Cond.selects RX10 yX10_leave yX10_leave ∈ lwa := chk_in wc_63 0 rfl
theorem cd_X10_leave : Cond.code yX10_leave cX10_leave 2 (some .int) ∈ lwa := chk_in wc_63 1 rfl
theorem ml_X10_338 : Cond.methodLink RX10 338 yX1_removePassenger ∈ lwa := chk_in wc_63 2 rfl
theorem im_X1_removePassenger : Cond.instanceMethod yX1_removePassenger ∈ lwa := chk_in wc_63 3 rfl
theorem se_X1_removePassenger : Cond.selects RX1 yX1_removePassenger yX1_removePassenger ∈ lwa := chk_in wc_63 4 rfl
theorem cd_X1_removePassenger : Cond.code yX1_removePassenger cX1_removePassenger 3 none ∈ lwa := chk_in wc_63 5 rfl
theorem ml_L_220 : Cond.methodLink RL 220 yX10_setNeeds ∈ lwa := chk_in wc_63 6 rfl
theorem im_X10_setNeeds : Cond.instanceMethod yX10_setNeeds ∈ lwa := chk_in wc_63 7 rfl
theorem se_X10_setNeeds : Cond.selects RX10 yX10_setNeeds yX10_setNeeds ∈ lwa := chk_in wc_63 8 rfl
theorem cd_X10_setNeeds : Cond.code yX10_setNeeds cX10_setNeeds 4 (some .int) ∈ lwa := chk_in wc_63 9 rfl
theorem ml_L_223 : Cond.methodLink RL 223 yL_ordered ∈ lwa := chk_in wc_63 10 rfl
theorem ml_L_114 : Cond.methodLink RL 114 yX10_loadOrder ∈ lwa := chk_in wc_63 11 rfl
theorem im_X10_loadOrder : Cond.instanceMethod yX10_loadOrder ∈ lwa := chk_in wc_63 12 rfl
theorem se_X10_loadOrder : Cond.selects RX10 yX10_loadOrder yX10_loadOrder ∈ lwa := chk_in wc_63 13 rfl
theorem cd_X10_loadOrder : Cond.code yX10_loadOrder cX10_loadOrder 5 (some .int) ∈ lwa := chk_in wc_63 14 rfl
theorem ml_X10_341 : Cond.methodLink RX10 341 yX10_requireOpen ∈ lwa := chk_in wc_63 15 rfl
theorem im_X10_requireOpen : Cond.instanceMethod yX10_requireOpen ∈ lwa := chk_in wc_63 16 rfl
theorem cd_X10_requireOpen : Cond.code yX10_requireOpen cX10_requireOpen 1 none ∈ lwa := chk_in wc_63 17 rfl
theorem ml_X10_344 : Cond.methodLink RX10 344 yX1_put ∈ lwa := chk_in wc_63 18 rfl
theorem im_X1_put : Cond.instanceMethod yX1_put ∈ lwa := chk_in wc_63 19 rfl
def wl_64 : List (Nat × Cond) := [(1513, Cond.selects RX1 yX1_put yX1_put), (0, Cond.code yX1_put cX1_put 7 (some .int)), (0, Cond.methodLink RX1 141 yX7_admits), (0, Cond.methodLink RL 226 yL_stored), (2, Cond.methodLink RL 117 yX10_store), (0, Cond.instanceMethod yX10_store), (0, Cond.selects RX10 yX10_store yX10_store), (0, Cond.code yX10_store cX10_store 3 (some .int)), (0, Cond.methodLink RX10 347 yX10_requireUnits), (1, Cond.instanceMethod yX10_requireUnits), (0, Cond.code yX10_requireUnits cX10_requireUnits 2 none), (1, Cond.methodLink RL 229 yL_unloaded), (2, Cond.methodLink RL 120 yX10_unload), (0, Cond.instanceMethod yX10_unload), (0, Cond.selects RX10 yX10_unload yX10_unload), (0, Cond.code yX10_unload cX10_unload 3 (some .int)), (0, Cond.methodLink RX10 350 yX1_takeOut), (0, Cond.instanceMethod yX1_takeOut), (0, Cond.selects RX1 yX1_takeOut yX1_takeOut), (0, Cond.code yX1_takeOut cX1_takeOut 6 none)]
set_option maxRecDepth 50000 in
theorem wc_64 : chk wl_64 lw_tbl = true := by decide +kernel
theorem se_X1_put : Cond.selects RX1 yX1_put yX1_put ∈ lwa := chk_in wc_64 0 rfl
theorem cd_X1_put : Cond.code yX1_put cX1_put 7 (some .int) ∈ lwa := chk_in wc_64 1 rfl
theorem ml_X1_141 : Cond.methodLink RX1 141 yX7_admits ∈ lwa := chk_in wc_64 2 rfl
theorem ml_L_226 : Cond.methodLink RL 226 yL_stored ∈ lwa := chk_in wc_64 3 rfl
theorem ml_L_117 : Cond.methodLink RL 117 yX10_store ∈ lwa := chk_in wc_64 4 rfl
theorem im_X10_store : Cond.instanceMethod yX10_store ∈ lwa := chk_in wc_64 5 rfl
theorem se_X10_store : Cond.selects RX10 yX10_store yX10_store ∈ lwa := chk_in wc_64 6 rfl
theorem cd_X10_store : Cond.code yX10_store cX10_store 3 (some .int) ∈ lwa := chk_in wc_64 7 rfl
theorem ml_X10_347 : Cond.methodLink RX10 347 yX10_requireUnits ∈ lwa := chk_in wc_64 8 rfl
theorem im_X10_requireUnits : Cond.instanceMethod yX10_requireUnits ∈ lwa := chk_in wc_64 9 rfl
theorem cd_X10_requireUnits : Cond.code yX10_requireUnits cX10_requireUnits 2 none ∈ lwa := chk_in wc_64 10 rfl
theorem ml_L_229 : Cond.methodLink RL 229 yL_unloaded ∈ lwa := chk_in wc_64 11 rfl
theorem ml_L_120 : Cond.methodLink RL 120 yX10_unload ∈ lwa := chk_in wc_64 12 rfl
theorem im_X10_unload : Cond.instanceMethod yX10_unload ∈ lwa := chk_in wc_64 13 rfl
theorem se_X10_unload : Cond.selects RX10 yX10_unload yX10_unload ∈ lwa := chk_in wc_64 14 rfl
theorem cd_X10_unload : Cond.code yX10_unload cX10_unload 3 (some .int) ∈ lwa := chk_in wc_64 15 rfl
theorem ml_X10_350 : Cond.methodLink RX10 350 yX1_takeOut ∈ lwa := chk_in wc_64 16 rfl
theorem im_X1_takeOut : Cond.instanceMethod yX1_takeOut ∈ lwa := chk_in wc_64 17 rfl
theorem se_X1_takeOut : Cond.selects RX1 yX1_takeOut yX1_takeOut ∈ lwa := chk_in wc_64 18 rfl
theorem cd_X1_takeOut : Cond.code yX1_takeOut cX1_takeOut 6 none ∈ lwa := chk_in wc_64 19 rfl
def wl_65 : List (Nat × Cond) := [(1539, Cond.methodLink RX1 145 yJ9_min_7cf53), (0, Cond.methodLink RL 232 yL_topped), (2, Cond.methodLink RL 123 yX10_topUp), (0, Cond.instanceMethod yX10_topUp), (0, Cond.selects RX10 yX10_topUp yX10_topUp), (0, Cond.code yX10_topUp cX10_topUp 3 (some .int)), (0, Cond.methodLink RX10 354 yX1_askFor), (0, Cond.instanceMethod yX1_askFor), (0, Cond.selects RX1 yX1_askFor yX1_askFor), (0, Cond.code yX1_askFor cX1_askFor 3 none), (0, Cond.methodLink RX10 357 yX1_letArrive), (0, Cond.instanceMethod yX1_letArrive), (0, Cond.selects RX1 yX1_letArrive yX1_letArrive), (0, Cond.code yX1_letArrive cX1_letArrive 4 (some .int)), (0, Cond.methodLink RX1 151 yX1_put), (0, Cond.methodLink RL 235 yL_passed), (2, Cond.methodLink RL 126 yX10_advance), (0, Cond.instanceMethod yX10_advance), (0, Cond.selects RX10 yX10_advance yX10_advance), (0, Cond.code yX10_advance cX10_advance 2 (some .int))]
set_option maxRecDepth 50000 in
theorem wc_65 : chk wl_65 lw_tbl = true := by decide +kernel
theorem ml_X1_145 : Cond.methodLink RX1 145 yJ9_min_7cf53 ∈ lwa := chk_in wc_65 0 rfl
theorem ml_L_232 : Cond.methodLink RL 232 yL_topped ∈ lwa := chk_in wc_65 1 rfl
theorem ml_L_123 : Cond.methodLink RL 123 yX10_topUp ∈ lwa := chk_in wc_65 2 rfl
theorem im_X10_topUp : Cond.instanceMethod yX10_topUp ∈ lwa := chk_in wc_65 3 rfl
theorem se_X10_topUp : Cond.selects RX10 yX10_topUp yX10_topUp ∈ lwa := chk_in wc_65 4 rfl
theorem cd_X10_topUp : Cond.code yX10_topUp cX10_topUp 3 (some .int) ∈ lwa := chk_in wc_65 5 rfl
theorem ml_X10_354 : Cond.methodLink RX10 354 yX1_askFor ∈ lwa := chk_in wc_65 6 rfl
theorem im_X1_askFor : Cond.instanceMethod yX1_askFor ∈ lwa := chk_in wc_65 7 rfl
theorem se_X1_askFor : Cond.selects RX1 yX1_askFor yX1_askFor ∈ lwa := chk_in wc_65 8 rfl
theorem cd_X1_askFor : Cond.code yX1_askFor cX1_askFor 3 none ∈ lwa := chk_in wc_65 9 rfl
theorem ml_X10_357 : Cond.methodLink RX10 357 yX1_letArrive ∈ lwa := chk_in wc_65 10 rfl
theorem im_X1_letArrive : Cond.instanceMethod yX1_letArrive ∈ lwa := chk_in wc_65 11 rfl
theorem se_X1_letArrive : Cond.selects RX1 yX1_letArrive yX1_letArrive ∈ lwa := chk_in wc_65 12 rfl
theorem cd_X1_letArrive : Cond.code yX1_letArrive cX1_letArrive 4 (some .int) ∈ lwa := chk_in wc_65 13 rfl
theorem ml_X1_151 : Cond.methodLink RX1 151 yX1_put ∈ lwa := chk_in wc_65 14 rfl
theorem ml_L_235 : Cond.methodLink RL 235 yL_passed ∈ lwa := chk_in wc_65 15 rfl
theorem ml_L_126 : Cond.methodLink RL 126 yX10_advance ∈ lwa := chk_in wc_65 16 rfl
theorem im_X10_advance : Cond.instanceMethod yX10_advance ∈ lwa := chk_in wc_65 17 rfl
theorem se_X10_advance : Cond.selects RX10 yX10_advance yX10_advance ∈ lwa := chk_in wc_65 18 rfl
theorem cd_X10_advance : Cond.code yX10_advance cX10_advance 2 (some .int) ∈ lwa := chk_in wc_65 19 rfl
def wl_66 : List (Nat × Cond) := [(1573, Cond.selects RJ4 yJ4_length_8abf5 yJ4_length_8abf5)]
set_option maxRecDepth 50000 in
theorem wc_66 : chk wl_66 lw_tbl = true := by decide +kernel
theorem se_J4_length_8abf5 : Cond.selects RJ4 yJ4_length_8abf5 yJ4_length_8abf5 ∈ lwa := chk_in wc_66 0 rfl
theorem uw_J0 : ∀ w ∈ u_ws RJ0 TJ0 4, w ∈ lwa := by
  intro w hw
  obtain ⟨k, hk, rfl⟩ := List.mem_map.mp hw
  have hk := List.mem_range.mp hk
  rcases (by omega : k = 0 ∨ k = 1 ∨ k = 2 ∨ k = 3) with rfl | rfl | rfl | rfl
  · exact ul_J0_0
  · exact ul_J0_1
  · exact ul_J0_2
  · exact ul_J0_3
theorem cls_J0 : ClsOK 0 RJ0 TJ0 4 tyJ0 := ⟨rfl, rfl, uw_J0, tyJ0_ok, nmJ0, by decide +kernel, by decide +kernel, by decide⟩
theorem uw_X0 : ∀ w ∈ u_ws RX0 TX0 3, w ∈ lwa := by
  intro w hw
  obtain ⟨k, hk, rfl⟩ := List.mem_map.mp hw
  have hk := List.mem_range.mp hk
  rcases (by omega : k = 0 ∨ k = 1 ∨ k = 2) with rfl | rfl | rfl
  · exact ul_X0_0
  · exact ul_X0_1
  · exact ul_X0_2
theorem cls_X0 : ClsOK 1 RX0 TX0 3 tyX0 := ⟨rfl, rfl, uw_X0, tyX0_ok, nmX0, by decide +kernel, by decide +kernel, by decide⟩
theorem uw_X1 : ∀ w ∈ u_ws RX1 TX1 13, w ∈ lwa := by
  intro w hw
  obtain ⟨k, hk, rfl⟩ := List.mem_map.mp hw
  have hk := List.mem_range.mp hk
  rcases (by omega : k = 0 ∨ k = 1 ∨ k = 2 ∨ k = 3 ∨ k = 4 ∨ k = 5 ∨ k = 6 ∨ k = 7 ∨ k = 8 ∨ k = 9 ∨ k = 10 ∨ k = 11 ∨ k = 12) with rfl | rfl | rfl | rfl | rfl | rfl | rfl | rfl | rfl | rfl | rfl | rfl | rfl
  · exact ul_X1_0
  · exact ul_X1_1
  · exact ul_X1_2
  · exact ul_X1_3
  · exact ul_X1_4
  · exact ul_X1_5
  · exact ul_X1_6
  · exact ul_X1_7
  · exact ul_X1_8
  · exact ul_X1_9
  · exact ul_X1_10
  · exact ul_X1_11
  · exact ul_X1_12
theorem cls_X1 : ClsOK 2 RX1 TX1 13 tyX1 := ⟨rfl, rfl, uw_X1, tyX1_ok, nmX1, by decide +kernel, by decide +kernel, by decide⟩
theorem uw_X2 : ∀ w ∈ u_ws RX2 TX2 5, w ∈ lwa := by
  intro w hw
  obtain ⟨k, hk, rfl⟩ := List.mem_map.mp hw
  have hk := List.mem_range.mp hk
  rcases (by omega : k = 0 ∨ k = 1 ∨ k = 2 ∨ k = 3 ∨ k = 4) with rfl | rfl | rfl | rfl | rfl
  · exact ul_X2_0
  · exact ul_X2_1
  · exact ul_X2_2
  · exact ul_X2_3
  · exact ul_X2_4
theorem cls_X2 : ClsOK 3 RX2 TX2 5 tyX2 := ⟨rfl, rfl, uw_X2, tyX2_ok, nmX2, by decide +kernel, by decide +kernel, by decide⟩
theorem uw_X3 : ∀ w ∈ u_ws RX3 TX3 3, w ∈ lwa := by
  intro w hw
  obtain ⟨k, hk, rfl⟩ := List.mem_map.mp hw
  have hk := List.mem_range.mp hk
  rcases (by omega : k = 0 ∨ k = 1 ∨ k = 2) with rfl | rfl | rfl
  · exact ul_X3_0
  · exact ul_X3_1
  · exact ul_X3_2
theorem cls_X3 : ClsOK 4 RX3 TX3 3 tyX3 := ⟨rfl, rfl, uw_X3, tyX3_ok, nmX3, by decide +kernel, by decide +kernel, by decide⟩
theorem uw_X4 : ∀ w ∈ u_ws RX4 TX4 10, w ∈ lwa := by
  intro w hw
  obtain ⟨k, hk, rfl⟩ := List.mem_map.mp hw
  have hk := List.mem_range.mp hk
  rcases (by omega : k = 0 ∨ k = 1 ∨ k = 2 ∨ k = 3 ∨ k = 4 ∨ k = 5 ∨ k = 6 ∨ k = 7 ∨ k = 8 ∨ k = 9) with rfl | rfl | rfl | rfl | rfl | rfl | rfl | rfl | rfl | rfl
  · exact ul_X4_0
  · exact ul_X4_1
  · exact ul_X4_2
  · exact ul_X4_3
  · exact ul_X4_4
  · exact ul_X4_5
  · exact ul_X4_6
  · exact ul_X4_7
  · exact ul_X4_8
  · exact ul_X4_9
theorem cls_X4 : ClsOK 5 RX4 TX4 10 tyX4 := ⟨rfl, rfl, uw_X4, tyX4_ok, nmX4, by decide +kernel, by decide +kernel, by decide⟩
theorem uw_X5 : ∀ w ∈ u_ws RX5 TX5 6, w ∈ lwa := by
  intro w hw
  obtain ⟨k, hk, rfl⟩ := List.mem_map.mp hw
  have hk := List.mem_range.mp hk
  rcases (by omega : k = 0 ∨ k = 1 ∨ k = 2 ∨ k = 3 ∨ k = 4 ∨ k = 5) with rfl | rfl | rfl | rfl | rfl | rfl
  · exact ul_X5_0
  · exact ul_X5_1
  · exact ul_X5_2
  · exact ul_X5_3
  · exact ul_X5_4
  · exact ul_X5_5
theorem cls_X5 : ClsOK 6 RX5 TX5 6 tyX5 := ⟨rfl, rfl, uw_X5, tyX5_ok, nmX5, by decide +kernel, by decide +kernel, by decide⟩
theorem uw_X6 : ∀ w ∈ u_ws RX6 TX6 2, w ∈ lwa := by
  intro w hw
  obtain ⟨k, hk, rfl⟩ := List.mem_map.mp hw
  have hk := List.mem_range.mp hk
  rcases (by omega : k = 0 ∨ k = 1) with rfl | rfl
  · exact ul_X6_0
  · exact ul_X6_1
theorem cls_X6 : ClsOK 7 RX6 TX6 2 tyX6 := ⟨rfl, rfl, uw_X6, tyX6_ok, nmX6, by decide +kernel, by decide +kernel, by decide⟩
theorem uw_X7 : ∀ w ∈ u_ws RX7 TX7 11, w ∈ lwa := by
  intro w hw
  obtain ⟨k, hk, rfl⟩ := List.mem_map.mp hw
  have hk := List.mem_range.mp hk
  rcases (by omega : k = 0 ∨ k = 1 ∨ k = 2 ∨ k = 3 ∨ k = 4 ∨ k = 5 ∨ k = 6 ∨ k = 7 ∨ k = 8 ∨ k = 9 ∨ k = 10) with rfl | rfl | rfl | rfl | rfl | rfl | rfl | rfl | rfl | rfl | rfl
  · exact ul_X7_0
  · exact ul_X7_1
  · exact ul_X7_2
  · exact ul_X7_3
  · exact ul_X7_4
  · exact ul_X7_5
  · exact ul_X7_6
  · exact ul_X7_7
  · exact ul_X7_8
  · exact ul_X7_9
  · exact ul_X7_10
theorem cls_X7 : ClsOK 8 RX7 TX7 11 tyX7 := ⟨rfl, rfl, uw_X7, tyX7_ok, nmX7, by decide +kernel, by decide +kernel, by decide⟩
theorem uw_X8 : ∀ w ∈ u_ws RX8 TX8 8, w ∈ lwa := by
  intro w hw
  obtain ⟨k, hk, rfl⟩ := List.mem_map.mp hw
  have hk := List.mem_range.mp hk
  rcases (by omega : k = 0 ∨ k = 1 ∨ k = 2 ∨ k = 3 ∨ k = 4 ∨ k = 5 ∨ k = 6 ∨ k = 7) with rfl | rfl | rfl | rfl | rfl | rfl | rfl | rfl
  · exact ul_X8_0
  · exact ul_X8_1
  · exact ul_X8_2
  · exact ul_X8_3
  · exact ul_X8_4
  · exact ul_X8_5
  · exact ul_X8_6
  · exact ul_X8_7
theorem cls_X8 : ClsOK 9 RX8 TX8 8 tyX8 := ⟨rfl, rfl, uw_X8, tyX8_ok, nmX8, by decide +kernel, by decide +kernel, by decide⟩
theorem uw_X9 : ∀ w ∈ u_ws RX9 TX9 6, w ∈ lwa := by
  intro w hw
  obtain ⟨k, hk, rfl⟩ := List.mem_map.mp hw
  have hk := List.mem_range.mp hk
  rcases (by omega : k = 0 ∨ k = 1 ∨ k = 2 ∨ k = 3 ∨ k = 4 ∨ k = 5) with rfl | rfl | rfl | rfl | rfl | rfl
  · exact ul_X9_0
  · exact ul_X9_1
  · exact ul_X9_2
  · exact ul_X9_3
  · exact ul_X9_4
  · exact ul_X9_5
theorem cls_X9 : ClsOK 10 RX9 TX9 6 tyX9 := ⟨rfl, rfl, uw_X9, tyX9_ok, nmX9, by decide +kernel, by decide +kernel, by decide⟩
theorem uw_X10 : ∀ w ∈ u_ws RX10 TX10 18, w ∈ lwa := by
  intro w hw
  obtain ⟨k, hk, rfl⟩ := List.mem_map.mp hw
  have hk := List.mem_range.mp hk
  rcases (by omega : k = 0 ∨ k = 1 ∨ k = 2 ∨ k = 3 ∨ k = 4 ∨ k = 5 ∨ k = 6 ∨ k = 7 ∨ k = 8 ∨ k = 9 ∨ k = 10 ∨ k = 11 ∨ k = 12 ∨ k = 13 ∨ k = 14 ∨ k = 15 ∨ k = 16 ∨ k = 17) with rfl | rfl | rfl | rfl | rfl | rfl | rfl | rfl | rfl | rfl | rfl | rfl | rfl | rfl | rfl | rfl | rfl | rfl
  · exact ul_X10_0
  · exact ul_X10_1
  · exact ul_X10_2
  · exact ul_X10_3
  · exact ul_X10_4
  · exact ul_X10_5
  · exact ul_X10_6
  · exact ul_X10_7
  · exact ul_X10_8
  · exact ul_X10_9
  · exact ul_X10_10
  · exact ul_X10_11
  · exact ul_X10_12
  · exact ul_X10_13
  · exact ul_X10_14
  · exact ul_X10_15
  · exact ul_X10_16
  · exact ul_X10_17
theorem cls_X10 : ClsOK 11 RX10 TX10 18 tyX10 := ⟨rfl, rfl, uw_X10, tyX10_ok, nmX10, by decide +kernel, by decide +kernel, by decide⟩
theorem uw_J4 : ∀ w ∈ u_ws RJ4 TJ4 4, w ∈ lwa := by
  intro w hw
  obtain ⟨k, hk, rfl⟩ := List.mem_map.mp hw
  have hk := List.mem_range.mp hk
  rcases (by omega : k = 0 ∨ k = 1 ∨ k = 2 ∨ k = 3) with rfl | rfl | rfl | rfl
  · exact ul_J4_0
  · exact ul_J4_1
  · exact ul_J4_2
  · exact ul_J4_3
theorem cls_J4 : ClsOK 12 RJ4 TJ4 4 tyJ4 := ⟨rfl, rfl, uw_J4, tyJ4_ok, nmJ4, by decide +kernel, by decide +kernel, by decide⟩
theorem fs_X0_9 : FSite RX0 9 1 0 (.object "java/lang/String") false := ⟨_, _, _, _, cls_X0, by decide, fl_X0_9, rfl, rfl⟩
theorem fs_X1_9 : FSite RX1 9 2 0 (.object "MealLoader$Plan") false := ⟨_, _, _, _, cls_X1, by decide, fl_X1_9, rfl, rfl⟩
theorem fs_X1_15 : FSite RX1 15 2 4 (.array .int) true := ⟨_, _, _, _, cls_X1, by decide, fl_X1_15, rfl, rfl⟩
theorem fs_X1_19 : FSite RX1 19 2 5 (.array .int) true := ⟨_, _, _, _, cls_X1, by decide, fl_X1_19, rfl, rfl⟩
theorem fs_X1_22 : FSite RX1 22 2 6 (.array .int) true := ⟨_, _, _, _, cls_X1, by decide, fl_X1_22, rfl, rfl⟩
theorem fs_X1_27 : FSite RX1 27 2 7 (.array (.array .int)) true := ⟨_, _, _, _, cls_X1, by decide, fl_X1_27, rfl, rfl⟩
theorem fs_X1_30 : FSite RX1 30 2 9 (.array .int) true := ⟨_, _, _, _, cls_X1, by decide, fl_X1_30, rfl, rfl⟩
theorem fs_X1_33 : FSite RX1 33 2 10 (.array .int) true := ⟨_, _, _, _, cls_X1, by decide, fl_X1_33, rfl, rfl⟩
theorem fs_X1_36 : FSite RX1 36 2 11 (.array .int) true := ⟨_, _, _, _, cls_X1, by decide, fl_X1_36, rfl, rfl⟩
theorem fs_X1_39 : FSite RX1 39 2 12 (.array .long) true := ⟨_, _, _, _, cls_X1, by decide, fl_X1_39, rfl, rfl⟩
theorem fs_X1_43 : FSite RX1 43 2 1 (.boolean) false := ⟨_, _, _, _, cls_X1, by decide, fl_X1_43, rfl, rfl⟩
theorem fs_X1_47 : FSite RX1 47 2 3 (.int) false := ⟨_, _, _, _, cls_X1, by decide, fl_X1_47, rfl, rfl⟩
theorem fs_X1_51 : FSite RX1 51 2 8 (.int) false := ⟨_, _, _, _, cls_X1, by decide, fl_X1_51, rfl, rfl⟩
theorem fs_X1_60 : FSite RX1 60 2 2 (.int) false := ⟨_, _, _, _, cls_X1, by decide, fl_X1_60, rfl, rfl⟩
theorem fs_X1_73 : FSite RX1 73 8 0 (.boolean) false := ⟨_, _, _, _, cls_X7, by decide, fl_X1_73, rfl, rfl⟩
theorem fs_X1_78 : FSite RX1 78 8 9 (.int) false := ⟨_, _, _, _, cls_X7, by decide, fl_X1_78, rfl, rfl⟩
theorem fs_X1_81 : FSite RX1 81 8 2 (.array (.object "MealLoader$Cabin")) true := ⟨_, _, _, _, cls_X7, by decide, fl_X1_81, rfl, rfl⟩
theorem fs_X1_85 : FSite RX1 85 1 1 (.int) false := ⟨_, _, _, _, cls_X0, by decide, fl_X1_85, rfl, rfl⟩
theorem fs_X1_103 : FSite RX1 103 8 7 (.array .int) true := ⟨_, _, _, _, cls_X7, by decide, fl_X1_103, rfl, rfl⟩
theorem fs_X1_106 : FSite RX1 106 8 3 (.int) false := ⟨_, _, _, _, cls_X7, by decide, fl_X1_106, rfl, rfl⟩
theorem fs_X1_109 : FSite RX1 109 8 4 (.array (.object "MealLoader$Meal")) true := ⟨_, _, _, _, cls_X7, by decide, fl_X1_109, rfl, rfl⟩
theorem fs_X1_113 : FSite RX1 113 6 3 (.int) false := ⟨_, _, _, _, cls_X5, by decide, fl_X1_113, rfl, rfl⟩
theorem fs_X1_118 : FSite RX1 118 8 5 (.int) false := ⟨_, _, _, _, cls_X7, by decide, fl_X1_118, rfl, rfl⟩
theorem fs_X1_121 : FSite RX1 121 8 6 (.array .int) true := ⟨_, _, _, _, cls_X7, by decide, fl_X1_121, rfl, rfl⟩
theorem fs_X1_148 : FSite RX1 148 8 10 (.int) false := ⟨_, _, _, _, cls_X7, by decide, fl_X1_148, rfl, rfl⟩
theorem fs_X10_9 : FSite RX10 9 11 0 (.array .byte) true := ⟨_, _, _, _, cls_X10, by decide, fl_X10_9, rfl, rfl⟩
theorem fs_X10_13 : FSite RX10 13 11 2 (.array .byte) true := ⟨_, _, _, _, cls_X10, by decide, fl_X10_13, rfl, rfl⟩
theorem fs_X10_16 : FSite RX10 16 11 5 (.int) false := ⟨_, _, _, _, cls_X10, by decide, fl_X10_16, rfl, rfl⟩
theorem fs_X10_28 : FSite RX10 28 11 7 (.object "MealLoader$Flight") true := ⟨_, _, _, _, cls_X10, by decide, fl_X10_28, rfl, rfl⟩
theorem fs_X10_32 : FSite RX10 32 11 8 (.object "MealLoader$Flight") true := ⟨_, _, _, _, cls_X10, by decide, fl_X10_32, rfl, rfl⟩
theorem fs_X10_35 : FSite RX10 35 11 9 (.object "MealLoader$Plan") false := ⟨_, _, _, _, cls_X10, by decide, fl_X10_35, rfl, rfl⟩
theorem fs_X10_42 : FSite RX10 42 11 10 (.object "MealLoader$FlightText") true := ⟨_, _, _, _, cls_X10, by decide, fl_X10_42, rfl, rfl⟩
theorem fs_X10_49 : FSite RX10 49 11 11 (.object "MealLoader$History") true := ⟨_, _, _, _, cls_X10, by decide, fl_X10_49, rfl, rfl⟩
theorem fs_X10_53 : FSite RX10 53 11 12 (.array (.object "MealLoader$Flight")) true := ⟨_, _, _, _, cls_X10, by decide, fl_X10_53, rfl, rfl⟩
theorem fs_X10_57 : FSite RX10 57 11 13 (.array .boolean) true := ⟨_, _, _, _, cls_X10, by decide, fl_X10_57, rfl, rfl⟩
theorem fs_X10_64 : FSite RX10 64 11 14 (.object "MealLoader$Order") true := ⟨_, _, _, _, cls_X10, by decide, fl_X10_64, rfl, rfl⟩
theorem fs_X10_71 : FSite RX10 71 11 15 (.object "MealLoader$Matching") true := ⟨_, _, _, _, cls_X10, by decide, fl_X10_71, rfl, rfl⟩
theorem fs_X10_78 : FSite RX10 78 11 16 (.object "MealLoader$Service") true := ⟨_, _, _, _, cls_X10, by decide, fl_X10_78, rfl, rfl⟩
theorem fs_X10_82 : FSite RX10 82 11 1 (.int) false := ⟨_, _, _, _, cls_X10, by decide, fl_X10_82, rfl, rfl⟩
theorem fs_X10_105 : FSite RX10 105 3 3 (.int) false := ⟨_, _, _, _, cls_X2, by decide, fl_X10_105, rfl, rfl⟩
theorem fs_X10_108 : FSite RX10 108 11 4 (.int) false := ⟨_, _, _, _, cls_X10, by decide, fl_X10_108, rfl, rfl⟩
theorem fs_X10_111 : FSite RX10 111 3 4 (.int) false := ⟨_, _, _, _, cls_X2, by decide, fl_X10_111, rfl, rfl⟩
theorem fs_X10_116 : FSite RX10 116 2 0 (.object "MealLoader$Plan") false := ⟨_, _, _, _, cls_X1, by decide, fl_X10_116, rfl, rfl⟩
theorem fs_X10_129 : FSite RX10 129 11 6 (.int) false := ⟨_, _, _, _, cls_X10, by decide, fl_X10_129, rfl, rfl⟩
theorem fs_X10_132 : FSite RX10 132 2 3 (.int) false := ⟨_, _, _, _, cls_X1, by decide, fl_X10_132, rfl, rfl⟩
theorem fs_X10_139 : FSite RX10 139 8 1 (.int) false := ⟨_, _, _, _, cls_X7, by decide, fl_X10_139, rfl, rfl⟩
theorem fs_X10_142 : FSite RX10 142 8 3 (.int) false := ⟨_, _, _, _, cls_X7, by decide, fl_X10_142, rfl, rfl⟩
theorem fs_X10_145 : FSite RX10 145 8 5 (.int) false := ⟨_, _, _, _, cls_X7, by decide, fl_X10_145, rfl, rfl⟩
theorem fs_X10_148 : FSite RX10 148 2 2 (.int) false := ⟨_, _, _, _, cls_X1, by decide, fl_X10_148, rfl, rfl⟩
theorem fs_X10_151 : FSite RX10 151 2 8 (.int) false := ⟨_, _, _, _, cls_X1, by decide, fl_X10_151, rfl, rfl⟩
theorem fs_X10_164 : FSite RX10 164 4 2 (.int) false := ⟨_, _, _, _, cls_X3, by decide, fl_X10_164, rfl, rfl⟩
theorem fs_X10_167 : FSite RX10 167 8 9 (.int) false := ⟨_, _, _, _, cls_X7, by decide, fl_X10_167, rfl, rfl⟩
theorem fs_X10_170 : FSite RX10 170 8 10 (.int) false := ⟨_, _, _, _, cls_X7, by decide, fl_X10_170, rfl, rfl⟩
theorem fs_X10_178 : FSite RX10 178 8 2 (.array (.object "MealLoader$Cabin")) true := ⟨_, _, _, _, cls_X7, by decide, fl_X10_178, rfl, rfl⟩
theorem fs_X10_182 : FSite RX10 182 1 1 (.int) false := ⟨_, _, _, _, cls_X0, by decide, fl_X10_182, rfl, rfl⟩
theorem fs_X10_187 : FSite RX10 187 1 2 (.int) false := ⟨_, _, _, _, cls_X0, by decide, fl_X10_187, rfl, rfl⟩
theorem fs_X10_215 : FSite RX10 215 8 4 (.array (.object "MealLoader$Meal")) true := ⟨_, _, _, _, cls_X7, by decide, fl_X10_215, rfl, rfl⟩
theorem fs_X10_219 : FSite RX10 219 6 1 (.int) false := ⟨_, _, _, _, cls_X5, by decide, fl_X10_219, rfl, rfl⟩
theorem fs_X10_223 : FSite RX10 223 6 2 (.int) false := ⟨_, _, _, _, cls_X5, by decide, fl_X10_223, rfl, rfl⟩
theorem fs_X10_226 : FSite RX10 226 6 3 (.int) false := ⟨_, _, _, _, cls_X5, by decide, fl_X10_226, rfl, rfl⟩
theorem fs_X10_227 : FSite RX10 227 6 4 (.int) false := ⟨_, _, _, _, cls_X5, by decide, fl_X10_227, rfl, rfl⟩
theorem fs_X10_230 : FSite RX10 230 6 5 (.int) false := ⟨_, _, _, _, cls_X5, by decide, fl_X10_230, rfl, rfl⟩
theorem fs_X10_236 : FSite RX10 236 7 0 (.array .int) true := ⟨_, _, _, _, cls_X6, by decide, fl_X10_236, rfl, rfl⟩
theorem fs_X10_247 : FSite RX10 247 9 2 (.array .int) true := ⟨_, _, _, _, cls_X8, by decide, fl_X10_247, rfl, rfl⟩
theorem fs_X10_259 : FSite RX10 259 2 4 (.array .int) true := ⟨_, _, _, _, cls_X1, by decide, fl_X10_259, rfl, rfl⟩
theorem fs_X10_262 : FSite RX10 262 2 5 (.array .int) true := ⟨_, _, _, _, cls_X1, by decide, fl_X10_262, rfl, rfl⟩
theorem fs_X10_265 : FSite RX10 265 2 6 (.array .int) true := ⟨_, _, _, _, cls_X1, by decide, fl_X10_265, rfl, rfl⟩
theorem fs_X10_268 : FSite RX10 268 9 0 (.array .int) true := ⟨_, _, _, _, cls_X8, by decide, fl_X10_268, rfl, rfl⟩
theorem fs_X10_282 : FSite RX10 282 8 6 (.array .int) true := ⟨_, _, _, _, cls_X7, by decide, fl_X10_282, rfl, rfl⟩
theorem fs_X10_285 : FSite RX10 285 8 7 (.array .int) true := ⟨_, _, _, _, cls_X7, by decide, fl_X10_285, rfl, rfl⟩
theorem fs_X10_296 : FSite RX10 296 2 7 (.array (.array .int)) true := ⟨_, _, _, _, cls_X1, by decide, fl_X10_296, rfl, rfl⟩
theorem fs_X10_304 : FSite RX10 304 2 9 (.array .int) true := ⟨_, _, _, _, cls_X1, by decide, fl_X10_304, rfl, rfl⟩
theorem fs_X10_307 : FSite RX10 307 2 10 (.array .int) true := ⟨_, _, _, _, cls_X1, by decide, fl_X10_307, rfl, rfl⟩
theorem fs_X10_310 : FSite RX10 310 2 11 (.array .int) true := ⟨_, _, _, _, cls_X1, by decide, fl_X10_310, rfl, rfl⟩
theorem fs_X10_362 : FSite RX10 362 9 3 (.int) false := ⟨_, _, _, _, cls_X8, by decide, fl_X10_362, rfl, rfl⟩
theorem fs_X10_365 : FSite RX10 365 9 4 (.int) false := ⟨_, _, _, _, cls_X8, by decide, fl_X10_365, rfl, rfl⟩
theorem fs_X10_368 : FSite RX10 368 9 5 (.int) false := ⟨_, _, _, _, cls_X8, by decide, fl_X10_368, rfl, rfl⟩
theorem fs_X10_371 : FSite RX10 371 9 6 (.int) false := ⟨_, _, _, _, cls_X8, by decide, fl_X10_371, rfl, rfl⟩
theorem fs_X10_374 : FSite RX10 374 9 7 (.int) false := ⟨_, _, _, _, cls_X8, by decide, fl_X10_374, rfl, rfl⟩
theorem fs_X10_379 : FSite RX10 379 2 12 (.array .long) true := ⟨_, _, _, _, cls_X1, by decide, fl_X10_379, rfl, rfl⟩
theorem fs_X10_383 : FSite RX10 383 2 1 (.boolean) false := ⟨_, _, _, _, cls_X1, by decide, fl_X10_383, rfl, rfl⟩
theorem fs_X10_406 : FSite RX10 406 11 17 (.boolean) false := ⟨_, _, _, _, cls_X10, by decide, fl_X10_406, rfl, rfl⟩
theorem fs_X10_471 : FSite RX10 471 5 3 (.array .int) true := ⟨_, _, _, _, cls_X4, by decide, fl_X10_471, rfl, rfl⟩
theorem fs_X2_12 : FSite RX2 12 3 0 (.object "MealLoader$Tokens") true := ⟨_, _, _, _, cls_X2, by decide, fl_X2_12, rfl, rfl⟩
theorem fs_X2_18 : FSite RX2 18 3 1 (.object "MealLoader$Flight") false := ⟨_, _, _, _, cls_X2, by decide, fl_X2_18, rfl, rfl⟩
theorem fs_X2_22 : FSite RX2 22 3 2 (.object "MealLoader$Plan") false := ⟨_, _, _, _, cls_X2, by decide, fl_X2_22, rfl, rfl⟩
theorem fs_X2_36 : FSite RX2 36 3 3 (.int) false := ⟨_, _, _, _, cls_X2, by decide, fl_X2_36, rfl, rfl⟩
theorem fs_X2_40 : FSite RX2 40 3 4 (.int) false := ⟨_, _, _, _, cls_X2, by decide, fl_X2_40, rfl, rfl⟩
theorem fs_X2_50 : FSite RX2 50 10 4 (.int) false := ⟨_, _, _, _, cls_X9, by decide, fl_X2_50, rfl, rfl⟩
theorem fs_X2_57 : FSite RX2 57 8 8 (.int) false := ⟨_, _, _, _, cls_X7, by decide, fl_X2_57, rfl, rfl⟩
theorem fs_X2_60 : FSite RX2 60 2 2 (.int) false := ⟨_, _, _, _, cls_X1, by decide, fl_X2_60, rfl, rfl⟩
theorem fs_X2_110 : FSite RX2 110 8 9 (.int) false := ⟨_, _, _, _, cls_X7, by decide, fl_X2_110, rfl, rfl⟩
theorem fs_X2_116 : FSite RX2 116 8 10 (.int) false := ⟨_, _, _, _, cls_X7, by decide, fl_X2_116, rfl, rfl⟩
theorem fs_X2_118 : FSite RX2 118 8 1 (.int) false := ⟨_, _, _, _, cls_X7, by decide, fl_X2_118, rfl, rfl⟩
theorem fs_X2_128 : FSite RX2 128 8 2 (.array (.object "MealLoader$Cabin")) true := ⟨_, _, _, _, cls_X7, by decide, fl_X2_128, rfl, rfl⟩
theorem fs_X2_135 : FSite RX2 135 1 0 (.object "java/lang/String") false := ⟨_, _, _, _, cls_X0, by decide, fl_X2_135, rfl, rfl⟩
theorem fs_X2_141 : FSite RX2 141 1 1 (.int) false := ⟨_, _, _, _, cls_X0, by decide, fl_X2_141, rfl, rfl⟩
theorem fs_X2_144 : FSite RX2 144 1 2 (.int) false := ⟨_, _, _, _, cls_X0, by decide, fl_X2_144, rfl, rfl⟩
theorem fs_X2_150 : FSite RX2 150 8 3 (.int) false := ⟨_, _, _, _, cls_X7, by decide, fl_X2_150, rfl, rfl⟩
theorem fs_X2_156 : FSite RX2 156 8 4 (.array (.object "MealLoader$Meal")) true := ⟨_, _, _, _, cls_X7, by decide, fl_X2_156, rfl, rfl⟩
theorem fs_X2_159 : FSite RX2 159 6 0 (.object "java/lang/String") false := ⟨_, _, _, _, cls_X5, by decide, fl_X2_159, rfl, rfl⟩
theorem fs_X2_166 : FSite RX2 166 6 3 (.int) false := ⟨_, _, _, _, cls_X5, by decide, fl_X2_166, rfl, rfl⟩
theorem fs_X2_169 : FSite RX2 169 6 4 (.int) false := ⟨_, _, _, _, cls_X5, by decide, fl_X2_169, rfl, rfl⟩
theorem fs_X2_172 : FSite RX2 172 6 5 (.int) false := ⟨_, _, _, _, cls_X5, by decide, fl_X2_172, rfl, rfl⟩
theorem fs_X2_179 : FSite RX2 179 6 1 (.int) false := ⟨_, _, _, _, cls_X5, by decide, fl_X2_179, rfl, rfl⟩
theorem fs_X2_181 : FSite RX2 181 6 2 (.int) false := ⟨_, _, _, _, cls_X5, by decide, fl_X2_181, rfl, rfl⟩
theorem fs_X2_191 : FSite RX2 191 8 5 (.int) false := ⟨_, _, _, _, cls_X7, by decide, fl_X2_191, rfl, rfl⟩
theorem fs_X2_194 : FSite RX2 194 8 6 (.array .int) true := ⟨_, _, _, _, cls_X7, by decide, fl_X2_194, rfl, rfl⟩
theorem fs_X2_198 : FSite RX2 198 8 7 (.array .int) true := ⟨_, _, _, _, cls_X7, by decide, fl_X2_198, rfl, rfl⟩
theorem fs_X2_205 : FSite RX2 205 2 3 (.int) false := ⟨_, _, _, _, cls_X1, by decide, fl_X2_205, rfl, rfl⟩
theorem fs_X2_219 : FSite RX2 219 10 5 (.int) false := ⟨_, _, _, _, cls_X9, by decide, fl_X2_219, rfl, rfl⟩
theorem fs_X2_222 : FSite RX2 222 10 2 (.int) false := ⟨_, _, _, _, cls_X9, by decide, fl_X2_222, rfl, rfl⟩
theorem fs_X2_225 : FSite RX2 225 10 3 (.int) false := ⟨_, _, _, _, cls_X9, by decide, fl_X2_225, rfl, rfl⟩
theorem fs_X2_228 : FSite RX2 228 10 0 (.array .byte) false := ⟨_, _, _, _, cls_X9, by decide, fl_X2_228, rfl, rfl⟩
theorem fs_X3_11 : FSite RX3 11 4 0 (.array (.object "MealLoader$Flight")) true := ⟨_, _, _, _, cls_X3, by decide, fl_X3_11, rfl, rfl⟩
theorem fs_X3_20 : FSite RX3 20 4 1 (.int) false := ⟨_, _, _, _, cls_X3, by decide, fl_X3_20, rfl, rfl⟩
theorem fs_X3_28 : FSite RX3 28 4 2 (.int) false := ⟨_, _, _, _, cls_X3, by decide, fl_X3_28, rfl, rfl⟩
theorem fs_X4_9 : FSite RX4 9 5 2 (.array .int) true := ⟨_, _, _, _, cls_X4, by decide, fl_X4_9, rfl, rfl⟩
theorem fs_X4_15 : FSite RX4 15 5 3 (.array .int) true := ⟨_, _, _, _, cls_X4, by decide, fl_X4_15, rfl, rfl⟩
theorem fs_X4_18 : FSite RX4 18 5 4 (.array .int) true := ⟨_, _, _, _, cls_X4, by decide, fl_X4_18, rfl, rfl⟩
theorem fs_X4_21 : FSite RX4 21 5 5 (.array .int) true := ⟨_, _, _, _, cls_X4, by decide, fl_X4_21, rfl, rfl⟩
theorem fs_X4_24 : FSite RX4 24 5 6 (.array .int) true := ⟨_, _, _, _, cls_X4, by decide, fl_X4_24, rfl, rfl⟩
theorem fs_X4_27 : FSite RX4 27 5 7 (.array .int) true := ⟨_, _, _, _, cls_X4, by decide, fl_X4_27, rfl, rfl⟩
theorem fs_X4_30 : FSite RX4 30 2 3 (.int) false := ⟨_, _, _, _, cls_X1, by decide, fl_X4_30, rfl, rfl⟩
theorem fs_X4_36 : FSite RX4 36 5 0 (.int) false := ⟨_, _, _, _, cls_X4, by decide, fl_X4_36, rfl, rfl⟩
theorem fs_X4_39 : FSite RX4 39 2 0 (.object "MealLoader$Plan") false := ⟨_, _, _, _, cls_X1, by decide, fl_X4_39, rfl, rfl⟩
theorem fs_X4_43 : FSite RX4 43 8 3 (.int) false := ⟨_, _, _, _, cls_X7, by decide, fl_X4_43, rfl, rfl⟩
theorem fs_X4_48 : FSite RX4 48 5 1 (.int) false := ⟨_, _, _, _, cls_X4, by decide, fl_X4_48, rfl, rfl⟩
theorem fs_X4_53 : FSite RX4 53 2 5 (.array .int) true := ⟨_, _, _, _, cls_X1, by decide, fl_X4_53, rfl, rfl⟩
theorem fs_X4_85 : FSite RX4 85 5 8 (.int) false := ⟨_, _, _, _, cls_X4, by decide, fl_X4_85, rfl, rfl⟩
theorem fs_X4_88 : FSite RX4 88 5 9 (.int) false := ⟨_, _, _, _, cls_X4, by decide, fl_X4_88, rfl, rfl⟩
theorem fs_X5_9 : FSite RX5 9 6 0 (.object "java/lang/String") false := ⟨_, _, _, _, cls_X5, by decide, fl_X5_9, rfl, rfl⟩
theorem fs_X6_9 : FSite RX6 9 7 0 (.array .int) true := ⟨_, _, _, _, cls_X6, by decide, fl_X6_9, rfl, rfl⟩
theorem fs_X6_15 : FSite RX6 15 7 1 (.array .int) true := ⟨_, _, _, _, cls_X6, by decide, fl_X6_15, rfl, rfl⟩
theorem fs_X6_24 : FSite RX6 24 2 3 (.int) false := ⟨_, _, _, _, cls_X1, by decide, fl_X6_24, rfl, rfl⟩
theorem fs_X6_30 : FSite RX6 30 2 5 (.array .int) true := ⟨_, _, _, _, cls_X1, by decide, fl_X6_30, rfl, rfl⟩
theorem fs_X6_37 : FSite RX6 37 2 0 (.object "MealLoader$Plan") false := ⟨_, _, _, _, cls_X1, by decide, fl_X6_37, rfl, rfl⟩
theorem fs_X6_41 : FSite RX6 41 8 1 (.int) false := ⟨_, _, _, _, cls_X7, by decide, fl_X6_41, rfl, rfl⟩
theorem fs_X6_52 : FSite RX6 52 8 2 (.array (.object "MealLoader$Cabin")) true := ⟨_, _, _, _, cls_X7, by decide, fl_X6_52, rfl, rfl⟩
theorem fs_X6_56 : FSite RX6 56 1 2 (.int) false := ⟨_, _, _, _, cls_X0, by decide, fl_X6_56, rfl, rfl⟩
theorem fs_X6_65 : FSite RX6 65 8 3 (.int) false := ⟨_, _, _, _, cls_X7, by decide, fl_X6_65, rfl, rfl⟩
theorem fs_X6_68 : FSite RX6 68 8 4 (.array (.object "MealLoader$Meal")) true := ⟨_, _, _, _, cls_X7, by decide, fl_X6_68, rfl, rfl⟩
theorem fs_X6_72 : FSite RX6 72 6 1 (.int) false := ⟨_, _, _, _, cls_X5, by decide, fl_X6_72, rfl, rfl⟩
theorem fs_X6_76 : FSite RX6 76 6 2 (.int) false := ⟨_, _, _, _, cls_X5, by decide, fl_X6_76, rfl, rfl⟩
theorem fs_X6_82 : FSite RX6 82 6 3 (.int) false := ⟨_, _, _, _, cls_X5, by decide, fl_X6_82, rfl, rfl⟩
theorem fs_X7_11 : FSite RX7 11 8 2 (.array (.object "MealLoader$Cabin")) true := ⟨_, _, _, _, cls_X7, by decide, fl_X7_11, rfl, rfl⟩
theorem fs_X7_20 : FSite RX7 20 8 4 (.array (.object "MealLoader$Meal")) true := ⟨_, _, _, _, cls_X7, by decide, fl_X7_20, rfl, rfl⟩
theorem fs_X7_25 : FSite RX7 25 8 6 (.array .int) true := ⟨_, _, _, _, cls_X7, by decide, fl_X7_25, rfl, rfl⟩
theorem fs_X7_29 : FSite RX7 29 8 7 (.array .int) true := ⟨_, _, _, _, cls_X7, by decide, fl_X7_29, rfl, rfl⟩
theorem fs_X7_32 : FSite RX7 32 8 0 (.boolean) false := ⟨_, _, _, _, cls_X7, by decide, fl_X7_32, rfl, rfl⟩
theorem fs_X7_36 : FSite RX7 36 8 1 (.int) false := ⟨_, _, _, _, cls_X7, by decide, fl_X7_36, rfl, rfl⟩
theorem fs_X7_40 : FSite RX7 40 8 3 (.int) false := ⟨_, _, _, _, cls_X7, by decide, fl_X7_40, rfl, rfl⟩
theorem fs_X7_43 : FSite RX7 43 8 5 (.int) false := ⟨_, _, _, _, cls_X7, by decide, fl_X7_43, rfl, rfl⟩
theorem fs_X7_46 : FSite RX7 46 8 8 (.int) false := ⟨_, _, _, _, cls_X7, by decide, fl_X7_46, rfl, rfl⟩
theorem fs_X7_49 : FSite RX7 49 8 9 (.int) false := ⟨_, _, _, _, cls_X7, by decide, fl_X7_49, rfl, rfl⟩
theorem fs_X7_52 : FSite RX7 52 8 10 (.int) false := ⟨_, _, _, _, cls_X7, by decide, fl_X7_52, rfl, rfl⟩
theorem fs_X7_55 : FSite RX7 55 6 1 (.int) false := ⟨_, _, _, _, cls_X5, by decide, fl_X7_55, rfl, rfl⟩
theorem fs_X7_61 : FSite RX7 61 6 5 (.int) false := ⟨_, _, _, _, cls_X5, by decide, fl_X7_61, rfl, rfl⟩
theorem fs_X7_64 : FSite RX7 64 6 4 (.int) false := ⟨_, _, _, _, cls_X5, by decide, fl_X7_64, rfl, rfl⟩
theorem fs_X8_9 : FSite RX8 9 9 0 (.array .int) true := ⟨_, _, _, _, cls_X8, by decide, fl_X8_9, rfl, rfl⟩
theorem fs_X8_15 : FSite RX8 15 9 1 (.array .int) true := ⟨_, _, _, _, cls_X8, by decide, fl_X8_15, rfl, rfl⟩
theorem fs_X8_18 : FSite RX8 18 9 2 (.array .int) true := ⟨_, _, _, _, cls_X8, by decide, fl_X8_18, rfl, rfl⟩
theorem fs_X8_21 : FSite RX8 21 9 4 (.int) false := ⟨_, _, _, _, cls_X8, by decide, fl_X8_21, rfl, rfl⟩
theorem fs_X8_25 : FSite RX8 25 9 7 (.int) false := ⟨_, _, _, _, cls_X8, by decide, fl_X8_25, rfl, rfl⟩
theorem fs_X8_34 : FSite RX8 34 2 0 (.object "MealLoader$Plan") false := ⟨_, _, _, _, cls_X1, by decide, fl_X8_34, rfl, rfl⟩
theorem fs_X8_40 : FSite RX8 40 8 3 (.int) false := ⟨_, _, _, _, cls_X7, by decide, fl_X8_40, rfl, rfl⟩
theorem fs_X8_49 : FSite RX8 49 2 3 (.int) false := ⟨_, _, _, _, cls_X1, by decide, fl_X8_49, rfl, rfl⟩
theorem fs_X8_56 : FSite RX8 56 9 3 (.int) false := ⟨_, _, _, _, cls_X8, by decide, fl_X8_56, rfl, rfl⟩
theorem fs_X8_67 : FSite RX8 67 2 5 (.array .int) true := ⟨_, _, _, _, cls_X1, by decide, fl_X8_67, rfl, rfl⟩
theorem fs_X8_70 : FSite RX8 70 2 6 (.array .int) true := ⟨_, _, _, _, cls_X1, by decide, fl_X8_70, rfl, rfl⟩
theorem fs_X8_73 : FSite RX8 73 2 4 (.array .int) true := ⟨_, _, _, _, cls_X1, by decide, fl_X8_73, rfl, rfl⟩
theorem fs_X8_80 : FSite RX8 80 8 4 (.array (.object "MealLoader$Meal")) true := ⟨_, _, _, _, cls_X7, by decide, fl_X8_80, rfl, rfl⟩
theorem fs_X8_84 : FSite RX8 84 6 1 (.int) false := ⟨_, _, _, _, cls_X5, by decide, fl_X8_84, rfl, rfl⟩
theorem fs_X8_89 : FSite RX8 89 9 5 (.int) false := ⟨_, _, _, _, cls_X8, by decide, fl_X8_89, rfl, rfl⟩
theorem fs_X8_92 : FSite RX8 92 9 6 (.int) false := ⟨_, _, _, _, cls_X8, by decide, fl_X8_92, rfl, rfl⟩
theorem fs_X8_95 : FSite RX8 95 6 4 (.int) false := ⟨_, _, _, _, cls_X5, by decide, fl_X8_95, rfl, rfl⟩
theorem fs_X9_7 : FSite RX9 7 10 0 (.array .byte) false := ⟨_, _, _, _, cls_X9, by decide, fl_X9_7, rfl, rfl⟩
theorem fs_X9_19 : FSite RX9 19 10 1 (.int) false := ⟨_, _, _, _, cls_X9, by decide, fl_X9_19, rfl, rfl⟩
theorem fs_X9_23 : FSite RX9 23 10 3 (.int) false := ⟨_, _, _, _, cls_X9, by decide, fl_X9_23, rfl, rfl⟩
theorem fs_X9_26 : FSite RX9 26 10 2 (.int) false := ⟨_, _, _, _, cls_X9, by decide, fl_X9_26, rfl, rfl⟩
theorem fs_X9_29 : FSite RX9 29 10 4 (.int) false := ⟨_, _, _, _, cls_X9, by decide, fl_X9_29, rfl, rfl⟩
theorem fs_X9_39 : FSite RX9 39 10 5 (.int) false := ⟨_, _, _, _, cls_X9, by decide, fl_X9_39, rfl, rfl⟩
theorem pn_RX0 : (RX0 ≠ "java/lang/invoke/MethodHandle" ∧ RX0 ≠ "java/lang/invoke/VarHandle") ∧ plainName RX0 = true := ⟨⟨by decide +kernel, by decide +kernel⟩, by decide +kernel⟩
theorem pd_0 : (parseMethodDescriptor "()V").map (fun d => d.parameters.length) = some 0 := by decide +kernel
theorem yk_X0_init : YOK Y_X0_init 0 := ⟨cd_X0_init, ini_RX0, pn_RX0.1, pd_0, rfl, pn_RX0.2⟩
theorem pn_RX1 : (RX1 ≠ "java/lang/invoke/MethodHandle" ∧ RX1 ≠ "java/lang/invoke/VarHandle") ∧ plainName RX1 = true := ⟨⟨by decide +kernel, by decide +kernel⟩, by decide +kernel⟩
theorem pd_1 : (parseMethodDescriptor "(LMealLoader$Plan;)V").map (fun d => d.parameters.length) = some 1 := by decide +kernel
theorem yk_X1_init : YOK Y_X1_init 1 := ⟨cd_X1_init, ini_RX1, pn_RX1.1, pd_1, rfl, pn_RX1.2⟩
theorem pn_RJ7 : (RJ7 ≠ "java/lang/invoke/MethodHandle" ∧ RJ7 ≠ "java/lang/invoke/VarHandle") ∧ plainName RJ7 = true := ⟨⟨by decide +kernel, by decide +kernel⟩, by decide +kernel⟩
theorem pd_2 : (parseMethodDescriptor "([II)V").map (fun d => d.parameters.length) = some 2 := by decide +kernel
theorem yk_J7_fill_53178 : YOK Y_J7_fill_53178 2 := ⟨cd_J7_fill_53178, ini_RJ7, pn_RJ7.1, pd_2, rfl, pn_RJ7.2⟩
theorem yk_X1_clear : YOK Y_X1_clear 1 := ⟨cd_X1_clear, ini_RX1, pn_RX1.1, pd_1, rfl, pn_RX1.2⟩
theorem pd_3 : (parseMethodDescriptor "(LMealLoader$Flight;)V").map (fun d => d.parameters.length) = some 1 := by decide +kernel
theorem yk_X1_copyAccounts : YOK Y_X1_copyAccounts 1 := ⟨cd_X1_copyAccounts, ini_RX1, pn_RX1.1, pd_3, rfl, pn_RX1.2⟩
theorem yk_X1_copy : YOK Y_X1_copy 1 := ⟨cd_X1_copy, ini_RX1, pn_RX1.1, pd_3, rfl, pn_RX1.2⟩
theorem pd_4 : (parseMethodDescriptor "()I").map (fun d => d.parameters.length) = some 0 := by decide +kernel
theorem yk_X1_phase : YOK Y_X1_phase 0 := ⟨cd_X1_phase, ini_RX1, pn_RX1.1, pd_4, rfl, pn_RX1.2⟩
theorem pd_5 : (parseMethodDescriptor "(I)I").map (fun d => d.parameters.length) = some 1 := by decide +kernel
theorem yk_X1_passengersIn : YOK Y_X1_passengersIn 1 := ⟨cd_X1_passengersIn, ini_RX1, pn_RX1.1, pd_5, rfl, pn_RX1.2⟩
theorem yk_X1_specialsIn : YOK Y_X1_specialsIn 1 := ⟨cd_X1_specialsIn, ini_RX1, pn_RX1.1, pd_5, rfl, pn_RX1.2⟩
theorem yk_X1_freeSeats : YOK Y_X1_freeSeats 1 := ⟨cd_X1_freeSeats, ini_RX1, pn_RX1.1, pd_5, rfl, pn_RX1.2⟩
theorem pd_6 : (parseMethodDescriptor "(III)V").map (fun d => d.parameters.length) = some 3 := by decide +kernel
theorem yk_X1_seat : YOK Y_X1_seat 3 := ⟨cd_X1_seat, ini_RX1, pn_RX1.1, pd_6, rfl, pn_RX1.2⟩
theorem pd_7 : (parseMethodDescriptor "(I)V").map (fun d => d.parameters.length) = some 1 := by decide +kernel
theorem yk_X1_removePassenger : YOK Y_X1_removePassenger 1 := ⟨cd_X1_removePassenger, ini_RX1, pn_RX1.1, pd_7, rfl, pn_RX1.2⟩
theorem pn_RX7 : (RX7 ≠ "java/lang/invoke/MethodHandle" ∧ RX7 ≠ "java/lang/invoke/VarHandle") ∧ plainName RX7 = true := ⟨⟨by decide +kernel, by decide +kernel⟩, by decide +kernel⟩
theorem pd_8 : (parseMethodDescriptor "(II)Z").map (fun d => d.parameters.length) = some 2 := by decide +kernel
theorem yk_X7_admits : YOK Y_X7_admits 2 := ⟨cd_X7_admits, ini_RX7, pn_RX7.1, pd_8, rfl, pn_RX7.2⟩
theorem pd_9 : (parseMethodDescriptor "(II)I").map (fun d => d.parameters.length) = some 2 := by decide +kernel
theorem yk_X7_suiting : YOK Y_X7_suiting 2 := ⟨cd_X7_suiting, ini_RX7, pn_RX7.1, pd_9, rfl, pn_RX7.2⟩
theorem yk_X1_suiting : YOK Y_X1_suiting 1 := ⟨cd_X1_suiting, ini_RX1, pn_RX1.1, pd_5, rfl, pn_RX1.2⟩
theorem yk_X7_cheapestOf : YOK Y_X7_cheapestOf 1 := ⟨cd_X7_cheapestOf, ini_RX7, pn_RX7.1, pd_5, rfl, pn_RX7.2⟩
theorem yk_X1_cheapestFor : YOK Y_X1_cheapestFor 1 := ⟨cd_X1_cheapestFor, ini_RX1, pn_RX1.1, pd_5, rfl, pn_RX1.2⟩
theorem yk_X1_freeSlots : YOK Y_X1_freeSlots 1 := ⟨cd_X1_freeSlots, ini_RX1, pn_RX1.1, pd_5, rfl, pn_RX1.2⟩
theorem yk_X1_freeSlotsIn : YOK Y_X1_freeSlotsIn 1 := ⟨cd_X1_freeSlotsIn, ini_RX1, pn_RX1.1, pd_5, rfl, pn_RX1.2⟩
theorem yk_X1_unitsIn : YOK Y_X1_unitsIn 1 := ⟨cd_X1_unitsIn, ini_RX1, pn_RX1.1, pd_5, rfl, pn_RX1.2⟩
theorem yk_X1_loadedOf : YOK Y_X1_loadedOf 1 := ⟨cd_X1_loadedOf, ini_RX1, pn_RX1.1, pd_5, rfl, pn_RX1.2⟩
theorem yk_X1_allLoaded : YOK Y_X1_allLoaded 0 := ⟨cd_X1_allLoaded, ini_RX1, pn_RX1.1, pd_4, rfl, pn_RX1.2⟩
theorem yk_X1_onTheWay : YOK Y_X1_onTheWay 1 := ⟨cd_X1_onTheWay, ini_RX1, pn_RX1.1, pd_5, rfl, pn_RX1.2⟩
theorem yk_X1_missing : YOK Y_X1_missing 2 := ⟨cd_X1_missing, ini_RX1, pn_RX1.1, pd_9, rfl, pn_RX1.2⟩
theorem yk_X1_put : YOK Y_X1_put 2 := ⟨cd_X1_put, ini_RX1, pn_RX1.1, pd_9, rfl, pn_RX1.2⟩
theorem pd_10 : (parseMethodDescriptor "(II)V").map (fun d => d.parameters.length) = some 2 := by decide +kernel
theorem yk_X1_takeOut : YOK Y_X1_takeOut 2 := ⟨cd_X1_takeOut, ini_RX1, pn_RX1.1, pd_10, rfl, pn_RX1.2⟩
theorem yk_X1_askFor : YOK Y_X1_askFor 2 := ⟨cd_X1_askFor, ini_RX1, pn_RX1.1, pd_10, rfl, pn_RX1.2⟩
theorem yk_X1_letArrive : YOK Y_X1_letArrive 0 := ⟨cd_X1_letArrive, ini_RX1, pn_RX1.1, pd_4, rfl, pn_RX1.2⟩
theorem pn_RX9 : (RX9 ≠ "java/lang/invoke/MethodHandle" ∧ RX9 ≠ "java/lang/invoke/VarHandle") ∧ plainName RX9 = true := ⟨⟨by decide +kernel, by decide +kernel⟩, by decide +kernel⟩
theorem yk_X9_init : YOK Y_X9_init 0 := ⟨cd_X9_init, ini_RX9, pn_RX9.1, pd_0, rfl, pn_RX9.2⟩
theorem pn_RX2 : (RX2 ≠ "java/lang/invoke/MethodHandle" ∧ RX2 ≠ "java/lang/invoke/VarHandle") ∧ plainName RX2 = true := ⟨⟨by decide +kernel, by decide +kernel⟩, by decide +kernel⟩
theorem yk_X2_init : YOK Y_X2_init 0 := ⟨cd_X2_init, ini_RX2, pn_RX2.1, pd_0, rfl, pn_RX2.2⟩
theorem yk_X7_clear : YOK Y_X7_clear 0 := ⟨cd_X7_clear, ini_RX7, pn_RX7.1, pd_0, rfl, pn_RX7.2⟩
theorem pd_11 : (parseMethodDescriptor "([BI)V").map (fun d => d.parameters.length) = some 2 := by decide +kernel
theorem yk_X9_begin : YOK Y_X9_begin 2 := ⟨cd_X9_begin, ini_RX9, pn_RX9.1, pd_11, rfl, pn_RX9.2⟩
theorem pd_12 : (parseMethodDescriptor "(B)I").map (fun d => d.parameters.length) = some 1 := by decide +kernel
theorem yk_X9_kindOf : YOK Y_X9_kindOf 1 := ⟨cd_X9_kindOf, ini_RX9, pn_RX9.1, pd_12, rfl, pn_RX9.2⟩
theorem yk_X9_readNumber : YOK Y_X9_readNumber 0 := ⟨cd_X9_readNumber, ini_RX9, pn_RX9.1, pd_0, rfl, pn_RX9.2⟩
theorem yk_X9_next : YOK Y_X9_next 0 := ⟨cd_X9_next, ini_RX9, pn_RX9.1, pd_0, rfl, pn_RX9.2⟩
theorem pn_RJ0 : (RJ0 ≠ "java/lang/invoke/MethodHandle" ∧ RJ0 ≠ "java/lang/invoke/VarHandle") ∧ plainName RJ0 = true := ⟨⟨by decide +kernel, by decide +kernel⟩, by decide +kernel⟩
theorem pd_13 : (parseMethodDescriptor "()B").map (fun d => d.parameters.length) = some 0 := by decide +kernel
theorem yk_J0_coder_7d493 : YOK Y_J0_coder_7d493 0 := ⟨cd_J0_coder_7d493, ini_RJ0, pn_RJ0.1, pd_13, rfl, pn_RJ0.2⟩
theorem yk_J0_length_8abf5 : YOK Y_J0_length_8abf5 0 := ⟨cd_J0_length_8abf5, ini_RJ0, pn_RJ0.1, pd_4, rfl, pn_RJ0.2⟩
theorem pd_14 : (parseMethodDescriptor "()Z").map (fun d => d.parameters.length) = some 0 := by decide +kernel
theorem yk_J0_isLatin1_aae02 : YOK Y_J0_isLatin1_aae02 0 := ⟨cd_J0_isLatin1_aae02, ini_RJ0, pn_RJ0.1, pd_14, rfl, pn_RJ0.2⟩
theorem pn_RJ3 : (RJ3 ≠ "java/lang/invoke/MethodHandle" ∧ RJ3 ≠ "java/lang/invoke/VarHandle") ∧ plainName RJ3 = true := ⟨⟨by decide +kernel, by decide +kernel⟩, by decide +kernel⟩
theorem pd_15 : (parseMethodDescriptor "(IILjava/util/function/BiFunction;)I").map (fun d => d.parameters.length) = some 3 := by decide +kernel
theorem yk_J3_checkIndex_8e157 : YOK Y_J3_checkIndex_8e157 3 := ⟨cd_J3_checkIndex_8e157, ini_RJ3, pn_RJ3.1, pd_15, rfl, pn_RJ3.2⟩
theorem yk_J0_checkIndex_df160 : YOK Y_J0_checkIndex_df160 2 := ⟨cd_J0_checkIndex_df160, ini_RJ0, pn_RJ0.1, pd_10, rfl, pn_RJ0.2⟩
theorem pn_RJ1 : (RJ1 ≠ "java/lang/invoke/MethodHandle" ∧ RJ1 ≠ "java/lang/invoke/VarHandle") ∧ plainName RJ1 = true := ⟨⟨by decide +kernel, by decide +kernel⟩, by decide +kernel⟩
theorem pd_16 : (parseMethodDescriptor "([BI)C").map (fun d => d.parameters.length) = some 2 := by decide +kernel
theorem yk_J1_charAt_3b067 : YOK Y_J1_charAt_3b067 2 := ⟨cd_J1_charAt_3b067, ini_RJ1, pn_RJ1.1, pd_16, rfl, pn_RJ1.2⟩
theorem pn_RJ2 : (RJ2 ≠ "java/lang/invoke/MethodHandle" ∧ RJ2 ≠ "java/lang/invoke/VarHandle") ∧ plainName RJ2 = true := ⟨⟨by decide +kernel, by decide +kernel⟩, by decide +kernel⟩
theorem pd_17 : (parseMethodDescriptor "([B)I").map (fun d => d.parameters.length) = some 1 := by decide +kernel
theorem yk_J2_length_9d52b : YOK Y_J2_length_9d52b 1 := ⟨cd_J2_length_9d52b, ini_RJ2, pn_RJ2.1, pd_17, rfl, pn_RJ2.2⟩
theorem pd_18 : (parseMethodDescriptor "(I[B)V").map (fun d => d.parameters.length) = some 2 := by decide +kernel
theorem yk_J2_checkIndex_2214a : YOK Y_J2_checkIndex_2214a 2 := ⟨cd_J2_checkIndex_2214a, ini_RJ2, pn_RJ2.1, pd_18, rfl, pn_RJ2.2⟩
theorem yk_J2_getChar_3b067 : YOK Y_J2_getChar_3b067 2 := ⟨cd_J2_getChar_3b067, ini_RJ2, pn_RJ2.1, pd_16, rfl, pn_RJ2.2⟩
theorem yk_J2_charAt_3b067 : YOK Y_J2_charAt_3b067 2 := ⟨cd_J2_charAt_3b067, ini_RJ2, pn_RJ2.1, pd_16, rfl, pn_RJ2.2⟩
theorem pd_19 : (parseMethodDescriptor "(I)C").map (fun d => d.parameters.length) = some 1 := by decide +kernel
theorem yk_J0_charAt_5068e : YOK Y_J0_charAt_5068e 1 := ⟨cd_J0_charAt_5068e, ini_RJ0, pn_RJ0.1, pd_19, rfl, pn_RJ0.2⟩
theorem pd_20 : (parseMethodDescriptor "(Ljava/lang/String;)Z").map (fun d => d.parameters.length) = some 1 := by decide +kernel
theorem yk_X9_is : YOK Y_X9_is 1 := ⟨cd_X9_is, ini_RX9, pn_RX9.1, pd_20, rfl, pn_RX9.2⟩
theorem pd_21 : (parseMethodDescriptor "(I)Z").map (fun d => d.parameters.length) = some 1 := by decide +kernel
theorem yk_X2_fail : YOK Y_X2_fail 1 := ⟨cd_X2_fail, ini_RX2, pn_RX2.1, pd_21, rfl, pn_RX2.2⟩
theorem yk_X2_numberHere : YOK Y_X2_numberHere 2 := ⟨cd_X2_numberHere, ini_RX2, pn_RX2.1, pd_9, rfl, pn_RX2.2⟩
theorem yk_X2_nextNumber : YOK Y_X2_nextNumber 2 := ⟨cd_X2_nextNumber, ini_RX2, pn_RX2.1, pd_9, rfl, pn_RX2.2⟩
theorem yk_X2_signHere : YOK Y_X2_signHere 0 := ⟨cd_X2_signHere, ini_RX2, pn_RX2.1, pd_14, rfl, pn_RX2.2⟩
theorem yk_X2_readTime : YOK Y_X2_readTime 0 := ⟨cd_X2_readTime, ini_RX2, pn_RX2.1, pd_14, rfl, pn_RX2.2⟩
theorem yk_X2_readLead : YOK Y_X2_readLead 0 := ⟨cd_X2_readLead, ini_RX2, pn_RX2.1, pd_14, rfl, pn_RX2.2⟩
theorem yk_X9_size : YOK Y_X9_size 0 := ⟨cd_X9_size, ini_RX9, pn_RX9.1, pd_4, rfl, pn_RX9.2⟩
theorem yk_X2_nameHere : YOK Y_X2_nameHere 0 := ⟨cd_X2_nameHere, ini_RX2, pn_RX2.1, pd_14, rfl, pn_RX2.2⟩
theorem yk_X2_cabinHere : YOK Y_X2_cabinHere 0 := ⟨cd_X2_cabinHere, ini_RX2, pn_RX2.1, pd_4, rfl, pn_RX2.2⟩
theorem pd_22 : (parseMethodDescriptor "([CI[BII)I").map (fun d => d.parameters.length) = some 5 := by decide +kernel
theorem yk_J2_compress_fe38e : YOK Y_J2_compress_fe38e 5 := ⟨cd_J2_compress_fe38e, ini_RJ2, pn_RJ2.1, pd_22, rfl, pn_RJ2.2⟩
theorem yk_J2_newBytesLength_0f7a4 : YOK Y_J2_newBytesLength_0f7a4 1 := ⟨cd_J2_newBytesLength_0f7a4, ini_RJ2, pn_RJ2.1, pd_5, rfl, pn_RJ2.2⟩
theorem pd_23 : (parseMethodDescriptor "(I)[B").map (fun d => d.parameters.length) = some 1 := by decide +kernel
theorem yk_J2_newBytesFor_77867 : YOK Y_J2_newBytesFor_77867 1 := ⟨cd_J2_newBytesFor_77867, ini_RJ2, pn_RJ2.1, pd_23, rfl, pn_RJ2.2⟩
theorem pd_24 : (parseMethodDescriptor "([BII)V").map (fun d => d.parameters.length) = some 3 := by decide +kernel
theorem yk_J2_putChar_b72d1 : YOK Y_J2_putChar_b72d1 3 := ⟨cd_J2_putChar_b72d1, ini_RJ2, pn_RJ2.1, pd_24, rfl, pn_RJ2.2⟩
theorem pd_25 : (parseMethodDescriptor "([CII)[B").map (fun d => d.parameters.length) = some 3 := by decide +kernel
theorem yk_J2_toBytes_dfd3c : YOK Y_J2_toBytes_dfd3c 3 := ⟨cd_J2_toBytes_dfd3c, ini_RJ2, pn_RJ2.1, pd_25, rfl, pn_RJ2.2⟩
theorem pd_26 : (parseMethodDescriptor "(IIILjava/util/function/BiFunction;)I").map (fun d => d.parameters.length) = some 4 := by decide +kernel
theorem yk_J3_checkFromIndexSize_8c36e : YOK Y_J3_checkFromIndexSize_8c36e 4 := ⟨cd_J3_checkFromIndexSize_8c36e, ini_RJ3, pn_RJ3.1, pd_26, rfl, pn_RJ3.2⟩
theorem pd_27 : (parseMethodDescriptor "(III)I").map (fun d => d.parameters.length) = some 3 := by decide +kernel
theorem yk_J0_checkBoundsOffCount_cabcc : YOK Y_J0_checkBoundsOffCount_cabcc 3 := ⟨cd_J0_checkBoundsOffCount_cabcc, ini_RJ0, pn_RJ0.1, pd_27, rfl, pn_RJ0.2⟩
theorem pd_28 : (parseMethodDescriptor "(II[B)V").map (fun d => d.parameters.length) = some 3 := by decide +kernel
theorem yk_J2_checkBoundsOffCount_d044e : YOK Y_J2_checkBoundsOffCount_d044e 3 := ⟨cd_J2_checkBoundsOffCount_d044e, ini_RJ2, pn_RJ2.1, pd_28, rfl, pn_RJ2.2⟩
theorem pd_29 : (parseMethodDescriptor "([BI[BII)I").map (fun d => d.parameters.length) = some 5 := by decide +kernel
theorem yk_J2_compress_5af95 : YOK Y_J2_compress_5af95 5 := ⟨cd_J2_compress_5af95, ini_RJ2, pn_RJ2.1, pd_29, rfl, pn_RJ2.2⟩
theorem yk_J2_compress_dfd3c : YOK Y_J2_compress_dfd3c 3 := ⟨cd_J2_compress_dfd3c, ini_RJ2, pn_RJ2.1, pd_25, rfl, pn_RJ2.2⟩
theorem pd_30 : (parseMethodDescriptor "([BI)B").map (fun d => d.parameters.length) = some 2 := by decide +kernel
theorem yk_J2_coderFromArrayLen_85cad : YOK Y_J2_coderFromArrayLen_85cad 2 := ⟨cd_J2_coderFromArrayLen_85cad, ini_RJ2, pn_RJ2.1, pd_30, rfl, pn_RJ2.2⟩
theorem pd_31 : (parseMethodDescriptor "([CIILjava/lang/Void;)V").map (fun d => d.parameters.length) = some 4 := by decide +kernel
theorem yk_J0_init_bb550 : YOK Y_J0_init_bb550 4 := ⟨cd_J0_init_bb550, ini_RJ0, pn_RJ0.1, pd_31, rfl, pn_RJ0.2⟩
theorem pd_32 : (parseMethodDescriptor "([C)V").map (fun d => d.parameters.length) = some 1 := by decide +kernel
theorem yk_J0_init_905df : YOK Y_J0_init_905df 1 := ⟨cd_J0_init_905df, ini_RJ0, pn_RJ0.1, pd_32, rfl, pn_RJ0.2⟩
theorem pd_33 : (parseMethodDescriptor "()Ljava/lang/String;").map (fun d => d.parameters.length) = some 0 := by decide +kernel
theorem yk_X9_word : YOK Y_X9_word 0 := ⟨cd_X9_word, ini_RX9, pn_RX9.1, pd_33, rfl, pn_RX9.2⟩
theorem yk_X2_readCabin : YOK Y_X2_readCabin 0 := ⟨cd_X2_readCabin, ini_RX2, pn_RX2.1, pd_14, rfl, pn_RX2.2⟩
theorem yk_X2_mealHere : YOK Y_X2_mealHere 0 := ⟨cd_X2_mealHere, ini_RX2, pn_RX2.1, pd_4, rfl, pn_RX2.2⟩
theorem yk_X2_nextCabin : YOK Y_X2_nextCabin 0 := ⟨cd_X2_nextCabin, ini_RX2, pn_RX2.1, pd_4, rfl, pn_RX2.2⟩
theorem pd_34 : (parseMethodDescriptor "(LMealLoader$Meal;)Z").map (fun d => d.parameters.length) = some 1 := by decide +kernel
theorem yk_X2_readPlace : YOK Y_X2_readPlace 1 := ⟨cd_X2_readPlace, ini_RX2, pn_RX2.1, pd_34, rfl, pn_RX2.2⟩
theorem yk_X2_nextDiets : YOK Y_X2_nextDiets 0 := ⟨cd_X2_nextDiets, ini_RX2, pn_RX2.1, pd_4, rfl, pn_RX2.2⟩
theorem yk_X2_readMeal : YOK Y_X2_readMeal 0 := ⟨cd_X2_readMeal, ini_RX2, pn_RX2.1, pd_14, rfl, pn_RX2.2⟩
theorem yk_X2_readTrolley : YOK Y_X2_readTrolley 0 := ⟨cd_X2_readTrolley, ini_RX2, pn_RX2.1, pd_14, rfl, pn_RX2.2⟩
theorem yk_X2_readGuests : YOK Y_X2_readGuests 0 := ⟨cd_X2_readGuests, ini_RX2, pn_RX2.1, pd_14, rfl, pn_RX2.2⟩
theorem yk_X2_nextWish : YOK Y_X2_nextWish 1 := ⟨cd_X2_nextWish, ini_RX2, pn_RX2.1, pd_5, rfl, pn_RX2.2⟩
theorem yk_X2_readGuest : YOK Y_X2_readGuest 0 := ⟨cd_X2_readGuest, ini_RX2, pn_RX2.1, pd_14, rfl, pn_RX2.2⟩
theorem yk_X2_readStatement : YOK Y_X2_readStatement 0 := ⟨cd_X2_readStatement, ini_RX2, pn_RX2.1, pd_14, rfl, pn_RX2.2⟩
theorem pd_35 : (parseMethodDescriptor "([BILMealLoader$Flight;LMealLoader$Plan;)Z").map (fun d => d.parameters.length) = some 4 := by decide +kernel
theorem yk_X2_read : YOK Y_X2_read 4 := ⟨cd_X2_read, ini_RX2, pn_RX2.1, pd_35, rfl, pn_RX2.2⟩
theorem pn_RX3 : (RX3 ≠ "java/lang/invoke/MethodHandle" ∧ RX3 ≠ "java/lang/invoke/VarHandle") ∧ plainName RX3 = true := ⟨⟨by decide +kernel, by decide +kernel⟩, by decide +kernel⟩
theorem yk_X3_init : YOK Y_X3_init 1 := ⟨cd_X3_init, ini_RX3, pn_RX3.1, pd_1, rfl, pn_RX3.2⟩
theorem yk_X3_add : YOK Y_X3_add 1 := ⟨cd_X3_add, ini_RX3, pn_RX3.1, pd_3, rfl, pn_RX3.2⟩
theorem yk_X3_takeBack : YOK Y_X3_takeBack 1 := ⟨cd_X3_takeBack, ini_RX3, pn_RX3.1, pd_3, rfl, pn_RX3.2⟩
theorem pn_RX4 : (RX4 ≠ "java/lang/invoke/MethodHandle" ∧ RX4 ≠ "java/lang/invoke/VarHandle") ∧ plainName RX4 = true := ⟨⟨by decide +kernel, by decide +kernel⟩, by decide +kernel⟩
theorem yk_X4_init : YOK Y_X4_init 0 := ⟨cd_X4_init, ini_RX4, pn_RX4.1, pd_0, rfl, pn_RX4.2⟩
theorem yk_X4_begin : YOK Y_X4_begin 1 := ⟨cd_X4_begin, ini_RX4, pn_RX4.1, pd_3, rfl, pn_RX4.2⟩
theorem yk_X4_reach : YOK Y_X4_reach 2 := ⟨cd_X4_reach, ini_RX4, pn_RX4.1, pd_10, rfl, pn_RX4.2⟩
theorem yk_X4_findMover : YOK Y_X4_findMover 3 := ⟨cd_X4_findMover, ini_RX4, pn_RX4.1, pd_27, rfl, pn_RX4.2⟩
theorem yk_X4_moveAlong : YOK Y_X4_moveAlong 2 := ⟨cd_X4_moveAlong, ini_RX4, pn_RX4.1, pd_10, rfl, pn_RX4.2⟩
theorem yk_X4_matchOneMore : YOK Y_X4_matchOneMore 1 := ⟨cd_X4_matchOneMore, ini_RX4, pn_RX4.1, pd_21, rfl, pn_RX4.2⟩
theorem yk_X4_giveBack : YOK Y_X4_giveBack 1 := ⟨cd_X4_giveBack, ini_RX4, pn_RX4.1, pd_7, rfl, pn_RX4.2⟩
theorem yk_X4_canHave : YOK Y_X4_canHave 2 := ⟨cd_X4_canHave, ini_RX4, pn_RX4.1, pd_8, rfl, pn_RX4.2⟩
theorem yk_X4_match : YOK Y_X4_match 1 := ⟨cd_X4_match, ini_RX4, pn_RX4.1, pd_3, rfl, pn_RX4.2⟩
theorem pn_RX5 : (RX5 ≠ "java/lang/invoke/MethodHandle" ∧ RX5 ≠ "java/lang/invoke/VarHandle") ∧ plainName RX5 = true := ⟨⟨by decide +kernel, by decide +kernel⟩, by decide +kernel⟩
theorem yk_X5_init : YOK Y_X5_init 0 := ⟨cd_X5_init, ini_RX5, pn_RX5.1, pd_0, rfl, pn_RX5.2⟩
theorem pn_RX6 : (RX6 ≠ "java/lang/invoke/MethodHandle" ∧ RX6 ≠ "java/lang/invoke/VarHandle") ∧ plainName RX6 = true := ⟨⟨by decide +kernel, by decide +kernel⟩, by decide +kernel⟩
theorem yk_X6_init : YOK Y_X6_init 0 := ⟨cd_X6_init, ini_RX6, pn_RX6.1, pd_0, rfl, pn_RX6.2⟩
theorem yk_X6_greatestRemainder : YOK Y_X6_greatestRemainder 1 := ⟨cd_X6_greatestRemainder, ini_RX6, pn_RX6.1, pd_5, rfl, pn_RX6.2⟩
theorem pd_36 : (parseMethodDescriptor "(LMealLoader$Plan;II)V").map (fun d => d.parameters.length) = some 3 := by decide +kernel
theorem yk_X6_divide : YOK Y_X6_divide 3 := ⟨cd_X6_divide, ini_RX6, pn_RX6.1, pd_36, rfl, pn_RX6.2⟩
theorem yk_X6_reckon : YOK Y_X6_reckon 1 := ⟨cd_X6_reckon, ini_RX6, pn_RX6.1, pd_3, rfl, pn_RX6.2⟩
theorem yk_X6_allUnits : YOK Y_X6_allUnits 0 := ⟨cd_X6_allUnits, ini_RX6, pn_RX6.1, pd_4, rfl, pn_RX6.2⟩
theorem pd_37 : (parseMethodDescriptor "(LMealLoader$Plan;I)I").map (fun d => d.parameters.length) = some 2 := by decide +kernel
theorem yk_X6_slotsOfMenu : YOK Y_X6_slotsOfMenu 2 := ⟨cd_X6_slotsOfMenu, ini_RX6, pn_RX6.1, pd_37, rfl, pn_RX6.2⟩
theorem yk_X7_init : YOK Y_X7_init 0 := ⟨cd_X7_init, ini_RX7, pn_RX7.1, pd_0, rfl, pn_RX7.2⟩
theorem yk_X7_menuOf : YOK Y_X7_menuOf 1 := ⟨cd_X7_menuOf, ini_RX7, pn_RX7.1, pd_5, rfl, pn_RX7.2⟩
theorem yk_X7_trolleysOf : YOK Y_X7_trolleysOf 1 := ⟨cd_X7_trolleysOf, ini_RX7, pn_RX7.1, pd_5, rfl, pn_RX7.2⟩
theorem pn_RX8 : (RX8 ≠ "java/lang/invoke/MethodHandle" ∧ RX8 ≠ "java/lang/invoke/VarHandle") ∧ plainName RX8 = true := ⟨⟨by decide +kernel, by decide +kernel⟩, by decide +kernel⟩
theorem yk_X8_init : YOK Y_X8_init 0 := ⟨cd_X8_init, ini_RX8, pn_RX8.1, pd_0, rfl, pn_RX8.2⟩
theorem yk_X8_give : YOK Y_X8_give 2 := ⟨cd_X8_give, ini_RX8, pn_RX8.1, pd_10, rfl, pn_RX8.2⟩
theorem yk_X8_mostLeft : YOK Y_X8_mostLeft 2 := ⟨cd_X8_mostLeft, ini_RX8, pn_RX8.1, pd_37, rfl, pn_RX8.2⟩
theorem yk_X8_servePlain : YOK Y_X8_servePlain 1 := ⟨cd_X8_servePlain, ini_RX8, pn_RX8.1, pd_3, rfl, pn_RX8.2⟩
theorem yk_X8_addUpWaste : YOK Y_X8_addUpWaste 1 := ⟨cd_X8_addUpWaste, ini_RX8, pn_RX8.1, pd_1, rfl, pn_RX8.2⟩
theorem pd_38 : (parseMethodDescriptor "(LMealLoader$Flight;[I)V").map (fun d => d.parameters.length) = some 2 := by decide +kernel
theorem yk_X8_reckon : YOK Y_X8_reckon 2 := ⟨cd_X8_reckon, ini_RX8, pn_RX8.1, pd_38, rfl, pn_RX8.2⟩
theorem pn_RX10 : (RX10 ≠ "java/lang/invoke/MethodHandle" ∧ RX10 ≠ "java/lang/invoke/VarHandle") ∧ plainName RX10 = true := ⟨⟨by decide +kernel, by decide +kernel⟩, by decide +kernel⟩
theorem yk_X10_init : YOK Y_X10_init 0 := ⟨cd_X10_init, ini_RX10, pn_RX10.1, pd_0, rfl, pn_RX10.2⟩
theorem yk_X10_appendBytes : YOK Y_X10_appendBytes 1 := ⟨cd_X10_appendBytes, ini_RX10, pn_RX10.1, pd_7, rfl, pn_RX10.2⟩
theorem pd_39 : (parseMethodDescriptor "(IIIII)I").map (fun d => d.parameters.length) = some 5 := by decide +kernel
theorem yk_X10_feed : YOK Y_X10_feed 5 := ⟨cd_X10_feed, ini_RX10, pn_RX10.1, pd_39, rfl, pn_RX10.2⟩
theorem yk_X10_forgetPast : YOK Y_X10_forgetPast 0 := ⟨cd_X10_forgetPast, ini_RX10, pn_RX10.1, pd_0, rfl, pn_RX10.2⟩
theorem yk_X10_load : YOK Y_X10_load 1 := ⟨cd_X10_load, ini_RX10, pn_RX10.1, pd_5, rfl, pn_RX10.2⟩
theorem pd_40 : (parseMethodDescriptor "()LMealLoader$Order;").map (fun d => d.parameters.length) = some 0 := by decide +kernel
theorem yk_X10_freshOrder : YOK Y_X10_freshOrder 0 := ⟨cd_X10_freshOrder, ini_RX10, pn_RX10.1, pd_40, rfl, pn_RX10.2⟩
theorem yk_X10_count : YOK Y_X10_count 1 := ⟨cd_X10_count, ini_RX10, pn_RX10.1, pd_5, rfl, pn_RX10.2⟩
theorem yk_X10_requireCabin : YOK Y_X10_requireCabin 1 := ⟨cd_X10_requireCabin, ini_RX10, pn_RX10.1, pd_7, rfl, pn_RX10.2⟩
theorem yk_X10_cabin : YOK Y_X10_cabin 2 := ⟨cd_X10_cabin, ini_RX10, pn_RX10.1, pd_9, rfl, pn_RX10.2⟩
theorem yk_X10_requireMeal : YOK Y_X10_requireMeal 1 := ⟨cd_X10_requireMeal, ini_RX10, pn_RX10.1, pd_7, rfl, pn_RX10.2⟩
theorem pd_41 : (parseMethodDescriptor "()LMealLoader$Service;").map (fun d => d.parameters.length) = some 0 := by decide +kernel
theorem yk_X10_freshService : YOK Y_X10_freshService 0 := ⟨cd_X10_freshService, ini_RX10, pn_RX10.1, pd_41, rfl, pn_RX10.2⟩
theorem yk_X10_meal : YOK Y_X10_meal 2 := ⟨cd_X10_meal, ini_RX10, pn_RX10.1, pd_9, rfl, pn_RX10.2⟩
theorem yk_X10_requirePassenger : YOK Y_X10_requirePassenger 1 := ⟨cd_X10_requirePassenger, ini_RX10, pn_RX10.1, pd_7, rfl, pn_RX10.2⟩
theorem yk_X10_passenger : YOK Y_X10_passenger 2 := ⟨cd_X10_passenger, ini_RX10, pn_RX10.1, pd_9, rfl, pn_RX10.2⟩
theorem yk_X10_requireTrolley : YOK Y_X10_requireTrolley 1 := ⟨cd_X10_requireTrolley, ini_RX10, pn_RX10.1, pd_7, rfl, pn_RX10.2⟩
theorem yk_X10_trolley : YOK Y_X10_trolley 2 := ⟨cd_X10_trolley, ini_RX10, pn_RX10.1, pd_9, rfl, pn_RX10.2⟩
theorem yk_X10_held : YOK Y_X10_held 2 := ⟨cd_X10_held, ini_RX10, pn_RX10.1, pd_9, rfl, pn_RX10.2⟩
theorem yk_X10_topUpAt : YOK Y_X10_topUpAt 2 := ⟨cd_X10_topUpAt, ini_RX10, pn_RX10.1, pd_9, rfl, pn_RX10.2⟩
theorem yk_X10_requireNeeds : YOK Y_X10_requireNeeds 1 := ⟨cd_X10_requireNeeds, ini_RX10, pn_RX10.1, pd_7, rfl, pn_RX10.2⟩
theorem yk_X10_refuse : YOK Y_X10_refuse 1 := ⟨cd_X10_refuse, ini_RX10, pn_RX10.1, pd_7, rfl, pn_RX10.2⟩
theorem yk_X10_requireFlight : YOK Y_X10_requireFlight 0 := ⟨cd_X10_requireFlight, ini_RX10, pn_RX10.1, pd_0, rfl, pn_RX10.2⟩
theorem yk_X10_requireSeat : YOK Y_X10_requireSeat 1 := ⟨cd_X10_requireSeat, ini_RX10, pn_RX10.1, pd_7, rfl, pn_RX10.2⟩
theorem yk_X10_beginAct : YOK Y_X10_beginAct 0 := ⟨cd_X10_beginAct, ini_RX10, pn_RX10.1, pd_0, rfl, pn_RX10.2⟩
theorem yk_X10_board : YOK Y_X10_board 3 := ⟨cd_X10_board, ini_RX10, pn_RX10.1, pd_27, rfl, pn_RX10.2⟩
theorem yk_X10_change : YOK Y_X10_change 2 := ⟨cd_X10_change, ini_RX10, pn_RX10.1, pd_9, rfl, pn_RX10.2⟩
theorem yk_X10_leave : YOK Y_X10_leave 1 := ⟨cd_X10_leave, ini_RX10, pn_RX10.1, pd_5, rfl, pn_RX10.2⟩
theorem yk_X10_setNeeds : YOK Y_X10_setNeeds 2 := ⟨cd_X10_setNeeds, ini_RX10, pn_RX10.1, pd_9, rfl, pn_RX10.2⟩
theorem yk_X10_requireOpen : YOK Y_X10_requireOpen 0 := ⟨cd_X10_requireOpen, ini_RX10, pn_RX10.1, pd_0, rfl, pn_RX10.2⟩
theorem yk_X10_loadOrder : YOK Y_X10_loadOrder 0 := ⟨cd_X10_loadOrder, ini_RX10, pn_RX10.1, pd_4, rfl, pn_RX10.2⟩
theorem yk_X10_requireUnits : YOK Y_X10_requireUnits 1 := ⟨cd_X10_requireUnits, ini_RX10, pn_RX10.1, pd_7, rfl, pn_RX10.2⟩
theorem yk_X10_store : YOK Y_X10_store 2 := ⟨cd_X10_store, ini_RX10, pn_RX10.1, pd_9, rfl, pn_RX10.2⟩
theorem yk_X10_unload : YOK Y_X10_unload 2 := ⟨cd_X10_unload, ini_RX10, pn_RX10.1, pd_9, rfl, pn_RX10.2⟩
theorem yk_X10_topUp : YOK Y_X10_topUp 2 := ⟨cd_X10_topUp, ini_RX10, pn_RX10.1, pd_9, rfl, pn_RX10.2⟩
theorem yk_X10_advance : YOK Y_X10_advance 1 := ⟨cd_X10_advance, ini_RX10, pn_RX10.1, pd_5, rfl, pn_RX10.2⟩
theorem yk_X10_outlook : YOK Y_X10_outlook 1 := ⟨cd_X10_outlook, ini_RX10, pn_RX10.1, pd_5, rfl, pn_RX10.2⟩
theorem yk_X10_mealFor : YOK Y_X10_mealFor 1 := ⟨cd_X10_mealFor, ini_RX10, pn_RX10.1, pd_5, rfl, pn_RX10.2⟩
theorem yk_X10_serve : YOK Y_X10_serve 0 := ⟨cd_X10_serve, ini_RX10, pn_RX10.1, pd_4, rfl, pn_RX10.2⟩
theorem pd_42 : (parseMethodDescriptor "(I)J").map (fun d => d.parameters.length) = some 1 := by decide +kernel
theorem yk_X10_account : YOK Y_X10_account 1 := ⟨cd_X10_account, ini_RX10, pn_RX10.1, pd_42, rfl, pn_RX10.2⟩
theorem yk_X10_undo : YOK Y_X10_undo 0 := ⟨cd_X10_undo, ini_RX10, pn_RX10.1, pd_4, rfl, pn_RX10.2⟩
theorem yk_X10_requireSlot : YOK Y_X10_requireSlot 1 := ⟨cd_X10_requireSlot, ini_RX10, pn_RX10.1, pd_7, rfl, pn_RX10.2⟩
theorem yk_X10_keep : YOK Y_X10_keep 1 := ⟨cd_X10_keep, ini_RX10, pn_RX10.1, pd_5, rfl, pn_RX10.2⟩
theorem yk_X10_restore : YOK Y_X10_restore 1 := ⟨cd_X10_restore, ini_RX10, pn_RX10.1, pd_5, rfl, pn_RX10.2⟩
theorem pn_RJ5 : (RJ5 ≠ "java/lang/invoke/MethodHandle" ∧ RJ5 ≠ "java/lang/invoke/VarHandle") ∧ plainName RJ5 = true := ⟨⟨by decide +kernel, by decide +kernel⟩, by decide +kernel⟩
theorem yk_J5_init_d00df : YOK Y_J5_init_d00df 1 := ⟨cd_J5_init_d00df, ini_RJ5, pn_RJ5.1, pd_7, rfl, pn_RJ5.2⟩
theorem pn_RJ8 : (RJ8 ≠ "java/lang/invoke/MethodHandle" ∧ RJ8 ≠ "java/lang/invoke/VarHandle") ∧ plainName RJ8 = true := ⟨⟨by decide +kernel, by decide +kernel⟩, by decide +kernel⟩
theorem yk_J8_hugeLength_7cf53 : YOK Y_J8_hugeLength_7cf53 2 := ⟨cd_J8_hugeLength_7cf53, ini_RJ8, pn_RJ8.1, pd_9, rfl, pn_RJ8.2⟩
theorem yk_J8_newLength_cabcc : YOK Y_J8_newLength_cabcc 3 := ⟨cd_J8_newLength_cabcc, ini_RJ8, pn_RJ8.1, pd_27, rfl, pn_RJ8.2⟩
theorem yk_J5_newCapacity_0f7a4 : YOK Y_J5_newCapacity_0f7a4 1 := ⟨cd_J5_newCapacity_0f7a4, ini_RJ5, pn_RJ5.1, pd_5, rfl, pn_RJ5.2⟩
theorem pd_43 : (parseMethodDescriptor "([BI)[B").map (fun d => d.parameters.length) = some 2 := by decide +kernel
theorem yk_J7_copyOf_9075b : YOK Y_J7_copyOf_9075b 2 := ⟨cd_J7_copyOf_9075b, ini_RJ7, pn_RJ7.1, pd_43, rfl, pn_RJ7.2⟩
theorem yk_J5_ensureCapacityInternal_d00df : YOK Y_J5_ensureCapacityInternal_d00df 1 := ⟨cd_J5_ensureCapacityInternal_d00df, ini_RJ5, pn_RJ5.1, pd_7, rfl, pn_RJ5.2⟩
theorem yk_J5_isLatin1_aae02 : YOK Y_J5_isLatin1_aae02 0 := ⟨cd_J5_isLatin1_aae02, ini_RJ5, pn_RJ5.1, pd_14, rfl, pn_RJ5.2⟩
theorem yk_J3_checkFromToIndex_8c36e : YOK Y_J3_checkFromToIndex_8c36e 4 := ⟨cd_J3_checkFromToIndex_8c36e, ini_RJ3, pn_RJ3.1, pd_26, rfl, pn_RJ3.2⟩
theorem yk_J0_checkBoundsBeginEnd_23922 : YOK Y_J0_checkBoundsBeginEnd_23922 3 := ⟨cd_J0_checkBoundsBeginEnd_23922, ini_RJ0, pn_RJ0.1, pd_6, rfl, pn_RJ0.2⟩
theorem yk_J2_checkBoundsBeginEnd_d044e : YOK Y_J2_checkBoundsBeginEnd_d044e 3 := ⟨cd_J2_checkBoundsBeginEnd_d044e, ini_RJ2, pn_RJ2.1, pd_28, rfl, pn_RJ2.2⟩
theorem pd_44 : (parseMethodDescriptor "([BICCCC)I").map (fun d => d.parameters.length) = some 6 := by decide +kernel
theorem yk_J2_putCharsAt_cd4e5 : YOK Y_J2_putCharsAt_cd4e5 6 := ⟨cd_J2_putCharsAt_cd4e5, ini_RJ2, pn_RJ2.1, pd_44, rfl, pn_RJ2.2⟩
theorem pd_45 : (parseMethodDescriptor "()Ljava/lang/AbstractStringBuilder;").map (fun d => d.parameters.length) = some 0 := by decide +kernel
theorem yk_J5_appendNull_278bc : YOK Y_J5_appendNull_278bc 0 := ⟨cd_J5_appendNull_278bc, ini_RJ5, pn_RJ5.1, pd_45, rfl, pn_RJ5.2⟩
theorem pd_46 : (parseMethodDescriptor "([BI[BII)V").map (fun d => d.parameters.length) = some 5 := by decide +kernel
theorem yk_J2_inflate_0e8fd : YOK Y_J2_inflate_0e8fd 5 := ⟨cd_J2_inflate_0e8fd, ini_RJ2, pn_RJ2.1, pd_46, rfl, pn_RJ2.2⟩
theorem yk_J1_inflate_0e8fd : YOK Y_J1_inflate_0e8fd 5 := ⟨cd_J1_inflate_0e8fd, ini_RJ1, pn_RJ1.1, pd_46, rfl, pn_RJ1.2⟩
theorem yk_J5_inflate_da8c8 : YOK Y_J5_inflate_da8c8 0 := ⟨cd_J5_inflate_da8c8, ini_RJ5, pn_RJ5.1, pd_0, rfl, pn_RJ5.2⟩
theorem pd_47 : (parseMethodDescriptor "(Ljava/lang/String;)V").map (fun d => d.parameters.length) = some 1 := by decide +kernel
theorem yk_J5_inflateIfNeededFor_a7421 : YOK Y_J5_inflateIfNeededFor_a7421 1 := ⟨cd_J5_inflateIfNeededFor_a7421, ini_RJ5, pn_RJ5.1, pd_47, rfl, pn_RJ5.2⟩
theorem pd_48 : (parseMethodDescriptor "([BIB)V").map (fun d => d.parameters.length) = some 3 := by decide +kernel
theorem yk_J0_getBytes_840e7 : YOK Y_J0_getBytes_840e7 3 := ⟨cd_J0_getBytes_840e7, ini_RJ0, pn_RJ0.1, pd_48, rfl, pn_RJ0.2⟩
theorem pd_49 : (parseMethodDescriptor "(ILjava/lang/String;)V").map (fun d => d.parameters.length) = some 2 := by decide +kernel
theorem yk_J5_putStringAt_47b60 : YOK Y_J5_putStringAt_47b60 2 := ⟨cd_J5_putStringAt_47b60, ini_RJ5, pn_RJ5.1, pd_49, rfl, pn_RJ5.2⟩
theorem pd_50 : (parseMethodDescriptor "(Ljava/lang/String;)Ljava/lang/AbstractStringBuilder;").map (fun d => d.parameters.length) = some 1 := by decide +kernel
theorem yk_J5_append_cf1ce : YOK Y_J5_append_cf1ce 1 := ⟨cd_J5_append_cf1ce, ini_RJ5, pn_RJ5.1, pd_50, rfl, pn_RJ5.2⟩
theorem pn_RJ4 : (RJ4 ≠ "java/lang/invoke/MethodHandle" ∧ RJ4 ≠ "java/lang/invoke/VarHandle") ∧ plainName RJ4 = true := ⟨⟨by decide +kernel, by decide +kernel⟩, by decide +kernel⟩
theorem pd_51 : (parseMethodDescriptor "(Ljava/lang/String;)Ljava/lang/StringBuilder;").map (fun d => d.parameters.length) = some 1 := by decide +kernel
theorem yk_J4_append_15ec4 : YOK Y_J4_append_15ec4 1 := ⟨cd_J4_append_15ec4, ini_RJ4, pn_RJ4.1, pd_51, rfl, pn_RJ4.2⟩
theorem yk_J4_append_cf1ce : YOK Y_J4_append_cf1ce 1 := ⟨cd_J4_append_cf1ce, ini_RJ4, pn_RJ4.1, pd_50, rfl, pn_RJ4.2⟩
theorem yk_J5_init_a7421 : YOK Y_J5_init_a7421 1 := ⟨cd_J5_init_a7421, ini_RJ5, pn_RJ5.1, pd_47, rfl, pn_RJ5.2⟩
theorem yk_J5_length_8abf5 : YOK Y_J5_length_8abf5 0 := ⟨cd_J5_length_8abf5, ini_RJ5, pn_RJ5.1, pd_4, rfl, pn_RJ5.2⟩
theorem pd_52 : (parseMethodDescriptor "(C)Z").map (fun d => d.parameters.length) = some 1 := by decide +kernel
theorem yk_J1_canEncode_fc78d : YOK Y_J1_canEncode_fc78d 1 := ⟨cd_J1_canEncode_fc78d, ini_RJ1, pn_RJ1.1, pd_52, rfl, pn_RJ1.2⟩
theorem yk_J2_putCharSB_b72d1 : YOK Y_J2_putCharSB_b72d1 3 := ⟨cd_J2_putCharSB_b72d1, ini_RJ2, pn_RJ2.1, pd_24, rfl, pn_RJ2.2⟩
theorem pd_53 : (parseMethodDescriptor "(C)Ljava/lang/AbstractStringBuilder;").map (fun d => d.parameters.length) = some 1 := by decide +kernel
theorem yk_J5_append_3fe6f : YOK Y_J5_append_3fe6f 1 := ⟨cd_J5_append_3fe6f, ini_RJ5, pn_RJ5.1, pd_53, rfl, pn_RJ5.2⟩
theorem pn_RJ6 : (RJ6 ≠ "java/lang/invoke/MethodHandle" ∧ RJ6 ≠ "java/lang/invoke/VarHandle") ∧ plainName RJ6 = true := ⟨⟨by decide +kernel, by decide +kernel⟩, by decide +kernel⟩
theorem yk_J6_stringSize_0f7a4 : YOK Y_J6_stringSize_0f7a4 1 := ⟨cd_J6_stringSize_0f7a4, ini_RJ6, pn_RJ6.1, pd_5, rfl, pn_RJ6.2⟩
theorem pd_54 : (parseMethodDescriptor "(II[B)I").map (fun d => d.parameters.length) = some 3 := by decide +kernel
theorem yk_J6_getChars_ba4f3 : YOK Y_J6_getChars_ba4f3 3 := ⟨cd_J6_getChars_ba4f3, ini_RJ6, pn_RJ6.1, pd_54, rfl, pn_RJ6.2⟩
theorem yk_J2_getChars_ba4f3 : YOK Y_J2_getChars_ba4f3 3 := ⟨cd_J2_getChars_ba4f3, ini_RJ2, pn_RJ2.1, pd_54, rfl, pn_RJ2.2⟩
theorem pd_55 : (parseMethodDescriptor "(III[B)I").map (fun d => d.parameters.length) = some 4 := by decide +kernel
theorem yk_J2_getChars_46870 : YOK Y_J2_getChars_46870 4 := ⟨cd_J2_getChars_46870, ini_RJ2, pn_RJ2.1, pd_55, rfl, pn_RJ2.2⟩
theorem pd_56 : (parseMethodDescriptor "(I)Ljava/lang/AbstractStringBuilder;").map (fun d => d.parameters.length) = some 1 := by decide +kernel
theorem yk_J5_append_c97b9 : YOK Y_J5_append_c97b9 1 := ⟨cd_J5_append_c97b9, ini_RJ5, pn_RJ5.1, pd_56, rfl, pn_RJ5.2⟩
theorem pd_57 : (parseMethodDescriptor "()[B").map (fun d => d.parameters.length) = some 0 := by decide +kernel
theorem yk_J5_getValue_6d5f1 : YOK Y_J5_getValue_6d5f1 0 := ⟨cd_J5_getValue_6d5f1, ini_RJ5, pn_RJ5.1, pd_57, rfl, pn_RJ5.2⟩
theorem yk_J4_length_8abf5 : YOK Y_J4_length_8abf5 0 := ⟨cd_J4_length_8abf5, ini_RJ4, pn_RJ4.1, pd_4, rfl, pn_RJ4.2⟩
theorem yk_J7_checkLength_df160 : YOK Y_J7_checkLength_df160 2 := ⟨cd_J7_checkLength_df160, ini_RJ7, pn_RJ7.1, pd_10, rfl, pn_RJ7.2⟩
theorem pd_58 : (parseMethodDescriptor "([BII)[B").map (fun d => d.parameters.length) = some 3 := by decide +kernel
theorem yk_J7_copyOfRangeByte_39247 : YOK Y_J7_copyOfRangeByte_39247 3 := ⟨cd_J7_copyOfRangeByte_39247, ini_RJ7, pn_RJ7.1, pd_58, rfl, pn_RJ7.2⟩
theorem yk_J7_copyOfRange_39247 : YOK Y_J7_copyOfRange_39247 3 := ⟨cd_J7_copyOfRange_39247, ini_RJ7, pn_RJ7.1, pd_58, rfl, pn_RJ7.2⟩
theorem yk_J2_compress_39247 : YOK Y_J2_compress_39247 3 := ⟨cd_J2_compress_39247, ini_RJ2, pn_RJ2.1, pd_58, rfl, pn_RJ2.2⟩
theorem pd_59 : (parseMethodDescriptor "(Ljava/lang/AbstractStringBuilder;Ljava/lang/Void;)V").map (fun d => d.parameters.length) = some 2 := by decide +kernel
theorem yk_J0_init_db425 : YOK Y_J0_init_db425 2 := ⟨cd_J0_init_db425, ini_RJ0, pn_RJ0.1, pd_59, rfl, pn_RJ0.2⟩
theorem pd_60 : (parseMethodDescriptor "(Ljava/lang/StringBuilder;)V").map (fun d => d.parameters.length) = some 1 := by decide +kernel
theorem yk_J0_init_81219 : YOK Y_J0_init_81219 1 := ⟨cd_J0_init_81219, ini_RJ0, pn_RJ0.1, pd_60, rfl, pn_RJ0.2⟩
theorem yk_J4_init_da8c8 : YOK Y_J4_init_da8c8 0 := ⟨cd_J4_init_da8c8, ini_RJ4, pn_RJ4.1, pd_0, rfl, pn_RJ4.2⟩
theorem yk_J4_init_a7421 : YOK Y_J4_init_a7421 1 := ⟨cd_J4_init_a7421, ini_RJ4, pn_RJ4.1, pd_47, rfl, pn_RJ4.2⟩
theorem pd_61 : (parseMethodDescriptor "(C)Ljava/lang/StringBuilder;").map (fun d => d.parameters.length) = some 1 := by decide +kernel
theorem yk_J4_append_cf468 : YOK Y_J4_append_cf468 1 := ⟨cd_J4_append_cf468, ini_RJ4, pn_RJ4.1, pd_61, rfl, pn_RJ4.2⟩
theorem pd_62 : (parseMethodDescriptor "(I)Ljava/lang/StringBuilder;").map (fun d => d.parameters.length) = some 1 := by decide +kernel
theorem yk_J4_append_bf812 : YOK Y_J4_append_bf812 1 := ⟨cd_J4_append_bf812, ini_RJ4, pn_RJ4.1, pd_62, rfl, pn_RJ4.2⟩
theorem yk_J4_toString_0e30d : YOK Y_J4_toString_0e30d 0 := ⟨cd_J4_toString_0e30d, ini_RJ4, pn_RJ4.1, pd_33, rfl, pn_RJ4.2⟩
theorem pn_RL : (RL ≠ "java/lang/invoke/MethodHandle" ∧ RL ≠ "java/lang/invoke/VarHandle") ∧ plainName RL = true := ⟨⟨by decide +kernel, by decide +kernel⟩, by decide +kernel⟩
theorem pd_63 : (parseMethodDescriptor "([I)I").map (fun d => d.parameters.length) = some 1 := by decide +kernel
theorem yk_L_next : YOK Y_L_next 1 := ⟨cd_L_next, ini_RL, pn_RL.1, pd_63, rfl, pn_RL.2⟩
theorem pd_64 : (parseMethodDescriptor "(LMealLoader;Ljava/lang/String;)I").map (fun d => d.parameters.length) = some 2 := by decide +kernel
theorem yk_L_type : YOK Y_L_type 2 := ⟨cd_L_type, ini_RL, pn_RL.1, pd_64, rfl, pn_RL.2⟩
theorem pd_65 : (parseMethodDescriptor "([II)Ljava/lang/String;").map (fun d => d.parameters.length) = some 2 := by decide +kernel
theorem yk_L_diets : YOK Y_L_diets 2 := ⟨cd_L_diets, ini_RL, pn_RL.1, pd_65, rfl, pn_RL.2⟩
theorem pd_66 : (parseMethodDescriptor "([I)Ljava/lang/String;").map (fun d => d.parameters.length) = some 1 := by decide +kernel
theorem yk_L_flight : YOK Y_L_flight 1 := ⟨cd_L_flight, ini_RL, pn_RL.1, pd_66, rfl, pn_RL.2⟩
theorem pd_67 : (parseMethodDescriptor "(LMealLoader;)J").map (fun d => d.parameters.length) = some 1 := by decide +kernel
theorem yk_L_sum : YOK Y_L_sum 1 := ⟨cd_L_sum, ini_RL, pn_RL.1, pd_67, rfl, pn_RL.2⟩
theorem pd_68 : (parseMethodDescriptor "(LMealLoader;)Z").map (fun d => d.parameters.length) = some 1 := by decide +kernel
theorem yk_L_trolleys : YOK Y_L_trolleys 1 := ⟨cd_L_trolleys, ini_RL, pn_RL.1, pd_68, rfl, pn_RL.2⟩
theorem yk_L_order : YOK Y_L_order 1 := ⟨cd_L_order, ini_RL, pn_RL.1, pd_68, rfl, pn_RL.2⟩
theorem yk_L_service : YOK Y_L_service 1 := ⟨cd_L_service, ini_RL, pn_RL.1, pd_68, rfl, pn_RL.2⟩
theorem pd_69 : (parseMethodDescriptor "(LMealLoader;[I)Z").map (fun d => d.parameters.length) = some 2 := by decide +kernel
theorem yk_L_act : YOK Y_L_act 2 := ⟨cd_L_act, ini_RL, pn_RL.1, pd_69, rfl, pn_RL.2⟩

