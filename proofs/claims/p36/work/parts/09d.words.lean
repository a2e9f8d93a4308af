def wl_37 : List (Nat × Cond) := [(1009, Cond.code yJ2_compress_fe38e cJ2_compress_fe38e 7 (some .int)), (1, Cond.static yJ2_toBytes_dfd3c), (0, Cond.code yJ2_toBytes_dfd3c cJ2_toBytes_dfd3c 5 (some (.array .byte))), (1, Cond.static yJ2_newBytesFor_77867), (0, Cond.code yJ2_newBytesFor_77867 cJ2_newBytesFor_77867 1 (some (.array .byte))), (1, Cond.static yJ2_newBytesLength_0f7a4), (0, Cond.code yJ2_newBytesLength_0f7a4 cJ2_newBytesLength_0f7a4 1 (some .int)), (2, Cond.static yJ2_putChar_b72d1), (0, Cond.code yJ2_putChar_b72d1 cJ2_putChar_b72d1 3 none), (1, Cond.static yJ2_compress_5af95), (0, Cond.code yJ2_compress_5af95 cJ2_compress_5af95 7 (some .int)), (1, Cond.static yJ2_checkBoundsOffCount_d044e), (0, Cond.code yJ2_checkBoundsOffCount_d044e cJ2_checkBoundsOffCount_d044e 3 none), (1, Cond.static yJ0_checkBoundsOffCount_cabcc), (0, Cond.code yJ0_checkBoundsOffCount_cabcc cJ0_checkBoundsOffCount_cabcc 3 (some .int)), (1, Cond.static yJ3_checkFromIndexSize_8c36e), (0, Cond.code yJ3_checkFromIndexSize_8c36e cJ3_checkFromIndexSize_8c36e 4 (some .int)), (1, Cond.static yJ2_coderFromArrayLen_85cad), (0, Cond.code yJ2_coderFromArrayLen_85cad cJ2_coderFromArrayLen_85cad 2 (some .byte)), (3, u_lay RJ0 TJ0 0)]
set_option maxRecDepth 50000 in
theorem wc_37 : chk wl_37 lw_tbl = true := by decide +kernel
theorem cd_J2_compress_fe38e : Cond.code yJ2_compress_fe38e cJ2_compress_fe38e 7 (some .int) ∈ lwa := chk_in wc_37 0 rfl
theorem sm_J2_toBytes_dfd3c : Cond.static yJ2_toBytes_dfd3c ∈ lwa := chk_in wc_37 1 rfl
theorem cd_J2_toBytes_dfd3c : Cond.code yJ2_toBytes_dfd3c cJ2_toBytes_dfd3c 5 (some (.array .byte)) ∈ lwa := chk_in wc_37 2 rfl
theorem sm_J2_newBytesFor_77867 : Cond.static yJ2_newBytesFor_77867 ∈ lwa := chk_in wc_37 3 rfl
theorem cd_J2_newBytesFor_77867 : Cond.code yJ2_newBytesFor_77867 cJ2_newBytesFor_77867 1 (some (.array .byte)) ∈ lwa := chk_in wc_37 4 rfl
theorem sm_J2_newBytesLength_0f7a4 : Cond.static yJ2_newBytesLength_0f7a4 ∈ lwa := chk_in wc_37 5 rfl
theorem cd_J2_newBytesLength_0f7a4 : Cond.code yJ2_newBytesLength_0f7a4 cJ2_newBytesLength_0f7a4 1 (some .int) ∈ lwa := chk_in wc_37 6 rfl
theorem sm_J2_putChar_b72d1 : Cond.static yJ2_putChar_b72d1 ∈ lwa := chk_in wc_37 7 rfl
theorem cd_J2_putChar_b72d1 : Cond.code yJ2_putChar_b72d1 cJ2_putChar_b72d1 3 none ∈ lwa := chk_in wc_37 8 rfl
theorem sm_J2_compress_5af95 : Cond.static yJ2_compress_5af95 ∈ lwa := chk_in wc_37 9 rfl
theorem cd_J2_compress_5af95 : Cond.code yJ2_compress_5af95 cJ2_compress_5af95 7 (some .int) ∈ lwa := chk_in wc_37 10 rfl
theorem sm_J2_checkBoundsOffCount_d044e : Cond.static yJ2_checkBoundsOffCount_d044e ∈ lwa := chk_in wc_37 11 rfl
theorem cd_J2_checkBoundsOffCount_d044e : Cond.code yJ2_checkBoundsOffCount_d044e cJ2_checkBoundsOffCount_d044e 3 none ∈ lwa := chk_in wc_37 12 rfl
theorem sm_J0_checkBoundsOffCount_cabcc : Cond.static yJ0_checkBoundsOffCount_cabcc ∈ lwa := chk_in wc_37 13 rfl
theorem cd_J0_checkBoundsOffCount_cabcc : Cond.code yJ0_checkBoundsOffCount_cabcc cJ0_checkBoundsOffCount_cabcc 3 (some .int) ∈ lwa := chk_in wc_37 14 rfl
theorem sm_J3_checkFromIndexSize_8c36e : Cond.static yJ3_checkFromIndexSize_8c36e ∈ lwa := chk_in wc_37 15 rfl
theorem cd_J3_checkFromIndexSize_8c36e : Cond.code yJ3_checkFromIndexSize_8c36e cJ3_checkFromIndexSize_8c36e 4 (some .int) ∈ lwa := chk_in wc_37 16 rfl
theorem sm_J2_coderFromArrayLen_85cad : Cond.static yJ2_coderFromArrayLen_85cad ∈ lwa := chk_in wc_37 17 rfl
theorem cd_J2_coderFromArrayLen_85cad : Cond.code yJ2_coderFromArrayLen_85cad cJ2_coderFromArrayLen_85cad 2 (some .byte) ∈ lwa := chk_in wc_37 18 rfl
theorem ul_J0_0 : u_lay RJ0 TJ0 0 ∈ lwa := chk_in wc_37 19 rfl
def wl_38 : List (Nat × Cond) := [(1043, u_lay RJ0 TJ0 1), (1, u_lay RJ0 TJ0 2), (1, u_lay RJ0 TJ0 3), (4, Cond.methodLink RX2 84 yX2_readMeal), (1, Cond.instanceMethod yX2_readMeal), (0, Cond.code yX2_readMeal cX2_readMeal 2 (some .boolean)), (0, Cond.methodLink RX2 153 yX2_mealHere), (1, Cond.instanceMethod yX2_mealHere), (0, Cond.code yX2_mealHere cX2_mealHere 2 (some .int)), (0, Cond.methodLink RX2 162 yX2_readPlace), (1, Cond.instanceMethod yX2_readPlace), (0, Cond.code yX2_readPlace cX2_readPlace 2 (some .boolean)), (2, Cond.methodLink RX2 188 yX2_nextCabin), (1, Cond.instanceMethod yX2_nextCabin), (0, Cond.code yX2_nextCabin cX2_nextCabin 2 (some .int)), (1, Cond.methodLink RX2 176 yX2_nextDiets), (1, Cond.instanceMethod yX2_nextDiets), (0, Cond.code yX2_nextDiets cX2_nextDiets 5 (some .int)), (1, Cond.methodLink RX2 89 yX2_readTrolley), (1, Cond.instanceMethod yX2_readTrolley)]
set_option maxRecDepth 50000 in
theorem wc_38 : chk wl_38 lw_tbl = true := by decide +kernel
theorem ul_J0_1 : u_lay RJ0 TJ0 1 ∈ lwa := chk_in wc_38 0 rfl
theorem ul_J0_2 : u_lay RJ0 TJ0 2 ∈ lwa := chk_in wc_38 1 rfl
theorem ul_J0_3 : u_lay RJ0 TJ0 3 ∈ lwa := chk_in wc_38 2 rfl
theorem ml_X2_84 : Cond.methodLink RX2 84 yX2_readMeal ∈ lwa := chk_in wc_38 3 rfl
theorem im_X2_readMeal : Cond.instanceMethod yX2_readMeal ∈ lwa := chk_in wc_38 4 rfl
theorem cd_X2_readMeal : Cond.code yX2_readMeal cX2_readMeal 2 (some .boolean) ∈ lwa := chk_in wc_38 5 rfl
theorem ml_X2_153 : Cond.methodLink RX2 153 yX2_mealHere ∈ lwa := chk_in wc_38 6 rfl
theorem im_X2_mealHere : Cond.instanceMethod yX2_mealHere ∈ lwa := chk_in wc_38 7 rfl
theorem cd_X2_mealHere : Cond.code yX2_mealHere cX2_mealHere 2 (some .int) ∈ lwa := chk_in wc_38 8 rfl
theorem ml_X2_162 : Cond.methodLink RX2 162 yX2_readPlace ∈ lwa := chk_in wc_38 9 rfl
theorem im_X2_readPlace : Cond.instanceMethod yX2_readPlace ∈ lwa := chk_in wc_38 10 rfl
theorem cd_X2_readPlace : Cond.code yX2_readPlace cX2_readPlace 2 (some .boolean) ∈ lwa := chk_in wc_38 11 rfl
theorem ml_X2_188 : Cond.methodLink RX2 188 yX2_nextCabin ∈ lwa := chk_in wc_38 12 rfl
theorem im_X2_nextCabin : Cond.instanceMethod yX2_nextCabin ∈ lwa := chk_in wc_38 13 rfl
theorem cd_X2_nextCabin : Cond.code yX2_nextCabin cX2_nextCabin 2 (some .int) ∈ lwa := chk_in wc_38 14 rfl
theorem ml_X2_176 : Cond.methodLink RX2 176 yX2_nextDiets ∈ lwa := chk_in wc_38 15 rfl
theorem im_X2_nextDiets : Cond.instanceMethod yX2_nextDiets ∈ lwa := chk_in wc_38 16 rfl
theorem cd_X2_nextDiets : Cond.code yX2_nextDiets cX2_nextDiets 5 (some .int) ∈ lwa := chk_in wc_38 17 rfl
theorem ml_X2_89 : Cond.methodLink RX2 89 yX2_readTrolley ∈ lwa := chk_in wc_38 18 rfl
theorem im_X2_readTrolley : Cond.instanceMethod yX2_readTrolley ∈ lwa := chk_in wc_38 19 rfl
def wl_39 : List (Nat × Cond) := [(1079, Cond.code yX2_readTrolley cX2_readTrolley 3 (some .boolean)), (1, Cond.methodLink RX2 94 yX2_readGuests), (1, Cond.instanceMethod yX2_readGuests), (0, Cond.code yX2_readGuests cX2_readGuests 4 (some .boolean)), (0, Cond.methodLink RX2 201 yX1_freeSeats), (0, Cond.instanceMethod yX1_freeSeats), (0, Cond.selects RX1 yX1_freeSeats yX1_freeSeats), (0, Cond.code yX1_freeSeats cX1_freeSeats 2 (some .int)), (0, Cond.methodLink RX1 90 yX1_passengersIn), (0, Cond.methodLink RX2 208 yX1_seat), (0, Cond.instanceMethod yX1_seat), (0, Cond.selects RX1 yX1_seat yX1_seat), (0, Cond.code yX1_seat cX1_seat 4 none), (1, Cond.methodLink RX2 99 yX2_readGuest), (1, Cond.instanceMethod yX2_readGuest), (0, Cond.code yX2_readGuest cX2_readGuest 4 (some .boolean)), (2, Cond.methodLink RX2 216 yX2_nextWish), (1, Cond.instanceMethod yX2_nextWish), (0, Cond.code yX2_nextWish cX2_nextWish 3 (some .int)), (1, Cond.methodLink RX10 119 yX1_copyAccounts)]
set_option maxRecDepth 50000 in
theorem wc_39 : chk wl_39 lw_tbl = true := by decide +kernel
theorem cd_X2_readTrolley : Cond.code yX2_readTrolley cX2_readTrolley 3 (some .boolean) ∈ lwa := chk_in wc_39 0 rfl
theorem ml_X2_94 : Cond.methodLink RX2 94 yX2_readGuests ∈ lwa := chk_in wc_39 1 rfl
theorem im_X2_readGuests : Cond.instanceMethod yX2_readGuests ∈ lwa := chk_in wc_39 2 rfl
theorem cd_X2_readGuests : Cond.code yX2_readGuests cX2_readGuests 4 (some .boolean) ∈ lwa := chk_in wc_39 3 rfl
theorem ml_X2_201 : Cond.methodLink RX2 201 yX1_freeSeats ∈ lwa := chk_in wc_39 4 rfl
theorem im_X1_freeSeats : Cond.instanceMethod yX1_freeSeats ∈ lwa := chk_in wc_39 5 rfl
theorem se_X1_freeSeats : Cond.selects RX1 yX1_freeSeats yX1_freeSeats ∈ lwa := chk_in wc_39 6 rfl
theorem cd_X1_freeSeats : Cond.code yX1_freeSeats cX1_freeSeats 2 (some .int) ∈ lwa := chk_in wc_39 7 rfl
theorem ml_X1_90 : Cond.methodLink RX1 90 yX1_passengersIn ∈ lwa := chk_in wc_39 8 rfl
theorem ml_X2_208 : Cond.methodLink RX2 208 yX1_seat ∈ lwa := chk_in wc_39 9 rfl
theorem im_X1_seat : Cond.instanceMethod yX1_seat ∈ lwa := chk_in wc_39 10 rfl
theorem se_X1_seat : Cond.selects RX1 yX1_seat yX1_seat ∈ lwa := chk_in wc_39 11 rfl
theorem cd_X1_seat : Cond.code yX1_seat cX1_seat 4 none ∈ lwa := chk_in wc_39 12 rfl
theorem ml_X2_99 : Cond.methodLink RX2 99 yX2_readGuest ∈ lwa := chk_in wc_39 13 rfl
theorem im_X2_readGuest : Cond.instanceMethod yX2_readGuest ∈ lwa := chk_in wc_39 14 rfl
theorem cd_X2_readGuest : Cond.code yX2_readGuest cX2_readGuest 4 (some .boolean) ∈ lwa := chk_in wc_39 15 rfl
theorem ml_X2_216 : Cond.methodLink RX2 216 yX2_nextWish ∈ lwa := chk_in wc_39 16 rfl
theorem im_X2_nextWish : Cond.instanceMethod yX2_nextWish ∈ lwa := chk_in wc_39 17 rfl
theorem cd_X2_nextWish : Cond.code yX2_nextWish cX2_nextWish 3 (some .int) ∈ lwa := chk_in wc_39 18 rfl
theorem ml_X10_119 : Cond.methodLink RX10 119 yX1_copyAccounts ∈ lwa := chk_in wc_39 19 rfl
def wl_40 : List (Nat × Cond) := [(1107, Cond.methodLink RL 172 yL_flight), (0, Cond.static yL_flight)]
set_option maxRecDepth 50000 in
theorem wc_40 : chk wl_40 lw_tbl = true := by decide +kernel
theorem ml_L_172 : Cond.methodLink RL 172 yL_flight ∈ lwa := chk_in wc_40 0 rfl
theorem sm_L_flight : Cond.static yL_flight ∈ lwa := chk_in wc_40 1 rfl
def wl_41 : List (Nat × Cond) := [(1109, Cond.code yL_flight cL_flight 3 (some (.object "java/lang/String")))]
set_option maxRecDepth 50000 in
theorem wc_41 : chk wl_41 lw_tbl = true := by decide +kernel
theorem cd_L_flight : Cond.code yL_flight cL_flight 3 (some (.object "java/lang/String")) ∈ lwa := chk_in wc_41 0 rfl
def wl_42 : List (Nat × Cond) := [(1113, Cond.methodLink RL 56 yJ4_init_a7421), (0, Cond.instanceMethod yJ4_init_a7421), (0, Cond.code yJ4_init_a7421 cJ4_init_a7421 2 none), (1, Cond.instanceMethod yJ5_init_a7421), (0, Cond.code yJ5_init_a7421 cJ5_init_a7421 5 none), (7, Cond.instanceMethod yJ5_append_cf1ce), (2, Cond.instanceMethod yJ4_append_cf1ce), (0, Cond.code yJ4_append_cf1ce cJ4_append_cf1ce 2 (some (.object "java/lang/AbstractStringBuilder"))), (1, Cond.instanceMethod yJ4_append_15ec4), (0, Cond.selects RJ4 yJ4_append_15ec4 yJ4_append_15ec4), (0, Cond.code yJ4_append_15ec4 cJ4_append_15ec4 2 (some (.object "java/lang/StringBuilder"))), (2, Cond.code yJ5_append_cf1ce cJ5_append_cf1ce 3 (some (.object "java/lang/AbstractStringBuilder"))), (2, Cond.instanceMethod yJ5_appendNull_278bc), (0, Cond.code yJ5_appendNull_278bc cJ5_appendNull_278bc 3 (some (.object "java/lang/AbstractStringBuilder"))), (2, Cond.instanceMethod yJ5_ensureCapacityInternal_d00df), (0, Cond.code yJ5_ensureCapacityInternal_d00df cJ5_ensureCapacityInternal_d00df 3 none), (2, Cond.instanceMethod yJ5_newCapacity_0f7a4), (0, Cond.code yJ5_newCapacity_0f7a4 cJ5_newCapacity_0f7a4 6 (some .int)), (1, Cond.static yJ8_newLength_cabcc), (0, Cond.code yJ8_newLength_cabcc cJ8_newLength_cabcc 4 (some .int))]
set_option maxRecDepth 50000 in
theorem wc_42 : chk wl_42 lw_tbl = true := by decide +kernel
theorem ml_L_56 : Cond.methodLink RL 56 yJ4_init_a7421 ∈ lwa := chk_in wc_42 0 rfl
theorem im_J4_init_a7421 : Cond.instanceMethod yJ4_init_a7421 ∈ lwa := chk_in wc_42 1 rfl
theorem cd_J4_init_a7421 : Cond.code yJ4_init_a7421 cJ4_init_a7421 2 none ∈ lwa := chk_in wc_42 2 rfl
theorem im_J5_init_a7421 : Cond.instanceMethod yJ5_init_a7421 ∈ lwa := chk_in wc_42 3 rfl
theorem cd_J5_init_a7421 : Cond.code yJ5_init_a7421 cJ5_init_a7421 5 none ∈ lwa := chk_in wc_42 4 rfl
theorem im_J5_append_cf1ce : Cond.instanceMethod yJ5_append_cf1ce ∈ lwa := chk_in wc_42 5 rfl
theorem im_J4_append_cf1ce : Cond.instanceMethod yJ4_append_cf1ce ∈ lwa := chk_in wc_42 6 rfl
theorem cd_J4_append_cf1ce : Cond.code yJ4_append_cf1ce cJ4_append_cf1ce 2 (some (.object "java/lang/AbstractStringBuilder")) ∈ lwa := chk_in wc_42 7 rfl
theorem im_J4_append_15ec4 : Cond.instanceMethod yJ4_append_15ec4 ∈ lwa := chk_in wc_42 8 rfl
theorem se_J4_append_15ec4 : Cond.selects RJ4 yJ4_append_15ec4 yJ4_append_15ec4 ∈ lwa := chk_in wc_42 9 rfl
theorem cd_J4_append_15ec4 : Cond.code yJ4_append_15ec4 cJ4_append_15ec4 2 (some (.object "java/lang/StringBuilder")) ∈ lwa := chk_in wc_42 10 rfl
theorem cd_J5_append_cf1ce : Cond.code yJ5_append_cf1ce cJ5_append_cf1ce 3 (some (.object "java/lang/AbstractStringBuilder")) ∈ lwa := chk_in wc_42 11 rfl
theorem im_J5_appendNull_278bc : Cond.instanceMethod yJ5_appendNull_278bc ∈ lwa := chk_in wc_42 12 rfl
theorem cd_J5_appendNull_278bc : Cond.code yJ5_appendNull_278bc cJ5_appendNull_278bc 3 (some (.object "java/lang/AbstractStringBuilder")) ∈ lwa := chk_in wc_42 13 rfl
theorem im_J5_ensureCapacityInternal_d00df : Cond.instanceMethod yJ5_ensureCapacityInternal_d00df ∈ lwa := chk_in wc_42 14 rfl
theorem cd_J5_ensureCapacityInternal_d00df : Cond.code yJ5_ensureCapacityInternal_d00df cJ5_ensureCapacityInternal_d00df 3 none ∈ lwa := chk_in wc_42 15 rfl
theorem im_J5_newCapacity_0f7a4 : Cond.instanceMethod yJ5_newCapacity_0f7a4 ∈ lwa := chk_in wc_42 16 rfl
theorem cd_J5_newCapacity_0f7a4 : Cond.code yJ5_newCapacity_0f7a4 cJ5_newCapacity_0f7a4 6 (some .int) ∈ lwa := chk_in wc_42 17 rfl
theorem sm_J8_newLength_cabcc : Cond.static yJ8_newLength_cabcc ∈ lwa := chk_in wc_42 18 rfl
theorem cd_J8_newLength_cabcc : Cond.code yJ8_newLength_cabcc cJ8_newLength_cabcc 4 (some .int) ∈ lwa := chk_in wc_42 19 rfl
def wl_43 : List (Nat × Cond) := [(1155, Cond.code yJ9_max_7cf53 cJ9_max_7cf53 2 (some .int)), (2, Cond.static yJ8_hugeLength_7cf53), (0, Cond.code yJ8_hugeLength_7cf53 cJ8_hugeLength_7cf53 3 (some .int)), (1, Cond.static yJ7_copyOf_9075b), (0, Cond.code yJ7_copyOf_9075b cJ7_copyOf_9075b 3 (some (.array .byte))), (10, Cond.instanceMethod yJ5_isLatin1_aae02), (2, Cond.code yJ5_isLatin1_aae02 cJ5_isLatin1_aae02 1 (some .boolean)), (2, Cond.static yJ2_putCharsAt_cd4e5), (0, Cond.code yJ2_putCharsAt_cd4e5 cJ2_putCharsAt_cd4e5 7 (some .int)), (1, Cond.static yJ2_checkBoundsBeginEnd_d044e), (0, Cond.code yJ2_checkBoundsBeginEnd_d044e cJ2_checkBoundsBeginEnd_d044e 3 none), (1, Cond.static yJ0_checkBoundsBeginEnd_23922), (0, Cond.code yJ0_checkBoundsBeginEnd_23922 cJ0_checkBoundsBeginEnd_23922 3 none), (1, Cond.static yJ3_checkFromToIndex_8c36e), (0, Cond.code yJ3_checkFromToIndex_8c36e cJ3_checkFromToIndex_8c36e 4 (some .int)), (2, Cond.instanceMethod yJ5_putStringAt_47b60), (0, Cond.code yJ5_putStringAt_47b60 cJ5_putStringAt_47b60 3 none), (2, Cond.instanceMethod yJ5_inflateIfNeededFor_a7421), (0, Cond.code yJ5_inflateIfNeededFor_a7421 cJ5_inflateIfNeededFor_a7421 2 none), (2, Cond.instanceMethod yJ5_inflate_da8c8)]
set_option maxRecDepth 50000 in
theorem wc_43 : chk wl_43 lw_tbl = true := by decide +kernel
theorem cd_J9_max_7cf53 : Cond.code yJ9_max_7cf53 cJ9_max_7cf53 2 (some .int) ∈ lwa := chk_in wc_43 0 rfl
theorem sm_J8_hugeLength_7cf53 : Cond.static yJ8_hugeLength_7cf53 ∈ lwa := chk_in wc_43 1 rfl
theorem cd_J8_hugeLength_7cf53 : Cond.code yJ8_hugeLength_7cf53 cJ8_hugeLength_7cf53 3 (some .int) ∈ lwa := chk_in wc_43 2 rfl
theorem sm_J7_copyOf_9075b : Cond.static yJ7_copyOf_9075b ∈ lwa := chk_in wc_43 3 rfl
theorem cd_J7_copyOf_9075b : Cond.code yJ7_copyOf_9075b cJ7_copyOf_9075b 3 (some (.array .byte)) ∈ lwa := chk_in wc_43 4 rfl
theorem im_J5_isLatin1_aae02 : Cond.instanceMethod yJ5_isLatin1_aae02 ∈ lwa := chk_in wc_43 5 rfl
theorem cd_J5_isLatin1_aae02 : Cond.code yJ5_isLatin1_aae02 cJ5_isLatin1_aae02 1 (some .boolean) ∈ lwa := chk_in wc_43 6 rfl
theorem sm_J2_putCharsAt_cd4e5 : Cond.static yJ2_putCharsAt_cd4e5 ∈ lwa := chk_in wc_43 7 rfl
theorem cd_J2_putCharsAt_cd4e5 : Cond.code yJ2_putCharsAt_cd4e5 cJ2_putCharsAt_cd4e5 7 (some .int) ∈ lwa := chk_in wc_43 8 rfl
theorem sm_J2_checkBoundsBeginEnd_d044e : Cond.static yJ2_checkBoundsBeginEnd_d044e ∈ lwa := chk_in wc_43 9 rfl
theorem cd_J2_checkBoundsBeginEnd_d044e : Cond.code yJ2_checkBoundsBeginEnd_d044e cJ2_checkBoundsBeginEnd_d044e 3 none ∈ lwa := chk_in wc_43 10 rfl
theorem sm_J0_checkBoundsBeginEnd_23922 : Cond.static yJ0_checkBoundsBeginEnd_23922 ∈ lwa := chk_in wc_43 11 rfl
theorem cd_J0_checkBoundsBeginEnd_23922 : Cond.code yJ0_checkBoundsBeginEnd_23922 cJ0_checkBoundsBeginEnd_23922 3 none ∈ lwa := chk_in wc_43 12 rfl
theorem sm_J3_checkFromToIndex_8c36e : Cond.static yJ3_checkFromToIndex_8c36e ∈ lwa := chk_in wc_43 13 rfl
theorem cd_J3_checkFromToIndex_8c36e : Cond.code yJ3_checkFromToIndex_8c36e cJ3_checkFromToIndex_8c36e 4 (some .int) ∈ lwa := chk_in wc_43 14 rfl
theorem im_J5_putStringAt_47b60 : Cond.instanceMethod yJ5_putStringAt_47b60 ∈ lwa := chk_in wc_43 15 rfl
theorem cd_J5_putStringAt_47b60 : Cond.code yJ5_putStringAt_47b60 cJ5_putStringAt_47b60 3 none ∈ lwa := chk_in wc_43 16 rfl
theorem im_J5_inflateIfNeededFor_a7421 : Cond.instanceMethod yJ5_inflateIfNeededFor_a7421 ∈ lwa := chk_in wc_43 17 rfl
theorem cd_J5_inflateIfNeededFor_a7421 : Cond.code yJ5_inflateIfNeededFor_a7421 cJ5_inflateIfNeededFor_a7421 2 none ∈ lwa := chk_in wc_43 18 rfl
theorem im_J5_inflate_da8c8 : Cond.instanceMethod yJ5_inflate_da8c8 ∈ lwa := chk_in wc_43 19 rfl
def wl_44 : List (Nat × Cond) := [(1201, Cond.code yJ5_inflate_da8c8 cJ5_inflate_da8c8 2 none), (1, Cond.static yJ1_inflate_0e8fd), (0, Cond.code yJ1_inflate_0e8fd cJ1_inflate_0e8fd 5 none), (1, Cond.static yJ2_inflate_0e8fd), (0, Cond.code yJ2_inflate_0e8fd cJ2_inflate_0e8fd 6 none), (1, Cond.instanceMethod yJ0_getBytes_840e7), (0, Cond.selects RJ0 yJ0_getBytes_840e7 yJ0_getBytes_840e7), (0, Cond.code yJ0_getBytes_840e7 cJ0_getBytes_840e7 4 none), (6, u_lay RJ4 TJ4 0), (1, u_lay RJ4 TJ4 1), (1, u_lay RJ4 TJ4 2), (1, u_lay RJ4 TJ4 3), (1, Cond.methodLink RL 59 yJ4_append_bf812), (0, Cond.instanceMethod yJ4_append_bf812), (0, Cond.selects RJ4 yJ4_append_bf812 yJ4_append_bf812), (0, Cond.code yJ4_append_bf812 cJ4_append_bf812 2 (some (.object "java/lang/StringBuilder"))), (1, Cond.instanceMethod yJ5_append_c97b9), (0, Cond.code yJ5_append_c97b9 cJ5_append_c97b9 4 (some (.object "java/lang/AbstractStringBuilder"))), (1, Cond.static yJ6_stringSize_0f7a4), (0, Cond.code yJ6_stringSize_0f7a4 cJ6_stringSize_0f7a4 4 (some .int))]
set_option maxRecDepth 50000 in
theorem wc_44 : chk wl_44 lw_tbl = true := by decide +kernel
theorem cd_J5_inflate_da8c8 : Cond.code yJ5_inflate_da8c8 cJ5_inflate_da8c8 2 none ∈ lwa := chk_in wc_44 0 rfl
theorem sm_J1_inflate_0e8fd : Cond.static yJ1_inflate_0e8fd ∈ lwa := chk_in wc_44 1 rfl
theorem cd_J1_inflate_0e8fd : Cond.code yJ1_inflate_0e8fd cJ1_inflate_0e8fd 5 none ∈ lwa := chk_in wc_44 2 rfl
theorem sm_J2_inflate_0e8fd : Cond.static yJ2_inflate_0e8fd ∈ lwa := chk_in wc_44 3 rfl
theorem cd_J2_inflate_0e8fd : Cond.code yJ2_inflate_0e8fd cJ2_inflate_0e8fd 6 none ∈ lwa := chk_in wc_44 4 rfl
theorem im_J0_getBytes_840e7 : Cond.instanceMethod yJ0_getBytes_840e7 ∈ lwa := chk_in wc_44 5 rfl
theorem se_J0_getBytes_840e7 : Cond.selects RJ0 yJ0_getBytes_840e7 yJ0_getBytes_840e7 ∈ lwa := chk_in wc_44 6 rfl
theorem cd_J0_getBytes_840e7 : Cond.code yJ0_getBytes_840e7 cJ0_getBytes_840e7 4 none ∈ lwa := chk_in wc_44 7 rfl
theorem ul_J4_0 : u_lay RJ4 TJ4 0 ∈ lwa := chk_in wc_44 8 rfl
theorem ul_J4_1 : u_lay RJ4 TJ4 1 ∈ lwa := chk_in wc_44 9 rfl
theorem ul_J4_2 : u_lay RJ4 TJ4 2 ∈ lwa := chk_in wc_44 10 rfl
theorem ul_J4_3 : u_lay RJ4 TJ4 3 ∈ lwa := chk_in wc_44 11 rfl
theorem ml_L_59 : Cond.methodLink RL 59 yJ4_append_bf812 ∈ lwa := chk_in wc_44 12 rfl
theorem im_J4_append_bf812 : Cond.instanceMethod yJ4_append_bf812 ∈ lwa := chk_in wc_44 13 rfl
theorem se_J4_append_bf812 : Cond.selects RJ4 yJ4_append_bf812 yJ4_append_bf812 ∈ lwa := chk_in wc_44 14 rfl
theorem cd_J4_append_bf812 : Cond.code yJ4_append_bf812 cJ4_append_bf812 2 (some (.object "java/lang/StringBuilder")) ∈ lwa := chk_in wc_44 15 rfl
theorem im_J5_append_c97b9 : Cond.instanceMethod yJ5_append_c97b9 ∈ lwa := chk_in wc_44 16 rfl
theorem cd_J5_append_c97b9 : Cond.code yJ5_append_c97b9 cJ5_append_c97b9 4 (some (.object "java/lang/AbstractStringBuilder")) ∈ lwa := chk_in wc_44 17 rfl
theorem sm_J6_stringSize_0f7a4 : Cond.static yJ6_stringSize_0f7a4 ∈ lwa := chk_in wc_44 18 rfl
theorem cd_J6_stringSize_0f7a4 : Cond.code yJ6_stringSize_0f7a4 cJ6_stringSize_0f7a4 4 (some .int) ∈ lwa := chk_in wc_44 19 rfl
