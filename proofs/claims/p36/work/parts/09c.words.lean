def wl_25 : List (Nat × Cond) := [(758, Cond.selects RX10 yX10_mealFor yX10_mealFor), (0, Cond.code yX10_mealFor cX10_mealFor 2 (some .int)), (0, Cond.methodLink RL 203 yX10_serve), (0, Cond.instanceMethod yX10_serve), (0, Cond.selects RX10 yX10_serve yX10_serve), (0, Cond.code yX10_serve cX10_serve 2 (some .int)), (0, Cond.methodLink RX10 320 yX10_requireFlight), (1, Cond.instanceMethod yX10_requireFlight), (0, Cond.code yX10_requireFlight cX10_requireFlight 2 none), (0, Cond.methodLink RX10 323 yX10_refuse), (1, Cond.instanceMethod yX10_refuse), (0, Cond.code yX10_refuse cX10_refuse 2 none), (16, Cond.methodLink RX10 329 yX10_beginAct), (1, Cond.instanceMethod yX10_beginAct), (0, Cond.code yX10_beginAct cX10_beginAct 1 none), (0, Cond.methodLink RX10 462 yX3_add), (0, Cond.instanceMethod yX3_add), (0, Cond.selects RX3 yX3_add yX3_add), (0, Cond.code yX3_add cX3_add 2 none), (0, Cond.methodLink RX3 24 yX1_copy)]
set_option maxRecDepth 50000 in
theorem wc_25 : chk wl_25 lw_tbl = true := by decide +kernel
theorem se_X10_mealFor : Cond.selects RX10 yX10_mealFor yX10_mealFor ∈ lwa := chk_in wc_25 0 rfl
theorem cd_X10_mealFor : Cond.code yX10_mealFor cX10_mealFor 2 (some .int) ∈ lwa := chk_in wc_25 1 rfl
theorem ml_L_203 : Cond.methodLink RL 203 yX10_serve ∈ lwa := chk_in wc_25 2 rfl
theorem im_X10_serve : Cond.instanceMethod yX10_serve ∈ lwa := chk_in wc_25 3 rfl
theorem se_X10_serve : Cond.selects RX10 yX10_serve yX10_serve ∈ lwa := chk_in wc_25 4 rfl
theorem cd_X10_serve : Cond.code yX10_serve cX10_serve 2 (some .int) ∈ lwa := chk_in wc_25 5 rfl
theorem ml_X10_320 : Cond.methodLink RX10 320 yX10_requireFlight ∈ lwa := chk_in wc_25 6 rfl
theorem im_X10_requireFlight : Cond.instanceMethod yX10_requireFlight ∈ lwa := chk_in wc_25 7 rfl
theorem cd_X10_requireFlight : Cond.code yX10_requireFlight cX10_requireFlight 2 none ∈ lwa := chk_in wc_25 8 rfl
theorem ml_X10_323 : Cond.methodLink RX10 323 yX10_refuse ∈ lwa := chk_in wc_25 9 rfl
theorem im_X10_refuse : Cond.instanceMethod yX10_refuse ∈ lwa := chk_in wc_25 10 rfl
theorem cd_X10_refuse : Cond.code yX10_refuse cX10_refuse 2 none ∈ lwa := chk_in wc_25 11 rfl
theorem ml_X10_329 : Cond.methodLink RX10 329 yX10_beginAct ∈ lwa := chk_in wc_25 12 rfl
theorem im_X10_beginAct : Cond.instanceMethod yX10_beginAct ∈ lwa := chk_in wc_25 13 rfl
theorem cd_X10_beginAct : Cond.code yX10_beginAct cX10_beginAct 1 none ∈ lwa := chk_in wc_25 14 rfl
theorem ml_X10_462 : Cond.methodLink RX10 462 yX3_add ∈ lwa := chk_in wc_25 15 rfl
theorem im_X3_add : Cond.instanceMethod yX3_add ∈ lwa := chk_in wc_25 16 rfl
theorem se_X3_add : Cond.selects RX3 yX3_add yX3_add ∈ lwa := chk_in wc_25 17 rfl
theorem cd_X3_add : Cond.code yX3_add cX3_add 2 none ∈ lwa := chk_in wc_25 18 rfl
theorem ml_X3_24 : Cond.methodLink RX3 24 yX1_copy ∈ lwa := chk_in wc_25 19 rfl
def wl_26 : List (Nat × Cond) := [(797, Cond.instanceMethod yX1_copy), (0, Cond.selects RX1 yX1_copy yX1_copy), (0, Cond.code yX1_copy cX1_copy 3 none), (3, Cond.methodLink RX1 69 yX1_copyAccounts), (0, Cond.instanceMethod yX1_copyAccounts), (0, Cond.selects RX1 yX1_copyAccounts yX1_copyAccounts), (0, Cond.code yX1_copyAccounts cX1_copyAccounts 2 none), (0, Cond.methodLink RX3 31 yJ9_min_7cf53), (1, Cond.code yJ9_min_7cf53 cJ9_min_7cf53 2 (some .int)), (0, Cond.methodLink RL 139 yX10_account), (0, Cond.instanceMethod yX10_account), (0, Cond.selects RX10 yX10_account yX10_account), (0, Cond.code yX10_account cX10_account 2 (some .long)), (1, Cond.methodLink RL 178 yX10_keep), (0, Cond.instanceMethod yX10_keep), (0, Cond.selects RX10 yX10_keep yX10_keep), (0, Cond.code yX10_keep cX10_keep 2 (some .int)), (0, Cond.methodLink RX10 409 yX10_requireSlot), (1, Cond.instanceMethod yX10_requireSlot), (0, Cond.code yX10_requireSlot cX10_requireSlot 2 none)]
set_option maxRecDepth 50000 in
theorem wc_26 : chk wl_26 lw_tbl = true := by decide +kernel
theorem im_X1_copy : Cond.instanceMethod yX1_copy ∈ lwa := chk_in wc_26 0 rfl
theorem se_X1_copy : Cond.selects RX1 yX1_copy yX1_copy ∈ lwa := chk_in wc_26 1 rfl
theorem cd_X1_copy : Cond.code yX1_copy cX1_copy 3 none ∈ lwa := chk_in wc_26 2 rfl
theorem ml_X1_69 : Cond.methodLink RX1 69 yX1_copyAccounts ∈ lwa := chk_in wc_26 3 rfl
theorem im_X1_copyAccounts : Cond.instanceMethod yX1_copyAccounts ∈ lwa := chk_in wc_26 4 rfl
theorem se_X1_copyAccounts : Cond.selects RX1 yX1_copyAccounts yX1_copyAccounts ∈ lwa := chk_in wc_26 5 rfl
theorem cd_X1_copyAccounts : Cond.code yX1_copyAccounts cX1_copyAccounts 2 none ∈ lwa := chk_in wc_26 6 rfl
theorem ml_X3_31 : Cond.methodLink RX3 31 yJ9_min_7cf53 ∈ lwa := chk_in wc_26 7 rfl
theorem cd_J9_min_7cf53 : Cond.code yJ9_min_7cf53 cJ9_min_7cf53 2 (some .int) ∈ lwa := chk_in wc_26 8 rfl
theorem ml_L_139 : Cond.methodLink RL 139 yX10_account ∈ lwa := chk_in wc_26 9 rfl
theorem im_X10_account : Cond.instanceMethod yX10_account ∈ lwa := chk_in wc_26 10 rfl
theorem se_X10_account : Cond.selects RX10 yX10_account yX10_account ∈ lwa := chk_in wc_26 11 rfl
theorem cd_X10_account : Cond.code yX10_account cX10_account 2 (some .long) ∈ lwa := chk_in wc_26 12 rfl
theorem ml_L_178 : Cond.methodLink RL 178 yX10_keep ∈ lwa := chk_in wc_26 13 rfl
theorem im_X10_keep : Cond.instanceMethod yX10_keep ∈ lwa := chk_in wc_26 14 rfl
theorem se_X10_keep : Cond.selects RX10 yX10_keep yX10_keep ∈ lwa := chk_in wc_26 15 rfl
theorem cd_X10_keep : Cond.code yX10_keep cX10_keep 2 (some .int) ∈ lwa := chk_in wc_26 16 rfl
theorem ml_X10_409 : Cond.methodLink RX10 409 yX10_requireSlot ∈ lwa := chk_in wc_26 17 rfl
theorem im_X10_requireSlot : Cond.instanceMethod yX10_requireSlot ∈ lwa := chk_in wc_26 18 rfl
theorem cd_X10_requireSlot : Cond.code yX10_requireSlot cX10_requireSlot 2 none ∈ lwa := chk_in wc_26 19 rfl
def wl_27 : List (Nat × Cond) := [(824, Cond.methodLink RX10 123 yX1_copy), (0, Cond.methodLink RL 206 yX10_restore), (0, Cond.instanceMethod yX10_restore), (0, Cond.selects RX10 yX10_restore yX10_restore), (0, Cond.code yX10_restore cX10_restore 2 (some .int)), (1, Cond.methodLink RX10 126 yX10_forgetPast), (1, Cond.instanceMethod yX10_forgetPast), (0, Cond.code yX10_forgetPast cX10_forgetPast 1 none), (0, Cond.methodLink RL 39 yL_next), (0, Cond.static yL_next)]
set_option maxRecDepth 50000 in
theorem wc_27 : chk wl_27 lw_tbl = true := by decide +kernel
theorem ml_X10_123 : Cond.methodLink RX10 123 yX1_copy ∈ lwa := chk_in wc_27 0 rfl
theorem ml_L_206 : Cond.methodLink RL 206 yX10_restore ∈ lwa := chk_in wc_27 1 rfl
theorem im_X10_restore : Cond.instanceMethod yX10_restore ∈ lwa := chk_in wc_27 2 rfl
theorem se_X10_restore : Cond.selects RX10 yX10_restore yX10_restore ∈ lwa := chk_in wc_27 3 rfl
theorem cd_X10_restore : Cond.code yX10_restore cX10_restore 2 (some .int) ∈ lwa := chk_in wc_27 4 rfl
theorem ml_X10_126 : Cond.methodLink RX10 126 yX10_forgetPast ∈ lwa := chk_in wc_27 5 rfl
theorem im_X10_forgetPast : Cond.instanceMethod yX10_forgetPast ∈ lwa := chk_in wc_27 6 rfl
theorem cd_X10_forgetPast : Cond.code yX10_forgetPast cX10_forgetPast 1 none ∈ lwa := chk_in wc_27 7 rfl
theorem ml_L_39 : Cond.methodLink RL 39 yL_next ∈ lwa := chk_in wc_27 8 rfl
theorem sm_L_next : Cond.static yL_next ∈ lwa := chk_in wc_27 9 rfl
def wl_28 : List (Nat × Cond) := [(836, Cond.code yL_next cL_next 1 (some .int))]
set_option maxRecDepth 50000 in
theorem wc_28 : chk wl_28 lw_tbl = true := by decide +kernel
theorem cd_L_next : Cond.code yL_next cL_next 1 (some .int) ∈ lwa := chk_in wc_28 0 rfl
def wl_29 : List (Nat × Cond) := [(838, Cond.methodLink RL 176 yL_load), (3, Cond.methodLink RL 24 yL_type), (0, Cond.static yL_type)]
set_option maxRecDepth 50000 in
theorem wc_29 : chk wl_29 lw_tbl = true := by decide +kernel
theorem ml_L_176 : Cond.methodLink RL 176 yL_load ∈ lwa := chk_in wc_29 0 rfl
theorem ml_L_24 : Cond.methodLink RL 24 yL_type ∈ lwa := chk_in wc_29 1 rfl
theorem sm_L_type : Cond.static yL_type ∈ lwa := chk_in wc_29 2 rfl
def wl_30 : List (Nat × Cond) := [(844, Cond.code yL_type cL_type 5 (some .int))]
set_option maxRecDepth 50000 in
theorem wc_30 : chk wl_30 lw_tbl = true := by decide +kernel
theorem cd_L_type : Cond.code yL_type cL_type 5 (some .int) ∈ lwa := chk_in wc_30 0 rfl
def wl_31 : List (Nat × Cond) := [(845, Cond.methodLink RL 8 yJ0_length_8abf5), (0, Cond.instanceMethod yJ0_length_8abf5), (0, Cond.selects RJ0 yJ0_length_8abf5 yJ0_length_8abf5), (0, Cond.code yJ0_length_8abf5 cJ0_length_8abf5 1 (some .int)), (1, Cond.instanceMethod yJ0_coder_7d493), (0, Cond.selects RJ0 yJ0_coder_7d493 yJ0_coder_7d493), (0, Cond.code yJ0_coder_7d493 cJ0_coder_7d493 1 (some .byte)), (2, Cond.methodLink RL 14 yJ0_charAt_5068e), (0, Cond.instanceMethod yJ0_charAt_5068e), (0, Cond.selects RJ0 yJ0_charAt_5068e yJ0_charAt_5068e), (0, Cond.code yJ0_charAt_5068e cJ0_charAt_5068e 2 (some .char)), (1, Cond.instanceMethod yJ0_isLatin1_aae02), (0, Cond.selects RJ0 yJ0_isLatin1_aae02 yJ0_isLatin1_aae02), (0, Cond.code yJ0_isLatin1_aae02 cJ0_isLatin1_aae02 1 (some .boolean)), (1, Cond.static yJ1_charAt_3b067), (0, Cond.code yJ1_charAt_3b067 cJ1_charAt_3b067 2 (some .char)), (1, Cond.static yJ0_checkIndex_df160), (0, Cond.code yJ0_checkIndex_df160 cJ0_checkIndex_df160 2 none), (3, Cond.static yJ3_checkIndex_8e157), (0, Cond.code yJ3_checkIndex_8e157 cJ3_checkIndex_8e157 3 (some .int))]
set_option maxRecDepth 50000 in
theorem wc_31 : chk wl_31 lw_tbl = true := by decide +kernel
theorem ml_L_8 : Cond.methodLink RL 8 yJ0_length_8abf5 ∈ lwa := chk_in wc_31 0 rfl
theorem im_J0_length_8abf5 : Cond.instanceMethod yJ0_length_8abf5 ∈ lwa := chk_in wc_31 1 rfl
theorem se_J0_length_8abf5 : Cond.selects RJ0 yJ0_length_8abf5 yJ0_length_8abf5 ∈ lwa := chk_in wc_31 2 rfl
theorem cd_J0_length_8abf5 : Cond.code yJ0_length_8abf5 cJ0_length_8abf5 1 (some .int) ∈ lwa := chk_in wc_31 3 rfl
theorem im_J0_coder_7d493 : Cond.instanceMethod yJ0_coder_7d493 ∈ lwa := chk_in wc_31 4 rfl
theorem se_J0_coder_7d493 : Cond.selects RJ0 yJ0_coder_7d493 yJ0_coder_7d493 ∈ lwa := chk_in wc_31 5 rfl
theorem cd_J0_coder_7d493 : Cond.code yJ0_coder_7d493 cJ0_coder_7d493 1 (some .byte) ∈ lwa := chk_in wc_31 6 rfl
theorem ml_L_14 : Cond.methodLink RL 14 yJ0_charAt_5068e ∈ lwa := chk_in wc_31 7 rfl
theorem im_J0_charAt_5068e : Cond.instanceMethod yJ0_charAt_5068e ∈ lwa := chk_in wc_31 8 rfl
theorem se_J0_charAt_5068e : Cond.selects RJ0 yJ0_charAt_5068e yJ0_charAt_5068e ∈ lwa := chk_in wc_31 9 rfl
theorem cd_J0_charAt_5068e : Cond.code yJ0_charAt_5068e cJ0_charAt_5068e 2 (some .char) ∈ lwa := chk_in wc_31 10 rfl
theorem im_J0_isLatin1_aae02 : Cond.instanceMethod yJ0_isLatin1_aae02 ∈ lwa := chk_in wc_31 11 rfl
theorem se_J0_isLatin1_aae02 : Cond.selects RJ0 yJ0_isLatin1_aae02 yJ0_isLatin1_aae02 ∈ lwa := chk_in wc_31 12 rfl
theorem cd_J0_isLatin1_aae02 : Cond.code yJ0_isLatin1_aae02 cJ0_isLatin1_aae02 1 (some .boolean) ∈ lwa := chk_in wc_31 13 rfl
theorem sm_J1_charAt_3b067 : Cond.static yJ1_charAt_3b067 ∈ lwa := chk_in wc_31 14 rfl
theorem cd_J1_charAt_3b067 : Cond.code yJ1_charAt_3b067 cJ1_charAt_3b067 2 (some .char) ∈ lwa := chk_in wc_31 15 rfl
theorem sm_J0_checkIndex_df160 : Cond.static yJ0_checkIndex_df160 ∈ lwa := chk_in wc_31 16 rfl
theorem cd_J0_checkIndex_df160 : Cond.code yJ0_checkIndex_df160 cJ0_checkIndex_df160 2 none ∈ lwa := chk_in wc_31 17 rfl
theorem sm_J3_checkIndex_8e157 : Cond.static yJ3_checkIndex_8e157 ∈ lwa := chk_in wc_31 18 rfl
theorem cd_J3_checkIndex_8e157 : Cond.code yJ3_checkIndex_8e157 cJ3_checkIndex_8e157 3 (some .int) ∈ lwa := chk_in wc_31 19 rfl
def wl_32 : List (Nat × Cond) := [(875, Cond.static yJ2_charAt_3b067), (0, Cond.code yJ2_charAt_3b067 cJ2_charAt_3b067 2 (some .char)), (1, Cond.static yJ2_checkIndex_2214a), (0, Cond.code yJ2_checkIndex_2214a cJ2_checkIndex_2214a 2 none), (1, Cond.static yJ2_length_9d52b), (0, Cond.code yJ2_length_9d52b cJ2_length_9d52b 1 (some .int)), (2, Cond.static yJ2_getChar_3b067), (0, Cond.code yJ2_getChar_3b067 cJ2_getChar_3b067 2 (some .char)), (6, Cond.methodLink RL 18 yX10_feed), (0, Cond.instanceMethod yX10_feed), (0, Cond.selects RX10 yX10_feed yX10_feed), (0, Cond.code yX10_feed cX10_feed 6 (some .int)), (1, Cond.methodLink RX10 92 yX10_appendBytes), (1, Cond.instanceMethod yX10_appendBytes), (0, Cond.code yX10_appendBytes cX10_appendBytes 3 none), (0, Cond.methodLink RL 30 yX10_load), (0, Cond.instanceMethod yX10_load), (0, Cond.selects RX10 yX10_load yX10_load), (0, Cond.code yX10_load cX10_load 4 (some .int)), (1, Cond.methodLink RX10 101 yX2_read)]
set_option maxRecDepth 50000 in
theorem wc_32 : chk wl_32 lw_tbl = true := by decide +kernel
theorem sm_J2_charAt_3b067 : Cond.static yJ2_charAt_3b067 ∈ lwa := chk_in wc_32 0 rfl
theorem cd_J2_charAt_3b067 : Cond.code yJ2_charAt_3b067 cJ2_charAt_3b067 2 (some .char) ∈ lwa := chk_in wc_32 1 rfl
theorem sm_J2_checkIndex_2214a : Cond.static yJ2_checkIndex_2214a ∈ lwa := chk_in wc_32 2 rfl
theorem cd_J2_checkIndex_2214a : Cond.code yJ2_checkIndex_2214a cJ2_checkIndex_2214a 2 none ∈ lwa := chk_in wc_32 3 rfl
theorem sm_J2_length_9d52b : Cond.static yJ2_length_9d52b ∈ lwa := chk_in wc_32 4 rfl
theorem cd_J2_length_9d52b : Cond.code yJ2_length_9d52b cJ2_length_9d52b 1 (some .int) ∈ lwa := chk_in wc_32 5 rfl
theorem sm_J2_getChar_3b067 : Cond.static yJ2_getChar_3b067 ∈ lwa := chk_in wc_32 6 rfl
theorem cd_J2_getChar_3b067 : Cond.code yJ2_getChar_3b067 cJ2_getChar_3b067 2 (some .char) ∈ lwa := chk_in wc_32 7 rfl
theorem ml_L_18 : Cond.methodLink RL 18 yX10_feed ∈ lwa := chk_in wc_32 8 rfl
theorem im_X10_feed : Cond.instanceMethod yX10_feed ∈ lwa := chk_in wc_32 9 rfl
theorem se_X10_feed : Cond.selects RX10 yX10_feed yX10_feed ∈ lwa := chk_in wc_32 10 rfl
theorem cd_X10_feed : Cond.code yX10_feed cX10_feed 6 (some .int) ∈ lwa := chk_in wc_32 11 rfl
theorem ml_X10_92 : Cond.methodLink RX10 92 yX10_appendBytes ∈ lwa := chk_in wc_32 12 rfl
theorem im_X10_appendBytes : Cond.instanceMethod yX10_appendBytes ∈ lwa := chk_in wc_32 13 rfl
theorem cd_X10_appendBytes : Cond.code yX10_appendBytes cX10_appendBytes 3 none ∈ lwa := chk_in wc_32 14 rfl
theorem ml_L_30 : Cond.methodLink RL 30 yX10_load ∈ lwa := chk_in wc_32 15 rfl
theorem im_X10_load : Cond.instanceMethod yX10_load ∈ lwa := chk_in wc_32 16 rfl
theorem se_X10_load : Cond.selects RX10 yX10_load yX10_load ∈ lwa := chk_in wc_32 17 rfl
theorem cd_X10_load : Cond.code yX10_load cX10_load 4 (some .int) ∈ lwa := chk_in wc_32 18 rfl
theorem ml_X10_101 : Cond.methodLink RX10 101 yX2_read ∈ lwa := chk_in wc_32 19 rfl
def wl_33 : List (Nat × Cond) := [(908, Cond.instanceMethod yX2_read), (0, Cond.selects RX2 yX2_read yX2_read), (0, Cond.code yX2_read cX2_read 7 (some .boolean)), (0, Cond.methodLink RX2 26 yX7_clear), (0, Cond.instanceMethod yX7_clear), (0, Cond.selects RX7 yX7_clear yX7_clear), (0, Cond.code yX7_clear cX7_clear 1 none), (0, Cond.methodLink RX2 31 yX1_clear), (0, Cond.instanceMethod yX1_clear), (0, Cond.selects RX1 yX1_clear yX1_clear), (0, Cond.code yX1_clear cX1_clear 3 none), (0, Cond.methodLink RX1 54 yJ7_fill_53178), (0, Cond.methodLink RX2 43 yX9_begin), (0, Cond.instanceMethod yX9_begin), (0, Cond.selects RX9 yX9_begin yX9_begin), (0, Cond.code yX9_begin cX9_begin 3 none), (0, Cond.methodLink RX9 13 yJ9_min_7cf53), (0, Cond.methodLink RX2 47 yX9_next), (0, Cond.instanceMethod yX9_next), (0, Cond.selects RX9 yX9_next yX9_next)]
set_option maxRecDepth 50000 in
theorem wc_33 : chk wl_33 lw_tbl = true := by decide +kernel
theorem im_X2_read : Cond.instanceMethod yX2_read ∈ lwa := chk_in wc_33 0 rfl
theorem se_X2_read : Cond.selects RX2 yX2_read yX2_read ∈ lwa := chk_in wc_33 1 rfl
theorem cd_X2_read : Cond.code yX2_read cX2_read 7 (some .boolean) ∈ lwa := chk_in wc_33 2 rfl
theorem ml_X2_26 : Cond.methodLink RX2 26 yX7_clear ∈ lwa := chk_in wc_33 3 rfl
theorem im_X7_clear : Cond.instanceMethod yX7_clear ∈ lwa := chk_in wc_33 4 rfl
theorem se_X7_clear : Cond.selects RX7 yX7_clear yX7_clear ∈ lwa := chk_in wc_33 5 rfl
theorem cd_X7_clear : Cond.code yX7_clear cX7_clear 1 none ∈ lwa := chk_in wc_33 6 rfl
theorem ml_X2_31 : Cond.methodLink RX2 31 yX1_clear ∈ lwa := chk_in wc_33 7 rfl
theorem im_X1_clear : Cond.instanceMethod yX1_clear ∈ lwa := chk_in wc_33 8 rfl
theorem se_X1_clear : Cond.selects RX1 yX1_clear yX1_clear ∈ lwa := chk_in wc_33 9 rfl
theorem cd_X1_clear : Cond.code yX1_clear cX1_clear 3 none ∈ lwa := chk_in wc_33 10 rfl
theorem ml_X1_54 : Cond.methodLink RX1 54 yJ7_fill_53178 ∈ lwa := chk_in wc_33 11 rfl
theorem ml_X2_43 : Cond.methodLink RX2 43 yX9_begin ∈ lwa := chk_in wc_33 12 rfl
theorem im_X9_begin : Cond.instanceMethod yX9_begin ∈ lwa := chk_in wc_33 13 rfl
theorem se_X9_begin : Cond.selects RX9 yX9_begin yX9_begin ∈ lwa := chk_in wc_33 14 rfl
theorem cd_X9_begin : Cond.code yX9_begin cX9_begin 3 none ∈ lwa := chk_in wc_33 15 rfl
theorem ml_X9_13 : Cond.methodLink RX9 13 yJ9_min_7cf53 ∈ lwa := chk_in wc_33 16 rfl
theorem ml_X2_47 : Cond.methodLink RX2 47 yX9_next ∈ lwa := chk_in wc_33 17 rfl
theorem im_X9_next : Cond.instanceMethod yX9_next ∈ lwa := chk_in wc_33 18 rfl
theorem se_X9_next : Cond.selects RX9 yX9_next yX9_next ∈ lwa := chk_in wc_33 19 rfl
def wl_34 : List (Nat × Cond) := [(928, Cond.code yX9_next cX9_next 1 none), (0, Cond.methodLink RX9 32 yX9_kindOf), (0, Cond.static yX9_kindOf), (0, Cond.code yX9_kindOf cX9_kindOf 1 (some .int)), (0, Cond.methodLink RX9 36 yX9_readNumber), (1, Cond.instanceMethod yX9_readNumber), (0, Cond.code yX9_readNumber cX9_readNumber 2 none), (0, Cond.methodLink RX2 53 yX2_readStatement), (1, Cond.instanceMethod yX2_readStatement), (0, Cond.code yX2_readStatement cX2_readStatement 1 (some .boolean)), (1, Cond.methodLink RX2 65 yX9_is), (0, Cond.instanceMethod yX9_is), (0, Cond.selects RX9 yX9_is yX9_is), (0, Cond.code yX9_is cX9_is 3 (some .boolean)), (0, Cond.methodLink RX9 42 yJ0_length_8abf5), (0, Cond.methodLink RX9 47 yJ0_charAt_5068e), (0, Cond.methodLink RX2 69 yX2_readTime), (1, Cond.instanceMethod yX2_readTime), (0, Cond.code yX2_readTime cX2_readTime 3 (some .boolean)), (0, Cond.methodLink RX2 106 yX2_nextNumber)]
set_option maxRecDepth 50000 in
theorem wc_34 : chk wl_34 lw_tbl = true := by decide +kernel
theorem cd_X9_next : Cond.code yX9_next cX9_next 1 none ∈ lwa := chk_in wc_34 0 rfl
theorem ml_X9_32 : Cond.methodLink RX9 32 yX9_kindOf ∈ lwa := chk_in wc_34 1 rfl
theorem sm_X9_kindOf : Cond.static yX9_kindOf ∈ lwa := chk_in wc_34 2 rfl
theorem cd_X9_kindOf : Cond.code yX9_kindOf cX9_kindOf 1 (some .int) ∈ lwa := chk_in wc_34 3 rfl
theorem ml_X9_36 : Cond.methodLink RX9 36 yX9_readNumber ∈ lwa := chk_in wc_34 4 rfl
theorem im_X9_readNumber : Cond.instanceMethod yX9_readNumber ∈ lwa := chk_in wc_34 5 rfl
theorem cd_X9_readNumber : Cond.code yX9_readNumber cX9_readNumber 2 none ∈ lwa := chk_in wc_34 6 rfl
theorem ml_X2_53 : Cond.methodLink RX2 53 yX2_readStatement ∈ lwa := chk_in wc_34 7 rfl
theorem im_X2_readStatement : Cond.instanceMethod yX2_readStatement ∈ lwa := chk_in wc_34 8 rfl
theorem cd_X2_readStatement : Cond.code yX2_readStatement cX2_readStatement 1 (some .boolean) ∈ lwa := chk_in wc_34 9 rfl
theorem ml_X2_65 : Cond.methodLink RX2 65 yX9_is ∈ lwa := chk_in wc_34 10 rfl
theorem im_X9_is : Cond.instanceMethod yX9_is ∈ lwa := chk_in wc_34 11 rfl
theorem se_X9_is : Cond.selects RX9 yX9_is yX9_is ∈ lwa := chk_in wc_34 12 rfl
theorem cd_X9_is : Cond.code yX9_is cX9_is 3 (some .boolean) ∈ lwa := chk_in wc_34 13 rfl
theorem ml_X9_42 : Cond.methodLink RX9 42 yJ0_length_8abf5 ∈ lwa := chk_in wc_34 14 rfl
theorem ml_X9_47 : Cond.methodLink RX9 47 yJ0_charAt_5068e ∈ lwa := chk_in wc_34 15 rfl
theorem ml_X2_69 : Cond.methodLink RX2 69 yX2_readTime ∈ lwa := chk_in wc_34 16 rfl
theorem im_X2_readTime : Cond.instanceMethod yX2_readTime ∈ lwa := chk_in wc_34 17 rfl
theorem cd_X2_readTime : Cond.code yX2_readTime cX2_readTime 3 (some .boolean) ∈ lwa := chk_in wc_34 18 rfl
theorem ml_X2_106 : Cond.methodLink RX2 106 yX2_nextNumber ∈ lwa := chk_in wc_34 19 rfl
def wl_35 : List (Nat × Cond) := [(953, Cond.instanceMethod yX2_nextNumber), (0, Cond.code yX2_nextNumber cX2_nextNumber 3 (some .int)), (0, Cond.methodLink RX2 147 yX2_numberHere), (1, Cond.instanceMethod yX2_numberHere), (0, Cond.code yX2_numberHere cX2_numberHere 3 (some .int)), (0, Cond.methodLink RX2 102 yX2_fail), (1, Cond.instanceMethod yX2_fail), (0, Cond.code yX2_fail cX2_fail 2 (some .boolean)), (0, Cond.methodLink RX2 113 yX2_signHere), (1, Cond.instanceMethod yX2_signHere), (0, Cond.code yX2_signHere cX2_signHere 1 (some .boolean)), (1, Cond.methodLink RX2 74 yX2_readLead), (1, Cond.instanceMethod yX2_readLead), (0, Cond.code yX2_readLead cX2_readLead 2 (some .boolean)), (1, Cond.methodLink RX2 79 yX2_readCabin), (1, Cond.instanceMethod yX2_readCabin), (0, Cond.code yX2_readCabin cX2_readCabin 2 (some .boolean)), (0, Cond.methodLink RX2 121 yX2_nameHere), (1, Cond.instanceMethod yX2_nameHere), (0, Cond.code yX2_nameHere cX2_nameHere 1 (some .boolean))]
set_option maxRecDepth 50000 in
theorem wc_35 : chk wl_35 lw_tbl = true := by decide +kernel
theorem im_X2_nextNumber : Cond.instanceMethod yX2_nextNumber ∈ lwa := chk_in wc_35 0 rfl
theorem cd_X2_nextNumber : Cond.code yX2_nextNumber cX2_nextNumber 3 (some .int) ∈ lwa := chk_in wc_35 1 rfl
theorem ml_X2_147 : Cond.methodLink RX2 147 yX2_numberHere ∈ lwa := chk_in wc_35 2 rfl
theorem im_X2_numberHere : Cond.instanceMethod yX2_numberHere ∈ lwa := chk_in wc_35 3 rfl
theorem cd_X2_numberHere : Cond.code yX2_numberHere cX2_numberHere 3 (some .int) ∈ lwa := chk_in wc_35 4 rfl
theorem ml_X2_102 : Cond.methodLink RX2 102 yX2_fail ∈ lwa := chk_in wc_35 5 rfl
theorem im_X2_fail : Cond.instanceMethod yX2_fail ∈ lwa := chk_in wc_35 6 rfl
theorem cd_X2_fail : Cond.code yX2_fail cX2_fail 2 (some .boolean) ∈ lwa := chk_in wc_35 7 rfl
theorem ml_X2_113 : Cond.methodLink RX2 113 yX2_signHere ∈ lwa := chk_in wc_35 8 rfl
theorem im_X2_signHere : Cond.instanceMethod yX2_signHere ∈ lwa := chk_in wc_35 9 rfl
theorem cd_X2_signHere : Cond.code yX2_signHere cX2_signHere 1 (some .boolean) ∈ lwa := chk_in wc_35 10 rfl
theorem ml_X2_74 : Cond.methodLink RX2 74 yX2_readLead ∈ lwa := chk_in wc_35 11 rfl
theorem im_X2_readLead : Cond.instanceMethod yX2_readLead ∈ lwa := chk_in wc_35 12 rfl
theorem cd_X2_readLead : Cond.code yX2_readLead cX2_readLead 2 (some .boolean) ∈ lwa := chk_in wc_35 13 rfl
theorem ml_X2_79 : Cond.methodLink RX2 79 yX2_readCabin ∈ lwa := chk_in wc_35 14 rfl
theorem im_X2_readCabin : Cond.instanceMethod yX2_readCabin ∈ lwa := chk_in wc_35 15 rfl
theorem cd_X2_readCabin : Cond.code yX2_readCabin cX2_readCabin 2 (some .boolean) ∈ lwa := chk_in wc_35 16 rfl
theorem ml_X2_121 : Cond.methodLink RX2 121 yX2_nameHere ∈ lwa := chk_in wc_35 17 rfl
theorem im_X2_nameHere : Cond.instanceMethod yX2_nameHere ∈ lwa := chk_in wc_35 18 rfl
theorem cd_X2_nameHere : Cond.code yX2_nameHere cX2_nameHere 1 (some .boolean) ∈ lwa := chk_in wc_35 19 rfl
def wl_36 : List (Nat × Cond) := [(981, Cond.methodLink RX2 232 yX9_size), (0, Cond.instanceMethod yX9_size), (0, Cond.selects RX9 yX9_size yX9_size), (0, Cond.code yX9_size cX9_size 1 (some .int)), (0, Cond.methodLink RX2 124 yX2_cabinHere), (1, Cond.instanceMethod yX2_cabinHere), (0, Cond.code yX2_cabinHere cX2_cabinHere 2 (some .int)), (0, Cond.methodLink RX2 131 yX9_word), (0, Cond.instanceMethod yX9_word), (0, Cond.selects RX9 yX9_word yX9_word), (0, Cond.code yX9_word cX9_word 3 (some (.object "java/lang/String"))), (0, Cond.methodLink RX9 51 yX9_size), (2, Cond.methodLink RX9 54 yJ0_init_905df), (0, Cond.instanceMethod yJ0_init_905df), (0, Cond.code yJ0_init_905df cJ0_init_905df 2 none), (1, Cond.instanceMethod yJ0_init_bb550), (0, Cond.code yJ0_init_bb550 cJ0_init_bb550 6 none), (3, Cond.static yJ2_compress_dfd3c), (0, Cond.code yJ2_compress_dfd3c cJ2_compress_dfd3c 6 (some (.array .byte))), (1, Cond.static yJ2_compress_fe38e)]
set_option maxRecDepth 50000 in
theorem wc_36 : chk wl_36 lw_tbl = true := by decide +kernel
theorem ml_X2_232 : Cond.methodLink RX2 232 yX9_size ∈ lwa := chk_in wc_36 0 rfl
theorem im_X9_size : Cond.instanceMethod yX9_size ∈ lwa := chk_in wc_36 1 rfl
theorem se_X9_size : Cond.selects RX9 yX9_size yX9_size ∈ lwa := chk_in wc_36 2 rfl
theorem cd_X9_size : Cond.code yX9_size cX9_size 1 (some .int) ∈ lwa := chk_in wc_36 3 rfl
theorem ml_X2_124 : Cond.methodLink RX2 124 yX2_cabinHere ∈ lwa := chk_in wc_36 4 rfl
theorem im_X2_cabinHere : Cond.instanceMethod yX2_cabinHere ∈ lwa := chk_in wc_36 5 rfl
theorem cd_X2_cabinHere : Cond.code yX2_cabinHere cX2_cabinHere 2 (some .int) ∈ lwa := chk_in wc_36 6 rfl
theorem ml_X2_131 : Cond.methodLink RX2 131 yX9_word ∈ lwa := chk_in wc_36 7 rfl
theorem im_X9_word : Cond.instanceMethod yX9_word ∈ lwa := chk_in wc_36 8 rfl
theorem se_X9_word : Cond.selects RX9 yX9_word yX9_word ∈ lwa := chk_in wc_36 9 rfl
theorem cd_X9_word : Cond.code yX9_word cX9_word 3 (some (.object "java/lang/String")) ∈ lwa := chk_in wc_36 10 rfl
theorem ml_X9_51 : Cond.methodLink RX9 51 yX9_size ∈ lwa := chk_in wc_36 11 rfl
theorem ml_X9_54 : Cond.methodLink RX9 54 yJ0_init_905df ∈ lwa := chk_in wc_36 12 rfl
theorem im_J0_init_905df : Cond.instanceMethod yJ0_init_905df ∈ lwa := chk_in wc_36 13 rfl
theorem cd_J0_init_905df : Cond.code yJ0_init_905df cJ0_init_905df 2 none ∈ lwa := chk_in wc_36 14 rfl
theorem im_J0_init_bb550 : Cond.instanceMethod yJ0_init_bb550 ∈ lwa := chk_in wc_36 15 rfl
theorem cd_J0_init_bb550 : Cond.code yJ0_init_bb550 cJ0_init_bb550 6 none ∈ lwa := chk_in wc_36 16 rfl
theorem sm_J2_compress_dfd3c : Cond.static yJ2_compress_dfd3c ∈ lwa := chk_in wc_36 17 rfl
theorem cd_J2_compress_dfd3c : Cond.code yJ2_compress_dfd3c cJ2_compress_dfd3c 6 (some (.array .byte)) ∈ lwa := chk_in wc_36 18 rfl
theorem sm_J2_compress_fe38e : Cond.static yJ2_compress_fe38e ∈ lwa := chk_in wc_36 19 rfl
