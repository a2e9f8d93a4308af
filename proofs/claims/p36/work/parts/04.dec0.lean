theorem dX0_init_0 : decode cX0_init 0 = .ok (.aload_n 0, 1) := by decide +kernel
theorem dX0_init_1 : decode cX0_init 1 = .ok (.invokespecial 1, 3) := by decide +kernel
theorem dX0_init_4 : decode cX0_init 4 = .ok (.aload_n 0, 1) := by decide +kernel
theorem dX0_init_5 : decode cX0_init 5 = .ok (.ldc 7, 2) := by decide +kernel
theorem dX0_init_7 : decode cX0_init 7 = .ok (.putfield 9, 3) := by decide +kernel
theorem dX0_init_10 : decode cX0_init 10 = .ok (.return_, 1) := by decide +kernel
theorem dX1_init_0 : decode cX1_init 0 = .ok (.aload_n 0, 1) := by decide +kernel
theorem dX1_init_1 : decode cX1_init 1 = .ok (.invokespecial 3, 3) := by decide +kernel
theorem dX1_init_4 : decode cX1_init 4 = .ok (.aload_n 0, 1) := by decide +kernel
theorem dX1_init_5 : decode cX1_init 5 = .ok (.aload_n 1, 1) := by decide +kernel
theorem dX1_init_6 : decode cX1_init 6 = .ok (.putfield 9, 3) := by decide +kernel
theorem dX1_init_9 : decode cX1_init 9 = .ok (.aload_n 0, 1) := by decide +kernel
theorem dX1_init_10 : decode cX1_init 10 = .ok (.bipush 40, 2) := by decide +kernel
theorem dX1_init_12 : decode cX1_init 12 = .ok (.newarray .int, 2) := by decide +kernel
theorem dX1_init_14 : decode cX1_init 14 = .ok (.putfield 15, 3) := by decide +kernel
theorem dX1_init_17 : decode cX1_init 17 = .ok (.aload_n 0, 1) := by decide +kernel
theorem dX1_init_18 : decode cX1_init 18 = .ok (.bipush 40, 2) := by decide +kernel
theorem dX1_init_20 : decode cX1_init 20 = .ok (.newarray .int, 2) := by decide +kernel
theorem dX1_init_22 : decode cX1_init 22 = .ok (.putfield 19, 3) := by decide +kernel
theorem dX1_init_25 : decode cX1_init 25 = .ok (.aload_n 0, 1) := by decide +kernel
theorem dX1_init_26 : decode cX1_init 26 = .ok (.bipush 40, 2) := by decide +kernel
theorem dX1_init_28 : decode cX1_init 28 = .ok (.newarray .int, 2) := by decide +kernel
theorem dX1_init_30 : decode cX1_init 30 = .ok (.putfield 22, 3) := by decide +kernel
theorem dX1_init_33 : decode cX1_init 33 = .ok (.aload_n 0, 1) := by decide +kernel
theorem dX1_init_34 : decode cX1_init 34 = .ok (.bipush 8, 2) := by decide +kernel
theorem dX1_init_36 : decode cX1_init 36 = .ok (.bipush 12, 2) := by decide +kernel
theorem dX1_init_38 : decode cX1_init 38 = .ok (.multianewarray 25 2, 4) := by decide +kernel
theorem dX1_init_42 : decode cX1_init 42 = .ok (.putfield 27, 3) := by decide +kernel
theorem dX1_init_45 : decode cX1_init 45 = .ok (.aload_n 0, 1) := by decide +kernel
theorem dX1_init_46 : decode cX1_init 46 = .ok (.bipush 6, 2) := by decide +kernel
theorem dX1_init_48 : decode cX1_init 48 = .ok (.newarray .int, 2) := by decide +kernel
theorem dX1_init_50 : decode cX1_init 50 = .ok (.putfield 30, 3) := by decide +kernel
theorem dX1_init_53 : decode cX1_init 53 = .ok (.aload_n 0, 1) := by decide +kernel
theorem dX1_init_54 : decode cX1_init 54 = .ok (.bipush 6, 2) := by decide +kernel
theorem dX1_init_56 : decode cX1_init 56 = .ok (.newarray .int, 2) := by decide +kernel
theorem dX1_init_58 : decode cX1_init 58 = .ok (.putfield 33, 3) := by decide +kernel
theorem dX1_init_61 : decode cX1_init 61 = .ok (.aload_n 0, 1) := by decide +kernel
theorem dX1_init_62 : decode cX1_init 62 = .ok (.bipush 6, 2) := by decide +kernel
theorem dX1_init_64 : decode cX1_init 64 = .ok (.newarray .int, 2) := by decide +kernel
theorem dX1_init_66 : decode cX1_init 66 = .ok (.putfield 36, 3) := by decide +kernel
theorem dX1_init_69 : decode cX1_init 69 = .ok (.aload_n 0, 1) := by decide +kernel
theorem dX1_init_70 : decode cX1_init 70 = .ok (.bipush 6, 2) := by decide +kernel
theorem dX1_init_72 : decode cX1_init 72 = .ok (.newarray .long, 2) := by decide +kernel
theorem dX1_init_74 : decode cX1_init 74 = .ok (.putfield 39, 3) := by decide +kernel
theorem dX1_init_77 : decode cX1_init 77 = .ok (.return_, 1) := by decide +kernel
theorem dX1_clear_0 : decode cX1_clear 0 = .ok (.aload_n 0, 1) := by decide +kernel
theorem dX1_clear_1 : decode cX1_clear 1 = .ok (.aload_n 1, 1) := by decide +kernel
theorem dX1_clear_2 : decode cX1_clear 2 = .ok (.putfield 9, 3) := by decide +kernel
theorem dX1_clear_5 : decode cX1_clear 5 = .ok (.aload_n 0, 1) := by decide +kernel
theorem dX1_clear_6 : decode cX1_clear 6 = .ok (.iconst 0, 1) := by decide +kernel
theorem dX1_clear_7 : decode cX1_clear 7 = .ok (.putfield 43, 3) := by decide +kernel
theorem dX1_clear_10 : decode cX1_clear 10 = .ok (.aload_n 0, 1) := by decide +kernel
theorem dX1_clear_11 : decode cX1_clear 11 = .ok (.iconst 0, 1) := by decide +kernel
theorem dX1_clear_12 : decode cX1_clear 12 = .ok (.putfield 47, 3) := by decide +kernel
theorem dX1_clear_15 : decode cX1_clear 15 = .ok (.aload_n 0, 1) := by decide +kernel
theorem dX1_clear_16 : decode cX1_clear 16 = .ok (.iconst 0, 1) := by decide +kernel
theorem dX1_clear_17 : decode cX1_clear 17 = .ok (.putfield 51, 3) := by decide +kernel
theorem dX1_clear_20 : decode cX1_clear 20 = .ok (.iconst 0, 1) := by decide +kernel
theorem dX1_clear_21 : decode cX1_clear 21 = .ok (.istore_n 2, 1) := by decide +kernel
theorem dX1_clear_22 : decode cX1_clear 22 = .ok (.iload_n 2, 1) := by decide +kernel
theorem dX1_clear_23 : decode cX1_clear 23 = .ok (.bipush 8, 2) := by decide +kernel
theorem dX1_clear_25 : decode cX1_clear 25 = .ok (.if_icmp .ge 19, 3) := by decide +kernel
theorem dX1_clear_28 : decode cX1_clear 28 = .ok (.aload_n 0, 1) := by decide +kernel
theorem dX1_clear_29 : decode cX1_clear 29 = .ok (.getfield 27, 3) := by decide +kernel
theorem dX1_clear_32 : decode cX1_clear 32 = .ok (.iload_n 2, 1) := by decide +kernel
theorem dX1_clear_33 : decode cX1_clear 33 = .ok (.aaload, 1) := by decide +kernel
theorem dX1_clear_34 : decode cX1_clear 34 = .ok (.iconst 0, 1) := by decide +kernel
theorem dX1_clear_35 : decode cX1_clear 35 = .ok (.invokestatic 54, 3) := by decide +kernel
theorem dX1_clear_38 : decode cX1_clear 38 = .ok (.iinc 2 1, 3) := by decide +kernel
theorem dX1_clear_41 : decode cX1_clear 41 = .ok (.goto (-19), 3) := by decide +kernel
theorem dX1_clear_44 : decode cX1_clear 44 = .ok (.return_, 1) := by decide +kernel
theorem dX1_copy_0 : decode cX1_copy 0 = .ok (.aload_n 0, 1) := by decide +kernel
theorem dX1_copy_1 : decode cX1_copy 1 = .ok (.aload_n 1, 1) := by decide +kernel
theorem dX1_copy_2 : decode cX1_copy 2 = .ok (.getfield 9, 3) := by decide +kernel
theorem dX1_copy_5 : decode cX1_copy 5 = .ok (.putfield 9, 3) := by decide +kernel
theorem dX1_copy_8 : decode cX1_copy 8 = .ok (.aload_n 0, 1) := by decide +kernel
theorem dX1_copy_9 : decode cX1_copy 9 = .ok (.aload_n 1, 1) := by decide +kernel
theorem dX1_copy_10 : decode cX1_copy 10 = .ok (.getfield 43, 3) := by decide +kernel
theorem dX1_copy_13 : decode cX1_copy 13 = .ok (.putfield 43, 3) := by decide +kernel
theorem dX1_copy_16 : decode cX1_copy 16 = .ok (.aload_n 0, 1) := by decide +kernel
theorem dX1_copy_17 : decode cX1_copy 17 = .ok (.aload_n 1, 1) := by decide +kernel
theorem dX1_copy_18 : decode cX1_copy 18 = .ok (.getfield 60, 3) := by decide +kernel
theorem dX1_copy_21 : decode cX1_copy 21 = .ok (.putfield 60, 3) := by decide +kernel
theorem dX1_copy_24 : decode cX1_copy 24 = .ok (.aload_n 0, 1) := by decide +kernel
theorem dX1_copy_25 : decode cX1_copy 25 = .ok (.aload_n 1, 1) := by decide +kernel
theorem dX1_copy_26 : decode cX1_copy 26 = .ok (.getfield 47, 3) := by decide +kernel
theorem dX1_copy_29 : decode cX1_copy 29 = .ok (.putfield 47, 3) := by decide +kernel
theorem dX1_copy_32 : decode cX1_copy 32 = .ok (.aload_n 1, 1) := by decide +kernel
theorem dX1_copy_33 : decode cX1_copy 33 = .ok (.getfield 15, 3) := by decide +kernel
theorem dX1_copy_36 : decode cX1_copy 36 = .ok (.iconst 0, 1) := by decide +kernel
theorem dX1_copy_37 : decode cX1_copy 37 = .ok (.aload_n 0, 1) := by decide +kernel
theorem dX1_copy_38 : decode cX1_copy 38 = .ok (.getfield 15, 3) := by decide +kernel
theorem dX1_copy_41 : decode cX1_copy 41 = .ok (.iconst 0, 1) := by decide +kernel
theorem dX1_copy_42 : decode cX1_copy 42 = .ok (.bipush 40, 2) := by decide +kernel
theorem dX1_copy_44 : decode cX1_copy 44 = .ok (.invokestatic 63, 3) := by decide +kernel
theorem dX1_copy_47 : decode cX1_copy 47 = .ok (.aload_n 1, 1) := by decide +kernel
theorem dX1_copy_48 : decode cX1_copy 48 = .ok (.getfield 19, 3) := by decide +kernel
theorem dX1_copy_51 : decode cX1_copy 51 = .ok (.iconst 0, 1) := by decide +kernel
theorem dX1_copy_52 : decode cX1_copy 52 = .ok (.aload_n 0, 1) := by decide +kernel
theorem dX1_copy_53 : decode cX1_copy 53 = .ok (.getfield 19, 3) := by decide +kernel
theorem dX1_copy_56 : decode cX1_copy 56 = .ok (.iconst 0, 1) := by decide +kernel
theorem dX1_copy_57 : decode cX1_copy 57 = .ok (.bipush 40, 2) := by decide +kernel
theorem dX1_copy_59 : decode cX1_copy 59 = .ok (.invokestatic 63, 3) := by decide +kernel
theorem dX1_copy_62 : decode cX1_copy 62 = .ok (.aload_n 1, 1) := by decide +kernel
theorem dX1_copy_63 : decode cX1_copy 63 = .ok (.getfield 22, 3) := by decide +kernel
theorem dX1_copy_66 : decode cX1_copy 66 = .ok (.iconst 0, 1) := by decide +kernel
theorem dX1_copy_67 : decode cX1_copy 67 = .ok (.aload_n 0, 1) := by decide +kernel
theorem dX1_copy_68 : decode cX1_copy 68 = .ok (.getfield 22, 3) := by decide +kernel
theorem dX1_copy_71 : decode cX1_copy 71 = .ok (.iconst 0, 1) := by decide +kernel
theorem dX1_copy_72 : decode cX1_copy 72 = .ok (.bipush 40, 2) := by decide +kernel
theorem dX1_copy_74 : decode cX1_copy 74 = .ok (.invokestatic 63, 3) := by decide +kernel
theorem dX1_copy_77 : decode cX1_copy 77 = .ok (.iconst 0, 1) := by decide +kernel
theorem dX1_copy_78 : decode cX1_copy 78 = .ok (.istore_n 2, 1) := by decide +kernel
theorem dX1_copy_79 : decode cX1_copy 79 = .ok (.iload_n 2, 1) := by decide +kernel
theorem dX1_copy_80 : decode cX1_copy 80 = .ok (.bipush 8, 2) := by decide +kernel
theorem dX1_copy_82 : decode cX1_copy 82 = .ok (.if_icmp .ge 28, 3) := by decide +kernel
theorem dX1_copy_85 : decode cX1_copy 85 = .ok (.aload_n 1, 1) := by decide +kernel
theorem dX1_copy_86 : decode cX1_copy 86 = .ok (.getfield 27, 3) := by decide +kernel
theorem dX1_copy_89 : decode cX1_copy 89 = .ok (.iload_n 2, 1) := by decide +kernel
theorem dX1_copy_90 : decode cX1_copy 90 = .ok (.aaload, 1) := by decide +kernel
theorem dX1_copy_91 : decode cX1_copy 91 = .ok (.iconst 0, 1) := by decide +kernel
theorem dX1_copy_92 : decode cX1_copy 92 = .ok (.aload_n 0, 1) := by decide +kernel
theorem dX1_copy_93 : decode cX1_copy 93 = .ok (.getfield 27, 3) := by decide +kernel
theorem dX1_copy_96 : decode cX1_copy 96 = .ok (.iload_n 2, 1) := by decide +kernel
theorem dX1_copy_97 : decode cX1_copy 97 = .ok (.aaload, 1) := by decide +kernel
theorem dX1_copy_98 : decode cX1_copy 98 = .ok (.iconst 0, 1) := by decide +kernel
theorem dX1_copy_99 : decode cX1_copy 99 = .ok (.bipush 12, 2) := by decide +kernel
theorem dX1_copy_101 : decode cX1_copy 101 = .ok (.invokestatic 63, 3) := by decide +kernel
theorem dX1_copy_104 : decode cX1_copy 104 = .ok (.iinc 2 1, 3) := by decide +kernel
theorem dX1_copy_107 : decode cX1_copy 107 = .ok (.goto (-28), 3) := by decide +kernel
theorem dX1_copy_110 : decode cX1_copy 110 = .ok (.aload_n 0, 1) := by decide +kernel
theorem dX1_copy_111 : decode cX1_copy 111 = .ok (.aload_n 1, 1) := by decide +kernel
theorem dX1_copy_112 : decode cX1_copy 112 = .ok (.getfield 51, 3) := by decide +kernel
theorem dX1_copy_115 : decode cX1_copy 115 = .ok (.putfield 51, 3) := by decide +kernel
theorem dX1_copy_118 : decode cX1_copy 118 = .ok (.aload_n 1, 1) := by decide +kernel
theorem dX1_copy_119 : decode cX1_copy 119 = .ok (.getfield 30, 3) := by decide +kernel
theorem dX1_copy_122 : decode cX1_copy 122 = .ok (.iconst 0, 1) := by decide +kernel
theorem dX1_copy_123 : decode cX1_copy 123 = .ok (.aload_n 0, 1) := by decide +kernel
theorem dX1_copy_124 : decode cX1_copy 124 = .ok (.getfield 30, 3) := by decide +kernel
theorem dX1_copy_127 : decode cX1_copy 127 = .ok (.iconst 0, 1) := by decide +kernel
theorem dX1_copy_128 : decode cX1_copy 128 = .ok (.bipush 6, 2) := by decide +kernel
theorem dX1_copy_130 : decode cX1_copy 130 = .ok (.invokestatic 63, 3) := by decide +kernel
theorem dX1_copy_133 : decode cX1_copy 133 = .ok (.aload_n 1, 1) := by decide +kernel
theorem dX1_copy_134 : decode cX1_copy 134 = .ok (.getfield 33, 3) := by decide +kernel
theorem dX1_copy_137 : decode cX1_copy 137 = .ok (.iconst 0, 1) := by decide +kernel
theorem dX1_copy_138 : decode cX1_copy 138 = .ok (.aload_n 0, 1) := by decide +kernel
theorem dX1_copy_139 : decode cX1_copy 139 = .ok (.getfield 33, 3) := by decide +kernel
theorem dX1_copy_142 : decode cX1_copy 142 = .ok (.iconst 0, 1) := by decide +kernel
theorem dX1_copy_143 : decode cX1_copy 143 = .ok (.bipush 6, 2) := by decide +kernel
theorem dX1_copy_145 : decode cX1_copy 145 = .ok (.invokestatic 63, 3) := by decide +kernel
theorem dX1_copy_148 : decode cX1_copy 148 = .ok (.aload_n 1, 1) := by decide +kernel
theorem dX1_copy_149 : decode cX1_copy 149 = .ok (.getfield 36, 3) := by decide +kernel
theorem dX1_copy_152 : decode cX1_copy 152 = .ok (.iconst 0, 1) := by decide +kernel
theorem dX1_copy_153 : decode cX1_copy 153 = .ok (.aload_n 0, 1) := by decide +kernel
theorem dX1_copy_154 : decode cX1_copy 154 = .ok (.getfield 36, 3) := by decide +kernel
theorem dX1_copy_157 : decode cX1_copy 157 = .ok (.iconst 0, 1) := by decide +kernel
theorem dX1_copy_158 : decode cX1_copy 158 = .ok (.bipush 6, 2) := by decide +kernel
theorem dX1_copy_160 : decode cX1_copy 160 = .ok (.invokestatic 63, 3) := by decide +kernel
theorem dX1_copy_163 : decode cX1_copy 163 = .ok (.aload_n 0, 1) := by decide +kernel
theorem dX1_copy_164 : decode cX1_copy 164 = .ok (.aload_n 1, 1) := by decide +kernel
theorem dX1_copy_165 : decode cX1_copy 165 = .ok (.invokevirtual 69, 3) := by decide +kernel
theorem dX1_copy_168 : decode cX1_copy 168 = .ok (.return_, 1) := by decide +kernel
theorem dX1_copyAccounts_0 : decode cX1_copyAccounts 0 = .ok (.aload_n 1, 1) := by decide +kernel
theorem dX1_copyAccounts_1 : decode cX1_copyAccounts 1 = .ok (.getfield 39, 3) := by decide +kernel
theorem dX1_copyAccounts_4 : decode cX1_copyAccounts 4 = .ok (.iconst 0, 1) := by decide +kernel
theorem dX1_copyAccounts_5 : decode cX1_copyAccounts 5 = .ok (.aload_n 0, 1) := by decide +kernel
theorem dX1_copyAccounts_6 : decode cX1_copyAccounts 6 = .ok (.getfield 39, 3) := by decide +kernel
theorem dX1_copyAccounts_9 : decode cX1_copyAccounts 9 = .ok (.iconst 0, 1) := by decide +kernel
theorem dX1_copyAccounts_10 : decode cX1_copyAccounts 10 = .ok (.bipush 6, 2) := by decide +kernel
theorem dX1_copyAccounts_12 : decode cX1_copyAccounts 12 = .ok (.invokestatic 63, 3) := by decide +kernel
theorem dX1_copyAccounts_15 : decode cX1_copyAccounts 15 = .ok (.return_, 1) := by decide +kernel
theorem dX1_phase_0 : decode cX1_phase 0 = .ok (.aload_n 0, 1) := by decide +kernel
theorem dX1_phase_1 : decode cX1_phase 1 = .ok (.getfield 9, 3) := by decide +kernel
theorem dX1_phase_4 : decode cX1_phase 4 = .ok (.getfield 73, 3) := by decide +kernel
theorem dX1_phase_7 : decode cX1_phase 7 = .ok (.ifCond .ne 5, 3) := by decide +kernel
theorem dX1_phase_10 : decode cX1_phase 10 = .ok (.iconst 0, 1) := by decide +kernel
theorem dX1_phase_11 : decode cX1_phase 11 = .ok (.ireturn, 1) := by decide +kernel
theorem dX1_phase_12 : decode cX1_phase 12 = .ok (.aload_n 0, 1) := by decide +kernel
theorem dX1_phase_13 : decode cX1_phase 13 = .ok (.getfield 43, 3) := by decide +kernel
theorem dX1_phase_16 : decode cX1_phase 16 = .ok (.ifCond .eq 5, 3) := by decide +kernel
theorem dX1_phase_19 : decode cX1_phase 19 = .ok (.iconst 3, 1) := by decide +kernel
theorem dX1_phase_20 : decode cX1_phase 20 = .ok (.ireturn, 1) := by decide +kernel
theorem dX1_phase_21 : decode cX1_phase 21 = .ok (.aload_n 0, 1) := by decide +kernel
theorem dX1_phase_22 : decode cX1_phase 22 = .ok (.getfield 60, 3) := by decide +kernel
theorem dX1_phase_25 : decode cX1_phase 25 = .ok (.aload_n 0, 1) := by decide +kernel
theorem dX1_phase_26 : decode cX1_phase 26 = .ok (.getfield 9, 3) := by decide +kernel
theorem dX1_phase_29 : decode cX1_phase 29 = .ok (.getfield 78, 3) := by decide +kernel
theorem dX1_phase_32 : decode cX1_phase 32 = .ok (.if_icmp .le 7, 3) := by decide +kernel
theorem dX1_phase_35 : decode cX1_phase 35 = .ok (.iconst 1, 1) := by decide +kernel
theorem dX1_phase_36 : decode cX1_phase 36 = .ok (.goto 4, 3) := by decide +kernel
theorem dX1_phase_39 : decode cX1_phase 39 = .ok (.iconst 2, 1) := by decide +kernel
theorem dX1_phase_40 : decode cX1_phase 40 = .ok (.ireturn, 1) := by decide +kernel
theorem dX1_passengersIn_0 : decode cX1_passengersIn 0 = .ok (.iconst 0, 1) := by decide +kernel
theorem dX1_passengersIn_1 : decode cX1_passengersIn 1 = .ok (.istore_n 2, 1) := by decide +kernel
theorem dX1_passengersIn_2 : decode cX1_passengersIn 2 = .ok (.iconst 0, 1) := by decide +kernel
theorem dX1_passengersIn_3 : decode cX1_passengersIn 3 = .ok (.istore_n 3, 1) := by decide +kernel
theorem dX1_passengersIn_4 : decode cX1_passengersIn 4 = .ok (.iload_n 3, 1) := by decide +kernel
theorem dX1_passengersIn_5 : decode cX1_passengersIn 5 = .ok (.aload_n 0, 1) := by decide +kernel
theorem dX1_passengersIn_6 : decode cX1_passengersIn 6 = .ok (.getfield 47, 3) := by decide +kernel
theorem dX1_passengersIn_9 : decode cX1_passengersIn 9 = .ok (.if_icmp .ge 22, 3) := by decide +kernel
theorem dX1_passengersIn_12 : decode cX1_passengersIn 12 = .ok (.aload_n 0, 1) := by decide +kernel
theorem dX1_passengersIn_13 : decode cX1_passengersIn 13 = .ok (.getfield 15, 3) := by decide +kernel
theorem dX1_passengersIn_16 : decode cX1_passengersIn 16 = .ok (.iload_n 3, 1) := by decide +kernel
theorem dX1_passengersIn_17 : decode cX1_passengersIn 17 = .ok (.iaload, 1) := by decide +kernel
theorem dX1_passengersIn_18 : decode cX1_passengersIn 18 = .ok (.iload_n 1, 1) := by decide +kernel
theorem dX1_passengersIn_19 : decode cX1_passengersIn 19 = .ok (.if_icmp .ne 6, 3) := by decide +kernel
theorem dX1_passengersIn_22 : decode cX1_passengersIn 22 = .ok (.iinc 2 1, 3) := by decide +kernel
theorem dX1_passengersIn_25 : decode cX1_passengersIn 25 = .ok (.iinc 3 1, 3) := by decide +kernel
theorem dX1_passengersIn_28 : decode cX1_passengersIn 28 = .ok (.goto (-24), 3) := by decide +kernel
theorem dX1_passengersIn_31 : decode cX1_passengersIn 31 = .ok (.iload_n 2, 1) := by decide +kernel
theorem dX1_passengersIn_32 : decode cX1_passengersIn 32 = .ok (.ireturn, 1) := by decide +kernel
theorem dX1_specialsIn_0 : decode cX1_specialsIn 0 = .ok (.iconst 0, 1) := by decide +kernel
theorem dX1_specialsIn_1 : decode cX1_specialsIn 1 = .ok (.istore_n 2, 1) := by decide +kernel
theorem dX1_specialsIn_2 : decode cX1_specialsIn 2 = .ok (.iconst 0, 1) := by decide +kernel
theorem dX1_specialsIn_3 : decode cX1_specialsIn 3 = .ok (.istore_n 3, 1) := by decide +kernel
theorem dX1_specialsIn_4 : decode cX1_specialsIn 4 = .ok (.iload_n 3, 1) := by decide +kernel
theorem dX1_specialsIn_5 : decode cX1_specialsIn 5 = .ok (.aload_n 0, 1) := by decide +kernel
theorem dX1_specialsIn_6 : decode cX1_specialsIn 6 = .ok (.getfield 47, 3) := by decide +kernel
theorem dX1_specialsIn_9 : decode cX1_specialsIn 9 = .ok (.if_icmp .ge 31, 3) := by decide +kernel
theorem dX1_specialsIn_12 : decode cX1_specialsIn 12 = .ok (.aload_n 0, 1) := by decide +kernel
theorem dX1_specialsIn_13 : decode cX1_specialsIn 13 = .ok (.getfield 15, 3) := by decide +kernel
theorem dX1_specialsIn_16 : decode cX1_specialsIn 16 = .ok (.iload_n 3, 1) := by decide +kernel
theorem dX1_specialsIn_17 : decode cX1_specialsIn 17 = .ok (.iaload, 1) := by decide +kernel
theorem dX1_specialsIn_18 : decode cX1_specialsIn 18 = .ok (.iload_n 1, 1) := by decide +kernel
theorem dX1_specialsIn_19 : decode cX1_specialsIn 19 = .ok (.if_icmp .ne 15, 3) := by decide +kernel
theorem dX1_specialsIn_22 : decode cX1_specialsIn 22 = .ok (.aload_n 0, 1) := by decide +kernel
theorem dX1_specialsIn_23 : decode cX1_specialsIn 23 = .ok (.getfield 19, 3) := by decide +kernel
theorem dX1_specialsIn_26 : decode cX1_specialsIn 26 = .ok (.iload_n 3, 1) := by decide +kernel
theorem dX1_specialsIn_27 : decode cX1_specialsIn 27 = .ok (.iaload, 1) := by decide +kernel
theorem dX1_specialsIn_28 : decode cX1_specialsIn 28 = .ok (.ifCond .eq 6, 3) := by decide +kernel
theorem dX1_specialsIn_31 : decode cX1_specialsIn 31 = .ok (.iinc 2 1, 3) := by decide +kernel
theorem dX1_specialsIn_34 : decode cX1_specialsIn 34 = .ok (.iinc 3 1, 3) := by decide +kernel
theorem dX1_specialsIn_37 : decode cX1_specialsIn 37 = .ok (.goto (-33), 3) := by decide +kernel
theorem dX1_specialsIn_40 : decode cX1_specialsIn 40 = .ok (.iload_n 2, 1) := by decide +kernel
theorem dX1_specialsIn_41 : decode cX1_specialsIn 41 = .ok (.ireturn, 1) := by decide +kernel
theorem dX1_freeSeats_0 : decode cX1_freeSeats 0 = .ok (.aload_n 0, 1) := by decide +kernel
theorem dX1_freeSeats_1 : decode cX1_freeSeats 1 = .ok (.getfield 9, 3) := by decide +kernel
theorem dX1_freeSeats_4 : decode cX1_freeSeats 4 = .ok (.getfield 81, 3) := by decide +kernel
theorem dX1_freeSeats_7 : decode cX1_freeSeats 7 = .ok (.iload_n 1, 1) := by decide +kernel
theorem dX1_freeSeats_8 : decode cX1_freeSeats 8 = .ok (.aaload, 1) := by decide +kernel
theorem dX1_freeSeats_9 : decode cX1_freeSeats 9 = .ok (.getfield 85, 3) := by decide +kernel
theorem dX1_freeSeats_12 : decode cX1_freeSeats 12 = .ok (.aload_n 0, 1) := by decide +kernel
theorem dX1_freeSeats_13 : decode cX1_freeSeats 13 = .ok (.iload_n 1, 1) := by decide +kernel
theorem dX1_freeSeats_14 : decode cX1_freeSeats 14 = .ok (.invokevirtual 90, 3) := by decide +kernel
theorem dX1_freeSeats_17 : decode cX1_freeSeats 17 = .ok (.isub, 1) := by decide +kernel
theorem dX1_freeSeats_18 : decode cX1_freeSeats 18 = .ok (.ireturn, 1) := by decide +kernel
theorem dX1_seat_0 : decode cX1_seat 0 = .ok (.aload_n 0, 1) := by decide +kernel
theorem dX1_seat_1 : decode cX1_seat 1 = .ok (.getfield 47, 3) := by decide +kernel
theorem dX1_seat_4 : decode cX1_seat 4 = .ok (.bipush 40, 2) := by decide +kernel
theorem dX1_seat_6 : decode cX1_seat 6 = .ok (.if_icmp .ge 43, 3) := by decide +kernel
theorem dX1_seat_9 : decode cX1_seat 9 = .ok (.aload_n 0, 1) := by decide +kernel
theorem dX1_seat_10 : decode cX1_seat 10 = .ok (.getfield 15, 3) := by decide +kernel
theorem dX1_seat_13 : decode cX1_seat 13 = .ok (.aload_n 0, 1) := by decide +kernel
theorem dX1_seat_14 : decode cX1_seat 14 = .ok (.getfield 47, 3) := by decide +kernel
theorem dX1_seat_17 : decode cX1_seat 17 = .ok (.iload_n 1, 1) := by decide +kernel
theorem dX1_seat_18 : decode cX1_seat 18 = .ok (.iastore, 1) := by decide +kernel
theorem dX1_seat_19 : decode cX1_seat 19 = .ok (.aload_n 0, 1) := by decide +kernel
theorem dX1_seat_20 : decode cX1_seat 20 = .ok (.getfield 19, 3) := by decide +kernel
theorem dX1_seat_23 : decode cX1_seat 23 = .ok (.aload_n 0, 1) := by decide +kernel
theorem dX1_seat_24 : decode cX1_seat 24 = .ok (.getfield 47, 3) := by decide +kernel
theorem dX1_seat_27 : decode cX1_seat 27 = .ok (.iload_n 2, 1) := by decide +kernel
theorem dX1_seat_28 : decode cX1_seat 28 = .ok (.iastore, 1) := by decide +kernel
theorem dX1_seat_29 : decode cX1_seat 29 = .ok (.aload_n 0, 1) := by decide +kernel
theorem dX1_seat_30 : decode cX1_seat 30 = .ok (.getfield 22, 3) := by decide +kernel
theorem dX1_seat_33 : decode cX1_seat 33 = .ok (.aload_n 0, 1) := by decide +kernel
theorem dX1_seat_34 : decode cX1_seat 34 = .ok (.getfield 47, 3) := by decide +kernel
theorem dX1_seat_37 : decode cX1_seat 37 = .ok (.iload_n 3, 1) := by decide +kernel
theorem dX1_seat_38 : decode cX1_seat 38 = .ok (.iastore, 1) := by decide +kernel
theorem dX1_seat_39 : decode cX1_seat 39 = .ok (.aload_n 0, 1) := by decide +kernel
theorem dX1_seat_40 : decode cX1_seat 40 = .ok (.dup, 1) := by decide +kernel
theorem dX1_seat_41 : decode cX1_seat 41 = .ok (.getfield 47, 3) := by decide +kernel
theorem dX1_seat_44 : decode cX1_seat 44 = .ok (.iconst 1, 1) := by decide +kernel
theorem dX1_seat_45 : decode cX1_seat 45 = .ok (.iadd, 1) := by decide +kernel
theorem dX1_seat_46 : decode cX1_seat 46 = .ok (.putfield 47, 3) := by decide +kernel
theorem dX1_seat_49 : decode cX1_seat 49 = .ok (.return_, 1) := by decide +kernel
theorem dX1_removePassenger_0 : decode cX1_removePassenger 0 = .ok (.iload_n 1, 1) := by decide +kernel
theorem dX1_removePassenger_1 : decode cX1_removePassenger 1 = .ok (.iconst 1, 1) := by decide +kernel
theorem dX1_removePassenger_2 : decode cX1_removePassenger 2 = .ok (.iadd, 1) := by decide +kernel
theorem dX1_removePassenger_3 : decode cX1_removePassenger 3 = .ok (.istore_n 2, 1) := by decide +kernel
theorem dX1_removePassenger_4 : decode cX1_removePassenger 4 = .ok (.iload_n 2, 1) := by decide +kernel
theorem dX1_removePassenger_5 : decode cX1_removePassenger 5 = .ok (.aload_n 0, 1) := by decide +kernel
theorem dX1_removePassenger_6 : decode cX1_removePassenger 6 = .ok (.getfield 47, 3) := by decide +kernel
theorem dX1_removePassenger_9 : decode cX1_removePassenger 9 = .ok (.if_icmp .ge 51, 3) := by decide +kernel
theorem dX1_removePassenger_12 : decode cX1_removePassenger 12 = .ok (.aload_n 0, 1) := by decide +kernel
theorem dX1_removePassenger_13 : decode cX1_removePassenger 13 = .ok (.getfield 15, 3) := by decide +kernel
theorem dX1_removePassenger_16 : decode cX1_removePassenger 16 = .ok (.iload_n 2, 1) := by decide +kernel
theorem dX1_removePassenger_17 : decode cX1_removePassenger 17 = .ok (.iconst 1, 1) := by decide +kernel
theorem dX1_removePassenger_18 : decode cX1_removePassenger 18 = .ok (.isub, 1) := by decide +kernel
theorem dX1_removePassenger_19 : decode cX1_removePassenger 19 = .ok (.aload_n 0, 1) := by decide +kernel
theorem dX1_removePassenger_20 : decode cX1_removePassenger 20 = .ok (.getfield 15, 3) := by decide +kernel
theorem dX1_removePassenger_23 : decode cX1_removePassenger 23 = .ok (.iload_n 2, 1) := by decide +kernel
theorem dX1_removePassenger_24 : decode cX1_removePassenger 24 = .ok (.iaload, 1) := by decide +kernel
theorem dX1_removePassenger_25 : decode cX1_removePassenger 25 = .ok (.iastore, 1) := by decide +kernel
theorem dX1_removePassenger_26 : decode cX1_removePassenger 26 = .ok (.aload_n 0, 1) := by decide +kernel
theorem dX1_removePassenger_27 : decode cX1_removePassenger 27 = .ok (.getfield 19, 3) := by decide +kernel
theorem dX1_removePassenger_30 : decode cX1_removePassenger 30 = .ok (.iload_n 2, 1) := by decide +kernel
theorem dX1_removePassenger_31 : decode cX1_removePassenger 31 = .ok (.iconst 1, 1) := by decide +kernel
theorem dX1_removePassenger_32 : decode cX1_removePassenger 32 = .ok (.isub, 1) := by decide +kernel
theorem dX1_removePassenger_33 : decode cX1_removePassenger 33 = .ok (.aload_n 0, 1) := by decide +kernel
theorem dX1_removePassenger_34 : decode cX1_removePassenger 34 = .ok (.getfield 19, 3) := by decide +kernel
theorem dX1_removePassenger_37 : decode cX1_removePassenger 37 = .ok (.iload_n 2, 1) := by decide +kernel
theorem dX1_removePassenger_38 : decode cX1_removePassenger 38 = .ok (.iaload, 1) := by decide +kernel
theorem dX1_removePassenger_39 : decode cX1_removePassenger 39 = .ok (.iastore, 1) := by decide +kernel
theorem dX1_removePassenger_40 : decode cX1_removePassenger 40 = .ok (.aload_n 0, 1) := by decide +kernel
theorem dX1_removePassenger_41 : decode cX1_removePassenger 41 = .ok (.getfield 22, 3) := by decide +kernel
theorem dX1_removePassenger_44 : decode cX1_removePassenger 44 = .ok (.iload_n 2, 1) := by decide +kernel
theorem dX1_removePassenger_45 : decode cX1_removePassenger 45 = .ok (.iconst 1, 1) := by decide +kernel
theorem dX1_removePassenger_46 : decode cX1_removePassenger 46 = .ok (.isub, 1) := by decide +kernel
theorem dX1_removePassenger_47 : decode cX1_removePassenger 47 = .ok (.aload_n 0, 1) := by decide +kernel
theorem dX1_removePassenger_48 : decode cX1_removePassenger 48 = .ok (.getfield 22, 3) := by decide +kernel
theorem dX1_removePassenger_51 : decode cX1_removePassenger 51 = .ok (.iload_n 2, 1) := by decide +kernel
theorem dX1_removePassenger_52 : decode cX1_removePassenger 52 = .ok (.iaload, 1) := by decide +kernel
theorem dX1_removePassenger_53 : decode cX1_removePassenger 53 = .ok (.iastore, 1) := by decide +kernel
theorem dX1_removePassenger_54 : decode cX1_removePassenger 54 = .ok (.iinc 2 1, 3) := by decide +kernel
theorem dX1_removePassenger_57 : decode cX1_removePassenger 57 = .ok (.goto (-53), 3) := by decide +kernel
theorem dX1_removePassenger_60 : decode cX1_removePassenger 60 = .ok (.aload_n 0, 1) := by decide +kernel
theorem dX1_removePassenger_61 : decode cX1_removePassenger 61 = .ok (.dup, 1) := by decide +kernel
theorem dX1_removePassenger_62 : decode cX1_removePassenger 62 = .ok (.getfield 47, 3) := by decide +kernel
theorem dX1_removePassenger_65 : decode cX1_removePassenger 65 = .ok (.iconst 1, 1) := by decide +kernel
theorem dX1_removePassenger_66 : decode cX1_removePassenger 66 = .ok (.isub, 1) := by decide +kernel
theorem dX1_removePassenger_67 : decode cX1_removePassenger 67 = .ok (.putfield 47, 3) := by decide +kernel
theorem dX1_removePassenger_70 : decode cX1_removePassenger 70 = .ok (.return_, 1) := by decide +kernel
theorem dX1_suiting_0 : decode cX1_suiting 0 = .ok (.aload_n 0, 1) := by decide +kernel
theorem dX1_suiting_1 : decode cX1_suiting 1 = .ok (.getfield 9, 3) := by decide +kernel
theorem dX1_suiting_4 : decode cX1_suiting 4 = .ok (.aload_n 0, 1) := by decide +kernel
theorem dX1_suiting_5 : decode cX1_suiting 5 = .ok (.getfield 15, 3) := by decide +kernel
theorem dX1_suiting_8 : decode cX1_suiting 8 = .ok (.iload_n 1, 1) := by decide +kernel
theorem dX1_suiting_9 : decode cX1_suiting 9 = .ok (.iaload, 1) := by decide +kernel
theorem dX1_suiting_10 : decode cX1_suiting 10 = .ok (.aload_n 0, 1) := by decide +kernel
theorem dX1_suiting_11 : decode cX1_suiting 11 = .ok (.getfield 19, 3) := by decide +kernel
theorem dX1_suiting_14 : decode cX1_suiting 14 = .ok (.iload_n 1, 1) := by decide +kernel
theorem dX1_suiting_15 : decode cX1_suiting 15 = .ok (.iaload, 1) := by decide +kernel
theorem dX1_suiting_16 : decode cX1_suiting 16 = .ok (.invokevirtual 94, 3) := by decide +kernel
theorem dX1_suiting_19 : decode cX1_suiting 19 = .ok (.ireturn, 1) := by decide +kernel
theorem dX1_cheapestFor_0 : decode cX1_cheapestFor 0 = .ok (.aload_n 0, 1) := by decide +kernel
theorem dX1_cheapestFor_1 : decode cX1_cheapestFor 1 = .ok (.getfield 9, 3) := by decide +kernel
theorem dX1_cheapestFor_4 : decode cX1_cheapestFor 4 = .ok (.aload_n 0, 1) := by decide +kernel
theorem dX1_cheapestFor_5 : decode cX1_cheapestFor 5 = .ok (.iload_n 1, 1) := by decide +kernel
theorem dX1_cheapestFor_6 : decode cX1_cheapestFor 6 = .ok (.invokevirtual 98, 3) := by decide +kernel
theorem dX1_cheapestFor_9 : decode cX1_cheapestFor 9 = .ok (.invokevirtual 100, 3) := by decide +kernel
theorem dX1_cheapestFor_12 : decode cX1_cheapestFor 12 = .ok (.ireturn, 1) := by decide +kernel
theorem dX1_freeSlots_0 : decode cX1_freeSlots 0 = .ok (.aload_n 0, 1) := by decide +kernel
theorem dX1_freeSlots_1 : decode cX1_freeSlots 1 = .ok (.getfield 9, 3) := by decide +kernel
theorem dX1_freeSlots_4 : decode cX1_freeSlots 4 = .ok (.getfield 103, 3) := by decide +kernel
theorem dX1_freeSlots_7 : decode cX1_freeSlots 7 = .ok (.iload_n 1, 1) := by decide +kernel
theorem dX1_freeSlots_8 : decode cX1_freeSlots 8 = .ok (.iaload, 1) := by decide +kernel
theorem dX1_freeSlots_9 : decode cX1_freeSlots 9 = .ok (.istore_n 2, 1) := by decide +kernel
theorem dX1_freeSlots_10 : decode cX1_freeSlots 10 = .ok (.iconst 0, 1) := by decide +kernel
theorem dX1_freeSlots_11 : decode cX1_freeSlots 11 = .ok (.istore_n 3, 1) := by decide +kernel
theorem dX1_freeSlots_12 : decode cX1_freeSlots 12 = .ok (.iload_n 3, 1) := by decide +kernel
theorem dX1_freeSlots_13 : decode cX1_freeSlots 13 = .ok (.aload_n 0, 1) := by decide +kernel
theorem dX1_freeSlots_14 : decode cX1_freeSlots 14 = .ok (.getfield 9, 3) := by decide +kernel
theorem dX1_freeSlots_17 : decode cX1_freeSlots 17 = .ok (.getfield 106, 3) := by decide +kernel
theorem dX1_freeSlots_20 : decode cX1_freeSlots 20 = .ok (.if_icmp .ge 33, 3) := by decide +kernel
theorem dX1_freeSlots_23 : decode cX1_freeSlots 23 = .ok (.iload_n 2, 1) := by decide +kernel
theorem dX1_freeSlots_24 : decode cX1_freeSlots 24 = .ok (.aload_n 0, 1) := by decide +kernel
theorem dX1_freeSlots_25 : decode cX1_freeSlots 25 = .ok (.getfield 27, 3) := by decide +kernel
theorem dX1_freeSlots_28 : decode cX1_freeSlots 28 = .ok (.iload_n 1, 1) := by decide +kernel
theorem dX1_freeSlots_29 : decode cX1_freeSlots 29 = .ok (.aaload, 1) := by decide +kernel
theorem dX1_freeSlots_30 : decode cX1_freeSlots 30 = .ok (.iload_n 3, 1) := by decide +kernel
theorem dX1_freeSlots_31 : decode cX1_freeSlots 31 = .ok (.iaload, 1) := by decide +kernel
theorem dX1_freeSlots_32 : decode cX1_freeSlots 32 = .ok (.aload_n 0, 1) := by decide +kernel
theorem dX1_freeSlots_33 : decode cX1_freeSlots 33 = .ok (.getfield 9, 3) := by decide +kernel
theorem dX1_freeSlots_36 : decode cX1_freeSlots 36 = .ok (.getfield 109, 3) := by decide +kernel
theorem dX1_freeSlots_39 : decode cX1_freeSlots 39 = .ok (.iload_n 3, 1) := by decide +kernel
theorem dX1_freeSlots_40 : decode cX1_freeSlots 40 = .ok (.aaload, 1) := by decide +kernel
theorem dX1_freeSlots_41 : decode cX1_freeSlots 41 = .ok (.getfield 113, 3) := by decide +kernel
theorem dX1_freeSlots_44 : decode cX1_freeSlots 44 = .ok (.imul, 1) := by decide +kernel
theorem dX1_freeSlots_45 : decode cX1_freeSlots 45 = .ok (.isub, 1) := by decide +kernel
theorem dX1_freeSlots_46 : decode cX1_freeSlots 46 = .ok (.istore_n 2, 1) := by decide +kernel
theorem dX1_freeSlots_47 : decode cX1_freeSlots 47 = .ok (.iinc 3 1, 3) := by decide +kernel
theorem dX1_freeSlots_50 : decode cX1_freeSlots 50 = .ok (.goto (-38), 3) := by decide +kernel
theorem dX1_freeSlots_53 : decode cX1_freeSlots 53 = .ok (.iload_n 2, 1) := by decide +kernel
theorem dX1_freeSlots_54 : decode cX1_freeSlots 54 = .ok (.ireturn, 1) := by decide +kernel
theorem dX1_freeSlotsIn_0 : decode cX1_freeSlotsIn 0 = .ok (.iconst 0, 1) := by decide +kernel
theorem dX1_freeSlotsIn_1 : decode cX1_freeSlotsIn 1 = .ok (.istore_n 2, 1) := by decide +kernel
theorem dX1_freeSlotsIn_2 : decode cX1_freeSlotsIn 2 = .ok (.iconst 0, 1) := by decide +kernel
theorem dX1_freeSlotsIn_3 : decode cX1_freeSlotsIn 3 = .ok (.istore_n 3, 1) := by decide +kernel
theorem dX1_freeSlotsIn_4 : decode cX1_freeSlotsIn 4 = .ok (.iload_n 3, 1) := by decide +kernel
theorem dX1_freeSlotsIn_5 : decode cX1_freeSlotsIn 5 = .ok (.aload_n 0, 1) := by decide +kernel
theorem dX1_freeSlotsIn_6 : decode cX1_freeSlotsIn 6 = .ok (.getfield 9, 3) := by decide +kernel
theorem dX1_freeSlotsIn_9 : decode cX1_freeSlotsIn 9 = .ok (.getfield 118, 3) := by decide +kernel
theorem dX1_freeSlotsIn_12 : decode cX1_freeSlotsIn 12 = .ok (.if_icmp .ge 30, 3) := by decide +kernel
theorem dX1_freeSlotsIn_15 : decode cX1_freeSlotsIn 15 = .ok (.aload_n 0, 1) := by decide +kernel
theorem dX1_freeSlotsIn_16 : decode cX1_freeSlotsIn 16 = .ok (.getfield 9, 3) := by decide +kernel
theorem dX1_freeSlotsIn_19 : decode cX1_freeSlotsIn 19 = .ok (.getfield 121, 3) := by decide +kernel
theorem dX1_freeSlotsIn_22 : decode cX1_freeSlotsIn 22 = .ok (.iload_n 3, 1) := by decide +kernel
theorem dX1_freeSlotsIn_23 : decode cX1_freeSlotsIn 23 = .ok (.iaload, 1) := by decide +kernel
theorem dX1_freeSlotsIn_24 : decode cX1_freeSlotsIn 24 = .ok (.iload_n 1, 1) := by decide +kernel
theorem dX1_freeSlotsIn_25 : decode cX1_freeSlotsIn 25 = .ok (.if_icmp .ne 11, 3) := by decide +kernel
theorem dX1_freeSlotsIn_28 : decode cX1_freeSlotsIn 28 = .ok (.iload_n 2, 1) := by decide +kernel
theorem dX1_freeSlotsIn_29 : decode cX1_freeSlotsIn 29 = .ok (.aload_n 0, 1) := by decide +kernel
theorem dX1_freeSlotsIn_30 : decode cX1_freeSlotsIn 30 = .ok (.iload_n 3, 1) := by decide +kernel
theorem dX1_freeSlotsIn_31 : decode cX1_freeSlotsIn 31 = .ok (.invokevirtual 124, 3) := by decide +kernel
theorem dX1_freeSlotsIn_34 : decode cX1_freeSlotsIn 34 = .ok (.iadd, 1) := by decide +kernel
theorem dX1_freeSlotsIn_35 : decode cX1_freeSlotsIn 35 = .ok (.istore_n 2, 1) := by decide +kernel
theorem dX1_freeSlotsIn_36 : decode cX1_freeSlotsIn 36 = .ok (.iinc 3 1, 3) := by decide +kernel
theorem dX1_freeSlotsIn_39 : decode cX1_freeSlotsIn 39 = .ok (.goto (-35), 3) := by decide +kernel
theorem dX1_freeSlotsIn_42 : decode cX1_freeSlotsIn 42 = .ok (.iload_n 2, 1) := by decide +kernel
theorem dX1_freeSlotsIn_43 : decode cX1_freeSlotsIn 43 = .ok (.ireturn, 1) := by decide +kernel
theorem dX1_unitsIn_0 : decode cX1_unitsIn 0 = .ok (.iconst 0, 1) := by decide +kernel
theorem dX1_unitsIn_1 : decode cX1_unitsIn 1 = .ok (.istore_n 2, 1) := by decide +kernel
theorem dX1_unitsIn_2 : decode cX1_unitsIn 2 = .ok (.iconst 0, 1) := by decide +kernel
theorem dX1_unitsIn_3 : decode cX1_unitsIn 3 = .ok (.istore_n 3, 1) := by decide +kernel
theorem dX1_unitsIn_4 : decode cX1_unitsIn 4 = .ok (.iload_n 3, 1) := by decide +kernel
theorem dX1_unitsIn_5 : decode cX1_unitsIn 5 = .ok (.aload_n 0, 1) := by decide +kernel
theorem dX1_unitsIn_6 : decode cX1_unitsIn 6 = .ok (.getfield 9, 3) := by decide +kernel
theorem dX1_unitsIn_9 : decode cX1_unitsIn 9 = .ok (.getfield 106, 3) := by decide +kernel
theorem dX1_unitsIn_12 : decode cX1_unitsIn 12 = .ok (.if_icmp .ge 20, 3) := by decide +kernel
theorem dX1_unitsIn_15 : decode cX1_unitsIn 15 = .ok (.iload_n 2, 1) := by decide +kernel
theorem dX1_unitsIn_16 : decode cX1_unitsIn 16 = .ok (.aload_n 0, 1) := by decide +kernel
theorem dX1_unitsIn_17 : decode cX1_unitsIn 17 = .ok (.getfield 27, 3) := by decide +kernel
theorem dX1_unitsIn_20 : decode cX1_unitsIn 20 = .ok (.iload_n 1, 1) := by decide +kernel
theorem dX1_unitsIn_21 : decode cX1_unitsIn 21 = .ok (.aaload, 1) := by decide +kernel
theorem dX1_unitsIn_22 : decode cX1_unitsIn 22 = .ok (.iload_n 3, 1) := by decide +kernel
theorem dX1_unitsIn_23 : decode cX1_unitsIn 23 = .ok (.iaload, 1) := by decide +kernel
theorem dX1_unitsIn_24 : decode cX1_unitsIn 24 = .ok (.iadd, 1) := by decide +kernel
theorem dX1_unitsIn_25 : decode cX1_unitsIn 25 = .ok (.istore_n 2, 1) := by decide +kernel
theorem dX1_unitsIn_26 : decode cX1_unitsIn 26 = .ok (.iinc 3 1, 3) := by decide +kernel
theorem dX1_unitsIn_29 : decode cX1_unitsIn 29 = .ok (.goto (-25), 3) := by decide +kernel
theorem dX1_unitsIn_32 : decode cX1_unitsIn 32 = .ok (.iload_n 2, 1) := by decide +kernel
theorem dX1_unitsIn_33 : decode cX1_unitsIn 33 = .ok (.ireturn, 1) := by decide +kernel
theorem dX1_loadedOf_0 : decode cX1_loadedOf 0 = .ok (.iconst 0, 1) := by decide +kernel
theorem dX1_loadedOf_1 : decode cX1_loadedOf 1 = .ok (.istore_n 2, 1) := by decide +kernel
theorem dX1_loadedOf_2 : decode cX1_loadedOf 2 = .ok (.iconst 0, 1) := by decide +kernel
theorem dX1_loadedOf_3 : decode cX1_loadedOf 3 = .ok (.istore_n 3, 1) := by decide +kernel
theorem dX1_loadedOf_4 : decode cX1_loadedOf 4 = .ok (.iload_n 3, 1) := by decide +kernel
theorem dX1_loadedOf_5 : decode cX1_loadedOf 5 = .ok (.aload_n 0, 1) := by decide +kernel
theorem dX1_loadedOf_6 : decode cX1_loadedOf 6 = .ok (.getfield 9, 3) := by decide +kernel
theorem dX1_loadedOf_9 : decode cX1_loadedOf 9 = .ok (.getfield 118, 3) := by decide +kernel
theorem dX1_loadedOf_12 : decode cX1_loadedOf 12 = .ok (.if_icmp .ge 20, 3) := by decide +kernel
theorem dX1_loadedOf_15 : decode cX1_loadedOf 15 = .ok (.iload_n 2, 1) := by decide +kernel
theorem dX1_loadedOf_16 : decode cX1_loadedOf 16 = .ok (.aload_n 0, 1) := by decide +kernel
theorem dX1_loadedOf_17 : decode cX1_loadedOf 17 = .ok (.getfield 27, 3) := by decide +kernel
theorem dX1_loadedOf_20 : decode cX1_loadedOf 20 = .ok (.iload_n 3, 1) := by decide +kernel
theorem dX1_loadedOf_21 : decode cX1_loadedOf 21 = .ok (.aaload, 1) := by decide +kernel
theorem dX1_loadedOf_22 : decode cX1_loadedOf 22 = .ok (.iload_n 1, 1) := by decide +kernel
theorem dX1_loadedOf_23 : decode cX1_loadedOf 23 = .ok (.iaload, 1) := by decide +kernel
theorem dX1_loadedOf_24 : decode cX1_loadedOf 24 = .ok (.iadd, 1) := by decide +kernel
theorem dX1_loadedOf_25 : decode cX1_loadedOf 25 = .ok (.istore_n 2, 1) := by decide +kernel
theorem dX1_loadedOf_26 : decode cX1_loadedOf 26 = .ok (.iinc 3 1, 3) := by decide +kernel
theorem dX1_loadedOf_29 : decode cX1_loadedOf 29 = .ok (.goto (-25), 3) := by decide +kernel
theorem dX1_loadedOf_32 : decode cX1_loadedOf 32 = .ok (.iload_n 2, 1) := by decide +kernel
theorem dX1_loadedOf_33 : decode cX1_loadedOf 33 = .ok (.ireturn, 1) := by decide +kernel
theorem dX1_allLoaded_0 : decode cX1_allLoaded 0 = .ok (.iconst 0, 1) := by decide +kernel
theorem dX1_allLoaded_1 : decode cX1_allLoaded 1 = .ok (.istore_n 1, 1) := by decide +kernel
theorem dX1_allLoaded_2 : decode cX1_allLoaded 2 = .ok (.iconst 0, 1) := by decide +kernel
theorem dX1_allLoaded_3 : decode cX1_allLoaded 3 = .ok (.istore_n 2, 1) := by decide +kernel
theorem dX1_allLoaded_4 : decode cX1_allLoaded 4 = .ok (.iload_n 2, 1) := by decide +kernel
theorem dX1_allLoaded_5 : decode cX1_allLoaded 5 = .ok (.aload_n 0, 1) := by decide +kernel
theorem dX1_allLoaded_6 : decode cX1_allLoaded 6 = .ok (.getfield 9, 3) := by decide +kernel
theorem dX1_allLoaded_9 : decode cX1_allLoaded 9 = .ok (.getfield 118, 3) := by decide +kernel
theorem dX1_allLoaded_12 : decode cX1_allLoaded 12 = .ok (.if_icmp .ge 17, 3) := by decide +kernel
theorem dX1_allLoaded_15 : decode cX1_allLoaded 15 = .ok (.iload_n 1, 1) := by decide +kernel
theorem dX1_allLoaded_16 : decode cX1_allLoaded 16 = .ok (.aload_n 0, 1) := by decide +kernel
theorem dX1_allLoaded_17 : decode cX1_allLoaded 17 = .ok (.iload_n 2, 1) := by decide +kernel
theorem dX1_allLoaded_18 : decode cX1_allLoaded 18 = .ok (.invokevirtual 127, 3) := by decide +kernel
theorem dX1_allLoaded_21 : decode cX1_allLoaded 21 = .ok (.iadd, 1) := by decide +kernel
theorem dX1_allLoaded_22 : decode cX1_allLoaded 22 = .ok (.istore_n 1, 1) := by decide +kernel
theorem dX1_allLoaded_23 : decode cX1_allLoaded 23 = .ok (.iinc 2 1, 3) := by decide +kernel
theorem dX1_allLoaded_26 : decode cX1_allLoaded 26 = .ok (.goto (-22), 3) := by decide +kernel
theorem dX1_allLoaded_29 : decode cX1_allLoaded 29 = .ok (.iload_n 1, 1) := by decide +kernel
theorem dX1_allLoaded_30 : decode cX1_allLoaded 30 = .ok (.ireturn, 1) := by decide +kernel
theorem dX1_onTheWay_0 : decode cX1_onTheWay 0 = .ok (.iconst 0, 1) := by decide +kernel
theorem dX1_onTheWay_1 : decode cX1_onTheWay 1 = .ok (.istore_n 2, 1) := by decide +kernel
theorem dX1_onTheWay_2 : decode cX1_onTheWay 2 = .ok (.iconst 0, 1) := by decide +kernel
theorem dX1_onTheWay_3 : decode cX1_onTheWay 3 = .ok (.istore_n 3, 1) := by decide +kernel
theorem dX1_onTheWay_4 : decode cX1_onTheWay 4 = .ok (.iload_n 3, 1) := by decide +kernel
theorem dX1_onTheWay_5 : decode cX1_onTheWay 5 = .ok (.aload_n 0, 1) := by decide +kernel
theorem dX1_onTheWay_6 : decode cX1_onTheWay 6 = .ok (.getfield 51, 3) := by decide +kernel
theorem dX1_onTheWay_9 : decode cX1_onTheWay 9 = .ok (.if_icmp .ge 28, 3) := by decide +kernel
theorem dX1_onTheWay_12 : decode cX1_onTheWay 12 = .ok (.aload_n 0, 1) := by decide +kernel
theorem dX1_onTheWay_13 : decode cX1_onTheWay 13 = .ok (.getfield 30, 3) := by decide +kernel
theorem dX1_onTheWay_16 : decode cX1_onTheWay 16 = .ok (.iload_n 3, 1) := by decide +kernel
theorem dX1_onTheWay_17 : decode cX1_onTheWay 17 = .ok (.iaload, 1) := by decide +kernel
theorem dX1_onTheWay_18 : decode cX1_onTheWay 18 = .ok (.iload_n 1, 1) := by decide +kernel
theorem dX1_onTheWay_19 : decode cX1_onTheWay 19 = .ok (.if_icmp .ne 12, 3) := by decide +kernel
theorem dX1_onTheWay_22 : decode cX1_onTheWay 22 = .ok (.iload_n 2, 1) := by decide +kernel
theorem dX1_onTheWay_23 : decode cX1_onTheWay 23 = .ok (.aload_n 0, 1) := by decide +kernel
theorem dX1_onTheWay_24 : decode cX1_onTheWay 24 = .ok (.getfield 33, 3) := by decide +kernel
theorem dX1_onTheWay_27 : decode cX1_onTheWay 27 = .ok (.iload_n 3, 1) := by decide +kernel
theorem dX1_onTheWay_28 : decode cX1_onTheWay 28 = .ok (.iaload, 1) := by decide +kernel
theorem dX1_onTheWay_29 : decode cX1_onTheWay 29 = .ok (.iadd, 1) := by decide +kernel
theorem dX1_onTheWay_30 : decode cX1_onTheWay 30 = .ok (.istore_n 2, 1) := by decide +kernel
theorem dX1_onTheWay_31 : decode cX1_onTheWay 31 = .ok (.iinc 3 1, 3) := by decide +kernel
theorem dX1_onTheWay_34 : decode cX1_onTheWay 34 = .ok (.goto (-30), 3) := by decide +kernel
theorem dX1_onTheWay_37 : decode cX1_onTheWay 37 = .ok (.iload_n 2, 1) := by decide +kernel
theorem dX1_onTheWay_38 : decode cX1_onTheWay 38 = .ok (.ireturn, 1) := by decide +kernel
theorem dX1_missing_0 : decode cX1_missing 0 = .ok (.iconst 0, 1) := by decide +kernel
theorem dX1_missing_1 : decode cX1_missing 1 = .ok (.iload_n 2, 1) := by decide +kernel
theorem dX1_missing_2 : decode cX1_missing 2 = .ok (.aload_n 0, 1) := by decide +kernel
theorem dX1_missing_3 : decode cX1_missing 3 = .ok (.iload_n 1, 1) := by decide +kernel
theorem dX1_missing_4 : decode cX1_missing 4 = .ok (.invokevirtual 130, 3) := by decide +kernel
theorem dX1_missing_7 : decode cX1_missing 7 = .ok (.isub, 1) := by decide +kernel
theorem dX1_missing_8 : decode cX1_missing 8 = .ok (.aload_n 0, 1) := by decide +kernel
theorem dX1_missing_9 : decode cX1_missing 9 = .ok (.iload_n 1, 1) := by decide +kernel
theorem dX1_missing_10 : decode cX1_missing 10 = .ok (.invokevirtual 133, 3) := by decide +kernel
theorem dX1_missing_13 : decode cX1_missing 13 = .ok (.isub, 1) := by decide +kernel
theorem dX1_missing_14 : decode cX1_missing 14 = .ok (.invokestatic 136, 3) := by decide +kernel
theorem dX1_missing_17 : decode cX1_missing 17 = .ok (.ireturn, 1) := by decide +kernel
theorem dX1_put_0 : decode cX1_put 0 = .ok (.iconst 0, 1) := by decide +kernel
theorem dX1_put_1 : decode cX1_put 1 = .ok (.istore_n 3, 1) := by decide +kernel
theorem dX1_put_2 : decode cX1_put 2 = .ok (.aload_n 0, 1) := by decide +kernel
theorem dX1_put_3 : decode cX1_put 3 = .ok (.getfield 9, 3) := by decide +kernel
theorem dX1_put_6 : decode cX1_put 6 = .ok (.getfield 109, 3) := by decide +kernel
theorem dX1_put_9 : decode cX1_put 9 = .ok (.iload_n 1, 1) := by decide +kernel
theorem dX1_put_10 : decode cX1_put 10 = .ok (.aaload, 1) := by decide +kernel
theorem dX1_put_11 : decode cX1_put 11 = .ok (.getfield 113, 3) := by decide +kernel
theorem dX1_put_14 : decode cX1_put 14 = .ok (.istore 4, 2) := by decide +kernel
theorem dX1_put_16 : decode cX1_put 16 = .ok (.iconst 0, 1) := by decide +kernel
theorem dX1_put_17 : decode cX1_put 17 = .ok (.istore 5, 2) := by decide +kernel
theorem dX1_put_19 : decode cX1_put 19 = .ok (.iload 5, 2) := by decide +kernel
theorem dX1_put_21 : decode cX1_put 21 = .ok (.aload_n 0, 1) := by decide +kernel
theorem dX1_put_22 : decode cX1_put 22 = .ok (.getfield 9, 3) := by decide +kernel
theorem dX1_put_25 : decode cX1_put 25 = .ok (.getfield 118, 3) := by decide +kernel
theorem dX1_put_28 : decode cX1_put 28 = .ok (.if_icmp .ge 69, 3) := by decide +kernel
theorem dX1_put_31 : decode cX1_put 31 = .ok (.aload_n 0, 1) := by decide +kernel
theorem dX1_put_32 : decode cX1_put 32 = .ok (.getfield 9, 3) := by decide +kernel
theorem dX1_put_35 : decode cX1_put 35 = .ok (.aload_n 0, 1) := by decide +kernel
theorem dX1_put_36 : decode cX1_put 36 = .ok (.getfield 9, 3) := by decide +kernel
theorem dX1_put_39 : decode cX1_put 39 = .ok (.getfield 121, 3) := by decide +kernel
theorem dX1_put_42 : decode cX1_put 42 = .ok (.iload 5, 2) := by decide +kernel
theorem dX1_put_44 : decode cX1_put 44 = .ok (.iaload, 1) := by decide +kernel
theorem dX1_put_45 : decode cX1_put 45 = .ok (.iload_n 1, 1) := by decide +kernel
theorem dX1_put_46 : decode cX1_put 46 = .ok (.invokevirtual 141, 3) := by decide +kernel
theorem dX1_put_49 : decode cX1_put 49 = .ok (.istore 6, 2) := by decide +kernel
theorem dX1_put_51 : decode cX1_put 51 = .ok (.iload 6, 2) := by decide +kernel
theorem dX1_put_53 : decode cX1_put 53 = .ok (.ifCond .eq 38, 3) := by decide +kernel
theorem dX1_put_56 : decode cX1_put 56 = .ok (.iload_n 3, 1) := by decide +kernel
theorem dX1_put_57 : decode cX1_put 57 = .ok (.iload_n 2, 1) := by decide +kernel
theorem dX1_put_58 : decode cX1_put 58 = .ok (.if_icmp .ge 33, 3) := by decide +kernel
theorem dX1_put_61 : decode cX1_put 61 = .ok (.aload_n 0, 1) := by decide +kernel
theorem dX1_put_62 : decode cX1_put 62 = .ok (.iload 5, 2) := by decide +kernel
theorem dX1_put_64 : decode cX1_put 64 = .ok (.invokevirtual 124, 3) := by decide +kernel
theorem dX1_put_67 : decode cX1_put 67 = .ok (.iload 4, 2) := by decide +kernel
theorem dX1_put_69 : decode cX1_put 69 = .ok (.if_icmp .lt 22, 3) := by decide +kernel
theorem dX1_put_72 : decode cX1_put 72 = .ok (.aload_n 0, 1) := by decide +kernel
theorem dX1_put_73 : decode cX1_put 73 = .ok (.getfield 27, 3) := by decide +kernel
theorem dX1_put_76 : decode cX1_put 76 = .ok (.iload 5, 2) := by decide +kernel
theorem dX1_put_78 : decode cX1_put 78 = .ok (.aaload, 1) := by decide +kernel
theorem dX1_put_79 : decode cX1_put 79 = .ok (.iload_n 1, 1) := by decide +kernel
theorem dX1_put_80 : decode cX1_put 80 = .ok (.dup2, 1) := by decide +kernel
theorem dX1_put_81 : decode cX1_put 81 = .ok (.iaload, 1) := by decide +kernel
theorem dX1_put_82 : decode cX1_put 82 = .ok (.iconst 1, 1) := by decide +kernel
theorem dX1_put_83 : decode cX1_put 83 = .ok (.iadd, 1) := by decide +kernel
theorem dX1_put_84 : decode cX1_put 84 = .ok (.iastore, 1) := by decide +kernel
theorem dX1_put_85 : decode cX1_put 85 = .ok (.iinc 3 1, 3) := by decide +kernel
theorem dX1_put_88 : decode cX1_put 88 = .ok (.goto (-37), 3) := by decide +kernel
theorem dX1_put_91 : decode cX1_put 91 = .ok (.iinc 5 1, 3) := by decide +kernel
theorem dX1_put_94 : decode cX1_put 94 = .ok (.goto (-75), 3) := by decide +kernel
theorem dX1_put_97 : decode cX1_put 97 = .ok (.iload_n 3, 1) := by decide +kernel
theorem dX1_put_98 : decode cX1_put 98 = .ok (.ireturn, 1) := by decide +kernel
theorem dX1_takeOut_0 : decode cX1_takeOut 0 = .ok (.iload_n 2, 1) := by decide +kernel
theorem dX1_takeOut_1 : decode cX1_takeOut 1 = .ok (.istore_n 3, 1) := by decide +kernel
theorem dX1_takeOut_2 : decode cX1_takeOut 2 = .ok (.aload_n 0, 1) := by decide +kernel
theorem dX1_takeOut_3 : decode cX1_takeOut 3 = .ok (.getfield 9, 3) := by decide +kernel
theorem dX1_takeOut_6 : decode cX1_takeOut 6 = .ok (.getfield 118, 3) := by decide +kernel
theorem dX1_takeOut_9 : decode cX1_takeOut 9 = .ok (.iconst 1, 1) := by decide +kernel
theorem dX1_takeOut_10 : decode cX1_takeOut 10 = .ok (.isub, 1) := by decide +kernel
theorem dX1_takeOut_11 : decode cX1_takeOut 11 = .ok (.istore 4, 2) := by decide +kernel
theorem dX1_takeOut_13 : decode cX1_takeOut 13 = .ok (.iload 4, 2) := by decide +kernel
theorem dX1_takeOut_15 : decode cX1_takeOut 15 = .ok (.ifCond .lt 43, 3) := by decide +kernel
theorem dX1_takeOut_18 : decode cX1_takeOut 18 = .ok (.iload_n 3, 1) := by decide +kernel
theorem dX1_takeOut_19 : decode cX1_takeOut 19 = .ok (.aload_n 0, 1) := by decide +kernel
theorem dX1_takeOut_20 : decode cX1_takeOut 20 = .ok (.getfield 27, 3) := by decide +kernel
theorem dX1_takeOut_23 : decode cX1_takeOut 23 = .ok (.iload 4, 2) := by decide +kernel
theorem dX1_takeOut_25 : decode cX1_takeOut 25 = .ok (.aaload, 1) := by decide +kernel
theorem dX1_takeOut_26 : decode cX1_takeOut 26 = .ok (.iload_n 1, 1) := by decide +kernel
theorem dX1_takeOut_27 : decode cX1_takeOut 27 = .ok (.iaload, 1) := by decide +kernel
theorem dX1_takeOut_28 : decode cX1_takeOut 28 = .ok (.invokestatic 145, 3) := by decide +kernel
theorem dX1_takeOut_31 : decode cX1_takeOut 31 = .ok (.istore 5, 2) := by decide +kernel
theorem dX1_takeOut_33 : decode cX1_takeOut 33 = .ok (.aload_n 0, 1) := by decide +kernel
theorem dX1_takeOut_34 : decode cX1_takeOut 34 = .ok (.getfield 27, 3) := by decide +kernel
theorem dX1_takeOut_37 : decode cX1_takeOut 37 = .ok (.iload 4, 2) := by decide +kernel
theorem dX1_takeOut_39 : decode cX1_takeOut 39 = .ok (.aaload, 1) := by decide +kernel
theorem dX1_takeOut_40 : decode cX1_takeOut 40 = .ok (.iload_n 1, 1) := by decide +kernel
theorem dX1_takeOut_41 : decode cX1_takeOut 41 = .ok (.dup2, 1) := by decide +kernel
theorem dX1_takeOut_42 : decode cX1_takeOut 42 = .ok (.iaload, 1) := by decide +kernel
theorem dX1_takeOut_43 : decode cX1_takeOut 43 = .ok (.iload 5, 2) := by decide +kernel
theorem dX1_takeOut_45 : decode cX1_takeOut 45 = .ok (.isub, 1) := by decide +kernel
theorem dX1_takeOut_46 : decode cX1_takeOut 46 = .ok (.iastore, 1) := by decide +kernel
theorem dX1_takeOut_47 : decode cX1_takeOut 47 = .ok (.iload_n 3, 1) := by decide +kernel
theorem dX1_takeOut_48 : decode cX1_takeOut 48 = .ok (.iload 5, 2) := by decide +kernel
theorem dX1_takeOut_50 : decode cX1_takeOut 50 = .ok (.isub, 1) := by decide +kernel
theorem dX1_takeOut_51 : decode cX1_takeOut 51 = .ok (.istore_n 3, 1) := by decide +kernel
theorem dX1_takeOut_52 : decode cX1_takeOut 52 = .ok (.iinc 4 (-1), 3) := by decide +kernel
theorem dX1_takeOut_55 : decode cX1_takeOut 55 = .ok (.goto (-42), 3) := by decide +kernel
theorem dX1_takeOut_58 : decode cX1_takeOut 58 = .ok (.return_, 1) := by decide +kernel
theorem dX1_askFor_0 : decode cX1_askFor 0 = .ok (.aload_n 0, 1) := by decide +kernel
theorem dX1_askFor_1 : decode cX1_askFor 1 = .ok (.getfield 51, 3) := by decide +kernel
theorem dX1_askFor_4 : decode cX1_askFor 4 = .ok (.bipush 6, 2) := by decide +kernel
theorem dX1_askFor_6 : decode cX1_askFor 6 = .ok (.if_icmp .ge 54, 3) := by decide +kernel
theorem dX1_askFor_9 : decode cX1_askFor 9 = .ok (.aload_n 0, 1) := by decide +kernel
theorem dX1_askFor_10 : decode cX1_askFor 10 = .ok (.getfield 30, 3) := by decide +kernel
theorem dX1_askFor_13 : decode cX1_askFor 13 = .ok (.aload_n 0, 1) := by decide +kernel
theorem dX1_askFor_14 : decode cX1_askFor 14 = .ok (.getfield 51, 3) := by decide +kernel
theorem dX1_askFor_17 : decode cX1_askFor 17 = .ok (.iload_n 1, 1) := by decide +kernel
theorem dX1_askFor_18 : decode cX1_askFor 18 = .ok (.iastore, 1) := by decide +kernel
theorem dX1_askFor_19 : decode cX1_askFor 19 = .ok (.aload_n 0, 1) := by decide +kernel
theorem dX1_askFor_20 : decode cX1_askFor 20 = .ok (.getfield 33, 3) := by decide +kernel
theorem dX1_askFor_23 : decode cX1_askFor 23 = .ok (.aload_n 0, 1) := by decide +kernel
theorem dX1_askFor_24 : decode cX1_askFor 24 = .ok (.getfield 51, 3) := by decide +kernel
theorem dX1_askFor_27 : decode cX1_askFor 27 = .ok (.iload_n 2, 1) := by decide +kernel
theorem dX1_askFor_28 : decode cX1_askFor 28 = .ok (.iastore, 1) := by decide +kernel
theorem dX1_askFor_29 : decode cX1_askFor 29 = .ok (.aload_n 0, 1) := by decide +kernel
theorem dX1_askFor_30 : decode cX1_askFor 30 = .ok (.getfield 36, 3) := by decide +kernel
theorem dX1_askFor_33 : decode cX1_askFor 33 = .ok (.aload_n 0, 1) := by decide +kernel
theorem dX1_askFor_34 : decode cX1_askFor 34 = .ok (.getfield 51, 3) := by decide +kernel
theorem dX1_askFor_37 : decode cX1_askFor 37 = .ok (.aload_n 0, 1) := by decide +kernel
theorem dX1_askFor_38 : decode cX1_askFor 38 = .ok (.getfield 60, 3) := by decide +kernel
theorem dX1_askFor_41 : decode cX1_askFor 41 = .ok (.aload_n 0, 1) := by decide +kernel
theorem dX1_askFor_42 : decode cX1_askFor 42 = .ok (.getfield 9, 3) := by decide +kernel
theorem dX1_askFor_45 : decode cX1_askFor 45 = .ok (.getfield 148, 3) := by decide +kernel
theorem dX1_askFor_48 : decode cX1_askFor 48 = .ok (.isub, 1) := by decide +kernel
theorem dX1_askFor_49 : decode cX1_askFor 49 = .ok (.iastore, 1) := by decide +kernel
theorem dX1_askFor_50 : decode cX1_askFor 50 = .ok (.aload_n 0, 1) := by decide +kernel
theorem dX1_askFor_51 : decode cX1_askFor 51 = .ok (.dup, 1) := by decide +kernel
theorem dX1_askFor_52 : decode cX1_askFor 52 = .ok (.getfield 51, 3) := by decide +kernel
theorem dX1_askFor_55 : decode cX1_askFor 55 = .ok (.iconst 1, 1) := by decide +kernel
theorem dX1_askFor_56 : decode cX1_askFor 56 = .ok (.iadd, 1) := by decide +kernel
theorem dX1_askFor_57 : decode cX1_askFor 57 = .ok (.putfield 51, 3) := by decide +kernel
theorem dX1_askFor_60 : decode cX1_askFor 60 = .ok (.return_, 1) := by decide +kernel
theorem dX1_letArrive_0 : decode cX1_letArrive 0 = .ok (.iconst 0, 1) := by decide +kernel
theorem dX1_letArrive_1 : decode cX1_letArrive 1 = .ok (.istore_n 1, 1) := by decide +kernel
theorem dX1_letArrive_2 : decode cX1_letArrive 2 = .ok (.iconst 0, 1) := by decide +kernel
theorem dX1_letArrive_3 : decode cX1_letArrive 3 = .ok (.istore_n 2, 1) := by decide +kernel
theorem dX1_letArrive_4 : decode cX1_letArrive 4 = .ok (.iload_n 1, 1) := by decide +kernel
theorem dX1_letArrive_5 : decode cX1_letArrive 5 = .ok (.aload_n 0, 1) := by decide +kernel
theorem dX1_letArrive_6 : decode cX1_letArrive 6 = .ok (.getfield 51, 3) := by decide +kernel
theorem dX1_letArrive_9 : decode cX1_letArrive 9 = .ok (.if_icmp .ge 48, 3) := by decide +kernel
theorem dX1_letArrive_12 : decode cX1_letArrive 12 = .ok (.aload_n 0, 1) := by decide +kernel
theorem dX1_letArrive_13 : decode cX1_letArrive 13 = .ok (.getfield 36, 3) := by decide +kernel
theorem dX1_letArrive_16 : decode cX1_letArrive 16 = .ok (.iload_n 1, 1) := by decide +kernel
theorem dX1_letArrive_17 : decode cX1_letArrive 17 = .ok (.iaload, 1) := by decide +kernel
theorem dX1_letArrive_18 : decode cX1_letArrive 18 = .ok (.aload_n 0, 1) := by decide +kernel
theorem dX1_letArrive_19 : decode cX1_letArrive 19 = .ok (.getfield 60, 3) := by decide +kernel
theorem dX1_letArrive_22 : decode cX1_letArrive 22 = .ok (.if_icmp .lt 35, 3) := by decide +kernel
theorem dX1_letArrive_25 : decode cX1_letArrive 25 = .ok (.iload_n 2, 1) := by decide +kernel
theorem dX1_letArrive_26 : decode cX1_letArrive 26 = .ok (.aload_n 0, 1) := by decide +kernel
theorem dX1_letArrive_27 : decode cX1_letArrive 27 = .ok (.getfield 33, 3) := by decide +kernel
theorem dX1_letArrive_30 : decode cX1_letArrive 30 = .ok (.iload_n 1, 1) := by decide +kernel
theorem dX1_letArrive_31 : decode cX1_letArrive 31 = .ok (.iaload, 1) := by decide +kernel
theorem dX1_letArrive_32 : decode cX1_letArrive 32 = .ok (.aload_n 0, 1) := by decide +kernel
theorem dX1_letArrive_33 : decode cX1_letArrive 33 = .ok (.aload_n 0, 1) := by decide +kernel
theorem dX1_letArrive_34 : decode cX1_letArrive 34 = .ok (.getfield 30, 3) := by decide +kernel
theorem dX1_letArrive_37 : decode cX1_letArrive 37 = .ok (.iload_n 1, 1) := by decide +kernel
theorem dX1_letArrive_38 : decode cX1_letArrive 38 = .ok (.iaload, 1) := by decide +kernel
theorem dX1_letArrive_39 : decode cX1_letArrive 39 = .ok (.aload_n 0, 1) := by decide +kernel
theorem dX1_letArrive_40 : decode cX1_letArrive 40 = .ok (.getfield 33, 3) := by decide +kernel
theorem dX1_letArrive_43 : decode cX1_letArrive 43 = .ok (.iload_n 1, 1) := by decide +kernel
theorem dX1_letArrive_44 : decode cX1_letArrive 44 = .ok (.iaload, 1) := by decide +kernel
theorem dX1_letArrive_45 : decode cX1_letArrive 45 = .ok (.invokevirtual 151, 3) := by decide +kernel
theorem dX1_letArrive_48 : decode cX1_letArrive 48 = .ok (.isub, 1) := by decide +kernel
theorem dX1_letArrive_49 : decode cX1_letArrive 49 = .ok (.iadd, 1) := by decide +kernel
theorem dX1_letArrive_50 : decode cX1_letArrive 50 = .ok (.istore_n 2, 1) := by decide +kernel
theorem dX1_letArrive_51 : decode cX1_letArrive 51 = .ok (.iinc 1 1, 3) := by decide +kernel
theorem dX1_letArrive_54 : decode cX1_letArrive 54 = .ok (.goto (-50), 3) := by decide +kernel
theorem dX1_letArrive_57 : decode cX1_letArrive 57 = .ok (.iload_n 1, 1) := by decide +kernel
theorem dX1_letArrive_58 : decode cX1_letArrive 58 = .ok (.istore_n 3, 1) := by decide +kernel
theorem dX1_letArrive_59 : decode cX1_letArrive 59 = .ok (.iload_n 3, 1) := by decide +kernel
theorem dX1_letArrive_60 : decode cX1_letArrive 60 = .ok (.aload_n 0, 1) := by decide +kernel
theorem dX1_letArrive_61 : decode cX1_letArrive 61 = .ok (.getfield 51, 3) := by decide +kernel
theorem dX1_letArrive_64 : decode cX1_letArrive 64 = .ok (.if_icmp .ge 51, 3) := by decide +kernel
theorem dX1_letArrive_67 : decode cX1_letArrive 67 = .ok (.aload_n 0, 1) := by decide +kernel
theorem dX1_letArrive_68 : decode cX1_letArrive 68 = .ok (.getfield 30, 3) := by decide +kernel
theorem dX1_letArrive_71 : decode cX1_letArrive 71 = .ok (.iload_n 3, 1) := by decide +kernel
theorem dX1_letArrive_72 : decode cX1_letArrive 72 = .ok (.iload_n 1, 1) := by decide +kernel
theorem dX1_letArrive_73 : decode cX1_letArrive 73 = .ok (.isub, 1) := by decide +kernel
theorem dX1_letArrive_74 : decode cX1_letArrive 74 = .ok (.aload_n 0, 1) := by decide +kernel
theorem dX1_letArrive_75 : decode cX1_letArrive 75 = .ok (.getfield 30, 3) := by decide +kernel
theorem dX1_letArrive_78 : decode cX1_letArrive 78 = .ok (.iload_n 3, 1) := by decide +kernel
theorem dX1_letArrive_79 : decode cX1_letArrive 79 = .ok (.iaload, 1) := by decide +kernel
theorem dX1_letArrive_80 : decode cX1_letArrive 80 = .ok (.iastore, 1) := by decide +kernel
theorem dX1_letArrive_81 : decode cX1_letArrive 81 = .ok (.aload_n 0, 1) := by decide +kernel
theorem dX1_letArrive_82 : decode cX1_letArrive 82 = .ok (.getfield 33, 3) := by decide +kernel
theorem dX1_letArrive_85 : decode cX1_letArrive 85 = .ok (.iload_n 3, 1) := by decide +kernel
theorem dX1_letArrive_86 : decode cX1_letArrive 86 = .ok (.iload_n 1, 1) := by decide +kernel
theorem dX1_letArrive_87 : decode cX1_letArrive 87 = .ok (.isub, 1) := by decide +kernel
theorem dX1_letArrive_88 : decode cX1_letArrive 88 = .ok (.aload_n 0, 1) := by decide +kernel
theorem dX1_letArrive_89 : decode cX1_letArrive 89 = .ok (.getfield 33, 3) := by decide +kernel
theorem dX1_letArrive_92 : decode cX1_letArrive 92 = .ok (.iload_n 3, 1) := by decide +kernel
theorem dX1_letArrive_93 : decode cX1_letArrive 93 = .ok (.iaload, 1) := by decide +kernel
theorem dX1_letArrive_94 : decode cX1_letArrive 94 = .ok (.iastore, 1) := by decide +kernel
theorem dX1_letArrive_95 : decode cX1_letArrive 95 = .ok (.aload_n 0, 1) := by decide +kernel
theorem dX1_letArrive_96 : decode cX1_letArrive 96 = .ok (.getfield 36, 3) := by decide +kernel
theorem dX1_letArrive_99 : decode cX1_letArrive 99 = .ok (.iload_n 3, 1) := by decide +kernel
theorem dX1_letArrive_100 : decode cX1_letArrive 100 = .ok (.iload_n 1, 1) := by decide +kernel
theorem dX1_letArrive_101 : decode cX1_letArrive 101 = .ok (.isub, 1) := by decide +kernel
theorem dX1_letArrive_102 : decode cX1_letArrive 102 = .ok (.aload_n 0, 1) := by decide +kernel
theorem dX1_letArrive_103 : decode cX1_letArrive 103 = .ok (.getfield 36, 3) := by decide +kernel
theorem dX1_letArrive_106 : decode cX1_letArrive 106 = .ok (.iload_n 3, 1) := by decide +kernel
theorem dX1_letArrive_107 : decode cX1_letArrive 107 = .ok (.iaload, 1) := by decide +kernel
theorem dX1_letArrive_108 : decode cX1_letArrive 108 = .ok (.iastore, 1) := by decide +kernel
theorem dX1_letArrive_109 : decode cX1_letArrive 109 = .ok (.iinc 3 1, 3) := by decide +kernel
theorem dX1_letArrive_112 : decode cX1_letArrive 112 = .ok (.goto (-53), 3) := by decide +kernel
theorem dX1_letArrive_115 : decode cX1_letArrive 115 = .ok (.aload_n 0, 1) := by decide +kernel
theorem dX1_letArrive_116 : decode cX1_letArrive 116 = .ok (.dup, 1) := by decide +kernel
theorem dX1_letArrive_117 : decode cX1_letArrive 117 = .ok (.getfield 51, 3) := by decide +kernel
theorem dX1_letArrive_120 : decode cX1_letArrive 120 = .ok (.iload_n 1, 1) := by decide +kernel
theorem dX1_letArrive_121 : decode cX1_letArrive 121 = .ok (.isub, 1) := by decide +kernel
theorem dX1_letArrive_122 : decode cX1_letArrive 122 = .ok (.putfield 51, 3) := by decide +kernel
theorem dX1_letArrive_125 : decode cX1_letArrive 125 = .ok (.iload_n 2, 1) := by decide +kernel
theorem dX1_letArrive_126 : decode cX1_letArrive 126 = .ok (.ireturn, 1) := by decide +kernel
theorem dX2_init_0 : decode cX2_init 0 = .ok (.aload_n 0, 1) := by decide +kernel
theorem dX2_init_1 : decode cX2_init 1 = .ok (.invokespecial 3, 3) := by decide +kernel
theorem dX2_init_4 : decode cX2_init 4 = .ok (.aload_n 0, 1) := by decide +kernel
theorem dX2_init_5 : decode cX2_init 5 = .ok (.new 9, 3) := by decide +kernel
theorem dX2_init_8 : decode cX2_init 8 = .ok (.dup, 1) := by decide +kernel
theorem dX2_init_9 : decode cX2_init 9 = .ok (.invokespecial 11, 3) := by decide +kernel
theorem dX2_init_12 : decode cX2_init 12 = .ok (.putfield 12, 3) := by decide +kernel
theorem dX2_init_15 : decode cX2_init 15 = .ok (.return_, 1) := by decide +kernel
theorem dX2_read_0 : decode cX2_read 0 = .ok (.aload_n 0, 1) := by decide +kernel
theorem dX2_read_1 : decode cX2_read 1 = .ok (.aload_n 3, 1) := by decide +kernel
theorem dX2_read_2 : decode cX2_read 2 = .ok (.putfield 18, 3) := by decide +kernel
theorem dX2_read_5 : decode cX2_read 5 = .ok (.aload_n 0, 1) := by decide +kernel
theorem dX2_read_6 : decode cX2_read 6 = .ok (.aload 4, 2) := by decide +kernel
theorem dX2_read_8 : decode cX2_read 8 = .ok (.putfield 22, 3) := by decide +kernel
theorem dX2_read_11 : decode cX2_read 11 = .ok (.aload_n 0, 1) := by decide +kernel
theorem dX2_read_12 : decode cX2_read 12 = .ok (.getfield 22, 3) := by decide +kernel
theorem dX2_read_15 : decode cX2_read 15 = .ok (.invokevirtual 26, 3) := by decide +kernel
theorem dX2_read_18 : decode cX2_read 18 = .ok (.aload_n 0, 1) := by decide +kernel
theorem dX2_read_19 : decode cX2_read 19 = .ok (.getfield 18, 3) := by decide +kernel
theorem dX2_read_22 : decode cX2_read 22 = .ok (.aload_n 0, 1) := by decide +kernel
theorem dX2_read_23 : decode cX2_read 23 = .ok (.getfield 22, 3) := by decide +kernel
theorem dX2_read_26 : decode cX2_read 26 = .ok (.invokevirtual 31, 3) := by decide +kernel
theorem dX2_read_29 : decode cX2_read 29 = .ok (.aload_n 0, 1) := by decide +kernel
theorem dX2_read_30 : decode cX2_read 30 = .ok (.iconst 0, 1) := by decide +kernel
theorem dX2_read_31 : decode cX2_read 31 = .ok (.putfield 36, 3) := by decide +kernel
theorem dX2_read_34 : decode cX2_read 34 = .ok (.aload_n 0, 1) := by decide +kernel
theorem dX2_read_35 : decode cX2_read 35 = .ok (.iconst (-1), 1) := by decide +kernel
theorem dX2_read_36 : decode cX2_read 36 = .ok (.putfield 40, 3) := by decide +kernel
theorem dX2_read_39 : decode cX2_read 39 = .ok (.aload_n 0, 1) := by decide +kernel
theorem dX2_read_40 : decode cX2_read 40 = .ok (.getfield 12, 3) := by decide +kernel
theorem dX2_read_43 : decode cX2_read 43 = .ok (.aload_n 1, 1) := by decide +kernel
theorem dX2_read_44 : decode cX2_read 44 = .ok (.iload_n 2, 1) := by decide +kernel
theorem dX2_read_45 : decode cX2_read 45 = .ok (.invokevirtual 43, 3) := by decide +kernel
theorem dX2_read_48 : decode cX2_read 48 = .ok (.aload_n 0, 1) := by decide +kernel
theorem dX2_read_49 : decode cX2_read 49 = .ok (.getfield 12, 3) := by decide +kernel
theorem dX2_read_52 : decode cX2_read 52 = .ok (.invokevirtual 47, 3) := by decide +kernel
theorem dX2_read_55 : decode cX2_read 55 = .ok (.iconst 1, 1) := by decide +kernel
theorem dX2_read_56 : decode cX2_read 56 = .ok (.istore 5, 2) := by decide +kernel
theorem dX2_read_58 : decode cX2_read 58 = .ok (.iconst 0, 1) := by decide +kernel
theorem dX2_read_59 : decode cX2_read 59 = .ok (.istore 6, 2) := by decide +kernel
theorem dX2_read_61 : decode cX2_read 61 = .ok (.iload 6, 2) := by decide +kernel
theorem dX2_read_63 : decode cX2_read 63 = .ok (.iload_n 2, 1) := by decide +kernel
theorem dX2_read_64 : decode cX2_read 64 = .ok (.if_icmp .gt 42, 3) := by decide +kernel
theorem dX2_read_67 : decode cX2_read 67 = .ok (.iload 5, 2) := by decide +kernel
theorem dX2_read_69 : decode cX2_read 69 = .ok (.ifCond .eq 37, 3) := by decide +kernel
theorem dX2_read_72 : decode cX2_read 72 = .ok (.aload_n 0, 1) := by decide +kernel
theorem dX2_read_73 : decode cX2_read 73 = .ok (.getfield 12, 3) := by decide +kernel
theorem dX2_read_76 : decode cX2_read 76 = .ok (.getfield 50, 3) := by decide +kernel
theorem dX2_read_79 : decode cX2_read 79 = .ok (.ifCond .eq 27, 3) := by decide +kernel
theorem dX2_read_82 : decode cX2_read 82 = .ok (.aload_n 0, 1) := by decide +kernel
theorem dX2_read_83 : decode cX2_read 83 = .ok (.invokevirtual 53, 3) := by decide +kernel
theorem dX2_read_86 : decode cX2_read 86 = .ok (.istore 5, 2) := by decide +kernel
theorem dX2_read_88 : decode cX2_read 88 = .ok (.iload 5, 2) := by decide +kernel
theorem dX2_read_90 : decode cX2_read 90 = .ok (.ifCond .eq 10, 3) := by decide +kernel
theorem dX2_read_93 : decode cX2_read 93 = .ok (.aload_n 0, 1) := by decide +kernel
theorem dX2_read_94 : decode cX2_read 94 = .ok (.getfield 12, 3) := by decide +kernel
theorem dX2_read_97 : decode cX2_read 97 = .ok (.invokevirtual 47, 3) := by decide +kernel
theorem dX2_read_100 : decode cX2_read 100 = .ok (.iinc 6 1, 3) := by decide +kernel
theorem dX2_read_103 : decode cX2_read 103 = .ok (.goto (-42), 3) := by decide +kernel
theorem dX2_read_106 : decode cX2_read 106 = .ok (.aload_n 0, 1) := by decide +kernel
theorem dX2_read_107 : decode cX2_read 107 = .ok (.getfield 18, 3) := by decide +kernel
theorem dX2_read_110 : decode cX2_read 110 = .ok (.aload_n 0, 1) := by decide +kernel
theorem dX2_read_111 : decode cX2_read 111 = .ok (.getfield 22, 3) := by decide +kernel
theorem dX2_read_114 : decode cX2_read 114 = .ok (.getfield 57, 3) := by decide +kernel
theorem dX2_read_117 : decode cX2_read 117 = .ok (.putfield 60, 3) := by decide +kernel
theorem dX2_read_120 : decode cX2_read 120 = .ok (.iload 5, 2) := by decide +kernel
theorem dX2_read_122 : decode cX2_read 122 = .ok (.ireturn, 1) := by decide +kernel
theorem dX2_readStatement_0 : decode cX2_readStatement 0 = .ok (.aload_n 0, 1) := by decide +kernel
theorem dX2_readStatement_1 : decode cX2_readStatement 1 = .ok (.getfield 12, 3) := by decide +kernel
theorem dX2_readStatement_4 : decode cX2_readStatement 4 = .ok (.ldc 63, 2) := by decide +kernel
theorem dX2_readStatement_6 : decode cX2_readStatement 6 = .ok (.invokevirtual 65, 3) := by decide +kernel
theorem dX2_readStatement_9 : decode cX2_readStatement 9 = .ok (.ifCond .eq 8, 3) := by decide +kernel
theorem dX2_readStatement_12 : decode cX2_readStatement 12 = .ok (.aload_n 0, 1) := by decide +kernel
theorem dX2_readStatement_13 : decode cX2_readStatement 13 = .ok (.invokevirtual 69, 3) := by decide +kernel
theorem dX2_readStatement_16 : decode cX2_readStatement 16 = .ok (.ireturn, 1) := by decide +kernel
theorem dX2_readStatement_17 : decode cX2_readStatement 17 = .ok (.aload_n 0, 1) := by decide +kernel
theorem dX2_readStatement_18 : decode cX2_readStatement 18 = .ok (.getfield 12, 3) := by decide +kernel
theorem dX2_readStatement_21 : decode cX2_readStatement 21 = .ok (.ldc 72, 2) := by decide +kernel
theorem dX2_readStatement_23 : decode cX2_readStatement 23 = .ok (.invokevirtual 65, 3) := by decide +kernel
theorem dX2_readStatement_26 : decode cX2_readStatement 26 = .ok (.ifCond .eq 8, 3) := by decide +kernel
theorem dX2_readStatement_29 : decode cX2_readStatement 29 = .ok (.aload_n 0, 1) := by decide +kernel
theorem dX2_readStatement_30 : decode cX2_readStatement 30 = .ok (.invokevirtual 74, 3) := by decide +kernel
theorem dX2_readStatement_33 : decode cX2_readStatement 33 = .ok (.ireturn, 1) := by decide +kernel
theorem dX2_readStatement_34 : decode cX2_readStatement 34 = .ok (.aload_n 0, 1) := by decide +kernel
theorem dX2_readStatement_35 : decode cX2_readStatement 35 = .ok (.getfield 12, 3) := by decide +kernel
theorem dX2_readStatement_38 : decode cX2_readStatement 38 = .ok (.ldc 77, 2) := by decide +kernel
theorem dX2_readStatement_40 : decode cX2_readStatement 40 = .ok (.invokevirtual 65, 3) := by decide +kernel
theorem dX2_readStatement_43 : decode cX2_readStatement 43 = .ok (.ifCond .eq 8, 3) := by decide +kernel
theorem dX2_readStatement_46 : decode cX2_readStatement 46 = .ok (.aload_n 0, 1) := by decide +kernel
theorem dX2_readStatement_47 : decode cX2_readStatement 47 = .ok (.invokevirtual 79, 3) := by decide +kernel
theorem dX2_readStatement_50 : decode cX2_readStatement 50 = .ok (.ireturn, 1) := by decide +kernel
theorem dX2_readStatement_51 : decode cX2_readStatement 51 = .ok (.aload_n 0, 1) := by decide +kernel
theorem dX2_readStatement_52 : decode cX2_readStatement 52 = .ok (.getfield 12, 3) := by decide +kernel
theorem dX2_readStatement_55 : decode cX2_readStatement 55 = .ok (.ldc 82, 2) := by decide +kernel
theorem dX2_readStatement_57 : decode cX2_readStatement 57 = .ok (.invokevirtual 65, 3) := by decide +kernel
theorem dX2_readStatement_60 : decode cX2_readStatement 60 = .ok (.ifCond .eq 8, 3) := by decide +kernel
theorem dX2_readStatement_63 : decode cX2_readStatement 63 = .ok (.aload_n 0, 1) := by decide +kernel
theorem dX2_readStatement_64 : decode cX2_readStatement 64 = .ok (.invokevirtual 84, 3) := by decide +kernel
theorem dX2_readStatement_67 : decode cX2_readStatement 67 = .ok (.ireturn, 1) := by decide +kernel
theorem dX2_readStatement_68 : decode cX2_readStatement 68 = .ok (.aload_n 0, 1) := by decide +kernel
theorem dX2_readStatement_69 : decode cX2_readStatement 69 = .ok (.getfield 12, 3) := by decide +kernel
theorem dX2_readStatement_72 : decode cX2_readStatement 72 = .ok (.ldc 87, 2) := by decide +kernel
theorem dX2_readStatement_74 : decode cX2_readStatement 74 = .ok (.invokevirtual 65, 3) := by decide +kernel
theorem dX2_readStatement_77 : decode cX2_readStatement 77 = .ok (.ifCond .eq 8, 3) := by decide +kernel
theorem dX2_readStatement_80 : decode cX2_readStatement 80 = .ok (.aload_n 0, 1) := by decide +kernel
theorem dX2_readStatement_81 : decode cX2_readStatement 81 = .ok (.invokevirtual 89, 3) := by decide +kernel
theorem dX2_readStatement_84 : decode cX2_readStatement 84 = .ok (.ireturn, 1) := by decide +kernel
theorem dX2_readStatement_85 : decode cX2_readStatement 85 = .ok (.aload_n 0, 1) := by decide +kernel
theorem dX2_readStatement_86 : decode cX2_readStatement 86 = .ok (.getfield 12, 3) := by decide +kernel
theorem dX2_readStatement_89 : decode cX2_readStatement 89 = .ok (.ldc 92, 2) := by decide +kernel
theorem dX2_readStatement_91 : decode cX2_readStatement 91 = .ok (.invokevirtual 65, 3) := by decide +kernel
theorem dX2_readStatement_94 : decode cX2_readStatement 94 = .ok (.ifCond .eq 8, 3) := by decide +kernel
theorem dX2_readStatement_97 : decode cX2_readStatement 97 = .ok (.aload_n 0, 1) := by decide +kernel
theorem dX2_readStatement_98 : decode cX2_readStatement 98 = .ok (.invokevirtual 94, 3) := by decide +kernel
theorem dX2_readStatement_101 : decode cX2_readStatement 101 = .ok (.ireturn, 1) := by decide +kernel
theorem dX2_readStatement_102 : decode cX2_readStatement 102 = .ok (.aload_n 0, 1) := by decide +kernel
theorem dX2_readStatement_103 : decode cX2_readStatement 103 = .ok (.getfield 12, 3) := by decide +kernel
theorem dX2_readStatement_106 : decode cX2_readStatement 106 = .ok (.ldc 97, 2) := by decide +kernel
theorem dX2_readStatement_108 : decode cX2_readStatement 108 = .ok (.invokevirtual 65, 3) := by decide +kernel
theorem dX2_readStatement_111 : decode cX2_readStatement 111 = .ok (.ifCond .eq 8, 3) := by decide +kernel
theorem dX2_readStatement_114 : decode cX2_readStatement 114 = .ok (.aload_n 0, 1) := by decide +kernel
theorem dX2_readStatement_115 : decode cX2_readStatement 115 = .ok (.invokevirtual 99, 3) := by decide +kernel
theorem dX2_readStatement_118 : decode cX2_readStatement 118 = .ok (.ireturn, 1) := by decide +kernel
theorem dX2_readStatement_119 : decode cX2_readStatement 119 = .ok (.aload_n 0, 1) := by decide +kernel
theorem dX2_readStatement_120 : decode cX2_readStatement 120 = .ok (.iconst 1, 1) := by decide +kernel
theorem dX2_readStatement_121 : decode cX2_readStatement 121 = .ok (.invokevirtual 102, 3) := by decide +kernel
theorem dX2_readStatement_124 : decode cX2_readStatement 124 = .ok (.ireturn, 1) := by decide +kernel
theorem dX2_readTime_0 : decode cX2_readTime 0 = .ok (.aload_n 0, 1) := by decide +kernel
theorem dX2_readTime_1 : decode cX2_readTime 1 = .ok (.iconst 1, 1) := by decide +kernel
theorem dX2_readTime_2 : decode cX2_readTime 2 = .ok (.sipush 999, 3) := by decide +kernel
theorem dX2_readTime_5 : decode cX2_readTime 5 = .ok (.invokevirtual 106, 3) := by decide +kernel
theorem dX2_readTime_8 : decode cX2_readTime 8 = .ok (.istore_n 1, 1) := by decide +kernel
theorem dX2_readTime_9 : decode cX2_readTime 9 = .ok (.iload_n 1, 1) := by decide +kernel
theorem dX2_readTime_10 : decode cX2_readTime 10 = .ok (.iconst (-1), 1) := by decide +kernel
theorem dX2_readTime_11 : decode cX2_readTime 11 = .ok (.if_icmp .ne 5, 3) := by decide +kernel
theorem dX2_readTime_14 : decode cX2_readTime 14 = .ok (.iconst 0, 1) := by decide +kernel
theorem dX2_readTime_15 : decode cX2_readTime 15 = .ok (.ireturn, 1) := by decide +kernel
theorem dX2_readTime_16 : decode cX2_readTime 16 = .ok (.aload_n 0, 1) := by decide +kernel
theorem dX2_readTime_17 : decode cX2_readTime 17 = .ok (.iconst 0, 1) := by decide +kernel
theorem dX2_readTime_18 : decode cX2_readTime 18 = .ok (.sipush 999, 3) := by decide +kernel
theorem dX2_readTime_21 : decode cX2_readTime 21 = .ok (.invokevirtual 106, 3) := by decide +kernel
theorem dX2_readTime_24 : decode cX2_readTime 24 = .ok (.istore_n 2, 1) := by decide +kernel
theorem dX2_readTime_25 : decode cX2_readTime 25 = .ok (.iload_n 2, 1) := by decide +kernel
theorem dX2_readTime_26 : decode cX2_readTime 26 = .ok (.iconst (-1), 1) := by decide +kernel
theorem dX2_readTime_27 : decode cX2_readTime 27 = .ok (.if_icmp .ne 5, 3) := by decide +kernel
theorem dX2_readTime_30 : decode cX2_readTime 30 = .ok (.iconst 0, 1) := by decide +kernel
theorem dX2_readTime_31 : decode cX2_readTime 31 = .ok (.ireturn, 1) := by decide +kernel
theorem dX2_readTime_32 : decode cX2_readTime 32 = .ok (.aload_n 0, 1) := by decide +kernel
theorem dX2_readTime_33 : decode cX2_readTime 33 = .ok (.getfield 22, 3) := by decide +kernel
theorem dX2_readTime_36 : decode cX2_readTime 36 = .ok (.iload_n 1, 1) := by decide +kernel
theorem dX2_readTime_37 : decode cX2_readTime 37 = .ok (.putfield 57, 3) := by decide +kernel
theorem dX2_readTime_40 : decode cX2_readTime 40 = .ok (.aload_n 0, 1) := by decide +kernel
theorem dX2_readTime_41 : decode cX2_readTime 41 = .ok (.getfield 22, 3) := by decide +kernel
theorem dX2_readTime_44 : decode cX2_readTime 44 = .ok (.iload_n 2, 1) := by decide +kernel
theorem dX2_readTime_45 : decode cX2_readTime 45 = .ok (.putfield 110, 3) := by decide +kernel
theorem dX2_readTime_48 : decode cX2_readTime 48 = .ok (.aload_n 0, 1) := by decide +kernel
theorem dX2_readTime_49 : decode cX2_readTime 49 = .ok (.getfield 12, 3) := by decide +kernel
theorem dX2_readTime_52 : decode cX2_readTime 52 = .ok (.invokevirtual 47, 3) := by decide +kernel
theorem dX2_readTime_55 : decode cX2_readTime 55 = .ok (.aload_n 0, 1) := by decide +kernel
theorem dX2_readTime_56 : decode cX2_readTime 56 = .ok (.invokevirtual 113, 3) := by decide +kernel
theorem dX2_readTime_59 : decode cX2_readTime 59 = .ok (.ireturn, 1) := by decide +kernel
theorem dX2_readLead_0 : decode cX2_readLead 0 = .ok (.aload_n 0, 1) := by decide +kernel
theorem dX2_readLead_1 : decode cX2_readLead 1 = .ok (.iconst 0, 1) := by decide +kernel
theorem dX2_readLead_2 : decode cX2_readLead 2 = .ok (.bipush 99, 2) := by decide +kernel
theorem dX2_readLead_4 : decode cX2_readLead 4 = .ok (.invokevirtual 106, 3) := by decide +kernel
theorem dX2_readLead_7 : decode cX2_readLead 7 = .ok (.istore_n 1, 1) := by decide +kernel
theorem dX2_readLead_8 : decode cX2_readLead 8 = .ok (.iload_n 1, 1) := by decide +kernel
theorem dX2_readLead_9 : decode cX2_readLead 9 = .ok (.iconst (-1), 1) := by decide +kernel
theorem dX2_readLead_10 : decode cX2_readLead 10 = .ok (.if_icmp .ne 5, 3) := by decide +kernel
theorem dX2_readLead_13 : decode cX2_readLead 13 = .ok (.iconst 0, 1) := by decide +kernel
theorem dX2_readLead_14 : decode cX2_readLead 14 = .ok (.ireturn, 1) := by decide +kernel
theorem dX2_readLead_15 : decode cX2_readLead 15 = .ok (.aload_n 0, 1) := by decide +kernel
theorem dX2_readLead_16 : decode cX2_readLead 16 = .ok (.getfield 22, 3) := by decide +kernel
theorem dX2_readLead_19 : decode cX2_readLead 19 = .ok (.iload_n 1, 1) := by decide +kernel
theorem dX2_readLead_20 : decode cX2_readLead 20 = .ok (.putfield 116, 3) := by decide +kernel
theorem dX2_readLead_23 : decode cX2_readLead 23 = .ok (.aload_n 0, 1) := by decide +kernel
theorem dX2_readLead_24 : decode cX2_readLead 24 = .ok (.getfield 12, 3) := by decide +kernel
theorem dX2_readLead_27 : decode cX2_readLead 27 = .ok (.invokevirtual 47, 3) := by decide +kernel
theorem dX2_readLead_30 : decode cX2_readLead 30 = .ok (.aload_n 0, 1) := by decide +kernel
theorem dX2_readLead_31 : decode cX2_readLead 31 = .ok (.invokevirtual 113, 3) := by decide +kernel
theorem dX2_readLead_34 : decode cX2_readLead 34 = .ok (.ireturn, 1) := by decide +kernel
theorem dX2_readCabin_0 : decode cX2_readCabin 0 = .ok (.aload_n 0, 1) := by decide +kernel
theorem dX2_readCabin_1 : decode cX2_readCabin 1 = .ok (.getfield 22, 3) := by decide +kernel
theorem dX2_readCabin_4 : decode cX2_readCabin 4 = .ok (.getfield 118, 3) := by decide +kernel
theorem dX2_readCabin_7 : decode cX2_readCabin 7 = .ok (.iconst 4, 1) := by decide +kernel
theorem dX2_readCabin_8 : decode cX2_readCabin 8 = .ok (.if_icmp .lt 9, 3) := by decide +kernel
theorem dX2_readCabin_11 : decode cX2_readCabin 11 = .ok (.aload_n 0, 1) := by decide +kernel
theorem dX2_readCabin_12 : decode cX2_readCabin 12 = .ok (.iconst 4, 1) := by decide +kernel
theorem dX2_readCabin_13 : decode cX2_readCabin 13 = .ok (.invokevirtual 102, 3) := by decide +kernel
theorem dX2_readCabin_16 : decode cX2_readCabin 16 = .ok (.ireturn, 1) := by decide +kernel
theorem dX2_readCabin_17 : decode cX2_readCabin 17 = .ok (.aload_n 0, 1) := by decide +kernel
theorem dX2_readCabin_18 : decode cX2_readCabin 18 = .ok (.getfield 12, 3) := by decide +kernel
theorem dX2_readCabin_21 : decode cX2_readCabin 21 = .ok (.invokevirtual 47, 3) := by decide +kernel
theorem dX2_readCabin_24 : decode cX2_readCabin 24 = .ok (.aload_n 0, 1) := by decide +kernel
theorem dX2_readCabin_25 : decode cX2_readCabin 25 = .ok (.invokevirtual 121, 3) := by decide +kernel
theorem dX2_readCabin_28 : decode cX2_readCabin 28 = .ok (.ifCond .ne 9, 3) := by decide +kernel
theorem dX2_readCabin_31 : decode cX2_readCabin 31 = .ok (.aload_n 0, 1) := by decide +kernel
theorem dX2_readCabin_32 : decode cX2_readCabin 32 = .ok (.iconst 1, 1) := by decide +kernel
theorem dX2_readCabin_33 : decode cX2_readCabin 33 = .ok (.invokevirtual 102, 3) := by decide +kernel
theorem dX2_readCabin_36 : decode cX2_readCabin 36 = .ok (.ireturn, 1) := by decide +kernel
theorem dX2_readCabin_37 : decode cX2_readCabin 37 = .ok (.aload_n 0, 1) := by decide +kernel
theorem dX2_readCabin_38 : decode cX2_readCabin 38 = .ok (.invokevirtual 124, 3) := by decide +kernel
theorem dX2_readCabin_41 : decode cX2_readCabin 41 = .ok (.iconst (-1), 1) := by decide +kernel
theorem dX2_readCabin_42 : decode cX2_readCabin 42 = .ok (.if_icmp .eq 9, 3) := by decide +kernel
theorem dX2_readCabin_45 : decode cX2_readCabin 45 = .ok (.aload_n 0, 1) := by decide +kernel
theorem dX2_readCabin_46 : decode cX2_readCabin 46 = .ok (.iconst 3, 1) := by decide +kernel
theorem dX2_readCabin_47 : decode cX2_readCabin 47 = .ok (.invokevirtual 102, 3) := by decide +kernel
theorem dX2_readCabin_50 : decode cX2_readCabin 50 = .ok (.ireturn, 1) := by decide +kernel
theorem dX2_readCabin_51 : decode cX2_readCabin 51 = .ok (.aload_n 0, 1) := by decide +kernel
theorem dX2_readCabin_52 : decode cX2_readCabin 52 = .ok (.getfield 22, 3) := by decide +kernel
theorem dX2_readCabin_55 : decode cX2_readCabin 55 = .ok (.getfield 128, 3) := by decide +kernel
theorem dX2_readCabin_58 : decode cX2_readCabin 58 = .ok (.aload_n 0, 1) := by decide +kernel
theorem dX2_readCabin_59 : decode cX2_readCabin 59 = .ok (.getfield 22, 3) := by decide +kernel
theorem dX2_readCabin_62 : decode cX2_readCabin 62 = .ok (.getfield 118, 3) := by decide +kernel
theorem dX2_readCabin_65 : decode cX2_readCabin 65 = .ok (.aaload, 1) := by decide +kernel
theorem dX2_readCabin_66 : decode cX2_readCabin 66 = .ok (.astore_n 1, 1) := by decide +kernel
theorem dX2_readCabin_67 : decode cX2_readCabin 67 = .ok (.aload_n 1, 1) := by decide +kernel
theorem dX2_readCabin_68 : decode cX2_readCabin 68 = .ok (.aload_n 0, 1) := by decide +kernel
theorem dX2_readCabin_69 : decode cX2_readCabin 69 = .ok (.getfield 12, 3) := by decide +kernel
theorem dX2_readCabin_72 : decode cX2_readCabin 72 = .ok (.invokevirtual 131, 3) := by decide +kernel
theorem dX2_readCabin_75 : decode cX2_readCabin 75 = .ok (.putfield 135, 3) := by decide +kernel
theorem dX2_readCabin_78 : decode cX2_readCabin 78 = .ok (.aload_n 1, 1) := by decide +kernel
theorem dX2_readCabin_79 : decode cX2_readCabin 79 = .ok (.aload_n 0, 1) := by decide +kernel
theorem dX2_readCabin_80 : decode cX2_readCabin 80 = .ok (.iconst 1, 1) := by decide +kernel
theorem dX2_readCabin_81 : decode cX2_readCabin 81 = .ok (.bipush 40, 2) := by decide +kernel
theorem dX2_readCabin_83 : decode cX2_readCabin 83 = .ok (.invokevirtual 106, 3) := by decide +kernel
theorem dX2_readCabin_86 : decode cX2_readCabin 86 = .ok (.putfield 141, 3) := by decide +kernel
theorem dX2_readCabin_89 : decode cX2_readCabin 89 = .ok (.aload_n 1, 1) := by decide +kernel
theorem dX2_readCabin_90 : decode cX2_readCabin 90 = .ok (.getfield 141, 3) := by decide +kernel
theorem dX2_readCabin_93 : decode cX2_readCabin 93 = .ok (.iconst (-1), 1) := by decide +kernel
theorem dX2_readCabin_94 : decode cX2_readCabin 94 = .ok (.if_icmp .ne 5, 3) := by decide +kernel
theorem dX2_readCabin_97 : decode cX2_readCabin 97 = .ok (.iconst 0, 1) := by decide +kernel
theorem dX2_readCabin_98 : decode cX2_readCabin 98 = .ok (.ireturn, 1) := by decide +kernel
theorem dX2_readCabin_99 : decode cX2_readCabin 99 = .ok (.aload_n 1, 1) := by decide +kernel
theorem dX2_readCabin_100 : decode cX2_readCabin 100 = .ok (.iconst 0, 1) := by decide +kernel
theorem dX2_readCabin_101 : decode cX2_readCabin 101 = .ok (.putfield 144, 3) := by decide +kernel
theorem dX2_readCabin_104 : decode cX2_readCabin 104 = .ok (.aload_n 0, 1) := by decide +kernel
theorem dX2_readCabin_105 : decode cX2_readCabin 105 = .ok (.getfield 12, 3) := by decide +kernel
theorem dX2_readCabin_108 : decode cX2_readCabin 108 = .ok (.invokevirtual 47, 3) := by decide +kernel
theorem dX2_readCabin_111 : decode cX2_readCabin 111 = .ok (.aload_n 0, 1) := by decide +kernel
theorem dX2_readCabin_112 : decode cX2_readCabin 112 = .ok (.getfield 12, 3) := by decide +kernel
theorem dX2_readCabin_115 : decode cX2_readCabin 115 = .ok (.getfield 50, 3) := by decide +kernel
theorem dX2_readCabin_118 : decode cX2_readCabin 118 = .ok (.iconst 2, 1) := by decide +kernel
theorem dX2_readCabin_119 : decode cX2_readCabin 119 = .ok (.if_icmp .ne 31, 3) := by decide +kernel
theorem dX2_readCabin_122 : decode cX2_readCabin 122 = .ok (.aload_n 1, 1) := by decide +kernel
theorem dX2_readCabin_123 : decode cX2_readCabin 123 = .ok (.aload_n 0, 1) := by decide +kernel
theorem dX2_readCabin_124 : decode cX2_readCabin 124 = .ok (.iconst 0, 1) := by decide +kernel
theorem dX2_readCabin_125 : decode cX2_readCabin 125 = .ok (.bipush 50, 2) := by decide +kernel
theorem dX2_readCabin_127 : decode cX2_readCabin 127 = .ok (.invokevirtual 147, 3) := by decide +kernel
theorem dX2_readCabin_130 : decode cX2_readCabin 130 = .ok (.putfield 144, 3) := by decide +kernel
theorem dX2_readCabin_133 : decode cX2_readCabin 133 = .ok (.aload_n 1, 1) := by decide +kernel
theorem dX2_readCabin_134 : decode cX2_readCabin 134 = .ok (.getfield 144, 3) := by decide +kernel
theorem dX2_readCabin_137 : decode cX2_readCabin 137 = .ok (.iconst (-1), 1) := by decide +kernel
theorem dX2_readCabin_138 : decode cX2_readCabin 138 = .ok (.if_icmp .ne 5, 3) := by decide +kernel
theorem dX2_readCabin_141 : decode cX2_readCabin 141 = .ok (.iconst 0, 1) := by decide +kernel
theorem dX2_readCabin_142 : decode cX2_readCabin 142 = .ok (.ireturn, 1) := by decide +kernel
theorem dX2_readCabin_143 : decode cX2_readCabin 143 = .ok (.aload_n 0, 1) := by decide +kernel
theorem dX2_readCabin_144 : decode cX2_readCabin 144 = .ok (.getfield 12, 3) := by decide +kernel
theorem dX2_readCabin_147 : decode cX2_readCabin 147 = .ok (.invokevirtual 47, 3) := by decide +kernel
theorem dX2_readCabin_150 : decode cX2_readCabin 150 = .ok (.aload_n 0, 1) := by decide +kernel
theorem dX2_readCabin_151 : decode cX2_readCabin 151 = .ok (.getfield 22, 3) := by decide +kernel
theorem dX2_readCabin_154 : decode cX2_readCabin 154 = .ok (.dup, 1) := by decide +kernel
theorem dX2_readCabin_155 : decode cX2_readCabin 155 = .ok (.getfield 118, 3) := by decide +kernel
theorem dX2_readCabin_158 : decode cX2_readCabin 158 = .ok (.iconst 1, 1) := by decide +kernel
theorem dX2_readCabin_159 : decode cX2_readCabin 159 = .ok (.iadd, 1) := by decide +kernel
theorem dX2_readCabin_160 : decode cX2_readCabin 160 = .ok (.putfield 118, 3) := by decide +kernel
theorem dX2_readCabin_163 : decode cX2_readCabin 163 = .ok (.aload_n 0, 1) := by decide +kernel
theorem dX2_readCabin_164 : decode cX2_readCabin 164 = .ok (.invokevirtual 113, 3) := by decide +kernel
theorem dX2_readCabin_167 : decode cX2_readCabin 167 = .ok (.ireturn, 1) := by decide +kernel
theorem dX2_readMeal_0 : decode cX2_readMeal 0 = .ok (.aload_n 0, 1) := by decide +kernel
theorem dX2_readMeal_1 : decode cX2_readMeal 1 = .ok (.getfield 22, 3) := by decide +kernel
theorem dX2_readMeal_4 : decode cX2_readMeal 4 = .ok (.getfield 150, 3) := by decide +kernel
theorem dX2_readMeal_7 : decode cX2_readMeal 7 = .ok (.bipush 12, 2) := by decide +kernel
theorem dX2_readMeal_9 : decode cX2_readMeal 9 = .ok (.if_icmp .lt 9, 3) := by decide +kernel
theorem dX2_readMeal_12 : decode cX2_readMeal 12 = .ok (.aload_n 0, 1) := by decide +kernel
theorem dX2_readMeal_13 : decode cX2_readMeal 13 = .ok (.iconst 4, 1) := by decide +kernel
theorem dX2_readMeal_14 : decode cX2_readMeal 14 = .ok (.invokevirtual 102, 3) := by decide +kernel
theorem dX2_readMeal_17 : decode cX2_readMeal 17 = .ok (.ireturn, 1) := by decide +kernel
theorem dX2_readMeal_18 : decode cX2_readMeal 18 = .ok (.aload_n 0, 1) := by decide +kernel
theorem dX2_readMeal_19 : decode cX2_readMeal 19 = .ok (.getfield 12, 3) := by decide +kernel
theorem dX2_readMeal_22 : decode cX2_readMeal 22 = .ok (.invokevirtual 47, 3) := by decide +kernel
theorem dX2_readMeal_25 : decode cX2_readMeal 25 = .ok (.aload_n 0, 1) := by decide +kernel
theorem dX2_readMeal_26 : decode cX2_readMeal 26 = .ok (.invokevirtual 121, 3) := by decide +kernel
theorem dX2_readMeal_29 : decode cX2_readMeal 29 = .ok (.ifCond .ne 9, 3) := by decide +kernel
theorem dX2_readMeal_32 : decode cX2_readMeal 32 = .ok (.aload_n 0, 1) := by decide +kernel
theorem dX2_readMeal_33 : decode cX2_readMeal 33 = .ok (.iconst 1, 1) := by decide +kernel
theorem dX2_readMeal_34 : decode cX2_readMeal 34 = .ok (.invokevirtual 102, 3) := by decide +kernel
theorem dX2_readMeal_37 : decode cX2_readMeal 37 = .ok (.ireturn, 1) := by decide +kernel
theorem dX2_readMeal_38 : decode cX2_readMeal 38 = .ok (.aload_n 0, 1) := by decide +kernel
theorem dX2_readMeal_39 : decode cX2_readMeal 39 = .ok (.invokevirtual 153, 3) := by decide +kernel
theorem dX2_readMeal_42 : decode cX2_readMeal 42 = .ok (.iconst (-1), 1) := by decide +kernel
theorem dX2_readMeal_43 : decode cX2_readMeal 43 = .ok (.if_icmp .eq 9, 3) := by decide +kernel
theorem dX2_readMeal_46 : decode cX2_readMeal 46 = .ok (.aload_n 0, 1) := by decide +kernel
theorem dX2_readMeal_47 : decode cX2_readMeal 47 = .ok (.iconst 3, 1) := by decide +kernel
theorem dX2_readMeal_48 : decode cX2_readMeal 48 = .ok (.invokevirtual 102, 3) := by decide +kernel
theorem dX2_readMeal_51 : decode cX2_readMeal 51 = .ok (.ireturn, 1) := by decide +kernel
theorem dX2_readMeal_52 : decode cX2_readMeal 52 = .ok (.aload_n 0, 1) := by decide +kernel
theorem dX2_readMeal_53 : decode cX2_readMeal 53 = .ok (.getfield 22, 3) := by decide +kernel
theorem dX2_readMeal_56 : decode cX2_readMeal 56 = .ok (.getfield 156, 3) := by decide +kernel
theorem dX2_readMeal_59 : decode cX2_readMeal 59 = .ok (.aload_n 0, 1) := by decide +kernel
theorem dX2_readMeal_60 : decode cX2_readMeal 60 = .ok (.getfield 22, 3) := by decide +kernel
theorem dX2_readMeal_63 : decode cX2_readMeal 63 = .ok (.getfield 150, 3) := by decide +kernel
theorem dX2_readMeal_66 : decode cX2_readMeal 66 = .ok (.aaload, 1) := by decide +kernel
theorem dX2_readMeal_67 : decode cX2_readMeal 67 = .ok (.astore_n 1, 1) := by decide +kernel
theorem dX2_readMeal_68 : decode cX2_readMeal 68 = .ok (.aload_n 1, 1) := by decide +kernel
theorem dX2_readMeal_69 : decode cX2_readMeal 69 = .ok (.aload_n 0, 1) := by decide +kernel
theorem dX2_readMeal_70 : decode cX2_readMeal 70 = .ok (.getfield 12, 3) := by decide +kernel
theorem dX2_readMeal_73 : decode cX2_readMeal 73 = .ok (.invokevirtual 131, 3) := by decide +kernel
theorem dX2_readMeal_76 : decode cX2_readMeal 76 = .ok (.putfield 159, 3) := by decide +kernel
theorem dX2_readMeal_79 : decode cX2_readMeal 79 = .ok (.aload_n 0, 1) := by decide +kernel
theorem dX2_readMeal_80 : decode cX2_readMeal 80 = .ok (.aload_n 1, 1) := by decide +kernel
theorem dX2_readMeal_81 : decode cX2_readMeal 81 = .ok (.invokevirtual 162, 3) := by decide +kernel
theorem dX2_readMeal_84 : decode cX2_readMeal 84 = .ok (.ifCond .ne 5, 3) := by decide +kernel
theorem dX2_readMeal_87 : decode cX2_readMeal 87 = .ok (.iconst 0, 1) := by decide +kernel
theorem dX2_readMeal_88 : decode cX2_readMeal 88 = .ok (.ireturn, 1) := by decide +kernel
theorem dX2_readMeal_89 : decode cX2_readMeal 89 = .ok (.aload_n 1, 1) := by decide +kernel
theorem dX2_readMeal_90 : decode cX2_readMeal 90 = .ok (.aload_n 0, 1) := by decide +kernel
theorem dX2_readMeal_91 : decode cX2_readMeal 91 = .ok (.iconst 1, 1) := by decide +kernel
theorem dX2_readMeal_92 : decode cX2_readMeal 92 = .ok (.iconst 3, 1) := by decide +kernel
theorem dX2_readMeal_93 : decode cX2_readMeal 93 = .ok (.invokevirtual 106, 3) := by decide +kernel
theorem dX2_readMeal_96 : decode cX2_readMeal 96 = .ok (.putfield 166, 3) := by decide +kernel
theorem dX2_readMeal_99 : decode cX2_readMeal 99 = .ok (.aload_n 1, 1) := by decide +kernel
theorem dX2_readMeal_100 : decode cX2_readMeal 100 = .ok (.getfield 166, 3) := by decide +kernel
theorem dX2_readMeal_103 : decode cX2_readMeal 103 = .ok (.iconst (-1), 1) := by decide +kernel
theorem dX2_readMeal_104 : decode cX2_readMeal 104 = .ok (.if_icmp .ne 5, 3) := by decide +kernel
theorem dX2_readMeal_107 : decode cX2_readMeal 107 = .ok (.iconst 0, 1) := by decide +kernel
theorem dX2_readMeal_108 : decode cX2_readMeal 108 = .ok (.ireturn, 1) := by decide +kernel
theorem dX2_readMeal_109 : decode cX2_readMeal 109 = .ok (.aload_n 1, 1) := by decide +kernel
theorem dX2_readMeal_110 : decode cX2_readMeal 110 = .ok (.aload_n 0, 1) := by decide +kernel
theorem dX2_readMeal_111 : decode cX2_readMeal 111 = .ok (.iconst 1, 1) := by decide +kernel
theorem dX2_readMeal_112 : decode cX2_readMeal 112 = .ok (.sipush 9999, 3) := by decide +kernel
theorem dX2_readMeal_115 : decode cX2_readMeal 115 = .ok (.invokevirtual 106, 3) := by decide +kernel
theorem dX2_readMeal_118 : decode cX2_readMeal 118 = .ok (.putfield 169, 3) := by decide +kernel
theorem dX2_readMeal_121 : decode cX2_readMeal 121 = .ok (.aload_n 1, 1) := by decide +kernel
theorem dX2_readMeal_122 : decode cX2_readMeal 122 = .ok (.getfield 169, 3) := by decide +kernel
theorem dX2_readMeal_125 : decode cX2_readMeal 125 = .ok (.iconst (-1), 1) := by decide +kernel
theorem dX2_readMeal_126 : decode cX2_readMeal 126 = .ok (.if_icmp .ne 5, 3) := by decide +kernel
theorem dX2_readMeal_129 : decode cX2_readMeal 129 = .ok (.iconst 0, 1) := by decide +kernel
theorem dX2_readMeal_130 : decode cX2_readMeal 130 = .ok (.ireturn, 1) := by decide +kernel
theorem dX2_readMeal_131 : decode cX2_readMeal 131 = .ok (.aload_n 1, 1) := by decide +kernel
theorem dX2_readMeal_132 : decode cX2_readMeal 132 = .ok (.iconst 0, 1) := by decide +kernel
theorem dX2_readMeal_133 : decode cX2_readMeal 133 = .ok (.putfield 172, 3) := by decide +kernel
theorem dX2_readMeal_136 : decode cX2_readMeal 136 = .ok (.aload_n 0, 1) := by decide +kernel
theorem dX2_readMeal_137 : decode cX2_readMeal 137 = .ok (.getfield 12, 3) := by decide +kernel
theorem dX2_readMeal_140 : decode cX2_readMeal 140 = .ok (.invokevirtual 47, 3) := by decide +kernel
theorem dX2_readMeal_143 : decode cX2_readMeal 143 = .ok (.aload_n 0, 1) := by decide +kernel
theorem dX2_readMeal_144 : decode cX2_readMeal 144 = .ok (.getfield 12, 3) := by decide +kernel
theorem dX2_readMeal_147 : decode cX2_readMeal 147 = .ok (.ldc 175, 2) := by decide +kernel
theorem dX2_readMeal_149 : decode cX2_readMeal 149 = .ok (.invokevirtual 65, 3) := by decide +kernel
theorem dX2_readMeal_152 : decode cX2_readMeal 152 = .ok (.ifCond .eq 28, 3) := by decide +kernel
theorem dX2_readMeal_155 : decode cX2_readMeal 155 = .ok (.aload_n 1, 1) := by decide +kernel
theorem dX2_readMeal_156 : decode cX2_readMeal 156 = .ok (.aload_n 0, 1) := by decide +kernel
theorem dX2_readMeal_157 : decode cX2_readMeal 157 = .ok (.invokevirtual 176, 3) := by decide +kernel
theorem dX2_readMeal_160 : decode cX2_readMeal 160 = .ok (.putfield 172, 3) := by decide +kernel
theorem dX2_readMeal_163 : decode cX2_readMeal 163 = .ok (.aload_n 1, 1) := by decide +kernel
theorem dX2_readMeal_164 : decode cX2_readMeal 164 = .ok (.getfield 172, 3) := by decide +kernel
theorem dX2_readMeal_167 : decode cX2_readMeal 167 = .ok (.iconst (-1), 1) := by decide +kernel
theorem dX2_readMeal_168 : decode cX2_readMeal 168 = .ok (.if_icmp .ne 5, 3) := by decide +kernel
theorem dX2_readMeal_171 : decode cX2_readMeal 171 = .ok (.iconst 0, 1) := by decide +kernel
theorem dX2_readMeal_172 : decode cX2_readMeal 172 = .ok (.ireturn, 1) := by decide +kernel
theorem dX2_readMeal_173 : decode cX2_readMeal 173 = .ok (.aload_n 0, 1) := by decide +kernel
theorem dX2_readMeal_174 : decode cX2_readMeal 174 = .ok (.getfield 12, 3) := by decide +kernel
theorem dX2_readMeal_177 : decode cX2_readMeal 177 = .ok (.invokevirtual 47, 3) := by decide +kernel
theorem dX2_readMeal_180 : decode cX2_readMeal 180 = .ok (.aload_n 0, 1) := by decide +kernel
theorem dX2_readMeal_181 : decode cX2_readMeal 181 = .ok (.getfield 22, 3) := by decide +kernel
theorem dX2_readMeal_184 : decode cX2_readMeal 184 = .ok (.dup, 1) := by decide +kernel
theorem dX2_readMeal_185 : decode cX2_readMeal 185 = .ok (.getfield 150, 3) := by decide +kernel
theorem dX2_readMeal_188 : decode cX2_readMeal 188 = .ok (.iconst 1, 1) := by decide +kernel
theorem dX2_readMeal_189 : decode cX2_readMeal 189 = .ok (.iadd, 1) := by decide +kernel
theorem dX2_readMeal_190 : decode cX2_readMeal 190 = .ok (.putfield 150, 3) := by decide +kernel
theorem dX2_readMeal_193 : decode cX2_readMeal 193 = .ok (.aload_n 0, 1) := by decide +kernel
theorem dX2_readMeal_194 : decode cX2_readMeal 194 = .ok (.invokevirtual 113, 3) := by decide +kernel
theorem dX2_readMeal_197 : decode cX2_readMeal 197 = .ok (.ireturn, 1) := by decide +kernel
theorem dX2_readPlace_0 : decode cX2_readPlace 0 = .ok (.aload_n 1, 1) := by decide +kernel
theorem dX2_readPlace_1 : decode cX2_readPlace 1 = .ok (.iconst (-1), 1) := by decide +kernel
theorem dX2_readPlace_2 : decode cX2_readPlace 2 = .ok (.putfield 179, 3) := by decide +kernel
theorem dX2_readPlace_5 : decode cX2_readPlace 5 = .ok (.aload_n 1, 1) := by decide +kernel
theorem dX2_readPlace_6 : decode cX2_readPlace 6 = .ok (.iconst 0, 1) := by decide +kernel
theorem dX2_readPlace_7 : decode cX2_readPlace 7 = .ok (.putfield 181, 3) := by decide +kernel
theorem dX2_readPlace_10 : decode cX2_readPlace 10 = .ok (.aload_n 0, 1) := by decide +kernel
theorem dX2_readPlace_11 : decode cX2_readPlace 11 = .ok (.getfield 12, 3) := by decide +kernel
theorem dX2_readPlace_14 : decode cX2_readPlace 14 = .ok (.invokevirtual 47, 3) := by decide +kernel
theorem dX2_readPlace_17 : decode cX2_readPlace 17 = .ok (.aload_n 0, 1) := by decide +kernel
theorem dX2_readPlace_18 : decode cX2_readPlace 18 = .ok (.getfield 12, 3) := by decide +kernel
theorem dX2_readPlace_21 : decode cX2_readPlace 21 = .ok (.ldc 184, 2) := by decide +kernel
theorem dX2_readPlace_23 : decode cX2_readPlace 23 = .ok (.invokevirtual 65, 3) := by decide +kernel
theorem dX2_readPlace_26 : decode cX2_readPlace 26 = .ok (.ifCond .eq 5, 3) := by decide +kernel
theorem dX2_readPlace_29 : decode cX2_readPlace 29 = .ok (.iconst 1, 1) := by decide +kernel
theorem dX2_readPlace_30 : decode cX2_readPlace 30 = .ok (.ireturn, 1) := by decide +kernel
theorem dX2_readPlace_31 : decode cX2_readPlace 31 = .ok (.aload_n 0, 1) := by decide +kernel
theorem dX2_readPlace_32 : decode cX2_readPlace 32 = .ok (.getfield 12, 3) := by decide +kernel
theorem dX2_readPlace_35 : decode cX2_readPlace 35 = .ok (.ldc 186, 2) := by decide +kernel
theorem dX2_readPlace_37 : decode cX2_readPlace 37 = .ok (.invokevirtual 65, 3) := by decide +kernel
theorem dX2_readPlace_40 : decode cX2_readPlace 40 = .ok (.ifCond .ne 9, 3) := by decide +kernel
theorem dX2_readPlace_43 : decode cX2_readPlace 43 = .ok (.aload_n 0, 1) := by decide +kernel
theorem dX2_readPlace_44 : decode cX2_readPlace 44 = .ok (.iconst 1, 1) := by decide +kernel
theorem dX2_readPlace_45 : decode cX2_readPlace 45 = .ok (.invokevirtual 102, 3) := by decide +kernel
theorem dX2_readPlace_48 : decode cX2_readPlace 48 = .ok (.ireturn, 1) := by decide +kernel
theorem dX2_readPlace_49 : decode cX2_readPlace 49 = .ok (.aload_n 1, 1) := by decide +kernel
theorem dX2_readPlace_50 : decode cX2_readPlace 50 = .ok (.aload_n 0, 1) := by decide +kernel
theorem dX2_readPlace_51 : decode cX2_readPlace 51 = .ok (.invokevirtual 188, 3) := by decide +kernel
theorem dX2_readPlace_54 : decode cX2_readPlace 54 = .ok (.putfield 179, 3) := by decide +kernel
theorem dX2_readPlace_57 : decode cX2_readPlace 57 = .ok (.aload_n 1, 1) := by decide +kernel
theorem dX2_readPlace_58 : decode cX2_readPlace 58 = .ok (.getfield 179, 3) := by decide +kernel
theorem dX2_readPlace_61 : decode cX2_readPlace 61 = .ok (.iconst (-1), 1) := by decide +kernel
theorem dX2_readPlace_62 : decode cX2_readPlace 62 = .ok (.if_icmp .ne 5, 3) := by decide +kernel
theorem dX2_readPlace_65 : decode cX2_readPlace 65 = .ok (.iconst 0, 1) := by decide +kernel
theorem dX2_readPlace_66 : decode cX2_readPlace 66 = .ok (.ireturn, 1) := by decide +kernel
theorem dX2_readPlace_67 : decode cX2_readPlace 67 = .ok (.aload_n 1, 1) := by decide +kernel
theorem dX2_readPlace_68 : decode cX2_readPlace 68 = .ok (.aload_n 0, 1) := by decide +kernel
theorem dX2_readPlace_69 : decode cX2_readPlace 69 = .ok (.iconst 1, 1) := by decide +kernel
theorem dX2_readPlace_70 : decode cX2_readPlace 70 = .ok (.bipush 99, 2) := by decide +kernel
theorem dX2_readPlace_72 : decode cX2_readPlace 72 = .ok (.invokevirtual 106, 3) := by decide +kernel
theorem dX2_readPlace_75 : decode cX2_readPlace 75 = .ok (.putfield 181, 3) := by decide +kernel
theorem dX2_readPlace_78 : decode cX2_readPlace 78 = .ok (.aload_n 1, 1) := by decide +kernel
theorem dX2_readPlace_79 : decode cX2_readPlace 79 = .ok (.getfield 181, 3) := by decide +kernel
theorem dX2_readPlace_82 : decode cX2_readPlace 82 = .ok (.iconst (-1), 1) := by decide +kernel
theorem dX2_readPlace_83 : decode cX2_readPlace 83 = .ok (.if_icmp .eq 7, 3) := by decide +kernel
theorem dX2_readPlace_86 : decode cX2_readPlace 86 = .ok (.iconst 1, 1) := by decide +kernel
theorem dX2_readPlace_87 : decode cX2_readPlace 87 = .ok (.goto 4, 3) := by decide +kernel
theorem dX2_readPlace_90 : decode cX2_readPlace 90 = .ok (.iconst 0, 1) := by decide +kernel
theorem dX2_readPlace_91 : decode cX2_readPlace 91 = .ok (.ireturn, 1) := by decide +kernel
theorem dX2_readTrolley_0 : decode cX2_readTrolley 0 = .ok (.aload_n 0, 1) := by decide +kernel
theorem dX2_readTrolley_1 : decode cX2_readTrolley 1 = .ok (.getfield 22, 3) := by decide +kernel
theorem dX2_readTrolley_4 : decode cX2_readTrolley 4 = .ok (.getfield 191, 3) := by decide +kernel
theorem dX2_readTrolley_7 : decode cX2_readTrolley 7 = .ok (.bipush 8, 2) := by decide +kernel
theorem dX2_readTrolley_9 : decode cX2_readTrolley 9 = .ok (.if_icmp .lt 9, 3) := by decide +kernel
theorem dX2_readTrolley_12 : decode cX2_readTrolley 12 = .ok (.aload_n 0, 1) := by decide +kernel
theorem dX2_readTrolley_13 : decode cX2_readTrolley 13 = .ok (.iconst 4, 1) := by decide +kernel
theorem dX2_readTrolley_14 : decode cX2_readTrolley 14 = .ok (.invokevirtual 102, 3) := by decide +kernel
theorem dX2_readTrolley_17 : decode cX2_readTrolley 17 = .ok (.ireturn, 1) := by decide +kernel
theorem dX2_readTrolley_18 : decode cX2_readTrolley 18 = .ok (.aload_n 0, 1) := by decide +kernel
theorem dX2_readTrolley_19 : decode cX2_readTrolley 19 = .ok (.invokevirtual 188, 3) := by decide +kernel
theorem dX2_readTrolley_22 : decode cX2_readTrolley 22 = .ok (.istore_n 1, 1) := by decide +kernel
theorem dX2_readTrolley_23 : decode cX2_readTrolley 23 = .ok (.iload_n 1, 1) := by decide +kernel
theorem dX2_readTrolley_24 : decode cX2_readTrolley 24 = .ok (.iconst (-1), 1) := by decide +kernel
theorem dX2_readTrolley_25 : decode cX2_readTrolley 25 = .ok (.if_icmp .ne 5, 3) := by decide +kernel
theorem dX2_readTrolley_28 : decode cX2_readTrolley 28 = .ok (.iconst 0, 1) := by decide +kernel
theorem dX2_readTrolley_29 : decode cX2_readTrolley 29 = .ok (.ireturn, 1) := by decide +kernel
theorem dX2_readTrolley_30 : decode cX2_readTrolley 30 = .ok (.aload_n 0, 1) := by decide +kernel
theorem dX2_readTrolley_31 : decode cX2_readTrolley 31 = .ok (.iconst 1, 1) := by decide +kernel
theorem dX2_readTrolley_32 : decode cX2_readTrolley 32 = .ok (.bipush 40, 2) := by decide +kernel
theorem dX2_readTrolley_34 : decode cX2_readTrolley 34 = .ok (.invokevirtual 106, 3) := by decide +kernel
theorem dX2_readTrolley_37 : decode cX2_readTrolley 37 = .ok (.istore_n 2, 1) := by decide +kernel
theorem dX2_readTrolley_38 : decode cX2_readTrolley 38 = .ok (.iload_n 2, 1) := by decide +kernel
theorem dX2_readTrolley_39 : decode cX2_readTrolley 39 = .ok (.iconst (-1), 1) := by decide +kernel
theorem dX2_readTrolley_40 : decode cX2_readTrolley 40 = .ok (.if_icmp .ne 5, 3) := by decide +kernel
theorem dX2_readTrolley_43 : decode cX2_readTrolley 43 = .ok (.iconst 0, 1) := by decide +kernel
theorem dX2_readTrolley_44 : decode cX2_readTrolley 44 = .ok (.ireturn, 1) := by decide +kernel
theorem dX2_readTrolley_45 : decode cX2_readTrolley 45 = .ok (.aload_n 0, 1) := by decide +kernel
theorem dX2_readTrolley_46 : decode cX2_readTrolley 46 = .ok (.getfield 22, 3) := by decide +kernel
theorem dX2_readTrolley_49 : decode cX2_readTrolley 49 = .ok (.getfield 194, 3) := by decide +kernel
theorem dX2_readTrolley_52 : decode cX2_readTrolley 52 = .ok (.aload_n 0, 1) := by decide +kernel
theorem dX2_readTrolley_53 : decode cX2_readTrolley 53 = .ok (.getfield 22, 3) := by decide +kernel
theorem dX2_readTrolley_56 : decode cX2_readTrolley 56 = .ok (.getfield 191, 3) := by decide +kernel
theorem dX2_readTrolley_59 : decode cX2_readTrolley 59 = .ok (.iload_n 1, 1) := by decide +kernel
theorem dX2_readTrolley_60 : decode cX2_readTrolley 60 = .ok (.iastore, 1) := by decide +kernel
theorem dX2_readTrolley_61 : decode cX2_readTrolley 61 = .ok (.aload_n 0, 1) := by decide +kernel
theorem dX2_readTrolley_62 : decode cX2_readTrolley 62 = .ok (.getfield 22, 3) := by decide +kernel
theorem dX2_readTrolley_65 : decode cX2_readTrolley 65 = .ok (.getfield 198, 3) := by decide +kernel
theorem dX2_readTrolley_68 : decode cX2_readTrolley 68 = .ok (.aload_n 0, 1) := by decide +kernel
theorem dX2_readTrolley_69 : decode cX2_readTrolley 69 = .ok (.getfield 22, 3) := by decide +kernel
theorem dX2_readTrolley_72 : decode cX2_readTrolley 72 = .ok (.getfield 191, 3) := by decide +kernel
theorem dX2_readTrolley_75 : decode cX2_readTrolley 75 = .ok (.iload_n 2, 1) := by decide +kernel
theorem dX2_readTrolley_76 : decode cX2_readTrolley 76 = .ok (.iastore, 1) := by decide +kernel
theorem dX2_readTrolley_77 : decode cX2_readTrolley 77 = .ok (.aload_n 0, 1) := by decide +kernel
theorem dX2_readTrolley_78 : decode cX2_readTrolley 78 = .ok (.getfield 22, 3) := by decide +kernel
theorem dX2_readTrolley_81 : decode cX2_readTrolley 81 = .ok (.dup, 1) := by decide +kernel
theorem dX2_readTrolley_82 : decode cX2_readTrolley 82 = .ok (.getfield 191, 3) := by decide +kernel
theorem dX2_readTrolley_85 : decode cX2_readTrolley 85 = .ok (.iconst 1, 1) := by decide +kernel
theorem dX2_readTrolley_86 : decode cX2_readTrolley 86 = .ok (.iadd, 1) := by decide +kernel
theorem dX2_readTrolley_87 : decode cX2_readTrolley 87 = .ok (.putfield 191, 3) := by decide +kernel
theorem dX2_readTrolley_90 : decode cX2_readTrolley 90 = .ok (.aload_n 0, 1) := by decide +kernel
theorem dX2_readTrolley_91 : decode cX2_readTrolley 91 = .ok (.getfield 12, 3) := by decide +kernel
theorem dX2_readTrolley_94 : decode cX2_readTrolley 94 = .ok (.invokevirtual 47, 3) := by decide +kernel
theorem dX2_readTrolley_97 : decode cX2_readTrolley 97 = .ok (.aload_n 0, 1) := by decide +kernel
theorem dX2_readTrolley_98 : decode cX2_readTrolley 98 = .ok (.invokevirtual 113, 3) := by decide +kernel
theorem dX2_readTrolley_101 : decode cX2_readTrolley 101 = .ok (.ireturn, 1) := by decide +kernel
theorem dX2_readGuests_0 : decode cX2_readGuests 0 = .ok (.aload_n 0, 1) := by decide +kernel
theorem dX2_readGuests_1 : decode cX2_readGuests 1 = .ok (.invokevirtual 188, 3) := by decide +kernel
theorem dX2_readGuests_4 : decode cX2_readGuests 4 = .ok (.istore_n 1, 1) := by decide +kernel
theorem dX2_readGuests_5 : decode cX2_readGuests 5 = .ok (.iload_n 1, 1) := by decide +kernel
theorem dX2_readGuests_6 : decode cX2_readGuests 6 = .ok (.iconst (-1), 1) := by decide +kernel
theorem dX2_readGuests_7 : decode cX2_readGuests 7 = .ok (.if_icmp .ne 5, 3) := by decide +kernel
theorem dX2_readGuests_10 : decode cX2_readGuests 10 = .ok (.iconst 0, 1) := by decide +kernel
theorem dX2_readGuests_11 : decode cX2_readGuests 11 = .ok (.ireturn, 1) := by decide +kernel
theorem dX2_readGuests_12 : decode cX2_readGuests 12 = .ok (.aload_n 0, 1) := by decide +kernel
theorem dX2_readGuests_13 : decode cX2_readGuests 13 = .ok (.iconst 1, 1) := by decide +kernel
theorem dX2_readGuests_14 : decode cX2_readGuests 14 = .ok (.bipush 40, 2) := by decide +kernel
theorem dX2_readGuests_16 : decode cX2_readGuests 16 = .ok (.invokevirtual 106, 3) := by decide +kernel
theorem dX2_readGuests_19 : decode cX2_readGuests 19 = .ok (.istore_n 2, 1) := by decide +kernel
theorem dX2_readGuests_20 : decode cX2_readGuests 20 = .ok (.iload_n 2, 1) := by decide +kernel
theorem dX2_readGuests_21 : decode cX2_readGuests 21 = .ok (.iconst (-1), 1) := by decide +kernel
theorem dX2_readGuests_22 : decode cX2_readGuests 22 = .ok (.if_icmp .ne 5, 3) := by decide +kernel
theorem dX2_readGuests_25 : decode cX2_readGuests 25 = .ok (.iconst 0, 1) := by decide +kernel
theorem dX2_readGuests_26 : decode cX2_readGuests 26 = .ok (.ireturn, 1) := by decide +kernel
theorem dX2_readGuests_27 : decode cX2_readGuests 27 = .ok (.iload_n 2, 1) := by decide +kernel
theorem dX2_readGuests_28 : decode cX2_readGuests 28 = .ok (.aload_n 0, 1) := by decide +kernel
theorem dX2_readGuests_29 : decode cX2_readGuests 29 = .ok (.getfield 18, 3) := by decide +kernel
theorem dX2_readGuests_32 : decode cX2_readGuests 32 = .ok (.iload_n 1, 1) := by decide +kernel
theorem dX2_readGuests_33 : decode cX2_readGuests 33 = .ok (.invokevirtual 201, 3) := by decide +kernel
theorem dX2_readGuests_36 : decode cX2_readGuests 36 = .ok (.if_icmp .gt 17, 3) := by decide +kernel
theorem dX2_readGuests_39 : decode cX2_readGuests 39 = .ok (.aload_n 0, 1) := by decide +kernel
theorem dX2_readGuests_40 : decode cX2_readGuests 40 = .ok (.getfield 18, 3) := by decide +kernel
theorem dX2_readGuests_43 : decode cX2_readGuests 43 = .ok (.getfield 205, 3) := by decide +kernel
theorem dX2_readGuests_46 : decode cX2_readGuests 46 = .ok (.iload_n 2, 1) := by decide +kernel
theorem dX2_readGuests_47 : decode cX2_readGuests 47 = .ok (.iadd, 1) := by decide +kernel
theorem dX2_readGuests_48 : decode cX2_readGuests 48 = .ok (.bipush 40, 2) := by decide +kernel
theorem dX2_readGuests_50 : decode cX2_readGuests 50 = .ok (.if_icmp .le 9, 3) := by decide +kernel
theorem dX2_readGuests_53 : decode cX2_readGuests 53 = .ok (.aload_n 0, 1) := by decide +kernel
theorem dX2_readGuests_54 : decode cX2_readGuests 54 = .ok (.iconst 5, 1) := by decide +kernel
theorem dX2_readGuests_55 : decode cX2_readGuests 55 = .ok (.invokevirtual 102, 3) := by decide +kernel
theorem dX2_readGuests_58 : decode cX2_readGuests 58 = .ok (.ireturn, 1) := by decide +kernel
theorem dX2_readGuests_59 : decode cX2_readGuests 59 = .ok (.iconst 0, 1) := by decide +kernel
theorem dX2_readGuests_60 : decode cX2_readGuests 60 = .ok (.istore_n 3, 1) := by decide +kernel
theorem dX2_readGuests_61 : decode cX2_readGuests 61 = .ok (.iload_n 3, 1) := by decide +kernel
theorem dX2_readGuests_62 : decode cX2_readGuests 62 = .ok (.iload_n 2, 1) := by decide +kernel
theorem dX2_readGuests_63 : decode cX2_readGuests 63 = .ok (.if_icmp .ge 19, 3) := by decide +kernel
theorem dX2_readGuests_66 : decode cX2_readGuests 66 = .ok (.aload_n 0, 1) := by decide +kernel
theorem dX2_readGuests_67 : decode cX2_readGuests 67 = .ok (.getfield 18, 3) := by decide +kernel
theorem dX2_readGuests_70 : decode cX2_readGuests 70 = .ok (.iload_n 1, 1) := by decide +kernel
theorem dX2_readGuests_71 : decode cX2_readGuests 71 = .ok (.iconst 0, 1) := by decide +kernel
theorem dX2_readGuests_72 : decode cX2_readGuests 72 = .ok (.iconst (-1), 1) := by decide +kernel
theorem dX2_readGuests_73 : decode cX2_readGuests 73 = .ok (.invokevirtual 208, 3) := by decide +kernel
theorem dX2_readGuests_76 : decode cX2_readGuests 76 = .ok (.iinc 3 1, 3) := by decide +kernel
theorem dX2_readGuests_79 : decode cX2_readGuests 79 = .ok (.goto (-18), 3) := by decide +kernel
theorem dX2_readGuests_82 : decode cX2_readGuests 82 = .ok (.aload_n 0, 1) := by decide +kernel
theorem dX2_readGuests_83 : decode cX2_readGuests 83 = .ok (.getfield 12, 3) := by decide +kernel
theorem dX2_readGuests_86 : decode cX2_readGuests 86 = .ok (.invokevirtual 47, 3) := by decide +kernel
theorem dX2_readGuests_89 : decode cX2_readGuests 89 = .ok (.aload_n 0, 1) := by decide +kernel
theorem dX2_readGuests_90 : decode cX2_readGuests 90 = .ok (.invokevirtual 113, 3) := by decide +kernel
theorem dX2_readGuests_93 : decode cX2_readGuests 93 = .ok (.ireturn, 1) := by decide +kernel
theorem dX2_readGuest_0 : decode cX2_readGuest 0 = .ok (.aload_n 0, 1) := by decide +kernel
theorem dX2_readGuest_1 : decode cX2_readGuest 1 = .ok (.getfield 18, 3) := by decide +kernel
theorem dX2_readGuest_4 : decode cX2_readGuest 4 = .ok (.getfield 205, 3) := by decide +kernel
theorem dX2_readGuest_7 : decode cX2_readGuest 7 = .ok (.bipush 40, 2) := by decide +kernel
theorem dX2_readGuest_9 : decode cX2_readGuest 9 = .ok (.if_icmp .lt 9, 3) := by decide +kernel
theorem dX2_readGuest_12 : decode cX2_readGuest 12 = .ok (.aload_n 0, 1) := by decide +kernel
theorem dX2_readGuest_13 : decode cX2_readGuest 13 = .ok (.iconst 4, 1) := by decide +kernel
theorem dX2_readGuest_14 : decode cX2_readGuest 14 = .ok (.invokevirtual 102, 3) := by decide +kernel
theorem dX2_readGuest_17 : decode cX2_readGuest 17 = .ok (.ireturn, 1) := by decide +kernel
theorem dX2_readGuest_18 : decode cX2_readGuest 18 = .ok (.aload_n 0, 1) := by decide +kernel
theorem dX2_readGuest_19 : decode cX2_readGuest 19 = .ok (.invokevirtual 188, 3) := by decide +kernel
theorem dX2_readGuest_22 : decode cX2_readGuest 22 = .ok (.istore_n 1, 1) := by decide +kernel
theorem dX2_readGuest_23 : decode cX2_readGuest 23 = .ok (.iload_n 1, 1) := by decide +kernel
theorem dX2_readGuest_24 : decode cX2_readGuest 24 = .ok (.iconst (-1), 1) := by decide +kernel
theorem dX2_readGuest_25 : decode cX2_readGuest 25 = .ok (.if_icmp .ne 5, 3) := by decide +kernel
theorem dX2_readGuest_28 : decode cX2_readGuest 28 = .ok (.iconst 0, 1) := by decide +kernel
theorem dX2_readGuest_29 : decode cX2_readGuest 29 = .ok (.ireturn, 1) := by decide +kernel
theorem dX2_readGuest_30 : decode cX2_readGuest 30 = .ok (.aload_n 0, 1) := by decide +kernel
theorem dX2_readGuest_31 : decode cX2_readGuest 31 = .ok (.getfield 18, 3) := by decide +kernel
theorem dX2_readGuest_34 : decode cX2_readGuest 34 = .ok (.iload_n 1, 1) := by decide +kernel
theorem dX2_readGuest_35 : decode cX2_readGuest 35 = .ok (.invokevirtual 201, 3) := by decide +kernel
theorem dX2_readGuest_38 : decode cX2_readGuest 38 = .ok (.iconst 1, 1) := by decide +kernel
theorem dX2_readGuest_39 : decode cX2_readGuest 39 = .ok (.if_icmp .ge 9, 3) := by decide +kernel
theorem dX2_readGuest_42 : decode cX2_readGuest 42 = .ok (.aload_n 0, 1) := by decide +kernel
theorem dX2_readGuest_43 : decode cX2_readGuest 43 = .ok (.iconst 5, 1) := by decide +kernel
theorem dX2_readGuest_44 : decode cX2_readGuest 44 = .ok (.invokevirtual 102, 3) := by decide +kernel
theorem dX2_readGuest_47 : decode cX2_readGuest 47 = .ok (.ireturn, 1) := by decide +kernel
theorem dX2_readGuest_48 : decode cX2_readGuest 48 = .ok (.iconst 0, 1) := by decide +kernel
theorem dX2_readGuest_49 : decode cX2_readGuest 49 = .ok (.istore_n 2, 1) := by decide +kernel
theorem dX2_readGuest_50 : decode cX2_readGuest 50 = .ok (.iconst (-1), 1) := by decide +kernel
theorem dX2_readGuest_51 : decode cX2_readGuest 51 = .ok (.istore_n 3, 1) := by decide +kernel
theorem dX2_readGuest_52 : decode cX2_readGuest 52 = .ok (.aload_n 0, 1) := by decide +kernel
theorem dX2_readGuest_53 : decode cX2_readGuest 53 = .ok (.getfield 12, 3) := by decide +kernel
theorem dX2_readGuest_56 : decode cX2_readGuest 56 = .ok (.invokevirtual 47, 3) := by decide +kernel
theorem dX2_readGuest_59 : decode cX2_readGuest 59 = .ok (.aload_n 0, 1) := by decide +kernel
theorem dX2_readGuest_60 : decode cX2_readGuest 60 = .ok (.getfield 12, 3) := by decide +kernel
theorem dX2_readGuest_63 : decode cX2_readGuest 63 = .ok (.ldc 212, 2) := by decide +kernel
theorem dX2_readGuest_65 : decode cX2_readGuest 65 = .ok (.invokevirtual 65, 3) := by decide +kernel
theorem dX2_readGuest_68 : decode cX2_readGuest 68 = .ok (.ifCond .eq 22, 3) := by decide +kernel
theorem dX2_readGuest_71 : decode cX2_readGuest 71 = .ok (.aload_n 0, 1) := by decide +kernel
theorem dX2_readGuest_72 : decode cX2_readGuest 72 = .ok (.invokevirtual 176, 3) := by decide +kernel
theorem dX2_readGuest_75 : decode cX2_readGuest 75 = .ok (.istore_n 2, 1) := by decide +kernel
theorem dX2_readGuest_76 : decode cX2_readGuest 76 = .ok (.iload_n 2, 1) := by decide +kernel
theorem dX2_readGuest_77 : decode cX2_readGuest 77 = .ok (.iconst (-1), 1) := by decide +kernel
theorem dX2_readGuest_78 : decode cX2_readGuest 78 = .ok (.if_icmp .ne 5, 3) := by decide +kernel
theorem dX2_readGuest_81 : decode cX2_readGuest 81 = .ok (.iconst 0, 1) := by decide +kernel
theorem dX2_readGuest_82 : decode cX2_readGuest 82 = .ok (.ireturn, 1) := by decide +kernel
theorem dX2_readGuest_83 : decode cX2_readGuest 83 = .ok (.aload_n 0, 1) := by decide +kernel
theorem dX2_readGuest_84 : decode cX2_readGuest 84 = .ok (.getfield 12, 3) := by decide +kernel
theorem dX2_readGuest_87 : decode cX2_readGuest 87 = .ok (.invokevirtual 47, 3) := by decide +kernel
theorem dX2_readGuest_90 : decode cX2_readGuest 90 = .ok (.aload_n 0, 1) := by decide +kernel
theorem dX2_readGuest_91 : decode cX2_readGuest 91 = .ok (.getfield 12, 3) := by decide +kernel
theorem dX2_readGuest_94 : decode cX2_readGuest 94 = .ok (.ldc 214, 2) := by decide +kernel
theorem dX2_readGuest_96 : decode cX2_readGuest 96 = .ok (.invokevirtual 65, 3) := by decide +kernel
theorem dX2_readGuest_99 : decode cX2_readGuest 99 = .ok (.ifCond .eq 23, 3) := by decide +kernel
theorem dX2_readGuest_102 : decode cX2_readGuest 102 = .ok (.aload_n 0, 1) := by decide +kernel
theorem dX2_readGuest_103 : decode cX2_readGuest 103 = .ok (.iload_n 1, 1) := by decide +kernel
theorem dX2_readGuest_104 : decode cX2_readGuest 104 = .ok (.invokevirtual 216, 3) := by decide +kernel
theorem dX2_readGuest_107 : decode cX2_readGuest 107 = .ok (.istore_n 3, 1) := by decide +kernel
theorem dX2_readGuest_108 : decode cX2_readGuest 108 = .ok (.iload_n 3, 1) := by decide +kernel
theorem dX2_readGuest_109 : decode cX2_readGuest 109 = .ok (.iconst (-1), 1) := by decide +kernel
theorem dX2_readGuest_110 : decode cX2_readGuest 110 = .ok (.if_icmp .ne 5, 3) := by decide +kernel
theorem dX2_readGuest_113 : decode cX2_readGuest 113 = .ok (.iconst 0, 1) := by decide +kernel
theorem dX2_readGuest_114 : decode cX2_readGuest 114 = .ok (.ireturn, 1) := by decide +kernel
theorem dX2_readGuest_115 : decode cX2_readGuest 115 = .ok (.aload_n 0, 1) := by decide +kernel
theorem dX2_readGuest_116 : decode cX2_readGuest 116 = .ok (.getfield 12, 3) := by decide +kernel
theorem dX2_readGuest_119 : decode cX2_readGuest 119 = .ok (.invokevirtual 47, 3) := by decide +kernel
theorem dX2_readGuest_122 : decode cX2_readGuest 122 = .ok (.aload_n 0, 1) := by decide +kernel
theorem dX2_readGuest_123 : decode cX2_readGuest 123 = .ok (.getfield 18, 3) := by decide +kernel
theorem dX2_readGuest_126 : decode cX2_readGuest 126 = .ok (.iload_n 1, 1) := by decide +kernel
theorem dX2_readGuest_127 : decode cX2_readGuest 127 = .ok (.iload_n 2, 1) := by decide +kernel
theorem dX2_readGuest_128 : decode cX2_readGuest 128 = .ok (.iload_n 3, 1) := by decide +kernel
theorem dX2_readGuest_129 : decode cX2_readGuest 129 = .ok (.invokevirtual 208, 3) := by decide +kernel
theorem dX2_readGuest_132 : decode cX2_readGuest 132 = .ok (.aload_n 0, 1) := by decide +kernel
theorem dX2_readGuest_133 : decode cX2_readGuest 133 = .ok (.invokevirtual 113, 3) := by decide +kernel
theorem dX2_readGuest_136 : decode cX2_readGuest 136 = .ok (.ireturn, 1) := by decide +kernel
theorem dX2_nextNumber_0 : decode cX2_nextNumber 0 = .ok (.aload_n 0, 1) := by decide +kernel
theorem dX2_nextNumber_1 : decode cX2_nextNumber 1 = .ok (.getfield 12, 3) := by decide +kernel
theorem dX2_nextNumber_4 : decode cX2_nextNumber 4 = .ok (.invokevirtual 47, 3) := by decide +kernel
theorem dX2_nextNumber_7 : decode cX2_nextNumber 7 = .ok (.aload_n 0, 1) := by decide +kernel
theorem dX2_nextNumber_8 : decode cX2_nextNumber 8 = .ok (.iload_n 1, 1) := by decide +kernel
theorem dX2_nextNumber_9 : decode cX2_nextNumber 9 = .ok (.iload_n 2, 1) := by decide +kernel
theorem dX2_nextNumber_10 : decode cX2_nextNumber 10 = .ok (.invokevirtual 147, 3) := by decide +kernel
theorem dX2_nextNumber_13 : decode cX2_nextNumber 13 = .ok (.ireturn, 1) := by decide +kernel
theorem dX2_numberHere_0 : decode cX2_numberHere 0 = .ok (.aload_n 0, 1) := by decide +kernel
theorem dX2_numberHere_1 : decode cX2_numberHere 1 = .ok (.getfield 12, 3) := by decide +kernel
theorem dX2_numberHere_4 : decode cX2_numberHere 4 = .ok (.getfield 50, 3) := by decide +kernel
theorem dX2_numberHere_7 : decode cX2_numberHere 7 = .ok (.iconst 2, 1) := by decide +kernel
theorem dX2_numberHere_8 : decode cX2_numberHere 8 = .ok (.if_icmp .eq 11, 3) := by decide +kernel
theorem dX2_numberHere_11 : decode cX2_numberHere 11 = .ok (.aload_n 0, 1) := by decide +kernel
theorem dX2_numberHere_12 : decode cX2_numberHere 12 = .ok (.iconst 1, 1) := by decide +kernel
theorem dX2_numberHere_13 : decode cX2_numberHere 13 = .ok (.invokevirtual 102, 3) := by decide +kernel
theorem dX2_numberHere_16 : decode cX2_numberHere 16 = .ok (.pop, 1) := by decide +kernel
theorem dX2_numberHere_17 : decode cX2_numberHere 17 = .ok (.iconst (-1), 1) := by decide +kernel
theorem dX2_numberHere_18 : decode cX2_numberHere 18 = .ok (.ireturn, 1) := by decide +kernel
theorem dX2_numberHere_19 : decode cX2_numberHere 19 = .ok (.aload_n 0, 1) := by decide +kernel
theorem dX2_numberHere_20 : decode cX2_numberHere 20 = .ok (.getfield 12, 3) := by decide +kernel
theorem dX2_numberHere_23 : decode cX2_numberHere 23 = .ok (.getfield 219, 3) := by decide +kernel
theorem dX2_numberHere_26 : decode cX2_numberHere 26 = .ok (.iload_n 1, 1) := by decide +kernel
theorem dX2_numberHere_27 : decode cX2_numberHere 27 = .ok (.if_icmp .lt 14, 3) := by decide +kernel
theorem dX2_numberHere_30 : decode cX2_numberHere 30 = .ok (.aload_n 0, 1) := by decide +kernel
theorem dX2_numberHere_31 : decode cX2_numberHere 31 = .ok (.getfield 12, 3) := by decide +kernel
theorem dX2_numberHere_34 : decode cX2_numberHere 34 = .ok (.getfield 219, 3) := by decide +kernel
theorem dX2_numberHere_37 : decode cX2_numberHere 37 = .ok (.iload_n 2, 1) := by decide +kernel
theorem dX2_numberHere_38 : decode cX2_numberHere 38 = .ok (.if_icmp .le 11, 3) := by decide +kernel
theorem dX2_numberHere_41 : decode cX2_numberHere 41 = .ok (.aload_n 0, 1) := by decide +kernel
theorem dX2_numberHere_42 : decode cX2_numberHere 42 = .ok (.iconst 2, 1) := by decide +kernel
theorem dX2_numberHere_43 : decode cX2_numberHere 43 = .ok (.invokevirtual 102, 3) := by decide +kernel
theorem dX2_numberHere_46 : decode cX2_numberHere 46 = .ok (.pop, 1) := by decide +kernel
theorem dX2_numberHere_47 : decode cX2_numberHere 47 = .ok (.iconst (-1), 1) := by decide +kernel
theorem dX2_numberHere_48 : decode cX2_numberHere 48 = .ok (.ireturn, 1) := by decide +kernel
theorem dX2_numberHere_49 : decode cX2_numberHere 49 = .ok (.aload_n 0, 1) := by decide +kernel
theorem dX2_numberHere_50 : decode cX2_numberHere 50 = .ok (.getfield 12, 3) := by decide +kernel
theorem dX2_numberHere_53 : decode cX2_numberHere 53 = .ok (.getfield 219, 3) := by decide +kernel
theorem dX2_numberHere_56 : decode cX2_numberHere 56 = .ok (.ireturn, 1) := by decide +kernel
theorem dX2_nextCabin_0 : decode cX2_nextCabin 0 = .ok (.aload_n 0, 1) := by decide +kernel
theorem dX2_nextCabin_1 : decode cX2_nextCabin 1 = .ok (.getfield 12, 3) := by decide +kernel
theorem dX2_nextCabin_4 : decode cX2_nextCabin 4 = .ok (.invokevirtual 47, 3) := by decide +kernel
theorem dX2_nextCabin_7 : decode cX2_nextCabin 7 = .ok (.aload_n 0, 1) := by decide +kernel
theorem dX2_nextCabin_8 : decode cX2_nextCabin 8 = .ok (.invokevirtual 124, 3) := by decide +kernel
theorem dX2_nextCabin_11 : decode cX2_nextCabin 11 = .ok (.istore_n 1, 1) := by decide +kernel
theorem dX2_nextCabin_12 : decode cX2_nextCabin 12 = .ok (.iload_n 1, 1) := by decide +kernel
theorem dX2_nextCabin_13 : decode cX2_nextCabin 13 = .ok (.iconst (-1), 1) := by decide +kernel
theorem dX2_nextCabin_14 : decode cX2_nextCabin 14 = .ok (.if_icmp .ne 24, 3) := by decide +kernel
theorem dX2_nextCabin_17 : decode cX2_nextCabin 17 = .ok (.aload_n 0, 1) := by decide +kernel
theorem dX2_nextCabin_18 : decode cX2_nextCabin 18 = .ok (.aload_n 0, 1) := by decide +kernel
theorem dX2_nextCabin_19 : decode cX2_nextCabin 19 = .ok (.getfield 12, 3) := by decide +kernel
theorem dX2_nextCabin_22 : decode cX2_nextCabin 22 = .ok (.getfield 50, 3) := by decide +kernel
theorem dX2_nextCabin_25 : decode cX2_nextCabin 25 = .ok (.iconst 1, 1) := by decide +kernel
theorem dX2_nextCabin_26 : decode cX2_nextCabin 26 = .ok (.if_icmp .ne 7, 3) := by decide +kernel
theorem dX2_nextCabin_29 : decode cX2_nextCabin 29 = .ok (.iconst 3, 1) := by decide +kernel
theorem dX2_nextCabin_30 : decode cX2_nextCabin 30 = .ok (.goto 4, 3) := by decide +kernel
theorem dX2_nextCabin_33 : decode cX2_nextCabin 33 = .ok (.iconst 1, 1) := by decide +kernel
theorem dX2_nextCabin_34 : decode cX2_nextCabin 34 = .ok (.invokevirtual 102, 3) := by decide +kernel
theorem dX2_nextCabin_37 : decode cX2_nextCabin 37 = .ok (.pop, 1) := by decide +kernel
theorem dX2_nextCabin_38 : decode cX2_nextCabin 38 = .ok (.iload_n 1, 1) := by decide +kernel
theorem dX2_nextCabin_39 : decode cX2_nextCabin 39 = .ok (.ireturn, 1) := by decide +kernel
theorem dX2_nextWish_0 : decode cX2_nextWish 0 = .ok (.aload_n 0, 1) := by decide +kernel
theorem dX2_nextWish_1 : decode cX2_nextWish 1 = .ok (.getfield 12, 3) := by decide +kernel
theorem dX2_nextWish_4 : decode cX2_nextWish 4 = .ok (.invokevirtual 47, 3) := by decide +kernel
theorem dX2_nextWish_7 : decode cX2_nextWish 7 = .ok (.aload_n 0, 1) := by decide +kernel
theorem dX2_nextWish_8 : decode cX2_nextWish 8 = .ok (.invokevirtual 153, 3) := by decide +kernel
theorem dX2_nextWish_11 : decode cX2_nextWish 11 = .ok (.istore_n 2, 1) := by decide +kernel
theorem dX2_nextWish_12 : decode cX2_nextWish 12 = .ok (.iload_n 2, 1) := by decide +kernel
theorem dX2_nextWish_13 : decode cX2_nextWish 13 = .ok (.iconst (-1), 1) := by decide +kernel
theorem dX2_nextWish_14 : decode cX2_nextWish 14 = .ok (.if_icmp .eq 19, 3) := by decide +kernel
theorem dX2_nextWish_17 : decode cX2_nextWish 17 = .ok (.aload_n 0, 1) := by decide +kernel
theorem dX2_nextWish_18 : decode cX2_nextWish 18 = .ok (.getfield 22, 3) := by decide +kernel
theorem dX2_nextWish_21 : decode cX2_nextWish 21 = .ok (.getfield 156, 3) := by decide +kernel
theorem dX2_nextWish_24 : decode cX2_nextWish 24 = .ok (.iload_n 2, 1) := by decide +kernel
theorem dX2_nextWish_25 : decode cX2_nextWish 25 = .ok (.aaload, 1) := by decide +kernel
theorem dX2_nextWish_26 : decode cX2_nextWish 26 = .ok (.getfield 179, 3) := by decide +kernel
theorem dX2_nextWish_29 : decode cX2_nextWish 29 = .ok (.iload_n 1, 1) := by decide +kernel
theorem dX2_nextWish_30 : decode cX2_nextWish 30 = .ok (.if_icmp .eq 26, 3) := by decide +kernel
theorem dX2_nextWish_33 : decode cX2_nextWish 33 = .ok (.aload_n 0, 1) := by decide +kernel
theorem dX2_nextWish_34 : decode cX2_nextWish 34 = .ok (.aload_n 0, 1) := by decide +kernel
theorem dX2_nextWish_35 : decode cX2_nextWish 35 = .ok (.getfield 12, 3) := by decide +kernel
theorem dX2_nextWish_38 : decode cX2_nextWish 38 = .ok (.getfield 50, 3) := by decide +kernel
theorem dX2_nextWish_41 : decode cX2_nextWish 41 = .ok (.iconst 1, 1) := by decide +kernel
theorem dX2_nextWish_42 : decode cX2_nextWish 42 = .ok (.if_icmp .ne 7, 3) := by decide +kernel
theorem dX2_nextWish_45 : decode cX2_nextWish 45 = .ok (.iconst 3, 1) := by decide +kernel
theorem dX2_nextWish_46 : decode cX2_nextWish 46 = .ok (.goto 4, 3) := by decide +kernel
theorem dX2_nextWish_49 : decode cX2_nextWish 49 = .ok (.iconst 1, 1) := by decide +kernel
theorem dX2_nextWish_50 : decode cX2_nextWish 50 = .ok (.invokevirtual 102, 3) := by decide +kernel
theorem dX2_nextWish_53 : decode cX2_nextWish 53 = .ok (.pop, 1) := by decide +kernel
theorem dX2_nextWish_54 : decode cX2_nextWish 54 = .ok (.iconst (-1), 1) := by decide +kernel
theorem dX2_nextWish_55 : decode cX2_nextWish 55 = .ok (.ireturn, 1) := by decide +kernel
theorem dX2_nextWish_56 : decode cX2_nextWish 56 = .ok (.iload_n 2, 1) := by decide +kernel
theorem dX2_nextWish_57 : decode cX2_nextWish 57 = .ok (.ireturn, 1) := by decide +kernel
theorem dX2_nextDiets_0 : decode cX2_nextDiets 0 = .ok (.aload_n 0, 1) := by decide +kernel
theorem dX2_nextDiets_1 : decode cX2_nextDiets 1 = .ok (.getfield 12, 3) := by decide +kernel
theorem dX2_nextDiets_4 : decode cX2_nextDiets 4 = .ok (.invokevirtual 47, 3) := by decide +kernel
theorem dX2_nextDiets_7 : decode cX2_nextDiets 7 = .ok (.aload_n 0, 1) := by decide +kernel
theorem dX2_nextDiets_8 : decode cX2_nextDiets 8 = .ok (.getfield 12, 3) := by decide +kernel
theorem dX2_nextDiets_11 : decode cX2_nextDiets 11 = .ok (.getfield 50, 3) := by decide +kernel
theorem dX2_nextDiets_14 : decode cX2_nextDiets 14 = .ok (.iconst 1, 1) := by decide +kernel
theorem dX2_nextDiets_15 : decode cX2_nextDiets 15 = .ok (.if_icmp .ne 7, 3) := by decide +kernel
theorem dX2_nextDiets_18 : decode cX2_nextDiets 18 = .ok (.iconst 0, 1) := by decide +kernel
theorem dX2_nextDiets_19 : decode cX2_nextDiets 19 = .ok (.goto 4, 3) := by decide +kernel
theorem dX2_nextDiets_22 : decode cX2_nextDiets 22 = .ok (.iconst (-1), 1) := by decide +kernel
theorem dX2_nextDiets_23 : decode cX2_nextDiets 23 = .ok (.istore_n 1, 1) := by decide +kernel
theorem dX2_nextDiets_24 : decode cX2_nextDiets 24 = .ok (.aload_n 0, 1) := by decide +kernel
theorem dX2_nextDiets_25 : decode cX2_nextDiets 25 = .ok (.getfield 12, 3) := by decide +kernel
theorem dX2_nextDiets_28 : decode cX2_nextDiets 28 = .ok (.getfield 222, 3) := by decide +kernel
theorem dX2_nextDiets_31 : decode cX2_nextDiets 31 = .ok (.istore_n 2, 1) := by decide +kernel
theorem dX2_nextDiets_32 : decode cX2_nextDiets 32 = .ok (.iload_n 2, 1) := by decide +kernel
theorem dX2_nextDiets_33 : decode cX2_nextDiets 33 = .ok (.aload_n 0, 1) := by decide +kernel
theorem dX2_nextDiets_34 : decode cX2_nextDiets 34 = .ok (.getfield 12, 3) := by decide +kernel
theorem dX2_nextDiets_37 : decode cX2_nextDiets 37 = .ok (.getfield 225, 3) := by decide +kernel
theorem dX2_nextDiets_40 : decode cX2_nextDiets 40 = .ok (.if_icmp .ge 63, 3) := by decide +kernel
theorem dX2_nextDiets_43 : decode cX2_nextDiets 43 = .ok (.iload_n 1, 1) := by decide +kernel
theorem dX2_nextDiets_44 : decode cX2_nextDiets 44 = .ok (.iconst (-1), 1) := by decide +kernel
theorem dX2_nextDiets_45 : decode cX2_nextDiets 45 = .ok (.if_icmp .eq 58, 3) := by decide +kernel
theorem dX2_nextDiets_48 : decode cX2_nextDiets 48 = .ok (.aload_n 0, 1) := by decide +kernel
theorem dX2_nextDiets_49 : decode cX2_nextDiets 49 = .ok (.getfield 12, 3) := by decide +kernel
theorem dX2_nextDiets_52 : decode cX2_nextDiets 52 = .ok (.getfield 228, 3) := by decide +kernel
theorem dX2_nextDiets_55 : decode cX2_nextDiets 55 = .ok (.iload_n 2, 1) := by decide +kernel
theorem dX2_nextDiets_56 : decode cX2_nextDiets 56 = .ok (.baload, 1) := by decide +kernel
theorem dX2_nextDiets_57 : decode cX2_nextDiets 57 = .ok (.bipush 97, 2) := by decide +kernel
theorem dX2_nextDiets_59 : decode cX2_nextDiets 59 = .ok (.isub, 1) := by decide +kernel
theorem dX2_nextDiets_60 : decode cX2_nextDiets 60 = .ok (.istore_n 3, 1) := by decide +kernel
theorem dX2_nextDiets_61 : decode cX2_nextDiets 61 = .ok (.iload_n 3, 1) := by decide +kernel
theorem dX2_nextDiets_62 : decode cX2_nextDiets 62 = .ok (.bipush 8, 2) := by decide +kernel
theorem dX2_nextDiets_64 : decode cX2_nextDiets 64 = .ok (.if_icmp .ge 15, 3) := by decide +kernel
theorem dX2_nextDiets_67 : decode cX2_nextDiets 67 = .ok (.iload_n 1, 1) := by decide +kernel
theorem dX2_nextDiets_68 : decode cX2_nextDiets 68 = .ok (.iload_n 3, 1) := by decide +kernel
theorem dX2_nextDiets_69 : decode cX2_nextDiets 69 = .ok (.ishr, 1) := by decide +kernel
theorem dX2_nextDiets_70 : decode cX2_nextDiets 70 = .ok (.iconst 1, 1) := by decide +kernel
theorem dX2_nextDiets_71 : decode cX2_nextDiets 71 = .ok (.iand, 1) := by decide +kernel
theorem dX2_nextDiets_72 : decode cX2_nextDiets 72 = .ok (.ifCond .ne 7, 3) := by decide +kernel
theorem dX2_nextDiets_75 : decode cX2_nextDiets 75 = .ok (.iconst 1, 1) := by decide +kernel
theorem dX2_nextDiets_76 : decode cX2_nextDiets 76 = .ok (.goto 4, 3) := by decide +kernel
theorem dX2_nextDiets_79 : decode cX2_nextDiets 79 = .ok (.iconst 0, 1) := by decide +kernel
theorem dX2_nextDiets_80 : decode cX2_nextDiets 80 = .ok (.istore 4, 2) := by decide +kernel
theorem dX2_nextDiets_82 : decode cX2_nextDiets 82 = .ok (.iload 4, 2) := by decide +kernel
theorem dX2_nextDiets_84 : decode cX2_nextDiets 84 = .ok (.ifCond .eq 11, 3) := by decide +kernel
theorem dX2_nextDiets_87 : decode cX2_nextDiets 87 = .ok (.iload_n 1, 1) := by decide +kernel
theorem dX2_nextDiets_88 : decode cX2_nextDiets 88 = .ok (.iconst 1, 1) := by decide +kernel
theorem dX2_nextDiets_89 : decode cX2_nextDiets 89 = .ok (.iload_n 3, 1) := by decide +kernel
theorem dX2_nextDiets_90 : decode cX2_nextDiets 90 = .ok (.ishl, 1) := by decide +kernel
theorem dX2_nextDiets_91 : decode cX2_nextDiets 91 = .ok (.ior, 1) := by decide +kernel
theorem dX2_nextDiets_92 : decode cX2_nextDiets 92 = .ok (.goto 4, 3) := by decide +kernel
theorem dX2_nextDiets_95 : decode cX2_nextDiets 95 = .ok (.iconst (-1), 1) := by decide +kernel
theorem dX2_nextDiets_96 : decode cX2_nextDiets 96 = .ok (.istore_n 1, 1) := by decide +kernel
theorem dX2_nextDiets_97 : decode cX2_nextDiets 97 = .ok (.iinc 2 1, 3) := by decide +kernel
theorem dX2_nextDiets_100 : decode cX2_nextDiets 100 = .ok (.goto (-68), 3) := by decide +kernel
theorem dX2_nextDiets_103 : decode cX2_nextDiets 103 = .ok (.iload_n 1, 1) := by decide +kernel
theorem dX2_nextDiets_104 : decode cX2_nextDiets 104 = .ok (.iconst (-1), 1) := by decide +kernel
theorem dX2_nextDiets_105 : decode cX2_nextDiets 105 = .ok (.if_icmp .ne 9, 3) := by decide +kernel
theorem dX2_nextDiets_108 : decode cX2_nextDiets 108 = .ok (.aload_n 0, 1) := by decide +kernel
theorem dX2_nextDiets_109 : decode cX2_nextDiets 109 = .ok (.iconst 1, 1) := by decide +kernel
theorem dX2_nextDiets_110 : decode cX2_nextDiets 110 = .ok (.invokevirtual 102, 3) := by decide +kernel
theorem dX2_nextDiets_113 : decode cX2_nextDiets 113 = .ok (.pop, 1) := by decide +kernel
theorem dX2_nextDiets_114 : decode cX2_nextDiets 114 = .ok (.iload_n 1, 1) := by decide +kernel
theorem dX2_nextDiets_115 : decode cX2_nextDiets 115 = .ok (.ireturn, 1) := by decide +kernel
theorem dX2_nameHere_0 : decode cX2_nameHere 0 = .ok (.aload_n 0, 1) := by decide +kernel
theorem dX2_nameHere_1 : decode cX2_nameHere 1 = .ok (.getfield 12, 3) := by decide +kernel
theorem dX2_nameHere_4 : decode cX2_nameHere 4 = .ok (.getfield 50, 3) := by decide +kernel
theorem dX2_nameHere_7 : decode cX2_nameHere 7 = .ok (.iconst 1, 1) := by decide +kernel
theorem dX2_nameHere_8 : decode cX2_nameHere 8 = .ok (.if_icmp .ne 19, 3) := by decide +kernel
theorem dX2_nameHere_11 : decode cX2_nameHere 11 = .ok (.aload_n 0, 1) := by decide +kernel
theorem dX2_nameHere_12 : decode cX2_nameHere 12 = .ok (.getfield 12, 3) := by decide +kernel
theorem dX2_nameHere_15 : decode cX2_nameHere 15 = .ok (.invokevirtual 232, 3) := by decide +kernel
theorem dX2_nameHere_18 : decode cX2_nameHere 18 = .ok (.bipush 6, 2) := by decide +kernel
theorem dX2_nameHere_20 : decode cX2_nameHere 20 = .ok (.if_icmp .gt 7, 3) := by decide +kernel
theorem dX2_nameHere_23 : decode cX2_nameHere 23 = .ok (.iconst 1, 1) := by decide +kernel
theorem dX2_nameHere_24 : decode cX2_nameHere 24 = .ok (.goto 4, 3) := by decide +kernel
theorem dX2_nameHere_27 : decode cX2_nameHere 27 = .ok (.iconst 0, 1) := by decide +kernel
theorem dX2_nameHere_28 : decode cX2_nameHere 28 = .ok (.ireturn, 1) := by decide +kernel
theorem dX2_cabinHere_0 : decode cX2_cabinHere 0 = .ok (.iconst 0, 1) := by decide +kernel
theorem dX2_cabinHere_1 : decode cX2_cabinHere 1 = .ok (.istore_n 1, 1) := by decide +kernel
theorem dX2_cabinHere_2 : decode cX2_cabinHere 2 = .ok (.iload_n 1, 1) := by decide +kernel
theorem dX2_cabinHere_3 : decode cX2_cabinHere 3 = .ok (.aload_n 0, 1) := by decide +kernel
theorem dX2_cabinHere_4 : decode cX2_cabinHere 4 = .ok (.getfield 22, 3) := by decide +kernel
theorem dX2_cabinHere_7 : decode cX2_cabinHere 7 = .ok (.getfield 118, 3) := by decide +kernel
theorem dX2_cabinHere_10 : decode cX2_cabinHere 10 = .ok (.if_icmp .ge 33, 3) := by decide +kernel
theorem dX2_cabinHere_13 : decode cX2_cabinHere 13 = .ok (.aload_n 0, 1) := by decide +kernel
theorem dX2_cabinHere_14 : decode cX2_cabinHere 14 = .ok (.getfield 12, 3) := by decide +kernel
theorem dX2_cabinHere_17 : decode cX2_cabinHere 17 = .ok (.aload_n 0, 1) := by decide +kernel
theorem dX2_cabinHere_18 : decode cX2_cabinHere 18 = .ok (.getfield 22, 3) := by decide +kernel
theorem dX2_cabinHere_21 : decode cX2_cabinHere 21 = .ok (.getfield 128, 3) := by decide +kernel
theorem dX2_cabinHere_24 : decode cX2_cabinHere 24 = .ok (.iload_n 1, 1) := by decide +kernel
theorem dX2_cabinHere_25 : decode cX2_cabinHere 25 = .ok (.aaload, 1) := by decide +kernel
theorem dX2_cabinHere_26 : decode cX2_cabinHere 26 = .ok (.getfield 135, 3) := by decide +kernel
theorem dX2_cabinHere_29 : decode cX2_cabinHere 29 = .ok (.invokevirtual 65, 3) := by decide +kernel
theorem dX2_cabinHere_32 : decode cX2_cabinHere 32 = .ok (.ifCond .eq 5, 3) := by decide +kernel
theorem dX2_cabinHere_35 : decode cX2_cabinHere 35 = .ok (.iload_n 1, 1) := by decide +kernel
theorem dX2_cabinHere_36 : decode cX2_cabinHere 36 = .ok (.ireturn, 1) := by decide +kernel
theorem dX2_cabinHere_37 : decode cX2_cabinHere 37 = .ok (.iinc 1 1, 3) := by decide +kernel
theorem dX2_cabinHere_40 : decode cX2_cabinHere 40 = .ok (.goto (-38), 3) := by decide +kernel
theorem dX2_cabinHere_43 : decode cX2_cabinHere 43 = .ok (.iconst (-1), 1) := by decide +kernel
theorem dX2_cabinHere_44 : decode cX2_cabinHere 44 = .ok (.ireturn, 1) := by decide +kernel
theorem dX2_mealHere_0 : decode cX2_mealHere 0 = .ok (.iconst 0, 1) := by decide +kernel
theorem dX2_mealHere_1 : decode cX2_mealHere 1 = .ok (.istore_n 1, 1) := by decide +kernel
theorem dX2_mealHere_2 : decode cX2_mealHere 2 = .ok (.iload_n 1, 1) := by decide +kernel
theorem dX2_mealHere_3 : decode cX2_mealHere 3 = .ok (.aload_n 0, 1) := by decide +kernel
theorem dX2_mealHere_4 : decode cX2_mealHere 4 = .ok (.getfield 22, 3) := by decide +kernel
theorem dX2_mealHere_7 : decode cX2_mealHere 7 = .ok (.getfield 150, 3) := by decide +kernel
theorem dX2_mealHere_10 : decode cX2_mealHere 10 = .ok (.if_icmp .ge 33, 3) := by decide +kernel
theorem dX2_mealHere_13 : decode cX2_mealHere 13 = .ok (.aload_n 0, 1) := by decide +kernel
theorem dX2_mealHere_14 : decode cX2_mealHere 14 = .ok (.getfield 12, 3) := by decide +kernel
theorem dX2_mealHere_17 : decode cX2_mealHere 17 = .ok (.aload_n 0, 1) := by decide +kernel
theorem dX2_mealHere_18 : decode cX2_mealHere 18 = .ok (.getfield 22, 3) := by decide +kernel
theorem dX2_mealHere_21 : decode cX2_mealHere 21 = .ok (.getfield 156, 3) := by decide +kernel
theorem dX2_mealHere_24 : decode cX2_mealHere 24 = .ok (.iload_n 1, 1) := by decide +kernel
theorem dX2_mealHere_25 : decode cX2_mealHere 25 = .ok (.aaload, 1) := by decide +kernel
theorem dX2_mealHere_26 : decode cX2_mealHere 26 = .ok (.getfield 159, 3) := by decide +kernel
theorem dX2_mealHere_29 : decode cX2_mealHere 29 = .ok (.invokevirtual 65, 3) := by decide +kernel
theorem dX2_mealHere_32 : decode cX2_mealHere 32 = .ok (.ifCond .eq 5, 3) := by decide +kernel
theorem dX2_mealHere_35 : decode cX2_mealHere 35 = .ok (.iload_n 1, 1) := by decide +kernel
theorem dX2_mealHere_36 : decode cX2_mealHere 36 = .ok (.ireturn, 1) := by decide +kernel
theorem dX2_mealHere_37 : decode cX2_mealHere 37 = .ok (.iinc 1 1, 3) := by decide +kernel
theorem dX2_mealHere_40 : decode cX2_mealHere 40 = .ok (.goto (-38), 3) := by decide +kernel
theorem dX2_mealHere_43 : decode cX2_mealHere 43 = .ok (.iconst (-1), 1) := by decide +kernel
theorem dX2_mealHere_44 : decode cX2_mealHere 44 = .ok (.ireturn, 1) := by decide +kernel
theorem dX2_signHere_0 : decode cX2_signHere 0 = .ok (.aload_n 0, 1) := by decide +kernel
theorem dX2_signHere_1 : decode cX2_signHere 1 = .ok (.getfield 12, 3) := by decide +kernel
theorem dX2_signHere_4 : decode cX2_signHere 4 = .ok (.getfield 50, 3) := by decide +kernel
theorem dX2_signHere_7 : decode cX2_signHere 7 = .ok (.iconst 3, 1) := by decide +kernel
theorem dX2_signHere_8 : decode cX2_signHere 8 = .ok (.if_icmp .eq 11, 3) := by decide +kernel
theorem dX2_signHere_11 : decode cX2_signHere 11 = .ok (.aload_n 0, 1) := by decide +kernel
theorem dX2_signHere_12 : decode cX2_signHere 12 = .ok (.iconst 1, 1) := by decide +kernel
theorem dX2_signHere_13 : decode cX2_signHere 13 = .ok (.invokevirtual 102, 3) := by decide +kernel
theorem dX2_signHere_16 : decode cX2_signHere 16 = .ok (.ifCond .eq 7, 3) := by decide +kernel
theorem dX2_signHere_19 : decode cX2_signHere 19 = .ok (.iconst 1, 1) := by decide +kernel
theorem dX2_signHere_20 : decode cX2_signHere 20 = .ok (.goto 4, 3) := by decide +kernel
theorem dX2_signHere_23 : decode cX2_signHere 23 = .ok (.iconst 0, 1) := by decide +kernel
theorem dX2_signHere_24 : decode cX2_signHere 24 = .ok (.ireturn, 1) := by decide +kernel
theorem dX2_fail_0 : decode cX2_fail 0 = .ok (.aload_n 0, 1) := by decide +kernel
theorem dX2_fail_1 : decode cX2_fail 1 = .ok (.iload_n 1, 1) := by decide +kernel
theorem dX2_fail_2 : decode cX2_fail 2 = .ok (.putfield 36, 3) := by decide +kernel
theorem dX2_fail_5 : decode cX2_fail 5 = .ok (.aload_n 0, 1) := by decide +kernel
theorem dX2_fail_6 : decode cX2_fail 6 = .ok (.aload_n 0, 1) := by decide +kernel
theorem dX2_fail_7 : decode cX2_fail 7 = .ok (.getfield 12, 3) := by decide +kernel
theorem dX2_fail_10 : decode cX2_fail 10 = .ok (.getfield 222, 3) := by decide +kernel
theorem dX2_fail_13 : decode cX2_fail 13 = .ok (.putfield 40, 3) := by decide +kernel
theorem dX2_fail_16 : decode cX2_fail 16 = .ok (.iconst 0, 1) := by decide +kernel
theorem dX2_fail_17 : decode cX2_fail 17 = .ok (.ireturn, 1) := by decide +kernel
theorem dX3_init_0 : decode cX3_init 0 = .ok (.aload_n 0, 1) := by decide +kernel
theorem dX3_init_1 : decode cX3_init 1 = .ok (.invokespecial 3, 3) := by decide +kernel
theorem dX3_init_4 : decode cX3_init 4 = .ok (.aload_n 0, 1) := by decide +kernel
theorem dX3_init_5 : decode cX3_init 5 = .ok (.bipush 12, 2) := by decide +kernel
theorem dX3_init_7 : decode cX3_init 7 = .ok (.anewarray 9, 3) := by decide +kernel
theorem dX3_init_10 : decode cX3_init 10 = .ok (.putfield 11, 3) := by decide +kernel
theorem dX3_init_13 : decode cX3_init 13 = .ok (.iconst 0, 1) := by decide +kernel
theorem dX3_init_14 : decode cX3_init 14 = .ok (.istore_n 2, 1) := by decide +kernel
theorem dX3_init_15 : decode cX3_init 15 = .ok (.iload_n 2, 1) := by decide +kernel
theorem dX3_init_16 : decode cX3_init 16 = .ok (.bipush 12, 2) := by decide +kernel
theorem dX3_init_18 : decode cX3_init 18 = .ok (.if_icmp .ge 23, 3) := by decide +kernel
theorem dX3_init_21 : decode cX3_init 21 = .ok (.aload_n 0, 1) := by decide +kernel
theorem dX3_init_22 : decode cX3_init 22 = .ok (.getfield 11, 3) := by decide +kernel
theorem dX3_init_25 : decode cX3_init 25 = .ok (.iload_n 2, 1) := by decide +kernel
theorem dX3_init_26 : decode cX3_init 26 = .ok (.new 9, 3) := by decide +kernel
theorem dX3_init_29 : decode cX3_init 29 = .ok (.dup, 1) := by decide +kernel
theorem dX3_init_30 : decode cX3_init 30 = .ok (.aload_n 1, 1) := by decide +kernel
theorem dX3_init_31 : decode cX3_init 31 = .ok (.invokespecial 17, 3) := by decide +kernel
theorem dX3_init_34 : decode cX3_init 34 = .ok (.aastore, 1) := by decide +kernel
theorem dX3_init_35 : decode cX3_init 35 = .ok (.iinc 2 1, 3) := by decide +kernel
theorem dX3_init_38 : decode cX3_init 38 = .ok (.goto (-23), 3) := by decide +kernel
theorem dX3_init_41 : decode cX3_init 41 = .ok (.return_, 1) := by decide +kernel
theorem dX3_add_0 : decode cX3_add 0 = .ok (.aload_n 0, 1) := by decide +kernel
theorem dX3_add_1 : decode cX3_add 1 = .ok (.getfield 11, 3) := by decide +kernel
theorem dX3_add_4 : decode cX3_add 4 = .ok (.aload_n 0, 1) := by decide +kernel
theorem dX3_add_5 : decode cX3_add 5 = .ok (.getfield 20, 3) := by decide +kernel
theorem dX3_add_8 : decode cX3_add 8 = .ok (.aaload, 1) := by decide +kernel
theorem dX3_add_9 : decode cX3_add 9 = .ok (.aload_n 1, 1) := by decide +kernel
theorem dX3_add_10 : decode cX3_add 10 = .ok (.invokevirtual 24, 3) := by decide +kernel
theorem dX3_add_13 : decode cX3_add 13 = .ok (.aload_n 0, 1) := by decide +kernel
theorem dX3_add_14 : decode cX3_add 14 = .ok (.aload_n 0, 1) := by decide +kernel
theorem dX3_add_15 : decode cX3_add 15 = .ok (.getfield 20, 3) := by decide +kernel
theorem dX3_add_18 : decode cX3_add 18 = .ok (.iconst 1, 1) := by decide +kernel
theorem dX3_add_19 : decode cX3_add 19 = .ok (.iadd, 1) := by decide +kernel
theorem dX3_add_20 : decode cX3_add 20 = .ok (.bipush 12, 2) := by decide +kernel
theorem dX3_add_22 : decode cX3_add 22 = .ok (.irem, 1) := by decide +kernel
theorem dX3_add_23 : decode cX3_add 23 = .ok (.putfield 20, 3) := by decide +kernel
theorem dX3_add_26 : decode cX3_add 26 = .ok (.aload_n 0, 1) := by decide +kernel
theorem dX3_add_27 : decode cX3_add 27 = .ok (.aload_n 0, 1) := by decide +kernel
theorem dX3_add_28 : decode cX3_add 28 = .ok (.getfield 28, 3) := by decide +kernel
theorem dX3_add_31 : decode cX3_add 31 = .ok (.iconst 1, 1) := by decide +kernel
theorem dX3_add_32 : decode cX3_add 32 = .ok (.iadd, 1) := by decide +kernel
theorem dX3_add_33 : decode cX3_add 33 = .ok (.bipush 12, 2) := by decide +kernel
theorem dX3_add_35 : decode cX3_add 35 = .ok (.invokestatic 31, 3) := by decide +kernel
theorem dX3_add_38 : decode cX3_add 38 = .ok (.putfield 28, 3) := by decide +kernel
theorem dX3_add_41 : decode cX3_add 41 = .ok (.return_, 1) := by decide +kernel
theorem dX3_takeBack_0 : decode cX3_takeBack 0 = .ok (.aload_n 0, 1) := by decide +kernel
theorem dX3_takeBack_1 : decode cX3_takeBack 1 = .ok (.aload_n 0, 1) := by decide +kernel
theorem dX3_takeBack_2 : decode cX3_takeBack 2 = .ok (.getfield 20, 3) := by decide +kernel
theorem dX3_takeBack_5 : decode cX3_takeBack 5 = .ok (.bipush 12, 2) := by decide +kernel
theorem dX3_takeBack_7 : decode cX3_takeBack 7 = .ok (.iadd, 1) := by decide +kernel
theorem dX3_takeBack_8 : decode cX3_takeBack 8 = .ok (.iconst 1, 1) := by decide +kernel
theorem dX3_takeBack_9 : decode cX3_takeBack 9 = .ok (.isub, 1) := by decide +kernel
theorem dX3_takeBack_10 : decode cX3_takeBack 10 = .ok (.bipush 12, 2) := by decide +kernel
theorem dX3_takeBack_12 : decode cX3_takeBack 12 = .ok (.irem, 1) := by decide +kernel
theorem dX3_takeBack_13 : decode cX3_takeBack 13 = .ok (.putfield 20, 3) := by decide +kernel
theorem dX3_takeBack_16 : decode cX3_takeBack 16 = .ok (.aload_n 0, 1) := by decide +kernel
theorem dX3_takeBack_17 : decode cX3_takeBack 17 = .ok (.dup, 1) := by decide +kernel
theorem dX3_takeBack_18 : decode cX3_takeBack 18 = .ok (.getfield 28, 3) := by decide +kernel
theorem dX3_takeBack_21 : decode cX3_takeBack 21 = .ok (.iconst 1, 1) := by decide +kernel
theorem dX3_takeBack_22 : decode cX3_takeBack 22 = .ok (.isub, 1) := by decide +kernel
theorem dX3_takeBack_23 : decode cX3_takeBack 23 = .ok (.putfield 28, 3) := by decide +kernel
theorem dX3_takeBack_26 : decode cX3_takeBack 26 = .ok (.aload_n 1, 1) := by decide +kernel
theorem dX3_takeBack_27 : decode cX3_takeBack 27 = .ok (.aload_n 0, 1) := by decide +kernel
theorem dX3_takeBack_28 : decode cX3_takeBack 28 = .ok (.getfield 11, 3) := by decide +kernel
theorem dX3_takeBack_31 : decode cX3_takeBack 31 = .ok (.aload_n 0, 1) := by decide +kernel
theorem dX3_takeBack_32 : decode cX3_takeBack 32 = .ok (.getfield 20, 3) := by decide +kernel
theorem dX3_takeBack_35 : decode cX3_takeBack 35 = .ok (.aaload, 1) := by decide +kernel
theorem dX3_takeBack_36 : decode cX3_takeBack 36 = .ok (.invokevirtual 24, 3) := by decide +kernel
theorem dX3_takeBack_39 : decode cX3_takeBack 39 = .ok (.return_, 1) := by decide +kernel
theorem dX4_init_0 : decode cX4_init 0 = .ok (.aload_n 0, 1) := by decide +kernel
theorem dX4_init_1 : decode cX4_init 1 = .ok (.invokespecial 3, 3) := by decide +kernel
theorem dX4_init_4 : decode cX4_init 4 = .ok (.aload_n 0, 1) := by decide +kernel
theorem dX4_init_5 : decode cX4_init 5 = .ok (.bipush 40, 2) := by decide +kernel
theorem dX4_init_7 : decode cX4_init 7 = .ok (.newarray .int, 2) := by decide +kernel
theorem dX4_init_9 : decode cX4_init 9 = .ok (.putfield 9, 3) := by decide +kernel
theorem dX4_init_12 : decode cX4_init 12 = .ok (.aload_n 0, 1) := by decide +kernel
theorem dX4_init_13 : decode cX4_init 13 = .ok (.bipush 40, 2) := by decide +kernel
theorem dX4_init_15 : decode cX4_init 15 = .ok (.newarray .int, 2) := by decide +kernel
theorem dX4_init_17 : decode cX4_init 17 = .ok (.putfield 15, 3) := by decide +kernel
theorem dX4_init_20 : decode cX4_init 20 = .ok (.aload_n 0, 1) := by decide +kernel
theorem dX4_init_21 : decode cX4_init 21 = .ok (.bipush 12, 2) := by decide +kernel
theorem dX4_init_23 : decode cX4_init 23 = .ok (.newarray .int, 2) := by decide +kernel
theorem dX4_init_25 : decode cX4_init 25 = .ok (.putfield 18, 3) := by decide +kernel
theorem dX4_init_28 : decode cX4_init 28 = .ok (.aload_n 0, 1) := by decide +kernel
theorem dX4_init_29 : decode cX4_init 29 = .ok (.bipush 12, 2) := by decide +kernel
theorem dX4_init_31 : decode cX4_init 31 = .ok (.newarray .int, 2) := by decide +kernel
theorem dX4_init_33 : decode cX4_init 33 = .ok (.putfield 21, 3) := by decide +kernel
theorem dX4_init_36 : decode cX4_init 36 = .ok (.aload_n 0, 1) := by decide +kernel
theorem dX4_init_37 : decode cX4_init 37 = .ok (.bipush 12, 2) := by decide +kernel
theorem dX4_init_39 : decode cX4_init 39 = .ok (.newarray .int, 2) := by decide +kernel
theorem dX4_init_41 : decode cX4_init 41 = .ok (.putfield 24, 3) := by decide +kernel
theorem dX4_init_44 : decode cX4_init 44 = .ok (.aload_n 0, 1) := by decide +kernel
theorem dX4_init_45 : decode cX4_init 45 = .ok (.bipush 12, 2) := by decide +kernel
theorem dX4_init_47 : decode cX4_init 47 = .ok (.newarray .int, 2) := by decide +kernel
theorem dX4_init_49 : decode cX4_init 49 = .ok (.putfield 27, 3) := by decide +kernel
theorem dX4_init_52 : decode cX4_init 52 = .ok (.return_, 1) := by decide +kernel
theorem dX4_begin_0 : decode cX4_begin 0 = .ok (.aload_n 0, 1) := by decide +kernel
theorem dX4_begin_1 : decode cX4_begin 1 = .ok (.aload_n 1, 1) := by decide +kernel
theorem dX4_begin_2 : decode cX4_begin 2 = .ok (.getfield 30, 3) := by decide +kernel
theorem dX4_begin_5 : decode cX4_begin 5 = .ok (.putfield 36, 3) := by decide +kernel
theorem dX4_begin_8 : decode cX4_begin 8 = .ok (.aload_n 0, 1) := by decide +kernel
theorem dX4_begin_9 : decode cX4_begin 9 = .ok (.aload_n 1, 1) := by decide +kernel
theorem dX4_begin_10 : decode cX4_begin 10 = .ok (.getfield 39, 3) := by decide +kernel
theorem dX4_begin_13 : decode cX4_begin 13 = .ok (.getfield 43, 3) := by decide +kernel
theorem dX4_begin_16 : decode cX4_begin 16 = .ok (.putfield 48, 3) := by decide +kernel
theorem dX4_begin_19 : decode cX4_begin 19 = .ok (.iconst 0, 1) := by decide +kernel
theorem dX4_begin_20 : decode cX4_begin 20 = .ok (.istore_n 2, 1) := by decide +kernel
theorem dX4_begin_21 : decode cX4_begin 21 = .ok (.iload_n 2, 1) := by decide +kernel
theorem dX4_begin_22 : decode cX4_begin 22 = .ok (.aload_n 0, 1) := by decide +kernel
theorem dX4_begin_23 : decode cX4_begin 23 = .ok (.getfield 48, 3) := by decide +kernel
theorem dX4_begin_26 : decode cX4_begin 26 = .ok (.if_icmp .ge 20, 3) := by decide +kernel
theorem dX4_begin_29 : decode cX4_begin 29 = .ok (.aload_n 0, 1) := by decide +kernel
theorem dX4_begin_30 : decode cX4_begin 30 = .ok (.getfield 18, 3) := by decide +kernel
theorem dX4_begin_33 : decode cX4_begin 33 = .ok (.iload_n 2, 1) := by decide +kernel
theorem dX4_begin_34 : decode cX4_begin 34 = .ok (.aload_n 1, 1) := by decide +kernel
theorem dX4_begin_35 : decode cX4_begin 35 = .ok (.iload_n 2, 1) := by decide +kernel
theorem dX4_begin_36 : decode cX4_begin 36 = .ok (.invokevirtual 49, 3) := by decide +kernel
theorem dX4_begin_39 : decode cX4_begin 39 = .ok (.iastore, 1) := by decide +kernel
theorem dX4_begin_40 : decode cX4_begin 40 = .ok (.iinc 2 1, 3) := by decide +kernel
theorem dX4_begin_43 : decode cX4_begin 43 = .ok (.goto (-22), 3) := by decide +kernel
theorem dX4_begin_46 : decode cX4_begin 46 = .ok (.iconst 0, 1) := by decide +kernel
theorem dX4_begin_47 : decode cX4_begin 47 = .ok (.istore_n 2, 1) := by decide +kernel
theorem dX4_begin_48 : decode cX4_begin 48 = .ok (.iload_n 2, 1) := by decide +kernel
theorem dX4_begin_49 : decode cX4_begin 49 = .ok (.aload_n 0, 1) := by decide +kernel
theorem dX4_begin_50 : decode cX4_begin 50 = .ok (.getfield 36, 3) := by decide +kernel
theorem dX4_begin_53 : decode cX4_begin 53 = .ok (.if_icmp .ge 40, 3) := by decide +kernel
theorem dX4_begin_56 : decode cX4_begin 56 = .ok (.aload_n 0, 1) := by decide +kernel
theorem dX4_begin_57 : decode cX4_begin 57 = .ok (.getfield 9, 3) := by decide +kernel
theorem dX4_begin_60 : decode cX4_begin 60 = .ok (.iload_n 2, 1) := by decide +kernel
theorem dX4_begin_61 : decode cX4_begin 61 = .ok (.aload_n 1, 1) := by decide +kernel
theorem dX4_begin_62 : decode cX4_begin 62 = .ok (.getfield 53, 3) := by decide +kernel
theorem dX4_begin_65 : decode cX4_begin 65 = .ok (.iload_n 2, 1) := by decide +kernel
theorem dX4_begin_66 : decode cX4_begin 66 = .ok (.iaload, 1) := by decide +kernel
theorem dX4_begin_67 : decode cX4_begin 67 = .ok (.ifCond .ne 7, 3) := by decide +kernel
theorem dX4_begin_70 : decode cX4_begin 70 = .ok (.iconst 0, 1) := by decide +kernel
theorem dX4_begin_71 : decode cX4_begin 71 = .ok (.goto 8, 3) := by decide +kernel
theorem dX4_begin_74 : decode cX4_begin 74 = .ok (.aload_n 1, 1) := by decide +kernel
theorem dX4_begin_75 : decode cX4_begin 75 = .ok (.iload_n 2, 1) := by decide +kernel
theorem dX4_begin_76 : decode cX4_begin 76 = .ok (.invokevirtual 56, 3) := by decide +kernel
theorem dX4_begin_79 : decode cX4_begin 79 = .ok (.iastore, 1) := by decide +kernel
theorem dX4_begin_80 : decode cX4_begin 80 = .ok (.aload_n 0, 1) := by decide +kernel
theorem dX4_begin_81 : decode cX4_begin 81 = .ok (.getfield 15, 3) := by decide +kernel
theorem dX4_begin_84 : decode cX4_begin 84 = .ok (.iload_n 2, 1) := by decide +kernel
theorem dX4_begin_85 : decode cX4_begin 85 = .ok (.iconst (-1), 1) := by decide +kernel
theorem dX4_begin_86 : decode cX4_begin 86 = .ok (.iastore, 1) := by decide +kernel
theorem dX4_begin_87 : decode cX4_begin 87 = .ok (.iinc 2 1, 3) := by decide +kernel
theorem dX4_begin_90 : decode cX4_begin 90 = .ok (.goto (-42), 3) := by decide +kernel
theorem dX4_begin_93 : decode cX4_begin 93 = .ok (.return_, 1) := by decide +kernel
theorem dX4_match_0 : decode cX4_match 0 = .ok (.aload_n 0, 1) := by decide +kernel
theorem dX4_match_1 : decode cX4_match 1 = .ok (.aload_n 1, 1) := by decide +kernel
theorem dX4_match_2 : decode cX4_match 2 = .ok (.invokevirtual 59, 3) := by decide +kernel
theorem dX4_match_5 : decode cX4_match 5 = .ok (.iconst 1, 1) := by decide +kernel
theorem dX4_match_6 : decode cX4_match 6 = .ok (.istore_n 2, 1) := by decide +kernel
theorem dX4_match_7 : decode cX4_match 7 = .ok (.iconst 0, 1) := by decide +kernel
theorem dX4_match_8 : decode cX4_match 8 = .ok (.istore_n 3, 1) := by decide +kernel
theorem dX4_match_9 : decode cX4_match 9 = .ok (.iload_n 3, 1) := by decide +kernel
theorem dX4_match_10 : decode cX4_match 10 = .ok (.aload_n 0, 1) := by decide +kernel
theorem dX4_match_11 : decode cX4_match 11 = .ok (.getfield 36, 3) := by decide +kernel
theorem dX4_match_14 : decode cX4_match 14 = .ok (.if_icmp .ge 19, 3) := by decide +kernel
theorem dX4_match_17 : decode cX4_match 17 = .ok (.iload_n 2, 1) := by decide +kernel
theorem dX4_match_18 : decode cX4_match 18 = .ok (.ifCond .eq 15, 3) := by decide +kernel
theorem dX4_match_21 : decode cX4_match 21 = .ok (.aload_n 0, 1) := by decide +kernel
theorem dX4_match_22 : decode cX4_match 22 = .ok (.iconst 0, 1) := by decide +kernel
theorem dX4_match_23 : decode cX4_match 23 = .ok (.invokevirtual 63, 3) := by decide +kernel
theorem dX4_match_26 : decode cX4_match 26 = .ok (.istore_n 2, 1) := by decide +kernel
theorem dX4_match_27 : decode cX4_match 27 = .ok (.iinc 3 1, 3) := by decide +kernel
theorem dX4_match_30 : decode cX4_match 30 = .ok (.goto (-21), 3) := by decide +kernel
theorem dX4_match_33 : decode cX4_match 33 = .ok (.iconst 0, 1) := by decide +kernel
theorem dX4_match_34 : decode cX4_match 34 = .ok (.istore_n 3, 1) := by decide +kernel
theorem dX4_match_35 : decode cX4_match 35 = .ok (.iload_n 3, 1) := by decide +kernel
theorem dX4_match_36 : decode cX4_match 36 = .ok (.aload_n 0, 1) := by decide +kernel
theorem dX4_match_37 : decode cX4_match 37 = .ok (.getfield 36, 3) := by decide +kernel
theorem dX4_match_40 : decode cX4_match 40 = .ok (.if_icmp .ge 90, 3) := by decide +kernel
theorem dX4_match_43 : decode cX4_match 43 = .ok (.aload_n 0, 1) := by decide +kernel
theorem dX4_match_44 : decode cX4_match 44 = .ok (.getfield 15, 3) := by decide +kernel
theorem dX4_match_47 : decode cX4_match 47 = .ok (.iload_n 3, 1) := by decide +kernel
theorem dX4_match_48 : decode cX4_match 48 = .ok (.iaload, 1) := by decide +kernel
theorem dX4_match_49 : decode cX4_match 49 = .ok (.iconst (-1), 1) := by decide +kernel
theorem dX4_match_50 : decode cX4_match 50 = .ok (.if_icmp .ne 10, 3) := by decide +kernel
theorem dX4_match_53 : decode cX4_match 53 = .ok (.aload_n 0, 1) := by decide +kernel
theorem dX4_match_54 : decode cX4_match 54 = .ok (.getfield 48, 3) := by decide +kernel
theorem dX4_match_57 : decode cX4_match 57 = .ok (.goto 9, 3) := by decide +kernel
theorem dX4_match_60 : decode cX4_match 60 = .ok (.aload_n 0, 1) := by decide +kernel
theorem dX4_match_61 : decode cX4_match 61 = .ok (.getfield 15, 3) := by decide +kernel
theorem dX4_match_64 : decode cX4_match 64 = .ok (.iload_n 3, 1) := by decide +kernel
theorem dX4_match_65 : decode cX4_match 65 = .ok (.iaload, 1) := by decide +kernel
theorem dX4_match_66 : decode cX4_match 66 = .ok (.istore 4, 2) := by decide +kernel
theorem dX4_match_68 : decode cX4_match 68 = .ok (.iconst 0, 1) := by decide +kernel
theorem dX4_match_69 : decode cX4_match 69 = .ok (.istore 5, 2) := by decide +kernel
theorem dX4_match_71 : decode cX4_match 71 = .ok (.iconst 0, 1) := by decide +kernel
theorem dX4_match_72 : decode cX4_match 72 = .ok (.istore 6, 2) := by decide +kernel
theorem dX4_match_74 : decode cX4_match 74 = .ok (.iload 6, 2) := by decide +kernel
theorem dX4_match_76 : decode cX4_match 76 = .ok (.iload 4, 2) := by decide +kernel
theorem dX4_match_78 : decode cX4_match 78 = .ok (.if_icmp .ge 46, 3) := by decide +kernel
theorem dX4_match_81 : decode cX4_match 81 = .ok (.iload 5, 2) := by decide +kernel
theorem dX4_match_83 : decode cX4_match 83 = .ok (.ifCond .ne 41, 3) := by decide +kernel
theorem dX4_match_86 : decode cX4_match 86 = .ok (.aload_n 0, 1) := by decide +kernel
theorem dX4_match_87 : decode cX4_match 87 = .ok (.getfield 9, 3) := by decide +kernel
theorem dX4_match_90 : decode cX4_match 90 = .ok (.iload_n 3, 1) := by decide +kernel
theorem dX4_match_91 : decode cX4_match 91 = .ok (.iaload, 1) := by decide +kernel
theorem dX4_match_92 : decode cX4_match 92 = .ok (.iload 6, 2) := by decide +kernel
theorem dX4_match_94 : decode cX4_match 94 = .ok (.ishr, 1) := by decide +kernel
theorem dX4_match_95 : decode cX4_match 95 = .ok (.iconst 1, 1) := by decide +kernel
theorem dX4_match_96 : decode cX4_match 96 = .ok (.iand, 1) := by decide +kernel
theorem dX4_match_97 : decode cX4_match 97 = .ok (.iconst 1, 1) := by decide +kernel
theorem dX4_match_98 : decode cX4_match 98 = .ok (.if_icmp .ne 17, 3) := by decide +kernel
theorem dX4_match_101 : decode cX4_match 101 = .ok (.aload_n 0, 1) := by decide +kernel
theorem dX4_match_102 : decode cX4_match 102 = .ok (.iload_n 3, 1) := by decide +kernel
theorem dX4_match_103 : decode cX4_match 103 = .ok (.iload 6, 2) := by decide +kernel
theorem dX4_match_105 : decode cX4_match 105 = .ok (.invokevirtual 67, 3) := by decide +kernel
theorem dX4_match_108 : decode cX4_match 108 = .ok (.ifCond .eq 7, 3) := by decide +kernel
theorem dX4_match_111 : decode cX4_match 111 = .ok (.iconst 1, 1) := by decide +kernel
theorem dX4_match_112 : decode cX4_match 112 = .ok (.goto 4, 3) := by decide +kernel
theorem dX4_match_115 : decode cX4_match 115 = .ok (.iconst 0, 1) := by decide +kernel
theorem dX4_match_116 : decode cX4_match 116 = .ok (.istore 5, 2) := by decide +kernel
theorem dX4_match_118 : decode cX4_match 118 = .ok (.iinc 6 1, 3) := by decide +kernel
theorem dX4_match_121 : decode cX4_match 121 = .ok (.goto (-47), 3) := by decide +kernel
theorem dX4_match_124 : decode cX4_match 124 = .ok (.iinc 3 1, 3) := by decide +kernel
theorem dX4_match_127 : decode cX4_match 127 = .ok (.goto (-92), 3) := by decide +kernel
theorem dX4_match_130 : decode cX4_match 130 = .ok (.return_, 1) := by decide +kernel
theorem dX4_canHave_0 : decode cX4_canHave 0 = .ok (.aload_n 0, 1) := by decide +kernel
theorem dX4_canHave_1 : decode cX4_canHave 1 = .ok (.getfield 15, 3) := by decide +kernel
theorem dX4_canHave_4 : decode cX4_canHave 4 = .ok (.iload_n 1, 1) := by decide +kernel
theorem dX4_canHave_5 : decode cX4_canHave 5 = .ok (.iaload, 1) := by decide +kernel
theorem dX4_canHave_6 : decode cX4_canHave 6 = .ok (.istore_n 3, 1) := by decide +kernel
theorem dX4_canHave_7 : decode cX4_canHave 7 = .ok (.aload_n 0, 1) := by decide +kernel
theorem dX4_canHave_8 : decode cX4_canHave 8 = .ok (.getfield 18, 3) := by decide +kernel
theorem dX4_canHave_11 : decode cX4_canHave 11 = .ok (.iload_n 2, 1) := by decide +kernel
theorem dX4_canHave_12 : decode cX4_canHave 12 = .ok (.iaload, 1) := by decide +kernel
theorem dX4_canHave_13 : decode cX4_canHave 13 = .ok (.ifCond .le 27, 3) := by decide +kernel
theorem dX4_canHave_16 : decode cX4_canHave 16 = .ok (.aload_n 0, 1) := by decide +kernel
theorem dX4_canHave_17 : decode cX4_canHave 17 = .ok (.getfield 18, 3) := by decide +kernel
theorem dX4_canHave_20 : decode cX4_canHave 20 = .ok (.iload_n 2, 1) := by decide +kernel
theorem dX4_canHave_21 : decode cX4_canHave 21 = .ok (.dup2, 1) := by decide +kernel
theorem dX4_canHave_22 : decode cX4_canHave 22 = .ok (.iaload, 1) := by decide +kernel
theorem dX4_canHave_23 : decode cX4_canHave 23 = .ok (.iconst 1, 1) := by decide +kernel
theorem dX4_canHave_24 : decode cX4_canHave 24 = .ok (.isub, 1) := by decide +kernel
theorem dX4_canHave_25 : decode cX4_canHave 25 = .ok (.iastore, 1) := by decide +kernel
theorem dX4_canHave_26 : decode cX4_canHave 26 = .ok (.aload_n 0, 1) := by decide +kernel
theorem dX4_canHave_27 : decode cX4_canHave 27 = .ok (.iload_n 3, 1) := by decide +kernel
theorem dX4_canHave_28 : decode cX4_canHave 28 = .ok (.invokevirtual 71, 3) := by decide +kernel
theorem dX4_canHave_31 : decode cX4_canHave 31 = .ok (.aload_n 0, 1) := by decide +kernel
theorem dX4_canHave_32 : decode cX4_canHave 32 = .ok (.getfield 15, 3) := by decide +kernel
theorem dX4_canHave_35 : decode cX4_canHave 35 = .ok (.iload_n 1, 1) := by decide +kernel
theorem dX4_canHave_36 : decode cX4_canHave 36 = .ok (.iload_n 2, 1) := by decide +kernel
theorem dX4_canHave_37 : decode cX4_canHave 37 = .ok (.iastore, 1) := by decide +kernel
theorem dX4_canHave_38 : decode cX4_canHave 38 = .ok (.iconst 1, 1) := by decide +kernel
theorem dX4_canHave_39 : decode cX4_canHave 39 = .ok (.ireturn, 1) := by decide +kernel
theorem dX4_canHave_40 : decode cX4_canHave 40 = .ok (.aload_n 0, 1) := by decide +kernel
theorem dX4_canHave_41 : decode cX4_canHave 41 = .ok (.iload_n 1, 1) := by decide +kernel
theorem dX4_canHave_42 : decode cX4_canHave 42 = .ok (.iconst 1, 1) := by decide +kernel
theorem dX4_canHave_43 : decode cX4_canHave 43 = .ok (.iadd, 1) := by decide +kernel
theorem dX4_canHave_44 : decode cX4_canHave 44 = .ok (.iload_n 2, 1) := by decide +kernel
theorem dX4_canHave_45 : decode cX4_canHave 45 = .ok (.iload_n 2, 1) := by decide +kernel
theorem dX4_canHave_46 : decode cX4_canHave 46 = .ok (.invokevirtual 75, 3) := by decide +kernel
theorem dX4_canHave_49 : decode cX4_canHave 49 = .ok (.istore 4, 2) := by decide +kernel
theorem dX4_canHave_51 : decode cX4_canHave 51 = .ok (.iload 4, 2) := by decide +kernel
theorem dX4_canHave_53 : decode cX4_canHave 53 = .ok (.iconst (-1), 1) := by decide +kernel
theorem dX4_canHave_54 : decode cX4_canHave 54 = .ok (.if_icmp .ne 5, 3) := by decide +kernel
theorem dX4_canHave_57 : decode cX4_canHave 57 = .ok (.iconst 0, 1) := by decide +kernel
theorem dX4_canHave_58 : decode cX4_canHave 58 = .ok (.ireturn, 1) := by decide +kernel
theorem dX4_canHave_59 : decode cX4_canHave 59 = .ok (.aload_n 0, 1) := by decide +kernel
theorem dX4_canHave_60 : decode cX4_canHave 60 = .ok (.getfield 15, 3) := by decide +kernel
theorem dX4_canHave_63 : decode cX4_canHave 63 = .ok (.iload_n 1, 1) := by decide +kernel
theorem dX4_canHave_64 : decode cX4_canHave 64 = .ok (.iload_n 2, 1) := by decide +kernel
theorem dX4_canHave_65 : decode cX4_canHave 65 = .ok (.iastore, 1) := by decide +kernel
theorem dX4_canHave_66 : decode cX4_canHave 66 = .ok (.aload_n 0, 1) := by decide +kernel
theorem dX4_canHave_67 : decode cX4_canHave 67 = .ok (.getfield 15, 3) := by decide +kernel
theorem dX4_canHave_70 : decode cX4_canHave 70 = .ok (.iload 4, 2) := by decide +kernel
theorem dX4_canHave_72 : decode cX4_canHave 72 = .ok (.iconst (-1), 1) := by decide +kernel
theorem dX4_canHave_73 : decode cX4_canHave 73 = .ok (.iastore, 1) := by decide +kernel
theorem dX4_canHave_74 : decode cX4_canHave 74 = .ok (.aload_n 0, 1) := by decide +kernel
theorem dX4_canHave_75 : decode cX4_canHave 75 = .ok (.iload_n 3, 1) := by decide +kernel
theorem dX4_canHave_76 : decode cX4_canHave 76 = .ok (.invokevirtual 71, 3) := by decide +kernel
theorem dX4_canHave_79 : decode cX4_canHave 79 = .ok (.iload_n 3, 1) := by decide +kernel
theorem dX4_canHave_80 : decode cX4_canHave 80 = .ok (.iconst (-1), 1) := by decide +kernel
theorem dX4_canHave_81 : decode cX4_canHave 81 = .ok (.if_icmp .eq 13, 3) := by decide +kernel
theorem dX4_canHave_84 : decode cX4_canHave 84 = .ok (.aload_n 0, 1) := by decide +kernel
theorem dX4_canHave_85 : decode cX4_canHave 85 = .ok (.iload_n 1, 1) := by decide +kernel
theorem dX4_canHave_86 : decode cX4_canHave 86 = .ok (.iconst 1, 1) := by decide +kernel
theorem dX4_canHave_87 : decode cX4_canHave 87 = .ok (.iadd, 1) := by decide +kernel
theorem dX4_canHave_88 : decode cX4_canHave 88 = .ok (.invokevirtual 63, 3) := by decide +kernel
theorem dX4_canHave_91 : decode cX4_canHave 91 = .ok (.ifCond .eq 5, 3) := by decide +kernel
theorem dX4_canHave_94 : decode cX4_canHave 94 = .ok (.iconst 1, 1) := by decide +kernel
theorem dX4_canHave_95 : decode cX4_canHave 95 = .ok (.ireturn, 1) := by decide +kernel
theorem dX4_canHave_96 : decode cX4_canHave 96 = .ok (.aload_n 0, 1) := by decide +kernel
theorem dX4_canHave_97 : decode cX4_canHave 97 = .ok (.getfield 18, 3) := by decide +kernel
theorem dX4_canHave_100 : decode cX4_canHave 100 = .ok (.iload_n 3, 1) := by decide +kernel
theorem dX4_canHave_101 : decode cX4_canHave 101 = .ok (.dup2, 1) := by decide +kernel
theorem dX4_canHave_102 : decode cX4_canHave 102 = .ok (.iaload, 1) := by decide +kernel
theorem dX4_canHave_103 : decode cX4_canHave 103 = .ok (.iconst 1, 1) := by decide +kernel
theorem dX4_canHave_104 : decode cX4_canHave 104 = .ok (.isub, 1) := by decide +kernel
theorem dX4_canHave_105 : decode cX4_canHave 105 = .ok (.iastore, 1) := by decide +kernel
theorem dX4_canHave_106 : decode cX4_canHave 106 = .ok (.aload_n 0, 1) := by decide +kernel
theorem dX4_canHave_107 : decode cX4_canHave 107 = .ok (.getfield 15, 3) := by decide +kernel
theorem dX4_canHave_110 : decode cX4_canHave 110 = .ok (.iload 4, 2) := by decide +kernel
theorem dX4_canHave_112 : decode cX4_canHave 112 = .ok (.iload_n 2, 1) := by decide +kernel
theorem dX4_canHave_113 : decode cX4_canHave 113 = .ok (.iastore, 1) := by decide +kernel
theorem dX4_canHave_114 : decode cX4_canHave 114 = .ok (.aload_n 0, 1) := by decide +kernel
theorem dX4_canHave_115 : decode cX4_canHave 115 = .ok (.getfield 15, 3) := by decide +kernel
theorem dX4_canHave_118 : decode cX4_canHave 118 = .ok (.iload_n 1, 1) := by decide +kernel
theorem dX4_canHave_119 : decode cX4_canHave 119 = .ok (.iload_n 3, 1) := by decide +kernel
theorem dX4_canHave_120 : decode cX4_canHave 120 = .ok (.iastore, 1) := by decide +kernel
theorem dX4_canHave_121 : decode cX4_canHave 121 = .ok (.iconst 0, 1) := by decide +kernel
theorem dX4_canHave_122 : decode cX4_canHave 122 = .ok (.ireturn, 1) := by decide +kernel
theorem dX4_giveBack_0 : decode cX4_giveBack 0 = .ok (.iload_n 1, 1) := by decide +kernel
theorem dX4_giveBack_1 : decode cX4_giveBack 1 = .ok (.iconst (-1), 1) := by decide +kernel
theorem dX4_giveBack_2 : decode cX4_giveBack 2 = .ok (.if_icmp .eq 13, 3) := by decide +kernel
theorem dX4_giveBack_5 : decode cX4_giveBack 5 = .ok (.aload_n 0, 1) := by decide +kernel
theorem dX4_giveBack_6 : decode cX4_giveBack 6 = .ok (.getfield 18, 3) := by decide +kernel
theorem dX4_giveBack_9 : decode cX4_giveBack 9 = .ok (.iload_n 1, 1) := by decide +kernel
theorem dX4_giveBack_10 : decode cX4_giveBack 10 = .ok (.dup2, 1) := by decide +kernel
theorem dX4_giveBack_11 : decode cX4_giveBack 11 = .ok (.iaload, 1) := by decide +kernel
theorem dX4_giveBack_12 : decode cX4_giveBack 12 = .ok (.iconst 1, 1) := by decide +kernel
theorem dX4_giveBack_13 : decode cX4_giveBack 13 = .ok (.iadd, 1) := by decide +kernel
theorem dX4_giveBack_14 : decode cX4_giveBack 14 = .ok (.iastore, 1) := by decide +kernel
theorem dX4_giveBack_15 : decode cX4_giveBack 15 = .ok (.return_, 1) := by decide +kernel
theorem dX4_matchOneMore_0 : decode cX4_matchOneMore 0 = .ok (.aload_n 0, 1) := by decide +kernel
theorem dX4_matchOneMore_1 : decode cX4_matchOneMore 1 = .ok (.getfield 21, 3) := by decide +kernel
theorem dX4_matchOneMore_4 : decode cX4_matchOneMore 4 = .ok (.iconst 0, 1) := by decide +kernel
theorem dX4_matchOneMore_5 : decode cX4_matchOneMore 5 = .ok (.invokestatic 79, 3) := by decide +kernel
theorem dX4_matchOneMore_8 : decode cX4_matchOneMore 8 = .ok (.iconst 0, 1) := by decide +kernel
theorem dX4_matchOneMore_9 : decode cX4_matchOneMore 9 = .ok (.istore_n 2, 1) := by decide +kernel
theorem dX4_matchOneMore_10 : decode cX4_matchOneMore 10 = .ok (.iload_n 1, 1) := by decide +kernel
theorem dX4_matchOneMore_11 : decode cX4_matchOneMore 11 = .ok (.istore_n 3, 1) := by decide +kernel
theorem dX4_matchOneMore_12 : decode cX4_matchOneMore 12 = .ok (.iload_n 3, 1) := by decide +kernel
theorem dX4_matchOneMore_13 : decode cX4_matchOneMore 13 = .ok (.aload_n 0, 1) := by decide +kernel
theorem dX4_matchOneMore_14 : decode cX4_matchOneMore 14 = .ok (.getfield 36, 3) := by decide +kernel
theorem dX4_matchOneMore_17 : decode cX4_matchOneMore 17 = .ok (.if_icmp .ge 51, 3) := by decide +kernel
theorem dX4_matchOneMore_20 : decode cX4_matchOneMore 20 = .ok (.aload_n 0, 1) := by decide +kernel
theorem dX4_matchOneMore_21 : decode cX4_matchOneMore 21 = .ok (.getfield 15, 3) := by decide +kernel
theorem dX4_matchOneMore_24 : decode cX4_matchOneMore 24 = .ok (.iload_n 3, 1) := by decide +kernel
theorem dX4_matchOneMore_25 : decode cX4_matchOneMore 25 = .ok (.iaload, 1) := by decide +kernel
theorem dX4_matchOneMore_26 : decode cX4_matchOneMore 26 = .ok (.iconst (-1), 1) := by decide +kernel
theorem dX4_matchOneMore_27 : decode cX4_matchOneMore 27 = .ok (.if_icmp .ne 15, 3) := by decide +kernel
theorem dX4_matchOneMore_30 : decode cX4_matchOneMore 30 = .ok (.iload_n 2, 1) := by decide +kernel
theorem dX4_matchOneMore_31 : decode cX4_matchOneMore 31 = .ok (.aload_n 0, 1) := by decide +kernel
theorem dX4_matchOneMore_32 : decode cX4_matchOneMore 32 = .ok (.getfield 9, 3) := by decide +kernel
theorem dX4_matchOneMore_35 : decode cX4_matchOneMore 35 = .ok (.iload_n 3, 1) := by decide +kernel
theorem dX4_matchOneMore_36 : decode cX4_matchOneMore 36 = .ok (.iaload, 1) := by decide +kernel
theorem dX4_matchOneMore_37 : decode cX4_matchOneMore 37 = .ok (.ior, 1) := by decide +kernel
theorem dX4_matchOneMore_38 : decode cX4_matchOneMore 38 = .ok (.istore_n 2, 1) := by decide +kernel
theorem dX4_matchOneMore_39 : decode cX4_matchOneMore 39 = .ok (.goto 23, 3) := by decide +kernel
theorem dX4_matchOneMore_42 : decode cX4_matchOneMore 42 = .ok (.aload_n 0, 1) := by decide +kernel
theorem dX4_matchOneMore_43 : decode cX4_matchOneMore 43 = .ok (.getfield 21, 3) := by decide +kernel
theorem dX4_matchOneMore_46 : decode cX4_matchOneMore 46 = .ok (.aload_n 0, 1) := by decide +kernel
