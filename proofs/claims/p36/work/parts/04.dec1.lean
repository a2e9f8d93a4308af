theorem dX4_matchOneMore_47 : decode cX4_matchOneMore 47 = .ok (.getfield 15, 3) := by decide +kernel
theorem dX4_matchOneMore_50 : decode cX4_matchOneMore 50 = .ok (.iload_n 3, 1) := by decide +kernel
theorem dX4_matchOneMore_51 : decode cX4_matchOneMore 51 = .ok (.iaload, 1) := by decide +kernel
theorem dX4_matchOneMore_52 : decode cX4_matchOneMore 52 = .ok (.dup2, 1) := by decide +kernel
theorem dX4_matchOneMore_53 : decode cX4_matchOneMore 53 = .ok (.iaload, 1) := by decide +kernel
theorem dX4_matchOneMore_54 : decode cX4_matchOneMore 54 = .ok (.aload_n 0, 1) := by decide +kernel
theorem dX4_matchOneMore_55 : decode cX4_matchOneMore 55 = .ok (.getfield 9, 3) := by decide +kernel
theorem dX4_matchOneMore_58 : decode cX4_matchOneMore 58 = .ok (.iload_n 3, 1) := by decide +kernel
theorem dX4_matchOneMore_59 : decode cX4_matchOneMore 59 = .ok (.iaload, 1) := by decide +kernel
theorem dX4_matchOneMore_60 : decode cX4_matchOneMore 60 = .ok (.ior, 1) := by decide +kernel
theorem dX4_matchOneMore_61 : decode cX4_matchOneMore 61 = .ok (.iastore, 1) := by decide +kernel
theorem dX4_matchOneMore_62 : decode cX4_matchOneMore 62 = .ok (.iinc 3 1, 3) := by decide +kernel
theorem dX4_matchOneMore_65 : decode cX4_matchOneMore 65 = .ok (.goto (-53), 3) := by decide +kernel
theorem dX4_matchOneMore_68 : decode cX4_matchOneMore 68 = .ok (.aload_n 0, 1) := by decide +kernel
theorem dX4_matchOneMore_69 : decode cX4_matchOneMore 69 = .ok (.iconst 0, 1) := by decide +kernel
theorem dX4_matchOneMore_70 : decode cX4_matchOneMore 70 = .ok (.putfield 85, 3) := by decide +kernel
theorem dX4_matchOneMore_73 : decode cX4_matchOneMore 73 = .ok (.aload_n 0, 1) := by decide +kernel
theorem dX4_matchOneMore_74 : decode cX4_matchOneMore 74 = .ok (.iconst 0, 1) := by decide +kernel
theorem dX4_matchOneMore_75 : decode cX4_matchOneMore 75 = .ok (.putfield 88, 3) := by decide +kernel
theorem dX4_matchOneMore_78 : decode cX4_matchOneMore 78 = .ok (.aload_n 0, 1) := by decide +kernel
theorem dX4_matchOneMore_79 : decode cX4_matchOneMore 79 = .ok (.iload_n 2, 1) := by decide +kernel
theorem dX4_matchOneMore_80 : decode cX4_matchOneMore 80 = .ok (.iconst (-1), 1) := by decide +kernel
theorem dX4_matchOneMore_81 : decode cX4_matchOneMore 81 = .ok (.invokevirtual 91, 3) := by decide +kernel
theorem dX4_matchOneMore_84 : decode cX4_matchOneMore 84 = .ok (.iconst 0, 1) := by decide +kernel
theorem dX4_matchOneMore_85 : decode cX4_matchOneMore 85 = .ok (.istore_n 3, 1) := by decide +kernel
theorem dX4_matchOneMore_86 : decode cX4_matchOneMore 86 = .ok (.iload_n 3, 1) := by decide +kernel
theorem dX4_matchOneMore_87 : decode cX4_matchOneMore 87 = .ok (.aload_n 0, 1) := by decide +kernel
theorem dX4_matchOneMore_88 : decode cX4_matchOneMore 88 = .ok (.getfield 85, 3) := by decide +kernel
theorem dX4_matchOneMore_91 : decode cX4_matchOneMore 91 = .ok (.if_icmp .ge 57, 3) := by decide +kernel
theorem dX4_matchOneMore_94 : decode cX4_matchOneMore 94 = .ok (.iload_n 3, 1) := by decide +kernel
theorem dX4_matchOneMore_95 : decode cX4_matchOneMore 95 = .ok (.aload_n 0, 1) := by decide +kernel
theorem dX4_matchOneMore_96 : decode cX4_matchOneMore 96 = .ok (.getfield 48, 3) := by decide +kernel
theorem dX4_matchOneMore_99 : decode cX4_matchOneMore 99 = .ok (.if_icmp .ge 49, 3) := by decide +kernel
theorem dX4_matchOneMore_102 : decode cX4_matchOneMore 102 = .ok (.aload_n 0, 1) := by decide +kernel
theorem dX4_matchOneMore_103 : decode cX4_matchOneMore 103 = .ok (.getfield 27, 3) := by decide +kernel
theorem dX4_matchOneMore_106 : decode cX4_matchOneMore 106 = .ok (.iload_n 3, 1) := by decide +kernel
theorem dX4_matchOneMore_107 : decode cX4_matchOneMore 107 = .ok (.iaload, 1) := by decide +kernel
theorem dX4_matchOneMore_108 : decode cX4_matchOneMore 108 = .ok (.istore 4, 2) := by decide +kernel
theorem dX4_matchOneMore_110 : decode cX4_matchOneMore 110 = .ok (.aload_n 0, 1) := by decide +kernel
theorem dX4_matchOneMore_111 : decode cX4_matchOneMore 111 = .ok (.getfield 18, 3) := by decide +kernel
theorem dX4_matchOneMore_114 : decode cX4_matchOneMore 114 = .ok (.iload 4, 2) := by decide +kernel
theorem dX4_matchOneMore_116 : decode cX4_matchOneMore 116 = .ok (.iaload, 1) := by decide +kernel
theorem dX4_matchOneMore_117 : decode cX4_matchOneMore 117 = .ok (.ifCond .le 12, 3) := by decide +kernel
theorem dX4_matchOneMore_120 : decode cX4_matchOneMore 120 = .ok (.aload_n 0, 1) := by decide +kernel
theorem dX4_matchOneMore_121 : decode cX4_matchOneMore 121 = .ok (.iload_n 1, 1) := by decide +kernel
theorem dX4_matchOneMore_122 : decode cX4_matchOneMore 122 = .ok (.iload 4, 2) := by decide +kernel
theorem dX4_matchOneMore_124 : decode cX4_matchOneMore 124 = .ok (.invokevirtual 95, 3) := by decide +kernel
theorem dX4_matchOneMore_127 : decode cX4_matchOneMore 127 = .ok (.iconst 1, 1) := by decide +kernel
theorem dX4_matchOneMore_128 : decode cX4_matchOneMore 128 = .ok (.ireturn, 1) := by decide +kernel
theorem dX4_matchOneMore_129 : decode cX4_matchOneMore 129 = .ok (.aload_n 0, 1) := by decide +kernel
theorem dX4_matchOneMore_130 : decode cX4_matchOneMore 130 = .ok (.aload_n 0, 1) := by decide +kernel
theorem dX4_matchOneMore_131 : decode cX4_matchOneMore 131 = .ok (.getfield 21, 3) := by decide +kernel
theorem dX4_matchOneMore_134 : decode cX4_matchOneMore 134 = .ok (.iload 4, 2) := by decide +kernel
theorem dX4_matchOneMore_136 : decode cX4_matchOneMore 136 = .ok (.iaload, 1) := by decide +kernel
theorem dX4_matchOneMore_137 : decode cX4_matchOneMore 137 = .ok (.iload 4, 2) := by decide +kernel
theorem dX4_matchOneMore_139 : decode cX4_matchOneMore 139 = .ok (.invokevirtual 91, 3) := by decide +kernel
theorem dX4_matchOneMore_142 : decode cX4_matchOneMore 142 = .ok (.iinc 3 1, 3) := by decide +kernel
theorem dX4_matchOneMore_145 : decode cX4_matchOneMore 145 = .ok (.goto (-59), 3) := by decide +kernel
theorem dX4_matchOneMore_148 : decode cX4_matchOneMore 148 = .ok (.iconst 0, 1) := by decide +kernel
theorem dX4_matchOneMore_149 : decode cX4_matchOneMore 149 = .ok (.ireturn, 1) := by decide +kernel
theorem dX4_reach_0 : decode cX4_reach 0 = .ok (.iconst 0, 1) := by decide +kernel
theorem dX4_reach_1 : decode cX4_reach 1 = .ok (.istore_n 3, 1) := by decide +kernel
theorem dX4_reach_2 : decode cX4_reach 2 = .ok (.iload_n 3, 1) := by decide +kernel
theorem dX4_reach_3 : decode cX4_reach 3 = .ok (.aload_n 0, 1) := by decide +kernel
theorem dX4_reach_4 : decode cX4_reach 4 = .ok (.getfield 48, 3) := by decide +kernel
theorem dX4_reach_7 : decode cX4_reach 7 = .ok (.if_icmp .ge 64, 3) := by decide +kernel
theorem dX4_reach_10 : decode cX4_reach 10 = .ok (.iload_n 1, 1) := by decide +kernel
theorem dX4_reach_11 : decode cX4_reach 11 = .ok (.aload_n 0, 1) := by decide +kernel
theorem dX4_reach_12 : decode cX4_reach 12 = .ok (.getfield 88, 3) := by decide +kernel
theorem dX4_reach_15 : decode cX4_reach 15 = .ok (.iconst (-1), 1) := by decide +kernel
theorem dX4_reach_16 : decode cX4_reach 16 = .ok (.ixor, 1) := by decide +kernel
theorem dX4_reach_17 : decode cX4_reach 17 = .ok (.iand, 1) := by decide +kernel
theorem dX4_reach_18 : decode cX4_reach 18 = .ok (.iload_n 3, 1) := by decide +kernel
theorem dX4_reach_19 : decode cX4_reach 19 = .ok (.ishr, 1) := by decide +kernel
theorem dX4_reach_20 : decode cX4_reach 20 = .ok (.iconst 1, 1) := by decide +kernel
theorem dX4_reach_21 : decode cX4_reach 21 = .ok (.iand, 1) := by decide +kernel
theorem dX4_reach_22 : decode cX4_reach 22 = .ok (.iconst 1, 1) := by decide +kernel
theorem dX4_reach_23 : decode cX4_reach 23 = .ok (.if_icmp .ne 42, 3) := by decide +kernel
theorem dX4_reach_26 : decode cX4_reach 26 = .ok (.aload_n 0, 1) := by decide +kernel
theorem dX4_reach_27 : decode cX4_reach 27 = .ok (.dup, 1) := by decide +kernel
theorem dX4_reach_28 : decode cX4_reach 28 = .ok (.getfield 88, 3) := by decide +kernel
theorem dX4_reach_31 : decode cX4_reach 31 = .ok (.iconst 1, 1) := by decide +kernel
theorem dX4_reach_32 : decode cX4_reach 32 = .ok (.iload_n 3, 1) := by decide +kernel
theorem dX4_reach_33 : decode cX4_reach 33 = .ok (.ishl, 1) := by decide +kernel
theorem dX4_reach_34 : decode cX4_reach 34 = .ok (.ior, 1) := by decide +kernel
theorem dX4_reach_35 : decode cX4_reach 35 = .ok (.putfield 88, 3) := by decide +kernel
theorem dX4_reach_38 : decode cX4_reach 38 = .ok (.aload_n 0, 1) := by decide +kernel
theorem dX4_reach_39 : decode cX4_reach 39 = .ok (.getfield 24, 3) := by decide +kernel
theorem dX4_reach_42 : decode cX4_reach 42 = .ok (.iload_n 3, 1) := by decide +kernel
theorem dX4_reach_43 : decode cX4_reach 43 = .ok (.iload_n 2, 1) := by decide +kernel
theorem dX4_reach_44 : decode cX4_reach 44 = .ok (.iastore, 1) := by decide +kernel
theorem dX4_reach_45 : decode cX4_reach 45 = .ok (.aload_n 0, 1) := by decide +kernel
theorem dX4_reach_46 : decode cX4_reach 46 = .ok (.getfield 27, 3) := by decide +kernel
theorem dX4_reach_49 : decode cX4_reach 49 = .ok (.aload_n 0, 1) := by decide +kernel
theorem dX4_reach_50 : decode cX4_reach 50 = .ok (.getfield 85, 3) := by decide +kernel
theorem dX4_reach_53 : decode cX4_reach 53 = .ok (.iload_n 3, 1) := by decide +kernel
theorem dX4_reach_54 : decode cX4_reach 54 = .ok (.iastore, 1) := by decide +kernel
theorem dX4_reach_55 : decode cX4_reach 55 = .ok (.aload_n 0, 1) := by decide +kernel
theorem dX4_reach_56 : decode cX4_reach 56 = .ok (.dup, 1) := by decide +kernel
theorem dX4_reach_57 : decode cX4_reach 57 = .ok (.getfield 85, 3) := by decide +kernel
theorem dX4_reach_60 : decode cX4_reach 60 = .ok (.iconst 1, 1) := by decide +kernel
theorem dX4_reach_61 : decode cX4_reach 61 = .ok (.iadd, 1) := by decide +kernel
theorem dX4_reach_62 : decode cX4_reach 62 = .ok (.putfield 85, 3) := by decide +kernel
theorem dX4_reach_65 : decode cX4_reach 65 = .ok (.iinc 3 1, 3) := by decide +kernel
theorem dX4_reach_68 : decode cX4_reach 68 = .ok (.goto (-66), 3) := by decide +kernel
theorem dX4_reach_71 : decode cX4_reach 71 = .ok (.return_, 1) := by decide +kernel
theorem dX4_moveAlong_0 : decode cX4_moveAlong 0 = .ok (.aload_n 0, 1) := by decide +kernel
theorem dX4_moveAlong_1 : decode cX4_moveAlong 1 = .ok (.getfield 18, 3) := by decide +kernel
theorem dX4_moveAlong_4 : decode cX4_moveAlong 4 = .ok (.iload_n 2, 1) := by decide +kernel
theorem dX4_moveAlong_5 : decode cX4_moveAlong 5 = .ok (.dup2, 1) := by decide +kernel
theorem dX4_moveAlong_6 : decode cX4_moveAlong 6 = .ok (.iaload, 1) := by decide +kernel
theorem dX4_moveAlong_7 : decode cX4_moveAlong 7 = .ok (.iconst 1, 1) := by decide +kernel
theorem dX4_moveAlong_8 : decode cX4_moveAlong 8 = .ok (.isub, 1) := by decide +kernel
theorem dX4_moveAlong_9 : decode cX4_moveAlong 9 = .ok (.iastore, 1) := by decide +kernel
theorem dX4_moveAlong_10 : decode cX4_moveAlong 10 = .ok (.iload_n 2, 1) := by decide +kernel
theorem dX4_moveAlong_11 : decode cX4_moveAlong 11 = .ok (.istore_n 3, 1) := by decide +kernel
theorem dX4_moveAlong_12 : decode cX4_moveAlong 12 = .ok (.iconst 0, 1) := by decide +kernel
theorem dX4_moveAlong_13 : decode cX4_moveAlong 13 = .ok (.istore 4, 2) := by decide +kernel
theorem dX4_moveAlong_15 : decode cX4_moveAlong 15 = .ok (.iload 4, 2) := by decide +kernel
theorem dX4_moveAlong_17 : decode cX4_moveAlong 17 = .ok (.aload_n 0, 1) := by decide +kernel
theorem dX4_moveAlong_18 : decode cX4_moveAlong 18 = .ok (.getfield 48, 3) := by decide +kernel
theorem dX4_moveAlong_21 : decode cX4_moveAlong 21 = .ok (.if_icmp .ge 49, 3) := by decide +kernel
theorem dX4_moveAlong_24 : decode cX4_moveAlong 24 = .ok (.iload_n 3, 1) := by decide +kernel
theorem dX4_moveAlong_25 : decode cX4_moveAlong 25 = .ok (.iconst (-1), 1) := by decide +kernel
theorem dX4_moveAlong_26 : decode cX4_moveAlong 26 = .ok (.if_icmp .eq 44, 3) := by decide +kernel
theorem dX4_moveAlong_29 : decode cX4_moveAlong 29 = .ok (.aload_n 0, 1) := by decide +kernel
theorem dX4_moveAlong_30 : decode cX4_moveAlong 30 = .ok (.getfield 24, 3) := by decide +kernel
theorem dX4_moveAlong_33 : decode cX4_moveAlong 33 = .ok (.iload_n 3, 1) := by decide +kernel
theorem dX4_moveAlong_34 : decode cX4_moveAlong 34 = .ok (.iaload, 1) := by decide +kernel
theorem dX4_moveAlong_35 : decode cX4_moveAlong 35 = .ok (.istore 5, 2) := by decide +kernel
theorem dX4_moveAlong_37 : decode cX4_moveAlong 37 = .ok (.aload_n 0, 1) := by decide +kernel
theorem dX4_moveAlong_38 : decode cX4_moveAlong 38 = .ok (.iload_n 1, 1) := by decide +kernel
theorem dX4_moveAlong_39 : decode cX4_moveAlong 39 = .ok (.iload 5, 2) := by decide +kernel
theorem dX4_moveAlong_41 : decode cX4_moveAlong 41 = .ok (.iload_n 3, 1) := by decide +kernel
theorem dX4_moveAlong_42 : decode cX4_moveAlong 42 = .ok (.invokevirtual 75, 3) := by decide +kernel
theorem dX4_moveAlong_45 : decode cX4_moveAlong 45 = .ok (.istore 6, 2) := by decide +kernel
theorem dX4_moveAlong_47 : decode cX4_moveAlong 47 = .ok (.iload 6, 2) := by decide +kernel
theorem dX4_moveAlong_49 : decode cX4_moveAlong 49 = .ok (.iconst (-1), 1) := by decide +kernel
theorem dX4_moveAlong_50 : decode cX4_moveAlong 50 = .ok (.if_icmp .eq 11, 3) := by decide +kernel
theorem dX4_moveAlong_53 : decode cX4_moveAlong 53 = .ok (.aload_n 0, 1) := by decide +kernel
theorem dX4_moveAlong_54 : decode cX4_moveAlong 54 = .ok (.getfield 15, 3) := by decide +kernel
theorem dX4_moveAlong_57 : decode cX4_moveAlong 57 = .ok (.iload 6, 2) := by decide +kernel
theorem dX4_moveAlong_59 : decode cX4_moveAlong 59 = .ok (.iload_n 3, 1) := by decide +kernel
theorem dX4_moveAlong_60 : decode cX4_moveAlong 60 = .ok (.iastore, 1) := by decide +kernel
theorem dX4_moveAlong_61 : decode cX4_moveAlong 61 = .ok (.iload 5, 2) := by decide +kernel
theorem dX4_moveAlong_63 : decode cX4_moveAlong 63 = .ok (.istore_n 3, 1) := by decide +kernel
theorem dX4_moveAlong_64 : decode cX4_moveAlong 64 = .ok (.iinc 4 1, 3) := by decide +kernel
theorem dX4_moveAlong_67 : decode cX4_moveAlong 67 = .ok (.goto (-52), 3) := by decide +kernel
theorem dX4_moveAlong_70 : decode cX4_moveAlong 70 = .ok (.return_, 1) := by decide +kernel
theorem dX4_findMover_0 : decode cX4_findMover 0 = .ok (.iload_n 1, 1) := by decide +kernel
theorem dX4_findMover_1 : decode cX4_findMover 1 = .ok (.istore 4, 2) := by decide +kernel
theorem dX4_findMover_3 : decode cX4_findMover 3 = .ok (.iload 4, 2) := by decide +kernel
theorem dX4_findMover_5 : decode cX4_findMover 5 = .ok (.aload_n 0, 1) := by decide +kernel
theorem dX4_findMover_6 : decode cX4_findMover 6 = .ok (.getfield 36, 3) := by decide +kernel
theorem dX4_findMover_9 : decode cX4_findMover 9 = .ok (.if_icmp .ge 38, 3) := by decide +kernel
theorem dX4_findMover_12 : decode cX4_findMover 12 = .ok (.aload_n 0, 1) := by decide +kernel
theorem dX4_findMover_13 : decode cX4_findMover 13 = .ok (.getfield 15, 3) := by decide +kernel
theorem dX4_findMover_16 : decode cX4_findMover 16 = .ok (.iload 4, 2) := by decide +kernel
theorem dX4_findMover_18 : decode cX4_findMover 18 = .ok (.iaload, 1) := by decide +kernel
theorem dX4_findMover_19 : decode cX4_findMover 19 = .ok (.iload_n 2, 1) := by decide +kernel
theorem dX4_findMover_20 : decode cX4_findMover 20 = .ok (.if_icmp .ne 21, 3) := by decide +kernel
theorem dX4_findMover_23 : decode cX4_findMover 23 = .ok (.aload_n 0, 1) := by decide +kernel
theorem dX4_findMover_24 : decode cX4_findMover 24 = .ok (.getfield 9, 3) := by decide +kernel
theorem dX4_findMover_27 : decode cX4_findMover 27 = .ok (.iload 4, 2) := by decide +kernel
theorem dX4_findMover_29 : decode cX4_findMover 29 = .ok (.iaload, 1) := by decide +kernel
theorem dX4_findMover_30 : decode cX4_findMover 30 = .ok (.iload_n 3, 1) := by decide +kernel
theorem dX4_findMover_31 : decode cX4_findMover 31 = .ok (.ishr, 1) := by decide +kernel
theorem dX4_findMover_32 : decode cX4_findMover 32 = .ok (.iconst 1, 1) := by decide +kernel
theorem dX4_findMover_33 : decode cX4_findMover 33 = .ok (.iand, 1) := by decide +kernel
theorem dX4_findMover_34 : decode cX4_findMover 34 = .ok (.iconst 1, 1) := by decide +kernel
theorem dX4_findMover_35 : decode cX4_findMover 35 = .ok (.if_icmp .ne 6, 3) := by decide +kernel
theorem dX4_findMover_38 : decode cX4_findMover 38 = .ok (.iload 4, 2) := by decide +kernel
theorem dX4_findMover_40 : decode cX4_findMover 40 = .ok (.ireturn, 1) := by decide +kernel
theorem dX4_findMover_41 : decode cX4_findMover 41 = .ok (.iinc 4 1, 3) := by decide +kernel
theorem dX4_findMover_44 : decode cX4_findMover 44 = .ok (.goto (-41), 3) := by decide +kernel
theorem dX4_findMover_47 : decode cX4_findMover 47 = .ok (.iconst (-1), 1) := by decide +kernel
theorem dX4_findMover_48 : decode cX4_findMover 48 = .ok (.ireturn, 1) := by decide +kernel
theorem dX5_init_0 : decode cX5_init 0 = .ok (.aload_n 0, 1) := by decide +kernel
theorem dX5_init_1 : decode cX5_init 1 = .ok (.invokespecial 1, 3) := by decide +kernel
theorem dX5_init_4 : decode cX5_init 4 = .ok (.aload_n 0, 1) := by decide +kernel
theorem dX5_init_5 : decode cX5_init 5 = .ok (.ldc 7, 2) := by decide +kernel
theorem dX5_init_7 : decode cX5_init 7 = .ok (.putfield 9, 3) := by decide +kernel
theorem dX5_init_10 : decode cX5_init 10 = .ok (.return_, 1) := by decide +kernel
theorem dX6_init_0 : decode cX6_init 0 = .ok (.aload_n 0, 1) := by decide +kernel
theorem dX6_init_1 : decode cX6_init 1 = .ok (.invokespecial 3, 3) := by decide +kernel
theorem dX6_init_4 : decode cX6_init 4 = .ok (.aload_n 0, 1) := by decide +kernel
theorem dX6_init_5 : decode cX6_init 5 = .ok (.bipush 12, 2) := by decide +kernel
theorem dX6_init_7 : decode cX6_init 7 = .ok (.newarray .int, 2) := by decide +kernel
theorem dX6_init_9 : decode cX6_init 9 = .ok (.putfield 9, 3) := by decide +kernel
theorem dX6_init_12 : decode cX6_init 12 = .ok (.aload_n 0, 1) := by decide +kernel
theorem dX6_init_13 : decode cX6_init 13 = .ok (.bipush 12, 2) := by decide +kernel
theorem dX6_init_15 : decode cX6_init 15 = .ok (.newarray .int, 2) := by decide +kernel
theorem dX6_init_17 : decode cX6_init 17 = .ok (.putfield 15, 3) := by decide +kernel
theorem dX6_init_20 : decode cX6_init 20 = .ok (.return_, 1) := by decide +kernel
theorem dX6_reckon_0 : decode cX6_reckon 0 = .ok (.aload_n 0, 1) := by decide +kernel
theorem dX6_reckon_1 : decode cX6_reckon 1 = .ok (.getfield 9, 3) := by decide +kernel
theorem dX6_reckon_4 : decode cX6_reckon 4 = .ok (.iconst 0, 1) := by decide +kernel
theorem dX6_reckon_5 : decode cX6_reckon 5 = .ok (.invokestatic 18, 3) := by decide +kernel
theorem dX6_reckon_8 : decode cX6_reckon 8 = .ok (.iconst 0, 1) := by decide +kernel
theorem dX6_reckon_9 : decode cX6_reckon 9 = .ok (.istore_n 2, 1) := by decide +kernel
theorem dX6_reckon_10 : decode cX6_reckon 10 = .ok (.iload_n 2, 1) := by decide +kernel
theorem dX6_reckon_11 : decode cX6_reckon 11 = .ok (.aload_n 1, 1) := by decide +kernel
theorem dX6_reckon_12 : decode cX6_reckon 12 = .ok (.getfield 24, 3) := by decide +kernel
theorem dX6_reckon_15 : decode cX6_reckon 15 = .ok (.if_icmp .ge 39, 3) := by decide +kernel
theorem dX6_reckon_18 : decode cX6_reckon 18 = .ok (.aload_n 1, 1) := by decide +kernel
theorem dX6_reckon_19 : decode cX6_reckon 19 = .ok (.getfield 30, 3) := by decide +kernel
theorem dX6_reckon_22 : decode cX6_reckon 22 = .ok (.iload_n 2, 1) := by decide +kernel
theorem dX6_reckon_23 : decode cX6_reckon 23 = .ok (.iaload, 1) := by decide +kernel
theorem dX6_reckon_24 : decode cX6_reckon 24 = .ok (.ifCond .eq 24, 3) := by decide +kernel
theorem dX6_reckon_27 : decode cX6_reckon 27 = .ok (.aload_n 1, 1) := by decide +kernel
theorem dX6_reckon_28 : decode cX6_reckon 28 = .ok (.iload_n 2, 1) := by decide +kernel
theorem dX6_reckon_29 : decode cX6_reckon 29 = .ok (.invokevirtual 33, 3) := by decide +kernel
theorem dX6_reckon_32 : decode cX6_reckon 32 = .ok (.istore_n 3, 1) := by decide +kernel
theorem dX6_reckon_33 : decode cX6_reckon 33 = .ok (.iload_n 3, 1) := by decide +kernel
theorem dX6_reckon_34 : decode cX6_reckon 34 = .ok (.iconst (-1), 1) := by decide +kernel
theorem dX6_reckon_35 : decode cX6_reckon 35 = .ok (.if_icmp .eq 13, 3) := by decide +kernel
theorem dX6_reckon_38 : decode cX6_reckon 38 = .ok (.aload_n 0, 1) := by decide +kernel
theorem dX6_reckon_39 : decode cX6_reckon 39 = .ok (.getfield 9, 3) := by decide +kernel
theorem dX6_reckon_42 : decode cX6_reckon 42 = .ok (.iload_n 3, 1) := by decide +kernel
theorem dX6_reckon_43 : decode cX6_reckon 43 = .ok (.dup2, 1) := by decide +kernel
theorem dX6_reckon_44 : decode cX6_reckon 44 = .ok (.iaload, 1) := by decide +kernel
theorem dX6_reckon_45 : decode cX6_reckon 45 = .ok (.iconst 1, 1) := by decide +kernel
theorem dX6_reckon_46 : decode cX6_reckon 46 = .ok (.iadd, 1) := by decide +kernel
theorem dX6_reckon_47 : decode cX6_reckon 47 = .ok (.iastore, 1) := by decide +kernel
theorem dX6_reckon_48 : decode cX6_reckon 48 = .ok (.iinc 2 1, 3) := by decide +kernel
theorem dX6_reckon_51 : decode cX6_reckon 51 = .ok (.goto (-41), 3) := by decide +kernel
theorem dX6_reckon_54 : decode cX6_reckon 54 = .ok (.iconst 0, 1) := by decide +kernel
theorem dX6_reckon_55 : decode cX6_reckon 55 = .ok (.istore_n 2, 1) := by decide +kernel
theorem dX6_reckon_56 : decode cX6_reckon 56 = .ok (.iload_n 2, 1) := by decide +kernel
theorem dX6_reckon_57 : decode cX6_reckon 57 = .ok (.aload_n 1, 1) := by decide +kernel
theorem dX6_reckon_58 : decode cX6_reckon 58 = .ok (.getfield 37, 3) := by decide +kernel
theorem dX6_reckon_61 : decode cX6_reckon 61 = .ok (.getfield 41, 3) := by decide +kernel
theorem dX6_reckon_64 : decode cX6_reckon 64 = .ok (.if_icmp .ge 61, 3) := by decide +kernel
theorem dX6_reckon_67 : decode cX6_reckon 67 = .ok (.aload_n 1, 1) := by decide +kernel
theorem dX6_reckon_68 : decode cX6_reckon 68 = .ok (.iload_n 2, 1) := by decide +kernel
theorem dX6_reckon_69 : decode cX6_reckon 69 = .ok (.invokevirtual 46, 3) := by decide +kernel
theorem dX6_reckon_72 : decode cX6_reckon 72 = .ok (.aload_n 1, 1) := by decide +kernel
theorem dX6_reckon_73 : decode cX6_reckon 73 = .ok (.iload_n 2, 1) := by decide +kernel
theorem dX6_reckon_74 : decode cX6_reckon 74 = .ok (.invokevirtual 49, 3) := by decide +kernel
theorem dX6_reckon_77 : decode cX6_reckon 77 = .ok (.isub, 1) := by decide +kernel
theorem dX6_reckon_78 : decode cX6_reckon 78 = .ok (.istore_n 3, 1) := by decide +kernel
theorem dX6_reckon_79 : decode cX6_reckon 79 = .ok (.iload_n 3, 1) := by decide +kernel
theorem dX6_reckon_80 : decode cX6_reckon 80 = .ok (.bipush 100, 2) := by decide +kernel
theorem dX6_reckon_82 : decode cX6_reckon 82 = .ok (.aload_n 1, 1) := by decide +kernel
theorem dX6_reckon_83 : decode cX6_reckon 83 = .ok (.getfield 37, 3) := by decide +kernel
theorem dX6_reckon_86 : decode cX6_reckon 86 = .ok (.getfield 52, 3) := by decide +kernel
theorem dX6_reckon_89 : decode cX6_reckon 89 = .ok (.iload_n 2, 1) := by decide +kernel
theorem dX6_reckon_90 : decode cX6_reckon 90 = .ok (.aaload, 1) := by decide +kernel
theorem dX6_reckon_91 : decode cX6_reckon 91 = .ok (.getfield 56, 3) := by decide +kernel
theorem dX6_reckon_94 : decode cX6_reckon 94 = .ok (.iadd, 1) := by decide +kernel
theorem dX6_reckon_95 : decode cX6_reckon 95 = .ok (.imul, 1) := by decide +kernel
theorem dX6_reckon_96 : decode cX6_reckon 96 = .ok (.bipush 99, 2) := by decide +kernel
theorem dX6_reckon_98 : decode cX6_reckon 98 = .ok (.iadd, 1) := by decide +kernel
theorem dX6_reckon_99 : decode cX6_reckon 99 = .ok (.bipush 100, 2) := by decide +kernel
theorem dX6_reckon_101 : decode cX6_reckon 101 = .ok (.idiv, 1) := by decide +kernel
theorem dX6_reckon_102 : decode cX6_reckon 102 = .ok (.istore 4, 2) := by decide +kernel
theorem dX6_reckon_104 : decode cX6_reckon 104 = .ok (.iload_n 3, 1) := by decide +kernel
theorem dX6_reckon_105 : decode cX6_reckon 105 = .ok (.ifCond .le 14, 3) := by decide +kernel
theorem dX6_reckon_108 : decode cX6_reckon 108 = .ok (.aload_n 0, 1) := by decide +kernel
theorem dX6_reckon_109 : decode cX6_reckon 109 = .ok (.aload_n 1, 1) := by decide +kernel
theorem dX6_reckon_110 : decode cX6_reckon 110 = .ok (.getfield 37, 3) := by decide +kernel
theorem dX6_reckon_113 : decode cX6_reckon 113 = .ok (.iload_n 2, 1) := by decide +kernel
theorem dX6_reckon_114 : decode cX6_reckon 114 = .ok (.iload 4, 2) := by decide +kernel
theorem dX6_reckon_116 : decode cX6_reckon 116 = .ok (.invokevirtual 61, 3) := by decide +kernel
theorem dX6_reckon_119 : decode cX6_reckon 119 = .ok (.iinc 2 1, 3) := by decide +kernel
theorem dX6_reckon_122 : decode cX6_reckon 122 = .ok (.goto (-66), 3) := by decide +kernel
theorem dX6_reckon_125 : decode cX6_reckon 125 = .ok (.return_, 1) := by decide +kernel
theorem dX6_divide_0 : decode cX6_divide 0 = .ok (.iconst 0, 1) := by decide +kernel
theorem dX6_divide_1 : decode cX6_divide 1 = .ok (.istore 4, 2) := by decide +kernel
theorem dX6_divide_3 : decode cX6_divide 3 = .ok (.iconst 0, 1) := by decide +kernel
theorem dX6_divide_4 : decode cX6_divide 4 = .ok (.istore 5, 2) := by decide +kernel
theorem dX6_divide_6 : decode cX6_divide 6 = .ok (.iload 5, 2) := by decide +kernel
theorem dX6_divide_8 : decode cX6_divide 8 = .ok (.aload_n 1, 1) := by decide +kernel
theorem dX6_divide_9 : decode cX6_divide 9 = .ok (.getfield 65, 3) := by decide +kernel
theorem dX6_divide_12 : decode cX6_divide 12 = .ok (.if_icmp .ge 42, 3) := by decide +kernel
theorem dX6_divide_15 : decode cX6_divide 15 = .ok (.iload 4, 2) := by decide +kernel
theorem dX6_divide_17 : decode cX6_divide 17 = .ok (.aload_n 1, 1) := by decide +kernel
theorem dX6_divide_18 : decode cX6_divide 18 = .ok (.getfield 68, 3) := by decide +kernel
theorem dX6_divide_21 : decode cX6_divide 21 = .ok (.iload 5, 2) := by decide +kernel
theorem dX6_divide_23 : decode cX6_divide 23 = .ok (.aaload, 1) := by decide +kernel
theorem dX6_divide_24 : decode cX6_divide 24 = .ok (.getfield 72, 3) := by decide +kernel
theorem dX6_divide_27 : decode cX6_divide 27 = .ok (.iload_n 2, 1) := by decide +kernel
theorem dX6_divide_28 : decode cX6_divide 28 = .ok (.if_icmp .ne 16, 3) := by decide +kernel
theorem dX6_divide_31 : decode cX6_divide 31 = .ok (.aload_n 1, 1) := by decide +kernel
theorem dX6_divide_32 : decode cX6_divide 32 = .ok (.getfield 68, 3) := by decide +kernel
theorem dX6_divide_35 : decode cX6_divide 35 = .ok (.iload 5, 2) := by decide +kernel
theorem dX6_divide_37 : decode cX6_divide 37 = .ok (.aaload, 1) := by decide +kernel
theorem dX6_divide_38 : decode cX6_divide 38 = .ok (.getfield 76, 3) := by decide +kernel
theorem dX6_divide_41 : decode cX6_divide 41 = .ok (.goto 4, 3) := by decide +kernel
theorem dX6_divide_44 : decode cX6_divide 44 = .ok (.iconst 0, 1) := by decide +kernel
theorem dX6_divide_45 : decode cX6_divide 45 = .ok (.iadd, 1) := by decide +kernel
theorem dX6_divide_46 : decode cX6_divide 46 = .ok (.istore 4, 2) := by decide +kernel
theorem dX6_divide_48 : decode cX6_divide 48 = .ok (.iinc 5 1, 3) := by decide +kernel
theorem dX6_divide_51 : decode cX6_divide 51 = .ok (.goto (-45), 3) := by decide +kernel
theorem dX6_divide_54 : decode cX6_divide 54 = .ok (.iload 4, 2) := by decide +kernel
theorem dX6_divide_56 : decode cX6_divide 56 = .ok (.iconst 1, 1) := by decide +kernel
theorem dX6_divide_57 : decode cX6_divide 57 = .ok (.if_icmp .ge 4, 3) := by decide +kernel
theorem dX6_divide_60 : decode cX6_divide 60 = .ok (.return_, 1) := by decide +kernel
theorem dX6_divide_61 : decode cX6_divide 61 = .ok (.iload_n 3, 1) := by decide +kernel
theorem dX6_divide_62 : decode cX6_divide 62 = .ok (.istore 5, 2) := by decide +kernel
theorem dX6_divide_64 : decode cX6_divide 64 = .ok (.iconst 0, 1) := by decide +kernel
theorem dX6_divide_65 : decode cX6_divide 65 = .ok (.istore 6, 2) := by decide +kernel
theorem dX6_divide_67 : decode cX6_divide 67 = .ok (.iload 6, 2) := by decide +kernel
theorem dX6_divide_69 : decode cX6_divide 69 = .ok (.aload_n 1, 1) := by decide +kernel
theorem dX6_divide_70 : decode cX6_divide 70 = .ok (.getfield 65, 3) := by decide +kernel
theorem dX6_divide_73 : decode cX6_divide 73 = .ok (.if_icmp .ge 89, 3) := by decide +kernel
theorem dX6_divide_76 : decode cX6_divide 76 = .ok (.aload_n 0, 1) := by decide +kernel
theorem dX6_divide_77 : decode cX6_divide 77 = .ok (.getfield 15, 3) := by decide +kernel
theorem dX6_divide_80 : decode cX6_divide 80 = .ok (.iload 6, 2) := by decide +kernel
theorem dX6_divide_82 : decode cX6_divide 82 = .ok (.iconst (-1), 1) := by decide +kernel
theorem dX6_divide_83 : decode cX6_divide 83 = .ok (.iastore, 1) := by decide +kernel
theorem dX6_divide_84 : decode cX6_divide 84 = .ok (.aload_n 1, 1) := by decide +kernel
theorem dX6_divide_85 : decode cX6_divide 85 = .ok (.getfield 68, 3) := by decide +kernel
theorem dX6_divide_88 : decode cX6_divide 88 = .ok (.iload 6, 2) := by decide +kernel
theorem dX6_divide_90 : decode cX6_divide 90 = .ok (.aaload, 1) := by decide +kernel
theorem dX6_divide_91 : decode cX6_divide 91 = .ok (.getfield 72, 3) := by decide +kernel
theorem dX6_divide_94 : decode cX6_divide 94 = .ok (.iload_n 2, 1) := by decide +kernel
theorem dX6_divide_95 : decode cX6_divide 95 = .ok (.if_icmp .ne 61, 3) := by decide +kernel
theorem dX6_divide_98 : decode cX6_divide 98 = .ok (.iload_n 3, 1) := by decide +kernel
theorem dX6_divide_99 : decode cX6_divide 99 = .ok (.aload_n 1, 1) := by decide +kernel
theorem dX6_divide_100 : decode cX6_divide 100 = .ok (.getfield 68, 3) := by decide +kernel
theorem dX6_divide_103 : decode cX6_divide 103 = .ok (.iload 6, 2) := by decide +kernel
theorem dX6_divide_105 : decode cX6_divide 105 = .ok (.aaload, 1) := by decide +kernel
theorem dX6_divide_106 : decode cX6_divide 106 = .ok (.getfield 76, 3) := by decide +kernel
theorem dX6_divide_109 : decode cX6_divide 109 = .ok (.imul, 1) := by decide +kernel
theorem dX6_divide_110 : decode cX6_divide 110 = .ok (.iload 4, 2) := by decide +kernel
theorem dX6_divide_112 : decode cX6_divide 112 = .ok (.idiv, 1) := by decide +kernel
theorem dX6_divide_113 : decode cX6_divide 113 = .ok (.istore 7, 2) := by decide +kernel
theorem dX6_divide_115 : decode cX6_divide 115 = .ok (.aload_n 0, 1) := by decide +kernel
theorem dX6_divide_116 : decode cX6_divide 116 = .ok (.getfield 15, 3) := by decide +kernel
theorem dX6_divide_119 : decode cX6_divide 119 = .ok (.iload 6, 2) := by decide +kernel
theorem dX6_divide_121 : decode cX6_divide 121 = .ok (.iload_n 3, 1) := by decide +kernel
theorem dX6_divide_122 : decode cX6_divide 122 = .ok (.aload_n 1, 1) := by decide +kernel
theorem dX6_divide_123 : decode cX6_divide 123 = .ok (.getfield 68, 3) := by decide +kernel
theorem dX6_divide_126 : decode cX6_divide 126 = .ok (.iload 6, 2) := by decide +kernel
theorem dX6_divide_128 : decode cX6_divide 128 = .ok (.aaload, 1) := by decide +kernel
theorem dX6_divide_129 : decode cX6_divide 129 = .ok (.getfield 76, 3) := by decide +kernel
theorem dX6_divide_132 : decode cX6_divide 132 = .ok (.imul, 1) := by decide +kernel
theorem dX6_divide_133 : decode cX6_divide 133 = .ok (.iload 4, 2) := by decide +kernel
theorem dX6_divide_135 : decode cX6_divide 135 = .ok (.irem, 1) := by decide +kernel
theorem dX6_divide_136 : decode cX6_divide 136 = .ok (.iastore, 1) := by decide +kernel
theorem dX6_divide_137 : decode cX6_divide 137 = .ok (.aload_n 0, 1) := by decide +kernel
theorem dX6_divide_138 : decode cX6_divide 138 = .ok (.getfield 9, 3) := by decide +kernel
theorem dX6_divide_141 : decode cX6_divide 141 = .ok (.iload 6, 2) := by decide +kernel
theorem dX6_divide_143 : decode cX6_divide 143 = .ok (.dup2, 1) := by decide +kernel
theorem dX6_divide_144 : decode cX6_divide 144 = .ok (.iaload, 1) := by decide +kernel
theorem dX6_divide_145 : decode cX6_divide 145 = .ok (.iload 7, 2) := by decide +kernel
theorem dX6_divide_147 : decode cX6_divide 147 = .ok (.iadd, 1) := by decide +kernel
theorem dX6_divide_148 : decode cX6_divide 148 = .ok (.iastore, 1) := by decide +kernel
theorem dX6_divide_149 : decode cX6_divide 149 = .ok (.iload 5, 2) := by decide +kernel
theorem dX6_divide_151 : decode cX6_divide 151 = .ok (.iload 7, 2) := by decide +kernel
theorem dX6_divide_153 : decode cX6_divide 153 = .ok (.isub, 1) := by decide +kernel
theorem dX6_divide_154 : decode cX6_divide 154 = .ok (.istore 5, 2) := by decide +kernel
theorem dX6_divide_156 : decode cX6_divide 156 = .ok (.iinc 6 1, 3) := by decide +kernel
theorem dX6_divide_159 : decode cX6_divide 159 = .ok (.goto (-92), 3) := by decide +kernel
theorem dX6_divide_162 : decode cX6_divide 162 = .ok (.iload 5, 2) := by decide +kernel
theorem dX6_divide_164 : decode cX6_divide 164 = .ok (.ifCond .le 38, 3) := by decide +kernel
theorem dX6_divide_167 : decode cX6_divide 167 = .ok (.aload_n 0, 1) := by decide +kernel
theorem dX6_divide_168 : decode cX6_divide 168 = .ok (.aload_n 1, 1) := by decide +kernel
theorem dX6_divide_169 : decode cX6_divide 169 = .ok (.getfield 65, 3) := by decide +kernel
theorem dX6_divide_172 : decode cX6_divide 172 = .ok (.invokevirtual 79, 3) := by decide +kernel
theorem dX6_divide_175 : decode cX6_divide 175 = .ok (.istore 6, 2) := by decide +kernel
theorem dX6_divide_177 : decode cX6_divide 177 = .ok (.aload_n 0, 1) := by decide +kernel
theorem dX6_divide_178 : decode cX6_divide 178 = .ok (.getfield 9, 3) := by decide +kernel
theorem dX6_divide_181 : decode cX6_divide 181 = .ok (.iload 6, 2) := by decide +kernel
theorem dX6_divide_183 : decode cX6_divide 183 = .ok (.dup2, 1) := by decide +kernel
theorem dX6_divide_184 : decode cX6_divide 184 = .ok (.iaload, 1) := by decide +kernel
theorem dX6_divide_185 : decode cX6_divide 185 = .ok (.iconst 1, 1) := by decide +kernel
theorem dX6_divide_186 : decode cX6_divide 186 = .ok (.iadd, 1) := by decide +kernel
theorem dX6_divide_187 : decode cX6_divide 187 = .ok (.iastore, 1) := by decide +kernel
theorem dX6_divide_188 : decode cX6_divide 188 = .ok (.aload_n 0, 1) := by decide +kernel
theorem dX6_divide_189 : decode cX6_divide 189 = .ok (.getfield 15, 3) := by decide +kernel
theorem dX6_divide_192 : decode cX6_divide 192 = .ok (.iload 6, 2) := by decide +kernel
theorem dX6_divide_194 : decode cX6_divide 194 = .ok (.iconst (-1), 1) := by decide +kernel
theorem dX6_divide_195 : decode cX6_divide 195 = .ok (.iastore, 1) := by decide +kernel
theorem dX6_divide_196 : decode cX6_divide 196 = .ok (.iinc 5 (-1), 3) := by decide +kernel
theorem dX6_divide_199 : decode cX6_divide 199 = .ok (.goto (-37), 3) := by decide +kernel
theorem dX6_divide_202 : decode cX6_divide 202 = .ok (.return_, 1) := by decide +kernel
theorem dX6_greatestRemainder_0 : decode cX6_greatestRemainder 0 = .ok (.iconst 0, 1) := by decide +kernel
theorem dX6_greatestRemainder_1 : decode cX6_greatestRemainder 1 = .ok (.istore_n 2, 1) := by decide +kernel
theorem dX6_greatestRemainder_2 : decode cX6_greatestRemainder 2 = .ok (.iconst 1, 1) := by decide +kernel
theorem dX6_greatestRemainder_3 : decode cX6_greatestRemainder 3 = .ok (.istore_n 3, 1) := by decide +kernel
theorem dX6_greatestRemainder_4 : decode cX6_greatestRemainder 4 = .ok (.iload_n 3, 1) := by decide +kernel
theorem dX6_greatestRemainder_5 : decode cX6_greatestRemainder 5 = .ok (.iload_n 1, 1) := by decide +kernel
theorem dX6_greatestRemainder_6 : decode cX6_greatestRemainder 6 = .ok (.if_icmp .ge 26, 3) := by decide +kernel
theorem dX6_greatestRemainder_9 : decode cX6_greatestRemainder 9 = .ok (.aload_n 0, 1) := by decide +kernel
theorem dX6_greatestRemainder_10 : decode cX6_greatestRemainder 10 = .ok (.getfield 15, 3) := by decide +kernel
theorem dX6_greatestRemainder_13 : decode cX6_greatestRemainder 13 = .ok (.iload_n 3, 1) := by decide +kernel
theorem dX6_greatestRemainder_14 : decode cX6_greatestRemainder 14 = .ok (.iaload, 1) := by decide +kernel
theorem dX6_greatestRemainder_15 : decode cX6_greatestRemainder 15 = .ok (.aload_n 0, 1) := by decide +kernel
theorem dX6_greatestRemainder_16 : decode cX6_greatestRemainder 16 = .ok (.getfield 15, 3) := by decide +kernel
theorem dX6_greatestRemainder_19 : decode cX6_greatestRemainder 19 = .ok (.iload_n 2, 1) := by decide +kernel
theorem dX6_greatestRemainder_20 : decode cX6_greatestRemainder 20 = .ok (.iaload, 1) := by decide +kernel
theorem dX6_greatestRemainder_21 : decode cX6_greatestRemainder 21 = .ok (.if_icmp .le 5, 3) := by decide +kernel
theorem dX6_greatestRemainder_24 : decode cX6_greatestRemainder 24 = .ok (.iload_n 3, 1) := by decide +kernel
theorem dX6_greatestRemainder_25 : decode cX6_greatestRemainder 25 = .ok (.istore_n 2, 1) := by decide +kernel
theorem dX6_greatestRemainder_26 : decode cX6_greatestRemainder 26 = .ok (.iinc 3 1, 3) := by decide +kernel
theorem dX6_greatestRemainder_29 : decode cX6_greatestRemainder 29 = .ok (.goto (-25), 3) := by decide +kernel
theorem dX6_greatestRemainder_32 : decode cX6_greatestRemainder 32 = .ok (.iload_n 2, 1) := by decide +kernel
theorem dX6_greatestRemainder_33 : decode cX6_greatestRemainder 33 = .ok (.ireturn, 1) := by decide +kernel
theorem dX6_allUnits_0 : decode cX6_allUnits 0 = .ok (.iconst 0, 1) := by decide +kernel
theorem dX6_allUnits_1 : decode cX6_allUnits 1 = .ok (.istore_n 1, 1) := by decide +kernel
theorem dX6_allUnits_2 : decode cX6_allUnits 2 = .ok (.iconst 0, 1) := by decide +kernel
theorem dX6_allUnits_3 : decode cX6_allUnits 3 = .ok (.istore_n 2, 1) := by decide +kernel
theorem dX6_allUnits_4 : decode cX6_allUnits 4 = .ok (.iload_n 2, 1) := by decide +kernel
theorem dX6_allUnits_5 : decode cX6_allUnits 5 = .ok (.bipush 12, 2) := by decide +kernel
theorem dX6_allUnits_7 : decode cX6_allUnits 7 = .ok (.if_icmp .ge 18, 3) := by decide +kernel
theorem dX6_allUnits_10 : decode cX6_allUnits 10 = .ok (.iload_n 1, 1) := by decide +kernel
theorem dX6_allUnits_11 : decode cX6_allUnits 11 = .ok (.aload_n 0, 1) := by decide +kernel
theorem dX6_allUnits_12 : decode cX6_allUnits 12 = .ok (.getfield 9, 3) := by decide +kernel
theorem dX6_allUnits_15 : decode cX6_allUnits 15 = .ok (.iload_n 2, 1) := by decide +kernel
theorem dX6_allUnits_16 : decode cX6_allUnits 16 = .ok (.iaload, 1) := by decide +kernel
theorem dX6_allUnits_17 : decode cX6_allUnits 17 = .ok (.iadd, 1) := by decide +kernel
theorem dX6_allUnits_18 : decode cX6_allUnits 18 = .ok (.istore_n 1, 1) := by decide +kernel
theorem dX6_allUnits_19 : decode cX6_allUnits 19 = .ok (.iinc 2 1, 3) := by decide +kernel
theorem dX6_allUnits_22 : decode cX6_allUnits 22 = .ok (.goto (-18), 3) := by decide +kernel
theorem dX6_allUnits_25 : decode cX6_allUnits 25 = .ok (.iload_n 1, 1) := by decide +kernel
theorem dX6_allUnits_26 : decode cX6_allUnits 26 = .ok (.ireturn, 1) := by decide +kernel
theorem dX6_slotsOfMenu_0 : decode cX6_slotsOfMenu 0 = .ok (.iconst 0, 1) := by decide +kernel
theorem dX6_slotsOfMenu_1 : decode cX6_slotsOfMenu 1 = .ok (.istore_n 3, 1) := by decide +kernel
theorem dX6_slotsOfMenu_2 : decode cX6_slotsOfMenu 2 = .ok (.iconst 0, 1) := by decide +kernel
theorem dX6_slotsOfMenu_3 : decode cX6_slotsOfMenu 3 = .ok (.istore 4, 2) := by decide +kernel
theorem dX6_slotsOfMenu_5 : decode cX6_slotsOfMenu 5 = .ok (.iload 4, 2) := by decide +kernel
theorem dX6_slotsOfMenu_7 : decode cX6_slotsOfMenu 7 = .ok (.aload_n 1, 1) := by decide +kernel
theorem dX6_slotsOfMenu_8 : decode cX6_slotsOfMenu 8 = .ok (.getfield 65, 3) := by decide +kernel
theorem dX6_slotsOfMenu_11 : decode cX6_slotsOfMenu 11 = .ok (.if_icmp .ge 44, 3) := by decide +kernel
theorem dX6_slotsOfMenu_14 : decode cX6_slotsOfMenu 14 = .ok (.aload_n 1, 1) := by decide +kernel
theorem dX6_slotsOfMenu_15 : decode cX6_slotsOfMenu 15 = .ok (.getfield 68, 3) := by decide +kernel
theorem dX6_slotsOfMenu_18 : decode cX6_slotsOfMenu 18 = .ok (.iload 4, 2) := by decide +kernel
theorem dX6_slotsOfMenu_20 : decode cX6_slotsOfMenu 20 = .ok (.aaload, 1) := by decide +kernel
theorem dX6_slotsOfMenu_21 : decode cX6_slotsOfMenu 21 = .ok (.getfield 72, 3) := by decide +kernel
theorem dX6_slotsOfMenu_24 : decode cX6_slotsOfMenu 24 = .ok (.iload_n 2, 1) := by decide +kernel
theorem dX6_slotsOfMenu_25 : decode cX6_slotsOfMenu 25 = .ok (.if_icmp .ne 24, 3) := by decide +kernel
theorem dX6_slotsOfMenu_28 : decode cX6_slotsOfMenu 28 = .ok (.iload_n 3, 1) := by decide +kernel
theorem dX6_slotsOfMenu_29 : decode cX6_slotsOfMenu 29 = .ok (.aload_n 0, 1) := by decide +kernel
theorem dX6_slotsOfMenu_30 : decode cX6_slotsOfMenu 30 = .ok (.getfield 9, 3) := by decide +kernel
theorem dX6_slotsOfMenu_33 : decode cX6_slotsOfMenu 33 = .ok (.iload 4, 2) := by decide +kernel
theorem dX6_slotsOfMenu_35 : decode cX6_slotsOfMenu 35 = .ok (.iaload, 1) := by decide +kernel
theorem dX6_slotsOfMenu_36 : decode cX6_slotsOfMenu 36 = .ok (.aload_n 1, 1) := by decide +kernel
theorem dX6_slotsOfMenu_37 : decode cX6_slotsOfMenu 37 = .ok (.getfield 68, 3) := by decide +kernel
theorem dX6_slotsOfMenu_40 : decode cX6_slotsOfMenu 40 = .ok (.iload 4, 2) := by decide +kernel
theorem dX6_slotsOfMenu_42 : decode cX6_slotsOfMenu 42 = .ok (.aaload, 1) := by decide +kernel
theorem dX6_slotsOfMenu_43 : decode cX6_slotsOfMenu 43 = .ok (.getfield 82, 3) := by decide +kernel
theorem dX6_slotsOfMenu_46 : decode cX6_slotsOfMenu 46 = .ok (.imul, 1) := by decide +kernel
theorem dX6_slotsOfMenu_47 : decode cX6_slotsOfMenu 47 = .ok (.iadd, 1) := by decide +kernel
theorem dX6_slotsOfMenu_48 : decode cX6_slotsOfMenu 48 = .ok (.istore_n 3, 1) := by decide +kernel
theorem dX6_slotsOfMenu_49 : decode cX6_slotsOfMenu 49 = .ok (.iinc 4 1, 3) := by decide +kernel
theorem dX6_slotsOfMenu_52 : decode cX6_slotsOfMenu 52 = .ok (.goto (-47), 3) := by decide +kernel
theorem dX6_slotsOfMenu_55 : decode cX6_slotsOfMenu 55 = .ok (.iload_n 3, 1) := by decide +kernel
theorem dX6_slotsOfMenu_56 : decode cX6_slotsOfMenu 56 = .ok (.ireturn, 1) := by decide +kernel
theorem dX7_init_0 : decode cX7_init 0 = .ok (.aload_n 0, 1) := by decide +kernel
theorem dX7_init_1 : decode cX7_init 1 = .ok (.invokespecial 3, 3) := by decide +kernel
theorem dX7_init_4 : decode cX7_init 4 = .ok (.aload_n 0, 1) := by decide +kernel
theorem dX7_init_5 : decode cX7_init 5 = .ok (.iconst 4, 1) := by decide +kernel
theorem dX7_init_6 : decode cX7_init 6 = .ok (.anewarray 9, 3) := by decide +kernel
theorem dX7_init_9 : decode cX7_init 9 = .ok (.putfield 11, 3) := by decide +kernel
theorem dX7_init_12 : decode cX7_init 12 = .ok (.iconst 0, 1) := by decide +kernel
theorem dX7_init_13 : decode cX7_init 13 = .ok (.istore_n 1, 1) := by decide +kernel
theorem dX7_init_14 : decode cX7_init 14 = .ok (.iload_n 1, 1) := by decide +kernel
theorem dX7_init_15 : decode cX7_init 15 = .ok (.iconst 4, 1) := by decide +kernel
theorem dX7_init_16 : decode cX7_init 16 = .ok (.if_icmp .ge 22, 3) := by decide +kernel
theorem dX7_init_19 : decode cX7_init 19 = .ok (.aload_n 0, 1) := by decide +kernel
theorem dX7_init_20 : decode cX7_init 20 = .ok (.getfield 11, 3) := by decide +kernel
theorem dX7_init_23 : decode cX7_init 23 = .ok (.iload_n 1, 1) := by decide +kernel
theorem dX7_init_24 : decode cX7_init 24 = .ok (.new 9, 3) := by decide +kernel
theorem dX7_init_27 : decode cX7_init 27 = .ok (.dup, 1) := by decide +kernel
theorem dX7_init_28 : decode cX7_init 28 = .ok (.invokespecial 17, 3) := by decide +kernel
theorem dX7_init_31 : decode cX7_init 31 = .ok (.aastore, 1) := by decide +kernel
theorem dX7_init_32 : decode cX7_init 32 = .ok (.iinc 1 1, 3) := by decide +kernel
theorem dX7_init_35 : decode cX7_init 35 = .ok (.goto (-21), 3) := by decide +kernel
theorem dX7_init_38 : decode cX7_init 38 = .ok (.aload_n 0, 1) := by decide +kernel
theorem dX7_init_39 : decode cX7_init 39 = .ok (.bipush 12, 2) := by decide +kernel
theorem dX7_init_41 : decode cX7_init 41 = .ok (.anewarray 18, 3) := by decide +kernel
theorem dX7_init_44 : decode cX7_init 44 = .ok (.putfield 20, 3) := by decide +kernel
theorem dX7_init_47 : decode cX7_init 47 = .ok (.iconst 0, 1) := by decide +kernel
theorem dX7_init_48 : decode cX7_init 48 = .ok (.istore_n 1, 1) := by decide +kernel
theorem dX7_init_49 : decode cX7_init 49 = .ok (.iload_n 1, 1) := by decide +kernel
theorem dX7_init_50 : decode cX7_init 50 = .ok (.bipush 12, 2) := by decide +kernel
theorem dX7_init_52 : decode cX7_init 52 = .ok (.if_icmp .ge 22, 3) := by decide +kernel
theorem dX7_init_55 : decode cX7_init 55 = .ok (.aload_n 0, 1) := by decide +kernel
theorem dX7_init_56 : decode cX7_init 56 = .ok (.getfield 20, 3) := by decide +kernel
theorem dX7_init_59 : decode cX7_init 59 = .ok (.iload_n 1, 1) := by decide +kernel
theorem dX7_init_60 : decode cX7_init 60 = .ok (.new 18, 3) := by decide +kernel
theorem dX7_init_63 : decode cX7_init 63 = .ok (.dup, 1) := by decide +kernel
theorem dX7_init_64 : decode cX7_init 64 = .ok (.invokespecial 24, 3) := by decide +kernel
theorem dX7_init_67 : decode cX7_init 67 = .ok (.aastore, 1) := by decide +kernel
theorem dX7_init_68 : decode cX7_init 68 = .ok (.iinc 1 1, 3) := by decide +kernel
theorem dX7_init_71 : decode cX7_init 71 = .ok (.goto (-22), 3) := by decide +kernel
theorem dX7_init_74 : decode cX7_init 74 = .ok (.aload_n 0, 1) := by decide +kernel
theorem dX7_init_75 : decode cX7_init 75 = .ok (.bipush 8, 2) := by decide +kernel
theorem dX7_init_77 : decode cX7_init 77 = .ok (.newarray .int, 2) := by decide +kernel
theorem dX7_init_79 : decode cX7_init 79 = .ok (.putfield 25, 3) := by decide +kernel
theorem dX7_init_82 : decode cX7_init 82 = .ok (.aload_n 0, 1) := by decide +kernel
theorem dX7_init_83 : decode cX7_init 83 = .ok (.bipush 8, 2) := by decide +kernel
theorem dX7_init_85 : decode cX7_init 85 = .ok (.newarray .int, 2) := by decide +kernel
theorem dX7_init_87 : decode cX7_init 87 = .ok (.putfield 29, 3) := by decide +kernel
theorem dX7_init_90 : decode cX7_init 90 = .ok (.return_, 1) := by decide +kernel
theorem dX7_clear_0 : decode cX7_clear 0 = .ok (.aload_n 0, 1) := by decide +kernel
theorem dX7_clear_1 : decode cX7_clear 1 = .ok (.iconst 1, 1) := by decide +kernel
theorem dX7_clear_2 : decode cX7_clear 2 = .ok (.putfield 32, 3) := by decide +kernel
theorem dX7_clear_5 : decode cX7_clear 5 = .ok (.aload_n 0, 1) := by decide +kernel
theorem dX7_clear_6 : decode cX7_clear 6 = .ok (.iconst 0, 1) := by decide +kernel
theorem dX7_clear_7 : decode cX7_clear 7 = .ok (.putfield 36, 3) := by decide +kernel
theorem dX7_clear_10 : decode cX7_clear 10 = .ok (.aload_n 0, 1) := by decide +kernel
theorem dX7_clear_11 : decode cX7_clear 11 = .ok (.iconst 0, 1) := by decide +kernel
theorem dX7_clear_12 : decode cX7_clear 12 = .ok (.putfield 40, 3) := by decide +kernel
theorem dX7_clear_15 : decode cX7_clear 15 = .ok (.aload_n 0, 1) := by decide +kernel
theorem dX7_clear_16 : decode cX7_clear 16 = .ok (.iconst 0, 1) := by decide +kernel
theorem dX7_clear_17 : decode cX7_clear 17 = .ok (.putfield 43, 3) := by decide +kernel
theorem dX7_clear_20 : decode cX7_clear 20 = .ok (.aload_n 0, 1) := by decide +kernel
theorem dX7_clear_21 : decode cX7_clear 21 = .ok (.bipush 120, 2) := by decide +kernel
theorem dX7_clear_23 : decode cX7_clear 23 = .ok (.putfield 46, 3) := by decide +kernel
theorem dX7_clear_26 : decode cX7_clear 26 = .ok (.aload_n 0, 1) := by decide +kernel
theorem dX7_clear_27 : decode cX7_clear 27 = .ok (.bipush 30, 2) := by decide +kernel
theorem dX7_clear_29 : decode cX7_clear 29 = .ok (.putfield 49, 3) := by decide +kernel
theorem dX7_clear_32 : decode cX7_clear 32 = .ok (.aload_n 0, 1) := by decide +kernel
theorem dX7_clear_33 : decode cX7_clear 33 = .ok (.bipush 10, 2) := by decide +kernel
theorem dX7_clear_35 : decode cX7_clear 35 = .ok (.putfield 52, 3) := by decide +kernel
theorem dX7_clear_38 : decode cX7_clear 38 = .ok (.return_, 1) := by decide +kernel
theorem dX7_menuOf_0 : decode cX7_menuOf 0 = .ok (.iconst 0, 1) := by decide +kernel
theorem dX7_menuOf_1 : decode cX7_menuOf 1 = .ok (.istore_n 2, 1) := by decide +kernel
theorem dX7_menuOf_2 : decode cX7_menuOf 2 = .ok (.iconst 0, 1) := by decide +kernel
theorem dX7_menuOf_3 : decode cX7_menuOf 3 = .ok (.istore_n 3, 1) := by decide +kernel
theorem dX7_menuOf_4 : decode cX7_menuOf 4 = .ok (.iload_n 3, 1) := by decide +kernel
theorem dX7_menuOf_5 : decode cX7_menuOf 5 = .ok (.aload_n 0, 1) := by decide +kernel
theorem dX7_menuOf_6 : decode cX7_menuOf 6 = .ok (.getfield 40, 3) := by decide +kernel
theorem dX7_menuOf_9 : decode cX7_menuOf 9 = .ok (.if_icmp .ge 28, 3) := by decide +kernel
theorem dX7_menuOf_12 : decode cX7_menuOf 12 = .ok (.aload_n 0, 1) := by decide +kernel
theorem dX7_menuOf_13 : decode cX7_menuOf 13 = .ok (.getfield 20, 3) := by decide +kernel
theorem dX7_menuOf_16 : decode cX7_menuOf 16 = .ok (.iload_n 3, 1) := by decide +kernel
theorem dX7_menuOf_17 : decode cX7_menuOf 17 = .ok (.aaload, 1) := by decide +kernel
theorem dX7_menuOf_18 : decode cX7_menuOf 18 = .ok (.getfield 55, 3) := by decide +kernel
theorem dX7_menuOf_21 : decode cX7_menuOf 21 = .ok (.iload_n 1, 1) := by decide +kernel
theorem dX7_menuOf_22 : decode cX7_menuOf 22 = .ok (.if_icmp .ne 9, 3) := by decide +kernel
theorem dX7_menuOf_25 : decode cX7_menuOf 25 = .ok (.iload_n 2, 1) := by decide +kernel
theorem dX7_menuOf_26 : decode cX7_menuOf 26 = .ok (.iconst 1, 1) := by decide +kernel
theorem dX7_menuOf_27 : decode cX7_menuOf 27 = .ok (.iload_n 3, 1) := by decide +kernel
theorem dX7_menuOf_28 : decode cX7_menuOf 28 = .ok (.ishl, 1) := by decide +kernel
theorem dX7_menuOf_29 : decode cX7_menuOf 29 = .ok (.ior, 1) := by decide +kernel
theorem dX7_menuOf_30 : decode cX7_menuOf 30 = .ok (.istore_n 2, 1) := by decide +kernel
theorem dX7_menuOf_31 : decode cX7_menuOf 31 = .ok (.iinc 3 1, 3) := by decide +kernel
theorem dX7_menuOf_34 : decode cX7_menuOf 34 = .ok (.goto (-30), 3) := by decide +kernel
theorem dX7_menuOf_37 : decode cX7_menuOf 37 = .ok (.iload_n 2, 1) := by decide +kernel
theorem dX7_menuOf_38 : decode cX7_menuOf 38 = .ok (.ireturn, 1) := by decide +kernel
theorem dX7_trolleysOf_0 : decode cX7_trolleysOf 0 = .ok (.iconst 0, 1) := by decide +kernel
theorem dX7_trolleysOf_1 : decode cX7_trolleysOf 1 = .ok (.istore_n 2, 1) := by decide +kernel
theorem dX7_trolleysOf_2 : decode cX7_trolleysOf 2 = .ok (.iconst 0, 1) := by decide +kernel
theorem dX7_trolleysOf_3 : decode cX7_trolleysOf 3 = .ok (.istore_n 3, 1) := by decide +kernel
theorem dX7_trolleysOf_4 : decode cX7_trolleysOf 4 = .ok (.iload_n 3, 1) := by decide +kernel
theorem dX7_trolleysOf_5 : decode cX7_trolleysOf 5 = .ok (.aload_n 0, 1) := by decide +kernel
theorem dX7_trolleysOf_6 : decode cX7_trolleysOf 6 = .ok (.getfield 43, 3) := by decide +kernel
theorem dX7_trolleysOf_9 : decode cX7_trolleysOf 9 = .ok (.if_icmp .ge 22, 3) := by decide +kernel
theorem dX7_trolleysOf_12 : decode cX7_trolleysOf 12 = .ok (.aload_n 0, 1) := by decide +kernel
theorem dX7_trolleysOf_13 : decode cX7_trolleysOf 13 = .ok (.getfield 25, 3) := by decide +kernel
theorem dX7_trolleysOf_16 : decode cX7_trolleysOf 16 = .ok (.iload_n 3, 1) := by decide +kernel
theorem dX7_trolleysOf_17 : decode cX7_trolleysOf 17 = .ok (.iaload, 1) := by decide +kernel
theorem dX7_trolleysOf_18 : decode cX7_trolleysOf 18 = .ok (.iload_n 1, 1) := by decide +kernel
theorem dX7_trolleysOf_19 : decode cX7_trolleysOf 19 = .ok (.if_icmp .ne 6, 3) := by decide +kernel
theorem dX7_trolleysOf_22 : decode cX7_trolleysOf 22 = .ok (.iinc 2 1, 3) := by decide +kernel
theorem dX7_trolleysOf_25 : decode cX7_trolleysOf 25 = .ok (.iinc 3 1, 3) := by decide +kernel
theorem dX7_trolleysOf_28 : decode cX7_trolleysOf 28 = .ok (.goto (-24), 3) := by decide +kernel
theorem dX7_trolleysOf_31 : decode cX7_trolleysOf 31 = .ok (.iload_n 2, 1) := by decide +kernel
theorem dX7_trolleysOf_32 : decode cX7_trolleysOf 32 = .ok (.ireturn, 1) := by decide +kernel
theorem dX7_admits_0 : decode cX7_admits 0 = .ok (.aload_n 0, 1) := by decide +kernel
theorem dX7_admits_1 : decode cX7_admits 1 = .ok (.getfield 20, 3) := by decide +kernel
theorem dX7_admits_4 : decode cX7_admits 4 = .ok (.iload_n 2, 1) := by decide +kernel
theorem dX7_admits_5 : decode cX7_admits 5 = .ok (.aaload, 1) := by decide +kernel
theorem dX7_admits_6 : decode cX7_admits 6 = .ok (.getfield 55, 3) := by decide +kernel
theorem dX7_admits_9 : decode cX7_admits 9 = .ok (.iconst (-1), 1) := by decide +kernel
theorem dX7_admits_10 : decode cX7_admits 10 = .ok (.if_icmp .eq 16, 3) := by decide +kernel
theorem dX7_admits_13 : decode cX7_admits 13 = .ok (.aload_n 0, 1) := by decide +kernel
theorem dX7_admits_14 : decode cX7_admits 14 = .ok (.getfield 20, 3) := by decide +kernel
theorem dX7_admits_17 : decode cX7_admits 17 = .ok (.iload_n 2, 1) := by decide +kernel
theorem dX7_admits_18 : decode cX7_admits 18 = .ok (.aaload, 1) := by decide +kernel
theorem dX7_admits_19 : decode cX7_admits 19 = .ok (.getfield 55, 3) := by decide +kernel
theorem dX7_admits_22 : decode cX7_admits 22 = .ok (.iload_n 1, 1) := by decide +kernel
theorem dX7_admits_23 : decode cX7_admits 23 = .ok (.if_icmp .ne 7, 3) := by decide +kernel
theorem dX7_admits_26 : decode cX7_admits 26 = .ok (.iconst 1, 1) := by decide +kernel
theorem dX7_admits_27 : decode cX7_admits 27 = .ok (.goto 4, 3) := by decide +kernel
theorem dX7_admits_30 : decode cX7_admits 30 = .ok (.iconst 0, 1) := by decide +kernel
theorem dX7_admits_31 : decode cX7_admits 31 = .ok (.ireturn, 1) := by decide +kernel
theorem dX7_suiting_0 : decode cX7_suiting 0 = .ok (.iconst 0, 1) := by decide +kernel
theorem dX7_suiting_1 : decode cX7_suiting 1 = .ok (.istore_n 3, 1) := by decide +kernel
theorem dX7_suiting_2 : decode cX7_suiting 2 = .ok (.iconst 0, 1) := by decide +kernel
theorem dX7_suiting_3 : decode cX7_suiting 3 = .ok (.istore 4, 2) := by decide +kernel
theorem dX7_suiting_5 : decode cX7_suiting 5 = .ok (.iload 4, 2) := by decide +kernel
theorem dX7_suiting_7 : decode cX7_suiting 7 = .ok (.aload_n 0, 1) := by decide +kernel
theorem dX7_suiting_8 : decode cX7_suiting 8 = .ok (.getfield 40, 3) := by decide +kernel
theorem dX7_suiting_11 : decode cX7_suiting 11 = .ok (.if_icmp .ge 43, 3) := by decide +kernel
theorem dX7_suiting_14 : decode cX7_suiting 14 = .ok (.aload_n 0, 1) := by decide +kernel
theorem dX7_suiting_15 : decode cX7_suiting 15 = .ok (.iload_n 1, 1) := by decide +kernel
theorem dX7_suiting_16 : decode cX7_suiting 16 = .ok (.iload 4, 2) := by decide +kernel
theorem dX7_suiting_18 : decode cX7_suiting 18 = .ok (.invokevirtual 57, 3) := by decide +kernel
theorem dX7_suiting_21 : decode cX7_suiting 21 = .ok (.ifCond .eq 27, 3) := by decide +kernel
theorem dX7_suiting_24 : decode cX7_suiting 24 = .ok (.iload_n 2, 1) := by decide +kernel
theorem dX7_suiting_25 : decode cX7_suiting 25 = .ok (.aload_n 0, 1) := by decide +kernel
theorem dX7_suiting_26 : decode cX7_suiting 26 = .ok (.getfield 20, 3) := by decide +kernel
theorem dX7_suiting_29 : decode cX7_suiting 29 = .ok (.iload 4, 2) := by decide +kernel
theorem dX7_suiting_31 : decode cX7_suiting 31 = .ok (.aaload, 1) := by decide +kernel
theorem dX7_suiting_32 : decode cX7_suiting 32 = .ok (.getfield 61, 3) := by decide +kernel
theorem dX7_suiting_35 : decode cX7_suiting 35 = .ok (.iconst (-1), 1) := by decide +kernel
theorem dX7_suiting_36 : decode cX7_suiting 36 = .ok (.ixor, 1) := by decide +kernel
theorem dX7_suiting_37 : decode cX7_suiting 37 = .ok (.iand, 1) := by decide +kernel
theorem dX7_suiting_38 : decode cX7_suiting 38 = .ok (.ifCond .ne 10, 3) := by decide +kernel
theorem dX7_suiting_41 : decode cX7_suiting 41 = .ok (.iload_n 3, 1) := by decide +kernel
theorem dX7_suiting_42 : decode cX7_suiting 42 = .ok (.iconst 1, 1) := by decide +kernel
theorem dX7_suiting_43 : decode cX7_suiting 43 = .ok (.iload 4, 2) := by decide +kernel
theorem dX7_suiting_45 : decode cX7_suiting 45 = .ok (.ishl, 1) := by decide +kernel
theorem dX7_suiting_46 : decode cX7_suiting 46 = .ok (.ior, 1) := by decide +kernel
theorem dX7_suiting_47 : decode cX7_suiting 47 = .ok (.istore_n 3, 1) := by decide +kernel
theorem dX7_suiting_48 : decode cX7_suiting 48 = .ok (.iinc 4 1, 3) := by decide +kernel
theorem dX7_suiting_51 : decode cX7_suiting 51 = .ok (.goto (-46), 3) := by decide +kernel
theorem dX7_suiting_54 : decode cX7_suiting 54 = .ok (.iload_n 3, 1) := by decide +kernel
theorem dX7_suiting_55 : decode cX7_suiting 55 = .ok (.ireturn, 1) := by decide +kernel
theorem dX7_cheapestOf_0 : decode cX7_cheapestOf 0 = .ok (.iconst (-1), 1) := by decide +kernel
theorem dX7_cheapestOf_1 : decode cX7_cheapestOf 1 = .ok (.istore_n 2, 1) := by decide +kernel
theorem dX7_cheapestOf_2 : decode cX7_cheapestOf 2 = .ok (.iconst 0, 1) := by decide +kernel
theorem dX7_cheapestOf_3 : decode cX7_cheapestOf 3 = .ok (.istore_n 3, 1) := by decide +kernel
theorem dX7_cheapestOf_4 : decode cX7_cheapestOf 4 = .ok (.iload_n 3, 1) := by decide +kernel
theorem dX7_cheapestOf_5 : decode cX7_cheapestOf 5 = .ok (.aload_n 0, 1) := by decide +kernel
theorem dX7_cheapestOf_6 : decode cX7_cheapestOf 6 = .ok (.getfield 40, 3) := by decide +kernel
theorem dX7_cheapestOf_9 : decode cX7_cheapestOf 9 = .ok (.if_icmp .ge 46, 3) := by decide +kernel
theorem dX7_cheapestOf_12 : decode cX7_cheapestOf 12 = .ok (.iload_n 1, 1) := by decide +kernel
theorem dX7_cheapestOf_13 : decode cX7_cheapestOf 13 = .ok (.iload_n 3, 1) := by decide +kernel
theorem dX7_cheapestOf_14 : decode cX7_cheapestOf 14 = .ok (.ishr, 1) := by decide +kernel
theorem dX7_cheapestOf_15 : decode cX7_cheapestOf 15 = .ok (.iconst 1, 1) := by decide +kernel
theorem dX7_cheapestOf_16 : decode cX7_cheapestOf 16 = .ok (.iand, 1) := by decide +kernel
theorem dX7_cheapestOf_17 : decode cX7_cheapestOf 17 = .ok (.iconst 1, 1) := by decide +kernel
theorem dX7_cheapestOf_18 : decode cX7_cheapestOf 18 = .ok (.if_icmp .ne 31, 3) := by decide +kernel
theorem dX7_cheapestOf_21 : decode cX7_cheapestOf 21 = .ok (.iload_n 2, 1) := by decide +kernel
theorem dX7_cheapestOf_22 : decode cX7_cheapestOf 22 = .ok (.iconst (-1), 1) := by decide +kernel
theorem dX7_cheapestOf_23 : decode cX7_cheapestOf 23 = .ok (.if_icmp .eq 24, 3) := by decide +kernel
theorem dX7_cheapestOf_26 : decode cX7_cheapestOf 26 = .ok (.aload_n 0, 1) := by decide +kernel
theorem dX7_cheapestOf_27 : decode cX7_cheapestOf 27 = .ok (.getfield 20, 3) := by decide +kernel
theorem dX7_cheapestOf_30 : decode cX7_cheapestOf 30 = .ok (.iload_n 3, 1) := by decide +kernel
theorem dX7_cheapestOf_31 : decode cX7_cheapestOf 31 = .ok (.aaload, 1) := by decide +kernel
theorem dX7_cheapestOf_32 : decode cX7_cheapestOf 32 = .ok (.getfield 64, 3) := by decide +kernel
theorem dX7_cheapestOf_35 : decode cX7_cheapestOf 35 = .ok (.aload_n 0, 1) := by decide +kernel
theorem dX7_cheapestOf_36 : decode cX7_cheapestOf 36 = .ok (.getfield 20, 3) := by decide +kernel
theorem dX7_cheapestOf_39 : decode cX7_cheapestOf 39 = .ok (.iload_n 2, 1) := by decide +kernel
theorem dX7_cheapestOf_40 : decode cX7_cheapestOf 40 = .ok (.aaload, 1) := by decide +kernel
theorem dX7_cheapestOf_41 : decode cX7_cheapestOf 41 = .ok (.getfield 64, 3) := by decide +kernel
theorem dX7_cheapestOf_44 : decode cX7_cheapestOf 44 = .ok (.if_icmp .ge 5, 3) := by decide +kernel
theorem dX7_cheapestOf_47 : decode cX7_cheapestOf 47 = .ok (.iload_n 3, 1) := by decide +kernel
theorem dX7_cheapestOf_48 : decode cX7_cheapestOf 48 = .ok (.istore_n 2, 1) := by decide +kernel
theorem dX7_cheapestOf_49 : decode cX7_cheapestOf 49 = .ok (.iinc 3 1, 3) := by decide +kernel
theorem dX7_cheapestOf_52 : decode cX7_cheapestOf 52 = .ok (.goto (-48), 3) := by decide +kernel
theorem dX7_cheapestOf_55 : decode cX7_cheapestOf 55 = .ok (.iload_n 2, 1) := by decide +kernel
theorem dX7_cheapestOf_56 : decode cX7_cheapestOf 56 = .ok (.ireturn, 1) := by decide +kernel
theorem dX8_init_0 : decode cX8_init 0 = .ok (.aload_n 0, 1) := by decide +kernel
theorem dX8_init_1 : decode cX8_init 1 = .ok (.invokespecial 3, 3) := by decide +kernel
theorem dX8_init_4 : decode cX8_init 4 = .ok (.aload_n 0, 1) := by decide +kernel
theorem dX8_init_5 : decode cX8_init 5 = .ok (.bipush 40, 2) := by decide +kernel
theorem dX8_init_7 : decode cX8_init 7 = .ok (.newarray .int, 2) := by decide +kernel
theorem dX8_init_9 : decode cX8_init 9 = .ok (.putfield 9, 3) := by decide +kernel
theorem dX8_init_12 : decode cX8_init 12 = .ok (.aload_n 0, 1) := by decide +kernel
theorem dX8_init_13 : decode cX8_init 13 = .ok (.bipush 12, 2) := by decide +kernel
theorem dX8_init_15 : decode cX8_init 15 = .ok (.newarray .int, 2) := by decide +kernel
theorem dX8_init_17 : decode cX8_init 17 = .ok (.putfield 15, 3) := by decide +kernel
theorem dX8_init_20 : decode cX8_init 20 = .ok (.aload_n 0, 1) := by decide +kernel
theorem dX8_init_21 : decode cX8_init 21 = .ok (.bipush 12, 2) := by decide +kernel
theorem dX8_init_23 : decode cX8_init 23 = .ok (.newarray .int, 2) := by decide +kernel
theorem dX8_init_25 : decode cX8_init 25 = .ok (.putfield 18, 3) := by decide +kernel
theorem dX8_init_28 : decode cX8_init 28 = .ok (.return_, 1) := by decide +kernel
theorem dX8_reckon_0 : decode cX8_reckon 0 = .ok (.aload_n 0, 1) := by decide +kernel
theorem dX8_reckon_1 : decode cX8_reckon 1 = .ok (.iconst 0, 1) := by decide +kernel
theorem dX8_reckon_2 : decode cX8_reckon 2 = .ok (.putfield 21, 3) := by decide +kernel
theorem dX8_reckon_5 : decode cX8_reckon 5 = .ok (.aload_n 0, 1) := by decide +kernel
theorem dX8_reckon_6 : decode cX8_reckon 6 = .ok (.iconst 0, 1) := by decide +kernel
theorem dX8_reckon_7 : decode cX8_reckon 7 = .ok (.putfield 25, 3) := by decide +kernel
theorem dX8_reckon_10 : decode cX8_reckon 10 = .ok (.aload_n 0, 1) := by decide +kernel
theorem dX8_reckon_11 : decode cX8_reckon 11 = .ok (.getfield 18, 3) := by decide +kernel
theorem dX8_reckon_14 : decode cX8_reckon 14 = .ok (.iconst 0, 1) := by decide +kernel
theorem dX8_reckon_15 : decode cX8_reckon 15 = .ok (.invokestatic 28, 3) := by decide +kernel
theorem dX8_reckon_18 : decode cX8_reckon 18 = .ok (.iconst 0, 1) := by decide +kernel
theorem dX8_reckon_19 : decode cX8_reckon 19 = .ok (.istore_n 3, 1) := by decide +kernel
theorem dX8_reckon_20 : decode cX8_reckon 20 = .ok (.iload_n 3, 1) := by decide +kernel
theorem dX8_reckon_21 : decode cX8_reckon 21 = .ok (.aload_n 1, 1) := by decide +kernel
theorem dX8_reckon_22 : decode cX8_reckon 22 = .ok (.getfield 34, 3) := by decide +kernel
theorem dX8_reckon_25 : decode cX8_reckon 25 = .ok (.getfield 40, 3) := by decide +kernel
theorem dX8_reckon_28 : decode cX8_reckon 28 = .ok (.if_icmp .ge 20, 3) := by decide +kernel
theorem dX8_reckon_31 : decode cX8_reckon 31 = .ok (.aload_n 0, 1) := by decide +kernel
theorem dX8_reckon_32 : decode cX8_reckon 32 = .ok (.getfield 15, 3) := by decide +kernel
theorem dX8_reckon_35 : decode cX8_reckon 35 = .ok (.iload_n 3, 1) := by decide +kernel
theorem dX8_reckon_36 : decode cX8_reckon 36 = .ok (.aload_n 1, 1) := by decide +kernel
theorem dX8_reckon_37 : decode cX8_reckon 37 = .ok (.iload_n 3, 1) := by decide +kernel
theorem dX8_reckon_38 : decode cX8_reckon 38 = .ok (.invokevirtual 45, 3) := by decide +kernel
theorem dX8_reckon_41 : decode cX8_reckon 41 = .ok (.iastore, 1) := by decide +kernel
theorem dX8_reckon_42 : decode cX8_reckon 42 = .ok (.iinc 3 1, 3) := by decide +kernel
theorem dX8_reckon_45 : decode cX8_reckon 45 = .ok (.goto (-25), 3) := by decide +kernel
theorem dX8_reckon_48 : decode cX8_reckon 48 = .ok (.iconst 0, 1) := by decide +kernel
theorem dX8_reckon_49 : decode cX8_reckon 49 = .ok (.istore_n 3, 1) := by decide +kernel
theorem dX8_reckon_50 : decode cX8_reckon 50 = .ok (.iload_n 3, 1) := by decide +kernel
theorem dX8_reckon_51 : decode cX8_reckon 51 = .ok (.aload_n 1, 1) := by decide +kernel
theorem dX8_reckon_52 : decode cX8_reckon 52 = .ok (.getfield 49, 3) := by decide +kernel
theorem dX8_reckon_55 : decode cX8_reckon 55 = .ok (.if_icmp .ge 17, 3) := by decide +kernel
theorem dX8_reckon_58 : decode cX8_reckon 58 = .ok (.aload_n 0, 1) := by decide +kernel
theorem dX8_reckon_59 : decode cX8_reckon 59 = .ok (.iload_n 3, 1) := by decide +kernel
theorem dX8_reckon_60 : decode cX8_reckon 60 = .ok (.aload_n 2, 1) := by decide +kernel
theorem dX8_reckon_61 : decode cX8_reckon 61 = .ok (.iload_n 3, 1) := by decide +kernel
theorem dX8_reckon_62 : decode cX8_reckon 62 = .ok (.iaload, 1) := by decide +kernel
theorem dX8_reckon_63 : decode cX8_reckon 63 = .ok (.invokevirtual 52, 3) := by decide +kernel
theorem dX8_reckon_66 : decode cX8_reckon 66 = .ok (.iinc 3 1, 3) := by decide +kernel
theorem dX8_reckon_69 : decode cX8_reckon 69 = .ok (.goto (-19), 3) := by decide +kernel
theorem dX8_reckon_72 : decode cX8_reckon 72 = .ok (.aload_n 0, 1) := by decide +kernel
theorem dX8_reckon_73 : decode cX8_reckon 73 = .ok (.aload_n 0, 1) := by decide +kernel
theorem dX8_reckon_74 : decode cX8_reckon 74 = .ok (.getfield 21, 3) := by decide +kernel
theorem dX8_reckon_77 : decode cX8_reckon 77 = .ok (.putfield 56, 3) := by decide +kernel
theorem dX8_reckon_80 : decode cX8_reckon 80 = .ok (.aload_n 0, 1) := by decide +kernel
theorem dX8_reckon_81 : decode cX8_reckon 81 = .ok (.aload_n 1, 1) := by decide +kernel
theorem dX8_reckon_82 : decode cX8_reckon 82 = .ok (.invokevirtual 59, 3) := by decide +kernel
theorem dX8_reckon_85 : decode cX8_reckon 85 = .ok (.aload_n 0, 1) := by decide +kernel
theorem dX8_reckon_86 : decode cX8_reckon 86 = .ok (.aload_n 1, 1) := by decide +kernel
theorem dX8_reckon_87 : decode cX8_reckon 87 = .ok (.getfield 34, 3) := by decide +kernel
theorem dX8_reckon_90 : decode cX8_reckon 90 = .ok (.invokevirtual 63, 3) := by decide +kernel
theorem dX8_reckon_93 : decode cX8_reckon 93 = .ok (.return_, 1) := by decide +kernel
theorem dX8_servePlain_0 : decode cX8_servePlain 0 = .ok (.iconst 0, 1) := by decide +kernel
theorem dX8_servePlain_1 : decode cX8_servePlain 1 = .ok (.istore_n 2, 1) := by decide +kernel
theorem dX8_servePlain_2 : decode cX8_servePlain 2 = .ok (.iload_n 2, 1) := by decide +kernel
theorem dX8_servePlain_3 : decode cX8_servePlain 3 = .ok (.aload_n 1, 1) := by decide +kernel
theorem dX8_servePlain_4 : decode cX8_servePlain 4 = .ok (.getfield 49, 3) := by decide +kernel
theorem dX8_servePlain_7 : decode cX8_servePlain 7 = .ok (.if_icmp .ge 93, 3) := by decide +kernel
theorem dX8_servePlain_10 : decode cX8_servePlain 10 = .ok (.aload_n 1, 1) := by decide +kernel
theorem dX8_servePlain_11 : decode cX8_servePlain 11 = .ok (.getfield 67, 3) := by decide +kernel
theorem dX8_servePlain_14 : decode cX8_servePlain 14 = .ok (.iload_n 2, 1) := by decide +kernel
theorem dX8_servePlain_15 : decode cX8_servePlain 15 = .ok (.iaload, 1) := by decide +kernel
theorem dX8_servePlain_16 : decode cX8_servePlain 16 = .ok (.ifCond .ne 78, 3) := by decide +kernel
theorem dX8_servePlain_19 : decode cX8_servePlain 19 = .ok (.aload_n 1, 1) := by decide +kernel
theorem dX8_servePlain_20 : decode cX8_servePlain 20 = .ok (.getfield 70, 3) := by decide +kernel
theorem dX8_servePlain_23 : decode cX8_servePlain 23 = .ok (.iload_n 2, 1) := by decide +kernel
theorem dX8_servePlain_24 : decode cX8_servePlain 24 = .ok (.iaload, 1) := by decide +kernel
theorem dX8_servePlain_25 : decode cX8_servePlain 25 = .ok (.istore_n 3, 1) := by decide +kernel
theorem dX8_servePlain_26 : decode cX8_servePlain 26 = .ok (.iload_n 3, 1) := by decide +kernel
theorem dX8_servePlain_27 : decode cX8_servePlain 27 = .ok (.iconst (-1), 1) := by decide +kernel
theorem dX8_servePlain_28 : decode cX8_servePlain 28 = .ok (.if_icmp .eq 16, 3) := by decide +kernel
theorem dX8_servePlain_31 : decode cX8_servePlain 31 = .ok (.aload_n 0, 1) := by decide +kernel
theorem dX8_servePlain_32 : decode cX8_servePlain 32 = .ok (.getfield 15, 3) := by decide +kernel
theorem dX8_servePlain_35 : decode cX8_servePlain 35 = .ok (.iload_n 3, 1) := by decide +kernel
theorem dX8_servePlain_36 : decode cX8_servePlain 36 = .ok (.iaload, 1) := by decide +kernel
theorem dX8_servePlain_37 : decode cX8_servePlain 37 = .ok (.ifCond .le 7, 3) := by decide +kernel
theorem dX8_servePlain_40 : decode cX8_servePlain 40 = .ok (.iconst 1, 1) := by decide +kernel
theorem dX8_servePlain_41 : decode cX8_servePlain 41 = .ok (.goto 4, 3) := by decide +kernel
theorem dX8_servePlain_44 : decode cX8_servePlain 44 = .ok (.iconst 0, 1) := by decide +kernel
theorem dX8_servePlain_45 : decode cX8_servePlain 45 = .ok (.istore 4, 2) := by decide +kernel
theorem dX8_servePlain_47 : decode cX8_servePlain 47 = .ok (.aload_n 0, 1) := by decide +kernel
theorem dX8_servePlain_48 : decode cX8_servePlain 48 = .ok (.iload_n 2, 1) := by decide +kernel
theorem dX8_servePlain_49 : decode cX8_servePlain 49 = .ok (.iload 4, 2) := by decide +kernel
theorem dX8_servePlain_51 : decode cX8_servePlain 51 = .ok (.ifCond .eq 7, 3) := by decide +kernel
theorem dX8_servePlain_54 : decode cX8_servePlain 54 = .ok (.iload_n 3, 1) := by decide +kernel
theorem dX8_servePlain_55 : decode cX8_servePlain 55 = .ok (.goto 17, 3) := by decide +kernel
theorem dX8_servePlain_58 : decode cX8_servePlain 58 = .ok (.aload_n 0, 1) := by decide +kernel
theorem dX8_servePlain_59 : decode cX8_servePlain 59 = .ok (.aload_n 1, 1) := by decide +kernel
theorem dX8_servePlain_60 : decode cX8_servePlain 60 = .ok (.getfield 34, 3) := by decide +kernel
theorem dX8_servePlain_63 : decode cX8_servePlain 63 = .ok (.aload_n 1, 1) := by decide +kernel
theorem dX8_servePlain_64 : decode cX8_servePlain 64 = .ok (.getfield 73, 3) := by decide +kernel
theorem dX8_servePlain_67 : decode cX8_servePlain 67 = .ok (.iload_n 2, 1) := by decide +kernel
theorem dX8_servePlain_68 : decode cX8_servePlain 68 = .ok (.iaload, 1) := by decide +kernel
theorem dX8_servePlain_69 : decode cX8_servePlain 69 = .ok (.invokevirtual 76, 3) := by decide +kernel
theorem dX8_servePlain_72 : decode cX8_servePlain 72 = .ok (.invokevirtual 52, 3) := by decide +kernel
theorem dX8_servePlain_75 : decode cX8_servePlain 75 = .ok (.aload_n 0, 1) := by decide +kernel
theorem dX8_servePlain_76 : decode cX8_servePlain 76 = .ok (.dup, 1) := by decide +kernel
theorem dX8_servePlain_77 : decode cX8_servePlain 77 = .ok (.getfield 25, 3) := by decide +kernel
theorem dX8_servePlain_80 : decode cX8_servePlain 80 = .ok (.iload 4, 2) := by decide +kernel
theorem dX8_servePlain_82 : decode cX8_servePlain 82 = .ok (.ifCond .eq 7, 3) := by decide +kernel
theorem dX8_servePlain_85 : decode cX8_servePlain 85 = .ok (.iconst 1, 1) := by decide +kernel
theorem dX8_servePlain_86 : decode cX8_servePlain 86 = .ok (.goto 4, 3) := by decide +kernel
theorem dX8_servePlain_89 : decode cX8_servePlain 89 = .ok (.iconst 0, 1) := by decide +kernel
theorem dX8_servePlain_90 : decode cX8_servePlain 90 = .ok (.iadd, 1) := by decide +kernel
theorem dX8_servePlain_91 : decode cX8_servePlain 91 = .ok (.putfield 25, 3) := by decide +kernel
theorem dX8_servePlain_94 : decode cX8_servePlain 94 = .ok (.iinc 2 1, 3) := by decide +kernel
theorem dX8_servePlain_97 : decode cX8_servePlain 97 = .ok (.goto (-95), 3) := by decide +kernel
theorem dX8_servePlain_100 : decode cX8_servePlain 100 = .ok (.return_, 1) := by decide +kernel
theorem dX8_mostLeft_0 : decode cX8_mostLeft 0 = .ok (.iconst (-1), 1) := by decide +kernel
theorem dX8_mostLeft_1 : decode cX8_mostLeft 1 = .ok (.istore_n 3, 1) := by decide +kernel
theorem dX8_mostLeft_2 : decode cX8_mostLeft 2 = .ok (.iconst 0, 1) := by decide +kernel
theorem dX8_mostLeft_3 : decode cX8_mostLeft 3 = .ok (.istore 4, 2) := by decide +kernel
theorem dX8_mostLeft_5 : decode cX8_mostLeft 5 = .ok (.iload 4, 2) := by decide +kernel
theorem dX8_mostLeft_7 : decode cX8_mostLeft 7 = .ok (.aload_n 1, 1) := by decide +kernel
theorem dX8_mostLeft_8 : decode cX8_mostLeft 8 = .ok (.getfield 40, 3) := by decide +kernel
theorem dX8_mostLeft_11 : decode cX8_mostLeft 11 = .ok (.if_icmp .ge 51, 3) := by decide +kernel
theorem dX8_mostLeft_14 : decode cX8_mostLeft 14 = .ok (.aload_n 1, 1) := by decide +kernel
theorem dX8_mostLeft_15 : decode cX8_mostLeft 15 = .ok (.getfield 80, 3) := by decide +kernel
theorem dX8_mostLeft_18 : decode cX8_mostLeft 18 = .ok (.iload 4, 2) := by decide +kernel
theorem dX8_mostLeft_20 : decode cX8_mostLeft 20 = .ok (.aaload, 1) := by decide +kernel
theorem dX8_mostLeft_21 : decode cX8_mostLeft 21 = .ok (.getfield 84, 3) := by decide +kernel
theorem dX8_mostLeft_24 : decode cX8_mostLeft 24 = .ok (.iload_n 2, 1) := by decide +kernel
theorem dX8_mostLeft_25 : decode cX8_mostLeft 25 = .ok (.if_icmp .ne 31, 3) := by decide +kernel
theorem dX8_mostLeft_28 : decode cX8_mostLeft 28 = .ok (.aload_n 0, 1) := by decide +kernel
theorem dX8_mostLeft_29 : decode cX8_mostLeft 29 = .ok (.getfield 15, 3) := by decide +kernel
theorem dX8_mostLeft_32 : decode cX8_mostLeft 32 = .ok (.iload 4, 2) := by decide +kernel
theorem dX8_mostLeft_34 : decode cX8_mostLeft 34 = .ok (.iaload, 1) := by decide +kernel
theorem dX8_mostLeft_35 : decode cX8_mostLeft 35 = .ok (.iload_n 3, 1) := by decide +kernel
theorem dX8_mostLeft_36 : decode cX8_mostLeft 36 = .ok (.iconst (-1), 1) := by decide +kernel
theorem dX8_mostLeft_37 : decode cX8_mostLeft 37 = .ok (.if_icmp .ne 7, 3) := by decide +kernel
theorem dX8_mostLeft_40 : decode cX8_mostLeft 40 = .ok (.iconst 0, 1) := by decide +kernel
theorem dX8_mostLeft_41 : decode cX8_mostLeft 41 = .ok (.goto 9, 3) := by decide +kernel
theorem dX8_mostLeft_44 : decode cX8_mostLeft 44 = .ok (.aload_n 0, 1) := by decide +kernel
theorem dX8_mostLeft_45 : decode cX8_mostLeft 45 = .ok (.getfield 15, 3) := by decide +kernel
theorem dX8_mostLeft_48 : decode cX8_mostLeft 48 = .ok (.iload_n 3, 1) := by decide +kernel
theorem dX8_mostLeft_49 : decode cX8_mostLeft 49 = .ok (.iaload, 1) := by decide +kernel
theorem dX8_mostLeft_50 : decode cX8_mostLeft 50 = .ok (.if_icmp .le 6, 3) := by decide +kernel
theorem dX8_mostLeft_53 : decode cX8_mostLeft 53 = .ok (.iload 4, 2) := by decide +kernel
theorem dX8_mostLeft_55 : decode cX8_mostLeft 55 = .ok (.istore_n 3, 1) := by decide +kernel
theorem dX8_mostLeft_56 : decode cX8_mostLeft 56 = .ok (.iinc 4 1, 3) := by decide +kernel
theorem dX8_mostLeft_59 : decode cX8_mostLeft 59 = .ok (.goto (-54), 3) := by decide +kernel
theorem dX8_mostLeft_62 : decode cX8_mostLeft 62 = .ok (.iload_n 3, 1) := by decide +kernel
theorem dX8_mostLeft_63 : decode cX8_mostLeft 63 = .ok (.ireturn, 1) := by decide +kernel
theorem dX8_give_0 : decode cX8_give 0 = .ok (.aload_n 0, 1) := by decide +kernel
theorem dX8_give_1 : decode cX8_give 1 = .ok (.getfield 9, 3) := by decide +kernel
theorem dX8_give_4 : decode cX8_give 4 = .ok (.iload_n 1, 1) := by decide +kernel
theorem dX8_give_5 : decode cX8_give 5 = .ok (.iload_n 2, 1) := by decide +kernel
theorem dX8_give_6 : decode cX8_give 6 = .ok (.iastore, 1) := by decide +kernel
theorem dX8_give_7 : decode cX8_give 7 = .ok (.iload_n 2, 1) := by decide +kernel
theorem dX8_give_8 : decode cX8_give 8 = .ok (.iconst (-1), 1) := by decide +kernel
theorem dX8_give_9 : decode cX8_give 9 = .ok (.if_icmp .eq 33, 3) := by decide +kernel
theorem dX8_give_12 : decode cX8_give 12 = .ok (.aload_n 0, 1) := by decide +kernel
theorem dX8_give_13 : decode cX8_give 13 = .ok (.getfield 15, 3) := by decide +kernel
theorem dX8_give_16 : decode cX8_give 16 = .ok (.iload_n 2, 1) := by decide +kernel
theorem dX8_give_17 : decode cX8_give 17 = .ok (.dup2, 1) := by decide +kernel
theorem dX8_give_18 : decode cX8_give 18 = .ok (.iaload, 1) := by decide +kernel
theorem dX8_give_19 : decode cX8_give 19 = .ok (.iconst 1, 1) := by decide +kernel
theorem dX8_give_20 : decode cX8_give 20 = .ok (.isub, 1) := by decide +kernel
theorem dX8_give_21 : decode cX8_give 21 = .ok (.iastore, 1) := by decide +kernel
theorem dX8_give_22 : decode cX8_give 22 = .ok (.aload_n 0, 1) := by decide +kernel
theorem dX8_give_23 : decode cX8_give 23 = .ok (.getfield 18, 3) := by decide +kernel
theorem dX8_give_26 : decode cX8_give 26 = .ok (.iload_n 2, 1) := by decide +kernel
theorem dX8_give_27 : decode cX8_give 27 = .ok (.dup2, 1) := by decide +kernel
theorem dX8_give_28 : decode cX8_give 28 = .ok (.iaload, 1) := by decide +kernel
theorem dX8_give_29 : decode cX8_give 29 = .ok (.iconst 1, 1) := by decide +kernel
theorem dX8_give_30 : decode cX8_give 30 = .ok (.iadd, 1) := by decide +kernel
theorem dX8_give_31 : decode cX8_give 31 = .ok (.iastore, 1) := by decide +kernel
theorem dX8_give_32 : decode cX8_give 32 = .ok (.aload_n 0, 1) := by decide +kernel
theorem dX8_give_33 : decode cX8_give 33 = .ok (.dup, 1) := by decide +kernel
theorem dX8_give_34 : decode cX8_give 34 = .ok (.getfield 21, 3) := by decide +kernel
theorem dX8_give_37 : decode cX8_give 37 = .ok (.iconst 1, 1) := by decide +kernel
theorem dX8_give_38 : decode cX8_give 38 = .ok (.iadd, 1) := by decide +kernel
theorem dX8_give_39 : decode cX8_give 39 = .ok (.putfield 21, 3) := by decide +kernel
theorem dX8_give_42 : decode cX8_give 42 = .ok (.return_, 1) := by decide +kernel
theorem dX8_addUpWaste_0 : decode cX8_addUpWaste 0 = .ok (.aload_n 0, 1) := by decide +kernel
theorem dX8_addUpWaste_1 : decode cX8_addUpWaste 1 = .ok (.iconst 0, 1) := by decide +kernel
theorem dX8_addUpWaste_2 : decode cX8_addUpWaste 2 = .ok (.putfield 89, 3) := by decide +kernel
theorem dX8_addUpWaste_5 : decode cX8_addUpWaste 5 = .ok (.aload_n 0, 1) := by decide +kernel
theorem dX8_addUpWaste_6 : decode cX8_addUpWaste 6 = .ok (.iconst 0, 1) := by decide +kernel
theorem dX8_addUpWaste_7 : decode cX8_addUpWaste 7 = .ok (.putfield 92, 3) := by decide +kernel
theorem dX8_addUpWaste_10 : decode cX8_addUpWaste 10 = .ok (.iconst 0, 1) := by decide +kernel
theorem dX8_addUpWaste_11 : decode cX8_addUpWaste 11 = .ok (.istore_n 2, 1) := by decide +kernel
theorem dX8_addUpWaste_12 : decode cX8_addUpWaste 12 = .ok (.iload_n 2, 1) := by decide +kernel
theorem dX8_addUpWaste_13 : decode cX8_addUpWaste 13 = .ok (.aload_n 1, 1) := by decide +kernel
theorem dX8_addUpWaste_14 : decode cX8_addUpWaste 14 = .ok (.getfield 40, 3) := by decide +kernel
theorem dX8_addUpWaste_17 : decode cX8_addUpWaste 17 = .ok (.if_icmp .ge 49, 3) := by decide +kernel
theorem dX8_addUpWaste_20 : decode cX8_addUpWaste 20 = .ok (.aload_n 0, 1) := by decide +kernel
theorem dX8_addUpWaste_21 : decode cX8_addUpWaste 21 = .ok (.dup, 1) := by decide +kernel
theorem dX8_addUpWaste_22 : decode cX8_addUpWaste 22 = .ok (.getfield 89, 3) := by decide +kernel
theorem dX8_addUpWaste_25 : decode cX8_addUpWaste 25 = .ok (.aload_n 0, 1) := by decide +kernel
theorem dX8_addUpWaste_26 : decode cX8_addUpWaste 26 = .ok (.getfield 15, 3) := by decide +kernel
theorem dX8_addUpWaste_29 : decode cX8_addUpWaste 29 = .ok (.iload_n 2, 1) := by decide +kernel
theorem dX8_addUpWaste_30 : decode cX8_addUpWaste 30 = .ok (.iaload, 1) := by decide +kernel
theorem dX8_addUpWaste_31 : decode cX8_addUpWaste 31 = .ok (.iadd, 1) := by decide +kernel
theorem dX8_addUpWaste_32 : decode cX8_addUpWaste 32 = .ok (.putfield 89, 3) := by decide +kernel
theorem dX8_addUpWaste_35 : decode cX8_addUpWaste 35 = .ok (.aload_n 0, 1) := by decide +kernel
theorem dX8_addUpWaste_36 : decode cX8_addUpWaste 36 = .ok (.dup, 1) := by decide +kernel
theorem dX8_addUpWaste_37 : decode cX8_addUpWaste 37 = .ok (.getfield 92, 3) := by decide +kernel
theorem dX8_addUpWaste_40 : decode cX8_addUpWaste 40 = .ok (.aload_n 0, 1) := by decide +kernel
theorem dX8_addUpWaste_41 : decode cX8_addUpWaste 41 = .ok (.getfield 15, 3) := by decide +kernel
theorem dX8_addUpWaste_44 : decode cX8_addUpWaste 44 = .ok (.iload_n 2, 1) := by decide +kernel
theorem dX8_addUpWaste_45 : decode cX8_addUpWaste 45 = .ok (.iaload, 1) := by decide +kernel
theorem dX8_addUpWaste_46 : decode cX8_addUpWaste 46 = .ok (.aload_n 1, 1) := by decide +kernel
theorem dX8_addUpWaste_47 : decode cX8_addUpWaste 47 = .ok (.getfield 80, 3) := by decide +kernel
theorem dX8_addUpWaste_50 : decode cX8_addUpWaste 50 = .ok (.iload_n 2, 1) := by decide +kernel
theorem dX8_addUpWaste_51 : decode cX8_addUpWaste 51 = .ok (.aaload, 1) := by decide +kernel
theorem dX8_addUpWaste_52 : decode cX8_addUpWaste 52 = .ok (.getfield 95, 3) := by decide +kernel
theorem dX8_addUpWaste_55 : decode cX8_addUpWaste 55 = .ok (.imul, 1) := by decide +kernel
theorem dX8_addUpWaste_56 : decode cX8_addUpWaste 56 = .ok (.iadd, 1) := by decide +kernel
theorem dX8_addUpWaste_57 : decode cX8_addUpWaste 57 = .ok (.putfield 92, 3) := by decide +kernel
theorem dX8_addUpWaste_60 : decode cX8_addUpWaste 60 = .ok (.iinc 2 1, 3) := by decide +kernel
theorem dX8_addUpWaste_63 : decode cX8_addUpWaste 63 = .ok (.goto (-51), 3) := by decide +kernel
theorem dX8_addUpWaste_66 : decode cX8_addUpWaste 66 = .ok (.return_, 1) := by decide +kernel
theorem dX9_init_0 : decode cX9_init 0 = .ok (.aload_n 0, 1) := by decide +kernel
theorem dX9_init_1 : decode cX9_init 1 = .ok (.invokespecial 1, 3) := by decide +kernel
theorem dX9_init_4 : decode cX9_init 4 = .ok (.aload_n 0, 1) := by decide +kernel
theorem dX9_init_5 : decode cX9_init 5 = .ok (.iconst 0, 1) := by decide +kernel
theorem dX9_init_6 : decode cX9_init 6 = .ok (.newarray .byte, 2) := by decide +kernel
theorem dX9_init_8 : decode cX9_init 8 = .ok (.putfield 7, 3) := by decide +kernel
theorem dX9_init_11 : decode cX9_init 11 = .ok (.return_, 1) := by decide +kernel
theorem dX9_begin_0 : decode cX9_begin 0 = .ok (.aload_n 0, 1) := by decide +kernel
theorem dX9_begin_1 : decode cX9_begin 1 = .ok (.aload_n 1, 1) := by decide +kernel
theorem dX9_begin_2 : decode cX9_begin 2 = .ok (.putfield 7, 3) := by decide +kernel
theorem dX9_begin_5 : decode cX9_begin 5 = .ok (.aload_n 0, 1) := by decide +kernel
theorem dX9_begin_6 : decode cX9_begin 6 = .ok (.iload_n 2, 1) := by decide +kernel
theorem dX9_begin_7 : decode cX9_begin 7 = .ok (.aload_n 1, 1) := by decide +kernel
theorem dX9_begin_8 : decode cX9_begin 8 = .ok (.arraylength, 1) := by decide +kernel
theorem dX9_begin_9 : decode cX9_begin 9 = .ok (.invokestatic 13, 3) := by decide +kernel
theorem dX9_begin_12 : decode cX9_begin 12 = .ok (.putfield 19, 3) := by decide +kernel
theorem dX9_begin_15 : decode cX9_begin 15 = .ok (.aload_n 0, 1) := by decide +kernel
theorem dX9_begin_16 : decode cX9_begin 16 = .ok (.iconst 0, 1) := by decide +kernel
theorem dX9_begin_17 : decode cX9_begin 17 = .ok (.putfield 23, 3) := by decide +kernel
theorem dX9_begin_20 : decode cX9_begin 20 = .ok (.return_, 1) := by decide +kernel
theorem dX9_next_0 : decode cX9_next 0 = .ok (.aload_n 0, 1) := by decide +kernel
theorem dX9_next_1 : decode cX9_next 1 = .ok (.getfield 23, 3) := by decide +kernel
theorem dX9_next_4 : decode cX9_next 4 = .ok (.aload_n 0, 1) := by decide +kernel
theorem dX9_next_5 : decode cX9_next 5 = .ok (.getfield 19, 3) := by decide +kernel
theorem dX9_next_8 : decode cX9_next 8 = .ok (.if_icmp .ge 44, 3) := by decide +kernel
theorem dX9_next_11 : decode cX9_next 11 = .ok (.aload_n 0, 1) := by decide +kernel
theorem dX9_next_12 : decode cX9_next 12 = .ok (.getfield 7, 3) := by decide +kernel
theorem dX9_next_15 : decode cX9_next 15 = .ok (.aload_n 0, 1) := by decide +kernel
theorem dX9_next_16 : decode cX9_next 16 = .ok (.getfield 23, 3) := by decide +kernel
theorem dX9_next_19 : decode cX9_next 19 = .ok (.baload, 1) := by decide +kernel
theorem dX9_next_20 : decode cX9_next 20 = .ok (.bipush 32, 2) := by decide +kernel
theorem dX9_next_22 : decode cX9_next 22 = .ok (.if_icmp .eq 17, 3) := by decide +kernel
theorem dX9_next_25 : decode cX9_next 25 = .ok (.aload_n 0, 1) := by decide +kernel
theorem dX9_next_26 : decode cX9_next 26 = .ok (.getfield 7, 3) := by decide +kernel
theorem dX9_next_29 : decode cX9_next 29 = .ok (.aload_n 0, 1) := by decide +kernel
theorem dX9_next_30 : decode cX9_next 30 = .ok (.getfield 23, 3) := by decide +kernel
theorem dX9_next_33 : decode cX9_next 33 = .ok (.baload, 1) := by decide +kernel
theorem dX9_next_34 : decode cX9_next 34 = .ok (.bipush 10, 2) := by decide +kernel
theorem dX9_next_36 : decode cX9_next 36 = .ok (.if_icmp .ne 16, 3) := by decide +kernel
theorem dX9_next_39 : decode cX9_next 39 = .ok (.aload_n 0, 1) := by decide +kernel
theorem dX9_next_40 : decode cX9_next 40 = .ok (.dup, 1) := by decide +kernel
theorem dX9_next_41 : decode cX9_next 41 = .ok (.getfield 23, 3) := by decide +kernel
theorem dX9_next_44 : decode cX9_next 44 = .ok (.iconst 1, 1) := by decide +kernel
theorem dX9_next_45 : decode cX9_next 45 = .ok (.iadd, 1) := by decide +kernel
theorem dX9_next_46 : decode cX9_next 46 = .ok (.putfield 23, 3) := by decide +kernel
theorem dX9_next_49 : decode cX9_next 49 = .ok (.goto (-49), 3) := by decide +kernel
theorem dX9_next_52 : decode cX9_next 52 = .ok (.aload_n 0, 1) := by decide +kernel
theorem dX9_next_53 : decode cX9_next 53 = .ok (.aload_n 0, 1) := by decide +kernel
theorem dX9_next_54 : decode cX9_next 54 = .ok (.getfield 23, 3) := by decide +kernel
theorem dX9_next_57 : decode cX9_next 57 = .ok (.putfield 26, 3) := by decide +kernel
theorem dX9_next_60 : decode cX9_next 60 = .ok (.aload_n 0, 1) := by decide +kernel
theorem dX9_next_61 : decode cX9_next 61 = .ok (.getfield 23, 3) := by decide +kernel
theorem dX9_next_64 : decode cX9_next 64 = .ok (.aload_n 0, 1) := by decide +kernel
theorem dX9_next_65 : decode cX9_next 65 = .ok (.getfield 19, 3) := by decide +kernel
theorem dX9_next_68 : decode cX9_next 68 = .ok (.if_icmp .lt 9, 3) := by decide +kernel
theorem dX9_next_71 : decode cX9_next 71 = .ok (.aload_n 0, 1) := by decide +kernel
theorem dX9_next_72 : decode cX9_next 72 = .ok (.iconst 0, 1) := by decide +kernel
theorem dX9_next_73 : decode cX9_next 73 = .ok (.putfield 29, 3) := by decide +kernel
theorem dX9_next_76 : decode cX9_next 76 = .ok (.return_, 1) := by decide +kernel
theorem dX9_next_77 : decode cX9_next 77 = .ok (.aload_n 0, 1) := by decide +kernel
theorem dX9_next_78 : decode cX9_next 78 = .ok (.aload_n 0, 1) := by decide +kernel
theorem dX9_next_79 : decode cX9_next 79 = .ok (.getfield 7, 3) := by decide +kernel
theorem dX9_next_82 : decode cX9_next 82 = .ok (.aload_n 0, 1) := by decide +kernel
theorem dX9_next_83 : decode cX9_next 83 = .ok (.getfield 23, 3) := by decide +kernel
theorem dX9_next_86 : decode cX9_next 86 = .ok (.baload, 1) := by decide +kernel
theorem dX9_next_87 : decode cX9_next 87 = .ok (.invokestatic 32, 3) := by decide +kernel
theorem dX9_next_90 : decode cX9_next 90 = .ok (.putfield 29, 3) := by decide +kernel
theorem dX9_next_93 : decode cX9_next 93 = .ok (.aload_n 0, 1) := by decide +kernel
theorem dX9_next_94 : decode cX9_next 94 = .ok (.dup, 1) := by decide +kernel
theorem dX9_next_95 : decode cX9_next 95 = .ok (.getfield 23, 3) := by decide +kernel
theorem dX9_next_98 : decode cX9_next 98 = .ok (.iconst 1, 1) := by decide +kernel
theorem dX9_next_99 : decode cX9_next 99 = .ok (.iadd, 1) := by decide +kernel
theorem dX9_next_100 : decode cX9_next 100 = .ok (.putfield 23, 3) := by decide +kernel
theorem dX9_next_103 : decode cX9_next 103 = .ok (.aload_n 0, 1) := by decide +kernel
theorem dX9_next_104 : decode cX9_next 104 = .ok (.getfield 29, 3) := by decide +kernel
theorem dX9_next_107 : decode cX9_next 107 = .ok (.iconst 1, 1) := by decide +kernel
theorem dX9_next_108 : decode cX9_next 108 = .ok (.if_icmp .eq 11, 3) := by decide +kernel
theorem dX9_next_111 : decode cX9_next 111 = .ok (.aload_n 0, 1) := by decide +kernel
theorem dX9_next_112 : decode cX9_next 112 = .ok (.getfield 29, 3) := by decide +kernel
theorem dX9_next_115 : decode cX9_next 115 = .ok (.iconst 2, 1) := by decide +kernel
theorem dX9_next_116 : decode cX9_next 116 = .ok (.if_icmp .ne 46, 3) := by decide +kernel
theorem dX9_next_119 : decode cX9_next 119 = .ok (.aload_n 0, 1) := by decide +kernel
theorem dX9_next_120 : decode cX9_next 120 = .ok (.getfield 23, 3) := by decide +kernel
theorem dX9_next_123 : decode cX9_next 123 = .ok (.aload_n 0, 1) := by decide +kernel
theorem dX9_next_124 : decode cX9_next 124 = .ok (.getfield 19, 3) := by decide +kernel
theorem dX9_next_127 : decode cX9_next 127 = .ok (.if_icmp .ge 35, 3) := by decide +kernel
theorem dX9_next_130 : decode cX9_next 130 = .ok (.aload_n 0, 1) := by decide +kernel
theorem dX9_next_131 : decode cX9_next 131 = .ok (.getfield 7, 3) := by decide +kernel
theorem dX9_next_134 : decode cX9_next 134 = .ok (.aload_n 0, 1) := by decide +kernel
theorem dX9_next_135 : decode cX9_next 135 = .ok (.getfield 23, 3) := by decide +kernel
theorem dX9_next_138 : decode cX9_next 138 = .ok (.baload, 1) := by decide +kernel
theorem dX9_next_139 : decode cX9_next 139 = .ok (.invokestatic 32, 3) := by decide +kernel
theorem dX9_next_142 : decode cX9_next 142 = .ok (.aload_n 0, 1) := by decide +kernel
theorem dX9_next_143 : decode cX9_next 143 = .ok (.getfield 29, 3) := by decide +kernel
theorem dX9_next_146 : decode cX9_next 146 = .ok (.if_icmp .ne 16, 3) := by decide +kernel
theorem dX9_next_149 : decode cX9_next 149 = .ok (.aload_n 0, 1) := by decide +kernel
theorem dX9_next_150 : decode cX9_next 150 = .ok (.dup, 1) := by decide +kernel
theorem dX9_next_151 : decode cX9_next 151 = .ok (.getfield 23, 3) := by decide +kernel
theorem dX9_next_154 : decode cX9_next 154 = .ok (.iconst 1, 1) := by decide +kernel
theorem dX9_next_155 : decode cX9_next 155 = .ok (.iadd, 1) := by decide +kernel
theorem dX9_next_156 : decode cX9_next 156 = .ok (.putfield 23, 3) := by decide +kernel
theorem dX9_next_159 : decode cX9_next 159 = .ok (.goto (-40), 3) := by decide +kernel
theorem dX9_next_162 : decode cX9_next 162 = .ok (.aload_n 0, 1) := by decide +kernel
theorem dX9_next_163 : decode cX9_next 163 = .ok (.getfield 29, 3) := by decide +kernel
theorem dX9_next_166 : decode cX9_next 166 = .ok (.iconst 2, 1) := by decide +kernel
theorem dX9_next_167 : decode cX9_next 167 = .ok (.if_icmp .ne 7, 3) := by decide +kernel
theorem dX9_next_170 : decode cX9_next 170 = .ok (.aload_n 0, 1) := by decide +kernel
theorem dX9_next_171 : decode cX9_next 171 = .ok (.invokevirtual 36, 3) := by decide +kernel
theorem dX9_next_174 : decode cX9_next 174 = .ok (.return_, 1) := by decide +kernel
theorem dX9_readNumber_0 : decode cX9_readNumber 0 = .ok (.aload_n 0, 1) := by decide +kernel
theorem dX9_readNumber_1 : decode cX9_readNumber 1 = .ok (.getfield 23, 3) := by decide +kernel
theorem dX9_readNumber_4 : decode cX9_readNumber 4 = .ok (.aload_n 0, 1) := by decide +kernel
theorem dX9_readNumber_5 : decode cX9_readNumber 5 = .ok (.getfield 26, 3) := by decide +kernel
theorem dX9_readNumber_8 : decode cX9_readNumber 8 = .ok (.isub, 1) := by decide +kernel
theorem dX9_readNumber_9 : decode cX9_readNumber 9 = .ok (.iconst 4, 1) := by decide +kernel
theorem dX9_readNumber_10 : decode cX9_readNumber 10 = .ok (.if_icmp .le 9, 3) := by decide +kernel
theorem dX9_readNumber_13 : decode cX9_readNumber 13 = .ok (.aload_n 0, 1) := by decide +kernel
theorem dX9_readNumber_14 : decode cX9_readNumber 14 = .ok (.iconst 4, 1) := by decide +kernel
theorem dX9_readNumber_15 : decode cX9_readNumber 15 = .ok (.putfield 29, 3) := by decide +kernel
theorem dX9_readNumber_18 : decode cX9_readNumber 18 = .ok (.return_, 1) := by decide +kernel
theorem dX9_readNumber_19 : decode cX9_readNumber 19 = .ok (.aload_n 0, 1) := by decide +kernel
theorem dX9_readNumber_20 : decode cX9_readNumber 20 = .ok (.iconst 0, 1) := by decide +kernel
theorem dX9_readNumber_21 : decode cX9_readNumber 21 = .ok (.putfield 39, 3) := by decide +kernel
theorem dX9_readNumber_24 : decode cX9_readNumber 24 = .ok (.aload_n 0, 1) := by decide +kernel
theorem dX9_readNumber_25 : decode cX9_readNumber 25 = .ok (.getfield 26, 3) := by decide +kernel
theorem dX9_readNumber_28 : decode cX9_readNumber 28 = .ok (.istore_n 1, 1) := by decide +kernel
theorem dX9_readNumber_29 : decode cX9_readNumber 29 = .ok (.iload_n 1, 1) := by decide +kernel
theorem dX9_readNumber_30 : decode cX9_readNumber 30 = .ok (.aload_n 0, 1) := by decide +kernel
theorem dX9_readNumber_31 : decode cX9_readNumber 31 = .ok (.getfield 23, 3) := by decide +kernel
theorem dX9_readNumber_34 : decode cX9_readNumber 34 = .ok (.if_icmp .ge 30, 3) := by decide +kernel
theorem dX9_readNumber_37 : decode cX9_readNumber 37 = .ok (.aload_n 0, 1) := by decide +kernel
theorem dX9_readNumber_38 : decode cX9_readNumber 38 = .ok (.aload_n 0, 1) := by decide +kernel
theorem dX9_readNumber_39 : decode cX9_readNumber 39 = .ok (.getfield 39, 3) := by decide +kernel
theorem dX9_readNumber_42 : decode cX9_readNumber 42 = .ok (.bipush 10, 2) := by decide +kernel
theorem dX9_readNumber_44 : decode cX9_readNumber 44 = .ok (.imul, 1) := by decide +kernel
theorem dX9_readNumber_45 : decode cX9_readNumber 45 = .ok (.aload_n 0, 1) := by decide +kernel
theorem dX9_readNumber_46 : decode cX9_readNumber 46 = .ok (.getfield 7, 3) := by decide +kernel
theorem dX9_readNumber_49 : decode cX9_readNumber 49 = .ok (.iload_n 1, 1) := by decide +kernel
theorem dX9_readNumber_50 : decode cX9_readNumber 50 = .ok (.baload, 1) := by decide +kernel
theorem dX9_readNumber_51 : decode cX9_readNumber 51 = .ok (.bipush 48, 2) := by decide +kernel
theorem dX9_readNumber_53 : decode cX9_readNumber 53 = .ok (.isub, 1) := by decide +kernel
theorem dX9_readNumber_54 : decode cX9_readNumber 54 = .ok (.iadd, 1) := by decide +kernel
theorem dX9_readNumber_55 : decode cX9_readNumber 55 = .ok (.putfield 39, 3) := by decide +kernel
theorem dX9_readNumber_58 : decode cX9_readNumber 58 = .ok (.iinc 1 1, 3) := by decide +kernel
theorem dX9_readNumber_61 : decode cX9_readNumber 61 = .ok (.goto (-32), 3) := by decide +kernel
theorem dX9_readNumber_64 : decode cX9_readNumber 64 = .ok (.return_, 1) := by decide +kernel
theorem dX9_kindOf_0 : decode cX9_kindOf 0 = .ok (.iload_n 0, 1) := by decide +kernel
theorem dX9_kindOf_1 : decode cX9_kindOf 1 = .ok (.bipush 97, 2) := by decide +kernel
theorem dX9_kindOf_3 : decode cX9_kindOf 3 = .ok (.if_icmp .lt 11, 3) := by decide +kernel
theorem dX9_kindOf_6 : decode cX9_kindOf 6 = .ok (.iload_n 0, 1) := by decide +kernel
theorem dX9_kindOf_7 : decode cX9_kindOf 7 = .ok (.bipush 122, 2) := by decide +kernel
theorem dX9_kindOf_9 : decode cX9_kindOf 9 = .ok (.if_icmp .gt 5, 3) := by decide +kernel
theorem dX9_kindOf_12 : decode cX9_kindOf 12 = .ok (.iconst 1, 1) := by decide +kernel
theorem dX9_kindOf_13 : decode cX9_kindOf 13 = .ok (.ireturn, 1) := by decide +kernel
theorem dX9_kindOf_14 : decode cX9_kindOf 14 = .ok (.iload_n 0, 1) := by decide +kernel
theorem dX9_kindOf_15 : decode cX9_kindOf 15 = .ok (.bipush 48, 2) := by decide +kernel
theorem dX9_kindOf_17 : decode cX9_kindOf 17 = .ok (.if_icmp .lt 11, 3) := by decide +kernel
theorem dX9_kindOf_20 : decode cX9_kindOf 20 = .ok (.iload_n 0, 1) := by decide +kernel
theorem dX9_kindOf_21 : decode cX9_kindOf 21 = .ok (.bipush 57, 2) := by decide +kernel
theorem dX9_kindOf_23 : decode cX9_kindOf 23 = .ok (.if_icmp .gt 5, 3) := by decide +kernel
theorem dX9_kindOf_26 : decode cX9_kindOf 26 = .ok (.iconst 2, 1) := by decide +kernel
theorem dX9_kindOf_27 : decode cX9_kindOf 27 = .ok (.ireturn, 1) := by decide +kernel
theorem dX9_kindOf_28 : decode cX9_kindOf 28 = .ok (.iload_n 0, 1) := by decide +kernel
theorem dX9_kindOf_29 : decode cX9_kindOf 29 = .ok (.bipush 59, 2) := by decide +kernel
theorem dX9_kindOf_31 : decode cX9_kindOf 31 = .ok (.if_icmp .ne 7, 3) := by decide +kernel
theorem dX9_kindOf_34 : decode cX9_kindOf 34 = .ok (.iconst 3, 1) := by decide +kernel
theorem dX9_kindOf_35 : decode cX9_kindOf 35 = .ok (.goto 4, 3) := by decide +kernel
theorem dX9_kindOf_38 : decode cX9_kindOf 38 = .ok (.iconst 4, 1) := by decide +kernel
theorem dX9_kindOf_39 : decode cX9_kindOf 39 = .ok (.ireturn, 1) := by decide +kernel
theorem dX9_is_0 : decode cX9_is 0 = .ok (.aload_n 0, 1) := by decide +kernel
theorem dX9_is_1 : decode cX9_is 1 = .ok (.getfield 29, 3) := by decide +kernel
theorem dX9_is_4 : decode cX9_is 4 = .ok (.iconst 1, 1) := by decide +kernel
theorem dX9_is_5 : decode cX9_is 5 = .ok (.if_icmp .ne 19, 3) := by decide +kernel
theorem dX9_is_8 : decode cX9_is 8 = .ok (.aload_n 0, 1) := by decide +kernel
theorem dX9_is_9 : decode cX9_is 9 = .ok (.getfield 23, 3) := by decide +kernel
theorem dX9_is_12 : decode cX9_is 12 = .ok (.aload_n 0, 1) := by decide +kernel
theorem dX9_is_13 : decode cX9_is 13 = .ok (.getfield 26, 3) := by decide +kernel
theorem dX9_is_16 : decode cX9_is 16 = .ok (.isub, 1) := by decide +kernel
theorem dX9_is_17 : decode cX9_is 17 = .ok (.aload_n 1, 1) := by decide +kernel
theorem dX9_is_18 : decode cX9_is 18 = .ok (.invokevirtual 42, 3) := by decide +kernel
theorem dX9_is_21 : decode cX9_is 21 = .ok (.if_icmp .eq 5, 3) := by decide +kernel
theorem dX9_is_24 : decode cX9_is 24 = .ok (.iconst 0, 1) := by decide +kernel
theorem dX9_is_25 : decode cX9_is 25 = .ok (.ireturn, 1) := by decide +kernel
theorem dX9_is_26 : decode cX9_is 26 = .ok (.iconst 0, 1) := by decide +kernel
theorem dX9_is_27 : decode cX9_is 27 = .ok (.istore_n 2, 1) := by decide +kernel
theorem dX9_is_28 : decode cX9_is 28 = .ok (.iload_n 2, 1) := by decide +kernel
theorem dX9_is_29 : decode cX9_is 29 = .ok (.aload_n 1, 1) := by decide +kernel
theorem dX9_is_30 : decode cX9_is 30 = .ok (.invokevirtual 42, 3) := by decide +kernel
theorem dX9_is_33 : decode cX9_is 33 = .ok (.if_icmp .ge 30, 3) := by decide +kernel
theorem dX9_is_36 : decode cX9_is 36 = .ok (.aload_n 0, 1) := by decide +kernel
theorem dX9_is_37 : decode cX9_is 37 = .ok (.getfield 7, 3) := by decide +kernel
theorem dX9_is_40 : decode cX9_is 40 = .ok (.aload_n 0, 1) := by decide +kernel
theorem dX9_is_41 : decode cX9_is 41 = .ok (.getfield 26, 3) := by decide +kernel
theorem dX9_is_44 : decode cX9_is 44 = .ok (.iload_n 2, 1) := by decide +kernel
theorem dX9_is_45 : decode cX9_is 45 = .ok (.iadd, 1) := by decide +kernel
theorem dX9_is_46 : decode cX9_is 46 = .ok (.baload, 1) := by decide +kernel
theorem dX9_is_47 : decode cX9_is 47 = .ok (.aload_n 1, 1) := by decide +kernel
theorem dX9_is_48 : decode cX9_is 48 = .ok (.iload_n 2, 1) := by decide +kernel
theorem dX9_is_49 : decode cX9_is 49 = .ok (.invokevirtual 47, 3) := by decide +kernel
theorem dX9_is_52 : decode cX9_is 52 = .ok (.if_icmp .eq 5, 3) := by decide +kernel
theorem dX9_is_55 : decode cX9_is 55 = .ok (.iconst 0, 1) := by decide +kernel
theorem dX9_is_56 : decode cX9_is 56 = .ok (.ireturn, 1) := by decide +kernel
theorem dX9_is_57 : decode cX9_is 57 = .ok (.iinc 2 1, 3) := by decide +kernel
theorem dX9_is_60 : decode cX9_is 60 = .ok (.goto (-32), 3) := by decide +kernel
theorem dX9_is_63 : decode cX9_is 63 = .ok (.iconst 1, 1) := by decide +kernel
theorem dX9_is_64 : decode cX9_is 64 = .ok (.ireturn, 1) := by decide +kernel
theorem dX9_size_0 : decode cX9_size 0 = .ok (.aload_n 0, 1) := by decide +kernel
theorem dX9_size_1 : decode cX9_size 1 = .ok (.getfield 23, 3) := by decide +kernel
theorem dX9_size_4 : decode cX9_size 4 = .ok (.aload_n 0, 1) := by decide +kernel
theorem dX9_size_5 : decode cX9_size 5 = .ok (.getfield 26, 3) := by decide +kernel
theorem dX9_size_8 : decode cX9_size 8 = .ok (.isub, 1) := by decide +kernel
theorem dX9_size_9 : decode cX9_size 9 = .ok (.ireturn, 1) := by decide +kernel
theorem dX9_word_0 : decode cX9_word 0 = .ok (.aload_n 0, 1) := by decide +kernel
theorem dX9_word_1 : decode cX9_word 1 = .ok (.invokevirtual 51, 3) := by decide +kernel
theorem dX9_word_4 : decode cX9_word 4 = .ok (.newarray .char, 2) := by decide +kernel
theorem dX9_word_6 : decode cX9_word 6 = .ok (.astore_n 1, 1) := by decide +kernel
theorem dX9_word_7 : decode cX9_word 7 = .ok (.iconst 0, 1) := by decide +kernel
theorem dX9_word_8 : decode cX9_word 8 = .ok (.istore_n 2, 1) := by decide +kernel
theorem dX9_word_9 : decode cX9_word 9 = .ok (.iload_n 2, 1) := by decide +kernel
theorem dX9_word_10 : decode cX9_word 10 = .ok (.aload_n 1, 1) := by decide +kernel
theorem dX9_word_11 : decode cX9_word 11 = .ok (.arraylength, 1) := by decide +kernel
theorem dX9_word_12 : decode cX9_word 12 = .ok (.if_icmp .ge 24, 3) := by decide +kernel
theorem dX9_word_15 : decode cX9_word 15 = .ok (.aload_n 1, 1) := by decide +kernel
theorem dX9_word_16 : decode cX9_word 16 = .ok (.iload_n 2, 1) := by decide +kernel
theorem dX9_word_17 : decode cX9_word 17 = .ok (.aload_n 0, 1) := by decide +kernel
theorem dX9_word_18 : decode cX9_word 18 = .ok (.getfield 7, 3) := by decide +kernel
theorem dX9_word_21 : decode cX9_word 21 = .ok (.aload_n 0, 1) := by decide +kernel
theorem dX9_word_22 : decode cX9_word 22 = .ok (.getfield 26, 3) := by decide +kernel
theorem dX9_word_25 : decode cX9_word 25 = .ok (.iload_n 2, 1) := by decide +kernel
theorem dX9_word_26 : decode cX9_word 26 = .ok (.iadd, 1) := by decide +kernel
theorem dX9_word_27 : decode cX9_word 27 = .ok (.baload, 1) := by decide +kernel
theorem dX9_word_28 : decode cX9_word 28 = .ok (.i2c, 1) := by decide +kernel
theorem dX9_word_29 : decode cX9_word 29 = .ok (.castore, 1) := by decide +kernel
theorem dX9_word_30 : decode cX9_word 30 = .ok (.iinc 2 1, 3) := by decide +kernel
theorem dX9_word_33 : decode cX9_word 33 = .ok (.goto (-24), 3) := by decide +kernel
theorem dX9_word_36 : decode cX9_word 36 = .ok (.new 43, 3) := by decide +kernel
theorem dX9_word_39 : decode cX9_word 39 = .ok (.dup, 1) := by decide +kernel
theorem dX9_word_40 : decode cX9_word 40 = .ok (.aload_n 1, 1) := by decide +kernel
theorem dX9_word_41 : decode cX9_word 41 = .ok (.invokespecial 54, 3) := by decide +kernel
theorem dX9_word_44 : decode cX9_word 44 = .ok (.areturn, 1) := by decide +kernel
theorem dX10_init_0 : decode cX10_init 0 = .ok (.aload_n 0, 1) := by decide +kernel
theorem dX10_init_1 : decode cX10_init 1 = .ok (.invokespecial 3, 3) := by decide +kernel
theorem dX10_init_4 : decode cX10_init 4 = .ok (.aload_n 0, 1) := by decide +kernel
theorem dX10_init_5 : decode cX10_init 5 = .ok (.sipush 900, 3) := by decide +kernel
theorem dX10_init_8 : decode cX10_init 8 = .ok (.newarray .byte, 2) := by decide +kernel
theorem dX10_init_10 : decode cX10_init 10 = .ok (.putfield 9, 3) := by decide +kernel
theorem dX10_init_13 : decode cX10_init 13 = .ok (.aload_n 0, 1) := by decide +kernel
theorem dX10_init_14 : decode cX10_init 14 = .ok (.bipush 120, 2) := by decide +kernel
theorem dX10_init_16 : decode cX10_init 16 = .ok (.newarray .byte, 2) := by decide +kernel
theorem dX10_init_18 : decode cX10_init 18 = .ok (.putfield 13, 3) := by decide +kernel
theorem dX10_init_21 : decode cX10_init 21 = .ok (.aload_n 0, 1) := by decide +kernel
theorem dX10_init_22 : decode cX10_init 22 = .ok (.iconst (-1), 1) := by decide +kernel
theorem dX10_init_23 : decode cX10_init 23 = .ok (.putfield 16, 3) := by decide +kernel
theorem dX10_init_26 : decode cX10_init 26 = .ok (.new 20, 3) := by decide +kernel
theorem dX10_init_29 : decode cX10_init 29 = .ok (.dup, 1) := by decide +kernel
theorem dX10_init_30 : decode cX10_init 30 = .ok (.invokespecial 22, 3) := by decide +kernel
theorem dX10_init_33 : decode cX10_init 33 = .ok (.astore_n 1, 1) := by decide +kernel
theorem dX10_init_34 : decode cX10_init 34 = .ok (.aload_n 0, 1) := by decide +kernel
theorem dX10_init_35 : decode cX10_init 35 = .ok (.new 23, 3) := by decide +kernel
theorem dX10_init_38 : decode cX10_init 38 = .ok (.dup, 1) := by decide +kernel
theorem dX10_init_39 : decode cX10_init 39 = .ok (.aload_n 1, 1) := by decide +kernel
theorem dX10_init_40 : decode cX10_init 40 = .ok (.invokespecial 25, 3) := by decide +kernel
theorem dX10_init_43 : decode cX10_init 43 = .ok (.putfield 28, 3) := by decide +kernel
theorem dX10_init_46 : decode cX10_init 46 = .ok (.aload_n 0, 1) := by decide +kernel
theorem dX10_init_47 : decode cX10_init 47 = .ok (.new 23, 3) := by decide +kernel
theorem dX10_init_50 : decode cX10_init 50 = .ok (.dup, 1) := by decide +kernel
theorem dX10_init_51 : decode cX10_init 51 = .ok (.aload_n 1, 1) := by decide +kernel
theorem dX10_init_52 : decode cX10_init 52 = .ok (.invokespecial 25, 3) := by decide +kernel
theorem dX10_init_55 : decode cX10_init 55 = .ok (.putfield 32, 3) := by decide +kernel
theorem dX10_init_58 : decode cX10_init 58 = .ok (.aload_n 0, 1) := by decide +kernel
theorem dX10_init_59 : decode cX10_init 59 = .ok (.new 20, 3) := by decide +kernel
theorem dX10_init_62 : decode cX10_init 62 = .ok (.dup, 1) := by decide +kernel
theorem dX10_init_63 : decode cX10_init 63 = .ok (.invokespecial 22, 3) := by decide +kernel
theorem dX10_init_66 : decode cX10_init 66 = .ok (.putfield 35, 3) := by decide +kernel
theorem dX10_init_69 : decode cX10_init 69 = .ok (.aload_n 0, 1) := by decide +kernel
theorem dX10_init_70 : decode cX10_init 70 = .ok (.new 39, 3) := by decide +kernel
theorem dX10_init_73 : decode cX10_init 73 = .ok (.dup, 1) := by decide +kernel
theorem dX10_init_74 : decode cX10_init 74 = .ok (.invokespecial 41, 3) := by decide +kernel
theorem dX10_init_77 : decode cX10_init 77 = .ok (.putfield 42, 3) := by decide +kernel
theorem dX10_init_80 : decode cX10_init 80 = .ok (.aload_n 0, 1) := by decide +kernel
theorem dX10_init_81 : decode cX10_init 81 = .ok (.new 46, 3) := by decide +kernel
theorem dX10_init_84 : decode cX10_init 84 = .ok (.dup, 1) := by decide +kernel
theorem dX10_init_85 : decode cX10_init 85 = .ok (.aload_n 1, 1) := by decide +kernel
theorem dX10_init_86 : decode cX10_init 86 = .ok (.invokespecial 48, 3) := by decide +kernel
theorem dX10_init_89 : decode cX10_init 89 = .ok (.putfield 49, 3) := by decide +kernel
theorem dX10_init_92 : decode cX10_init 92 = .ok (.aload_n 0, 1) := by decide +kernel
theorem dX10_init_93 : decode cX10_init 93 = .ok (.iconst 2, 1) := by decide +kernel
theorem dX10_init_94 : decode cX10_init 94 = .ok (.anewarray 23, 3) := by decide +kernel
theorem dX10_init_97 : decode cX10_init 97 = .ok (.putfield 53, 3) := by decide +kernel
theorem dX10_init_100 : decode cX10_init 100 = .ok (.iconst 0, 1) := by decide +kernel
theorem dX10_init_101 : decode cX10_init 101 = .ok (.istore_n 2, 1) := by decide +kernel
theorem dX10_init_102 : decode cX10_init 102 = .ok (.iload_n 2, 1) := by decide +kernel
theorem dX10_init_103 : decode cX10_init 103 = .ok (.iconst 2, 1) := by decide +kernel
theorem dX10_init_104 : decode cX10_init 104 = .ok (.if_icmp .ge 23, 3) := by decide +kernel
theorem dX10_init_107 : decode cX10_init 107 = .ok (.aload_n 0, 1) := by decide +kernel
theorem dX10_init_108 : decode cX10_init 108 = .ok (.getfield 53, 3) := by decide +kernel
theorem dX10_init_111 : decode cX10_init 111 = .ok (.iload_n 2, 1) := by decide +kernel
theorem dX10_init_112 : decode cX10_init 112 = .ok (.new 23, 3) := by decide +kernel
theorem dX10_init_115 : decode cX10_init 115 = .ok (.dup, 1) := by decide +kernel
theorem dX10_init_116 : decode cX10_init 116 = .ok (.aload_n 1, 1) := by decide +kernel
theorem dX10_init_117 : decode cX10_init 117 = .ok (.invokespecial 25, 3) := by decide +kernel
theorem dX10_init_120 : decode cX10_init 120 = .ok (.aastore, 1) := by decide +kernel
theorem dX10_init_121 : decode cX10_init 121 = .ok (.iinc 2 1, 3) := by decide +kernel
theorem dX10_init_124 : decode cX10_init 124 = .ok (.goto (-22), 3) := by decide +kernel
theorem dX10_init_127 : decode cX10_init 127 = .ok (.aload_n 0, 1) := by decide +kernel
theorem dX10_init_128 : decode cX10_init 128 = .ok (.iconst 2, 1) := by decide +kernel
theorem dX10_init_129 : decode cX10_init 129 = .ok (.newarray .boolean, 2) := by decide +kernel
theorem dX10_init_131 : decode cX10_init 131 = .ok (.putfield 57, 3) := by decide +kernel
theorem dX10_init_134 : decode cX10_init 134 = .ok (.aload_n 0, 1) := by decide +kernel
theorem dX10_init_135 : decode cX10_init 135 = .ok (.new 61, 3) := by decide +kernel
theorem dX10_init_138 : decode cX10_init 138 = .ok (.dup, 1) := by decide +kernel
theorem dX10_init_139 : decode cX10_init 139 = .ok (.invokespecial 63, 3) := by decide +kernel
theorem dX10_init_142 : decode cX10_init 142 = .ok (.putfield 64, 3) := by decide +kernel
theorem dX10_init_145 : decode cX10_init 145 = .ok (.aload_n 0, 1) := by decide +kernel
theorem dX10_init_146 : decode cX10_init 146 = .ok (.new 68, 3) := by decide +kernel
theorem dX10_init_149 : decode cX10_init 149 = .ok (.dup, 1) := by decide +kernel
theorem dX10_init_150 : decode cX10_init 150 = .ok (.invokespecial 70, 3) := by decide +kernel
theorem dX10_init_153 : decode cX10_init 153 = .ok (.putfield 71, 3) := by decide +kernel
theorem dX10_init_156 : decode cX10_init 156 = .ok (.aload_n 0, 1) := by decide +kernel
theorem dX10_init_157 : decode cX10_init 157 = .ok (.new 75, 3) := by decide +kernel
theorem dX10_init_160 : decode cX10_init 160 = .ok (.dup, 1) := by decide +kernel
theorem dX10_init_161 : decode cX10_init 161 = .ok (.invokespecial 77, 3) := by decide +kernel
theorem dX10_init_164 : decode cX10_init 164 = .ok (.putfield 78, 3) := by decide +kernel
theorem dX10_init_167 : decode cX10_init 167 = .ok (.return_, 1) := by decide +kernel
theorem dX10_feed_0 : decode cX10_feed 0 = .ok (.aload_n 0, 1) := by decide +kernel
theorem dX10_feed_1 : decode cX10_feed 1 = .ok (.getfield 82, 3) := by decide +kernel
theorem dX10_feed_4 : decode cX10_feed 4 = .ok (.bipush 20, 2) := by decide +kernel
theorem dX10_feed_6 : decode cX10_feed 6 = .ok (.iadd, 1) := by decide +kernel
theorem dX10_feed_7 : decode cX10_feed 7 = .ok (.sipush 900, 3) := by decide +kernel
theorem dX10_feed_10 : decode cX10_feed 10 = .ok (.if_icmp .le 13, 3) := by decide +kernel
theorem dX10_feed_13 : decode cX10_feed 13 = .ok (.new 85, 3) := by decide +kernel
theorem dX10_feed_16 : decode cX10_feed 16 = .ok (.dup, 1) := by decide +kernel
theorem dX10_feed_17 : decode cX10_feed 17 = .ok (.ldc 87, 2) := by decide +kernel
theorem dX10_feed_19 : decode cX10_feed 19 = .ok (.invokespecial 89, 3) := by decide +kernel
theorem dX10_feed_22 : decode cX10_feed 22 = .ok (.athrow, 1) := by decide +kernel
theorem dX10_feed_23 : decode cX10_feed 23 = .ok (.aload_n 0, 1) := by decide +kernel
theorem dX10_feed_24 : decode cX10_feed 24 = .ok (.iload_n 1, 1) := by decide +kernel
theorem dX10_feed_25 : decode cX10_feed 25 = .ok (.invokevirtual 92, 3) := by decide +kernel
theorem dX10_feed_28 : decode cX10_feed 28 = .ok (.aload_n 0, 1) := by decide +kernel
theorem dX10_feed_29 : decode cX10_feed 29 = .ok (.iload_n 2, 1) := by decide +kernel
theorem dX10_feed_30 : decode cX10_feed 30 = .ok (.invokevirtual 92, 3) := by decide +kernel
theorem dX10_feed_33 : decode cX10_feed 33 = .ok (.aload_n 0, 1) := by decide +kernel
theorem dX10_feed_34 : decode cX10_feed 34 = .ok (.iload_n 3, 1) := by decide +kernel
theorem dX10_feed_35 : decode cX10_feed 35 = .ok (.invokevirtual 92, 3) := by decide +kernel
theorem dX10_feed_38 : decode cX10_feed 38 = .ok (.aload_n 0, 1) := by decide +kernel
theorem dX10_feed_39 : decode cX10_feed 39 = .ok (.iload 4, 2) := by decide +kernel
theorem dX10_feed_41 : decode cX10_feed 41 = .ok (.invokevirtual 92, 3) := by decide +kernel
theorem dX10_feed_44 : decode cX10_feed 44 = .ok (.aload_n 0, 1) := by decide +kernel
theorem dX10_feed_45 : decode cX10_feed 45 = .ok (.iload 5, 2) := by decide +kernel
theorem dX10_feed_47 : decode cX10_feed 47 = .ok (.invokevirtual 92, 3) := by decide +kernel
theorem dX10_feed_50 : decode cX10_feed 50 = .ok (.aload_n 0, 1) := by decide +kernel
theorem dX10_feed_51 : decode cX10_feed 51 = .ok (.getfield 82, 3) := by decide +kernel
theorem dX10_feed_54 : decode cX10_feed 54 = .ok (.ireturn, 1) := by decide +kernel
theorem dX10_appendBytes_0 : decode cX10_appendBytes 0 = .ok (.bipush 24, 2) := by decide +kernel
theorem dX10_appendBytes_2 : decode cX10_appendBytes 2 = .ok (.istore_n 2, 1) := by decide +kernel
theorem dX10_appendBytes_3 : decode cX10_appendBytes 3 = .ok (.iload_n 2, 1) := by decide +kernel
theorem dX10_appendBytes_4 : decode cX10_appendBytes 4 = .ok (.ifCond .lt 44, 3) := by decide +kernel
theorem dX10_appendBytes_7 : decode cX10_appendBytes 7 = .ok (.aload_n 0, 1) := by decide +kernel
theorem dX10_appendBytes_8 : decode cX10_appendBytes 8 = .ok (.getfield 82, 3) := by decide +kernel
theorem dX10_appendBytes_11 : decode cX10_appendBytes 11 = .ok (.aload_n 0, 1) := by decide +kernel
theorem dX10_appendBytes_12 : decode cX10_appendBytes 12 = .ok (.getfield 9, 3) := by decide +kernel
theorem dX10_appendBytes_15 : decode cX10_appendBytes 15 = .ok (.arraylength, 1) := by decide +kernel
theorem dX10_appendBytes_16 : decode cX10_appendBytes 16 = .ok (.if_icmp .ge 32, 3) := by decide +kernel
theorem dX10_appendBytes_19 : decode cX10_appendBytes 19 = .ok (.aload_n 0, 1) := by decide +kernel
theorem dX10_appendBytes_20 : decode cX10_appendBytes 20 = .ok (.getfield 9, 3) := by decide +kernel
theorem dX10_appendBytes_23 : decode cX10_appendBytes 23 = .ok (.aload_n 0, 1) := by decide +kernel
theorem dX10_appendBytes_24 : decode cX10_appendBytes 24 = .ok (.getfield 82, 3) := by decide +kernel
theorem dX10_appendBytes_27 : decode cX10_appendBytes 27 = .ok (.iload_n 1, 1) := by decide +kernel
theorem dX10_appendBytes_28 : decode cX10_appendBytes 28 = .ok (.iload_n 2, 1) := by decide +kernel
theorem dX10_appendBytes_29 : decode cX10_appendBytes 29 = .ok (.ishr, 1) := by decide +kernel
theorem dX10_appendBytes_30 : decode cX10_appendBytes 30 = .ok (.i2b, 1) := by decide +kernel
theorem dX10_appendBytes_31 : decode cX10_appendBytes 31 = .ok (.bastore, 1) := by decide +kernel
theorem dX10_appendBytes_32 : decode cX10_appendBytes 32 = .ok (.aload_n 0, 1) := by decide +kernel
theorem dX10_appendBytes_33 : decode cX10_appendBytes 33 = .ok (.dup, 1) := by decide +kernel
theorem dX10_appendBytes_34 : decode cX10_appendBytes 34 = .ok (.getfield 82, 3) := by decide +kernel
theorem dX10_appendBytes_37 : decode cX10_appendBytes 37 = .ok (.iconst 1, 1) := by decide +kernel
theorem dX10_appendBytes_38 : decode cX10_appendBytes 38 = .ok (.iadd, 1) := by decide +kernel
theorem dX10_appendBytes_39 : decode cX10_appendBytes 39 = .ok (.putfield 82, 3) := by decide +kernel
theorem dX10_appendBytes_42 : decode cX10_appendBytes 42 = .ok (.iinc 2 (-8), 3) := by decide +kernel
theorem dX10_appendBytes_45 : decode cX10_appendBytes 45 = .ok (.goto (-42), 3) := by decide +kernel
theorem dX10_appendBytes_48 : decode cX10_appendBytes 48 = .ok (.return_, 1) := by decide +kernel
theorem dX10_load_0 : decode cX10_load 0 = .ok (.iload_n 1, 1) := by decide +kernel
theorem dX10_load_1 : decode cX10_load 1 = .ok (.ifCond .lt 11, 3) := by decide +kernel
theorem dX10_load_4 : decode cX10_load 4 = .ok (.iload_n 1, 1) := by decide +kernel
theorem dX10_load_5 : decode cX10_load 5 = .ok (.aload_n 0, 1) := by decide +kernel
theorem dX10_load_6 : decode cX10_load 6 = .ok (.getfield 82, 3) := by decide +kernel
theorem dX10_load_9 : decode cX10_load 9 = .ok (.if_icmp .le 13, 3) := by decide +kernel
theorem dX10_load_12 : decode cX10_load 12 = .ok (.new 96, 3) := by decide +kernel
theorem dX10_load_15 : decode cX10_load 15 = .ok (.dup, 1) := by decide +kernel
theorem dX10_load_16 : decode cX10_load 16 = .ok (.ldc 98, 2) := by decide +kernel
theorem dX10_load_18 : decode cX10_load 18 = .ok (.invokespecial 100, 3) := by decide +kernel
theorem dX10_load_21 : decode cX10_load 21 = .ok (.athrow, 1) := by decide +kernel
theorem dX10_load_22 : decode cX10_load 22 = .ok (.aload_n 0, 1) := by decide +kernel
theorem dX10_load_23 : decode cX10_load 23 = .ok (.getfield 42, 3) := by decide +kernel
theorem dX10_load_26 : decode cX10_load 26 = .ok (.aload_n 0, 1) := by decide +kernel
theorem dX10_load_27 : decode cX10_load 27 = .ok (.getfield 9, 3) := by decide +kernel
theorem dX10_load_30 : decode cX10_load 30 = .ok (.iload_n 1, 1) := by decide +kernel
theorem dX10_load_31 : decode cX10_load 31 = .ok (.aload_n 0, 1) := by decide +kernel
theorem dX10_load_32 : decode cX10_load 32 = .ok (.getfield 32, 3) := by decide +kernel
theorem dX10_load_35 : decode cX10_load 35 = .ok (.aload_n 0, 1) := by decide +kernel
theorem dX10_load_36 : decode cX10_load 36 = .ok (.getfield 35, 3) := by decide +kernel
theorem dX10_load_39 : decode cX10_load 39 = .ok (.invokevirtual 101, 3) := by decide +kernel
theorem dX10_load_42 : decode cX10_load 42 = .ok (.istore_n 2, 1) := by decide +kernel
theorem dX10_load_43 : decode cX10_load 43 = .ok (.aload_n 0, 1) := by decide +kernel
theorem dX10_load_44 : decode cX10_load 44 = .ok (.iconst 0, 1) := by decide +kernel
theorem dX10_load_45 : decode cX10_load 45 = .ok (.putfield 82, 3) := by decide +kernel
theorem dX10_load_48 : decode cX10_load 48 = .ok (.aload_n 0, 1) := by decide +kernel
theorem dX10_load_49 : decode cX10_load 49 = .ok (.aload_n 0, 1) := by decide +kernel
theorem dX10_load_50 : decode cX10_load 50 = .ok (.getfield 42, 3) := by decide +kernel
theorem dX10_load_53 : decode cX10_load 53 = .ok (.getfield 105, 3) := by decide +kernel
theorem dX10_load_56 : decode cX10_load 56 = .ok (.putfield 108, 3) := by decide +kernel
theorem dX10_load_59 : decode cX10_load 59 = .ok (.aload_n 0, 1) := by decide +kernel
theorem dX10_load_60 : decode cX10_load 60 = .ok (.aload_n 0, 1) := by decide +kernel
theorem dX10_load_61 : decode cX10_load 61 = .ok (.getfield 42, 3) := by decide +kernel
theorem dX10_load_64 : decode cX10_load 64 = .ok (.getfield 111, 3) := by decide +kernel
theorem dX10_load_67 : decode cX10_load 67 = .ok (.putfield 16, 3) := by decide +kernel
theorem dX10_load_70 : decode cX10_load 70 = .ok (.iload_n 2, 1) := by decide +kernel
theorem dX10_load_71 : decode cX10_load 71 = .ok (.ifCond .ne 13, 3) := by decide +kernel
theorem dX10_load_74 : decode cX10_load 74 = .ok (.new 85, 3) := by decide +kernel
theorem dX10_load_77 : decode cX10_load 77 = .ok (.dup, 1) := by decide +kernel
theorem dX10_load_78 : decode cX10_load 78 = .ok (.ldc 114, 2) := by decide +kernel
theorem dX10_load_80 : decode cX10_load 80 = .ok (.invokespecial 89, 3) := by decide +kernel
theorem dX10_load_83 : decode cX10_load 83 = .ok (.athrow, 1) := by decide +kernel
theorem dX10_load_84 : decode cX10_load 84 = .ok (.aload_n 0, 1) := by decide +kernel
theorem dX10_load_85 : decode cX10_load 85 = .ok (.aload_n 0, 1) := by decide +kernel
theorem dX10_load_86 : decode cX10_load 86 = .ok (.getfield 28, 3) := by decide +kernel
theorem dX10_load_89 : decode cX10_load 89 = .ok (.getfield 116, 3) := by decide +kernel
theorem dX10_load_92 : decode cX10_load 92 = .ok (.putfield 35, 3) := by decide +kernel
theorem dX10_load_95 : decode cX10_load 95 = .ok (.aload_n 0, 1) := by decide +kernel
theorem dX10_load_96 : decode cX10_load 96 = .ok (.getfield 32, 3) := by decide +kernel
theorem dX10_load_99 : decode cX10_load 99 = .ok (.aload_n 0, 1) := by decide +kernel
theorem dX10_load_100 : decode cX10_load 100 = .ok (.getfield 28, 3) := by decide +kernel
theorem dX10_load_103 : decode cX10_load 103 = .ok (.invokevirtual 119, 3) := by decide +kernel
theorem dX10_load_106 : decode cX10_load 106 = .ok (.aload_n 0, 1) := by decide +kernel
theorem dX10_load_107 : decode cX10_load 107 = .ok (.getfield 28, 3) := by decide +kernel
theorem dX10_load_110 : decode cX10_load 110 = .ok (.aload_n 0, 1) := by decide +kernel
theorem dX10_load_111 : decode cX10_load 111 = .ok (.getfield 32, 3) := by decide +kernel
theorem dX10_load_114 : decode cX10_load 114 = .ok (.invokevirtual 123, 3) := by decide +kernel
theorem dX10_load_117 : decode cX10_load 117 = .ok (.aload_n 0, 1) := by decide +kernel
theorem dX10_load_118 : decode cX10_load 118 = .ok (.invokevirtual 126, 3) := by decide +kernel
theorem dX10_load_121 : decode cX10_load 121 = .ok (.iconst 0, 1) := by decide +kernel
theorem dX10_load_122 : decode cX10_load 122 = .ok (.istore_n 3, 1) := by decide +kernel
theorem dX10_load_123 : decode cX10_load 123 = .ok (.iload_n 3, 1) := by decide +kernel
theorem dX10_load_124 : decode cX10_load 124 = .ok (.iconst 2, 1) := by decide +kernel
theorem dX10_load_125 : decode cX10_load 125 = .ok (.if_icmp .ge 16, 3) := by decide +kernel
theorem dX10_load_128 : decode cX10_load 128 = .ok (.aload_n 0, 1) := by decide +kernel
theorem dX10_load_129 : decode cX10_load 129 = .ok (.getfield 57, 3) := by decide +kernel
theorem dX10_load_132 : decode cX10_load 132 = .ok (.iload_n 3, 1) := by decide +kernel
theorem dX10_load_133 : decode cX10_load 133 = .ok (.iconst 0, 1) := by decide +kernel
theorem dX10_load_134 : decode cX10_load 134 = .ok (.bastore, 1) := by decide +kernel
theorem dX10_load_135 : decode cX10_load 135 = .ok (.iinc 3 1, 3) := by decide +kernel
theorem dX10_load_138 : decode cX10_load 138 = .ok (.goto (-15), 3) := by decide +kernel
theorem dX10_load_141 : decode cX10_load 141 = .ok (.aload_n 0, 1) := by decide +kernel
theorem dX10_load_142 : decode cX10_load 142 = .ok (.iconst 0, 1) := by decide +kernel
theorem dX10_load_143 : decode cX10_load 143 = .ok (.putfield 129, 3) := by decide +kernel
theorem dX10_load_146 : decode cX10_load 146 = .ok (.aload_n 0, 1) := by decide +kernel
theorem dX10_load_147 : decode cX10_load 147 = .ok (.getfield 28, 3) := by decide +kernel
theorem dX10_load_150 : decode cX10_load 150 = .ok (.getfield 132, 3) := by decide +kernel
theorem dX10_load_153 : decode cX10_load 153 = .ok (.ireturn, 1) := by decide +kernel
theorem dX10_count_0 : decode cX10_count 0 = .ok (.iload_n 1, 1) := by decide +kernel
theorem dX10_count_1 : decode cX10_count 1 = .ok (.tableswitch 174 0 11 #[63, 71, 82, 93, 101, 112, 120, 128, 136, 144, 152, 163], 63) := by decide +kernel
theorem dX10_count_64 : decode cX10_count 64 = .ok (.aload_n 0, 1) := by decide +kernel
theorem dX10_count_65 : decode cX10_count 65 = .ok (.getfield 28, 3) := by decide +kernel
theorem dX10_count_68 : decode cX10_count 68 = .ok (.invokevirtual 135, 3) := by decide +kernel
theorem dX10_count_71 : decode cX10_count 71 = .ok (.ireturn, 1) := by decide +kernel
theorem dX10_count_72 : decode cX10_count 72 = .ok (.aload_n 0, 1) := by decide +kernel
theorem dX10_count_73 : decode cX10_count 73 = .ok (.getfield 28, 3) := by decide +kernel
theorem dX10_count_76 : decode cX10_count 76 = .ok (.getfield 116, 3) := by decide +kernel
theorem dX10_count_79 : decode cX10_count 79 = .ok (.getfield 139, 3) := by decide +kernel
theorem dX10_count_82 : decode cX10_count 82 = .ok (.ireturn, 1) := by decide +kernel
theorem dX10_count_83 : decode cX10_count 83 = .ok (.aload_n 0, 1) := by decide +kernel
theorem dX10_count_84 : decode cX10_count 84 = .ok (.getfield 28, 3) := by decide +kernel
theorem dX10_count_87 : decode cX10_count 87 = .ok (.getfield 116, 3) := by decide +kernel
theorem dX10_count_90 : decode cX10_count 90 = .ok (.getfield 142, 3) := by decide +kernel
theorem dX10_count_93 : decode cX10_count 93 = .ok (.ireturn, 1) := by decide +kernel
theorem dX10_count_94 : decode cX10_count 94 = .ok (.aload_n 0, 1) := by decide +kernel
theorem dX10_count_95 : decode cX10_count 95 = .ok (.getfield 28, 3) := by decide +kernel
theorem dX10_count_98 : decode cX10_count 98 = .ok (.getfield 132, 3) := by decide +kernel
theorem dX10_count_101 : decode cX10_count 101 = .ok (.ireturn, 1) := by decide +kernel
theorem dX10_count_102 : decode cX10_count 102 = .ok (.aload_n 0, 1) := by decide +kernel
theorem dX10_count_103 : decode cX10_count 103 = .ok (.getfield 28, 3) := by decide +kernel
theorem dX10_count_106 : decode cX10_count 106 = .ok (.getfield 116, 3) := by decide +kernel
theorem dX10_count_109 : decode cX10_count 109 = .ok (.getfield 145, 3) := by decide +kernel
theorem dX10_count_112 : decode cX10_count 112 = .ok (.ireturn, 1) := by decide +kernel
theorem dX10_count_113 : decode cX10_count 113 = .ok (.aload_n 0, 1) := by decide +kernel
theorem dX10_count_114 : decode cX10_count 114 = .ok (.getfield 28, 3) := by decide +kernel
theorem dX10_count_117 : decode cX10_count 117 = .ok (.getfield 148, 3) := by decide +kernel
theorem dX10_count_120 : decode cX10_count 120 = .ok (.ireturn, 1) := by decide +kernel
theorem dX10_count_121 : decode cX10_count 121 = .ok (.aload_n 0, 1) := by decide +kernel
theorem dX10_count_122 : decode cX10_count 122 = .ok (.getfield 28, 3) := by decide +kernel
theorem dX10_count_125 : decode cX10_count 125 = .ok (.getfield 151, 3) := by decide +kernel
theorem dX10_count_128 : decode cX10_count 128 = .ok (.ireturn, 1) := by decide +kernel
theorem dX10_count_129 : decode cX10_count 129 = .ok (.aload_n 0, 1) := by decide +kernel
theorem dX10_count_130 : decode cX10_count 130 = .ok (.getfield 28, 3) := by decide +kernel
theorem dX10_count_133 : decode cX10_count 133 = .ok (.invokevirtual 154, 3) := by decide +kernel
theorem dX10_count_136 : decode cX10_count 136 = .ok (.ireturn, 1) := by decide +kernel
theorem dX10_count_137 : decode cX10_count 137 = .ok (.aload_n 0, 1) := by decide +kernel
theorem dX10_count_138 : decode cX10_count 138 = .ok (.invokevirtual 157, 3) := by decide +kernel
theorem dX10_count_141 : decode cX10_count 141 = .ok (.invokevirtual 161, 3) := by decide +kernel
theorem dX10_count_144 : decode cX10_count 144 = .ok (.ireturn, 1) := by decide +kernel
theorem dX10_count_145 : decode cX10_count 145 = .ok (.aload_n 0, 1) := by decide +kernel
theorem dX10_count_146 : decode cX10_count 146 = .ok (.getfield 49, 3) := by decide +kernel
theorem dX10_count_149 : decode cX10_count 149 = .ok (.getfield 164, 3) := by decide +kernel
theorem dX10_count_152 : decode cX10_count 152 = .ok (.ireturn, 1) := by decide +kernel
theorem dX10_count_153 : decode cX10_count 153 = .ok (.aload_n 0, 1) := by decide +kernel
theorem dX10_count_154 : decode cX10_count 154 = .ok (.getfield 28, 3) := by decide +kernel
theorem dX10_count_157 : decode cX10_count 157 = .ok (.getfield 116, 3) := by decide +kernel
theorem dX10_count_160 : decode cX10_count 160 = .ok (.getfield 167, 3) := by decide +kernel
theorem dX10_count_163 : decode cX10_count 163 = .ok (.ireturn, 1) := by decide +kernel
theorem dX10_count_164 : decode cX10_count 164 = .ok (.aload_n 0, 1) := by decide +kernel
theorem dX10_count_165 : decode cX10_count 165 = .ok (.getfield 28, 3) := by decide +kernel
theorem dX10_count_168 : decode cX10_count 168 = .ok (.getfield 116, 3) := by decide +kernel
theorem dX10_count_171 : decode cX10_count 171 = .ok (.getfield 170, 3) := by decide +kernel
theorem dX10_count_174 : decode cX10_count 174 = .ok (.ireturn, 1) := by decide +kernel
theorem dX10_count_175 : decode cX10_count 175 = .ok (.new 96, 3) := by decide +kernel
theorem dX10_count_178 : decode cX10_count 178 = .ok (.dup, 1) := by decide +kernel
theorem dX10_count_179 : decode cX10_count 179 = .ok (.ldc 173, 2) := by decide +kernel
theorem dX10_count_181 : decode cX10_count 181 = .ok (.invokespecial 100, 3) := by decide +kernel
theorem dX10_count_184 : decode cX10_count 184 = .ok (.athrow, 1) := by decide +kernel
theorem dX10_cabin_0 : decode cX10_cabin 0 = .ok (.aload_n 0, 1) := by decide +kernel
theorem dX10_cabin_1 : decode cX10_cabin 1 = .ok (.iload_n 1, 1) := by decide +kernel
theorem dX10_cabin_2 : decode cX10_cabin 2 = .ok (.invokevirtual 175, 3) := by decide +kernel
theorem dX10_cabin_5 : decode cX10_cabin 5 = .ok (.iload_n 2, 1) := by decide +kernel
theorem dX10_cabin_6 : decode cX10_cabin 6 = .ok (.tableswitch 145 0 7 #[46, 62, 78, 87, 96, 108, 117, 129], 46) := by decide +kernel
theorem dX10_cabin_52 : decode cX10_cabin 52 = .ok (.aload_n 0, 1) := by decide +kernel
theorem dX10_cabin_53 : decode cX10_cabin 53 = .ok (.getfield 28, 3) := by decide +kernel
theorem dX10_cabin_56 : decode cX10_cabin 56 = .ok (.getfield 116, 3) := by decide +kernel
theorem dX10_cabin_59 : decode cX10_cabin 59 = .ok (.getfield 178, 3) := by decide +kernel
theorem dX10_cabin_62 : decode cX10_cabin 62 = .ok (.iload_n 1, 1) := by decide +kernel
theorem dX10_cabin_63 : decode cX10_cabin 63 = .ok (.aaload, 1) := by decide +kernel
theorem dX10_cabin_64 : decode cX10_cabin 64 = .ok (.getfield 182, 3) := by decide +kernel
theorem dX10_cabin_67 : decode cX10_cabin 67 = .ok (.ireturn, 1) := by decide +kernel
theorem dX10_cabin_68 : decode cX10_cabin 68 = .ok (.aload_n 0, 1) := by decide +kernel
theorem dX10_cabin_69 : decode cX10_cabin 69 = .ok (.getfield 28, 3) := by decide +kernel
theorem dX10_cabin_72 : decode cX10_cabin 72 = .ok (.getfield 116, 3) := by decide +kernel
theorem dX10_cabin_75 : decode cX10_cabin 75 = .ok (.getfield 178, 3) := by decide +kernel
theorem dX10_cabin_78 : decode cX10_cabin 78 = .ok (.iload_n 1, 1) := by decide +kernel
theorem dX10_cabin_79 : decode cX10_cabin 79 = .ok (.aaload, 1) := by decide +kernel
theorem dX10_cabin_80 : decode cX10_cabin 80 = .ok (.getfield 187, 3) := by decide +kernel
theorem dX10_cabin_83 : decode cX10_cabin 83 = .ok (.ireturn, 1) := by decide +kernel
theorem dX10_cabin_84 : decode cX10_cabin 84 = .ok (.aload_n 0, 1) := by decide +kernel
theorem dX10_cabin_85 : decode cX10_cabin 85 = .ok (.getfield 28, 3) := by decide +kernel
theorem dX10_cabin_88 : decode cX10_cabin 88 = .ok (.iload_n 1, 1) := by decide +kernel
theorem dX10_cabin_89 : decode cX10_cabin 89 = .ok (.invokevirtual 190, 3) := by decide +kernel
theorem dX10_cabin_92 : decode cX10_cabin 92 = .ok (.ireturn, 1) := by decide +kernel
theorem dX10_cabin_93 : decode cX10_cabin 93 = .ok (.aload_n 0, 1) := by decide +kernel
theorem dX10_cabin_94 : decode cX10_cabin 94 = .ok (.getfield 28, 3) := by decide +kernel
theorem dX10_cabin_97 : decode cX10_cabin 97 = .ok (.iload_n 1, 1) := by decide +kernel
theorem dX10_cabin_98 : decode cX10_cabin 98 = .ok (.invokevirtual 194, 3) := by decide +kernel
theorem dX10_cabin_101 : decode cX10_cabin 101 = .ok (.ireturn, 1) := by decide +kernel
theorem dX10_cabin_102 : decode cX10_cabin 102 = .ok (.aload_n 0, 1) := by decide +kernel
theorem dX10_cabin_103 : decode cX10_cabin 103 = .ok (.getfield 28, 3) := by decide +kernel
theorem dX10_cabin_106 : decode cX10_cabin 106 = .ok (.getfield 116, 3) := by decide +kernel
theorem dX10_cabin_109 : decode cX10_cabin 109 = .ok (.iload_n 1, 1) := by decide +kernel
theorem dX10_cabin_110 : decode cX10_cabin 110 = .ok (.invokevirtual 197, 3) := by decide +kernel
theorem dX10_cabin_113 : decode cX10_cabin 113 = .ok (.ireturn, 1) := by decide +kernel
theorem dX10_cabin_114 : decode cX10_cabin 114 = .ok (.aload_n 0, 1) := by decide +kernel
theorem dX10_cabin_115 : decode cX10_cabin 115 = .ok (.getfield 28, 3) := by decide +kernel
theorem dX10_cabin_118 : decode cX10_cabin 118 = .ok (.iload_n 1, 1) := by decide +kernel
theorem dX10_cabin_119 : decode cX10_cabin 119 = .ok (.invokevirtual 200, 3) := by decide +kernel
theorem dX10_cabin_122 : decode cX10_cabin 122 = .ok (.ireturn, 1) := by decide +kernel
theorem dX10_cabin_123 : decode cX10_cabin 123 = .ok (.aload_n 0, 1) := by decide +kernel
theorem dX10_cabin_124 : decode cX10_cabin 124 = .ok (.getfield 28, 3) := by decide +kernel
theorem dX10_cabin_127 : decode cX10_cabin 127 = .ok (.getfield 116, 3) := by decide +kernel
theorem dX10_cabin_130 : decode cX10_cabin 130 = .ok (.iload_n 1, 1) := by decide +kernel
theorem dX10_cabin_131 : decode cX10_cabin 131 = .ok (.invokevirtual 203, 3) := by decide +kernel
theorem dX10_cabin_134 : decode cX10_cabin 134 = .ok (.ireturn, 1) := by decide +kernel
theorem dX10_cabin_135 : decode cX10_cabin 135 = .ok (.aload_n 0, 1) := by decide +kernel
theorem dX10_cabin_136 : decode cX10_cabin 136 = .ok (.invokevirtual 157, 3) := by decide +kernel
theorem dX10_cabin_139 : decode cX10_cabin 139 = .ok (.aload_n 0, 1) := by decide +kernel
theorem dX10_cabin_140 : decode cX10_cabin 140 = .ok (.getfield 28, 3) := by decide +kernel
theorem dX10_cabin_143 : decode cX10_cabin 143 = .ok (.getfield 116, 3) := by decide +kernel
theorem dX10_cabin_146 : decode cX10_cabin 146 = .ok (.iload_n 1, 1) := by decide +kernel
theorem dX10_cabin_147 : decode cX10_cabin 147 = .ok (.invokevirtual 206, 3) := by decide +kernel
theorem dX10_cabin_150 : decode cX10_cabin 150 = .ok (.ireturn, 1) := by decide +kernel
theorem dX10_cabin_151 : decode cX10_cabin 151 = .ok (.new 96, 3) := by decide +kernel
theorem dX10_cabin_154 : decode cX10_cabin 154 = .ok (.dup, 1) := by decide +kernel
theorem dX10_cabin_155 : decode cX10_cabin 155 = .ok (.ldc 210, 2) := by decide +kernel
theorem dX10_cabin_157 : decode cX10_cabin 157 = .ok (.invokespecial 100, 3) := by decide +kernel
theorem dX10_cabin_160 : decode cX10_cabin 160 = .ok (.athrow, 1) := by decide +kernel
theorem dX10_meal_0 : decode cX10_meal 0 = .ok (.aload_n 0, 1) := by decide +kernel
theorem dX10_meal_1 : decode cX10_meal 1 = .ok (.iload_n 1, 1) := by decide +kernel
theorem dX10_meal_2 : decode cX10_meal 2 = .ok (.invokevirtual 212, 3) := by decide +kernel
theorem dX10_meal_5 : decode cX10_meal 5 = .ok (.iload_n 2, 1) := by decide +kernel
theorem dX10_meal_6 : decode cX10_meal 6 = .ok (.tableswitch 205 0 9 #[54, 70, 86, 102, 118, 134, 143, 153, 162, 187], 54) := by decide +kernel
theorem dX10_meal_60 : decode cX10_meal 60 = .ok (.aload_n 0, 1) := by decide +kernel
theorem dX10_meal_61 : decode cX10_meal 61 = .ok (.getfield 28, 3) := by decide +kernel
theorem dX10_meal_64 : decode cX10_meal 64 = .ok (.getfield 116, 3) := by decide +kernel
theorem dX10_meal_67 : decode cX10_meal 67 = .ok (.getfield 215, 3) := by decide +kernel
theorem dX10_meal_70 : decode cX10_meal 70 = .ok (.iload_n 1, 1) := by decide +kernel
theorem dX10_meal_71 : decode cX10_meal 71 = .ok (.aaload, 1) := by decide +kernel
theorem dX10_meal_72 : decode cX10_meal 72 = .ok (.getfield 219, 3) := by decide +kernel
theorem dX10_meal_75 : decode cX10_meal 75 = .ok (.ireturn, 1) := by decide +kernel
theorem dX10_meal_76 : decode cX10_meal 76 = .ok (.aload_n 0, 1) := by decide +kernel
theorem dX10_meal_77 : decode cX10_meal 77 = .ok (.getfield 28, 3) := by decide +kernel
theorem dX10_meal_80 : decode cX10_meal 80 = .ok (.getfield 116, 3) := by decide +kernel
theorem dX10_meal_83 : decode cX10_meal 83 = .ok (.getfield 215, 3) := by decide +kernel
theorem dX10_meal_86 : decode cX10_meal 86 = .ok (.iload_n 1, 1) := by decide +kernel
theorem dX10_meal_87 : decode cX10_meal 87 = .ok (.aaload, 1) := by decide +kernel
theorem dX10_meal_88 : decode cX10_meal 88 = .ok (.getfield 223, 3) := by decide +kernel
theorem dX10_meal_91 : decode cX10_meal 91 = .ok (.ireturn, 1) := by decide +kernel
theorem dX10_meal_92 : decode cX10_meal 92 = .ok (.aload_n 0, 1) := by decide +kernel
theorem dX10_meal_93 : decode cX10_meal 93 = .ok (.getfield 28, 3) := by decide +kernel
theorem dX10_meal_96 : decode cX10_meal 96 = .ok (.getfield 116, 3) := by decide +kernel
theorem dX10_meal_99 : decode cX10_meal 99 = .ok (.getfield 215, 3) := by decide +kernel
theorem dX10_meal_102 : decode cX10_meal 102 = .ok (.iload_n 1, 1) := by decide +kernel
theorem dX10_meal_103 : decode cX10_meal 103 = .ok (.aaload, 1) := by decide +kernel
theorem dX10_meal_104 : decode cX10_meal 104 = .ok (.getfield 226, 3) := by decide +kernel
theorem dX10_meal_107 : decode cX10_meal 107 = .ok (.ireturn, 1) := by decide +kernel
theorem dX10_meal_108 : decode cX10_meal 108 = .ok (.aload_n 0, 1) := by decide +kernel
theorem dX10_meal_109 : decode cX10_meal 109 = .ok (.getfield 28, 3) := by decide +kernel
theorem dX10_meal_112 : decode cX10_meal 112 = .ok (.getfield 116, 3) := by decide +kernel
theorem dX10_meal_115 : decode cX10_meal 115 = .ok (.getfield 215, 3) := by decide +kernel
theorem dX10_meal_118 : decode cX10_meal 118 = .ok (.iload_n 1, 1) := by decide +kernel
theorem dX10_meal_119 : decode cX10_meal 119 = .ok (.aaload, 1) := by decide +kernel
theorem dX10_meal_120 : decode cX10_meal 120 = .ok (.getfield 227, 3) := by decide +kernel
theorem dX10_meal_123 : decode cX10_meal 123 = .ok (.ireturn, 1) := by decide +kernel
theorem dX10_meal_124 : decode cX10_meal 124 = .ok (.aload_n 0, 1) := by decide +kernel
theorem dX10_meal_125 : decode cX10_meal 125 = .ok (.getfield 28, 3) := by decide +kernel
theorem dX10_meal_128 : decode cX10_meal 128 = .ok (.getfield 116, 3) := by decide +kernel
theorem dX10_meal_131 : decode cX10_meal 131 = .ok (.getfield 215, 3) := by decide +kernel
theorem dX10_meal_134 : decode cX10_meal 134 = .ok (.iload_n 1, 1) := by decide +kernel
theorem dX10_meal_135 : decode cX10_meal 135 = .ok (.aaload, 1) := by decide +kernel
theorem dX10_meal_136 : decode cX10_meal 136 = .ok (.getfield 230, 3) := by decide +kernel
theorem dX10_meal_139 : decode cX10_meal 139 = .ok (.ireturn, 1) := by decide +kernel
theorem dX10_meal_140 : decode cX10_meal 140 = .ok (.aload_n 0, 1) := by decide +kernel
theorem dX10_meal_141 : decode cX10_meal 141 = .ok (.getfield 28, 3) := by decide +kernel
theorem dX10_meal_144 : decode cX10_meal 144 = .ok (.iload_n 1, 1) := by decide +kernel
theorem dX10_meal_145 : decode cX10_meal 145 = .ok (.invokevirtual 233, 3) := by decide +kernel
theorem dX10_meal_148 : decode cX10_meal 148 = .ok (.ireturn, 1) := by decide +kernel
theorem dX10_meal_149 : decode cX10_meal 149 = .ok (.aload_n 0, 1) := by decide +kernel
theorem dX10_meal_150 : decode cX10_meal 150 = .ok (.invokevirtual 157, 3) := by decide +kernel
theorem dX10_meal_153 : decode cX10_meal 153 = .ok (.getfield 236, 3) := by decide +kernel
theorem dX10_meal_156 : decode cX10_meal 156 = .ok (.iload_n 1, 1) := by decide +kernel
theorem dX10_meal_157 : decode cX10_meal 157 = .ok (.iaload, 1) := by decide +kernel
theorem dX10_meal_158 : decode cX10_meal 158 = .ok (.ireturn, 1) := by decide +kernel
theorem dX10_meal_159 : decode cX10_meal 159 = .ok (.aload_n 0, 1) := by decide +kernel
theorem dX10_meal_160 : decode cX10_meal 160 = .ok (.getfield 28, 3) := by decide +kernel
theorem dX10_meal_163 : decode cX10_meal 163 = .ok (.iload_n 1, 1) := by decide +kernel
theorem dX10_meal_164 : decode cX10_meal 164 = .ok (.invokevirtual 240, 3) := by decide +kernel
theorem dX10_meal_167 : decode cX10_meal 167 = .ok (.ireturn, 1) := by decide +kernel
theorem dX10_meal_168 : decode cX10_meal 168 = .ok (.aload_n 0, 1) := by decide +kernel
theorem dX10_meal_169 : decode cX10_meal 169 = .ok (.getfield 28, 3) := by decide +kernel
theorem dX10_meal_172 : decode cX10_meal 172 = .ok (.invokevirtual 135, 3) := by decide +kernel
theorem dX10_meal_175 : decode cX10_meal 175 = .ok (.iconst 3, 1) := by decide +kernel
theorem dX10_meal_176 : decode cX10_meal 176 = .ok (.if_icmp .ne 15, 3) := by decide +kernel
theorem dX10_meal_179 : decode cX10_meal 179 = .ok (.aload_n 0, 1) := by decide +kernel
theorem dX10_meal_180 : decode cX10_meal 180 = .ok (.invokevirtual 243, 3) := by decide +kernel
theorem dX10_meal_183 : decode cX10_meal 183 = .ok (.getfield 247, 3) := by decide +kernel
theorem dX10_meal_186 : decode cX10_meal 186 = .ok (.iload_n 1, 1) := by decide +kernel
theorem dX10_meal_187 : decode cX10_meal 187 = .ok (.iaload, 1) := by decide +kernel
theorem dX10_meal_188 : decode cX10_meal 188 = .ok (.goto 4, 3) := by decide +kernel
theorem dX10_meal_191 : decode cX10_meal 191 = .ok (.iconst 0, 1) := by decide +kernel
theorem dX10_meal_192 : decode cX10_meal 192 = .ok (.ireturn, 1) := by decide +kernel
theorem dX10_meal_193 : decode cX10_meal 193 = .ok (.aload_n 0, 1) := by decide +kernel
theorem dX10_meal_194 : decode cX10_meal 194 = .ok (.getfield 28, 3) := by decide +kernel
theorem dX10_meal_197 : decode cX10_meal 197 = .ok (.iload_n 1, 1) := by decide +kernel
theorem dX10_meal_198 : decode cX10_meal 198 = .ok (.aload_n 0, 1) := by decide +kernel
theorem dX10_meal_199 : decode cX10_meal 199 = .ok (.invokevirtual 157, 3) := by decide +kernel
theorem dX10_meal_202 : decode cX10_meal 202 = .ok (.getfield 236, 3) := by decide +kernel
theorem dX10_meal_205 : decode cX10_meal 205 = .ok (.iload_n 1, 1) := by decide +kernel
theorem dX10_meal_206 : decode cX10_meal 206 = .ok (.iaload, 1) := by decide +kernel
theorem dX10_meal_207 : decode cX10_meal 207 = .ok (.invokevirtual 250, 3) := by decide +kernel
theorem dX10_meal_210 : decode cX10_meal 210 = .ok (.ireturn, 1) := by decide +kernel
theorem dX10_meal_211 : decode cX10_meal 211 = .ok (.new 96, 3) := by decide +kernel
theorem dX10_meal_214 : decode cX10_meal 214 = .ok (.dup, 1) := by decide +kernel
theorem dX10_meal_215 : decode cX10_meal 215 = .ok (.ldc 254, 2) := by decide +kernel
theorem dX10_meal_217 : decode cX10_meal 217 = .ok (.invokespecial 100, 3) := by decide +kernel
theorem dX10_meal_220 : decode cX10_meal 220 = .ok (.athrow, 1) := by decide +kernel
theorem dX10_passenger_0 : decode cX10_passenger 0 = .ok (.aload_n 0, 1) := by decide +kernel
theorem dX10_passenger_1 : decode cX10_passenger 1 = .ok (.iload_n 1, 1) := by decide +kernel
theorem dX10_passenger_2 : decode cX10_passenger 2 = .ok (.invokevirtual 256, 3) := by decide +kernel
theorem dX10_passenger_5 : decode cX10_passenger 5 = .ok (.iload_n 2, 1) := by decide +kernel
theorem dX10_passenger_6 : decode cX10_passenger 6 = .ok (.tableswitch 111 0 5 #[38, 48, 58, 68, 93, 102], 38) := by decide +kernel
theorem dX10_passenger_44 : decode cX10_passenger 44 = .ok (.aload_n 0, 1) := by decide +kernel
theorem dX10_passenger_45 : decode cX10_passenger 45 = .ok (.getfield 28, 3) := by decide +kernel
theorem dX10_passenger_48 : decode cX10_passenger 48 = .ok (.getfield 259, 3) := by decide +kernel
theorem dX10_passenger_51 : decode cX10_passenger 51 = .ok (.iload_n 1, 1) := by decide +kernel
theorem dX10_passenger_52 : decode cX10_passenger 52 = .ok (.iaload, 1) := by decide +kernel
theorem dX10_passenger_53 : decode cX10_passenger 53 = .ok (.ireturn, 1) := by decide +kernel
theorem dX10_passenger_54 : decode cX10_passenger 54 = .ok (.aload_n 0, 1) := by decide +kernel
theorem dX10_passenger_55 : decode cX10_passenger 55 = .ok (.getfield 28, 3) := by decide +kernel
theorem dX10_passenger_58 : decode cX10_passenger 58 = .ok (.getfield 262, 3) := by decide +kernel
theorem dX10_passenger_61 : decode cX10_passenger 61 = .ok (.iload_n 1, 1) := by decide +kernel
theorem dX10_passenger_62 : decode cX10_passenger 62 = .ok (.iaload, 1) := by decide +kernel
theorem dX10_passenger_63 : decode cX10_passenger 63 = .ok (.ireturn, 1) := by decide +kernel
theorem dX10_passenger_64 : decode cX10_passenger 64 = .ok (.aload_n 0, 1) := by decide +kernel
theorem dX10_passenger_65 : decode cX10_passenger 65 = .ok (.getfield 28, 3) := by decide +kernel
theorem dX10_passenger_68 : decode cX10_passenger 68 = .ok (.getfield 265, 3) := by decide +kernel
theorem dX10_passenger_71 : decode cX10_passenger 71 = .ok (.iload_n 1, 1) := by decide +kernel
theorem dX10_passenger_72 : decode cX10_passenger 72 = .ok (.iaload, 1) := by decide +kernel
theorem dX10_passenger_73 : decode cX10_passenger 73 = .ok (.ireturn, 1) := by decide +kernel
theorem dX10_passenger_74 : decode cX10_passenger 74 = .ok (.aload_n 0, 1) := by decide +kernel
theorem dX10_passenger_75 : decode cX10_passenger 75 = .ok (.getfield 28, 3) := by decide +kernel
theorem dX10_passenger_78 : decode cX10_passenger 78 = .ok (.invokevirtual 135, 3) := by decide +kernel
theorem dX10_passenger_81 : decode cX10_passenger 81 = .ok (.iconst 3, 1) := by decide +kernel
theorem dX10_passenger_82 : decode cX10_passenger 82 = .ok (.if_icmp .ne 15, 3) := by decide +kernel
theorem dX10_passenger_85 : decode cX10_passenger 85 = .ok (.aload_n 0, 1) := by decide +kernel
theorem dX10_passenger_86 : decode cX10_passenger 86 = .ok (.invokevirtual 243, 3) := by decide +kernel
theorem dX10_passenger_89 : decode cX10_passenger 89 = .ok (.getfield 268, 3) := by decide +kernel
theorem dX10_passenger_92 : decode cX10_passenger 92 = .ok (.iload_n 1, 1) := by decide +kernel
theorem dX10_passenger_93 : decode cX10_passenger 93 = .ok (.iaload, 1) := by decide +kernel
theorem dX10_passenger_94 : decode cX10_passenger 94 = .ok (.goto 4, 3) := by decide +kernel
theorem dX10_passenger_97 : decode cX10_passenger 97 = .ok (.iconst (-1), 1) := by decide +kernel
theorem dX10_passenger_98 : decode cX10_passenger 98 = .ok (.ireturn, 1) := by decide +kernel
theorem dX10_passenger_99 : decode cX10_passenger 99 = .ok (.aload_n 0, 1) := by decide +kernel
theorem dX10_passenger_100 : decode cX10_passenger 100 = .ok (.getfield 28, 3) := by decide +kernel
theorem dX10_passenger_103 : decode cX10_passenger 103 = .ok (.iload_n 1, 1) := by decide +kernel
theorem dX10_passenger_104 : decode cX10_passenger 104 = .ok (.invokevirtual 271, 3) := by decide +kernel
theorem dX10_passenger_107 : decode cX10_passenger 107 = .ok (.ireturn, 1) := by decide +kernel
theorem dX10_passenger_108 : decode cX10_passenger 108 = .ok (.aload_n 0, 1) := by decide +kernel
theorem dX10_passenger_109 : decode cX10_passenger 109 = .ok (.getfield 28, 3) := by decide +kernel
theorem dX10_passenger_112 : decode cX10_passenger 112 = .ok (.iload_n 1, 1) := by decide +kernel
theorem dX10_passenger_113 : decode cX10_passenger 113 = .ok (.invokevirtual 274, 3) := by decide +kernel
theorem dX10_passenger_116 : decode cX10_passenger 116 = .ok (.ireturn, 1) := by decide +kernel
theorem dX10_passenger_117 : decode cX10_passenger 117 = .ok (.new 96, 3) := by decide +kernel
theorem dX10_passenger_120 : decode cX10_passenger 120 = .ok (.dup, 1) := by decide +kernel
theorem dX10_passenger_121 : decode cX10_passenger 121 = .ok (.ldc_w 277, 3) := by decide +kernel
theorem dX10_passenger_124 : decode cX10_passenger 124 = .ok (.invokespecial 100, 3) := by decide +kernel
theorem dX10_passenger_127 : decode cX10_passenger 127 = .ok (.athrow, 1) := by decide +kernel
theorem dX10_trolley_0 : decode cX10_trolley 0 = .ok (.aload_n 0, 1) := by decide +kernel
theorem dX10_trolley_1 : decode cX10_trolley 1 = .ok (.iload_n 1, 1) := by decide +kernel
theorem dX10_trolley_2 : decode cX10_trolley 2 = .ok (.invokevirtual 279, 3) := by decide +kernel
theorem dX10_trolley_5 : decode cX10_trolley 5 = .ok (.iload_n 2, 1) := by decide +kernel
theorem dX10_trolley_6 : decode cX10_trolley 6 = .ok (.tableswitch 74 0 3 #[30, 43, 56, 65], 30) := by decide +kernel
theorem dX10_trolley_36 : decode cX10_trolley 36 = .ok (.aload_n 0, 1) := by decide +kernel
theorem dX10_trolley_37 : decode cX10_trolley 37 = .ok (.getfield 28, 3) := by decide +kernel
theorem dX10_trolley_40 : decode cX10_trolley 40 = .ok (.getfield 116, 3) := by decide +kernel
theorem dX10_trolley_43 : decode cX10_trolley 43 = .ok (.getfield 282, 3) := by decide +kernel
theorem dX10_trolley_46 : decode cX10_trolley 46 = .ok (.iload_n 1, 1) := by decide +kernel
theorem dX10_trolley_47 : decode cX10_trolley 47 = .ok (.iaload, 1) := by decide +kernel
theorem dX10_trolley_48 : decode cX10_trolley 48 = .ok (.ireturn, 1) := by decide +kernel
theorem dX10_trolley_49 : decode cX10_trolley 49 = .ok (.aload_n 0, 1) := by decide +kernel
theorem dX10_trolley_50 : decode cX10_trolley 50 = .ok (.getfield 28, 3) := by decide +kernel
theorem dX10_trolley_53 : decode cX10_trolley 53 = .ok (.getfield 116, 3) := by decide +kernel
theorem dX10_trolley_56 : decode cX10_trolley 56 = .ok (.getfield 285, 3) := by decide +kernel
theorem dX10_trolley_59 : decode cX10_trolley 59 = .ok (.iload_n 1, 1) := by decide +kernel
theorem dX10_trolley_60 : decode cX10_trolley 60 = .ok (.iaload, 1) := by decide +kernel
theorem dX10_trolley_61 : decode cX10_trolley 61 = .ok (.ireturn, 1) := by decide +kernel
theorem dX10_trolley_62 : decode cX10_trolley 62 = .ok (.aload_n 0, 1) := by decide +kernel
theorem dX10_trolley_63 : decode cX10_trolley 63 = .ok (.getfield 28, 3) := by decide +kernel
theorem dX10_trolley_66 : decode cX10_trolley 66 = .ok (.iload_n 1, 1) := by decide +kernel
theorem dX10_trolley_67 : decode cX10_trolley 67 = .ok (.invokevirtual 288, 3) := by decide +kernel
theorem dX10_trolley_70 : decode cX10_trolley 70 = .ok (.ireturn, 1) := by decide +kernel
theorem dX10_trolley_71 : decode cX10_trolley 71 = .ok (.aload_n 0, 1) := by decide +kernel
theorem dX10_trolley_72 : decode cX10_trolley 72 = .ok (.getfield 28, 3) := by decide +kernel
theorem dX10_trolley_75 : decode cX10_trolley 75 = .ok (.iload_n 1, 1) := by decide +kernel
theorem dX10_trolley_76 : decode cX10_trolley 76 = .ok (.invokevirtual 291, 3) := by decide +kernel
theorem dX10_trolley_79 : decode cX10_trolley 79 = .ok (.ireturn, 1) := by decide +kernel
theorem dX10_trolley_80 : decode cX10_trolley 80 = .ok (.new 96, 3) := by decide +kernel
theorem dX10_trolley_83 : decode cX10_trolley 83 = .ok (.dup, 1) := by decide +kernel
theorem dX10_trolley_84 : decode cX10_trolley 84 = .ok (.ldc_w 294, 3) := by decide +kernel
theorem dX10_trolley_87 : decode cX10_trolley 87 = .ok (.invokespecial 100, 3) := by decide +kernel
theorem dX10_trolley_90 : decode cX10_trolley 90 = .ok (.athrow, 1) := by decide +kernel
theorem dX10_held_0 : decode cX10_held 0 = .ok (.aload_n 0, 1) := by decide +kernel
theorem dX10_held_1 : decode cX10_held 1 = .ok (.iload_n 1, 1) := by decide +kernel
theorem dX10_held_2 : decode cX10_held 2 = .ok (.invokevirtual 279, 3) := by decide +kernel
theorem dX10_held_5 : decode cX10_held 5 = .ok (.aload_n 0, 1) := by decide +kernel
theorem dX10_held_6 : decode cX10_held 6 = .ok (.iload_n 2, 1) := by decide +kernel
theorem dX10_held_7 : decode cX10_held 7 = .ok (.invokevirtual 212, 3) := by decide +kernel
theorem dX10_held_10 : decode cX10_held 10 = .ok (.aload_n 0, 1) := by decide +kernel
theorem dX10_held_11 : decode cX10_held 11 = .ok (.getfield 28, 3) := by decide +kernel
theorem dX10_held_14 : decode cX10_held 14 = .ok (.getfield 296, 3) := by decide +kernel
theorem dX10_held_17 : decode cX10_held 17 = .ok (.iload_n 1, 1) := by decide +kernel
theorem dX10_held_18 : decode cX10_held 18 = .ok (.aaload, 1) := by decide +kernel
theorem dX10_held_19 : decode cX10_held 19 = .ok (.iload_n 2, 1) := by decide +kernel
theorem dX10_held_20 : decode cX10_held 20 = .ok (.iaload, 1) := by decide +kernel
theorem dX10_held_21 : decode cX10_held 21 = .ok (.ireturn, 1) := by decide +kernel
theorem dX10_topUpAt_0 : decode cX10_topUpAt 0 = .ok (.iload_n 1, 1) := by decide +kernel
theorem dX10_topUpAt_1 : decode cX10_topUpAt 1 = .ok (.ifCond .lt 14, 3) := by decide +kernel
theorem dX10_topUpAt_4 : decode cX10_topUpAt 4 = .ok (.iload_n 1, 1) := by decide +kernel
theorem dX10_topUpAt_5 : decode cX10_topUpAt 5 = .ok (.aload_n 0, 1) := by decide +kernel
theorem dX10_topUpAt_6 : decode cX10_topUpAt 6 = .ok (.getfield 28, 3) := by decide +kernel
theorem dX10_topUpAt_9 : decode cX10_topUpAt 9 = .ok (.getfield 151, 3) := by decide +kernel
theorem dX10_topUpAt_12 : decode cX10_topUpAt 12 = .ok (.if_icmp .lt 14, 3) := by decide +kernel
theorem dX10_topUpAt_15 : decode cX10_topUpAt 15 = .ok (.new 299, 3) := by decide +kernel
theorem dX10_topUpAt_18 : decode cX10_topUpAt 18 = .ok (.dup, 1) := by decide +kernel
theorem dX10_topUpAt_19 : decode cX10_topUpAt 19 = .ok (.ldc_w 301, 3) := by decide +kernel
theorem dX10_topUpAt_22 : decode cX10_topUpAt 22 = .ok (.invokespecial 303, 3) := by decide +kernel
theorem dX10_topUpAt_25 : decode cX10_topUpAt 25 = .ok (.athrow, 1) := by decide +kernel
theorem dX10_topUpAt_26 : decode cX10_topUpAt 26 = .ok (.iload_n 2, 1) := by decide +kernel
theorem dX10_topUpAt_27 : decode cX10_topUpAt 27 = .ok (.tableswitch 55 0 2 #[25, 35, 45], 25) := by decide +kernel
theorem dX10_topUpAt_52 : decode cX10_topUpAt 52 = .ok (.aload_n 0, 1) := by decide +kernel
theorem dX10_topUpAt_53 : decode cX10_topUpAt 53 = .ok (.getfield 28, 3) := by decide +kernel
theorem dX10_topUpAt_56 : decode cX10_topUpAt 56 = .ok (.getfield 304, 3) := by decide +kernel
theorem dX10_topUpAt_59 : decode cX10_topUpAt 59 = .ok (.iload_n 1, 1) := by decide +kernel
theorem dX10_topUpAt_60 : decode cX10_topUpAt 60 = .ok (.iaload, 1) := by decide +kernel
theorem dX10_topUpAt_61 : decode cX10_topUpAt 61 = .ok (.ireturn, 1) := by decide +kernel
theorem dX10_topUpAt_62 : decode cX10_topUpAt 62 = .ok (.aload_n 0, 1) := by decide +kernel
theorem dX10_topUpAt_63 : decode cX10_topUpAt 63 = .ok (.getfield 28, 3) := by decide +kernel
theorem dX10_topUpAt_66 : decode cX10_topUpAt 66 = .ok (.getfield 307, 3) := by decide +kernel
theorem dX10_topUpAt_69 : decode cX10_topUpAt 69 = .ok (.iload_n 1, 1) := by decide +kernel
theorem dX10_topUpAt_70 : decode cX10_topUpAt 70 = .ok (.iaload, 1) := by decide +kernel
theorem dX10_topUpAt_71 : decode cX10_topUpAt 71 = .ok (.ireturn, 1) := by decide +kernel
theorem dX10_topUpAt_72 : decode cX10_topUpAt 72 = .ok (.aload_n 0, 1) := by decide +kernel
theorem dX10_topUpAt_73 : decode cX10_topUpAt 73 = .ok (.getfield 28, 3) := by decide +kernel
theorem dX10_topUpAt_76 : decode cX10_topUpAt 76 = .ok (.getfield 310, 3) := by decide +kernel
theorem dX10_topUpAt_79 : decode cX10_topUpAt 79 = .ok (.iload_n 1, 1) := by decide +kernel
theorem dX10_topUpAt_80 : decode cX10_topUpAt 80 = .ok (.iaload, 1) := by decide +kernel
theorem dX10_topUpAt_81 : decode cX10_topUpAt 81 = .ok (.ireturn, 1) := by decide +kernel
theorem dX10_topUpAt_82 : decode cX10_topUpAt 82 = .ok (.new 96, 3) := by decide +kernel
theorem dX10_topUpAt_85 : decode cX10_topUpAt 85 = .ok (.dup, 1) := by decide +kernel
theorem dX10_topUpAt_86 : decode cX10_topUpAt 86 = .ok (.ldc_w 313, 3) := by decide +kernel
theorem dX10_topUpAt_89 : decode cX10_topUpAt 89 = .ok (.invokespecial 100, 3) := by decide +kernel
theorem dX10_topUpAt_92 : decode cX10_topUpAt 92 = .ok (.athrow, 1) := by decide +kernel
theorem dX10_board_0 : decode cX10_board 0 = .ok (.aload_n 0, 1) := by decide +kernel
theorem dX10_board_1 : decode cX10_board 1 = .ok (.iload_n 1, 1) := by decide +kernel
theorem dX10_board_2 : decode cX10_board 2 = .ok (.invokevirtual 175, 3) := by decide +kernel
theorem dX10_board_5 : decode cX10_board 5 = .ok (.iload_n 3, 1) := by decide +kernel
theorem dX10_board_6 : decode cX10_board 6 = .ok (.iconst (-1), 1) := by decide +kernel
theorem dX10_board_7 : decode cX10_board 7 = .ok (.if_icmp .eq 8, 3) := by decide +kernel
theorem dX10_board_10 : decode cX10_board 10 = .ok (.aload_n 0, 1) := by decide +kernel
theorem dX10_board_11 : decode cX10_board 11 = .ok (.iload_n 3, 1) := by decide +kernel
theorem dX10_board_12 : decode cX10_board 12 = .ok (.invokevirtual 212, 3) := by decide +kernel
theorem dX10_board_15 : decode cX10_board 15 = .ok (.aload_n 0, 1) := by decide +kernel
theorem dX10_board_16 : decode cX10_board 16 = .ok (.iload_n 2, 1) := by decide +kernel
theorem dX10_board_17 : decode cX10_board 17 = .ok (.invokevirtual 315, 3) := by decide +kernel
theorem dX10_board_20 : decode cX10_board 20 = .ok (.iload_n 3, 1) := by decide +kernel
theorem dX10_board_21 : decode cX10_board 21 = .ok (.iconst (-1), 1) := by decide +kernel
theorem dX10_board_22 : decode cX10_board 22 = .ok (.if_icmp .eq 33, 3) := by decide +kernel
theorem dX10_board_25 : decode cX10_board 25 = .ok (.aload_n 0, 1) := by decide +kernel
theorem dX10_board_26 : decode cX10_board 26 = .ok (.getfield 28, 3) := by decide +kernel
theorem dX10_board_29 : decode cX10_board 29 = .ok (.getfield 116, 3) := by decide +kernel
theorem dX10_board_32 : decode cX10_board 32 = .ok (.getfield 215, 3) := by decide +kernel
theorem dX10_board_35 : decode cX10_board 35 = .ok (.iload_n 3, 1) := by decide +kernel
theorem dX10_board_36 : decode cX10_board 36 = .ok (.aaload, 1) := by decide +kernel
theorem dX10_board_37 : decode cX10_board 37 = .ok (.getfield 219, 3) := by decide +kernel
theorem dX10_board_40 : decode cX10_board 40 = .ok (.iload_n 1, 1) := by decide +kernel
theorem dX10_board_41 : decode cX10_board 41 = .ok (.if_icmp .eq 14, 3) := by decide +kernel
theorem dX10_board_44 : decode cX10_board 44 = .ok (.new 96, 3) := by decide +kernel
theorem dX10_board_47 : decode cX10_board 47 = .ok (.dup, 1) := by decide +kernel
theorem dX10_board_48 : decode cX10_board 48 = .ok (.ldc_w 318, 3) := by decide +kernel
theorem dX10_board_51 : decode cX10_board 51 = .ok (.invokespecial 100, 3) := by decide +kernel
theorem dX10_board_54 : decode cX10_board 54 = .ok (.athrow, 1) := by decide +kernel
theorem dX10_board_55 : decode cX10_board 55 = .ok (.aload_n 0, 1) := by decide +kernel
theorem dX10_board_56 : decode cX10_board 56 = .ok (.invokevirtual 320, 3) := by decide +kernel
theorem dX10_board_59 : decode cX10_board 59 = .ok (.aload_n 0, 1) := by decide +kernel
theorem dX10_board_60 : decode cX10_board 60 = .ok (.getfield 28, 3) := by decide +kernel
theorem dX10_board_63 : decode cX10_board 63 = .ok (.getfield 132, 3) := by decide +kernel
theorem dX10_board_66 : decode cX10_board 66 = .ok (.bipush 40, 2) := by decide +kernel
theorem dX10_board_68 : decode cX10_board 68 = .ok (.if_icmp .lt 9, 3) := by decide +kernel
theorem dX10_board_71 : decode cX10_board 71 = .ok (.aload_n 0, 1) := by decide +kernel
theorem dX10_board_72 : decode cX10_board 72 = .ok (.bipush 8, 2) := by decide +kernel
theorem dX10_board_74 : decode cX10_board 74 = .ok (.invokevirtual 323, 3) := by decide +kernel
theorem dX10_board_77 : decode cX10_board 77 = .ok (.aload_n 0, 1) := by decide +kernel
theorem dX10_board_78 : decode cX10_board 78 = .ok (.iload_n 1, 1) := by decide +kernel
theorem dX10_board_79 : decode cX10_board 79 = .ok (.invokevirtual 326, 3) := by decide +kernel
theorem dX10_board_82 : decode cX10_board 82 = .ok (.aload_n 0, 1) := by decide +kernel
theorem dX10_board_83 : decode cX10_board 83 = .ok (.invokevirtual 329, 3) := by decide +kernel
theorem dX10_board_86 : decode cX10_board 86 = .ok (.aload_n 0, 1) := by decide +kernel
theorem dX10_board_87 : decode cX10_board 87 = .ok (.getfield 28, 3) := by decide +kernel
theorem dX10_board_90 : decode cX10_board 90 = .ok (.iload_n 1, 1) := by decide +kernel
theorem dX10_board_91 : decode cX10_board 91 = .ok (.iload_n 2, 1) := by decide +kernel
theorem dX10_board_92 : decode cX10_board 92 = .ok (.iload_n 3, 1) := by decide +kernel
theorem dX10_board_93 : decode cX10_board 93 = .ok (.invokevirtual 332, 3) := by decide +kernel
theorem dX10_board_96 : decode cX10_board 96 = .ok (.aload_n 0, 1) := by decide +kernel
theorem dX10_board_97 : decode cX10_board 97 = .ok (.getfield 28, 3) := by decide +kernel
theorem dX10_board_100 : decode cX10_board 100 = .ok (.getfield 132, 3) := by decide +kernel
theorem dX10_board_103 : decode cX10_board 103 = .ok (.iconst 1, 1) := by decide +kernel
theorem dX10_board_104 : decode cX10_board 104 = .ok (.isub, 1) := by decide +kernel
theorem dX10_board_105 : decode cX10_board 105 = .ok (.ireturn, 1) := by decide +kernel
theorem dX10_change_0 : decode cX10_change 0 = .ok (.aload_n 0, 1) := by decide +kernel
theorem dX10_change_1 : decode cX10_change 1 = .ok (.iload_n 1, 1) := by decide +kernel
theorem dX10_change_2 : decode cX10_change 2 = .ok (.invokevirtual 256, 3) := by decide +kernel
theorem dX10_change_5 : decode cX10_change 5 = .ok (.aload_n 0, 1) := by decide +kernel
theorem dX10_change_6 : decode cX10_change 6 = .ok (.iload_n 2, 1) := by decide +kernel
theorem dX10_change_7 : decode cX10_change 7 = .ok (.invokevirtual 175, 3) := by decide +kernel
theorem dX10_change_10 : decode cX10_change 10 = .ok (.aload_n 0, 1) := by decide +kernel
theorem dX10_change_11 : decode cX10_change 11 = .ok (.getfield 28, 3) := by decide +kernel
theorem dX10_change_14 : decode cX10_change 14 = .ok (.getfield 259, 3) := by decide +kernel
theorem dX10_change_17 : decode cX10_change 17 = .ok (.iload_n 1, 1) := by decide +kernel
theorem dX10_change_18 : decode cX10_change 18 = .ok (.iaload, 1) := by decide +kernel
theorem dX10_change_19 : decode cX10_change 19 = .ok (.istore_n 3, 1) := by decide +kernel
theorem dX10_change_20 : decode cX10_change 20 = .ok (.iload_n 3, 1) := by decide +kernel
theorem dX10_change_21 : decode cX10_change 21 = .ok (.iload_n 2, 1) := by decide +kernel
theorem dX10_change_22 : decode cX10_change 22 = .ok (.if_icmp .ne 14, 3) := by decide +kernel
theorem dX10_change_25 : decode cX10_change 25 = .ok (.new 96, 3) := by decide +kernel
theorem dX10_change_28 : decode cX10_change 28 = .ok (.dup, 1) := by decide +kernel
theorem dX10_change_29 : decode cX10_change 29 = .ok (.ldc_w 336, 3) := by decide +kernel
theorem dX10_change_32 : decode cX10_change 32 = .ok (.invokespecial 100, 3) := by decide +kernel
theorem dX10_change_35 : decode cX10_change 35 = .ok (.athrow, 1) := by decide +kernel
theorem dX10_change_36 : decode cX10_change 36 = .ok (.aload_n 0, 1) := by decide +kernel
theorem dX10_change_37 : decode cX10_change 37 = .ok (.invokevirtual 320, 3) := by decide +kernel
theorem dX10_change_40 : decode cX10_change 40 = .ok (.aload_n 0, 1) := by decide +kernel
theorem dX10_change_41 : decode cX10_change 41 = .ok (.iload_n 2, 1) := by decide +kernel
theorem dX10_change_42 : decode cX10_change 42 = .ok (.invokevirtual 326, 3) := by decide +kernel
theorem dX10_change_45 : decode cX10_change 45 = .ok (.aload_n 0, 1) := by decide +kernel
theorem dX10_change_46 : decode cX10_change 46 = .ok (.invokevirtual 329, 3) := by decide +kernel
theorem dX10_change_49 : decode cX10_change 49 = .ok (.aload_n 0, 1) := by decide +kernel
theorem dX10_change_50 : decode cX10_change 50 = .ok (.getfield 28, 3) := by decide +kernel
theorem dX10_change_53 : decode cX10_change 53 = .ok (.getfield 259, 3) := by decide +kernel
theorem dX10_change_56 : decode cX10_change 56 = .ok (.iload_n 1, 1) := by decide +kernel
theorem dX10_change_57 : decode cX10_change 57 = .ok (.iload_n 2, 1) := by decide +kernel
theorem dX10_change_58 : decode cX10_change 58 = .ok (.iastore, 1) := by decide +kernel
theorem dX10_change_59 : decode cX10_change 59 = .ok (.aload_n 0, 1) := by decide +kernel
theorem dX10_change_60 : decode cX10_change 60 = .ok (.getfield 28, 3) := by decide +kernel
theorem dX10_change_63 : decode cX10_change 63 = .ok (.getfield 265, 3) := by decide +kernel
theorem dX10_change_66 : decode cX10_change 66 = .ok (.iload_n 1, 1) := by decide +kernel
theorem dX10_change_67 : decode cX10_change 67 = .ok (.iconst (-1), 1) := by decide +kernel
theorem dX10_change_68 : decode cX10_change 68 = .ok (.iastore, 1) := by decide +kernel
theorem dX10_change_69 : decode cX10_change 69 = .ok (.iload_n 3, 1) := by decide +kernel
theorem dX10_change_70 : decode cX10_change 70 = .ok (.ireturn, 1) := by decide +kernel
theorem dX10_leave_0 : decode cX10_leave 0 = .ok (.aload_n 0, 1) := by decide +kernel
theorem dX10_leave_1 : decode cX10_leave 1 = .ok (.iload_n 1, 1) := by decide +kernel
theorem dX10_leave_2 : decode cX10_leave 2 = .ok (.invokevirtual 256, 3) := by decide +kernel
theorem dX10_leave_5 : decode cX10_leave 5 = .ok (.aload_n 0, 1) := by decide +kernel
theorem dX10_leave_6 : decode cX10_leave 6 = .ok (.invokevirtual 320, 3) := by decide +kernel
theorem dX10_leave_9 : decode cX10_leave 9 = .ok (.aload_n 0, 1) := by decide +kernel
theorem dX10_leave_10 : decode cX10_leave 10 = .ok (.invokevirtual 329, 3) := by decide +kernel
theorem dX10_leave_13 : decode cX10_leave 13 = .ok (.aload_n 0, 1) := by decide +kernel
theorem dX10_leave_14 : decode cX10_leave 14 = .ok (.getfield 28, 3) := by decide +kernel
theorem dX10_leave_17 : decode cX10_leave 17 = .ok (.iload_n 1, 1) := by decide +kernel
theorem dX10_leave_18 : decode cX10_leave 18 = .ok (.invokevirtual 338, 3) := by decide +kernel
theorem dX10_leave_21 : decode cX10_leave 21 = .ok (.aload_n 0, 1) := by decide +kernel
theorem dX10_leave_22 : decode cX10_leave 22 = .ok (.getfield 28, 3) := by decide +kernel
theorem dX10_leave_25 : decode cX10_leave 25 = .ok (.getfield 132, 3) := by decide +kernel
theorem dX10_leave_28 : decode cX10_leave 28 = .ok (.ireturn, 1) := by decide +kernel
theorem dX10_setNeeds_0 : decode cX10_setNeeds 0 = .ok (.aload_n 0, 1) := by decide +kernel
theorem dX10_setNeeds_1 : decode cX10_setNeeds 1 = .ok (.iload_n 1, 1) := by decide +kernel
theorem dX10_setNeeds_2 : decode cX10_setNeeds 2 = .ok (.invokevirtual 256, 3) := by decide +kernel
theorem dX10_setNeeds_5 : decode cX10_setNeeds 5 = .ok (.aload_n 0, 1) := by decide +kernel
theorem dX10_setNeeds_6 : decode cX10_setNeeds 6 = .ok (.iload_n 2, 1) := by decide +kernel
theorem dX10_setNeeds_7 : decode cX10_setNeeds 7 = .ok (.invokevirtual 315, 3) := by decide +kernel
theorem dX10_setNeeds_10 : decode cX10_setNeeds 10 = .ok (.aload_n 0, 1) := by decide +kernel
theorem dX10_setNeeds_11 : decode cX10_setNeeds 11 = .ok (.invokevirtual 320, 3) := by decide +kernel
theorem dX10_setNeeds_14 : decode cX10_setNeeds 14 = .ok (.aload_n 0, 1) := by decide +kernel
theorem dX10_setNeeds_15 : decode cX10_setNeeds 15 = .ok (.invokevirtual 329, 3) := by decide +kernel
theorem dX10_setNeeds_18 : decode cX10_setNeeds 18 = .ok (.aload_n 0, 1) := by decide +kernel
theorem dX10_setNeeds_19 : decode cX10_setNeeds 19 = .ok (.getfield 28, 3) := by decide +kernel
theorem dX10_setNeeds_22 : decode cX10_setNeeds 22 = .ok (.getfield 262, 3) := by decide +kernel
theorem dX10_setNeeds_25 : decode cX10_setNeeds 25 = .ok (.iload_n 1, 1) := by decide +kernel
theorem dX10_setNeeds_26 : decode cX10_setNeeds 26 = .ok (.iaload, 1) := by decide +kernel
theorem dX10_setNeeds_27 : decode cX10_setNeeds 27 = .ok (.istore_n 3, 1) := by decide +kernel
theorem dX10_setNeeds_28 : decode cX10_setNeeds 28 = .ok (.aload_n 0, 1) := by decide +kernel
theorem dX10_setNeeds_29 : decode cX10_setNeeds 29 = .ok (.getfield 28, 3) := by decide +kernel
theorem dX10_setNeeds_32 : decode cX10_setNeeds 32 = .ok (.getfield 262, 3) := by decide +kernel
theorem dX10_setNeeds_35 : decode cX10_setNeeds 35 = .ok (.iload_n 1, 1) := by decide +kernel
theorem dX10_setNeeds_36 : decode cX10_setNeeds 36 = .ok (.iload_n 2, 1) := by decide +kernel
theorem dX10_setNeeds_37 : decode cX10_setNeeds 37 = .ok (.iastore, 1) := by decide +kernel
theorem dX10_setNeeds_38 : decode cX10_setNeeds 38 = .ok (.iload_n 3, 1) := by decide +kernel
theorem dX10_setNeeds_39 : decode cX10_setNeeds 39 = .ok (.ireturn, 1) := by decide +kernel
theorem dX10_loadOrder_0 : decode cX10_loadOrder 0 = .ok (.aload_n 0, 1) := by decide +kernel
theorem dX10_loadOrder_1 : decode cX10_loadOrder 1 = .ok (.invokevirtual 341, 3) := by decide +kernel
theorem dX10_loadOrder_4 : decode cX10_loadOrder 4 = .ok (.aload_n 0, 1) := by decide +kernel
theorem dX10_loadOrder_5 : decode cX10_loadOrder 5 = .ok (.invokevirtual 157, 3) := by decide +kernel
theorem dX10_loadOrder_8 : decode cX10_loadOrder 8 = .ok (.astore_n 1, 1) := by decide +kernel
theorem dX10_loadOrder_9 : decode cX10_loadOrder 9 = .ok (.aload_n 0, 1) := by decide +kernel
theorem dX10_loadOrder_10 : decode cX10_loadOrder 10 = .ok (.getfield 32, 3) := by decide +kernel
theorem dX10_loadOrder_13 : decode cX10_loadOrder 13 = .ok (.aload_n 0, 1) := by decide +kernel
theorem dX10_loadOrder_14 : decode cX10_loadOrder 14 = .ok (.getfield 28, 3) := by decide +kernel
theorem dX10_loadOrder_17 : decode cX10_loadOrder 17 = .ok (.invokevirtual 123, 3) := by decide +kernel
theorem dX10_loadOrder_20 : decode cX10_loadOrder 20 = .ok (.iconst 0, 1) := by decide +kernel
theorem dX10_loadOrder_21 : decode cX10_loadOrder 21 = .ok (.istore_n 2, 1) := by decide +kernel
theorem dX10_loadOrder_22 : decode cX10_loadOrder 22 = .ok (.iconst 0, 1) := by decide +kernel
theorem dX10_loadOrder_23 : decode cX10_loadOrder 23 = .ok (.istore_n 3, 1) := by decide +kernel
theorem dX10_loadOrder_24 : decode cX10_loadOrder 24 = .ok (.iload_n 3, 1) := by decide +kernel
theorem dX10_loadOrder_25 : decode cX10_loadOrder 25 = .ok (.aload_n 0, 1) := by decide +kernel
theorem dX10_loadOrder_26 : decode cX10_loadOrder 26 = .ok (.getfield 28, 3) := by decide +kernel
theorem dX10_loadOrder_29 : decode cX10_loadOrder 29 = .ok (.getfield 116, 3) := by decide +kernel
theorem dX10_loadOrder_32 : decode cX10_loadOrder 32 = .ok (.getfield 142, 3) := by decide +kernel
theorem dX10_loadOrder_35 : decode cX10_loadOrder 35 = .ok (.if_icmp .ge 50, 3) := by decide +kernel
theorem dX10_loadOrder_38 : decode cX10_loadOrder 38 = .ok (.aload_n 0, 1) := by decide +kernel
theorem dX10_loadOrder_39 : decode cX10_loadOrder 39 = .ok (.getfield 28, 3) := by decide +kernel
theorem dX10_loadOrder_42 : decode cX10_loadOrder 42 = .ok (.iload_n 3, 1) := by decide +kernel
theorem dX10_loadOrder_43 : decode cX10_loadOrder 43 = .ok (.aload_n 1, 1) := by decide +kernel
theorem dX10_loadOrder_44 : decode cX10_loadOrder 44 = .ok (.getfield 236, 3) := by decide +kernel
theorem dX10_loadOrder_47 : decode cX10_loadOrder 47 = .ok (.iload_n 3, 1) := by decide +kernel
theorem dX10_loadOrder_48 : decode cX10_loadOrder 48 = .ok (.iaload, 1) := by decide +kernel
theorem dX10_loadOrder_49 : decode cX10_loadOrder 49 = .ok (.invokevirtual 250, 3) := by decide +kernel
theorem dX10_loadOrder_52 : decode cX10_loadOrder 52 = .ok (.istore 4, 2) := by decide +kernel
theorem dX10_loadOrder_54 : decode cX10_loadOrder 54 = .ok (.aload_n 0, 1) := by decide +kernel
theorem dX10_loadOrder_55 : decode cX10_loadOrder 55 = .ok (.getfield 32, 3) := by decide +kernel
theorem dX10_loadOrder_58 : decode cX10_loadOrder 58 = .ok (.iload_n 3, 1) := by decide +kernel
theorem dX10_loadOrder_59 : decode cX10_loadOrder 59 = .ok (.iload 4, 2) := by decide +kernel
theorem dX10_loadOrder_61 : decode cX10_loadOrder 61 = .ok (.invokevirtual 344, 3) := by decide +kernel
theorem dX10_loadOrder_64 : decode cX10_loadOrder 64 = .ok (.iload 4, 2) := by decide +kernel
theorem dX10_loadOrder_66 : decode cX10_loadOrder 66 = .ok (.if_icmp .ge 8, 3) := by decide +kernel
theorem dX10_loadOrder_69 : decode cX10_loadOrder 69 = .ok (.aload_n 0, 1) := by decide +kernel
theorem dX10_loadOrder_70 : decode cX10_loadOrder 70 = .ok (.iconst 3, 1) := by decide +kernel
theorem dX10_loadOrder_71 : decode cX10_loadOrder 71 = .ok (.invokevirtual 323, 3) := by decide +kernel
theorem dX10_loadOrder_74 : decode cX10_loadOrder 74 = .ok (.iload_n 2, 1) := by decide +kernel
theorem dX10_loadOrder_75 : decode cX10_loadOrder 75 = .ok (.iload 4, 2) := by decide +kernel
theorem dX10_loadOrder_77 : decode cX10_loadOrder 77 = .ok (.iadd, 1) := by decide +kernel
theorem dX10_loadOrder_78 : decode cX10_loadOrder 78 = .ok (.istore_n 2, 1) := by decide +kernel
theorem dX10_loadOrder_79 : decode cX10_loadOrder 79 = .ok (.iinc 3 1, 3) := by decide +kernel
theorem dX10_loadOrder_82 : decode cX10_loadOrder 82 = .ok (.goto (-58), 3) := by decide +kernel
theorem dX10_loadOrder_85 : decode cX10_loadOrder 85 = .ok (.aload_n 0, 1) := by decide +kernel
theorem dX10_loadOrder_86 : decode cX10_loadOrder 86 = .ok (.invokevirtual 329, 3) := by decide +kernel
theorem dX10_loadOrder_89 : decode cX10_loadOrder 89 = .ok (.aload_n 0, 1) := by decide +kernel
theorem dX10_loadOrder_90 : decode cX10_loadOrder 90 = .ok (.getfield 28, 3) := by decide +kernel
theorem dX10_loadOrder_93 : decode cX10_loadOrder 93 = .ok (.aload_n 0, 1) := by decide +kernel
theorem dX10_loadOrder_94 : decode cX10_loadOrder 94 = .ok (.getfield 32, 3) := by decide +kernel
theorem dX10_loadOrder_97 : decode cX10_loadOrder 97 = .ok (.invokevirtual 123, 3) := by decide +kernel
theorem dX10_loadOrder_100 : decode cX10_loadOrder 100 = .ok (.iload_n 2, 1) := by decide +kernel
theorem dX10_loadOrder_101 : decode cX10_loadOrder 101 = .ok (.ireturn, 1) := by decide +kernel
theorem dX10_store_0 : decode cX10_store 0 = .ok (.aload_n 0, 1) := by decide +kernel
theorem dX10_store_1 : decode cX10_store 1 = .ok (.iload_n 1, 1) := by decide +kernel
theorem dX10_store_2 : decode cX10_store 2 = .ok (.invokevirtual 212, 3) := by decide +kernel
theorem dX10_store_5 : decode cX10_store 5 = .ok (.aload_n 0, 1) := by decide +kernel
theorem dX10_store_6 : decode cX10_store 6 = .ok (.iload_n 2, 1) := by decide +kernel
theorem dX10_store_7 : decode cX10_store 7 = .ok (.invokevirtual 347, 3) := by decide +kernel
theorem dX10_store_10 : decode cX10_store 10 = .ok (.aload_n 0, 1) := by decide +kernel
theorem dX10_store_11 : decode cX10_store 11 = .ok (.invokevirtual 341, 3) := by decide +kernel
theorem dX10_store_14 : decode cX10_store 14 = .ok (.aload_n 0, 1) := by decide +kernel
theorem dX10_store_15 : decode cX10_store 15 = .ok (.getfield 32, 3) := by decide +kernel
theorem dX10_store_18 : decode cX10_store 18 = .ok (.aload_n 0, 1) := by decide +kernel
theorem dX10_store_19 : decode cX10_store 19 = .ok (.getfield 28, 3) := by decide +kernel
theorem dX10_store_22 : decode cX10_store 22 = .ok (.invokevirtual 123, 3) := by decide +kernel
theorem dX10_store_25 : decode cX10_store 25 = .ok (.aload_n 0, 1) := by decide +kernel
theorem dX10_store_26 : decode cX10_store 26 = .ok (.getfield 32, 3) := by decide +kernel
theorem dX10_store_29 : decode cX10_store 29 = .ok (.iload_n 1, 1) := by decide +kernel
theorem dX10_store_30 : decode cX10_store 30 = .ok (.iload_n 2, 1) := by decide +kernel
theorem dX10_store_31 : decode cX10_store 31 = .ok (.invokevirtual 344, 3) := by decide +kernel
theorem dX10_store_34 : decode cX10_store 34 = .ok (.iload_n 2, 1) := by decide +kernel
theorem dX10_store_35 : decode cX10_store 35 = .ok (.if_icmp .ge 8, 3) := by decide +kernel
theorem dX10_store_38 : decode cX10_store 38 = .ok (.aload_n 0, 1) := by decide +kernel
theorem dX10_store_39 : decode cX10_store 39 = .ok (.iconst 3, 1) := by decide +kernel
theorem dX10_store_40 : decode cX10_store 40 = .ok (.invokevirtual 323, 3) := by decide +kernel
theorem dX10_store_43 : decode cX10_store 43 = .ok (.aload_n 0, 1) := by decide +kernel
theorem dX10_store_44 : decode cX10_store 44 = .ok (.invokevirtual 329, 3) := by decide +kernel
theorem dX10_store_47 : decode cX10_store 47 = .ok (.aload_n 0, 1) := by decide +kernel
theorem dX10_store_48 : decode cX10_store 48 = .ok (.getfield 28, 3) := by decide +kernel
theorem dX10_store_51 : decode cX10_store 51 = .ok (.aload_n 0, 1) := by decide +kernel
