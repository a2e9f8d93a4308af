theorem dX11_readMenu_78 : decode cX11_readMenu 78 = .ok (.ireturn, 1) := by decide +kernel
theorem dX11_readMenu_79 : decode cX11_readMenu 79 = .ok (.aload_n 0, 1) := by decide +kernel
theorem dX11_readMenu_80 : decode cX11_readMenu 80 = .ok (.getfield 13, 3) := by decide +kernel
theorem dX11_readMenu_83 : decode cX11_readMenu 83 = .ok (.iload_n 1, 1) := by decide +kernel
theorem dX11_readMenu_84 : decode cX11_readMenu 84 = .ok (.iconst 1, 1) := by decide +kernel
theorem dX11_readMenu_85 : decode cX11_readMenu 85 = .ok (.iadd, 1) := by decide +kernel
theorem dX11_readMenu_86 : decode cX11_readMenu 86 = .ok (.aload_n 0, 1) := by decide +kernel
theorem dX11_readMenu_87 : decode cX11_readMenu 87 = .ok (.getfield 169, 3) := by decide +kernel
theorem dX11_readMenu_90 : decode cX11_readMenu 90 = .ok (.iastore, 1) := by decide +kernel
theorem dX11_readMenu_91 : decode cX11_readMenu 91 = .ok (.iconst 1, 1) := by decide +kernel
theorem dX11_readMenu_92 : decode cX11_readMenu 92 = .ok (.ireturn, 1) := by decide +kernel
theorem dX11_readMeal_0 : decode cX11_readMeal 0 = .ok (.aload_n 0, 1) := by decide +kernel
theorem dX11_readMeal_1 : decode cX11_readMeal 1 = .ok (.getfield 13, 3) := by decide +kernel
theorem dX11_readMeal_4 : decode cX11_readMeal 4 = .ok (.iconst 1, 1) := by decide +kernel
theorem dX11_readMeal_5 : decode cX11_readMeal 5 = .ok (.iaload, 1) := by decide +kernel
theorem dX11_readMeal_6 : decode cX11_readMeal 6 = .ok (.istore_n 1, 1) := by decide +kernel
theorem dX11_readMeal_7 : decode cX11_readMeal 7 = .ok (.bipush 13, 2) := by decide +kernel
theorem dX11_readMeal_9 : decode cX11_readMeal 9 = .ok (.iconst 5, 1) := by decide +kernel
theorem dX11_readMeal_10 : decode cX11_readMeal 10 = .ok (.iload_n 1, 1) := by decide +kernel
theorem dX11_readMeal_11 : decode cX11_readMeal 11 = .ok (.imul, 1) := by decide +kernel
theorem dX11_readMeal_12 : decode cX11_readMeal 12 = .ok (.iadd, 1) := by decide +kernel
theorem dX11_readMeal_13 : decode cX11_readMeal 13 = .ok (.istore_n 2, 1) := by decide +kernel
theorem dX11_readMeal_14 : decode cX11_readMeal 14 = .ok (.aload_n 0, 1) := by decide +kernel
theorem dX11_readMeal_15 : decode cX11_readMeal 15 = .ok (.invokevirtual 199, 3) := by decide +kernel
theorem dX11_readMeal_18 : decode cX11_readMeal 18 = .ok (.ifCond .ne 5, 3) := by decide +kernel
theorem dX11_readMeal_21 : decode cX11_readMeal 21 = .ok (.iconst 0, 1) := by decide +kernel
theorem dX11_readMeal_22 : decode cX11_readMeal 22 = .ok (.ireturn, 1) := by decide +kernel
theorem dX11_readMeal_23 : decode cX11_readMeal 23 = .ok (.aload_n 0, 1) := by decide +kernel
theorem dX11_readMeal_24 : decode cX11_readMeal 24 = .ok (.aload_n 0, 1) := by decide +kernel
theorem dX11_readMeal_25 : decode cX11_readMeal 25 = .ok (.getfield 176, 3) := by decide +kernel
theorem dX11_readMeal_28 : decode cX11_readMeal 28 = .ok (.invokevirtual 213, 3) := by decide +kernel
theorem dX11_readMeal_31 : decode cX11_readMeal 31 = .ok (.iconst (-1), 1) := by decide +kernel
theorem dX11_readMeal_32 : decode cX11_readMeal 32 = .ok (.if_icmp .eq 9, 3) := by decide +kernel
theorem dX11_readMeal_35 : decode cX11_readMeal 35 = .ok (.aload_n 0, 1) := by decide +kernel
theorem dX11_readMeal_36 : decode cX11_readMeal 36 = .ok (.iconst 3, 1) := by decide +kernel
theorem dX11_readMeal_37 : decode cX11_readMeal 37 = .ok (.invokevirtual 166, 3) := by decide +kernel
theorem dX11_readMeal_40 : decode cX11_readMeal 40 = .ok (.ireturn, 1) := by decide +kernel
theorem dX11_readMeal_41 : decode cX11_readMeal 41 = .ok (.aload_n 0, 1) := by decide +kernel
theorem dX11_readMeal_42 : decode cX11_readMeal 42 = .ok (.invokevirtual 162, 3) := by decide +kernel
theorem dX11_readMeal_45 : decode cX11_readMeal 45 = .ok (.pop, 1) := by decide +kernel
theorem dX11_readMeal_46 : decode cX11_readMeal 46 = .ok (.aload_n 0, 1) := by decide +kernel
theorem dX11_readMeal_47 : decode cX11_readMeal 47 = .ok (.getfield 23, 3) := by decide +kernel
theorem dX11_readMeal_50 : decode cX11_readMeal 50 = .ok (.iload_n 1, 1) := by decide +kernel
theorem dX11_readMeal_51 : decode cX11_readMeal 51 = .ok (.aload_n 0, 1) := by decide +kernel
theorem dX11_readMeal_52 : decode cX11_readMeal 52 = .ok (.getfield 176, 3) := by decide +kernel
theorem dX11_readMeal_55 : decode cX11_readMeal 55 = .ok (.lastore, 1) := by decide +kernel
theorem dX11_readMeal_56 : decode cX11_readMeal 56 = .ok (.aload_n 0, 1) := by decide +kernel
theorem dX11_readMeal_57 : decode cX11_readMeal 57 = .ok (.iload_n 2, 1) := by decide +kernel
theorem dX11_readMeal_58 : decode cX11_readMeal 58 = .ok (.invokevirtual 216, 3) := by decide +kernel
theorem dX11_readMeal_61 : decode cX11_readMeal 61 = .ok (.ifCond .eq 12, 3) := by decide +kernel
theorem dX11_readMeal_64 : decode cX11_readMeal 64 = .ok (.aload_n 0, 1) := by decide +kernel
theorem dX11_readMeal_65 : decode cX11_readMeal 65 = .ok (.iconst 1, 1) := by decide +kernel
theorem dX11_readMeal_66 : decode cX11_readMeal 66 = .ok (.iconst 3, 1) := by decide +kernel
theorem dX11_readMeal_67 : decode cX11_readMeal 67 = .ok (.invokevirtual 196, 3) := by decide +kernel
theorem dX11_readMeal_70 : decode cX11_readMeal 70 = .ok (.ifCond .ne 5, 3) := by decide +kernel
theorem dX11_readMeal_73 : decode cX11_readMeal 73 = .ok (.iconst 0, 1) := by decide +kernel
theorem dX11_readMeal_74 : decode cX11_readMeal 74 = .ok (.ireturn, 1) := by decide +kernel
theorem dX11_readMeal_75 : decode cX11_readMeal 75 = .ok (.aload_n 0, 1) := by decide +kernel
theorem dX11_readMeal_76 : decode cX11_readMeal 76 = .ok (.getfield 13, 3) := by decide +kernel
theorem dX11_readMeal_79 : decode cX11_readMeal 79 = .ok (.iload_n 2, 1) := by decide +kernel
theorem dX11_readMeal_80 : decode cX11_readMeal 80 = .ok (.iconst 2, 1) := by decide +kernel
theorem dX11_readMeal_81 : decode cX11_readMeal 81 = .ok (.iadd, 1) := by decide +kernel
theorem dX11_readMeal_82 : decode cX11_readMeal 82 = .ok (.aload_n 0, 1) := by decide +kernel
theorem dX11_readMeal_83 : decode cX11_readMeal 83 = .ok (.getfield 169, 3) := by decide +kernel
theorem dX11_readMeal_86 : decode cX11_readMeal 86 = .ok (.iastore, 1) := by decide +kernel
theorem dX11_readMeal_87 : decode cX11_readMeal 87 = .ok (.aload_n 0, 1) := by decide +kernel
theorem dX11_readMeal_88 : decode cX11_readMeal 88 = .ok (.iconst 1, 1) := by decide +kernel
theorem dX11_readMeal_89 : decode cX11_readMeal 89 = .ok (.sipush 9999, 3) := by decide +kernel
theorem dX11_readMeal_92 : decode cX11_readMeal 92 = .ok (.invokevirtual 196, 3) := by decide +kernel
theorem dX11_readMeal_95 : decode cX11_readMeal 95 = .ok (.ifCond .ne 5, 3) := by decide +kernel
theorem dX11_readMeal_98 : decode cX11_readMeal 98 = .ok (.iconst 0, 1) := by decide +kernel
theorem dX11_readMeal_99 : decode cX11_readMeal 99 = .ok (.ireturn, 1) := by decide +kernel
theorem dX11_readMeal_100 : decode cX11_readMeal 100 = .ok (.aload_n 0, 1) := by decide +kernel
theorem dX11_readMeal_101 : decode cX11_readMeal 101 = .ok (.getfield 13, 3) := by decide +kernel
theorem dX11_readMeal_104 : decode cX11_readMeal 104 = .ok (.iload_n 2, 1) := by decide +kernel
theorem dX11_readMeal_105 : decode cX11_readMeal 105 = .ok (.iconst 3, 1) := by decide +kernel
theorem dX11_readMeal_106 : decode cX11_readMeal 106 = .ok (.iadd, 1) := by decide +kernel
theorem dX11_readMeal_107 : decode cX11_readMeal 107 = .ok (.aload_n 0, 1) := by decide +kernel
theorem dX11_readMeal_108 : decode cX11_readMeal 108 = .ok (.getfield 169, 3) := by decide +kernel
theorem dX11_readMeal_111 : decode cX11_readMeal 111 = .ok (.iastore, 1) := by decide +kernel
theorem dX11_readMeal_112 : decode cX11_readMeal 112 = .ok (.aload_n 0, 1) := by decide +kernel
theorem dX11_readMeal_113 : decode cX11_readMeal 113 = .ok (.getfield 13, 3) := by decide +kernel
theorem dX11_readMeal_116 : decode cX11_readMeal 116 = .ok (.iload_n 2, 1) := by decide +kernel
theorem dX11_readMeal_117 : decode cX11_readMeal 117 = .ok (.iconst 4, 1) := by decide +kernel
theorem dX11_readMeal_118 : decode cX11_readMeal 118 = .ok (.iadd, 1) := by decide +kernel
theorem dX11_readMeal_119 : decode cX11_readMeal 119 = .ok (.iconst 0, 1) := by decide +kernel
theorem dX11_readMeal_120 : decode cX11_readMeal 120 = .ok (.iastore, 1) := by decide +kernel
theorem dX11_readMeal_121 : decode cX11_readMeal 121 = .ok (.aload_n 0, 1) := by decide +kernel
theorem dX11_readMeal_122 : decode cX11_readMeal 122 = .ok (.ldc2_w 219, 3) := by decide +kernel
theorem dX11_readMeal_125 : decode cX11_readMeal 125 = .ok (.invokevirtual 204, 3) := by decide +kernel
theorem dX11_readMeal_128 : decode cX11_readMeal 128 = .ok (.ifCond .eq 24, 3) := by decide +kernel
theorem dX11_readMeal_131 : decode cX11_readMeal 131 = .ok (.aload_n 0, 1) := by decide +kernel
theorem dX11_readMeal_132 : decode cX11_readMeal 132 = .ok (.invokevirtual 221, 3) := by decide +kernel
theorem dX11_readMeal_135 : decode cX11_readMeal 135 = .ok (.ifCond .ne 5, 3) := by decide +kernel
theorem dX11_readMeal_138 : decode cX11_readMeal 138 = .ok (.iconst 0, 1) := by decide +kernel
theorem dX11_readMeal_139 : decode cX11_readMeal 139 = .ok (.ireturn, 1) := by decide +kernel
theorem dX11_readMeal_140 : decode cX11_readMeal 140 = .ok (.aload_n 0, 1) := by decide +kernel
theorem dX11_readMeal_141 : decode cX11_readMeal 141 = .ok (.getfield 13, 3) := by decide +kernel
theorem dX11_readMeal_144 : decode cX11_readMeal 144 = .ok (.iload_n 2, 1) := by decide +kernel
theorem dX11_readMeal_145 : decode cX11_readMeal 145 = .ok (.iconst 4, 1) := by decide +kernel
theorem dX11_readMeal_146 : decode cX11_readMeal 146 = .ok (.iadd, 1) := by decide +kernel
theorem dX11_readMeal_147 : decode cX11_readMeal 147 = .ok (.aload_n 0, 1) := by decide +kernel
theorem dX11_readMeal_148 : decode cX11_readMeal 148 = .ok (.getfield 190, 3) := by decide +kernel
theorem dX11_readMeal_151 : decode cX11_readMeal 151 = .ok (.iastore, 1) := by decide +kernel
theorem dX11_readMeal_152 : decode cX11_readMeal 152 = .ok (.aload_n 0, 1) := by decide +kernel
theorem dX11_readMeal_153 : decode cX11_readMeal 153 = .ok (.getfield 13, 3) := by decide +kernel
theorem dX11_readMeal_156 : decode cX11_readMeal 156 = .ok (.iconst 1, 1) := by decide +kernel
theorem dX11_readMeal_157 : decode cX11_readMeal 157 = .ok (.iload_n 1, 1) := by decide +kernel
theorem dX11_readMeal_158 : decode cX11_readMeal 158 = .ok (.iconst 1, 1) := by decide +kernel
theorem dX11_readMeal_159 : decode cX11_readMeal 159 = .ok (.iadd, 1) := by decide +kernel
theorem dX11_readMeal_160 : decode cX11_readMeal 160 = .ok (.iastore, 1) := by decide +kernel
theorem dX11_readMeal_161 : decode cX11_readMeal 161 = .ok (.iconst 1, 1) := by decide +kernel
theorem dX11_readMeal_162 : decode cX11_readMeal 162 = .ok (.ireturn, 1) := by decide +kernel
theorem dX11_readTrolley_0 : decode cX11_readTrolley 0 = .ok (.bipush 73, 2) := by decide +kernel
theorem dX11_readTrolley_2 : decode cX11_readTrolley 2 = .ok (.iconst 2, 1) := by decide +kernel
theorem dX11_readTrolley_3 : decode cX11_readTrolley 3 = .ok (.aload_n 0, 1) := by decide +kernel
theorem dX11_readTrolley_4 : decode cX11_readTrolley 4 = .ok (.getfield 13, 3) := by decide +kernel
theorem dX11_readTrolley_7 : decode cX11_readTrolley 7 = .ok (.iconst 2, 1) := by decide +kernel
theorem dX11_readTrolley_8 : decode cX11_readTrolley 8 = .ok (.iaload, 1) := by decide +kernel
theorem dX11_readTrolley_9 : decode cX11_readTrolley 9 = .ok (.imul, 1) := by decide +kernel
theorem dX11_readTrolley_10 : decode cX11_readTrolley 10 = .ok (.iadd, 1) := by decide +kernel
theorem dX11_readTrolley_11 : decode cX11_readTrolley 11 = .ok (.istore_n 1, 1) := by decide +kernel
theorem dX11_readTrolley_12 : decode cX11_readTrolley 12 = .ok (.aload_n 0, 1) := by decide +kernel
theorem dX11_readTrolley_13 : decode cX11_readTrolley 13 = .ok (.invokevirtual 210, 3) := by decide +kernel
theorem dX11_readTrolley_16 : decode cX11_readTrolley 16 = .ok (.ifCond .ne 5, 3) := by decide +kernel
theorem dX11_readTrolley_19 : decode cX11_readTrolley 19 = .ok (.iconst 0, 1) := by decide +kernel
theorem dX11_readTrolley_20 : decode cX11_readTrolley 20 = .ok (.ireturn, 1) := by decide +kernel
theorem dX11_readTrolley_21 : decode cX11_readTrolley 21 = .ok (.aload_n 0, 1) := by decide +kernel
theorem dX11_readTrolley_22 : decode cX11_readTrolley 22 = .ok (.getfield 13, 3) := by decide +kernel
theorem dX11_readTrolley_25 : decode cX11_readTrolley 25 = .ok (.iload_n 1, 1) := by decide +kernel
theorem dX11_readTrolley_26 : decode cX11_readTrolley 26 = .ok (.iconst 0, 1) := by decide +kernel
theorem dX11_readTrolley_27 : decode cX11_readTrolley 27 = .ok (.iadd, 1) := by decide +kernel
theorem dX11_readTrolley_28 : decode cX11_readTrolley 28 = .ok (.aload_n 0, 1) := by decide +kernel
theorem dX11_readTrolley_29 : decode cX11_readTrolley 29 = .ok (.getfield 184, 3) := by decide +kernel
theorem dX11_readTrolley_32 : decode cX11_readTrolley 32 = .ok (.iastore, 1) := by decide +kernel
theorem dX11_readTrolley_33 : decode cX11_readTrolley 33 = .ok (.aload_n 0, 1) := by decide +kernel
theorem dX11_readTrolley_34 : decode cX11_readTrolley 34 = .ok (.iconst 1, 1) := by decide +kernel
theorem dX11_readTrolley_35 : decode cX11_readTrolley 35 = .ok (.bipush 40, 2) := by decide +kernel
theorem dX11_readTrolley_37 : decode cX11_readTrolley 37 = .ok (.invokevirtual 196, 3) := by decide +kernel
theorem dX11_readTrolley_40 : decode cX11_readTrolley 40 = .ok (.ifCond .ne 5, 3) := by decide +kernel
theorem dX11_readTrolley_43 : decode cX11_readTrolley 43 = .ok (.iconst 0, 1) := by decide +kernel
theorem dX11_readTrolley_44 : decode cX11_readTrolley 44 = .ok (.ireturn, 1) := by decide +kernel
theorem dX11_readTrolley_45 : decode cX11_readTrolley 45 = .ok (.aload_n 0, 1) := by decide +kernel
theorem dX11_readTrolley_46 : decode cX11_readTrolley 46 = .ok (.getfield 13, 3) := by decide +kernel
theorem dX11_readTrolley_49 : decode cX11_readTrolley 49 = .ok (.iload_n 1, 1) := by decide +kernel
theorem dX11_readTrolley_50 : decode cX11_readTrolley 50 = .ok (.iconst 1, 1) := by decide +kernel
theorem dX11_readTrolley_51 : decode cX11_readTrolley 51 = .ok (.iadd, 1) := by decide +kernel
theorem dX11_readTrolley_52 : decode cX11_readTrolley 52 = .ok (.aload_n 0, 1) := by decide +kernel
theorem dX11_readTrolley_53 : decode cX11_readTrolley 53 = .ok (.getfield 169, 3) := by decide +kernel
theorem dX11_readTrolley_56 : decode cX11_readTrolley 56 = .ok (.iastore, 1) := by decide +kernel
theorem dX11_readTrolley_57 : decode cX11_readTrolley 57 = .ok (.aload_n 0, 1) := by decide +kernel
theorem dX11_readTrolley_58 : decode cX11_readTrolley 58 = .ok (.getfield 13, 3) := by decide +kernel
theorem dX11_readTrolley_61 : decode cX11_readTrolley 61 = .ok (.iconst 2, 1) := by decide +kernel
theorem dX11_readTrolley_62 : decode cX11_readTrolley 62 = .ok (.aload_n 0, 1) := by decide +kernel
theorem dX11_readTrolley_63 : decode cX11_readTrolley 63 = .ok (.getfield 13, 3) := by decide +kernel
theorem dX11_readTrolley_66 : decode cX11_readTrolley 66 = .ok (.iconst 2, 1) := by decide +kernel
theorem dX11_readTrolley_67 : decode cX11_readTrolley 67 = .ok (.iaload, 1) := by decide +kernel
theorem dX11_readTrolley_68 : decode cX11_readTrolley 68 = .ok (.iconst 1, 1) := by decide +kernel
theorem dX11_readTrolley_69 : decode cX11_readTrolley 69 = .ok (.iadd, 1) := by decide +kernel
theorem dX11_readTrolley_70 : decode cX11_readTrolley 70 = .ok (.iastore, 1) := by decide +kernel
theorem dX11_readTrolley_71 : decode cX11_readTrolley 71 = .ok (.iconst 1, 1) := by decide +kernel
theorem dX11_readTrolley_72 : decode cX11_readTrolley 72 = .ok (.ireturn, 1) := by decide +kernel
theorem dX11_draftFree_0 : decode cX11_draftFree 0 = .ok (.aload_n 0, 1) := by decide +kernel
theorem dX11_draftFree_1 : decode cX11_draftFree 1 = .ok (.getfield 13, 3) := by decide +kernel
theorem dX11_draftFree_4 : decode cX11_draftFree 4 = .ok (.iconst 5, 1) := by decide +kernel
theorem dX11_draftFree_5 : decode cX11_draftFree 5 = .ok (.iconst 2, 1) := by decide +kernel
theorem dX11_draftFree_6 : decode cX11_draftFree 6 = .ok (.iload_n 1, 1) := by decide +kernel
theorem dX11_draftFree_7 : decode cX11_draftFree 7 = .ok (.imul, 1) := by decide +kernel
theorem dX11_draftFree_8 : decode cX11_draftFree 8 = .ok (.iadd, 1) := by decide +kernel
theorem dX11_draftFree_9 : decode cX11_draftFree 9 = .ok (.iconst 0, 1) := by decide +kernel
theorem dX11_draftFree_10 : decode cX11_draftFree 10 = .ok (.iadd, 1) := by decide +kernel
theorem dX11_draftFree_11 : decode cX11_draftFree 11 = .ok (.iaload, 1) := by decide +kernel
theorem dX11_draftFree_12 : decode cX11_draftFree 12 = .ok (.istore_n 2, 1) := by decide +kernel
theorem dX11_draftFree_13 : decode cX11_draftFree 13 = .ok (.iconst 0, 1) := by decide +kernel
theorem dX11_draftFree_14 : decode cX11_draftFree 14 = .ok (.istore_n 3, 1) := by decide +kernel
theorem dX11_draftFree_15 : decode cX11_draftFree 15 = .ok (.iload_n 3, 1) := by decide +kernel
theorem dX11_draftFree_16 : decode cX11_draftFree 16 = .ok (.aload_n 0, 1) := by decide +kernel
theorem dX11_draftFree_17 : decode cX11_draftFree 17 = .ok (.getfield 29, 3) := by decide +kernel
theorem dX11_draftFree_20 : decode cX11_draftFree 20 = .ok (.iconst 3, 1) := by decide +kernel
theorem dX11_draftFree_21 : decode cX11_draftFree 21 = .ok (.iaload, 1) := by decide +kernel
theorem dX11_draftFree_22 : decode cX11_draftFree 22 = .ok (.if_icmp .ge 31, 3) := by decide +kernel
theorem dX11_draftFree_25 : decode cX11_draftFree 25 = .ok (.aload_n 0, 1) := by decide +kernel
theorem dX11_draftFree_26 : decode cX11_draftFree 26 = .ok (.getfield 29, 3) := by decide +kernel
theorem dX11_draftFree_29 : decode cX11_draftFree 29 = .ok (.iload_n 3, 1) := by decide +kernel
theorem dX11_draftFree_30 : decode cX11_draftFree 30 = .ok (.iconst 0, 1) := by decide +kernel
theorem dX11_draftFree_31 : decode cX11_draftFree 31 = .ok (.invokestatic 91, 3) := by decide +kernel
theorem dX11_draftFree_34 : decode cX11_draftFree 34 = .ok (.iaload, 1) := by decide +kernel
theorem dX11_draftFree_35 : decode cX11_draftFree 35 = .ok (.iload_n 1, 1) := by decide +kernel
theorem dX11_draftFree_36 : decode cX11_draftFree 36 = .ok (.if_icmp .ne 9, 3) := by decide +kernel
theorem dX11_draftFree_39 : decode cX11_draftFree 39 = .ok (.iload_n 2, 1) := by decide +kernel
theorem dX11_draftFree_40 : decode cX11_draftFree 40 = .ok (.iconst 1, 1) := by decide +kernel
theorem dX11_draftFree_41 : decode cX11_draftFree 41 = .ok (.isub, 1) := by decide +kernel
theorem dX11_draftFree_42 : decode cX11_draftFree 42 = .ok (.goto 4, 3) := by decide +kernel
theorem dX11_draftFree_45 : decode cX11_draftFree 45 = .ok (.iload_n 2, 1) := by decide +kernel
theorem dX11_draftFree_46 : decode cX11_draftFree 46 = .ok (.istore_n 2, 1) := by decide +kernel
theorem dX11_draftFree_47 : decode cX11_draftFree 47 = .ok (.iinc 3 1, 3) := by decide +kernel
theorem dX11_draftFree_50 : decode cX11_draftFree 50 = .ok (.goto (-35), 3) := by decide +kernel
theorem dX11_draftFree_53 : decode cX11_draftFree 53 = .ok (.iload_n 2, 1) := by decide +kernel
theorem dX11_draftFree_54 : decode cX11_draftFree 54 = .ok (.ireturn, 1) := by decide +kernel
theorem dX11_adds_0 : decode cX11_adds 0 = .ok (.aload_n 0, 1) := by decide +kernel
theorem dX11_adds_1 : decode cX11_adds 1 = .ok (.getfield 29, 3) := by decide +kernel
theorem dX11_adds_4 : decode cX11_adds 4 = .ok (.iconst 3, 1) := by decide +kernel
theorem dX11_adds_5 : decode cX11_adds 5 = .ok (.iaload, 1) := by decide +kernel
theorem dX11_adds_6 : decode cX11_adds 6 = .ok (.istore 4, 2) := by decide +kernel
theorem dX11_adds_8 : decode cX11_adds 8 = .ok (.aload_n 0, 1) := by decide +kernel
theorem dX11_adds_9 : decode cX11_adds 9 = .ok (.getfield 29, 3) := by decide +kernel
theorem dX11_adds_12 : decode cX11_adds 12 = .ok (.iload 4, 2) := by decide +kernel
theorem dX11_adds_14 : decode cX11_adds 14 = .ok (.iconst 0, 1) := by decide +kernel
theorem dX11_adds_15 : decode cX11_adds 15 = .ok (.invokestatic 91, 3) := by decide +kernel
theorem dX11_adds_18 : decode cX11_adds 18 = .ok (.iload_n 1, 1) := by decide +kernel
theorem dX11_adds_19 : decode cX11_adds 19 = .ok (.iastore, 1) := by decide +kernel
theorem dX11_adds_20 : decode cX11_adds 20 = .ok (.aload_n 0, 1) := by decide +kernel
theorem dX11_adds_21 : decode cX11_adds 21 = .ok (.getfield 29, 3) := by decide +kernel
theorem dX11_adds_24 : decode cX11_adds 24 = .ok (.iload 4, 2) := by decide +kernel
theorem dX11_adds_26 : decode cX11_adds 26 = .ok (.iconst 1, 1) := by decide +kernel
theorem dX11_adds_27 : decode cX11_adds 27 = .ok (.invokestatic 91, 3) := by decide +kernel
theorem dX11_adds_30 : decode cX11_adds 30 = .ok (.iload_n 2, 1) := by decide +kernel
theorem dX11_adds_31 : decode cX11_adds 31 = .ok (.iastore, 1) := by decide +kernel
theorem dX11_adds_32 : decode cX11_adds 32 = .ok (.aload_n 0, 1) := by decide +kernel
theorem dX11_adds_33 : decode cX11_adds 33 = .ok (.getfield 29, 3) := by decide +kernel
theorem dX11_adds_36 : decode cX11_adds 36 = .ok (.iload 4, 2) := by decide +kernel
theorem dX11_adds_38 : decode cX11_adds 38 = .ok (.iconst 2, 1) := by decide +kernel
theorem dX11_adds_39 : decode cX11_adds 39 = .ok (.invokestatic 91, 3) := by decide +kernel
theorem dX11_adds_42 : decode cX11_adds 42 = .ok (.iload_n 3, 1) := by decide +kernel
theorem dX11_adds_43 : decode cX11_adds 43 = .ok (.iastore, 1) := by decide +kernel
theorem dX11_adds_44 : decode cX11_adds 44 = .ok (.aload_n 0, 1) := by decide +kernel
theorem dX11_adds_45 : decode cX11_adds 45 = .ok (.getfield 29, 3) := by decide +kernel
theorem dX11_adds_48 : decode cX11_adds 48 = .ok (.iload 4, 2) := by decide +kernel
theorem dX11_adds_50 : decode cX11_adds 50 = .ok (.iconst 3, 1) := by decide +kernel
theorem dX11_adds_51 : decode cX11_adds 51 = .ok (.invokestatic 91, 3) := by decide +kernel
theorem dX11_adds_54 : decode cX11_adds 54 = .ok (.iconst (-1), 1) := by decide +kernel
theorem dX11_adds_55 : decode cX11_adds 55 = .ok (.iastore, 1) := by decide +kernel
theorem dX11_adds_56 : decode cX11_adds 56 = .ok (.aload_n 0, 1) := by decide +kernel
theorem dX11_adds_57 : decode cX11_adds 57 = .ok (.getfield 29, 3) := by decide +kernel
theorem dX11_adds_60 : decode cX11_adds 60 = .ok (.iconst 3, 1) := by decide +kernel
theorem dX11_adds_61 : decode cX11_adds 61 = .ok (.iload 4, 2) := by decide +kernel
theorem dX11_adds_63 : decode cX11_adds 63 = .ok (.iconst 1, 1) := by decide +kernel
theorem dX11_adds_64 : decode cX11_adds 64 = .ok (.iadd, 1) := by decide +kernel
theorem dX11_adds_65 : decode cX11_adds 65 = .ok (.iastore, 1) := by decide +kernel
theorem dX11_adds_66 : decode cX11_adds 66 = .ok (.return_, 1) := by decide +kernel
theorem dX11_readGuests_0 : decode cX11_readGuests 0 = .ok (.aload_n 0, 1) := by decide +kernel
theorem dX11_readGuests_1 : decode cX11_readGuests 1 = .ok (.invokevirtual 210, 3) := by decide +kernel
theorem dX11_readGuests_4 : decode cX11_readGuests 4 = .ok (.ifCond .ne 5, 3) := by decide +kernel
theorem dX11_readGuests_7 : decode cX11_readGuests 7 = .ok (.iconst 0, 1) := by decide +kernel
theorem dX11_readGuests_8 : decode cX11_readGuests 8 = .ok (.ireturn, 1) := by decide +kernel
theorem dX11_readGuests_9 : decode cX11_readGuests 9 = .ok (.aload_n 0, 1) := by decide +kernel
theorem dX11_readGuests_10 : decode cX11_readGuests 10 = .ok (.getfield 184, 3) := by decide +kernel
theorem dX11_readGuests_13 : decode cX11_readGuests 13 = .ok (.istore_n 1, 1) := by decide +kernel
theorem dX11_readGuests_14 : decode cX11_readGuests 14 = .ok (.aload_n 0, 1) := by decide +kernel
theorem dX11_readGuests_15 : decode cX11_readGuests 15 = .ok (.iconst 1, 1) := by decide +kernel
theorem dX11_readGuests_16 : decode cX11_readGuests 16 = .ok (.bipush 40, 2) := by decide +kernel
theorem dX11_readGuests_18 : decode cX11_readGuests 18 = .ok (.invokevirtual 172, 3) := by decide +kernel
theorem dX11_readGuests_21 : decode cX11_readGuests 21 = .ok (.ifCond .ne 5, 3) := by decide +kernel
theorem dX11_readGuests_24 : decode cX11_readGuests 24 = .ok (.iconst 0, 1) := by decide +kernel
theorem dX11_readGuests_25 : decode cX11_readGuests 25 = .ok (.ireturn, 1) := by decide +kernel
theorem dX11_readGuests_26 : decode cX11_readGuests 26 = .ok (.aload_n 0, 1) := by decide +kernel
theorem dX11_readGuests_27 : decode cX11_readGuests 27 = .ok (.getfield 169, 3) := by decide +kernel
theorem dX11_readGuests_30 : decode cX11_readGuests 30 = .ok (.aload_n 0, 1) := by decide +kernel
theorem dX11_readGuests_31 : decode cX11_readGuests 31 = .ok (.iload_n 1, 1) := by decide +kernel
theorem dX11_readGuests_32 : decode cX11_readGuests 32 = .ok (.invokevirtual 224, 3) := by decide +kernel
theorem dX11_readGuests_35 : decode cX11_readGuests 35 = .ok (.if_icmp .gt 19, 3) := by decide +kernel
theorem dX11_readGuests_38 : decode cX11_readGuests 38 = .ok (.aload_n 0, 1) := by decide +kernel
theorem dX11_readGuests_39 : decode cX11_readGuests 39 = .ok (.getfield 169, 3) := by decide +kernel
theorem dX11_readGuests_42 : decode cX11_readGuests 42 = .ok (.bipush 40, 2) := by decide +kernel
theorem dX11_readGuests_44 : decode cX11_readGuests 44 = .ok (.aload_n 0, 1) := by decide +kernel
theorem dX11_readGuests_45 : decode cX11_readGuests 45 = .ok (.getfield 29, 3) := by decide +kernel
theorem dX11_readGuests_48 : decode cX11_readGuests 48 = .ok (.iconst 3, 1) := by decide +kernel
theorem dX11_readGuests_49 : decode cX11_readGuests 49 = .ok (.iaload, 1) := by decide +kernel
theorem dX11_readGuests_50 : decode cX11_readGuests 50 = .ok (.isub, 1) := by decide +kernel
theorem dX11_readGuests_51 : decode cX11_readGuests 51 = .ok (.if_icmp .le 9, 3) := by decide +kernel
theorem dX11_readGuests_54 : decode cX11_readGuests 54 = .ok (.aload_n 0, 1) := by decide +kernel
theorem dX11_readGuests_55 : decode cX11_readGuests 55 = .ok (.iconst 5, 1) := by decide +kernel
theorem dX11_readGuests_56 : decode cX11_readGuests 56 = .ok (.invokevirtual 166, 3) := by decide +kernel
theorem dX11_readGuests_59 : decode cX11_readGuests 59 = .ok (.ireturn, 1) := by decide +kernel
theorem dX11_readGuests_60 : decode cX11_readGuests 60 = .ok (.iconst 0, 1) := by decide +kernel
theorem dX11_readGuests_61 : decode cX11_readGuests 61 = .ok (.istore_n 2, 1) := by decide +kernel
theorem dX11_readGuests_62 : decode cX11_readGuests 62 = .ok (.iload_n 2, 1) := by decide +kernel
theorem dX11_readGuests_63 : decode cX11_readGuests 63 = .ok (.aload_n 0, 1) := by decide +kernel
theorem dX11_readGuests_64 : decode cX11_readGuests 64 = .ok (.getfield 169, 3) := by decide +kernel
theorem dX11_readGuests_67 : decode cX11_readGuests 67 = .ok (.if_icmp .ge 16, 3) := by decide +kernel
theorem dX11_readGuests_70 : decode cX11_readGuests 70 = .ok (.aload_n 0, 1) := by decide +kernel
theorem dX11_readGuests_71 : decode cX11_readGuests 71 = .ok (.iload_n 1, 1) := by decide +kernel
theorem dX11_readGuests_72 : decode cX11_readGuests 72 = .ok (.iconst 0, 1) := by decide +kernel
theorem dX11_readGuests_73 : decode cX11_readGuests 73 = .ok (.iconst (-1), 1) := by decide +kernel
theorem dX11_readGuests_74 : decode cX11_readGuests 74 = .ok (.invokevirtual 227, 3) := by decide +kernel
theorem dX11_readGuests_77 : decode cX11_readGuests 77 = .ok (.iinc 2 1, 3) := by decide +kernel
theorem dX11_readGuests_80 : decode cX11_readGuests 80 = .ok (.goto (-18), 3) := by decide +kernel
theorem dX11_readGuests_83 : decode cX11_readGuests 83 = .ok (.aload_n 0, 1) := by decide +kernel
theorem dX11_readGuests_84 : decode cX11_readGuests 84 = .ok (.invokevirtual 162, 3) := by decide +kernel
theorem dX11_readGuests_87 : decode cX11_readGuests 87 = .ok (.ireturn, 1) := by decide +kernel
theorem dX11_readGuest_0 : decode cX11_readGuest 0 = .ok (.aload_n 0, 1) := by decide +kernel
theorem dX11_readGuest_1 : decode cX11_readGuest 1 = .ok (.invokevirtual 187, 3) := by decide +kernel
theorem dX11_readGuest_4 : decode cX11_readGuest 4 = .ok (.ifCond .ne 5, 3) := by decide +kernel
theorem dX11_readGuest_7 : decode cX11_readGuest 7 = .ok (.iconst 0, 1) := by decide +kernel
theorem dX11_readGuest_8 : decode cX11_readGuest 8 = .ok (.ireturn, 1) := by decide +kernel
theorem dX11_readGuest_9 : decode cX11_readGuest 9 = .ok (.aload_n 0, 1) := by decide +kernel
theorem dX11_readGuest_10 : decode cX11_readGuest 10 = .ok (.getfield 184, 3) := by decide +kernel
theorem dX11_readGuest_13 : decode cX11_readGuest 13 = .ok (.istore_n 1, 1) := by decide +kernel
theorem dX11_readGuest_14 : decode cX11_readGuest 14 = .ok (.aload_n 0, 1) := by decide +kernel
theorem dX11_readGuest_15 : decode cX11_readGuest 15 = .ok (.iload_n 1, 1) := by decide +kernel
theorem dX11_readGuest_16 : decode cX11_readGuest 16 = .ok (.invokevirtual 224, 3) := by decide +kernel
theorem dX11_readGuest_19 : decode cX11_readGuest 19 = .ok (.ifCond .ne 9, 3) := by decide +kernel
theorem dX11_readGuest_22 : decode cX11_readGuest 22 = .ok (.aload_n 0, 1) := by decide +kernel
theorem dX11_readGuest_23 : decode cX11_readGuest 23 = .ok (.iconst 5, 1) := by decide +kernel
theorem dX11_readGuest_24 : decode cX11_readGuest 24 = .ok (.invokevirtual 166, 3) := by decide +kernel
theorem dX11_readGuest_27 : decode cX11_readGuest 27 = .ok (.ireturn, 1) := by decide +kernel
theorem dX11_readGuest_28 : decode cX11_readGuest 28 = .ok (.aload_n 0, 1) := by decide +kernel
theorem dX11_readGuest_29 : decode cX11_readGuest 29 = .ok (.invokevirtual 162, 3) := by decide +kernel
theorem dX11_readGuest_32 : decode cX11_readGuest 32 = .ok (.pop, 1) := by decide +kernel
theorem dX11_readGuest_33 : decode cX11_readGuest 33 = .ok (.iconst 0, 1) := by decide +kernel
theorem dX11_readGuest_34 : decode cX11_readGuest 34 = .ok (.istore_n 2, 1) := by decide +kernel
theorem dX11_readGuest_35 : decode cX11_readGuest 35 = .ok (.iconst (-1), 1) := by decide +kernel
theorem dX11_readGuest_36 : decode cX11_readGuest 36 = .ok (.istore_n 3, 1) := by decide +kernel
theorem dX11_readGuest_37 : decode cX11_readGuest 37 = .ok (.aload_n 0, 1) := by decide +kernel
theorem dX11_readGuest_38 : decode cX11_readGuest 38 = .ok (.ldc2_w 231, 3) := by decide +kernel
theorem dX11_readGuest_41 : decode cX11_readGuest 41 = .ok (.invokevirtual 204, 3) := by decide +kernel
theorem dX11_readGuest_44 : decode cX11_readGuest 44 = .ok (.ifCond .eq 17, 3) := by decide +kernel
theorem dX11_readGuest_47 : decode cX11_readGuest 47 = .ok (.aload_n 0, 1) := by decide +kernel
theorem dX11_readGuest_48 : decode cX11_readGuest 48 = .ok (.invokevirtual 221, 3) := by decide +kernel
theorem dX11_readGuest_51 : decode cX11_readGuest 51 = .ok (.ifCond .ne 5, 3) := by decide +kernel
theorem dX11_readGuest_54 : decode cX11_readGuest 54 = .ok (.iconst 0, 1) := by decide +kernel
theorem dX11_readGuest_55 : decode cX11_readGuest 55 = .ok (.ireturn, 1) := by decide +kernel
theorem dX11_readGuest_56 : decode cX11_readGuest 56 = .ok (.aload_n 0, 1) := by decide +kernel
theorem dX11_readGuest_57 : decode cX11_readGuest 57 = .ok (.getfield 190, 3) := by decide +kernel
theorem dX11_readGuest_60 : decode cX11_readGuest 60 = .ok (.istore_n 2, 1) := by decide +kernel
theorem dX11_readGuest_61 : decode cX11_readGuest 61 = .ok (.aload_n 0, 1) := by decide +kernel
theorem dX11_readGuest_62 : decode cX11_readGuest 62 = .ok (.ldc2_w 233, 3) := by decide +kernel
theorem dX11_readGuest_65 : decode cX11_readGuest 65 = .ok (.invokevirtual 204, 3) := by decide +kernel
theorem dX11_readGuest_68 : decode cX11_readGuest 68 = .ok (.ifCond .eq 61, 3) := by decide +kernel
theorem dX11_readGuest_71 : decode cX11_readGuest 71 = .ok (.aload_n 0, 1) := by decide +kernel
theorem dX11_readGuest_72 : decode cX11_readGuest 72 = .ok (.invokevirtual 148, 3) := by decide +kernel
theorem dX11_readGuest_75 : decode cX11_readGuest 75 = .ok (.invokestatic 142, 3) := by decide +kernel
theorem dX11_readGuest_78 : decode cX11_readGuest 78 = .ok (.ifCond .ne 9, 3) := by decide +kernel
theorem dX11_readGuest_81 : decode cX11_readGuest 81 = .ok (.aload_n 0, 1) := by decide +kernel
theorem dX11_readGuest_82 : decode cX11_readGuest 82 = .ok (.iconst 1, 1) := by decide +kernel
theorem dX11_readGuest_83 : decode cX11_readGuest 83 = .ok (.invokevirtual 166, 3) := by decide +kernel
theorem dX11_readGuest_86 : decode cX11_readGuest 86 = .ok (.ireturn, 1) := by decide +kernel
theorem dX11_readGuest_87 : decode cX11_readGuest 87 = .ok (.aload_n 0, 1) := by decide +kernel
theorem dX11_readGuest_88 : decode cX11_readGuest 88 = .ok (.aload_n 0, 1) := by decide +kernel
theorem dX11_readGuest_89 : decode cX11_readGuest 89 = .ok (.invokevirtual 158, 3) := by decide +kernel
theorem dX11_readGuest_92 : decode cX11_readGuest 92 = .ok (.invokevirtual 213, 3) := by decide +kernel
theorem dX11_readGuest_95 : decode cX11_readGuest 95 = .ok (.istore_n 3, 1) := by decide +kernel
theorem dX11_readGuest_96 : decode cX11_readGuest 96 = .ok (.iload_n 3, 1) := by decide +kernel
theorem dX11_readGuest_97 : decode cX11_readGuest 97 = .ok (.iconst (-1), 1) := by decide +kernel
theorem dX11_readGuest_98 : decode cX11_readGuest 98 = .ok (.if_icmp .eq 20, 3) := by decide +kernel
theorem dX11_readGuest_101 : decode cX11_readGuest 101 = .ok (.aload_n 0, 1) := by decide +kernel
theorem dX11_readGuest_102 : decode cX11_readGuest 102 = .ok (.getfield 13, 3) := by decide +kernel
theorem dX11_readGuest_105 : decode cX11_readGuest 105 = .ok (.bipush 13, 2) := by decide +kernel
theorem dX11_readGuest_107 : decode cX11_readGuest 107 = .ok (.iconst 5, 1) := by decide +kernel
theorem dX11_readGuest_108 : decode cX11_readGuest 108 = .ok (.iload_n 3, 1) := by decide +kernel
theorem dX11_readGuest_109 : decode cX11_readGuest 109 = .ok (.imul, 1) := by decide +kernel
theorem dX11_readGuest_110 : decode cX11_readGuest 110 = .ok (.iadd, 1) := by decide +kernel
theorem dX11_readGuest_111 : decode cX11_readGuest 111 = .ok (.iconst 0, 1) := by decide +kernel
theorem dX11_readGuest_112 : decode cX11_readGuest 112 = .ok (.iadd, 1) := by decide +kernel
theorem dX11_readGuest_113 : decode cX11_readGuest 113 = .ok (.iaload, 1) := by decide +kernel
theorem dX11_readGuest_114 : decode cX11_readGuest 114 = .ok (.iload_n 1, 1) := by decide +kernel
theorem dX11_readGuest_115 : decode cX11_readGuest 115 = .ok (.if_icmp .eq 9, 3) := by decide +kernel
theorem dX11_readGuest_118 : decode cX11_readGuest 118 = .ok (.aload_n 0, 1) := by decide +kernel
theorem dX11_readGuest_119 : decode cX11_readGuest 119 = .ok (.iconst 3, 1) := by decide +kernel
theorem dX11_readGuest_120 : decode cX11_readGuest 120 = .ok (.invokevirtual 166, 3) := by decide +kernel
theorem dX11_readGuest_123 : decode cX11_readGuest 123 = .ok (.ireturn, 1) := by decide +kernel
theorem dX11_readGuest_124 : decode cX11_readGuest 124 = .ok (.aload_n 0, 1) := by decide +kernel
theorem dX11_readGuest_125 : decode cX11_readGuest 125 = .ok (.invokevirtual 162, 3) := by decide +kernel
theorem dX11_readGuest_128 : decode cX11_readGuest 128 = .ok (.pop, 1) := by decide +kernel
theorem dX11_readGuest_129 : decode cX11_readGuest 129 = .ok (.aload_n 0, 1) := by decide +kernel
theorem dX11_readGuest_130 : decode cX11_readGuest 130 = .ok (.iload_n 1, 1) := by decide +kernel
theorem dX11_readGuest_131 : decode cX11_readGuest 131 = .ok (.iload_n 2, 1) := by decide +kernel
theorem dX11_readGuest_132 : decode cX11_readGuest 132 = .ok (.iload_n 3, 1) := by decide +kernel
theorem dX11_readGuest_133 : decode cX11_readGuest 133 = .ok (.invokevirtual 227, 3) := by decide +kernel
theorem dX11_readGuest_136 : decode cX11_readGuest 136 = .ok (.iconst 1, 1) := by decide +kernel
theorem dX11_readGuest_137 : decode cX11_readGuest 137 = .ok (.ireturn, 1) := by decide +kernel
theorem dX11_isFull_0 : decode cX11_isFull 0 = .ok (.lload_n 1, 1) := by decide +kernel
theorem dX11_isFull_1 : decode cX11_isFull 1 = .ok (.ldc2_w 235, 3) := by decide +kernel
theorem dX11_isFull_4 : decode cX11_isFull 4 = .ok (.lcmp, 1) := by decide +kernel
theorem dX11_isFull_5 : decode cX11_isFull 5 = .ok (.ifCond .ne 19, 3) := by decide +kernel
theorem dX11_isFull_8 : decode cX11_isFull 8 = .ok (.aload_n 0, 1) := by decide +kernel
theorem dX11_isFull_9 : decode cX11_isFull 9 = .ok (.getfield 13, 3) := by decide +kernel
theorem dX11_isFull_12 : decode cX11_isFull 12 = .ok (.iconst 0, 1) := by decide +kernel
theorem dX11_isFull_13 : decode cX11_isFull 13 = .ok (.iaload, 1) := by decide +kernel
theorem dX11_isFull_14 : decode cX11_isFull 14 = .ok (.iconst 4, 1) := by decide +kernel
theorem dX11_isFull_15 : decode cX11_isFull 15 = .ok (.if_icmp .ne 7, 3) := by decide +kernel
theorem dX11_isFull_18 : decode cX11_isFull 18 = .ok (.iconst 1, 1) := by decide +kernel
theorem dX11_isFull_19 : decode cX11_isFull 19 = .ok (.goto 4, 3) := by decide +kernel
theorem dX11_isFull_22 : decode cX11_isFull 22 = .ok (.iconst 0, 1) := by decide +kernel
theorem dX11_isFull_23 : decode cX11_isFull 23 = .ok (.ireturn, 1) := by decide +kernel
theorem dX11_isFull_24 : decode cX11_isFull 24 = .ok (.lload_n 1, 1) := by decide +kernel
theorem dX11_isFull_25 : decode cX11_isFull 25 = .ok (.ldc2_w 237, 3) := by decide +kernel
theorem dX11_isFull_28 : decode cX11_isFull 28 = .ok (.lcmp, 1) := by decide +kernel
theorem dX11_isFull_29 : decode cX11_isFull 29 = .ok (.ifCond .ne 20, 3) := by decide +kernel
theorem dX11_isFull_32 : decode cX11_isFull 32 = .ok (.aload_n 0, 1) := by decide +kernel
theorem dX11_isFull_33 : decode cX11_isFull 33 = .ok (.getfield 13, 3) := by decide +kernel
theorem dX11_isFull_36 : decode cX11_isFull 36 = .ok (.iconst 1, 1) := by decide +kernel
theorem dX11_isFull_37 : decode cX11_isFull 37 = .ok (.iaload, 1) := by decide +kernel
theorem dX11_isFull_38 : decode cX11_isFull 38 = .ok (.bipush 12, 2) := by decide +kernel
theorem dX11_isFull_40 : decode cX11_isFull 40 = .ok (.if_icmp .ne 7, 3) := by decide +kernel
theorem dX11_isFull_43 : decode cX11_isFull 43 = .ok (.iconst 1, 1) := by decide +kernel
theorem dX11_isFull_44 : decode cX11_isFull 44 = .ok (.goto 4, 3) := by decide +kernel
theorem dX11_isFull_47 : decode cX11_isFull 47 = .ok (.iconst 0, 1) := by decide +kernel
theorem dX11_isFull_48 : decode cX11_isFull 48 = .ok (.ireturn, 1) := by decide +kernel
theorem dX11_isFull_49 : decode cX11_isFull 49 = .ok (.lload_n 1, 1) := by decide +kernel
theorem dX11_isFull_50 : decode cX11_isFull 50 = .ok (.ldc2_w 239, 3) := by decide +kernel
theorem dX11_isFull_53 : decode cX11_isFull 53 = .ok (.lcmp, 1) := by decide +kernel
theorem dX11_isFull_54 : decode cX11_isFull 54 = .ok (.ifCond .ne 20, 3) := by decide +kernel
theorem dX11_isFull_57 : decode cX11_isFull 57 = .ok (.aload_n 0, 1) := by decide +kernel
theorem dX11_isFull_58 : decode cX11_isFull 58 = .ok (.getfield 13, 3) := by decide +kernel
theorem dX11_isFull_61 : decode cX11_isFull 61 = .ok (.iconst 2, 1) := by decide +kernel
theorem dX11_isFull_62 : decode cX11_isFull 62 = .ok (.iaload, 1) := by decide +kernel
theorem dX11_isFull_63 : decode cX11_isFull 63 = .ok (.bipush 8, 2) := by decide +kernel
theorem dX11_isFull_65 : decode cX11_isFull 65 = .ok (.if_icmp .ne 7, 3) := by decide +kernel
theorem dX11_isFull_68 : decode cX11_isFull 68 = .ok (.iconst 1, 1) := by decide +kernel
theorem dX11_isFull_69 : decode cX11_isFull 69 = .ok (.goto 4, 3) := by decide +kernel
theorem dX11_isFull_72 : decode cX11_isFull 72 = .ok (.iconst 0, 1) := by decide +kernel
theorem dX11_isFull_73 : decode cX11_isFull 73 = .ok (.ireturn, 1) := by decide +kernel
theorem dX11_isFull_74 : decode cX11_isFull 74 = .ok (.lload_n 1, 1) := by decide +kernel
theorem dX11_isFull_75 : decode cX11_isFull 75 = .ok (.ldc2_w 241, 3) := by decide +kernel
theorem dX11_isFull_78 : decode cX11_isFull 78 = .ok (.lcmp, 1) := by decide +kernel
theorem dX11_isFull_79 : decode cX11_isFull 79 = .ok (.ifCond .ne 18, 3) := by decide +kernel
theorem dX11_isFull_82 : decode cX11_isFull 82 = .ok (.aload_n 0, 1) := by decide +kernel
theorem dX11_isFull_83 : decode cX11_isFull 83 = .ok (.getfield 29, 3) := by decide +kernel
theorem dX11_isFull_86 : decode cX11_isFull 86 = .ok (.iconst 3, 1) := by decide +kernel
theorem dX11_isFull_87 : decode cX11_isFull 87 = .ok (.iaload, 1) := by decide +kernel
theorem dX11_isFull_88 : decode cX11_isFull 88 = .ok (.bipush 40, 2) := by decide +kernel
theorem dX11_isFull_90 : decode cX11_isFull 90 = .ok (.if_icmp .ne 7, 3) := by decide +kernel
theorem dX11_isFull_93 : decode cX11_isFull 93 = .ok (.iconst 1, 1) := by decide +kernel
theorem dX11_isFull_94 : decode cX11_isFull 94 = .ok (.goto 4, 3) := by decide +kernel
theorem dX11_isFull_97 : decode cX11_isFull 97 = .ok (.iconst 0, 1) := by decide +kernel
theorem dX11_isFull_98 : decode cX11_isFull 98 = .ok (.ireturn, 1) := by decide +kernel
theorem dX11_isStatement_0 : decode cX11_isStatement 0 = .ok (.lload_n 0, 1) := by decide +kernel
theorem dX11_isStatement_1 : decode cX11_isStatement 1 = .ok (.ldc2_w 243, 3) := by decide +kernel
theorem dX11_isStatement_4 : decode cX11_isStatement 4 = .ok (.lcmp, 1) := by decide +kernel
theorem dX11_isStatement_5 : decode cX11_isStatement 5 = .ok (.ifCond .eq 51, 3) := by decide +kernel
theorem dX11_isStatement_8 : decode cX11_isStatement 8 = .ok (.lload_n 0, 1) := by decide +kernel
theorem dX11_isStatement_9 : decode cX11_isStatement 9 = .ok (.ldc2_w 245, 3) := by decide +kernel
theorem dX11_isStatement_12 : decode cX11_isStatement 12 = .ok (.lcmp, 1) := by decide +kernel
theorem dX11_isStatement_13 : decode cX11_isStatement 13 = .ok (.ifCond .eq 43, 3) := by decide +kernel
theorem dX11_isStatement_16 : decode cX11_isStatement 16 = .ok (.lload_n 0, 1) := by decide +kernel
theorem dX11_isStatement_17 : decode cX11_isStatement 17 = .ok (.ldc2_w 235, 3) := by decide +kernel
theorem dX11_isStatement_20 : decode cX11_isStatement 20 = .ok (.lcmp, 1) := by decide +kernel
theorem dX11_isStatement_21 : decode cX11_isStatement 21 = .ok (.ifCond .eq 35, 3) := by decide +kernel
theorem dX11_isStatement_24 : decode cX11_isStatement 24 = .ok (.lload_n 0, 1) := by decide +kernel
theorem dX11_isStatement_25 : decode cX11_isStatement 25 = .ok (.ldc2_w 237, 3) := by decide +kernel
theorem dX11_isStatement_28 : decode cX11_isStatement 28 = .ok (.lcmp, 1) := by decide +kernel
theorem dX11_isStatement_29 : decode cX11_isStatement 29 = .ok (.ifCond .eq 27, 3) := by decide +kernel
theorem dX11_isStatement_32 : decode cX11_isStatement 32 = .ok (.lload_n 0, 1) := by decide +kernel
theorem dX11_isStatement_33 : decode cX11_isStatement 33 = .ok (.ldc2_w 239, 3) := by decide +kernel
theorem dX11_isStatement_36 : decode cX11_isStatement 36 = .ok (.lcmp, 1) := by decide +kernel
theorem dX11_isStatement_37 : decode cX11_isStatement 37 = .ok (.ifCond .eq 19, 3) := by decide +kernel
theorem dX11_isStatement_40 : decode cX11_isStatement 40 = .ok (.lload_n 0, 1) := by decide +kernel
theorem dX11_isStatement_41 : decode cX11_isStatement 41 = .ok (.ldc2_w 247, 3) := by decide +kernel
theorem dX11_isStatement_44 : decode cX11_isStatement 44 = .ok (.lcmp, 1) := by decide +kernel
theorem dX11_isStatement_45 : decode cX11_isStatement 45 = .ok (.ifCond .eq 11, 3) := by decide +kernel
theorem dX11_isStatement_48 : decode cX11_isStatement 48 = .ok (.lload_n 0, 1) := by decide +kernel
theorem dX11_isStatement_49 : decode cX11_isStatement 49 = .ok (.ldc2_w 241, 3) := by decide +kernel
theorem dX11_isStatement_52 : decode cX11_isStatement 52 = .ok (.lcmp, 1) := by decide +kernel
theorem dX11_isStatement_53 : decode cX11_isStatement 53 = .ok (.ifCond .ne 7, 3) := by decide +kernel
theorem dX11_isStatement_56 : decode cX11_isStatement 56 = .ok (.iconst 1, 1) := by decide +kernel
theorem dX11_isStatement_57 : decode cX11_isStatement 57 = .ok (.goto 4, 3) := by decide +kernel
theorem dX11_isStatement_60 : decode cX11_isStatement 60 = .ok (.iconst 0, 1) := by decide +kernel
theorem dX11_isStatement_61 : decode cX11_isStatement 61 = .ok (.ireturn, 1) := by decide +kernel
theorem dX11_readBehind_0 : decode cX11_readBehind 0 = .ok (.lload_n 1, 1) := by decide +kernel
theorem dX11_readBehind_1 : decode cX11_readBehind 1 = .ok (.ldc2_w 243, 3) := by decide +kernel
theorem dX11_readBehind_4 : decode cX11_readBehind 4 = .ok (.lcmp, 1) := by decide +kernel
theorem dX11_readBehind_5 : decode cX11_readBehind 5 = .ok (.ifCond .ne 8, 3) := by decide +kernel
theorem dX11_readBehind_8 : decode cX11_readBehind 8 = .ok (.aload_n 0, 1) := by decide +kernel
theorem dX11_readBehind_9 : decode cX11_readBehind 9 = .ok (.invokevirtual 249, 3) := by decide +kernel
theorem dX11_readBehind_12 : decode cX11_readBehind 12 = .ok (.ireturn, 1) := by decide +kernel
theorem dX11_readBehind_13 : decode cX11_readBehind 13 = .ok (.lload_n 1, 1) := by decide +kernel
theorem dX11_readBehind_14 : decode cX11_readBehind 14 = .ok (.ldc2_w 245, 3) := by decide +kernel
theorem dX11_readBehind_17 : decode cX11_readBehind 17 = .ok (.lcmp, 1) := by decide +kernel
theorem dX11_readBehind_18 : decode cX11_readBehind 18 = .ok (.ifCond .ne 8, 3) := by decide +kernel
theorem dX11_readBehind_21 : decode cX11_readBehind 21 = .ok (.aload_n 0, 1) := by decide +kernel
theorem dX11_readBehind_22 : decode cX11_readBehind 22 = .ok (.invokevirtual 252, 3) := by decide +kernel
theorem dX11_readBehind_25 : decode cX11_readBehind 25 = .ok (.ireturn, 1) := by decide +kernel
theorem dX11_readBehind_26 : decode cX11_readBehind 26 = .ok (.lload_n 1, 1) := by decide +kernel
theorem dX11_readBehind_27 : decode cX11_readBehind 27 = .ok (.ldc2_w 235, 3) := by decide +kernel
theorem dX11_readBehind_30 : decode cX11_readBehind 30 = .ok (.lcmp, 1) := by decide +kernel
theorem dX11_readBehind_31 : decode cX11_readBehind 31 = .ok (.ifCond .ne 8, 3) := by decide +kernel
theorem dX11_readBehind_34 : decode cX11_readBehind 34 = .ok (.aload_n 0, 1) := by decide +kernel
theorem dX11_readBehind_35 : decode cX11_readBehind 35 = .ok (.invokevirtual 255, 3) := by decide +kernel
theorem dX11_readBehind_38 : decode cX11_readBehind 38 = .ok (.ireturn, 1) := by decide +kernel
theorem dX11_readBehind_39 : decode cX11_readBehind 39 = .ok (.lload_n 1, 1) := by decide +kernel
theorem dX11_readBehind_40 : decode cX11_readBehind 40 = .ok (.ldc2_w 237, 3) := by decide +kernel
theorem dX11_readBehind_43 : decode cX11_readBehind 43 = .ok (.lcmp, 1) := by decide +kernel
theorem dX11_readBehind_44 : decode cX11_readBehind 44 = .ok (.ifCond .ne 8, 3) := by decide +kernel
theorem dX11_readBehind_47 : decode cX11_readBehind 47 = .ok (.aload_n 0, 1) := by decide +kernel
theorem dX11_readBehind_48 : decode cX11_readBehind 48 = .ok (.invokevirtual 258, 3) := by decide +kernel
theorem dX11_readBehind_51 : decode cX11_readBehind 51 = .ok (.ireturn, 1) := by decide +kernel
theorem dX11_readBehind_52 : decode cX11_readBehind 52 = .ok (.lload_n 1, 1) := by decide +kernel
theorem dX11_readBehind_53 : decode cX11_readBehind 53 = .ok (.ldc2_w 239, 3) := by decide +kernel
theorem dX11_readBehind_56 : decode cX11_readBehind 56 = .ok (.lcmp, 1) := by decide +kernel
theorem dX11_readBehind_57 : decode cX11_readBehind 57 = .ok (.ifCond .ne 8, 3) := by decide +kernel
theorem dX11_readBehind_60 : decode cX11_readBehind 60 = .ok (.aload_n 0, 1) := by decide +kernel
theorem dX11_readBehind_61 : decode cX11_readBehind 61 = .ok (.invokevirtual 261, 3) := by decide +kernel
theorem dX11_readBehind_64 : decode cX11_readBehind 64 = .ok (.ireturn, 1) := by decide +kernel
theorem dX11_readBehind_65 : decode cX11_readBehind 65 = .ok (.lload_n 1, 1) := by decide +kernel
theorem dX11_readBehind_66 : decode cX11_readBehind 66 = .ok (.ldc2_w 247, 3) := by decide +kernel
theorem dX11_readBehind_69 : decode cX11_readBehind 69 = .ok (.lcmp, 1) := by decide +kernel
theorem dX11_readBehind_70 : decode cX11_readBehind 70 = .ok (.ifCond .ne 10, 3) := by decide +kernel
theorem dX11_readBehind_73 : decode cX11_readBehind 73 = .ok (.aload_n 0, 1) := by decide +kernel
theorem dX11_readBehind_74 : decode cX11_readBehind 74 = .ok (.invokevirtual 264, 3) := by decide +kernel
theorem dX11_readBehind_77 : decode cX11_readBehind 77 = .ok (.goto 7, 3) := by decide +kernel
theorem dX11_readBehind_80 : decode cX11_readBehind 80 = .ok (.aload_n 0, 1) := by decide +kernel
theorem dX11_readBehind_81 : decode cX11_readBehind 81 = .ok (.invokevirtual 267, 3) := by decide +kernel
theorem dX11_readBehind_84 : decode cX11_readBehind 84 = .ok (.ireturn, 1) := by decide +kernel
theorem dX11_readStatement_0 : decode cX11_readStatement 0 = .ok (.aload_n 0, 1) := by decide +kernel
theorem dX11_readStatement_1 : decode cX11_readStatement 1 = .ok (.invokevirtual 158, 3) := by decide +kernel
theorem dX11_readStatement_4 : decode cX11_readStatement 4 = .ok (.lstore_n 1, 1) := by decide +kernel
theorem dX11_readStatement_5 : decode cX11_readStatement 5 = .ok (.lload_n 1, 1) := by decide +kernel
theorem dX11_readStatement_6 : decode cX11_readStatement 6 = .ok (.invokestatic 270, 3) := by decide +kernel
theorem dX11_readStatement_9 : decode cX11_readStatement 9 = .ok (.ifCond .ne 9, 3) := by decide +kernel
theorem dX11_readStatement_12 : decode cX11_readStatement 12 = .ok (.aload_n 0, 1) := by decide +kernel
theorem dX11_readStatement_13 : decode cX11_readStatement 13 = .ok (.iconst 1, 1) := by decide +kernel
theorem dX11_readStatement_14 : decode cX11_readStatement 14 = .ok (.invokevirtual 166, 3) := by decide +kernel
theorem dX11_readStatement_17 : decode cX11_readStatement 17 = .ok (.ireturn, 1) := by decide +kernel
theorem dX11_readStatement_18 : decode cX11_readStatement 18 = .ok (.aload_n 0, 1) := by decide +kernel
theorem dX11_readStatement_19 : decode cX11_readStatement 19 = .ok (.lload_n 1, 1) := by decide +kernel
theorem dX11_readStatement_20 : decode cX11_readStatement 20 = .ok (.invokevirtual 273, 3) := by decide +kernel
theorem dX11_readStatement_23 : decode cX11_readStatement 23 = .ok (.ifCond .eq 9, 3) := by decide +kernel
theorem dX11_readStatement_26 : decode cX11_readStatement 26 = .ok (.aload_n 0, 1) := by decide +kernel
theorem dX11_readStatement_27 : decode cX11_readStatement 27 = .ok (.iconst 4, 1) := by decide +kernel
theorem dX11_readStatement_28 : decode cX11_readStatement 28 = .ok (.invokevirtual 166, 3) := by decide +kernel
theorem dX11_readStatement_31 : decode cX11_readStatement 31 = .ok (.ireturn, 1) := by decide +kernel
theorem dX11_readStatement_32 : decode cX11_readStatement 32 = .ok (.aload_n 0, 1) := by decide +kernel
theorem dX11_readStatement_33 : decode cX11_readStatement 33 = .ok (.invokevirtual 162, 3) := by decide +kernel
theorem dX11_readStatement_36 : decode cX11_readStatement 36 = .ok (.pop, 1) := by decide +kernel
theorem dX11_readStatement_37 : decode cX11_readStatement 37 = .ok (.aload_n 0, 1) := by decide +kernel
theorem dX11_readStatement_38 : decode cX11_readStatement 38 = .ok (.lload_n 1, 1) := by decide +kernel
theorem dX11_readStatement_39 : decode cX11_readStatement 39 = .ok (.invokevirtual 276, 3) := by decide +kernel
theorem dX11_readStatement_42 : decode cX11_readStatement 42 = .ok (.ireturn, 1) := by decide +kernel
theorem dX11_readFlight_0 : decode cX11_readFlight 0 = .ok (.iconst 0, 1) := by decide +kernel
theorem dX11_readFlight_1 : decode cX11_readFlight 1 = .ok (.istore_n 1, 1) := by decide +kernel
theorem dX11_readFlight_2 : decode cX11_readFlight 2 = .ok (.iload_n 1, 1) := by decide +kernel
theorem dX11_readFlight_3 : decode cX11_readFlight 3 = .ok (.bipush 89, 2) := by decide +kernel
theorem dX11_readFlight_5 : decode cX11_readFlight 5 = .ok (.if_icmp .ge 16, 3) := by decide +kernel
theorem dX11_readFlight_8 : decode cX11_readFlight 8 = .ok (.aload_n 0, 1) := by decide +kernel
theorem dX11_readFlight_9 : decode cX11_readFlight 9 = .ok (.getfield 13, 3) := by decide +kernel
theorem dX11_readFlight_12 : decode cX11_readFlight 12 = .ok (.iload_n 1, 1) := by decide +kernel
theorem dX11_readFlight_13 : decode cX11_readFlight 13 = .ok (.iconst 0, 1) := by decide +kernel
theorem dX11_readFlight_14 : decode cX11_readFlight 14 = .ok (.iastore, 1) := by decide +kernel
theorem dX11_readFlight_15 : decode cX11_readFlight 15 = .ok (.iinc 1 1, 3) := by decide +kernel
theorem dX11_readFlight_18 : decode cX11_readFlight 18 = .ok (.goto (-16), 3) := by decide +kernel
theorem dX11_readFlight_21 : decode cX11_readFlight 21 = .ok (.iconst 0, 1) := by decide +kernel
theorem dX11_readFlight_22 : decode cX11_readFlight 22 = .ok (.istore_n 1, 1) := by decide +kernel
theorem dX11_readFlight_23 : decode cX11_readFlight 23 = .ok (.iload_n 1, 1) := by decide +kernel
theorem dX11_readFlight_24 : decode cX11_readFlight 24 = .ok (.sipush 291, 3) := by decide +kernel
theorem dX11_readFlight_27 : decode cX11_readFlight 27 = .ok (.if_icmp .ge 16, 3) := by decide +kernel
theorem dX11_readFlight_30 : decode cX11_readFlight 30 = .ok (.aload_n 0, 1) := by decide +kernel
theorem dX11_readFlight_31 : decode cX11_readFlight 31 = .ok (.getfield 29, 3) := by decide +kernel
theorem dX11_readFlight_34 : decode cX11_readFlight 34 = .ok (.iload_n 1, 1) := by decide +kernel
theorem dX11_readFlight_35 : decode cX11_readFlight 35 = .ok (.iconst 0, 1) := by decide +kernel
theorem dX11_readFlight_36 : decode cX11_readFlight 36 = .ok (.iastore, 1) := by decide +kernel
theorem dX11_readFlight_37 : decode cX11_readFlight 37 = .ok (.iinc 1 1, 3) := by decide +kernel
theorem dX11_readFlight_40 : decode cX11_readFlight 40 = .ok (.goto (-17), 3) := by decide +kernel
theorem dX11_readFlight_43 : decode cX11_readFlight 43 = .ok (.aload_n 0, 1) := by decide +kernel
theorem dX11_readFlight_44 : decode cX11_readFlight 44 = .ok (.getfield 13, 3) := by decide +kernel
theorem dX11_readFlight_47 : decode cX11_readFlight 47 = .ok (.iconst 3, 1) := by decide +kernel
theorem dX11_readFlight_48 : decode cX11_readFlight 48 = .ok (.bipush 30, 2) := by decide +kernel
theorem dX11_readFlight_50 : decode cX11_readFlight 50 = .ok (.iastore, 1) := by decide +kernel
theorem dX11_readFlight_51 : decode cX11_readFlight 51 = .ok (.aload_n 0, 1) := by decide +kernel
theorem dX11_readFlight_52 : decode cX11_readFlight 52 = .ok (.getfield 13, 3) := by decide +kernel
theorem dX11_readFlight_55 : decode cX11_readFlight 55 = .ok (.iconst 4, 1) := by decide +kernel
theorem dX11_readFlight_56 : decode cX11_readFlight 56 = .ok (.bipush 10, 2) := by decide +kernel
theorem dX11_readFlight_58 : decode cX11_readFlight 58 = .ok (.iastore, 1) := by decide +kernel
theorem dX11_readFlight_59 : decode cX11_readFlight 59 = .ok (.aload_n 0, 1) := by decide +kernel
theorem dX11_readFlight_60 : decode cX11_readFlight 60 = .ok (.getfield 29, 3) := by decide +kernel
theorem dX11_readFlight_63 : decode cX11_readFlight 63 = .ok (.iconst 0, 1) := by decide +kernel
theorem dX11_readFlight_64 : decode cX11_readFlight 64 = .ok (.iconst 1, 1) := by decide +kernel
theorem dX11_readFlight_65 : decode cX11_readFlight 65 = .ok (.iastore, 1) := by decide +kernel
theorem dX11_readFlight_66 : decode cX11_readFlight 66 = .ok (.aload_n 0, 1) := by decide +kernel
theorem dX11_readFlight_67 : decode cX11_readFlight 67 = .ok (.getfield 29, 3) := by decide +kernel
theorem dX11_readFlight_70 : decode cX11_readFlight 70 = .ok (.iconst 2, 1) := by decide +kernel
theorem dX11_readFlight_71 : decode cX11_readFlight 71 = .ok (.bipush 120, 2) := by decide +kernel
theorem dX11_readFlight_73 : decode cX11_readFlight 73 = .ok (.iastore, 1) := by decide +kernel
theorem dX11_readFlight_74 : decode cX11_readFlight 74 = .ok (.aload_n 0, 1) := by decide +kernel
theorem dX11_readFlight_75 : decode cX11_readFlight 75 = .ok (.invokevirtual 148, 3) := by decide +kernel
theorem dX11_readFlight_78 : decode cX11_readFlight 78 = .ok (.iconst (-1), 1) := by decide +kernel
theorem dX11_readFlight_79 : decode cX11_readFlight 79 = .ok (.if_icmp .eq 19, 3) := by decide +kernel
theorem dX11_readFlight_82 : decode cX11_readFlight 82 = .ok (.aload_n 0, 1) := by decide +kernel
theorem dX11_readFlight_83 : decode cX11_readFlight 83 = .ok (.invokevirtual 279, 3) := by decide +kernel
theorem dX11_readFlight_86 : decode cX11_readFlight 86 = .ok (.ifCond .eq 10, 3) := by decide +kernel
theorem dX11_readFlight_89 : decode cX11_readFlight 89 = .ok (.aload_n 0, 1) := by decide +kernel
theorem dX11_readFlight_90 : decode cX11_readFlight 90 = .ok (.invokevirtual 282, 3) := by decide +kernel
theorem dX11_readFlight_93 : decode cX11_readFlight 93 = .ok (.ifCond .ne (-19), 3) := by decide +kernel
theorem dX11_readFlight_96 : decode cX11_readFlight 96 = .ok (.iconst 0, 1) := by decide +kernel
theorem dX11_readFlight_97 : decode cX11_readFlight 97 = .ok (.ireturn, 1) := by decide +kernel
theorem dX11_readFlight_98 : decode cX11_readFlight 98 = .ok (.iconst 1, 1) := by decide +kernel
theorem dX11_readFlight_99 : decode cX11_readFlight 99 = .ok (.ireturn, 1) := by decide +kernel
theorem dX11_takesFlight_0 : decode cX11_takesFlight 0 = .ok (.iconst 0, 1) := by decide +kernel
theorem dX11_takesFlight_1 : decode cX11_takesFlight 1 = .ok (.istore_n 1, 1) := by decide +kernel
theorem dX11_takesFlight_2 : decode cX11_takesFlight 2 = .ok (.iload_n 1, 1) := by decide +kernel
theorem dX11_takesFlight_3 : decode cX11_takesFlight 3 = .ok (.bipush 89, 2) := by decide +kernel
theorem dX11_takesFlight_5 : decode cX11_takesFlight 5 = .ok (.if_icmp .ge 21, 3) := by decide +kernel
theorem dX11_takesFlight_8 : decode cX11_takesFlight 8 = .ok (.aload_n 0, 1) := by decide +kernel
theorem dX11_takesFlight_9 : decode cX11_takesFlight 9 = .ok (.getfield 7, 3) := by decide +kernel
theorem dX11_takesFlight_12 : decode cX11_takesFlight 12 = .ok (.iload_n 1, 1) := by decide +kernel
theorem dX11_takesFlight_13 : decode cX11_takesFlight 13 = .ok (.aload_n 0, 1) := by decide +kernel
theorem dX11_takesFlight_14 : decode cX11_takesFlight 14 = .ok (.getfield 13, 3) := by decide +kernel
theorem dX11_takesFlight_17 : decode cX11_takesFlight 17 = .ok (.iload_n 1, 1) := by decide +kernel
theorem dX11_takesFlight_18 : decode cX11_takesFlight 18 = .ok (.iaload, 1) := by decide +kernel
theorem dX11_takesFlight_19 : decode cX11_takesFlight 19 = .ok (.iastore, 1) := by decide +kernel
theorem dX11_takesFlight_20 : decode cX11_takesFlight 20 = .ok (.iinc 1 1, 3) := by decide +kernel
theorem dX11_takesFlight_23 : decode cX11_takesFlight 23 = .ok (.goto (-21), 3) := by decide +kernel
theorem dX11_takesFlight_26 : decode cX11_takesFlight 26 = .ok (.iconst 0, 1) := by decide +kernel
theorem dX11_takesFlight_27 : decode cX11_takesFlight 27 = .ok (.istore_n 1, 1) := by decide +kernel
theorem dX11_takesFlight_28 : decode cX11_takesFlight 28 = .ok (.iload_n 1, 1) := by decide +kernel
theorem dX11_takesFlight_29 : decode cX11_takesFlight 29 = .ok (.sipush 291, 3) := by decide +kernel
theorem dX11_takesFlight_32 : decode cX11_takesFlight 32 = .ok (.if_icmp .ge 21, 3) := by decide +kernel
theorem dX11_takesFlight_35 : decode cX11_takesFlight 35 = .ok (.aload_n 0, 1) := by decide +kernel
theorem dX11_takesFlight_36 : decode cX11_takesFlight 36 = .ok (.getfield 26, 3) := by decide +kernel
theorem dX11_takesFlight_39 : decode cX11_takesFlight 39 = .ok (.iload_n 1, 1) := by decide +kernel
theorem dX11_takesFlight_40 : decode cX11_takesFlight 40 = .ok (.aload_n 0, 1) := by decide +kernel
theorem dX11_takesFlight_41 : decode cX11_takesFlight 41 = .ok (.getfield 29, 3) := by decide +kernel
theorem dX11_takesFlight_44 : decode cX11_takesFlight 44 = .ok (.iload_n 1, 1) := by decide +kernel
theorem dX11_takesFlight_45 : decode cX11_takesFlight 45 = .ok (.iaload, 1) := by decide +kernel
theorem dX11_takesFlight_46 : decode cX11_takesFlight 46 = .ok (.iastore, 1) := by decide +kernel
theorem dX11_takesFlight_47 : decode cX11_takesFlight 47 = .ok (.iinc 1 1, 3) := by decide +kernel
theorem dX11_takesFlight_50 : decode cX11_takesFlight 50 = .ok (.goto (-22), 3) := by decide +kernel
theorem dX11_takesFlight_53 : decode cX11_takesFlight 53 = .ok (.iconst 0, 1) := by decide +kernel
theorem dX11_takesFlight_54 : decode cX11_takesFlight 54 = .ok (.istore_n 1, 1) := by decide +kernel
theorem dX11_takesFlight_55 : decode cX11_takesFlight 55 = .ok (.iload_n 1, 1) := by decide +kernel
theorem dX11_takesFlight_56 : decode cX11_takesFlight 56 = .ok (.bipush 12, 2) := by decide +kernel
theorem dX11_takesFlight_58 : decode cX11_takesFlight 58 = .ok (.if_icmp .ge 21, 3) := by decide +kernel
theorem dX11_takesFlight_61 : decode cX11_takesFlight 61 = .ok (.aload_n 0, 1) := by decide +kernel
theorem dX11_takesFlight_62 : decode cX11_takesFlight 62 = .ok (.getfield 16, 3) := by decide +kernel
theorem dX11_takesFlight_65 : decode cX11_takesFlight 65 = .ok (.iload_n 1, 1) := by decide +kernel
theorem dX11_takesFlight_66 : decode cX11_takesFlight 66 = .ok (.aload_n 0, 1) := by decide +kernel
theorem dX11_takesFlight_67 : decode cX11_takesFlight 67 = .ok (.getfield 23, 3) := by decide +kernel
theorem dX11_takesFlight_70 : decode cX11_takesFlight 70 = .ok (.iload_n 1, 1) := by decide +kernel
theorem dX11_takesFlight_71 : decode cX11_takesFlight 71 = .ok (.laload, 1) := by decide +kernel
theorem dX11_takesFlight_72 : decode cX11_takesFlight 72 = .ok (.lastore, 1) := by decide +kernel
theorem dX11_takesFlight_73 : decode cX11_takesFlight 73 = .ok (.iinc 1 1, 3) := by decide +kernel
theorem dX11_takesFlight_76 : decode cX11_takesFlight 76 = .ok (.goto (-21), 3) := by decide +kernel
theorem dX11_takesFlight_79 : decode cX11_takesFlight 79 = .ok (.aload_n 0, 1) := by decide +kernel
theorem dX11_takesFlight_80 : decode cX11_takesFlight 80 = .ok (.iconst 0, 1) := by decide +kernel
theorem dX11_takesFlight_81 : decode cX11_takesFlight 81 = .ok (.putfield 95, 3) := by decide +kernel
theorem dX11_takesFlight_84 : decode cX11_takesFlight 84 = .ok (.aload_n 0, 1) := by decide +kernel
theorem dX11_takesFlight_85 : decode cX11_takesFlight 85 = .ok (.iconst 0, 1) := by decide +kernel
theorem dX11_takesFlight_86 : decode cX11_takesFlight 86 = .ok (.putfield 285, 3) := by decide +kernel
theorem dX11_takesFlight_89 : decode cX11_takesFlight 89 = .ok (.aload_n 0, 1) := by decide +kernel
theorem dX11_takesFlight_90 : decode cX11_takesFlight 90 = .ok (.getfield 47, 3) := by decide +kernel
theorem dX11_takesFlight_93 : decode cX11_takesFlight 93 = .ok (.iconst 0, 1) := by decide +kernel
theorem dX11_takesFlight_94 : decode cX11_takesFlight 94 = .ok (.iconst 0, 1) := by decide +kernel
theorem dX11_takesFlight_95 : decode cX11_takesFlight 95 = .ok (.bastore, 1) := by decide +kernel
theorem dX11_takesFlight_96 : decode cX11_takesFlight 96 = .ok (.aload_n 0, 1) := by decide +kernel
theorem dX11_takesFlight_97 : decode cX11_takesFlight 97 = .ok (.getfield 47, 3) := by decide +kernel
theorem dX11_takesFlight_100 : decode cX11_takesFlight 100 = .ok (.iconst 1, 1) := by decide +kernel
theorem dX11_takesFlight_101 : decode cX11_takesFlight 101 = .ok (.iconst 0, 1) := by decide +kernel
theorem dX11_takesFlight_102 : decode cX11_takesFlight 102 = .ok (.bastore, 1) := by decide +kernel
theorem dX11_takesFlight_103 : decode cX11_takesFlight 103 = .ok (.return_, 1) := by decide +kernel
theorem dX11_load_0 : decode cX11_load 0 = .ok (.aload_n 0, 1) := by decide +kernel
theorem dX11_load_1 : decode cX11_load 1 = .ok (.iload_n 1, 1) := by decide +kernel
theorem dX11_load_2 : decode cX11_load 2 = .ok (.iconst 0, 1) := by decide +kernel
theorem dX11_load_3 : decode cX11_load 3 = .ok (.aload_n 0, 1) := by decide +kernel
theorem dX11_load_4 : decode cX11_load 4 = .ok (.getfield 110, 3) := by decide +kernel
theorem dX11_load_7 : decode cX11_load 7 = .ok (.invokestatic 102, 3) := by decide +kernel
theorem dX11_load_10 : decode cX11_load 10 = .ok (.ifCond .eq 7, 3) := by decide +kernel
theorem dX11_load_13 : decode cX11_load 13 = .ok (.iconst 0, 1) := by decide +kernel
theorem dX11_load_14 : decode cX11_load 14 = .ok (.goto 4, 3) := by decide +kernel
theorem dX11_load_17 : decode cX11_load 17 = .ok (.iconst 1, 1) := by decide +kernel
theorem dX11_load_18 : decode cX11_load 18 = .ok (.invokevirtual 98, 3) := by decide +kernel
theorem dX11_load_21 : decode cX11_load 21 = .ok (.ifCond .eq 5, 3) := by decide +kernel
theorem dX11_load_24 : decode cX11_load 24 = .ok (.iconst 0, 1) := by decide +kernel
theorem dX11_load_25 : decode cX11_load 25 = .ok (.ireturn, 1) := by decide +kernel
theorem dX11_load_26 : decode cX11_load 26 = .ok (.aload_n 0, 1) := by decide +kernel
theorem dX11_load_27 : decode cX11_load 27 = .ok (.iload_n 1, 1) := by decide +kernel
theorem dX11_load_28 : decode cX11_load 28 = .ok (.putfield 127, 3) := by decide +kernel
theorem dX11_load_31 : decode cX11_load 31 = .ok (.aload_n 0, 1) := by decide +kernel
theorem dX11_load_32 : decode cX11_load 32 = .ok (.iconst 0, 1) := by decide +kernel
theorem dX11_load_33 : decode cX11_load 33 = .ok (.putfield 130, 3) := by decide +kernel
theorem dX11_load_36 : decode cX11_load 36 = .ok (.aload_n 0, 1) := by decide +kernel
theorem dX11_load_37 : decode cX11_load 37 = .ok (.iconst 0, 1) := by decide +kernel
theorem dX11_load_38 : decode cX11_load 38 = .ok (.putfield 110, 3) := by decide +kernel
theorem dX11_load_41 : decode cX11_load 41 = .ok (.aload_n 0, 1) := by decide +kernel
theorem dX11_load_42 : decode cX11_load 42 = .ok (.iconst 0, 1) := by decide +kernel
theorem dX11_load_43 : decode cX11_load 43 = .ok (.putfield 121, 3) := by decide +kernel
theorem dX11_load_46 : decode cX11_load 46 = .ok (.aload_n 0, 1) := by decide +kernel
theorem dX11_load_47 : decode cX11_load 47 = .ok (.iconst (-1), 1) := by decide +kernel
theorem dX11_load_48 : decode cX11_load 48 = .ok (.putfield 54, 3) := by decide +kernel
theorem dX11_load_51 : decode cX11_load 51 = .ok (.aload_n 0, 1) := by decide +kernel
theorem dX11_load_52 : decode cX11_load 52 = .ok (.aload_n 0, 1) := by decide +kernel
theorem dX11_load_53 : decode cX11_load 53 = .ok (.invokevirtual 288, 3) := by decide +kernel
theorem dX11_load_56 : decode cX11_load 56 = .ok (.ifCond .eq 7, 3) := by decide +kernel
theorem dX11_load_59 : decode cX11_load 59 = .ok (.iconst 0, 1) := by decide +kernel
theorem dX11_load_60 : decode cX11_load 60 = .ok (.goto 4, 3) := by decide +kernel
theorem dX11_load_63 : decode cX11_load 63 = .ok (.iconst 2, 1) := by decide +kernel
theorem dX11_load_64 : decode cX11_load 64 = .ok (.invokevirtual 98, 3) := by decide +kernel
theorem dX11_load_67 : decode cX11_load 67 = .ok (.ifCond .eq 5, 3) := by decide +kernel
theorem dX11_load_70 : decode cX11_load 70 = .ok (.iconst 0, 1) := by decide +kernel
theorem dX11_load_71 : decode cX11_load 71 = .ok (.ireturn, 1) := by decide +kernel
theorem dX11_load_72 : decode cX11_load 72 = .ok (.aload_n 0, 1) := by decide +kernel
theorem dX11_load_73 : decode cX11_load 73 = .ok (.invokevirtual 291, 3) := by decide +kernel
theorem dX11_load_76 : decode cX11_load 76 = .ok (.aload_n 0, 1) := by decide +kernel
theorem dX11_load_77 : decode cX11_load 77 = .ok (.getfield 26, 3) := by decide +kernel
theorem dX11_load_80 : decode cX11_load 80 = .ok (.iconst 3, 1) := by decide +kernel
theorem dX11_load_81 : decode cX11_load 81 = .ok (.iaload, 1) := by decide +kernel
theorem dX11_load_82 : decode cX11_load 82 = .ok (.ireturn, 1) := by decide +kernel
theorem dX11_cabins_0 : decode cX11_cabins 0 = .ok (.aload_n 0, 1) := by decide +kernel
theorem dX11_cabins_1 : decode cX11_cabins 1 = .ok (.getfield 26, 3) := by decide +kernel
theorem dX11_cabins_4 : decode cX11_cabins 4 = .ok (.iconst 0, 1) := by decide +kernel
theorem dX11_cabins_5 : decode cX11_cabins 5 = .ok (.iaload, 1) := by decide +kernel
theorem dX11_cabins_6 : decode cX11_cabins 6 = .ok (.ifCond .ne 7, 3) := by decide +kernel
theorem dX11_cabins_9 : decode cX11_cabins 9 = .ok (.iconst 0, 1) := by decide +kernel
theorem dX11_cabins_10 : decode cX11_cabins 10 = .ok (.goto 9, 3) := by decide +kernel
theorem dX11_cabins_13 : decode cX11_cabins 13 = .ok (.aload_n 0, 1) := by decide +kernel
theorem dX11_cabins_14 : decode cX11_cabins 14 = .ok (.getfield 7, 3) := by decide +kernel
theorem dX11_cabins_17 : decode cX11_cabins 17 = .ok (.iconst 0, 1) := by decide +kernel
theorem dX11_cabins_18 : decode cX11_cabins 18 = .ok (.iaload, 1) := by decide +kernel
theorem dX11_cabins_19 : decode cX11_cabins 19 = .ok (.ireturn, 1) := by decide +kernel
theorem dX11_meals_0 : decode cX11_meals 0 = .ok (.aload_n 0, 1) := by decide +kernel
theorem dX11_meals_1 : decode cX11_meals 1 = .ok (.getfield 26, 3) := by decide +kernel
theorem dX11_meals_4 : decode cX11_meals 4 = .ok (.iconst 0, 1) := by decide +kernel
theorem dX11_meals_5 : decode cX11_meals 5 = .ok (.iaload, 1) := by decide +kernel
theorem dX11_meals_6 : decode cX11_meals 6 = .ok (.ifCond .ne 7, 3) := by decide +kernel
theorem dX11_meals_9 : decode cX11_meals 9 = .ok (.iconst 0, 1) := by decide +kernel
theorem dX11_meals_10 : decode cX11_meals 10 = .ok (.goto 9, 3) := by decide +kernel
theorem dX11_meals_13 : decode cX11_meals 13 = .ok (.aload_n 0, 1) := by decide +kernel
theorem dX11_meals_14 : decode cX11_meals 14 = .ok (.getfield 7, 3) := by decide +kernel
theorem dX11_meals_17 : decode cX11_meals 17 = .ok (.iconst 1, 1) := by decide +kernel
theorem dX11_meals_18 : decode cX11_meals 18 = .ok (.iaload, 1) := by decide +kernel
theorem dX11_meals_19 : decode cX11_meals 19 = .ok (.ireturn, 1) := by decide +kernel
theorem dX11_trolleys_0 : decode cX11_trolleys 0 = .ok (.aload_n 0, 1) := by decide +kernel
theorem dX11_trolleys_1 : decode cX11_trolleys 1 = .ok (.getfield 26, 3) := by decide +kernel
theorem dX11_trolleys_4 : decode cX11_trolleys 4 = .ok (.iconst 0, 1) := by decide +kernel
theorem dX11_trolleys_5 : decode cX11_trolleys 5 = .ok (.iaload, 1) := by decide +kernel
theorem dX11_trolleys_6 : decode cX11_trolleys 6 = .ok (.ifCond .ne 7, 3) := by decide +kernel
theorem dX11_trolleys_9 : decode cX11_trolleys 9 = .ok (.iconst 0, 1) := by decide +kernel
theorem dX11_trolleys_10 : decode cX11_trolleys 10 = .ok (.goto 9, 3) := by decide +kernel
theorem dX11_trolleys_13 : decode cX11_trolleys 13 = .ok (.aload_n 0, 1) := by decide +kernel
theorem dX11_trolleys_14 : decode cX11_trolleys 14 = .ok (.getfield 7, 3) := by decide +kernel
theorem dX11_trolleys_17 : decode cX11_trolleys 17 = .ok (.iconst 2, 1) := by decide +kernel
theorem dX11_trolleys_18 : decode cX11_trolleys 18 = .ok (.iaload, 1) := by decide +kernel
theorem dX11_trolleys_19 : decode cX11_trolleys 19 = .ok (.ireturn, 1) := by decide +kernel
theorem dX11_isSpecial_0 : decode cX11_isSpecial 0 = .ok (.aload_n 0, 1) := by decide +kernel
theorem dX11_isSpecial_1 : decode cX11_isSpecial 1 = .ok (.iload_n 1, 1) := by decide +kernel
theorem dX11_isSpecial_2 : decode cX11_isSpecial 2 = .ok (.iconst 1, 1) := by decide +kernel
theorem dX11_isSpecial_3 : decode cX11_isSpecial 3 = .ok (.invokevirtual 294, 3) := by decide +kernel
theorem dX11_isSpecial_6 : decode cX11_isSpecial 6 = .ok (.ifCond .eq 7, 3) := by decide +kernel
theorem dX11_isSpecial_9 : decode cX11_isSpecial 9 = .ok (.iconst 1, 1) := by decide +kernel
theorem dX11_isSpecial_10 : decode cX11_isSpecial 10 = .ok (.goto 4, 3) := by decide +kernel
theorem dX11_isSpecial_13 : decode cX11_isSpecial 13 = .ok (.iconst 0, 1) := by decide +kernel
theorem dX11_isSpecial_14 : decode cX11_isSpecial 14 = .ok (.ireturn, 1) := by decide +kernel
theorem dX11_suits_0 : decode cX11_suits 0 = .ok (.aload_n 0, 1) := by decide +kernel
theorem dX11_suits_1 : decode cX11_suits 1 = .ok (.iload_n 1, 1) := by decide +kernel
theorem dX11_suits_2 : decode cX11_suits 2 = .ok (.iconst 0, 1) := by decide +kernel
theorem dX11_suits_3 : decode cX11_suits 3 = .ok (.invokevirtual 297, 3) := by decide +kernel
theorem dX11_suits_6 : decode cX11_suits 6 = .ok (.istore_n 3, 1) := by decide +kernel
theorem dX11_suits_7 : decode cX11_suits 7 = .ok (.aload_n 0, 1) := by decide +kernel
theorem dX11_suits_8 : decode cX11_suits 8 = .ok (.iload_n 2, 1) := by decide +kernel
theorem dX11_suits_9 : decode cX11_suits 9 = .ok (.iconst 1, 1) := by decide +kernel
theorem dX11_suits_10 : decode cX11_suits 10 = .ok (.invokevirtual 294, 3) := by decide +kernel
theorem dX11_suits_13 : decode cX11_suits 13 = .ok (.istore 4, 2) := by decide +kernel
theorem dX11_suits_15 : decode cX11_suits 15 = .ok (.iload_n 3, 1) := by decide +kernel
theorem dX11_suits_16 : decode cX11_suits 16 = .ok (.iconst (-1), 1) := by decide +kernel
theorem dX11_suits_17 : decode cX11_suits 17 = .ok (.if_icmp .eq 13, 3) := by decide +kernel
theorem dX11_suits_20 : decode cX11_suits 20 = .ok (.iload_n 3, 1) := by decide +kernel
theorem dX11_suits_21 : decode cX11_suits 21 = .ok (.aload_n 0, 1) := by decide +kernel
theorem dX11_suits_22 : decode cX11_suits 22 = .ok (.iload_n 2, 1) := by decide +kernel
theorem dX11_suits_23 : decode cX11_suits 23 = .ok (.iconst 0, 1) := by decide +kernel
theorem dX11_suits_24 : decode cX11_suits 24 = .ok (.invokevirtual 294, 3) := by decide +kernel
theorem dX11_suits_27 : decode cX11_suits 27 = .ok (.if_icmp .ne 21, 3) := by decide +kernel
theorem dX11_suits_30 : decode cX11_suits 30 = .ok (.aload_n 0, 1) := by decide +kernel
theorem dX11_suits_31 : decode cX11_suits 31 = .ok (.iload_n 1, 1) := by decide +kernel
theorem dX11_suits_32 : decode cX11_suits 32 = .ok (.iconst 4, 1) := by decide +kernel
theorem dX11_suits_33 : decode cX11_suits 33 = .ok (.invokevirtual 297, 3) := by decide +kernel
theorem dX11_suits_36 : decode cX11_suits 36 = .ok (.iload 4, 2) := by decide +kernel
theorem dX11_suits_38 : decode cX11_suits 38 = .ok (.iand, 1) := by decide +kernel
theorem dX11_suits_39 : decode cX11_suits 39 = .ok (.iload 4, 2) := by decide +kernel
theorem dX11_suits_41 : decode cX11_suits 41 = .ok (.if_icmp .ne 7, 3) := by decide +kernel
theorem dX11_suits_44 : decode cX11_suits 44 = .ok (.iconst 1, 1) := by decide +kernel
theorem dX11_suits_45 : decode cX11_suits 45 = .ok (.goto 4, 3) := by decide +kernel
theorem dX11_suits_48 : decode cX11_suits 48 = .ok (.iconst 0, 1) := by decide +kernel
theorem dX11_suits_49 : decode cX11_suits 49 = .ok (.ireturn, 1) := by decide +kernel
theorem dX11_suiting_0 : decode cX11_suiting 0 = .ok (.iconst 0, 1) := by decide +kernel
theorem dX11_suiting_1 : decode cX11_suiting 1 = .ok (.istore_n 2, 1) := by decide +kernel
theorem dX11_suiting_2 : decode cX11_suiting 2 = .ok (.iconst 0, 1) := by decide +kernel
theorem dX11_suiting_3 : decode cX11_suiting 3 = .ok (.istore_n 3, 1) := by decide +kernel
theorem dX11_suiting_4 : decode cX11_suiting 4 = .ok (.iload_n 3, 1) := by decide +kernel
theorem dX11_suiting_5 : decode cX11_suiting 5 = .ok (.aload_n 0, 1) := by decide +kernel
theorem dX11_suiting_6 : decode cX11_suiting 6 = .ok (.invokevirtual 300, 3) := by decide +kernel
theorem dX11_suiting_9 : decode cX11_suiting 9 = .ok (.if_icmp .ge 28, 3) := by decide +kernel
theorem dX11_suiting_12 : decode cX11_suiting 12 = .ok (.aload_n 0, 1) := by decide +kernel
theorem dX11_suiting_13 : decode cX11_suiting 13 = .ok (.iload_n 3, 1) := by decide +kernel
theorem dX11_suiting_14 : decode cX11_suiting 14 = .ok (.iload_n 1, 1) := by decide +kernel
theorem dX11_suiting_15 : decode cX11_suiting 15 = .ok (.invokevirtual 303, 3) := by decide +kernel
theorem dX11_suiting_18 : decode cX11_suiting 18 = .ok (.ifCond .eq 11, 3) := by decide +kernel
theorem dX11_suiting_21 : decode cX11_suiting 21 = .ok (.iload_n 2, 1) := by decide +kernel
theorem dX11_suiting_22 : decode cX11_suiting 22 = .ok (.iconst 1, 1) := by decide +kernel
theorem dX11_suiting_23 : decode cX11_suiting 23 = .ok (.iload_n 3, 1) := by decide +kernel
theorem dX11_suiting_24 : decode cX11_suiting 24 = .ok (.ishl, 1) := by decide +kernel
theorem dX11_suiting_25 : decode cX11_suiting 25 = .ok (.ior, 1) := by decide +kernel
theorem dX11_suiting_26 : decode cX11_suiting 26 = .ok (.goto 4, 3) := by decide +kernel
theorem dX11_suiting_29 : decode cX11_suiting 29 = .ok (.iload_n 2, 1) := by decide +kernel
theorem dX11_suiting_30 : decode cX11_suiting 30 = .ok (.istore_n 2, 1) := by decide +kernel
theorem dX11_suiting_31 : decode cX11_suiting 31 = .ok (.iinc 3 1, 3) := by decide +kernel
theorem dX11_suiting_34 : decode cX11_suiting 34 = .ok (.goto (-30), 3) := by decide +kernel
theorem dX11_suiting_37 : decode cX11_suiting 37 = .ok (.iload_n 2, 1) := by decide +kernel
theorem dX11_suiting_38 : decode cX11_suiting 38 = .ok (.ireturn, 1) := by decide +kernel
theorem dX11_cheapest_0 : decode cX11_cheapest 0 = .ok (.iconst (-1), 1) := by decide +kernel
theorem dX11_cheapest_1 : decode cX11_cheapest 1 = .ok (.istore_n 2, 1) := by decide +kernel
theorem dX11_cheapest_2 : decode cX11_cheapest 2 = .ok (.iconst 0, 1) := by decide +kernel
theorem dX11_cheapest_3 : decode cX11_cheapest 3 = .ok (.istore_n 3, 1) := by decide +kernel
theorem dX11_cheapest_4 : decode cX11_cheapest 4 = .ok (.iload_n 3, 1) := by decide +kernel
theorem dX11_cheapest_5 : decode cX11_cheapest 5 = .ok (.aload_n 0, 1) := by decide +kernel
theorem dX11_cheapest_6 : decode cX11_cheapest 6 = .ok (.invokevirtual 300, 3) := by decide +kernel
theorem dX11_cheapest_9 : decode cX11_cheapest 9 = .ok (.if_icmp .ge 40, 3) := by decide +kernel
theorem dX11_cheapest_12 : decode cX11_cheapest 12 = .ok (.aload_n 0, 1) := by decide +kernel
theorem dX11_cheapest_13 : decode cX11_cheapest 13 = .ok (.iload_n 3, 1) := by decide +kernel
theorem dX11_cheapest_14 : decode cX11_cheapest 14 = .ok (.iload_n 1, 1) := by decide +kernel
theorem dX11_cheapest_15 : decode cX11_cheapest 15 = .ok (.invokevirtual 303, 3) := by decide +kernel
theorem dX11_cheapest_18 : decode cX11_cheapest 18 = .ok (.ifCond .eq 25, 3) := by decide +kernel
theorem dX11_cheapest_21 : decode cX11_cheapest 21 = .ok (.iload_n 2, 1) := by decide +kernel
theorem dX11_cheapest_22 : decode cX11_cheapest 22 = .ok (.iconst (-1), 1) := by decide +kernel
theorem dX11_cheapest_23 : decode cX11_cheapest 23 = .ok (.if_icmp .eq 18, 3) := by decide +kernel
theorem dX11_cheapest_26 : decode cX11_cheapest 26 = .ok (.aload_n 0, 1) := by decide +kernel
theorem dX11_cheapest_27 : decode cX11_cheapest 27 = .ok (.iload_n 3, 1) := by decide +kernel
theorem dX11_cheapest_28 : decode cX11_cheapest 28 = .ok (.iconst 3, 1) := by decide +kernel
theorem dX11_cheapest_29 : decode cX11_cheapest 29 = .ok (.invokevirtual 297, 3) := by decide +kernel
theorem dX11_cheapest_32 : decode cX11_cheapest 32 = .ok (.aload_n 0, 1) := by decide +kernel
theorem dX11_cheapest_33 : decode cX11_cheapest 33 = .ok (.iload_n 2, 1) := by decide +kernel
theorem dX11_cheapest_34 : decode cX11_cheapest 34 = .ok (.iconst 3, 1) := by decide +kernel
theorem dX11_cheapest_35 : decode cX11_cheapest 35 = .ok (.invokevirtual 297, 3) := by decide +kernel
theorem dX11_cheapest_38 : decode cX11_cheapest 38 = .ok (.if_icmp .ge 5, 3) := by decide +kernel
theorem dX11_cheapest_41 : decode cX11_cheapest 41 = .ok (.iload_n 3, 1) := by decide +kernel
theorem dX11_cheapest_42 : decode cX11_cheapest 42 = .ok (.istore_n 2, 1) := by decide +kernel
theorem dX11_cheapest_43 : decode cX11_cheapest 43 = .ok (.iinc 3 1, 3) := by decide +kernel
theorem dX11_cheapest_46 : decode cX11_cheapest 46 = .ok (.goto (-42), 3) := by decide +kernel
theorem dX11_cheapest_49 : decode cX11_cheapest 49 = .ok (.iload_n 2, 1) := by decide +kernel
theorem dX11_cheapest_50 : decode cX11_cheapest 50 = .ok (.ireturn, 1) := by decide +kernel
theorem dX11_plainIn_0 : decode cX11_plainIn 0 = .ok (.iconst 0, 1) := by decide +kernel
theorem dX11_plainIn_1 : decode cX11_plainIn 1 = .ok (.istore_n 2, 1) := by decide +kernel
theorem dX11_plainIn_2 : decode cX11_plainIn 2 = .ok (.iconst 0, 1) := by decide +kernel
theorem dX11_plainIn_3 : decode cX11_plainIn 3 = .ok (.istore_n 3, 1) := by decide +kernel
theorem dX11_plainIn_4 : decode cX11_plainIn 4 = .ok (.iload_n 3, 1) := by decide +kernel
theorem dX11_plainIn_5 : decode cX11_plainIn 5 = .ok (.aload_n 0, 1) := by decide +kernel
theorem dX11_plainIn_6 : decode cX11_plainIn 6 = .ok (.getfield 26, 3) := by decide +kernel
theorem dX11_plainIn_9 : decode cX11_plainIn 9 = .ok (.iconst 3, 1) := by decide +kernel
theorem dX11_plainIn_10 : decode cX11_plainIn 10 = .ok (.iaload, 1) := by decide +kernel
theorem dX11_plainIn_11 : decode cX11_plainIn 11 = .ok (.if_icmp .ge 35, 3) := by decide +kernel
theorem dX11_plainIn_14 : decode cX11_plainIn 14 = .ok (.aload_n 0, 1) := by decide +kernel
theorem dX11_plainIn_15 : decode cX11_plainIn 15 = .ok (.iload_n 3, 1) := by decide +kernel
theorem dX11_plainIn_16 : decode cX11_plainIn 16 = .ok (.iconst 0, 1) := by decide +kernel
theorem dX11_plainIn_17 : decode cX11_plainIn 17 = .ok (.invokevirtual 294, 3) := by decide +kernel
theorem dX11_plainIn_20 : decode cX11_plainIn 20 = .ok (.iload_n 1, 1) := by decide +kernel
theorem dX11_plainIn_21 : decode cX11_plainIn 21 = .ok (.if_icmp .ne 17, 3) := by decide +kernel
theorem dX11_plainIn_24 : decode cX11_plainIn 24 = .ok (.aload_n 0, 1) := by decide +kernel
theorem dX11_plainIn_25 : decode cX11_plainIn 25 = .ok (.iload_n 3, 1) := by decide +kernel
theorem dX11_plainIn_26 : decode cX11_plainIn 26 = .ok (.invokevirtual 306, 3) := by decide +kernel
theorem dX11_plainIn_29 : decode cX11_plainIn 29 = .ok (.ifCond .ne 9, 3) := by decide +kernel
theorem dX11_plainIn_32 : decode cX11_plainIn 32 = .ok (.iload_n 2, 1) := by decide +kernel
theorem dX11_plainIn_33 : decode cX11_plainIn 33 = .ok (.iconst 1, 1) := by decide +kernel
theorem dX11_plainIn_34 : decode cX11_plainIn 34 = .ok (.iadd, 1) := by decide +kernel
theorem dX11_plainIn_35 : decode cX11_plainIn 35 = .ok (.goto 4, 3) := by decide +kernel
theorem dX11_plainIn_38 : decode cX11_plainIn 38 = .ok (.iload_n 2, 1) := by decide +kernel
theorem dX11_plainIn_39 : decode cX11_plainIn 39 = .ok (.istore_n 2, 1) := by decide +kernel
theorem dX11_plainIn_40 : decode cX11_plainIn 40 = .ok (.iinc 3 1, 3) := by decide +kernel
theorem dX11_plainIn_43 : decode cX11_plainIn 43 = .ok (.goto (-39), 3) := by decide +kernel
theorem dX11_plainIn_46 : decode cX11_plainIn 46 = .ok (.iload_n 2, 1) := by decide +kernel
theorem dX11_plainIn_47 : decode cX11_plainIn 47 = .ok (.ireturn, 1) := by decide +kernel
theorem dX11_sharesOf_0 : decode cX11_sharesOf 0 = .ok (.iconst 0, 1) := by decide +kernel
theorem dX11_sharesOf_1 : decode cX11_sharesOf 1 = .ok (.istore_n 2, 1) := by decide +kernel
theorem dX11_sharesOf_2 : decode cX11_sharesOf 2 = .ok (.iconst 0, 1) := by decide +kernel
theorem dX11_sharesOf_3 : decode cX11_sharesOf 3 = .ok (.istore_n 3, 1) := by decide +kernel
theorem dX11_sharesOf_4 : decode cX11_sharesOf 4 = .ok (.iload_n 3, 1) := by decide +kernel
theorem dX11_sharesOf_5 : decode cX11_sharesOf 5 = .ok (.aload_n 0, 1) := by decide +kernel
theorem dX11_sharesOf_6 : decode cX11_sharesOf 6 = .ok (.invokevirtual 300, 3) := by decide +kernel
theorem dX11_sharesOf_9 : decode cX11_sharesOf 9 = .ok (.if_icmp .ge 32, 3) := by decide +kernel
theorem dX11_sharesOf_12 : decode cX11_sharesOf 12 = .ok (.aload_n 0, 1) := by decide +kernel
theorem dX11_sharesOf_13 : decode cX11_sharesOf 13 = .ok (.iload_n 3, 1) := by decide +kernel
theorem dX11_sharesOf_14 : decode cX11_sharesOf 14 = .ok (.iconst 0, 1) := by decide +kernel
theorem dX11_sharesOf_15 : decode cX11_sharesOf 15 = .ok (.invokevirtual 297, 3) := by decide +kernel
theorem dX11_sharesOf_18 : decode cX11_sharesOf 18 = .ok (.iload_n 1, 1) := by decide +kernel
theorem dX11_sharesOf_19 : decode cX11_sharesOf 19 = .ok (.if_icmp .ne 14, 3) := by decide +kernel
theorem dX11_sharesOf_22 : decode cX11_sharesOf 22 = .ok (.iload_n 2, 1) := by decide +kernel
theorem dX11_sharesOf_23 : decode cX11_sharesOf 23 = .ok (.aload_n 0, 1) := by decide +kernel
theorem dX11_sharesOf_24 : decode cX11_sharesOf 24 = .ok (.iload_n 3, 1) := by decide +kernel
theorem dX11_sharesOf_25 : decode cX11_sharesOf 25 = .ok (.iconst 1, 1) := by decide +kernel
theorem dX11_sharesOf_26 : decode cX11_sharesOf 26 = .ok (.invokevirtual 297, 3) := by decide +kernel
theorem dX11_sharesOf_29 : decode cX11_sharesOf 29 = .ok (.iadd, 1) := by decide +kernel
theorem dX11_sharesOf_30 : decode cX11_sharesOf 30 = .ok (.goto 4, 3) := by decide +kernel
theorem dX11_sharesOf_33 : decode cX11_sharesOf 33 = .ok (.iload_n 2, 1) := by decide +kernel
theorem dX11_sharesOf_34 : decode cX11_sharesOf 34 = .ok (.istore_n 2, 1) := by decide +kernel
theorem dX11_sharesOf_35 : decode cX11_sharesOf 35 = .ok (.iinc 3 1, 3) := by decide +kernel
theorem dX11_sharesOf_38 : decode cX11_sharesOf 38 = .ok (.goto (-34), 3) := by decide +kernel
theorem dX11_sharesOf_41 : decode cX11_sharesOf 41 = .ok (.iload_n 2, 1) := by decide +kernel
theorem dX11_sharesOf_42 : decode cX11_sharesOf 42 = .ok (.ireturn, 1) := by decide +kernel
theorem dX11_greatestRemainder_0 : decode cX11_greatestRemainder 0 = .ok (.iconst (-1), 1) := by decide +kernel
theorem dX11_greatestRemainder_1 : decode cX11_greatestRemainder 1 = .ok (.istore_n 2, 1) := by decide +kernel
theorem dX11_greatestRemainder_2 : decode cX11_greatestRemainder 2 = .ok (.iconst 0, 1) := by decide +kernel
theorem dX11_greatestRemainder_3 : decode cX11_greatestRemainder 3 = .ok (.istore_n 3, 1) := by decide +kernel
theorem dX11_greatestRemainder_4 : decode cX11_greatestRemainder 4 = .ok (.iload_n 3, 1) := by decide +kernel
theorem dX11_greatestRemainder_5 : decode cX11_greatestRemainder 5 = .ok (.aload_n 0, 1) := by decide +kernel
theorem dX11_greatestRemainder_6 : decode cX11_greatestRemainder 6 = .ok (.invokevirtual 300, 3) := by decide +kernel
theorem dX11_greatestRemainder_9 : decode cX11_greatestRemainder 9 = .ok (.if_icmp .ge 41, 3) := by decide +kernel
theorem dX11_greatestRemainder_12 : decode cX11_greatestRemainder 12 = .ok (.aload_n 0, 1) := by decide +kernel
theorem dX11_greatestRemainder_13 : decode cX11_greatestRemainder 13 = .ok (.iload_n 3, 1) := by decide +kernel
theorem dX11_greatestRemainder_14 : decode cX11_greatestRemainder 14 = .ok (.iconst 0, 1) := by decide +kernel
theorem dX11_greatestRemainder_15 : decode cX11_greatestRemainder 15 = .ok (.invokevirtual 297, 3) := by decide +kernel
theorem dX11_greatestRemainder_18 : decode cX11_greatestRemainder 18 = .ok (.iload_n 1, 1) := by decide +kernel
theorem dX11_greatestRemainder_19 : decode cX11_greatestRemainder 19 = .ok (.if_icmp .ne 25, 3) := by decide +kernel
theorem dX11_greatestRemainder_22 : decode cX11_greatestRemainder 22 = .ok (.iload_n 2, 1) := by decide +kernel
theorem dX11_greatestRemainder_23 : decode cX11_greatestRemainder 23 = .ok (.iconst (-1), 1) := by decide +kernel
theorem dX11_greatestRemainder_24 : decode cX11_greatestRemainder 24 = .ok (.if_icmp .eq 18, 3) := by decide +kernel
theorem dX11_greatestRemainder_27 : decode cX11_greatestRemainder 27 = .ok (.aload_n 0, 1) := by decide +kernel
theorem dX11_greatestRemainder_28 : decode cX11_greatestRemainder 28 = .ok (.getfield 61, 3) := by decide +kernel
theorem dX11_greatestRemainder_31 : decode cX11_greatestRemainder 31 = .ok (.iload_n 3, 1) := by decide +kernel
theorem dX11_greatestRemainder_32 : decode cX11_greatestRemainder 32 = .ok (.iaload, 1) := by decide +kernel
theorem dX11_greatestRemainder_33 : decode cX11_greatestRemainder 33 = .ok (.aload_n 0, 1) := by decide +kernel
theorem dX11_greatestRemainder_34 : decode cX11_greatestRemainder 34 = .ok (.getfield 61, 3) := by decide +kernel
theorem dX11_greatestRemainder_37 : decode cX11_greatestRemainder 37 = .ok (.iload_n 2, 1) := by decide +kernel
theorem dX11_greatestRemainder_38 : decode cX11_greatestRemainder 38 = .ok (.iaload, 1) := by decide +kernel
theorem dX11_greatestRemainder_39 : decode cX11_greatestRemainder 39 = .ok (.if_icmp .le 5, 3) := by decide +kernel
theorem dX11_greatestRemainder_42 : decode cX11_greatestRemainder 42 = .ok (.iload_n 3, 1) := by decide +kernel
theorem dX11_greatestRemainder_43 : decode cX11_greatestRemainder 43 = .ok (.istore_n 2, 1) := by decide +kernel
theorem dX11_greatestRemainder_44 : decode cX11_greatestRemainder 44 = .ok (.iinc 3 1, 3) := by decide +kernel
theorem dX11_greatestRemainder_47 : decode cX11_greatestRemainder 47 = .ok (.goto (-43), 3) := by decide +kernel
theorem dX11_greatestRemainder_50 : decode cX11_greatestRemainder 50 = .ok (.iload_n 2, 1) := by decide +kernel
theorem dX11_greatestRemainder_51 : decode cX11_greatestRemainder 51 = .ok (.ireturn, 1) := by decide +kernel
theorem dX11_ordersFor_0 : decode cX11_ordersFor 0 = .ok (.aload_n 0, 1) := by decide +kernel
theorem dX11_ordersFor_1 : decode cX11_ordersFor 1 = .ok (.iload_n 1, 1) := by decide +kernel
theorem dX11_ordersFor_2 : decode cX11_ordersFor 2 = .ok (.invokevirtual 309, 3) := by decide +kernel
theorem dX11_ordersFor_5 : decode cX11_ordersFor 5 = .ok (.istore_n 2, 1) := by decide +kernel
theorem dX11_ordersFor_6 : decode cX11_ordersFor 6 = .ok (.aload_n 0, 1) := by decide +kernel
theorem dX11_ordersFor_7 : decode cX11_ordersFor 7 = .ok (.iload_n 1, 1) := by decide +kernel
theorem dX11_ordersFor_8 : decode cX11_ordersFor 8 = .ok (.invokevirtual 312, 3) := by decide +kernel
theorem dX11_ordersFor_11 : decode cX11_ordersFor 11 = .ok (.istore_n 3, 1) := by decide +kernel
theorem dX11_ordersFor_12 : decode cX11_ordersFor 12 = .ok (.iload_n 2, 1) := by decide +kernel
theorem dX11_ordersFor_13 : decode cX11_ordersFor 13 = .ok (.ifCond .eq 7, 3) := by decide +kernel
theorem dX11_ordersFor_16 : decode cX11_ordersFor 16 = .ok (.iload_n 3, 1) := by decide +kernel
theorem dX11_ordersFor_17 : decode cX11_ordersFor 17 = .ok (.ifCond .ne 4, 3) := by decide +kernel
theorem dX11_ordersFor_20 : decode cX11_ordersFor 20 = .ok (.return_, 1) := by decide +kernel
theorem dX11_ordersFor_21 : decode cX11_ordersFor 21 = .ok (.iload_n 2, 1) := by decide +kernel
theorem dX11_ordersFor_22 : decode cX11_ordersFor 22 = .ok (.bipush 100, 2) := by decide +kernel
theorem dX11_ordersFor_24 : decode cX11_ordersFor 24 = .ok (.aload_n 0, 1) := by decide +kernel
theorem dX11_ordersFor_25 : decode cX11_ordersFor 25 = .ok (.iload_n 1, 1) := by decide +kernel
theorem dX11_ordersFor_26 : decode cX11_ordersFor 26 = .ok (.iconst 1, 1) := by decide +kernel
theorem dX11_ordersFor_27 : decode cX11_ordersFor 27 = .ok (.invokevirtual 315, 3) := by decide +kernel
theorem dX11_ordersFor_30 : decode cX11_ordersFor 30 = .ok (.iadd, 1) := by decide +kernel
theorem dX11_ordersFor_31 : decode cX11_ordersFor 31 = .ok (.imul, 1) := by decide +kernel
theorem dX11_ordersFor_32 : decode cX11_ordersFor 32 = .ok (.bipush 99, 2) := by decide +kernel
theorem dX11_ordersFor_34 : decode cX11_ordersFor 34 = .ok (.iadd, 1) := by decide +kernel
theorem dX11_ordersFor_35 : decode cX11_ordersFor 35 = .ok (.bipush 100, 2) := by decide +kernel
theorem dX11_ordersFor_37 : decode cX11_ordersFor 37 = .ok (.idiv, 1) := by decide +kernel
theorem dX11_ordersFor_38 : decode cX11_ordersFor 38 = .ok (.istore 4, 2) := by decide +kernel
theorem dX11_ordersFor_40 : decode cX11_ordersFor 40 = .ok (.iload 4, 2) := by decide +kernel
theorem dX11_ordersFor_42 : decode cX11_ordersFor 42 = .ok (.istore 5, 2) := by decide +kernel
theorem dX11_ordersFor_44 : decode cX11_ordersFor 44 = .ok (.iconst 0, 1) := by decide +kernel
theorem dX11_ordersFor_45 : decode cX11_ordersFor 45 = .ok (.istore 6, 2) := by decide +kernel
theorem dX11_ordersFor_47 : decode cX11_ordersFor 47 = .ok (.iload 6, 2) := by decide +kernel
theorem dX11_ordersFor_49 : decode cX11_ordersFor 49 = .ok (.aload_n 0, 1) := by decide +kernel
theorem dX11_ordersFor_50 : decode cX11_ordersFor 50 = .ok (.invokevirtual 300, 3) := by decide +kernel
theorem dX11_ordersFor_53 : decode cX11_ordersFor 53 = .ok (.if_icmp .ge 71, 3) := by decide +kernel
theorem dX11_ordersFor_56 : decode cX11_ordersFor 56 = .ok (.aload_n 0, 1) := by decide +kernel
theorem dX11_ordersFor_57 : decode cX11_ordersFor 57 = .ok (.iload 6, 2) := by decide +kernel
theorem dX11_ordersFor_59 : decode cX11_ordersFor 59 = .ok (.iconst 0, 1) := by decide +kernel
theorem dX11_ordersFor_60 : decode cX11_ordersFor 60 = .ok (.invokevirtual 297, 3) := by decide +kernel
theorem dX11_ordersFor_63 : decode cX11_ordersFor 63 = .ok (.iload_n 1, 1) := by decide +kernel
theorem dX11_ordersFor_64 : decode cX11_ordersFor 64 = .ok (.if_icmp .ne 54, 3) := by decide +kernel
theorem dX11_ordersFor_67 : decode cX11_ordersFor 67 = .ok (.iload 4, 2) := by decide +kernel
theorem dX11_ordersFor_69 : decode cX11_ordersFor 69 = .ok (.aload_n 0, 1) := by decide +kernel
theorem dX11_ordersFor_70 : decode cX11_ordersFor 70 = .ok (.iload 6, 2) := by decide +kernel
theorem dX11_ordersFor_72 : decode cX11_ordersFor 72 = .ok (.iconst 1, 1) := by decide +kernel
theorem dX11_ordersFor_73 : decode cX11_ordersFor 73 = .ok (.invokevirtual 297, 3) := by decide +kernel
theorem dX11_ordersFor_76 : decode cX11_ordersFor 76 = .ok (.imul, 1) := by decide +kernel
theorem dX11_ordersFor_77 : decode cX11_ordersFor 77 = .ok (.istore 7, 2) := by decide +kernel
theorem dX11_ordersFor_79 : decode cX11_ordersFor 79 = .ok (.aload_n 0, 1) := by decide +kernel
theorem dX11_ordersFor_80 : decode cX11_ordersFor 80 = .ok (.getfield 58, 3) := by decide +kernel
theorem dX11_ordersFor_83 : decode cX11_ordersFor 83 = .ok (.iload 6, 2) := by decide +kernel
theorem dX11_ordersFor_85 : decode cX11_ordersFor 85 = .ok (.aload_n 0, 1) := by decide +kernel
theorem dX11_ordersFor_86 : decode cX11_ordersFor 86 = .ok (.getfield 58, 3) := by decide +kernel
theorem dX11_ordersFor_89 : decode cX11_ordersFor 89 = .ok (.iload 6, 2) := by decide +kernel
theorem dX11_ordersFor_91 : decode cX11_ordersFor 91 = .ok (.iaload, 1) := by decide +kernel
theorem dX11_ordersFor_92 : decode cX11_ordersFor 92 = .ok (.iload 7, 2) := by decide +kernel
theorem dX11_ordersFor_94 : decode cX11_ordersFor 94 = .ok (.iload_n 3, 1) := by decide +kernel
theorem dX11_ordersFor_95 : decode cX11_ordersFor 95 = .ok (.idiv, 1) := by decide +kernel
theorem dX11_ordersFor_96 : decode cX11_ordersFor 96 = .ok (.iadd, 1) := by decide +kernel
theorem dX11_ordersFor_97 : decode cX11_ordersFor 97 = .ok (.iastore, 1) := by decide +kernel
theorem dX11_ordersFor_98 : decode cX11_ordersFor 98 = .ok (.aload_n 0, 1) := by decide +kernel
theorem dX11_ordersFor_99 : decode cX11_ordersFor 99 = .ok (.getfield 61, 3) := by decide +kernel
theorem dX11_ordersFor_102 : decode cX11_ordersFor 102 = .ok (.iload 6, 2) := by decide +kernel
theorem dX11_ordersFor_104 : decode cX11_ordersFor 104 = .ok (.iload 7, 2) := by decide +kernel
theorem dX11_ordersFor_106 : decode cX11_ordersFor 106 = .ok (.iload_n 3, 1) := by decide +kernel
theorem dX11_ordersFor_107 : decode cX11_ordersFor 107 = .ok (.irem, 1) := by decide +kernel
theorem dX11_ordersFor_108 : decode cX11_ordersFor 108 = .ok (.iastore, 1) := by decide +kernel
theorem dX11_ordersFor_109 : decode cX11_ordersFor 109 = .ok (.iload 5, 2) := by decide +kernel
theorem dX11_ordersFor_111 : decode cX11_ordersFor 111 = .ok (.iload 7, 2) := by decide +kernel
theorem dX11_ordersFor_113 : decode cX11_ordersFor 113 = .ok (.iload_n 3, 1) := by decide +kernel
theorem dX11_ordersFor_114 : decode cX11_ordersFor 114 = .ok (.idiv, 1) := by decide +kernel
theorem dX11_ordersFor_115 : decode cX11_ordersFor 115 = .ok (.isub, 1) := by decide +kernel
theorem dX11_ordersFor_116 : decode cX11_ordersFor 116 = .ok (.istore 5, 2) := by decide +kernel
theorem dX11_ordersFor_118 : decode cX11_ordersFor 118 = .ok (.iinc 6 1, 3) := by decide +kernel
theorem dX11_ordersFor_121 : decode cX11_ordersFor 121 = .ok (.goto (-74), 3) := by decide +kernel
theorem dX11_ordersFor_124 : decode cX11_ordersFor 124 = .ok (.iload 5, 2) := by decide +kernel
theorem dX11_ordersFor_126 : decode cX11_ordersFor 126 = .ok (.ifCond .le 43, 3) := by decide +kernel
theorem dX11_ordersFor_129 : decode cX11_ordersFor 129 = .ok (.aload_n 0, 1) := by decide +kernel
theorem dX11_ordersFor_130 : decode cX11_ordersFor 130 = .ok (.iload_n 1, 1) := by decide +kernel
theorem dX11_ordersFor_131 : decode cX11_ordersFor 131 = .ok (.invokevirtual 318, 3) := by decide +kernel
theorem dX11_ordersFor_134 : decode cX11_ordersFor 134 = .ok (.istore 6, 2) := by decide +kernel
theorem dX11_ordersFor_136 : decode cX11_ordersFor 136 = .ok (.aload_n 0, 1) := by decide +kernel
theorem dX11_ordersFor_137 : decode cX11_ordersFor 137 = .ok (.getfield 58, 3) := by decide +kernel
theorem dX11_ordersFor_140 : decode cX11_ordersFor 140 = .ok (.iload 6, 2) := by decide +kernel
theorem dX11_ordersFor_142 : decode cX11_ordersFor 142 = .ok (.aload_n 0, 1) := by decide +kernel
theorem dX11_ordersFor_143 : decode cX11_ordersFor 143 = .ok (.getfield 58, 3) := by decide +kernel
theorem dX11_ordersFor_146 : decode cX11_ordersFor 146 = .ok (.iload 6, 2) := by decide +kernel
theorem dX11_ordersFor_148 : decode cX11_ordersFor 148 = .ok (.iaload, 1) := by decide +kernel
theorem dX11_ordersFor_149 : decode cX11_ordersFor 149 = .ok (.iconst 1, 1) := by decide +kernel
theorem dX11_ordersFor_150 : decode cX11_ordersFor 150 = .ok (.iadd, 1) := by decide +kernel
theorem dX11_ordersFor_151 : decode cX11_ordersFor 151 = .ok (.iastore, 1) := by decide +kernel
theorem dX11_ordersFor_152 : decode cX11_ordersFor 152 = .ok (.aload_n 0, 1) := by decide +kernel
theorem dX11_ordersFor_153 : decode cX11_ordersFor 153 = .ok (.getfield 61, 3) := by decide +kernel
theorem dX11_ordersFor_156 : decode cX11_ordersFor 156 = .ok (.iload 6, 2) := by decide +kernel
theorem dX11_ordersFor_158 : decode cX11_ordersFor 158 = .ok (.iconst (-1), 1) := by decide +kernel
theorem dX11_ordersFor_159 : decode cX11_ordersFor 159 = .ok (.iastore, 1) := by decide +kernel
theorem dX11_ordersFor_160 : decode cX11_ordersFor 160 = .ok (.iload 5, 2) := by decide +kernel
theorem dX11_ordersFor_162 : decode cX11_ordersFor 162 = .ok (.iconst 1, 1) := by decide +kernel
theorem dX11_ordersFor_163 : decode cX11_ordersFor 163 = .ok (.isub, 1) := by decide +kernel
theorem dX11_ordersFor_164 : decode cX11_ordersFor 164 = .ok (.istore 5, 2) := by decide +kernel
theorem dX11_ordersFor_166 : decode cX11_ordersFor 166 = .ok (.goto (-42), 3) := by decide +kernel
theorem dX11_ordersFor_169 : decode cX11_ordersFor 169 = .ok (.return_, 1) := by decide +kernel
theorem dX11_laysOrder_0 : decode cX11_laysOrder 0 = .ok (.iconst 0, 1) := by decide +kernel
theorem dX11_laysOrder_1 : decode cX11_laysOrder 1 = .ok (.istore_n 1, 1) := by decide +kernel
theorem dX11_laysOrder_2 : decode cX11_laysOrder 2 = .ok (.iload_n 1, 1) := by decide +kernel
theorem dX11_laysOrder_3 : decode cX11_laysOrder 3 = .ok (.bipush 12, 2) := by decide +kernel
theorem dX11_laysOrder_5 : decode cX11_laysOrder 5 = .ok (.if_icmp .ge 16, 3) := by decide +kernel
theorem dX11_laysOrder_8 : decode cX11_laysOrder 8 = .ok (.aload_n 0, 1) := by decide +kernel
theorem dX11_laysOrder_9 : decode cX11_laysOrder 9 = .ok (.getfield 58, 3) := by decide +kernel
theorem dX11_laysOrder_12 : decode cX11_laysOrder 12 = .ok (.iload_n 1, 1) := by decide +kernel
theorem dX11_laysOrder_13 : decode cX11_laysOrder 13 = .ok (.iconst 0, 1) := by decide +kernel
theorem dX11_laysOrder_14 : decode cX11_laysOrder 14 = .ok (.iastore, 1) := by decide +kernel
theorem dX11_laysOrder_15 : decode cX11_laysOrder 15 = .ok (.iinc 1 1, 3) := by decide +kernel
theorem dX11_laysOrder_18 : decode cX11_laysOrder 18 = .ok (.goto (-16), 3) := by decide +kernel
theorem dX11_laysOrder_21 : decode cX11_laysOrder 21 = .ok (.iconst 0, 1) := by decide +kernel
theorem dX11_laysOrder_22 : decode cX11_laysOrder 22 = .ok (.istore_n 1, 1) := by decide +kernel
theorem dX11_laysOrder_23 : decode cX11_laysOrder 23 = .ok (.iload_n 1, 1) := by decide +kernel
theorem dX11_laysOrder_24 : decode cX11_laysOrder 24 = .ok (.aload_n 0, 1) := by decide +kernel
theorem dX11_laysOrder_25 : decode cX11_laysOrder 25 = .ok (.getfield 26, 3) := by decide +kernel
theorem dX11_laysOrder_28 : decode cX11_laysOrder 28 = .ok (.iconst 3, 1) := by decide +kernel
theorem dX11_laysOrder_29 : decode cX11_laysOrder 29 = .ok (.iaload, 1) := by decide +kernel
theorem dX11_laysOrder_30 : decode cX11_laysOrder 30 = .ok (.if_icmp .ge 46, 3) := by decide +kernel
theorem dX11_laysOrder_33 : decode cX11_laysOrder 33 = .ok (.aload_n 0, 1) := by decide +kernel
theorem dX11_laysOrder_34 : decode cX11_laysOrder 34 = .ok (.iload_n 1, 1) := by decide +kernel
theorem dX11_laysOrder_35 : decode cX11_laysOrder 35 = .ok (.invokevirtual 306, 3) := by decide +kernel
theorem dX11_laysOrder_38 : decode cX11_laysOrder 38 = .ok (.ifCond .eq 11, 3) := by decide +kernel
theorem dX11_laysOrder_41 : decode cX11_laysOrder 41 = .ok (.aload_n 0, 1) := by decide +kernel
theorem dX11_laysOrder_42 : decode cX11_laysOrder 42 = .ok (.iload_n 1, 1) := by decide +kernel
theorem dX11_laysOrder_43 : decode cX11_laysOrder 43 = .ok (.invokevirtual 321, 3) := by decide +kernel
theorem dX11_laysOrder_46 : decode cX11_laysOrder 46 = .ok (.goto 4, 3) := by decide +kernel
theorem dX11_laysOrder_49 : decode cX11_laysOrder 49 = .ok (.iconst (-1), 1) := by decide +kernel
theorem dX11_laysOrder_50 : decode cX11_laysOrder 50 = .ok (.istore_n 2, 1) := by decide +kernel
theorem dX11_laysOrder_51 : decode cX11_laysOrder 51 = .ok (.iload_n 2, 1) := by decide +kernel
theorem dX11_laysOrder_52 : decode cX11_laysOrder 52 = .ok (.iconst (-1), 1) := by decide +kernel
theorem dX11_laysOrder_53 : decode cX11_laysOrder 53 = .ok (.if_icmp .eq 17, 3) := by decide +kernel
theorem dX11_laysOrder_56 : decode cX11_laysOrder 56 = .ok (.aload_n 0, 1) := by decide +kernel
theorem dX11_laysOrder_57 : decode cX11_laysOrder 57 = .ok (.getfield 58, 3) := by decide +kernel
theorem dX11_laysOrder_60 : decode cX11_laysOrder 60 = .ok (.iload_n 2, 1) := by decide +kernel
theorem dX11_laysOrder_61 : decode cX11_laysOrder 61 = .ok (.aload_n 0, 1) := by decide +kernel
theorem dX11_laysOrder_62 : decode cX11_laysOrder 62 = .ok (.getfield 58, 3) := by decide +kernel
theorem dX11_laysOrder_65 : decode cX11_laysOrder 65 = .ok (.iload_n 2, 1) := by decide +kernel
theorem dX11_laysOrder_66 : decode cX11_laysOrder 66 = .ok (.iaload, 1) := by decide +kernel
theorem dX11_laysOrder_67 : decode cX11_laysOrder 67 = .ok (.iconst 1, 1) := by decide +kernel
theorem dX11_laysOrder_68 : decode cX11_laysOrder 68 = .ok (.iadd, 1) := by decide +kernel
theorem dX11_laysOrder_69 : decode cX11_laysOrder 69 = .ok (.iastore, 1) := by decide +kernel
theorem dX11_laysOrder_70 : decode cX11_laysOrder 70 = .ok (.iinc 1 1, 3) := by decide +kernel
theorem dX11_laysOrder_73 : decode cX11_laysOrder 73 = .ok (.goto (-50), 3) := by decide +kernel
theorem dX11_laysOrder_76 : decode cX11_laysOrder 76 = .ok (.iconst 0, 1) := by decide +kernel
theorem dX11_laysOrder_77 : decode cX11_laysOrder 77 = .ok (.istore_n 1, 1) := by decide +kernel
theorem dX11_laysOrder_78 : decode cX11_laysOrder 78 = .ok (.iload_n 1, 1) := by decide +kernel
theorem dX11_laysOrder_79 : decode cX11_laysOrder 79 = .ok (.aload_n 0, 1) := by decide +kernel
theorem dX11_laysOrder_80 : decode cX11_laysOrder 80 = .ok (.invokevirtual 324, 3) := by decide +kernel
theorem dX11_laysOrder_83 : decode cX11_laysOrder 83 = .ok (.if_icmp .ge 14, 3) := by decide +kernel
theorem dX11_laysOrder_86 : decode cX11_laysOrder 86 = .ok (.aload_n 0, 1) := by decide +kernel
theorem dX11_laysOrder_87 : decode cX11_laysOrder 87 = .ok (.iload_n 1, 1) := by decide +kernel
theorem dX11_laysOrder_88 : decode cX11_laysOrder 88 = .ok (.invokevirtual 327, 3) := by decide +kernel
theorem dX11_laysOrder_91 : decode cX11_laysOrder 91 = .ok (.iinc 1 1, 3) := by decide +kernel
theorem dX11_laysOrder_94 : decode cX11_laysOrder 94 = .ok (.goto (-16), 3) := by decide +kernel
theorem dX11_laysOrder_97 : decode cX11_laysOrder 97 = .ok (.return_, 1) := by decide +kernel
theorem dX11_loadedOf_0 : decode cX11_loadedOf 0 = .ok (.iconst 0, 1) := by decide +kernel
theorem dX11_loadedOf_1 : decode cX11_loadedOf 1 = .ok (.istore_n 2, 1) := by decide +kernel
theorem dX11_loadedOf_2 : decode cX11_loadedOf 2 = .ok (.iconst 0, 1) := by decide +kernel
theorem dX11_loadedOf_3 : decode cX11_loadedOf 3 = .ok (.istore_n 3, 1) := by decide +kernel
theorem dX11_loadedOf_4 : decode cX11_loadedOf 4 = .ok (.iload_n 3, 1) := by decide +kernel
theorem dX11_loadedOf_5 : decode cX11_loadedOf 5 = .ok (.aload_n 0, 1) := by decide +kernel
theorem dX11_loadedOf_6 : decode cX11_loadedOf 6 = .ok (.invokevirtual 330, 3) := by decide +kernel
theorem dX11_loadedOf_9 : decode cX11_loadedOf 9 = .ok (.if_icmp .ge 22, 3) := by decide +kernel
theorem dX11_loadedOf_12 : decode cX11_loadedOf 12 = .ok (.iload_n 2, 1) := by decide +kernel
theorem dX11_loadedOf_13 : decode cX11_loadedOf 13 = .ok (.aload_n 0, 1) := by decide +kernel
theorem dX11_loadedOf_14 : decode cX11_loadedOf 14 = .ok (.getfield 26, 3) := by decide +kernel
theorem dX11_loadedOf_17 : decode cX11_loadedOf 17 = .ok (.iload_n 3, 1) := by decide +kernel
theorem dX11_loadedOf_18 : decode cX11_loadedOf 18 = .ok (.iload_n 1, 1) := by decide +kernel
theorem dX11_loadedOf_19 : decode cX11_loadedOf 19 = .ok (.invokestatic 333, 3) := by decide +kernel
theorem dX11_loadedOf_22 : decode cX11_loadedOf 22 = .ok (.iaload, 1) := by decide +kernel
theorem dX11_loadedOf_23 : decode cX11_loadedOf 23 = .ok (.iadd, 1) := by decide +kernel
theorem dX11_loadedOf_24 : decode cX11_loadedOf 24 = .ok (.istore_n 2, 1) := by decide +kernel
theorem dX11_loadedOf_25 : decode cX11_loadedOf 25 = .ok (.iinc 3 1, 3) := by decide +kernel
theorem dX11_loadedOf_28 : decode cX11_loadedOf 28 = .ok (.goto (-24), 3) := by decide +kernel
theorem dX11_loadedOf_31 : decode cX11_loadedOf 31 = .ok (.iload_n 2, 1) := by decide +kernel
theorem dX11_loadedOf_32 : decode cX11_loadedOf 32 = .ok (.ireturn, 1) := by decide +kernel
theorem dX11_allLoaded_0 : decode cX11_allLoaded 0 = .ok (.iconst 0, 1) := by decide +kernel
theorem dX11_allLoaded_1 : decode cX11_allLoaded 1 = .ok (.istore_n 1, 1) := by decide +kernel
theorem dX11_allLoaded_2 : decode cX11_allLoaded 2 = .ok (.iconst 0, 1) := by decide +kernel
theorem dX11_allLoaded_3 : decode cX11_allLoaded 3 = .ok (.istore_n 2, 1) := by decide +kernel
theorem dX11_allLoaded_4 : decode cX11_allLoaded 4 = .ok (.iload_n 2, 1) := by decide +kernel
theorem dX11_allLoaded_5 : decode cX11_allLoaded 5 = .ok (.aload_n 0, 1) := by decide +kernel
theorem dX11_allLoaded_6 : decode cX11_allLoaded 6 = .ok (.invokevirtual 300, 3) := by decide +kernel
theorem dX11_allLoaded_9 : decode cX11_allLoaded 9 = .ok (.if_icmp .ge 17, 3) := by decide +kernel
theorem dX11_allLoaded_12 : decode cX11_allLoaded 12 = .ok (.iload_n 1, 1) := by decide +kernel
theorem dX11_allLoaded_13 : decode cX11_allLoaded 13 = .ok (.aload_n 0, 1) := by decide +kernel
theorem dX11_allLoaded_14 : decode cX11_allLoaded 14 = .ok (.iload_n 2, 1) := by decide +kernel
theorem dX11_allLoaded_15 : decode cX11_allLoaded 15 = .ok (.invokevirtual 336, 3) := by decide +kernel
theorem dX11_allLoaded_18 : decode cX11_allLoaded 18 = .ok (.iadd, 1) := by decide +kernel
theorem dX11_allLoaded_19 : decode cX11_allLoaded 19 = .ok (.istore_n 1, 1) := by decide +kernel
theorem dX11_allLoaded_20 : decode cX11_allLoaded 20 = .ok (.iinc 2 1, 3) := by decide +kernel
theorem dX11_allLoaded_23 : decode cX11_allLoaded 23 = .ok (.goto (-19), 3) := by decide +kernel
theorem dX11_allLoaded_26 : decode cX11_allLoaded 26 = .ok (.iload_n 1, 1) := by decide +kernel
theorem dX11_allLoaded_27 : decode cX11_allLoaded 27 = .ok (.ireturn, 1) := by decide +kernel
theorem dX11_comingOf_0 : decode cX11_comingOf 0 = .ok (.iconst 0, 1) := by decide +kernel
theorem dX11_comingOf_1 : decode cX11_comingOf 1 = .ok (.istore_n 2, 1) := by decide +kernel
theorem dX11_comingOf_2 : decode cX11_comingOf 2 = .ok (.iconst 0, 1) := by decide +kernel
theorem dX11_comingOf_3 : decode cX11_comingOf 3 = .ok (.istore_n 3, 1) := by decide +kernel
theorem dX11_comingOf_4 : decode cX11_comingOf 4 = .ok (.iload_n 3, 1) := by decide +kernel
theorem dX11_comingOf_5 : decode cX11_comingOf 5 = .ok (.aload_n 0, 1) := by decide +kernel
theorem dX11_comingOf_6 : decode cX11_comingOf 6 = .ok (.getfield 26, 3) := by decide +kernel
theorem dX11_comingOf_9 : decode cX11_comingOf 9 = .ok (.iconst 4, 1) := by decide +kernel
theorem dX11_comingOf_10 : decode cX11_comingOf 10 = .ok (.iaload, 1) := by decide +kernel
theorem dX11_comingOf_11 : decode cX11_comingOf 11 = .ok (.if_icmp .ge 46, 3) := by decide +kernel
theorem dX11_comingOf_14 : decode cX11_comingOf 14 = .ok (.aload_n 0, 1) := by decide +kernel
theorem dX11_comingOf_15 : decode cX11_comingOf 15 = .ok (.getfield 26, 3) := by decide +kernel
theorem dX11_comingOf_18 : decode cX11_comingOf 18 = .ok (.sipush 261, 3) := by decide +kernel
theorem dX11_comingOf_21 : decode cX11_comingOf 21 = .ok (.iconst 3, 1) := by decide +kernel
theorem dX11_comingOf_22 : decode cX11_comingOf 22 = .ok (.iload_n 3, 1) := by decide +kernel
theorem dX11_comingOf_23 : decode cX11_comingOf 23 = .ok (.imul, 1) := by decide +kernel
theorem dX11_comingOf_24 : decode cX11_comingOf 24 = .ok (.iadd, 1) := by decide +kernel
theorem dX11_comingOf_25 : decode cX11_comingOf 25 = .ok (.iaload, 1) := by decide +kernel
theorem dX11_comingOf_26 : decode cX11_comingOf 26 = .ok (.iload_n 1, 1) := by decide +kernel
theorem dX11_comingOf_27 : decode cX11_comingOf 27 = .ok (.if_icmp .ne 22, 3) := by decide +kernel
theorem dX11_comingOf_30 : decode cX11_comingOf 30 = .ok (.iload_n 2, 1) := by decide +kernel
theorem dX11_comingOf_31 : decode cX11_comingOf 31 = .ok (.aload_n 0, 1) := by decide +kernel
theorem dX11_comingOf_32 : decode cX11_comingOf 32 = .ok (.getfield 26, 3) := by decide +kernel
theorem dX11_comingOf_35 : decode cX11_comingOf 35 = .ok (.sipush 261, 3) := by decide +kernel
theorem dX11_comingOf_38 : decode cX11_comingOf 38 = .ok (.iconst 3, 1) := by decide +kernel
theorem dX11_comingOf_39 : decode cX11_comingOf 39 = .ok (.iload_n 3, 1) := by decide +kernel
theorem dX11_comingOf_40 : decode cX11_comingOf 40 = .ok (.imul, 1) := by decide +kernel
theorem dX11_comingOf_41 : decode cX11_comingOf 41 = .ok (.iadd, 1) := by decide +kernel
theorem dX11_comingOf_42 : decode cX11_comingOf 42 = .ok (.iconst 1, 1) := by decide +kernel
theorem dX11_comingOf_43 : decode cX11_comingOf 43 = .ok (.iadd, 1) := by decide +kernel
theorem dX11_comingOf_44 : decode cX11_comingOf 44 = .ok (.iaload, 1) := by decide +kernel
theorem dX11_comingOf_45 : decode cX11_comingOf 45 = .ok (.iadd, 1) := by decide +kernel
theorem dX11_comingOf_46 : decode cX11_comingOf 46 = .ok (.goto 4, 3) := by decide +kernel
theorem dX11_comingOf_49 : decode cX11_comingOf 49 = .ok (.iload_n 2, 1) := by decide +kernel
theorem dX11_comingOf_50 : decode cX11_comingOf 50 = .ok (.istore_n 2, 1) := by decide +kernel
theorem dX11_comingOf_51 : decode cX11_comingOf 51 = .ok (.iinc 3 1, 3) := by decide +kernel
theorem dX11_comingOf_54 : decode cX11_comingOf 54 = .ok (.goto (-50), 3) := by decide +kernel
theorem dX11_comingOf_57 : decode cX11_comingOf 57 = .ok (.iload_n 2, 1) := by decide +kernel
theorem dX11_comingOf_58 : decode cX11_comingOf 58 = .ok (.ireturn, 1) := by decide +kernel
theorem dX11_missingOf_0 : decode cX11_missingOf 0 = .ok (.aload_n 0, 1) := by decide +kernel
theorem dX11_missingOf_1 : decode cX11_missingOf 1 = .ok (.getfield 58, 3) := by decide +kernel
theorem dX11_missingOf_4 : decode cX11_missingOf 4 = .ok (.iload_n 1, 1) := by decide +kernel
theorem dX11_missingOf_5 : decode cX11_missingOf 5 = .ok (.iaload, 1) := by decide +kernel
theorem dX11_missingOf_6 : decode cX11_missingOf 6 = .ok (.aload_n 0, 1) := by decide +kernel
theorem dX11_missingOf_7 : decode cX11_missingOf 7 = .ok (.iload_n 1, 1) := by decide +kernel
theorem dX11_missingOf_8 : decode cX11_missingOf 8 = .ok (.invokevirtual 336, 3) := by decide +kernel
theorem dX11_missingOf_11 : decode cX11_missingOf 11 = .ok (.isub, 1) := by decide +kernel
theorem dX11_missingOf_12 : decode cX11_missingOf 12 = .ok (.aload_n 0, 1) := by decide +kernel
theorem dX11_missingOf_13 : decode cX11_missingOf 13 = .ok (.iload_n 1, 1) := by decide +kernel
theorem dX11_missingOf_14 : decode cX11_missingOf 14 = .ok (.invokevirtual 339, 3) := by decide +kernel
theorem dX11_missingOf_17 : decode cX11_missingOf 17 = .ok (.isub, 1) := by decide +kernel
theorem dX11_missingOf_18 : decode cX11_missingOf 18 = .ok (.istore_n 2, 1) := by decide +kernel
theorem dX11_missingOf_19 : decode cX11_missingOf 19 = .ok (.iload_n 2, 1) := by decide +kernel
theorem dX11_missingOf_20 : decode cX11_missingOf 20 = .ok (.ifCond .le 7, 3) := by decide +kernel
theorem dX11_missingOf_23 : decode cX11_missingOf 23 = .ok (.iload_n 2, 1) := by decide +kernel
theorem dX11_missingOf_24 : decode cX11_missingOf 24 = .ok (.goto 4, 3) := by decide +kernel
theorem dX11_missingOf_27 : decode cX11_missingOf 27 = .ok (.iconst 0, 1) := by decide +kernel
theorem dX11_missingOf_28 : decode cX11_missingOf 28 = .ok (.ireturn, 1) := by decide +kernel
theorem dX11_freeOf_0 : decode cX11_freeOf 0 = .ok (.aload_n 0, 1) := by decide +kernel
theorem dX11_freeOf_1 : decode cX11_freeOf 1 = .ok (.iload_n 1, 1) := by decide +kernel
theorem dX11_freeOf_2 : decode cX11_freeOf 2 = .ok (.iconst 1, 1) := by decide +kernel
theorem dX11_freeOf_3 : decode cX11_freeOf 3 = .ok (.invokevirtual 342, 3) := by decide +kernel
theorem dX11_freeOf_6 : decode cX11_freeOf 6 = .ok (.istore_n 2, 1) := by decide +kernel
theorem dX11_freeOf_7 : decode cX11_freeOf 7 = .ok (.iconst 0, 1) := by decide +kernel
theorem dX11_freeOf_8 : decode cX11_freeOf 8 = .ok (.istore_n 3, 1) := by decide +kernel
theorem dX11_freeOf_9 : decode cX11_freeOf 9 = .ok (.iload_n 3, 1) := by decide +kernel
theorem dX11_freeOf_10 : decode cX11_freeOf 10 = .ok (.aload_n 0, 1) := by decide +kernel
theorem dX11_freeOf_11 : decode cX11_freeOf 11 = .ok (.invokevirtual 300, 3) := by decide +kernel
theorem dX11_freeOf_14 : decode cX11_freeOf 14 = .ok (.if_icmp .ge 29, 3) := by decide +kernel
theorem dX11_freeOf_17 : decode cX11_freeOf 17 = .ok (.iload_n 2, 1) := by decide +kernel
theorem dX11_freeOf_18 : decode cX11_freeOf 18 = .ok (.aload_n 0, 1) := by decide +kernel
theorem dX11_freeOf_19 : decode cX11_freeOf 19 = .ok (.getfield 26, 3) := by decide +kernel
theorem dX11_freeOf_22 : decode cX11_freeOf 22 = .ok (.iload_n 1, 1) := by decide +kernel
theorem dX11_freeOf_23 : decode cX11_freeOf 23 = .ok (.iload_n 3, 1) := by decide +kernel
theorem dX11_freeOf_24 : decode cX11_freeOf 24 = .ok (.invokestatic 333, 3) := by decide +kernel
theorem dX11_freeOf_27 : decode cX11_freeOf 27 = .ok (.iaload, 1) := by decide +kernel
theorem dX11_freeOf_28 : decode cX11_freeOf 28 = .ok (.aload_n 0, 1) := by decide +kernel
theorem dX11_freeOf_29 : decode cX11_freeOf 29 = .ok (.iload_n 3, 1) := by decide +kernel
theorem dX11_freeOf_30 : decode cX11_freeOf 30 = .ok (.iconst 2, 1) := by decide +kernel
theorem dX11_freeOf_31 : decode cX11_freeOf 31 = .ok (.invokevirtual 297, 3) := by decide +kernel
theorem dX11_freeOf_34 : decode cX11_freeOf 34 = .ok (.imul, 1) := by decide +kernel
theorem dX11_freeOf_35 : decode cX11_freeOf 35 = .ok (.isub, 1) := by decide +kernel
theorem dX11_freeOf_36 : decode cX11_freeOf 36 = .ok (.istore_n 2, 1) := by decide +kernel
theorem dX11_freeOf_37 : decode cX11_freeOf 37 = .ok (.iinc 3 1, 3) := by decide +kernel
theorem dX11_freeOf_40 : decode cX11_freeOf 40 = .ok (.goto (-31), 3) := by decide +kernel
theorem dX11_freeOf_43 : decode cX11_freeOf 43 = .ok (.iload_n 2, 1) := by decide +kernel
theorem dX11_freeOf_44 : decode cX11_freeOf 44 = .ok (.ireturn, 1) := by decide +kernel
theorem dX11_unitsIn_0 : decode cX11_unitsIn 0 = .ok (.iconst 0, 1) := by decide +kernel
theorem dX11_unitsIn_1 : decode cX11_unitsIn 1 = .ok (.istore_n 2, 1) := by decide +kernel
theorem dX11_unitsIn_2 : decode cX11_unitsIn 2 = .ok (.iconst 0, 1) := by decide +kernel
theorem dX11_unitsIn_3 : decode cX11_unitsIn 3 = .ok (.istore_n 3, 1) := by decide +kernel
theorem dX11_unitsIn_4 : decode cX11_unitsIn 4 = .ok (.iload_n 3, 1) := by decide +kernel
theorem dX11_unitsIn_5 : decode cX11_unitsIn 5 = .ok (.aload_n 0, 1) := by decide +kernel
theorem dX11_unitsIn_6 : decode cX11_unitsIn 6 = .ok (.invokevirtual 300, 3) := by decide +kernel
theorem dX11_unitsIn_9 : decode cX11_unitsIn 9 = .ok (.if_icmp .ge 22, 3) := by decide +kernel
theorem dX11_unitsIn_12 : decode cX11_unitsIn 12 = .ok (.iload_n 2, 1) := by decide +kernel
theorem dX11_unitsIn_13 : decode cX11_unitsIn 13 = .ok (.aload_n 0, 1) := by decide +kernel
theorem dX11_unitsIn_14 : decode cX11_unitsIn 14 = .ok (.getfield 26, 3) := by decide +kernel
theorem dX11_unitsIn_17 : decode cX11_unitsIn 17 = .ok (.iload_n 1, 1) := by decide +kernel
theorem dX11_unitsIn_18 : decode cX11_unitsIn 18 = .ok (.iload_n 3, 1) := by decide +kernel
theorem dX11_unitsIn_19 : decode cX11_unitsIn 19 = .ok (.invokestatic 333, 3) := by decide +kernel
theorem dX11_unitsIn_22 : decode cX11_unitsIn 22 = .ok (.iaload, 1) := by decide +kernel
theorem dX11_unitsIn_23 : decode cX11_unitsIn 23 = .ok (.iadd, 1) := by decide +kernel
theorem dX11_unitsIn_24 : decode cX11_unitsIn 24 = .ok (.istore_n 2, 1) := by decide +kernel
theorem dX11_unitsIn_25 : decode cX11_unitsIn 25 = .ok (.iinc 3 1, 3) := by decide +kernel
theorem dX11_unitsIn_28 : decode cX11_unitsIn 28 = .ok (.goto (-24), 3) := by decide +kernel
theorem dX11_unitsIn_31 : decode cX11_unitsIn 31 = .ok (.iload_n 2, 1) := by decide +kernel
theorem dX11_unitsIn_32 : decode cX11_unitsIn 32 = .ok (.ireturn, 1) := by decide +kernel
theorem dX11_takesMeal_0 : decode cX11_takesMeal 0 = .ok (.aload_n 0, 1) := by decide +kernel
theorem dX11_takesMeal_1 : decode cX11_takesMeal 1 = .ok (.iload_n 2, 1) := by decide +kernel
theorem dX11_takesMeal_2 : decode cX11_takesMeal 2 = .ok (.iconst 0, 1) := by decide +kernel
theorem dX11_takesMeal_3 : decode cX11_takesMeal 3 = .ok (.invokevirtual 297, 3) := by decide +kernel
theorem dX11_takesMeal_6 : decode cX11_takesMeal 6 = .ok (.istore_n 3, 1) := by decide +kernel
theorem dX11_takesMeal_7 : decode cX11_takesMeal 7 = .ok (.iload_n 3, 1) := by decide +kernel
theorem dX11_takesMeal_8 : decode cX11_takesMeal 8 = .ok (.iconst (-1), 1) := by decide +kernel
theorem dX11_takesMeal_9 : decode cX11_takesMeal 9 = .ok (.if_icmp .eq 13, 3) := by decide +kernel
theorem dX11_takesMeal_12 : decode cX11_takesMeal 12 = .ok (.iload_n 3, 1) := by decide +kernel
theorem dX11_takesMeal_13 : decode cX11_takesMeal 13 = .ok (.aload_n 0, 1) := by decide +kernel
theorem dX11_takesMeal_14 : decode cX11_takesMeal 14 = .ok (.iload_n 1, 1) := by decide +kernel
theorem dX11_takesMeal_15 : decode cX11_takesMeal 15 = .ok (.iconst 0, 1) := by decide +kernel
theorem dX11_takesMeal_16 : decode cX11_takesMeal 16 = .ok (.invokevirtual 342, 3) := by decide +kernel
theorem dX11_takesMeal_19 : decode cX11_takesMeal 19 = .ok (.if_icmp .ne 7, 3) := by decide +kernel
theorem dX11_takesMeal_22 : decode cX11_takesMeal 22 = .ok (.iconst 1, 1) := by decide +kernel
theorem dX11_takesMeal_23 : decode cX11_takesMeal 23 = .ok (.goto 4, 3) := by decide +kernel
theorem dX11_takesMeal_26 : decode cX11_takesMeal 26 = .ok (.iconst 0, 1) := by decide +kernel
theorem dX11_takesMeal_27 : decode cX11_takesMeal 27 = .ok (.ireturn, 1) := by decide +kernel
theorem dX11_storesOne_0 : decode cX11_storesOne 0 = .ok (.iconst 0, 1) := by decide +kernel
theorem dX11_storesOne_1 : decode cX11_storesOne 1 = .ok (.istore_n 2, 1) := by decide +kernel
theorem dX11_storesOne_2 : decode cX11_storesOne 2 = .ok (.iload_n 2, 1) := by decide +kernel
theorem dX11_storesOne_3 : decode cX11_storesOne 3 = .ok (.aload_n 0, 1) := by decide +kernel
theorem dX11_storesOne_4 : decode cX11_storesOne 4 = .ok (.invokevirtual 330, 3) := by decide +kernel
theorem dX11_storesOne_7 : decode cX11_storesOne 7 = .ok (.if_icmp .ge 56, 3) := by decide +kernel
theorem dX11_storesOne_10 : decode cX11_storesOne 10 = .ok (.aload_n 0, 1) := by decide +kernel
theorem dX11_storesOne_11 : decode cX11_storesOne 11 = .ok (.iload_n 2, 1) := by decide +kernel
theorem dX11_storesOne_12 : decode cX11_storesOne 12 = .ok (.iload_n 1, 1) := by decide +kernel
theorem dX11_storesOne_13 : decode cX11_storesOne 13 = .ok (.invokevirtual 345, 3) := by decide +kernel
theorem dX11_storesOne_16 : decode cX11_storesOne 16 = .ok (.ifCond .eq 41, 3) := by decide +kernel
theorem dX11_storesOne_19 : decode cX11_storesOne 19 = .ok (.aload_n 0, 1) := by decide +kernel
theorem dX11_storesOne_20 : decode cX11_storesOne 20 = .ok (.iload_n 2, 1) := by decide +kernel
theorem dX11_storesOne_21 : decode cX11_storesOne 21 = .ok (.invokevirtual 348, 3) := by decide +kernel
theorem dX11_storesOne_24 : decode cX11_storesOne 24 = .ok (.aload_n 0, 1) := by decide +kernel
theorem dX11_storesOne_25 : decode cX11_storesOne 25 = .ok (.iload_n 1, 1) := by decide +kernel
theorem dX11_storesOne_26 : decode cX11_storesOne 26 = .ok (.iconst 2, 1) := by decide +kernel
theorem dX11_storesOne_27 : decode cX11_storesOne 27 = .ok (.invokevirtual 297, 3) := by decide +kernel
theorem dX11_storesOne_30 : decode cX11_storesOne 30 = .ok (.if_icmp .lt 27, 3) := by decide +kernel
theorem dX11_storesOne_33 : decode cX11_storesOne 33 = .ok (.aload_n 0, 1) := by decide +kernel
theorem dX11_storesOne_34 : decode cX11_storesOne 34 = .ok (.getfield 26, 3) := by decide +kernel
theorem dX11_storesOne_37 : decode cX11_storesOne 37 = .ok (.iload_n 2, 1) := by decide +kernel
theorem dX11_storesOne_38 : decode cX11_storesOne 38 = .ok (.iload_n 1, 1) := by decide +kernel
theorem dX11_storesOne_39 : decode cX11_storesOne 39 = .ok (.invokestatic 333, 3) := by decide +kernel
theorem dX11_storesOne_42 : decode cX11_storesOne 42 = .ok (.aload_n 0, 1) := by decide +kernel
theorem dX11_storesOne_43 : decode cX11_storesOne 43 = .ok (.getfield 26, 3) := by decide +kernel
theorem dX11_storesOne_46 : decode cX11_storesOne 46 = .ok (.iload_n 2, 1) := by decide +kernel
theorem dX11_storesOne_47 : decode cX11_storesOne 47 = .ok (.iload_n 1, 1) := by decide +kernel
theorem dX11_storesOne_48 : decode cX11_storesOne 48 = .ok (.invokestatic 333, 3) := by decide +kernel
theorem dX11_storesOne_51 : decode cX11_storesOne 51 = .ok (.iaload, 1) := by decide +kernel
theorem dX11_storesOne_52 : decode cX11_storesOne 52 = .ok (.iconst 1, 1) := by decide +kernel
theorem dX11_storesOne_53 : decode cX11_storesOne 53 = .ok (.iadd, 1) := by decide +kernel
theorem dX11_storesOne_54 : decode cX11_storesOne 54 = .ok (.iastore, 1) := by decide +kernel
theorem dX11_storesOne_55 : decode cX11_storesOne 55 = .ok (.iconst 1, 1) := by decide +kernel
theorem dX11_storesOne_56 : decode cX11_storesOne 56 = .ok (.ireturn, 1) := by decide +kernel
theorem dX11_storesOne_57 : decode cX11_storesOne 57 = .ok (.iinc 2 1, 3) := by decide +kernel
theorem dX11_storesOne_60 : decode cX11_storesOne 60 = .ok (.goto (-58), 3) := by decide +kernel
theorem dX11_storesOne_63 : decode cX11_storesOne 63 = .ok (.iconst 0, 1) := by decide +kernel
theorem dX11_storesOne_64 : decode cX11_storesOne 64 = .ok (.ireturn, 1) := by decide +kernel
theorem dX11_storesMany_0 : decode cX11_storesMany 0 = .ok (.iconst 0, 1) := by decide +kernel
theorem dX11_storesMany_1 : decode cX11_storesMany 1 = .ok (.istore_n 3, 1) := by decide +kernel
theorem dX11_storesMany_2 : decode cX11_storesMany 2 = .ok (.iload_n 3, 1) := by decide +kernel
theorem dX11_storesMany_3 : decode cX11_storesMany 3 = .ok (.iload_n 2, 1) := by decide +kernel
theorem dX11_storesMany_4 : decode cX11_storesMany 4 = .ok (.if_icmp .ge 18, 3) := by decide +kernel
theorem dX11_storesMany_7 : decode cX11_storesMany 7 = .ok (.aload_n 0, 1) := by decide +kernel
theorem dX11_storesMany_8 : decode cX11_storesMany 8 = .ok (.iload_n 1, 1) := by decide +kernel
theorem dX11_storesMany_9 : decode cX11_storesMany 9 = .ok (.invokevirtual 351, 3) := by decide +kernel
theorem dX11_storesMany_12 : decode cX11_storesMany 12 = .ok (.ifCond .eq 10, 3) := by decide +kernel
theorem dX11_storesMany_15 : decode cX11_storesMany 15 = .ok (.iload_n 3, 1) := by decide +kernel
theorem dX11_storesMany_16 : decode cX11_storesMany 16 = .ok (.iconst 1, 1) := by decide +kernel
theorem dX11_storesMany_17 : decode cX11_storesMany 17 = .ok (.iadd, 1) := by decide +kernel
theorem dX11_storesMany_18 : decode cX11_storesMany 18 = .ok (.istore_n 3, 1) := by decide +kernel
theorem dX11_storesMany_19 : decode cX11_storesMany 19 = .ok (.goto (-17), 3) := by decide +kernel
theorem dX11_storesMany_22 : decode cX11_storesMany 22 = .ok (.iload_n 3, 1) := by decide +kernel
theorem dX11_storesMany_23 : decode cX11_storesMany 23 = .ok (.ireturn, 1) := by decide +kernel
theorem dX11_marksUnits_0 : decode cX11_marksUnits 0 = .ok (.iconst 0, 1) := by decide +kernel
theorem dX11_marksUnits_1 : decode cX11_marksUnits 1 = .ok (.istore_n 1, 1) := by decide +kernel
theorem dX11_marksUnits_2 : decode cX11_marksUnits 2 = .ok (.iload_n 1, 1) := by decide +kernel
theorem dX11_marksUnits_3 : decode cX11_marksUnits 3 = .ok (.bipush 96, 2) := by decide +kernel
theorem dX11_marksUnits_5 : decode cX11_marksUnits 5 = .ok (.if_icmp .ge 25, 3) := by decide +kernel
theorem dX11_marksUnits_8 : decode cX11_marksUnits 8 = .ok (.aload_n 0, 1) := by decide +kernel
theorem dX11_marksUnits_9 : decode cX11_marksUnits 9 = .ok (.getfield 64, 3) := by decide +kernel
theorem dX11_marksUnits_12 : decode cX11_marksUnits 12 = .ok (.iload_n 1, 1) := by decide +kernel
theorem dX11_marksUnits_13 : decode cX11_marksUnits 13 = .ok (.aload_n 0, 1) := by decide +kernel
theorem dX11_marksUnits_14 : decode cX11_marksUnits 14 = .ok (.getfield 26, 3) := by decide +kernel
theorem dX11_marksUnits_17 : decode cX11_marksUnits 17 = .ok (.sipush 165, 3) := by decide +kernel
theorem dX11_marksUnits_20 : decode cX11_marksUnits 20 = .ok (.iload_n 1, 1) := by decide +kernel
theorem dX11_marksUnits_21 : decode cX11_marksUnits 21 = .ok (.iadd, 1) := by decide +kernel
theorem dX11_marksUnits_22 : decode cX11_marksUnits 22 = .ok (.iaload, 1) := by decide +kernel
theorem dX11_marksUnits_23 : decode cX11_marksUnits 23 = .ok (.iastore, 1) := by decide +kernel
theorem dX11_marksUnits_24 : decode cX11_marksUnits 24 = .ok (.iinc 1 1, 3) := by decide +kernel
theorem dX11_marksUnits_27 : decode cX11_marksUnits 27 = .ok (.goto (-25), 3) := by decide +kernel
theorem dX11_marksUnits_30 : decode cX11_marksUnits 30 = .ok (.return_, 1) := by decide +kernel
theorem dX11_unitsBack_0 : decode cX11_unitsBack 0 = .ok (.iconst 0, 1) := by decide +kernel
theorem dX11_unitsBack_1 : decode cX11_unitsBack 1 = .ok (.istore_n 1, 1) := by decide +kernel
theorem dX11_unitsBack_2 : decode cX11_unitsBack 2 = .ok (.iload_n 1, 1) := by decide +kernel
theorem dX11_unitsBack_3 : decode cX11_unitsBack 3 = .ok (.bipush 96, 2) := by decide +kernel
theorem dX11_unitsBack_5 : decode cX11_unitsBack 5 = .ok (.if_icmp .ge 25, 3) := by decide +kernel
theorem dX11_unitsBack_8 : decode cX11_unitsBack 8 = .ok (.aload_n 0, 1) := by decide +kernel
theorem dX11_unitsBack_9 : decode cX11_unitsBack 9 = .ok (.getfield 26, 3) := by decide +kernel
theorem dX11_unitsBack_12 : decode cX11_unitsBack 12 = .ok (.sipush 165, 3) := by decide +kernel
theorem dX11_unitsBack_15 : decode cX11_unitsBack 15 = .ok (.iload_n 1, 1) := by decide +kernel
theorem dX11_unitsBack_16 : decode cX11_unitsBack 16 = .ok (.iadd, 1) := by decide +kernel
theorem dX11_unitsBack_17 : decode cX11_unitsBack 17 = .ok (.aload_n 0, 1) := by decide +kernel
theorem dX11_unitsBack_18 : decode cX11_unitsBack 18 = .ok (.getfield 64, 3) := by decide +kernel
theorem dX11_unitsBack_21 : decode cX11_unitsBack 21 = .ok (.iload_n 1, 1) := by decide +kernel
theorem dX11_unitsBack_22 : decode cX11_unitsBack 22 = .ok (.iaload, 1) := by decide +kernel
theorem dX11_unitsBack_23 : decode cX11_unitsBack 23 = .ok (.iastore, 1) := by decide +kernel
theorem dX11_unitsBack_24 : decode cX11_unitsBack 24 = .ok (.iinc 1 1, 3) := by decide +kernel
theorem dX11_unitsBack_27 : decode cX11_unitsBack 27 = .ok (.goto (-25), 3) := by decide +kernel
theorem dX11_unitsBack_30 : decode cX11_unitsBack 30 = .ok (.return_, 1) := by decide +kernel
theorem dX11_orderUnits_0 : decode cX11_orderUnits 0 = .ok (.aload_n 0, 1) := by decide +kernel
theorem dX11_orderUnits_1 : decode cX11_orderUnits 1 = .ok (.invokevirtual 354, 3) := by decide +kernel
theorem dX11_orderUnits_4 : decode cX11_orderUnits 4 = .ok (.iconst 0, 1) := by decide +kernel
theorem dX11_orderUnits_5 : decode cX11_orderUnits 5 = .ok (.istore_n 1, 1) := by decide +kernel
theorem dX11_orderUnits_6 : decode cX11_orderUnits 6 = .ok (.iconst 0, 1) := by decide +kernel
theorem dX11_orderUnits_7 : decode cX11_orderUnits 7 = .ok (.istore_n 2, 1) := by decide +kernel
theorem dX11_orderUnits_8 : decode cX11_orderUnits 8 = .ok (.iload_n 2, 1) := by decide +kernel
theorem dX11_orderUnits_9 : decode cX11_orderUnits 9 = .ok (.bipush 12, 2) := by decide +kernel
theorem dX11_orderUnits_11 : decode cX11_orderUnits 11 = .ok (.if_icmp .ge 18, 3) := by decide +kernel
theorem dX11_orderUnits_14 : decode cX11_orderUnits 14 = .ok (.iload_n 1, 1) := by decide +kernel
theorem dX11_orderUnits_15 : decode cX11_orderUnits 15 = .ok (.aload_n 0, 1) := by decide +kernel
theorem dX11_orderUnits_16 : decode cX11_orderUnits 16 = .ok (.getfield 58, 3) := by decide +kernel
theorem dX11_orderUnits_19 : decode cX11_orderUnits 19 = .ok (.iload_n 2, 1) := by decide +kernel
theorem dX11_orderUnits_20 : decode cX11_orderUnits 20 = .ok (.iaload, 1) := by decide +kernel
theorem dX11_orderUnits_21 : decode cX11_orderUnits 21 = .ok (.iadd, 1) := by decide +kernel
theorem dX11_orderUnits_22 : decode cX11_orderUnits 22 = .ok (.istore_n 1, 1) := by decide +kernel
theorem dX11_orderUnits_23 : decode cX11_orderUnits 23 = .ok (.iinc 2 1, 3) := by decide +kernel
theorem dX11_orderUnits_26 : decode cX11_orderUnits 26 = .ok (.goto (-18), 3) := by decide +kernel
theorem dX11_orderUnits_29 : decode cX11_orderUnits 29 = .ok (.iload_n 1, 1) := by decide +kernel
theorem dX11_orderUnits_30 : decode cX11_orderUnits 30 = .ok (.ireturn, 1) := by decide +kernel
theorem dX11_count_0 : decode cX11_count 0 = .ok (.aload_n 0, 1) := by decide +kernel
theorem dX11_count_1 : decode cX11_count 1 = .ok (.iload_n 1, 1) := by decide +kernel
theorem dX11_count_2 : decode cX11_count 2 = .ok (.iconst 0, 1) := by decide +kernel
theorem dX11_count_3 : decode cX11_count 3 = .ok (.bipush 11, 2) := by decide +kernel
theorem dX11_count_5 : decode cX11_count 5 = .ok (.invokestatic 102, 3) := by decide +kernel
theorem dX11_count_8 : decode cX11_count 8 = .ok (.ifCond .eq 7, 3) := by decide +kernel
theorem dX11_count_11 : decode cX11_count 11 = .ok (.iconst 0, 1) := by decide +kernel
theorem dX11_count_12 : decode cX11_count 12 = .ok (.goto 4, 3) := by decide +kernel
theorem dX11_count_15 : decode cX11_count 15 = .ok (.iconst 1, 1) := by decide +kernel
theorem dX11_count_16 : decode cX11_count 16 = .ok (.invokevirtual 98, 3) := by decide +kernel
theorem dX11_count_19 : decode cX11_count 19 = .ok (.ifCond .eq 5, 3) := by decide +kernel
theorem dX11_count_22 : decode cX11_count 22 = .ok (.iconst 0, 1) := by decide +kernel
theorem dX11_count_23 : decode cX11_count 23 = .ok (.ireturn, 1) := by decide +kernel
theorem dX11_count_24 : decode cX11_count 24 = .ok (.iload_n 1, 1) := by decide +kernel
theorem dX11_count_25 : decode cX11_count 25 = .ok (.bipush 9, 2) := by decide +kernel
theorem dX11_count_27 : decode cX11_count 27 = .ok (.if_icmp .ne 8, 3) := by decide +kernel
theorem dX11_count_30 : decode cX11_count 30 = .ok (.aload_n 0, 1) := by decide +kernel
theorem dX11_count_31 : decode cX11_count 31 = .ok (.getfield 95, 3) := by decide +kernel
theorem dX11_count_34 : decode cX11_count 34 = .ok (.ireturn, 1) := by decide +kernel
theorem dX11_count_35 : decode cX11_count 35 = .ok (.aload_n 0, 1) := by decide +kernel
theorem dX11_count_36 : decode cX11_count 36 = .ok (.getfield 26, 3) := by decide +kernel
theorem dX11_count_39 : decode cX11_count 39 = .ok (.iconst 0, 1) := by decide +kernel
theorem dX11_count_40 : decode cX11_count 40 = .ok (.iaload, 1) := by decide +kernel
theorem dX11_count_41 : decode cX11_count 41 = .ok (.ifCond .ne 5, 3) := by decide +kernel
theorem dX11_count_44 : decode cX11_count 44 = .ok (.iconst 0, 1) := by decide +kernel
theorem dX11_count_45 : decode cX11_count 45 = .ok (.ireturn, 1) := by decide +kernel
theorem dX11_count_46 : decode cX11_count 46 = .ok (.iload_n 1, 1) := by decide +kernel
theorem dX11_count_47 : decode cX11_count 47 = .ok (.tableswitch 106 0 8 #[49, 54, 61, 68, 75, 82, 89, 96, 101], 49) := by decide +kernel
theorem dX11_count_96 : decode cX11_count 96 = .ok (.aload_n 0, 1) := by decide +kernel
theorem dX11_count_97 : decode cX11_count 97 = .ok (.invokevirtual 106, 3) := by decide +kernel
theorem dX11_count_100 : decode cX11_count 100 = .ok (.ireturn, 1) := by decide +kernel
theorem dX11_count_101 : decode cX11_count 101 = .ok (.aload_n 0, 1) := by decide +kernel
theorem dX11_count_102 : decode cX11_count 102 = .ok (.getfield 7, 3) := by decide +kernel
theorem dX11_count_105 : decode cX11_count 105 = .ok (.iconst 0, 1) := by decide +kernel
theorem dX11_count_106 : decode cX11_count 106 = .ok (.iaload, 1) := by decide +kernel
theorem dX11_count_107 : decode cX11_count 107 = .ok (.ireturn, 1) := by decide +kernel
theorem dX11_count_108 : decode cX11_count 108 = .ok (.aload_n 0, 1) := by decide +kernel
theorem dX11_count_109 : decode cX11_count 109 = .ok (.getfield 7, 3) := by decide +kernel
theorem dX11_count_112 : decode cX11_count 112 = .ok (.iconst 1, 1) := by decide +kernel
theorem dX11_count_113 : decode cX11_count 113 = .ok (.iaload, 1) := by decide +kernel
theorem dX11_count_114 : decode cX11_count 114 = .ok (.ireturn, 1) := by decide +kernel
theorem dX11_count_115 : decode cX11_count 115 = .ok (.aload_n 0, 1) := by decide +kernel
theorem dX11_count_116 : decode cX11_count 116 = .ok (.getfield 26, 3) := by decide +kernel
theorem dX11_count_119 : decode cX11_count 119 = .ok (.iconst 3, 1) := by decide +kernel
theorem dX11_count_120 : decode cX11_count 120 = .ok (.iaload, 1) := by decide +kernel
theorem dX11_count_121 : decode cX11_count 121 = .ok (.ireturn, 1) := by decide +kernel
theorem dX11_count_122 : decode cX11_count 122 = .ok (.aload_n 0, 1) := by decide +kernel
theorem dX11_count_123 : decode cX11_count 123 = .ok (.getfield 7, 3) := by decide +kernel
theorem dX11_count_126 : decode cX11_count 126 = .ok (.iconst 2, 1) := by decide +kernel
theorem dX11_count_127 : decode cX11_count 127 = .ok (.iaload, 1) := by decide +kernel
theorem dX11_count_128 : decode cX11_count 128 = .ok (.ireturn, 1) := by decide +kernel
theorem dX11_count_129 : decode cX11_count 129 = .ok (.aload_n 0, 1) := by decide +kernel
theorem dX11_count_130 : decode cX11_count 130 = .ok (.getfield 26, 3) := by decide +kernel
theorem dX11_count_133 : decode cX11_count 133 = .ok (.iconst 2, 1) := by decide +kernel
theorem dX11_count_134 : decode cX11_count 134 = .ok (.iaload, 1) := by decide +kernel
theorem dX11_count_135 : decode cX11_count 135 = .ok (.ireturn, 1) := by decide +kernel
theorem dX11_count_136 : decode cX11_count 136 = .ok (.aload_n 0, 1) := by decide +kernel
theorem dX11_count_137 : decode cX11_count 137 = .ok (.getfield 26, 3) := by decide +kernel
theorem dX11_count_140 : decode cX11_count 140 = .ok (.iconst 4, 1) := by decide +kernel
theorem dX11_count_141 : decode cX11_count 141 = .ok (.iaload, 1) := by decide +kernel
theorem dX11_count_142 : decode cX11_count 142 = .ok (.ireturn, 1) := by decide +kernel
theorem dX11_count_143 : decode cX11_count 143 = .ok (.aload_n 0, 1) := by decide +kernel
theorem dX11_count_144 : decode cX11_count 144 = .ok (.invokevirtual 357, 3) := by decide +kernel
theorem dX11_count_147 : decode cX11_count 147 = .ok (.ireturn, 1) := by decide +kernel
theorem dX11_count_148 : decode cX11_count 148 = .ok (.aload_n 0, 1) := by decide +kernel
theorem dX11_count_149 : decode cX11_count 149 = .ok (.invokevirtual 360, 3) := by decide +kernel
theorem dX11_count_152 : decode cX11_count 152 = .ok (.ireturn, 1) := by decide +kernel
theorem dX11_count_153 : decode cX11_count 153 = .ok (.aload_n 0, 1) := by decide +kernel
theorem dX11_count_154 : decode cX11_count 154 = .ok (.getfield 7, 3) := by decide +kernel
theorem dX11_count_157 : decode cX11_count 157 = .ok (.iload_n 1, 1) := by decide +kernel
theorem dX11_count_158 : decode cX11_count 158 = .ok (.bipush 10, 2) := by decide +kernel
theorem dX11_count_160 : decode cX11_count 160 = .ok (.if_icmp .ne 7, 3) := by decide +kernel
theorem dX11_count_163 : decode cX11_count 163 = .ok (.iconst 3, 1) := by decide +kernel
theorem dX11_count_164 : decode cX11_count 164 = .ok (.goto 4, 3) := by decide +kernel
theorem dX11_count_167 : decode cX11_count 167 = .ok (.iconst 4, 1) := by decide +kernel
theorem dX11_count_168 : decode cX11_count 168 = .ok (.iaload, 1) := by decide +kernel
theorem dX11_count_169 : decode cX11_count 169 = .ok (.ireturn, 1) := by decide +kernel
theorem dX11_isCabin_0 : decode cX11_isCabin 0 = .ok (.iload_n 1, 1) := by decide +kernel
theorem dX11_isCabin_1 : decode cX11_isCabin 1 = .ok (.iconst 0, 1) := by decide +kernel
theorem dX11_isCabin_2 : decode cX11_isCabin 2 = .ok (.aload_n 0, 1) := by decide +kernel
theorem dX11_isCabin_3 : decode cX11_isCabin 3 = .ok (.invokevirtual 324, 3) := by decide +kernel
theorem dX11_isCabin_6 : decode cX11_isCabin 6 = .ok (.iconst 1, 1) := by decide +kernel
theorem dX11_isCabin_7 : decode cX11_isCabin 7 = .ok (.isub, 1) := by decide +kernel
theorem dX11_isCabin_8 : decode cX11_isCabin 8 = .ok (.invokestatic 102, 3) := by decide +kernel
theorem dX11_isCabin_11 : decode cX11_isCabin 11 = .ok (.ireturn, 1) := by decide +kernel
theorem dX11_isMeal_0 : decode cX11_isMeal 0 = .ok (.iload_n 1, 1) := by decide +kernel
theorem dX11_isMeal_1 : decode cX11_isMeal 1 = .ok (.iconst 0, 1) := by decide +kernel
theorem dX11_isMeal_2 : decode cX11_isMeal 2 = .ok (.aload_n 0, 1) := by decide +kernel
theorem dX11_isMeal_3 : decode cX11_isMeal 3 = .ok (.invokevirtual 300, 3) := by decide +kernel
theorem dX11_isMeal_6 : decode cX11_isMeal 6 = .ok (.iconst 1, 1) := by decide +kernel
theorem dX11_isMeal_7 : decode cX11_isMeal 7 = .ok (.isub, 1) := by decide +kernel
theorem dX11_isMeal_8 : decode cX11_isMeal 8 = .ok (.invokestatic 102, 3) := by decide +kernel
theorem dX11_isMeal_11 : decode cX11_isMeal 11 = .ok (.ireturn, 1) := by decide +kernel
theorem dX11_isTrolley_0 : decode cX11_isTrolley 0 = .ok (.iload_n 1, 1) := by decide +kernel
theorem dX11_isTrolley_1 : decode cX11_isTrolley 1 = .ok (.iconst 0, 1) := by decide +kernel
theorem dX11_isTrolley_2 : decode cX11_isTrolley 2 = .ok (.aload_n 0, 1) := by decide +kernel
theorem dX11_isTrolley_3 : decode cX11_isTrolley 3 = .ok (.invokevirtual 330, 3) := by decide +kernel
theorem dX11_isTrolley_6 : decode cX11_isTrolley 6 = .ok (.iconst 1, 1) := by decide +kernel
theorem dX11_isTrolley_7 : decode cX11_isTrolley 7 = .ok (.isub, 1) := by decide +kernel
theorem dX11_isTrolley_8 : decode cX11_isTrolley 8 = .ok (.invokestatic 102, 3) := by decide +kernel
theorem dX11_isTrolley_11 : decode cX11_isTrolley 11 = .ok (.ireturn, 1) := by decide +kernel
theorem dX11_isPassenger_0 : decode cX11_isPassenger 0 = .ok (.iload_n 1, 1) := by decide +kernel
theorem dX11_isPassenger_1 : decode cX11_isPassenger 1 = .ok (.iconst 0, 1) := by decide +kernel
theorem dX11_isPassenger_2 : decode cX11_isPassenger 2 = .ok (.aload_n 0, 1) := by decide +kernel
theorem dX11_isPassenger_3 : decode cX11_isPassenger 3 = .ok (.getfield 26, 3) := by decide +kernel
theorem dX11_isPassenger_6 : decode cX11_isPassenger 6 = .ok (.iconst 3, 1) := by decide +kernel
theorem dX11_isPassenger_7 : decode cX11_isPassenger 7 = .ok (.iaload, 1) := by decide +kernel
theorem dX11_isPassenger_8 : decode cX11_isPassenger 8 = .ok (.iconst 1, 1) := by decide +kernel
theorem dX11_isPassenger_9 : decode cX11_isPassenger 9 = .ok (.isub, 1) := by decide +kernel
theorem dX11_isPassenger_10 : decode cX11_isPassenger 10 = .ok (.invokestatic 102, 3) := by decide +kernel
theorem dX11_isPassenger_13 : decode cX11_isPassenger 13 = .ok (.ireturn, 1) := by decide +kernel
theorem dX11_passengersIn_0 : decode cX11_passengersIn 0 = .ok (.iconst 0, 1) := by decide +kernel
theorem dX11_passengersIn_1 : decode cX11_passengersIn 1 = .ok (.istore_n 3, 1) := by decide +kernel
theorem dX11_passengersIn_2 : decode cX11_passengersIn 2 = .ok (.iconst 0, 1) := by decide +kernel
theorem dX11_passengersIn_3 : decode cX11_passengersIn 3 = .ok (.istore 4, 2) := by decide +kernel
theorem dX11_passengersIn_5 : decode cX11_passengersIn 5 = .ok (.iload 4, 2) := by decide +kernel
theorem dX11_passengersIn_7 : decode cX11_passengersIn 7 = .ok (.aload_n 0, 1) := by decide +kernel
theorem dX11_passengersIn_8 : decode cX11_passengersIn 8 = .ok (.getfield 26, 3) := by decide +kernel
theorem dX11_passengersIn_11 : decode cX11_passengersIn 11 = .ok (.iconst 3, 1) := by decide +kernel
theorem dX11_passengersIn_12 : decode cX11_passengersIn 12 = .ok (.iaload, 1) := by decide +kernel
theorem dX11_passengersIn_13 : decode cX11_passengersIn 13 = .ok (.if_icmp .ge 41, 3) := by decide +kernel
theorem dX11_passengersIn_16 : decode cX11_passengersIn 16 = .ok (.aload_n 0, 1) := by decide +kernel
theorem dX11_passengersIn_17 : decode cX11_passengersIn 17 = .ok (.iload 4, 2) := by decide +kernel
theorem dX11_passengersIn_19 : decode cX11_passengersIn 19 = .ok (.iconst 0, 1) := by decide +kernel
theorem dX11_passengersIn_20 : decode cX11_passengersIn 20 = .ok (.invokevirtual 294, 3) := by decide +kernel
theorem dX11_passengersIn_23 : decode cX11_passengersIn 23 = .ok (.iload_n 1, 1) := by decide +kernel
theorem dX11_passengersIn_24 : decode cX11_passengersIn 24 = .ok (.if_icmp .ne 22, 3) := by decide +kernel
theorem dX11_passengersIn_27 : decode cX11_passengersIn 27 = .ok (.iload_n 2, 1) := by decide +kernel
theorem dX11_passengersIn_28 : decode cX11_passengersIn 28 = .ok (.ifCond .eq 12, 3) := by decide +kernel
theorem dX11_passengersIn_31 : decode cX11_passengersIn 31 = .ok (.aload_n 0, 1) := by decide +kernel
theorem dX11_passengersIn_32 : decode cX11_passengersIn 32 = .ok (.iload 4, 2) := by decide +kernel
theorem dX11_passengersIn_34 : decode cX11_passengersIn 34 = .ok (.invokevirtual 306, 3) := by decide +kernel
theorem dX11_passengersIn_37 : decode cX11_passengersIn 37 = .ok (.ifCond .eq 9, 3) := by decide +kernel
theorem dX11_passengersIn_40 : decode cX11_passengersIn 40 = .ok (.iload_n 3, 1) := by decide +kernel
theorem dX11_passengersIn_41 : decode cX11_passengersIn 41 = .ok (.iconst 1, 1) := by decide +kernel
theorem dX11_passengersIn_42 : decode cX11_passengersIn 42 = .ok (.iadd, 1) := by decide +kernel
theorem dX11_passengersIn_43 : decode cX11_passengersIn 43 = .ok (.goto 4, 3) := by decide +kernel
theorem dX11_passengersIn_46 : decode cX11_passengersIn 46 = .ok (.iload_n 3, 1) := by decide +kernel
theorem dX11_passengersIn_47 : decode cX11_passengersIn 47 = .ok (.istore_n 3, 1) := by decide +kernel
theorem dX11_passengersIn_48 : decode cX11_passengersIn 48 = .ok (.iinc 4 1, 3) := by decide +kernel
theorem dX11_passengersIn_51 : decode cX11_passengersIn 51 = .ok (.goto (-46), 3) := by decide +kernel
theorem dX11_passengersIn_54 : decode cX11_passengersIn 54 = .ok (.iload_n 3, 1) := by decide +kernel
theorem dX11_passengersIn_55 : decode cX11_passengersIn 55 = .ok (.ireturn, 1) := by decide +kernel
theorem dX11_trolleysOf_0 : decode cX11_trolleysOf 0 = .ok (.iconst 0, 1) := by decide +kernel
theorem dX11_trolleysOf_1 : decode cX11_trolleysOf 1 = .ok (.istore_n 3, 1) := by decide +kernel
theorem dX11_trolleysOf_2 : decode cX11_trolleysOf 2 = .ok (.iconst 0, 1) := by decide +kernel
theorem dX11_trolleysOf_3 : decode cX11_trolleysOf 3 = .ok (.istore 4, 2) := by decide +kernel
theorem dX11_trolleysOf_5 : decode cX11_trolleysOf 5 = .ok (.iload 4, 2) := by decide +kernel
theorem dX11_trolleysOf_7 : decode cX11_trolleysOf 7 = .ok (.aload_n 0, 1) := by decide +kernel
theorem dX11_trolleysOf_8 : decode cX11_trolleysOf 8 = .ok (.invokevirtual 330, 3) := by decide +kernel
theorem dX11_trolleysOf_11 : decode cX11_trolleysOf 11 = .ok (.if_icmp .ge 39, 3) := by decide +kernel
theorem dX11_trolleysOf_14 : decode cX11_trolleysOf 14 = .ok (.aload_n 0, 1) := by decide +kernel
theorem dX11_trolleysOf_15 : decode cX11_trolleysOf 15 = .ok (.iload 4, 2) := by decide +kernel
theorem dX11_trolleysOf_17 : decode cX11_trolleysOf 17 = .ok (.iconst 0, 1) := by decide +kernel
theorem dX11_trolleysOf_18 : decode cX11_trolleysOf 18 = .ok (.invokevirtual 342, 3) := by decide +kernel
theorem dX11_trolleysOf_21 : decode cX11_trolleysOf 21 = .ok (.iload_n 1, 1) := by decide +kernel
theorem dX11_trolleysOf_22 : decode cX11_trolleysOf 22 = .ok (.if_icmp .ne 22, 3) := by decide +kernel
theorem dX11_trolleysOf_25 : decode cX11_trolleysOf 25 = .ok (.iload_n 2, 1) := by decide +kernel
theorem dX11_trolleysOf_26 : decode cX11_trolleysOf 26 = .ok (.ifCond .eq 14, 3) := by decide +kernel
theorem dX11_trolleysOf_29 : decode cX11_trolleysOf 29 = .ok (.iload_n 3, 1) := by decide +kernel
theorem dX11_trolleysOf_30 : decode cX11_trolleysOf 30 = .ok (.aload_n 0, 1) := by decide +kernel
theorem dX11_trolleysOf_31 : decode cX11_trolleysOf 31 = .ok (.iload 4, 2) := by decide +kernel
theorem dX11_trolleysOf_33 : decode cX11_trolleysOf 33 = .ok (.invokevirtual 348, 3) := by decide +kernel
theorem dX11_trolleysOf_36 : decode cX11_trolleysOf 36 = .ok (.iadd, 1) := by decide +kernel
theorem dX11_trolleysOf_37 : decode cX11_trolleysOf 37 = .ok (.goto 6, 3) := by decide +kernel
theorem dX11_trolleysOf_40 : decode cX11_trolleysOf 40 = .ok (.iload_n 3, 1) := by decide +kernel
theorem dX11_trolleysOf_41 : decode cX11_trolleysOf 41 = .ok (.iconst 1, 1) := by decide +kernel
theorem dX11_trolleysOf_42 : decode cX11_trolleysOf 42 = .ok (.iadd, 1) := by decide +kernel
theorem dX11_trolleysOf_43 : decode cX11_trolleysOf 43 = .ok (.istore_n 3, 1) := by decide +kernel
theorem dX11_trolleysOf_44 : decode cX11_trolleysOf 44 = .ok (.iinc 4 1, 3) := by decide +kernel
theorem dX11_trolleysOf_47 : decode cX11_trolleysOf 47 = .ok (.goto (-42), 3) := by decide +kernel
theorem dX11_trolleysOf_50 : decode cX11_trolleysOf 50 = .ok (.iload_n 3, 1) := by decide +kernel
theorem dX11_trolleysOf_51 : decode cX11_trolleysOf 51 = .ok (.ireturn, 1) := by decide +kernel
theorem dX11_menuOf_0 : decode cX11_menuOf 0 = .ok (.iconst 0, 1) := by decide +kernel
theorem dX11_menuOf_1 : decode cX11_menuOf 1 = .ok (.istore_n 2, 1) := by decide +kernel
theorem dX11_menuOf_2 : decode cX11_menuOf 2 = .ok (.iconst 0, 1) := by decide +kernel
theorem dX11_menuOf_3 : decode cX11_menuOf 3 = .ok (.istore_n 3, 1) := by decide +kernel
theorem dX11_menuOf_4 : decode cX11_menuOf 4 = .ok (.iload_n 3, 1) := by decide +kernel
theorem dX11_menuOf_5 : decode cX11_menuOf 5 = .ok (.aload_n 0, 1) := by decide +kernel
theorem dX11_menuOf_6 : decode cX11_menuOf 6 = .ok (.invokevirtual 300, 3) := by decide +kernel
theorem dX11_menuOf_9 : decode cX11_menuOf 9 = .ok (.if_icmp .ge 29, 3) := by decide +kernel
theorem dX11_menuOf_12 : decode cX11_menuOf 12 = .ok (.aload_n 0, 1) := by decide +kernel
theorem dX11_menuOf_13 : decode cX11_menuOf 13 = .ok (.iload_n 3, 1) := by decide +kernel
theorem dX11_menuOf_14 : decode cX11_menuOf 14 = .ok (.iconst 0, 1) := by decide +kernel
theorem dX11_menuOf_15 : decode cX11_menuOf 15 = .ok (.invokevirtual 297, 3) := by decide +kernel
theorem dX11_menuOf_18 : decode cX11_menuOf 18 = .ok (.iload_n 1, 1) := by decide +kernel
theorem dX11_menuOf_19 : decode cX11_menuOf 19 = .ok (.if_icmp .ne 11, 3) := by decide +kernel
theorem dX11_menuOf_22 : decode cX11_menuOf 22 = .ok (.iload_n 2, 1) := by decide +kernel
theorem dX11_menuOf_23 : decode cX11_menuOf 23 = .ok (.iconst 1, 1) := by decide +kernel
theorem dX11_menuOf_24 : decode cX11_menuOf 24 = .ok (.iload_n 3, 1) := by decide +kernel
theorem dX11_menuOf_25 : decode cX11_menuOf 25 = .ok (.ishl, 1) := by decide +kernel
theorem dX11_menuOf_26 : decode cX11_menuOf 26 = .ok (.ior, 1) := by decide +kernel
theorem dX11_menuOf_27 : decode cX11_menuOf 27 = .ok (.goto 4, 3) := by decide +kernel
theorem dX11_menuOf_30 : decode cX11_menuOf 30 = .ok (.iload_n 2, 1) := by decide +kernel
theorem dX11_menuOf_31 : decode cX11_menuOf 31 = .ok (.istore_n 2, 1) := by decide +kernel
theorem dX11_menuOf_32 : decode cX11_menuOf 32 = .ok (.iinc 3 1, 3) := by decide +kernel
theorem dX11_menuOf_35 : decode cX11_menuOf 35 = .ok (.goto (-31), 3) := by decide +kernel
theorem dX11_menuOf_38 : decode cX11_menuOf 38 = .ok (.iload_n 2, 1) := by decide +kernel
theorem dX11_menuOf_39 : decode cX11_menuOf 39 = .ok (.ireturn, 1) := by decide +kernel
theorem dX11_orderSlots_0 : decode cX11_orderSlots 0 = .ok (.aload_n 0, 1) := by decide +kernel
theorem dX11_orderSlots_1 : decode cX11_orderSlots 1 = .ok (.invokevirtual 354, 3) := by decide +kernel
theorem dX11_orderSlots_4 : decode cX11_orderSlots 4 = .ok (.iconst 0, 1) := by decide +kernel
theorem dX11_orderSlots_5 : decode cX11_orderSlots 5 = .ok (.istore_n 2, 1) := by decide +kernel
theorem dX11_orderSlots_6 : decode cX11_orderSlots 6 = .ok (.iconst 0, 1) := by decide +kernel
theorem dX11_orderSlots_7 : decode cX11_orderSlots 7 = .ok (.istore_n 3, 1) := by decide +kernel
theorem dX11_orderSlots_8 : decode cX11_orderSlots 8 = .ok (.iload_n 3, 1) := by decide +kernel
theorem dX11_orderSlots_9 : decode cX11_orderSlots 9 = .ok (.aload_n 0, 1) := by decide +kernel
theorem dX11_orderSlots_10 : decode cX11_orderSlots 10 = .ok (.invokevirtual 300, 3) := by decide +kernel
theorem dX11_orderSlots_13 : decode cX11_orderSlots 13 = .ok (.if_icmp .ge 39, 3) := by decide +kernel
theorem dX11_orderSlots_16 : decode cX11_orderSlots 16 = .ok (.aload_n 0, 1) := by decide +kernel
theorem dX11_orderSlots_17 : decode cX11_orderSlots 17 = .ok (.iload_n 3, 1) := by decide +kernel
theorem dX11_orderSlots_18 : decode cX11_orderSlots 18 = .ok (.iconst 0, 1) := by decide +kernel
theorem dX11_orderSlots_19 : decode cX11_orderSlots 19 = .ok (.invokevirtual 297, 3) := by decide +kernel
theorem dX11_orderSlots_22 : decode cX11_orderSlots 22 = .ok (.iload_n 1, 1) := by decide +kernel
theorem dX11_orderSlots_23 : decode cX11_orderSlots 23 = .ok (.if_icmp .ne 21, 3) := by decide +kernel
theorem dX11_orderSlots_26 : decode cX11_orderSlots 26 = .ok (.iload_n 2, 1) := by decide +kernel
theorem dX11_orderSlots_27 : decode cX11_orderSlots 27 = .ok (.aload_n 0, 1) := by decide +kernel
theorem dX11_orderSlots_28 : decode cX11_orderSlots 28 = .ok (.getfield 58, 3) := by decide +kernel
theorem dX11_orderSlots_31 : decode cX11_orderSlots 31 = .ok (.iload_n 3, 1) := by decide +kernel
theorem dX11_orderSlots_32 : decode cX11_orderSlots 32 = .ok (.iaload, 1) := by decide +kernel
theorem dX11_orderSlots_33 : decode cX11_orderSlots 33 = .ok (.aload_n 0, 1) := by decide +kernel
theorem dX11_orderSlots_34 : decode cX11_orderSlots 34 = .ok (.iload_n 3, 1) := by decide +kernel
theorem dX11_orderSlots_35 : decode cX11_orderSlots 35 = .ok (.iconst 2, 1) := by decide +kernel
theorem dX11_orderSlots_36 : decode cX11_orderSlots 36 = .ok (.invokevirtual 297, 3) := by decide +kernel
theorem dX11_orderSlots_39 : decode cX11_orderSlots 39 = .ok (.imul, 1) := by decide +kernel
theorem dX11_orderSlots_40 : decode cX11_orderSlots 40 = .ok (.iadd, 1) := by decide +kernel
theorem dX11_orderSlots_41 : decode cX11_orderSlots 41 = .ok (.goto 4, 3) := by decide +kernel
theorem dX11_orderSlots_44 : decode cX11_orderSlots 44 = .ok (.iload_n 2, 1) := by decide +kernel
theorem dX11_orderSlots_45 : decode cX11_orderSlots 45 = .ok (.istore_n 2, 1) := by decide +kernel
theorem dX11_orderSlots_46 : decode cX11_orderSlots 46 = .ok (.iinc 3 1, 3) := by decide +kernel
theorem dX11_orderSlots_49 : decode cX11_orderSlots 49 = .ok (.goto (-41), 3) := by decide +kernel
theorem dX11_orderSlots_52 : decode cX11_orderSlots 52 = .ok (.iload_n 2, 1) := by decide +kernel
theorem dX11_orderSlots_53 : decode cX11_orderSlots 53 = .ok (.ireturn, 1) := by decide +kernel
theorem dX11_cabin_0 : decode cX11_cabin 0 = .ok (.aload_n 0, 1) := by decide +kernel
theorem dX11_cabin_1 : decode cX11_cabin 1 = .ok (.aload_n 0, 1) := by decide +kernel
theorem dX11_cabin_2 : decode cX11_cabin 2 = .ok (.iload_n 1, 1) := by decide +kernel
theorem dX11_cabin_3 : decode cX11_cabin 3 = .ok (.invokevirtual 363, 3) := by decide +kernel
theorem dX11_cabin_6 : decode cX11_cabin 6 = .ok (.ifCond .ne 7, 3) := by decide +kernel
theorem dX11_cabin_9 : decode cX11_cabin 9 = .ok (.iconst 1, 1) := by decide +kernel
theorem dX11_cabin_10 : decode cX11_cabin 10 = .ok (.goto 18, 3) := by decide +kernel
theorem dX11_cabin_13 : decode cX11_cabin 13 = .ok (.iload_n 2, 1) := by decide +kernel
theorem dX11_cabin_14 : decode cX11_cabin 14 = .ok (.iconst 0, 1) := by decide +kernel
theorem dX11_cabin_15 : decode cX11_cabin 15 = .ok (.bipush 7, 2) := by decide +kernel
theorem dX11_cabin_17 : decode cX11_cabin 17 = .ok (.invokestatic 102, 3) := by decide +kernel
theorem dX11_cabin_20 : decode cX11_cabin 20 = .ok (.ifCond .eq 7, 3) := by decide +kernel
theorem dX11_cabin_23 : decode cX11_cabin 23 = .ok (.iconst 0, 1) := by decide +kernel
theorem dX11_cabin_24 : decode cX11_cabin 24 = .ok (.goto 4, 3) := by decide +kernel
theorem dX11_cabin_27 : decode cX11_cabin 27 = .ok (.iconst 2, 1) := by decide +kernel
theorem dX11_cabin_28 : decode cX11_cabin 28 = .ok (.invokevirtual 98, 3) := by decide +kernel
theorem dX11_cabin_31 : decode cX11_cabin 31 = .ok (.ifCond .eq 5, 3) := by decide +kernel
theorem dX11_cabin_34 : decode cX11_cabin 34 = .ok (.iconst 0, 1) := by decide +kernel
theorem dX11_cabin_35 : decode cX11_cabin 35 = .ok (.ireturn, 1) := by decide +kernel
theorem dX11_cabin_36 : decode cX11_cabin 36 = .ok (.iload_n 2, 1) := by decide +kernel
theorem dX11_cabin_37 : decode cX11_cabin 37 = .ok (.tableswitch 88 0 6 #[43, 43, 50, 50, 66, 66, 82], 43) := by decide +kernel
theorem dX11_cabin_80 : decode cX11_cabin 80 = .ok (.aload_n 0, 1) := by decide +kernel
theorem dX11_cabin_81 : decode cX11_cabin 81 = .ok (.iload_n 1, 1) := by decide +kernel
theorem dX11_cabin_82 : decode cX11_cabin 82 = .ok (.iload_n 2, 1) := by decide +kernel
theorem dX11_cabin_83 : decode cX11_cabin 83 = .ok (.invokevirtual 315, 3) := by decide +kernel
theorem dX11_cabin_86 : decode cX11_cabin 86 = .ok (.ireturn, 1) := by decide +kernel
theorem dX11_cabin_87 : decode cX11_cabin 87 = .ok (.aload_n 0, 1) := by decide +kernel
theorem dX11_cabin_88 : decode cX11_cabin 88 = .ok (.iload_n 1, 1) := by decide +kernel
theorem dX11_cabin_89 : decode cX11_cabin 89 = .ok (.iload_n 2, 1) := by decide +kernel
theorem dX11_cabin_90 : decode cX11_cabin 90 = .ok (.iconst 3, 1) := by decide +kernel
theorem dX11_cabin_91 : decode cX11_cabin 91 = .ok (.if_icmp .ne 7, 3) := by decide +kernel
theorem dX11_cabin_94 : decode cX11_cabin 94 = .ok (.iconst 1, 1) := by decide +kernel
theorem dX11_cabin_95 : decode cX11_cabin 95 = .ok (.goto 4, 3) := by decide +kernel
theorem dX11_cabin_98 : decode cX11_cabin 98 = .ok (.iconst 0, 1) := by decide +kernel
theorem dX11_cabin_99 : decode cX11_cabin 99 = .ok (.invokevirtual 366, 3) := by decide +kernel
theorem dX11_cabin_102 : decode cX11_cabin 102 = .ok (.ireturn, 1) := by decide +kernel
theorem dX11_cabin_103 : decode cX11_cabin 103 = .ok (.aload_n 0, 1) := by decide +kernel
theorem dX11_cabin_104 : decode cX11_cabin 104 = .ok (.iload_n 1, 1) := by decide +kernel
theorem dX11_cabin_105 : decode cX11_cabin 105 = .ok (.iload_n 2, 1) := by decide +kernel
theorem dX11_cabin_106 : decode cX11_cabin 106 = .ok (.iconst 5, 1) := by decide +kernel
theorem dX11_cabin_107 : decode cX11_cabin 107 = .ok (.if_icmp .ne 7, 3) := by decide +kernel
theorem dX11_cabin_110 : decode cX11_cabin 110 = .ok (.iconst 1, 1) := by decide +kernel
theorem dX11_cabin_111 : decode cX11_cabin 111 = .ok (.goto 4, 3) := by decide +kernel
theorem dX11_cabin_114 : decode cX11_cabin 114 = .ok (.iconst 0, 1) := by decide +kernel
theorem dX11_cabin_115 : decode cX11_cabin 115 = .ok (.invokevirtual 370, 3) := by decide +kernel
theorem dX11_cabin_118 : decode cX11_cabin 118 = .ok (.ireturn, 1) := by decide +kernel
theorem dX11_cabin_119 : decode cX11_cabin 119 = .ok (.aload_n 0, 1) := by decide +kernel
theorem dX11_cabin_120 : decode cX11_cabin 120 = .ok (.iload_n 1, 1) := by decide +kernel
theorem dX11_cabin_121 : decode cX11_cabin 121 = .ok (.invokevirtual 373, 3) := by decide +kernel
theorem dX11_cabin_124 : decode cX11_cabin 124 = .ok (.ireturn, 1) := by decide +kernel
theorem dX11_cabin_125 : decode cX11_cabin 125 = .ok (.aload_n 0, 1) := by decide +kernel
theorem dX11_cabin_126 : decode cX11_cabin 126 = .ok (.iload_n 1, 1) := by decide +kernel
theorem dX11_cabin_127 : decode cX11_cabin 127 = .ok (.invokevirtual 376, 3) := by decide +kernel
theorem dX11_cabin_130 : decode cX11_cabin 130 = .ok (.ireturn, 1) := by decide +kernel
theorem dX11_meal_0 : decode cX11_meal 0 = .ok (.aload_n 0, 1) := by decide +kernel
theorem dX11_meal_1 : decode cX11_meal 1 = .ok (.aload_n 0, 1) := by decide +kernel
theorem dX11_meal_2 : decode cX11_meal 2 = .ok (.iload_n 1, 1) := by decide +kernel
theorem dX11_meal_3 : decode cX11_meal 3 = .ok (.invokevirtual 379, 3) := by decide +kernel
theorem dX11_meal_6 : decode cX11_meal 6 = .ok (.ifCond .ne 7, 3) := by decide +kernel
theorem dX11_meal_9 : decode cX11_meal 9 = .ok (.iconst 1, 1) := by decide +kernel
theorem dX11_meal_10 : decode cX11_meal 10 = .ok (.goto 18, 3) := by decide +kernel
theorem dX11_meal_13 : decode cX11_meal 13 = .ok (.iload_n 2, 1) := by decide +kernel
theorem dX11_meal_14 : decode cX11_meal 14 = .ok (.iconst 0, 1) := by decide +kernel
theorem dX11_meal_15 : decode cX11_meal 15 = .ok (.bipush 9, 2) := by decide +kernel
theorem dX11_meal_17 : decode cX11_meal 17 = .ok (.invokestatic 102, 3) := by decide +kernel
theorem dX11_meal_20 : decode cX11_meal 20 = .ok (.ifCond .eq 7, 3) := by decide +kernel
theorem dX11_meal_23 : decode cX11_meal 23 = .ok (.iconst 0, 1) := by decide +kernel
theorem dX11_meal_24 : decode cX11_meal 24 = .ok (.goto 4, 3) := by decide +kernel
theorem dX11_meal_27 : decode cX11_meal 27 = .ok (.iconst 2, 1) := by decide +kernel
theorem dX11_meal_28 : decode cX11_meal 28 = .ok (.invokevirtual 98, 3) := by decide +kernel
theorem dX11_meal_31 : decode cX11_meal 31 = .ok (.ifCond .eq 5, 3) := by decide +kernel
theorem dX11_meal_34 : decode cX11_meal 34 = .ok (.iconst 0, 1) := by decide +kernel
theorem dX11_meal_35 : decode cX11_meal 35 = .ok (.ireturn, 1) := by decide +kernel
theorem dX11_meal_36 : decode cX11_meal 36 = .ok (.aload_n 0, 1) := by decide +kernel
theorem dX11_meal_37 : decode cX11_meal 37 = .ok (.invokevirtual 354, 3) := by decide +kernel
theorem dX11_meal_40 : decode cX11_meal 40 = .ok (.iload_n 2, 1) := by decide +kernel
theorem dX11_meal_41 : decode cX11_meal 41 = .ok (.tableswitch 71 5 9 #[35, 41, 48, 54, 65], 35) := by decide +kernel
theorem dX11_meal_76 : decode cX11_meal 76 = .ok (.aload_n 0, 1) := by decide +kernel
theorem dX11_meal_77 : decode cX11_meal 77 = .ok (.iload_n 1, 1) := by decide +kernel
theorem dX11_meal_78 : decode cX11_meal 78 = .ok (.invokevirtual 336, 3) := by decide +kernel
theorem dX11_meal_81 : decode cX11_meal 81 = .ok (.ireturn, 1) := by decide +kernel
theorem dX11_meal_82 : decode cX11_meal 82 = .ok (.aload_n 0, 1) := by decide +kernel
theorem dX11_meal_83 : decode cX11_meal 83 = .ok (.getfield 58, 3) := by decide +kernel
theorem dX11_meal_86 : decode cX11_meal 86 = .ok (.iload_n 1, 1) := by decide +kernel
theorem dX11_meal_87 : decode cX11_meal 87 = .ok (.iaload, 1) := by decide +kernel
theorem dX11_meal_88 : decode cX11_meal 88 = .ok (.ireturn, 1) := by decide +kernel
theorem dX11_meal_89 : decode cX11_meal 89 = .ok (.aload_n 0, 1) := by decide +kernel
theorem dX11_meal_90 : decode cX11_meal 90 = .ok (.iload_n 1, 1) := by decide +kernel
theorem dX11_meal_91 : decode cX11_meal 91 = .ok (.invokevirtual 339, 3) := by decide +kernel
theorem dX11_meal_94 : decode cX11_meal 94 = .ok (.ireturn, 1) := by decide +kernel
theorem dX11_meal_95 : decode cX11_meal 95 = .ok (.aload_n 0, 1) := by decide +kernel
theorem dX11_meal_96 : decode cX11_meal 96 = .ok (.getfield 26, 3) := by decide +kernel
theorem dX11_meal_99 : decode cX11_meal 99 = .ok (.sipush 279, 3) := by decide +kernel
theorem dX11_meal_102 : decode cX11_meal 102 = .ok (.iload_n 1, 1) := by decide +kernel
theorem dX11_meal_103 : decode cX11_meal 103 = .ok (.iadd, 1) := by decide +kernel
theorem dX11_meal_104 : decode cX11_meal 104 = .ok (.iaload, 1) := by decide +kernel
theorem dX11_meal_105 : decode cX11_meal 105 = .ok (.ireturn, 1) := by decide +kernel
theorem dX11_meal_106 : decode cX11_meal 106 = .ok (.aload_n 0, 1) := by decide +kernel
theorem dX11_meal_107 : decode cX11_meal 107 = .ok (.iload_n 1, 1) := by decide +kernel
theorem dX11_meal_108 : decode cX11_meal 108 = .ok (.invokevirtual 382, 3) := by decide +kernel
theorem dX11_meal_111 : decode cX11_meal 111 = .ok (.ireturn, 1) := by decide +kernel
theorem dX11_meal_112 : decode cX11_meal 112 = .ok (.aload_n 0, 1) := by decide +kernel
theorem dX11_meal_113 : decode cX11_meal 113 = .ok (.iload_n 1, 1) := by decide +kernel
theorem dX11_meal_114 : decode cX11_meal 114 = .ok (.iload_n 2, 1) := by decide +kernel
theorem dX11_meal_115 : decode cX11_meal 115 = .ok (.invokevirtual 297, 3) := by decide +kernel
theorem dX11_meal_118 : decode cX11_meal 118 = .ok (.ireturn, 1) := by decide +kernel
theorem dX11_passenger_0 : decode cX11_passenger 0 = .ok (.aload_n 0, 1) := by decide +kernel
theorem dX11_passenger_1 : decode cX11_passenger 1 = .ok (.aload_n 0, 1) := by decide +kernel
theorem dX11_passenger_2 : decode cX11_passenger 2 = .ok (.iload_n 1, 1) := by decide +kernel
theorem dX11_passenger_3 : decode cX11_passenger 3 = .ok (.invokevirtual 385, 3) := by decide +kernel
theorem dX11_passenger_6 : decode cX11_passenger 6 = .ok (.ifCond .ne 7, 3) := by decide +kernel
theorem dX11_passenger_9 : decode cX11_passenger 9 = .ok (.iconst 1, 1) := by decide +kernel
theorem dX11_passenger_10 : decode cX11_passenger 10 = .ok (.goto 17, 3) := by decide +kernel
theorem dX11_passenger_13 : decode cX11_passenger 13 = .ok (.iload_n 2, 1) := by decide +kernel
theorem dX11_passenger_14 : decode cX11_passenger 14 = .ok (.iconst 0, 1) := by decide +kernel
theorem dX11_passenger_15 : decode cX11_passenger 15 = .ok (.iconst 5, 1) := by decide +kernel
theorem dX11_passenger_16 : decode cX11_passenger 16 = .ok (.invokestatic 102, 3) := by decide +kernel
theorem dX11_passenger_19 : decode cX11_passenger 19 = .ok (.ifCond .eq 7, 3) := by decide +kernel
theorem dX11_passenger_22 : decode cX11_passenger 22 = .ok (.iconst 0, 1) := by decide +kernel
theorem dX11_passenger_23 : decode cX11_passenger 23 = .ok (.goto 4, 3) := by decide +kernel
theorem dX11_passenger_26 : decode cX11_passenger 26 = .ok (.iconst 2, 1) := by decide +kernel
theorem dX11_passenger_27 : decode cX11_passenger 27 = .ok (.invokevirtual 98, 3) := by decide +kernel
theorem dX11_passenger_30 : decode cX11_passenger 30 = .ok (.ifCond .eq 5, 3) := by decide +kernel
theorem dX11_passenger_33 : decode cX11_passenger 33 = .ok (.iconst 0, 1) := by decide +kernel
theorem dX11_passenger_34 : decode cX11_passenger 34 = .ok (.ireturn, 1) := by decide +kernel
theorem dX11_passenger_35 : decode cX11_passenger 35 = .ok (.iload_n 2, 1) := by decide +kernel
theorem dX11_passenger_36 : decode cX11_passenger 36 = .ok (.iconst 4, 1) := by decide +kernel
theorem dX11_passenger_37 : decode cX11_passenger 37 = .ok (.if_icmp .ne 9, 3) := by decide +kernel
theorem dX11_passenger_40 : decode cX11_passenger 40 = .ok (.aload_n 0, 1) := by decide +kernel
theorem dX11_passenger_41 : decode cX11_passenger 41 = .ok (.iload_n 1, 1) := by decide +kernel
theorem dX11_passenger_42 : decode cX11_passenger 42 = .ok (.invokevirtual 388, 3) := by decide +kernel
theorem dX11_passenger_45 : decode cX11_passenger 45 = .ok (.ireturn, 1) := by decide +kernel
theorem dX11_passenger_46 : decode cX11_passenger 46 = .ok (.iload_n 2, 1) := by decide +kernel
theorem dX11_passenger_47 : decode cX11_passenger 47 = .ok (.iconst 5, 1) := by decide +kernel
theorem dX11_passenger_48 : decode cX11_passenger 48 = .ok (.if_icmp .ne 11, 3) := by decide +kernel
theorem dX11_passenger_51 : decode cX11_passenger 51 = .ok (.aload_n 0, 1) := by decide +kernel
theorem dX11_passenger_52 : decode cX11_passenger 52 = .ok (.iload_n 1, 1) := by decide +kernel
theorem dX11_passenger_53 : decode cX11_passenger 53 = .ok (.invokevirtual 321, 3) := by decide +kernel
theorem dX11_passenger_56 : decode cX11_passenger 56 = .ok (.goto 9, 3) := by decide +kernel
theorem dX11_passenger_59 : decode cX11_passenger 59 = .ok (.aload_n 0, 1) := by decide +kernel
theorem dX11_passenger_60 : decode cX11_passenger 60 = .ok (.iload_n 1, 1) := by decide +kernel
theorem dX11_passenger_61 : decode cX11_passenger 61 = .ok (.iload_n 2, 1) := by decide +kernel
theorem dX11_passenger_62 : decode cX11_passenger 62 = .ok (.invokevirtual 294, 3) := by decide +kernel
theorem dX11_passenger_65 : decode cX11_passenger 65 = .ok (.ireturn, 1) := by decide +kernel
theorem dX11_trolley_0 : decode cX11_trolley 0 = .ok (.aload_n 0, 1) := by decide +kernel
theorem dX11_trolley_1 : decode cX11_trolley 1 = .ok (.aload_n 0, 1) := by decide +kernel
theorem dX11_trolley_2 : decode cX11_trolley 2 = .ok (.iload_n 1, 1) := by decide +kernel
theorem dX11_trolley_3 : decode cX11_trolley 3 = .ok (.invokevirtual 391, 3) := by decide +kernel
theorem dX11_trolley_6 : decode cX11_trolley 6 = .ok (.ifCond .ne 7, 3) := by decide +kernel
theorem dX11_trolley_9 : decode cX11_trolley 9 = .ok (.iconst 1, 1) := by decide +kernel
theorem dX11_trolley_10 : decode cX11_trolley 10 = .ok (.goto 17, 3) := by decide +kernel
theorem dX11_trolley_13 : decode cX11_trolley 13 = .ok (.iload_n 2, 1) := by decide +kernel
theorem dX11_trolley_14 : decode cX11_trolley 14 = .ok (.iconst 0, 1) := by decide +kernel
theorem dX11_trolley_15 : decode cX11_trolley 15 = .ok (.iconst 3, 1) := by decide +kernel
theorem dX11_trolley_16 : decode cX11_trolley 16 = .ok (.invokestatic 102, 3) := by decide +kernel
theorem dX11_trolley_19 : decode cX11_trolley 19 = .ok (.ifCond .eq 7, 3) := by decide +kernel
theorem dX11_trolley_22 : decode cX11_trolley 22 = .ok (.iconst 0, 1) := by decide +kernel
theorem dX11_trolley_23 : decode cX11_trolley 23 = .ok (.goto 4, 3) := by decide +kernel
theorem dX11_trolley_26 : decode cX11_trolley 26 = .ok (.iconst 2, 1) := by decide +kernel
theorem dX11_trolley_27 : decode cX11_trolley 27 = .ok (.invokevirtual 98, 3) := by decide +kernel
theorem dX11_trolley_30 : decode cX11_trolley 30 = .ok (.ifCond .eq 5, 3) := by decide +kernel
theorem dX11_trolley_33 : decode cX11_trolley 33 = .ok (.iconst 0, 1) := by decide +kernel
theorem dX11_trolley_34 : decode cX11_trolley 34 = .ok (.ireturn, 1) := by decide +kernel
theorem dX11_trolley_35 : decode cX11_trolley 35 = .ok (.iload_n 2, 1) := by decide +kernel
theorem dX11_trolley_36 : decode cX11_trolley 36 = .ok (.iconst 2, 1) := by decide +kernel
theorem dX11_trolley_37 : decode cX11_trolley 37 = .ok (.if_icmp .ge 10, 3) := by decide +kernel
theorem dX11_trolley_40 : decode cX11_trolley 40 = .ok (.aload_n 0, 1) := by decide +kernel
theorem dX11_trolley_41 : decode cX11_trolley 41 = .ok (.iload_n 1, 1) := by decide +kernel
theorem dX11_trolley_42 : decode cX11_trolley 42 = .ok (.iload_n 2, 1) := by decide +kernel
theorem dX11_trolley_43 : decode cX11_trolley 43 = .ok (.invokevirtual 342, 3) := by decide +kernel
theorem dX11_trolley_46 : decode cX11_trolley 46 = .ok (.ireturn, 1) := by decide +kernel
theorem dX11_trolley_47 : decode cX11_trolley 47 = .ok (.iload_n 2, 1) := by decide +kernel
theorem dX11_trolley_48 : decode cX11_trolley 48 = .ok (.iconst 2, 1) := by decide +kernel
theorem dX11_trolley_49 : decode cX11_trolley 49 = .ok (.if_icmp .ne 11, 3) := by decide +kernel
theorem dX11_trolley_52 : decode cX11_trolley 52 = .ok (.aload_n 0, 1) := by decide +kernel
theorem dX11_trolley_53 : decode cX11_trolley 53 = .ok (.iload_n 1, 1) := by decide +kernel
theorem dX11_trolley_54 : decode cX11_trolley 54 = .ok (.invokevirtual 348, 3) := by decide +kernel
theorem dX11_trolley_57 : decode cX11_trolley 57 = .ok (.goto 8, 3) := by decide +kernel
theorem dX11_trolley_60 : decode cX11_trolley 60 = .ok (.aload_n 0, 1) := by decide +kernel
theorem dX11_trolley_61 : decode cX11_trolley 61 = .ok (.iload_n 1, 1) := by decide +kernel
theorem dX11_trolley_62 : decode cX11_trolley 62 = .ok (.invokevirtual 394, 3) := by decide +kernel
theorem dX11_trolley_65 : decode cX11_trolley 65 = .ok (.ireturn, 1) := by decide +kernel
theorem dX11_held_0 : decode cX11_held 0 = .ok (.aload_n 0, 1) := by decide +kernel
theorem dX11_held_1 : decode cX11_held 1 = .ok (.aload_n 0, 1) := by decide +kernel
theorem dX11_held_2 : decode cX11_held 2 = .ok (.iload_n 1, 1) := by decide +kernel
theorem dX11_held_3 : decode cX11_held 3 = .ok (.invokevirtual 391, 3) := by decide +kernel
theorem dX11_held_6 : decode cX11_held 6 = .ok (.ifCond .eq 15, 3) := by decide +kernel
theorem dX11_held_9 : decode cX11_held 9 = .ok (.aload_n 0, 1) := by decide +kernel
theorem dX11_held_10 : decode cX11_held 10 = .ok (.iload_n 2, 1) := by decide +kernel
theorem dX11_held_11 : decode cX11_held 11 = .ok (.invokevirtual 379, 3) := by decide +kernel
theorem dX11_held_14 : decode cX11_held 14 = .ok (.ifCond .eq 7, 3) := by decide +kernel
theorem dX11_held_17 : decode cX11_held 17 = .ok (.iconst 0, 1) := by decide +kernel
theorem dX11_held_18 : decode cX11_held 18 = .ok (.goto 4, 3) := by decide +kernel
theorem dX11_held_21 : decode cX11_held 21 = .ok (.iconst 1, 1) := by decide +kernel
theorem dX11_held_22 : decode cX11_held 22 = .ok (.invokevirtual 98, 3) := by decide +kernel
theorem dX11_held_25 : decode cX11_held 25 = .ok (.ifCond .eq 5, 3) := by decide +kernel
theorem dX11_held_28 : decode cX11_held 28 = .ok (.iconst 0, 1) := by decide +kernel
theorem dX11_held_29 : decode cX11_held 29 = .ok (.ireturn, 1) := by decide +kernel
theorem dX11_held_30 : decode cX11_held 30 = .ok (.aload_n 0, 1) := by decide +kernel
theorem dX11_held_31 : decode cX11_held 31 = .ok (.getfield 26, 3) := by decide +kernel
theorem dX11_held_34 : decode cX11_held 34 = .ok (.iload_n 1, 1) := by decide +kernel
theorem dX11_held_35 : decode cX11_held 35 = .ok (.iload_n 2, 1) := by decide +kernel
theorem dX11_held_36 : decode cX11_held 36 = .ok (.invokestatic 333, 3) := by decide +kernel
theorem dX11_held_39 : decode cX11_held 39 = .ok (.iaload, 1) := by decide +kernel
theorem dX11_held_40 : decode cX11_held 40 = .ok (.ireturn, 1) := by decide +kernel
theorem dX11_topUpAt_0 : decode cX11_topUpAt 0 = .ok (.aload_n 0, 1) := by decide +kernel
theorem dX11_topUpAt_1 : decode cX11_topUpAt 1 = .ok (.iload_n 1, 1) := by decide +kernel
theorem dX11_topUpAt_2 : decode cX11_topUpAt 2 = .ok (.iconst 0, 1) := by decide +kernel
theorem dX11_topUpAt_3 : decode cX11_topUpAt 3 = .ok (.aload_n 0, 1) := by decide +kernel
theorem dX11_topUpAt_4 : decode cX11_topUpAt 4 = .ok (.getfield 26, 3) := by decide +kernel
theorem dX11_topUpAt_7 : decode cX11_topUpAt 7 = .ok (.iconst 4, 1) := by decide +kernel
theorem dX11_topUpAt_8 : decode cX11_topUpAt 8 = .ok (.iaload, 1) := by decide +kernel
theorem dX11_topUpAt_9 : decode cX11_topUpAt 9 = .ok (.iconst 1, 1) := by decide +kernel
theorem dX11_topUpAt_10 : decode cX11_topUpAt 10 = .ok (.isub, 1) := by decide +kernel
theorem dX11_topUpAt_11 : decode cX11_topUpAt 11 = .ok (.invokestatic 102, 3) := by decide +kernel
theorem dX11_topUpAt_14 : decode cX11_topUpAt 14 = .ok (.ifCond .ne 7, 3) := by decide +kernel
theorem dX11_topUpAt_17 : decode cX11_topUpAt 17 = .ok (.iconst 1, 1) := by decide +kernel
theorem dX11_topUpAt_18 : decode cX11_topUpAt 18 = .ok (.goto 17, 3) := by decide +kernel
theorem dX11_topUpAt_21 : decode cX11_topUpAt 21 = .ok (.iload_n 2, 1) := by decide +kernel
theorem dX11_topUpAt_22 : decode cX11_topUpAt 22 = .ok (.iconst 0, 1) := by decide +kernel
theorem dX11_topUpAt_23 : decode cX11_topUpAt 23 = .ok (.iconst 2, 1) := by decide +kernel
theorem dX11_topUpAt_24 : decode cX11_topUpAt 24 = .ok (.invokestatic 102, 3) := by decide +kernel
theorem dX11_topUpAt_27 : decode cX11_topUpAt 27 = .ok (.ifCond .eq 7, 3) := by decide +kernel
theorem dX11_topUpAt_30 : decode cX11_topUpAt 30 = .ok (.iconst 0, 1) := by decide +kernel
theorem dX11_topUpAt_31 : decode cX11_topUpAt 31 = .ok (.goto 4, 3) := by decide +kernel
theorem dX11_topUpAt_34 : decode cX11_topUpAt 34 = .ok (.iconst 2, 1) := by decide +kernel
theorem dX11_topUpAt_35 : decode cX11_topUpAt 35 = .ok (.invokevirtual 98, 3) := by decide +kernel
theorem dX11_topUpAt_38 : decode cX11_topUpAt 38 = .ok (.ifCond .eq 5, 3) := by decide +kernel
theorem dX11_topUpAt_41 : decode cX11_topUpAt 41 = .ok (.iconst 0, 1) := by decide +kernel
theorem dX11_topUpAt_42 : decode cX11_topUpAt 42 = .ok (.ireturn, 1) := by decide +kernel
theorem dX11_topUpAt_43 : decode cX11_topUpAt 43 = .ok (.aload_n 0, 1) := by decide +kernel
theorem dX11_topUpAt_44 : decode cX11_topUpAt 44 = .ok (.getfield 26, 3) := by decide +kernel
theorem dX11_topUpAt_47 : decode cX11_topUpAt 47 = .ok (.sipush 261, 3) := by decide +kernel
theorem dX11_topUpAt_50 : decode cX11_topUpAt 50 = .ok (.iconst 3, 1) := by decide +kernel
theorem dX11_topUpAt_51 : decode cX11_topUpAt 51 = .ok (.iload_n 1, 1) := by decide +kernel
theorem dX11_topUpAt_52 : decode cX11_topUpAt 52 = .ok (.imul, 1) := by decide +kernel
theorem dX11_topUpAt_53 : decode cX11_topUpAt 53 = .ok (.iadd, 1) := by decide +kernel
theorem dX11_topUpAt_54 : decode cX11_topUpAt 54 = .ok (.iload_n 2, 1) := by decide +kernel
theorem dX11_topUpAt_55 : decode cX11_topUpAt 55 = .ok (.iadd, 1) := by decide +kernel
theorem dX11_topUpAt_56 : decode cX11_topUpAt 56 = .ok (.iaload, 1) := by decide +kernel
theorem dX11_topUpAt_57 : decode cX11_topUpAt 57 = .ok (.ireturn, 1) := by decide +kernel
theorem dX11_refuses_0 : decode cX11_refuses 0 = .ok (.iload_n 1, 1) := by decide +kernel
theorem dX11_refuses_1 : decode cX11_refuses 1 = .ok (.ifCond .le 8, 3) := by decide +kernel
theorem dX11_refuses_4 : decode cX11_refuses 4 = .ok (.aload_n 0, 1) := by decide +kernel
theorem dX11_refuses_5 : decode cX11_refuses 5 = .ok (.iload_n 1, 1) := by decide +kernel
theorem dX11_refuses_6 : decode cX11_refuses 6 = .ok (.putfield 285, 3) := by decide +kernel
theorem dX11_refuses_9 : decode cX11_refuses 9 = .ok (.aload_n 0, 1) := by decide +kernel
theorem dX11_refuses_10 : decode cX11_refuses 10 = .ok (.iload_n 1, 1) := by decide +kernel
theorem dX11_refuses_11 : decode cX11_refuses 11 = .ok (.ifCond .le 7, 3) := by decide +kernel
theorem dX11_refuses_14 : decode cX11_refuses 14 = .ok (.iload_n 2, 1) := by decide +kernel
theorem dX11_refuses_15 : decode cX11_refuses 15 = .ok (.goto 4, 3) := by decide +kernel
theorem dX11_refuses_18 : decode cX11_refuses 18 = .ok (.iconst 0, 1) := by decide +kernel
theorem dX11_refuses_19 : decode cX11_refuses 19 = .ok (.invokevirtual 98, 3) := by decide +kernel
theorem dX11_refuses_22 : decode cX11_refuses 22 = .ok (.ireturn, 1) := by decide +kernel
theorem dX11_isGoing_0 : decode cX11_isGoing 0 = .ok (.aload_n 0, 1) := by decide +kernel
theorem dX11_isGoing_1 : decode cX11_isGoing 1 = .ok (.invokevirtual 106, 3) := by decide +kernel
theorem dX11_isGoing_4 : decode cX11_isGoing 4 = .ok (.iconst 1, 1) := by decide +kernel
theorem dX11_isGoing_5 : decode cX11_isGoing 5 = .ok (.iconst 2, 1) := by decide +kernel
theorem dX11_isGoing_6 : decode cX11_isGoing 6 = .ok (.invokestatic 102, 3) := by decide +kernel
theorem dX11_isGoing_9 : decode cX11_isGoing 9 = .ok (.ireturn, 1) := by decide +kernel
theorem dX11_hasSeat_0 : decode cX11_hasSeat 0 = .ok (.aload_n 0, 1) := by decide +kernel
theorem dX11_hasSeat_1 : decode cX11_hasSeat 1 = .ok (.iload_n 1, 1) := by decide +kernel
theorem dX11_hasSeat_2 : decode cX11_hasSeat 2 = .ok (.iconst 0, 1) := by decide +kernel
theorem dX11_hasSeat_3 : decode cX11_hasSeat 3 = .ok (.invokevirtual 366, 3) := by decide +kernel
theorem dX11_hasSeat_6 : decode cX11_hasSeat 6 = .ok (.aload_n 0, 1) := by decide +kernel
theorem dX11_hasSeat_7 : decode cX11_hasSeat 7 = .ok (.iload_n 1, 1) := by decide +kernel
theorem dX11_hasSeat_8 : decode cX11_hasSeat 8 = .ok (.iconst 0, 1) := by decide +kernel
theorem dX11_hasSeat_9 : decode cX11_hasSeat 9 = .ok (.invokevirtual 315, 3) := by decide +kernel
theorem dX11_hasSeat_12 : decode cX11_hasSeat 12 = .ok (.if_icmp .ge 7, 3) := by decide +kernel
theorem dX11_hasSeat_15 : decode cX11_hasSeat 15 = .ok (.iconst 1, 1) := by decide +kernel
theorem dX11_hasSeat_16 : decode cX11_hasSeat 16 = .ok (.goto 4, 3) := by decide +kernel
theorem dX11_hasSeat_19 : decode cX11_hasSeat 19 = .ok (.iconst 0, 1) := by decide +kernel
theorem dX11_hasSeat_20 : decode cX11_hasSeat 20 = .ok (.ireturn, 1) := by decide +kernel
theorem dX11_wrongBoarding_0 : decode cX11_wrongBoarding 0 = .ok (.aload_n 0, 1) := by decide +kernel
theorem dX11_wrongBoarding_1 : decode cX11_wrongBoarding 1 = .ok (.iload_n 1, 1) := by decide +kernel
theorem dX11_wrongBoarding_2 : decode cX11_wrongBoarding 2 = .ok (.invokevirtual 363, 3) := by decide +kernel
theorem dX11_wrongBoarding_5 : decode cX11_wrongBoarding 5 = .ok (.ifCond .eq 16, 3) := by decide +kernel
theorem dX11_wrongBoarding_8 : decode cX11_wrongBoarding 8 = .ok (.iload_n 3, 1) := by decide +kernel
theorem dX11_wrongBoarding_9 : decode cX11_wrongBoarding 9 = .ok (.iconst (-1), 1) := by decide +kernel
theorem dX11_wrongBoarding_10 : decode cX11_wrongBoarding 10 = .ok (.if_icmp .eq 13, 3) := by decide +kernel
theorem dX11_wrongBoarding_13 : decode cX11_wrongBoarding 13 = .ok (.aload_n 0, 1) := by decide +kernel
theorem dX11_wrongBoarding_14 : decode cX11_wrongBoarding 14 = .ok (.iload_n 3, 1) := by decide +kernel
theorem dX11_wrongBoarding_15 : decode cX11_wrongBoarding 15 = .ok (.invokevirtual 379, 3) := by decide +kernel
theorem dX11_wrongBoarding_18 : decode cX11_wrongBoarding 18 = .ok (.ifCond .ne 5, 3) := by decide +kernel
theorem dX11_wrongBoarding_21 : decode cX11_wrongBoarding 21 = .ok (.iconst 1, 1) := by decide +kernel
theorem dX11_wrongBoarding_22 : decode cX11_wrongBoarding 22 = .ok (.ireturn, 1) := by decide +kernel
theorem dX11_wrongBoarding_23 : decode cX11_wrongBoarding 23 = .ok (.iload_n 2, 1) := by decide +kernel
theorem dX11_wrongBoarding_24 : decode cX11_wrongBoarding 24 = .ok (.iconst 0, 1) := by decide +kernel
theorem dX11_wrongBoarding_25 : decode cX11_wrongBoarding 25 = .ok (.sipush 255, 3) := by decide +kernel
theorem dX11_wrongBoarding_28 : decode cX11_wrongBoarding 28 = .ok (.invokestatic 102, 3) := by decide +kernel
theorem dX11_wrongBoarding_31 : decode cX11_wrongBoarding 31 = .ok (.ifCond .eq 22, 3) := by decide +kernel
theorem dX11_wrongBoarding_34 : decode cX11_wrongBoarding 34 = .ok (.iload_n 3, 1) := by decide +kernel
theorem dX11_wrongBoarding_35 : decode cX11_wrongBoarding 35 = .ok (.iconst (-1), 1) := by decide +kernel
theorem dX11_wrongBoarding_36 : decode cX11_wrongBoarding 36 = .ok (.if_icmp .eq 13, 3) := by decide +kernel
theorem dX11_wrongBoarding_39 : decode cX11_wrongBoarding 39 = .ok (.aload_n 0, 1) := by decide +kernel
theorem dX11_wrongBoarding_40 : decode cX11_wrongBoarding 40 = .ok (.iload_n 3, 1) := by decide +kernel
theorem dX11_wrongBoarding_41 : decode cX11_wrongBoarding 41 = .ok (.iconst 0, 1) := by decide +kernel
theorem dX11_wrongBoarding_42 : decode cX11_wrongBoarding 42 = .ok (.invokevirtual 297, 3) := by decide +kernel
theorem dX11_wrongBoarding_45 : decode cX11_wrongBoarding 45 = .ok (.iload_n 1, 1) := by decide +kernel
theorem dX11_wrongBoarding_46 : decode cX11_wrongBoarding 46 = .ok (.if_icmp .ne 7, 3) := by decide +kernel
theorem dX11_wrongBoarding_49 : decode cX11_wrongBoarding 49 = .ok (.iconst 1, 1) := by decide +kernel
theorem dX11_wrongBoarding_50 : decode cX11_wrongBoarding 50 = .ok (.goto 4, 3) := by decide +kernel
theorem dX11_wrongBoarding_53 : decode cX11_wrongBoarding 53 = .ok (.iconst 0, 1) := by decide +kernel
theorem dX11_wrongBoarding_54 : decode cX11_wrongBoarding 54 = .ok (.istore 4, 2) := by decide +kernel
theorem dX11_wrongBoarding_56 : decode cX11_wrongBoarding 56 = .ok (.iload 4, 2) := by decide +kernel
theorem dX11_wrongBoarding_58 : decode cX11_wrongBoarding 58 = .ok (.ifCond .eq 7, 3) := by decide +kernel
theorem dX11_wrongBoarding_61 : decode cX11_wrongBoarding 61 = .ok (.iconst 0, 1) := by decide +kernel
theorem dX11_wrongBoarding_62 : decode cX11_wrongBoarding 62 = .ok (.goto 4, 3) := by decide +kernel
theorem dX11_wrongBoarding_65 : decode cX11_wrongBoarding 65 = .ok (.iconst 2, 1) := by decide +kernel
theorem dX11_wrongBoarding_66 : decode cX11_wrongBoarding 66 = .ok (.ireturn, 1) := by decide +kernel
theorem dX11_board_0 : decode cX11_board 0 = .ok (.aload_n 0, 1) := by decide +kernel
theorem dX11_board_1 : decode cX11_board 1 = .ok (.aload_n 0, 1) := by decide +kernel
theorem dX11_board_2 : decode cX11_board 2 = .ok (.iload_n 1, 1) := by decide +kernel
theorem dX11_board_3 : decode cX11_board 3 = .ok (.iload_n 2, 1) := by decide +kernel
theorem dX11_board_4 : decode cX11_board 4 = .ok (.iload_n 3, 1) := by decide +kernel
theorem dX11_board_5 : decode cX11_board 5 = .ok (.invokevirtual 397, 3) := by decide +kernel
