theorem dX11_board_8 : decode cX11_board 8 = .ok (.invokevirtual 98, 3) := by decide +kernel
theorem dX11_board_11 : decode cX11_board 11 = .ok (.ifCond .eq 5, 3) := by decide +kernel
theorem dX11_board_14 : decode cX11_board 14 = .ok (.iconst 0, 1) := by decide +kernel
theorem dX11_board_15 : decode cX11_board 15 = .ok (.ireturn, 1) := by decide +kernel
theorem dX11_board_16 : decode cX11_board 16 = .ok (.aload_n 0, 1) := by decide +kernel
theorem dX11_board_17 : decode cX11_board 17 = .ok (.getfield 26, 3) := by decide +kernel
theorem dX11_board_20 : decode cX11_board 20 = .ok (.iconst 3, 1) := by decide +kernel
theorem dX11_board_21 : decode cX11_board 21 = .ok (.iaload, 1) := by decide +kernel
theorem dX11_board_22 : decode cX11_board 22 = .ok (.istore 4, 2) := by decide +kernel
theorem dX11_board_24 : decode cX11_board 24 = .ok (.aload_n 0, 1) := by decide +kernel
theorem dX11_board_25 : decode cX11_board 25 = .ok (.invokevirtual 401, 3) := by decide +kernel
theorem dX11_board_28 : decode cX11_board 28 = .ok (.ifCond .ne 7, 3) := by decide +kernel
theorem dX11_board_31 : decode cX11_board 31 = .ok (.iconst 1, 1) := by decide +kernel
theorem dX11_board_32 : decode cX11_board 32 = .ok (.goto 29, 3) := by decide +kernel
theorem dX11_board_35 : decode cX11_board 35 = .ok (.iload 4, 2) := by decide +kernel
theorem dX11_board_37 : decode cX11_board 37 = .ok (.bipush 40, 2) := by decide +kernel
theorem dX11_board_39 : decode cX11_board 39 = .ok (.if_icmp .ne 8, 3) := by decide +kernel
theorem dX11_board_42 : decode cX11_board 42 = .ok (.bipush 8, 2) := by decide +kernel
theorem dX11_board_44 : decode cX11_board 44 = .ok (.goto 17, 3) := by decide +kernel
theorem dX11_board_47 : decode cX11_board 47 = .ok (.aload_n 0, 1) := by decide +kernel
theorem dX11_board_48 : decode cX11_board 48 = .ok (.iload_n 1, 1) := by decide +kernel
theorem dX11_board_49 : decode cX11_board 49 = .ok (.invokevirtual 404, 3) := by decide +kernel
theorem dX11_board_52 : decode cX11_board 52 = .ok (.ifCond .eq 7, 3) := by decide +kernel
theorem dX11_board_55 : decode cX11_board 55 = .ok (.iconst 0, 1) := by decide +kernel
theorem dX11_board_56 : decode cX11_board 56 = .ok (.goto 5, 3) := by decide +kernel
theorem dX11_board_59 : decode cX11_board 59 = .ok (.bipush 9, 2) := by decide +kernel
theorem dX11_board_61 : decode cX11_board 61 = .ok (.istore 5, 2) := by decide +kernel
theorem dX11_board_63 : decode cX11_board 63 = .ok (.aload_n 0, 1) := by decide +kernel
theorem dX11_board_64 : decode cX11_board 64 = .ok (.iload 5, 2) := by decide +kernel
theorem dX11_board_66 : decode cX11_board 66 = .ok (.iconst 3, 1) := by decide +kernel
theorem dX11_board_67 : decode cX11_board 67 = .ok (.invokevirtual 407, 3) := by decide +kernel
theorem dX11_board_70 : decode cX11_board 70 = .ok (.ifCond .eq 5, 3) := by decide +kernel
theorem dX11_board_73 : decode cX11_board 73 = .ok (.iconst 0, 1) := by decide +kernel
theorem dX11_board_74 : decode cX11_board 74 = .ok (.ireturn, 1) := by decide +kernel
theorem dX11_board_75 : decode cX11_board 75 = .ok (.aload_n 0, 1) := by decide +kernel
theorem dX11_board_76 : decode cX11_board 76 = .ok (.invokevirtual 410, 3) := by decide +kernel
theorem dX11_board_79 : decode cX11_board 79 = .ok (.aload_n 0, 1) := by decide +kernel
theorem dX11_board_80 : decode cX11_board 80 = .ok (.getfield 26, 3) := by decide +kernel
theorem dX11_board_83 : decode cX11_board 83 = .ok (.iload 4, 2) := by decide +kernel
theorem dX11_board_85 : decode cX11_board 85 = .ok (.iconst 0, 1) := by decide +kernel
theorem dX11_board_86 : decode cX11_board 86 = .ok (.invokestatic 91, 3) := by decide +kernel
theorem dX11_board_89 : decode cX11_board 89 = .ok (.iload_n 1, 1) := by decide +kernel
theorem dX11_board_90 : decode cX11_board 90 = .ok (.iastore, 1) := by decide +kernel
theorem dX11_board_91 : decode cX11_board 91 = .ok (.aload_n 0, 1) := by decide +kernel
theorem dX11_board_92 : decode cX11_board 92 = .ok (.getfield 26, 3) := by decide +kernel
theorem dX11_board_95 : decode cX11_board 95 = .ok (.iload 4, 2) := by decide +kernel
theorem dX11_board_97 : decode cX11_board 97 = .ok (.iconst 1, 1) := by decide +kernel
theorem dX11_board_98 : decode cX11_board 98 = .ok (.invokestatic 91, 3) := by decide +kernel
theorem dX11_board_101 : decode cX11_board 101 = .ok (.iload_n 2, 1) := by decide +kernel
theorem dX11_board_102 : decode cX11_board 102 = .ok (.iastore, 1) := by decide +kernel
theorem dX11_board_103 : decode cX11_board 103 = .ok (.aload_n 0, 1) := by decide +kernel
theorem dX11_board_104 : decode cX11_board 104 = .ok (.getfield 26, 3) := by decide +kernel
theorem dX11_board_107 : decode cX11_board 107 = .ok (.iload 4, 2) := by decide +kernel
theorem dX11_board_109 : decode cX11_board 109 = .ok (.iconst 2, 1) := by decide +kernel
theorem dX11_board_110 : decode cX11_board 110 = .ok (.invokestatic 91, 3) := by decide +kernel
theorem dX11_board_113 : decode cX11_board 113 = .ok (.iload_n 3, 1) := by decide +kernel
theorem dX11_board_114 : decode cX11_board 114 = .ok (.iastore, 1) := by decide +kernel
theorem dX11_board_115 : decode cX11_board 115 = .ok (.aload_n 0, 1) := by decide +kernel
theorem dX11_board_116 : decode cX11_board 116 = .ok (.getfield 26, 3) := by decide +kernel
theorem dX11_board_119 : decode cX11_board 119 = .ok (.iload 4, 2) := by decide +kernel
theorem dX11_board_121 : decode cX11_board 121 = .ok (.iconst 3, 1) := by decide +kernel
theorem dX11_board_122 : decode cX11_board 122 = .ok (.invokestatic 91, 3) := by decide +kernel
theorem dX11_board_125 : decode cX11_board 125 = .ok (.iconst (-1), 1) := by decide +kernel
theorem dX11_board_126 : decode cX11_board 126 = .ok (.iastore, 1) := by decide +kernel
theorem dX11_board_127 : decode cX11_board 127 = .ok (.aload_n 0, 1) := by decide +kernel
theorem dX11_board_128 : decode cX11_board 128 = .ok (.getfield 26, 3) := by decide +kernel
theorem dX11_board_131 : decode cX11_board 131 = .ok (.iconst 3, 1) := by decide +kernel
theorem dX11_board_132 : decode cX11_board 132 = .ok (.iload 4, 2) := by decide +kernel
theorem dX11_board_134 : decode cX11_board 134 = .ok (.iconst 1, 1) := by decide +kernel
theorem dX11_board_135 : decode cX11_board 135 = .ok (.iadd, 1) := by decide +kernel
theorem dX11_board_136 : decode cX11_board 136 = .ok (.iastore, 1) := by decide +kernel
theorem dX11_board_137 : decode cX11_board 137 = .ok (.iload 4, 2) := by decide +kernel
theorem dX11_board_139 : decode cX11_board 139 = .ok (.ireturn, 1) := by decide +kernel
theorem dX11_change_0 : decode cX11_change 0 = .ok (.aload_n 0, 1) := by decide +kernel
theorem dX11_change_1 : decode cX11_change 1 = .ok (.aload_n 0, 1) := by decide +kernel
theorem dX11_change_2 : decode cX11_change 2 = .ok (.iload_n 1, 1) := by decide +kernel
theorem dX11_change_3 : decode cX11_change 3 = .ok (.invokevirtual 385, 3) := by decide +kernel
theorem dX11_change_6 : decode cX11_change 6 = .ok (.ifCond .eq 11, 3) := by decide +kernel
theorem dX11_change_9 : decode cX11_change 9 = .ok (.aload_n 0, 1) := by decide +kernel
theorem dX11_change_10 : decode cX11_change 10 = .ok (.iload_n 2, 1) := by decide +kernel
theorem dX11_change_11 : decode cX11_change 11 = .ok (.invokevirtual 363, 3) := by decide +kernel
theorem dX11_change_14 : decode cX11_change 14 = .ok (.ifCond .ne 7, 3) := by decide +kernel
theorem dX11_change_17 : decode cX11_change 17 = .ok (.iconst 1, 1) := by decide +kernel
theorem dX11_change_18 : decode cX11_change 18 = .ok (.goto 18, 3) := by decide +kernel
theorem dX11_change_21 : decode cX11_change 21 = .ok (.aload_n 0, 1) := by decide +kernel
theorem dX11_change_22 : decode cX11_change 22 = .ok (.iload_n 1, 1) := by decide +kernel
theorem dX11_change_23 : decode cX11_change 23 = .ok (.iconst 0, 1) := by decide +kernel
theorem dX11_change_24 : decode cX11_change 24 = .ok (.invokevirtual 294, 3) := by decide +kernel
theorem dX11_change_27 : decode cX11_change 27 = .ok (.iload_n 2, 1) := by decide +kernel
theorem dX11_change_28 : decode cX11_change 28 = .ok (.if_icmp .ne 7, 3) := by decide +kernel
theorem dX11_change_31 : decode cX11_change 31 = .ok (.iconst 2, 1) := by decide +kernel
theorem dX11_change_32 : decode cX11_change 32 = .ok (.goto 4, 3) := by decide +kernel
theorem dX11_change_35 : decode cX11_change 35 = .ok (.iconst 0, 1) := by decide +kernel
theorem dX11_change_36 : decode cX11_change 36 = .ok (.invokevirtual 98, 3) := by decide +kernel
theorem dX11_change_39 : decode cX11_change 39 = .ok (.ifCond .eq 5, 3) := by decide +kernel
theorem dX11_change_42 : decode cX11_change 42 = .ok (.iconst 0, 1) := by decide +kernel
theorem dX11_change_43 : decode cX11_change 43 = .ok (.ireturn, 1) := by decide +kernel
theorem dX11_change_44 : decode cX11_change 44 = .ok (.aload_n 0, 1) := by decide +kernel
theorem dX11_change_45 : decode cX11_change 45 = .ok (.aload_n 0, 1) := by decide +kernel
theorem dX11_change_46 : decode cX11_change 46 = .ok (.invokevirtual 401, 3) := by decide +kernel
theorem dX11_change_49 : decode cX11_change 49 = .ok (.ifCond .ne 7, 3) := by decide +kernel
theorem dX11_change_52 : decode cX11_change 52 = .ok (.iconst 1, 1) := by decide +kernel
theorem dX11_change_53 : decode cX11_change 53 = .ok (.goto 17, 3) := by decide +kernel
theorem dX11_change_56 : decode cX11_change 56 = .ok (.aload_n 0, 1) := by decide +kernel
theorem dX11_change_57 : decode cX11_change 57 = .ok (.iload_n 2, 1) := by decide +kernel
theorem dX11_change_58 : decode cX11_change 58 = .ok (.invokevirtual 404, 3) := by decide +kernel
theorem dX11_change_61 : decode cX11_change 61 = .ok (.ifCond .eq 7, 3) := by decide +kernel
theorem dX11_change_64 : decode cX11_change 64 = .ok (.iconst 0, 1) := by decide +kernel
theorem dX11_change_65 : decode cX11_change 65 = .ok (.goto 5, 3) := by decide +kernel
theorem dX11_change_68 : decode cX11_change 68 = .ok (.bipush 9, 2) := by decide +kernel
theorem dX11_change_70 : decode cX11_change 70 = .ok (.iconst 3, 1) := by decide +kernel
theorem dX11_change_71 : decode cX11_change 71 = .ok (.invokevirtual 407, 3) := by decide +kernel
theorem dX11_change_74 : decode cX11_change 74 = .ok (.ifCond .eq 5, 3) := by decide +kernel
theorem dX11_change_77 : decode cX11_change 77 = .ok (.iconst 0, 1) := by decide +kernel
theorem dX11_change_78 : decode cX11_change 78 = .ok (.ireturn, 1) := by decide +kernel
theorem dX11_change_79 : decode cX11_change 79 = .ok (.aload_n 0, 1) := by decide +kernel
theorem dX11_change_80 : decode cX11_change 80 = .ok (.invokevirtual 410, 3) := by decide +kernel
theorem dX11_change_83 : decode cX11_change 83 = .ok (.aload_n 0, 1) := by decide +kernel
theorem dX11_change_84 : decode cX11_change 84 = .ok (.iload_n 1, 1) := by decide +kernel
theorem dX11_change_85 : decode cX11_change 85 = .ok (.iconst 0, 1) := by decide +kernel
theorem dX11_change_86 : decode cX11_change 86 = .ok (.invokevirtual 294, 3) := by decide +kernel
theorem dX11_change_89 : decode cX11_change 89 = .ok (.istore_n 3, 1) := by decide +kernel
theorem dX11_change_90 : decode cX11_change 90 = .ok (.aload_n 0, 1) := by decide +kernel
theorem dX11_change_91 : decode cX11_change 91 = .ok (.getfield 26, 3) := by decide +kernel
theorem dX11_change_94 : decode cX11_change 94 = .ok (.iload_n 1, 1) := by decide +kernel
theorem dX11_change_95 : decode cX11_change 95 = .ok (.iconst 0, 1) := by decide +kernel
theorem dX11_change_96 : decode cX11_change 96 = .ok (.invokestatic 91, 3) := by decide +kernel
theorem dX11_change_99 : decode cX11_change 99 = .ok (.iload_n 2, 1) := by decide +kernel
theorem dX11_change_100 : decode cX11_change 100 = .ok (.iastore, 1) := by decide +kernel
theorem dX11_change_101 : decode cX11_change 101 = .ok (.aload_n 0, 1) := by decide +kernel
theorem dX11_change_102 : decode cX11_change 102 = .ok (.getfield 26, 3) := by decide +kernel
theorem dX11_change_105 : decode cX11_change 105 = .ok (.iload_n 1, 1) := by decide +kernel
theorem dX11_change_106 : decode cX11_change 106 = .ok (.iconst 2, 1) := by decide +kernel
theorem dX11_change_107 : decode cX11_change 107 = .ok (.invokestatic 91, 3) := by decide +kernel
theorem dX11_change_110 : decode cX11_change 110 = .ok (.iconst (-1), 1) := by decide +kernel
theorem dX11_change_111 : decode cX11_change 111 = .ok (.iastore, 1) := by decide +kernel
theorem dX11_change_112 : decode cX11_change 112 = .ok (.iload_n 3, 1) := by decide +kernel
theorem dX11_change_113 : decode cX11_change 113 = .ok (.ireturn, 1) := by decide +kernel
theorem dX11_leave_0 : decode cX11_leave 0 = .ok (.aload_n 0, 1) := by decide +kernel
theorem dX11_leave_1 : decode cX11_leave 1 = .ok (.aload_n 0, 1) := by decide +kernel
theorem dX11_leave_2 : decode cX11_leave 2 = .ok (.iload_n 1, 1) := by decide +kernel
theorem dX11_leave_3 : decode cX11_leave 3 = .ok (.invokevirtual 385, 3) := by decide +kernel
theorem dX11_leave_6 : decode cX11_leave 6 = .ok (.ifCond .eq 7, 3) := by decide +kernel
theorem dX11_leave_9 : decode cX11_leave 9 = .ok (.iconst 0, 1) := by decide +kernel
theorem dX11_leave_10 : decode cX11_leave 10 = .ok (.goto 4, 3) := by decide +kernel
theorem dX11_leave_13 : decode cX11_leave 13 = .ok (.iconst 1, 1) := by decide +kernel
theorem dX11_leave_14 : decode cX11_leave 14 = .ok (.invokevirtual 98, 3) := by decide +kernel
theorem dX11_leave_17 : decode cX11_leave 17 = .ok (.ifCond .eq 5, 3) := by decide +kernel
theorem dX11_leave_20 : decode cX11_leave 20 = .ok (.iconst 0, 1) := by decide +kernel
theorem dX11_leave_21 : decode cX11_leave 21 = .ok (.ireturn, 1) := by decide +kernel
theorem dX11_leave_22 : decode cX11_leave 22 = .ok (.aload_n 0, 1) := by decide +kernel
theorem dX11_leave_23 : decode cX11_leave 23 = .ok (.aload_n 0, 1) := by decide +kernel
theorem dX11_leave_24 : decode cX11_leave 24 = .ok (.invokevirtual 401, 3) := by decide +kernel
theorem dX11_leave_27 : decode cX11_leave 27 = .ok (.ifCond .eq 7, 3) := by decide +kernel
theorem dX11_leave_30 : decode cX11_leave 30 = .ok (.iconst 0, 1) := by decide +kernel
theorem dX11_leave_31 : decode cX11_leave 31 = .ok (.goto 4, 3) := by decide +kernel
theorem dX11_leave_34 : decode cX11_leave 34 = .ok (.iconst 1, 1) := by decide +kernel
theorem dX11_leave_35 : decode cX11_leave 35 = .ok (.iconst 2, 1) := by decide +kernel
theorem dX11_leave_36 : decode cX11_leave 36 = .ok (.invokevirtual 407, 3) := by decide +kernel
theorem dX11_leave_39 : decode cX11_leave 39 = .ok (.ifCond .eq 5, 3) := by decide +kernel
theorem dX11_leave_42 : decode cX11_leave 42 = .ok (.iconst 0, 1) := by decide +kernel
theorem dX11_leave_43 : decode cX11_leave 43 = .ok (.ireturn, 1) := by decide +kernel
theorem dX11_leave_44 : decode cX11_leave 44 = .ok (.aload_n 0, 1) := by decide +kernel
theorem dX11_leave_45 : decode cX11_leave 45 = .ok (.invokevirtual 410, 3) := by decide +kernel
theorem dX11_leave_48 : decode cX11_leave 48 = .ok (.aload_n 0, 1) := by decide +kernel
theorem dX11_leave_49 : decode cX11_leave 49 = .ok (.getfield 26, 3) := by decide +kernel
theorem dX11_leave_52 : decode cX11_leave 52 = .ok (.iconst 3, 1) := by decide +kernel
theorem dX11_leave_53 : decode cX11_leave 53 = .ok (.aload_n 0, 1) := by decide +kernel
theorem dX11_leave_54 : decode cX11_leave 54 = .ok (.getfield 26, 3) := by decide +kernel
theorem dX11_leave_57 : decode cX11_leave 57 = .ok (.iconst 3, 1) := by decide +kernel
theorem dX11_leave_58 : decode cX11_leave 58 = .ok (.iaload, 1) := by decide +kernel
theorem dX11_leave_59 : decode cX11_leave 59 = .ok (.iconst 1, 1) := by decide +kernel
theorem dX11_leave_60 : decode cX11_leave 60 = .ok (.isub, 1) := by decide +kernel
theorem dX11_leave_61 : decode cX11_leave 61 = .ok (.iastore, 1) := by decide +kernel
theorem dX11_leave_62 : decode cX11_leave 62 = .ok (.iload_n 1, 1) := by decide +kernel
theorem dX11_leave_63 : decode cX11_leave 63 = .ok (.iconst 0, 1) := by decide +kernel
theorem dX11_leave_64 : decode cX11_leave 64 = .ok (.invokestatic 91, 3) := by decide +kernel
theorem dX11_leave_67 : decode cX11_leave 67 = .ok (.istore_n 2, 1) := by decide +kernel
theorem dX11_leave_68 : decode cX11_leave 68 = .ok (.iload_n 2, 1) := by decide +kernel
theorem dX11_leave_69 : decode cX11_leave 69 = .ok (.aload_n 0, 1) := by decide +kernel
theorem dX11_leave_70 : decode cX11_leave 70 = .ok (.getfield 26, 3) := by decide +kernel
theorem dX11_leave_73 : decode cX11_leave 73 = .ok (.iconst 3, 1) := by decide +kernel
theorem dX11_leave_74 : decode cX11_leave 74 = .ok (.iaload, 1) := by decide +kernel
theorem dX11_leave_75 : decode cX11_leave 75 = .ok (.iconst 0, 1) := by decide +kernel
theorem dX11_leave_76 : decode cX11_leave 76 = .ok (.invokestatic 91, 3) := by decide +kernel
theorem dX11_leave_79 : decode cX11_leave 79 = .ok (.if_icmp .ge 23, 3) := by decide +kernel
theorem dX11_leave_82 : decode cX11_leave 82 = .ok (.aload_n 0, 1) := by decide +kernel
theorem dX11_leave_83 : decode cX11_leave 83 = .ok (.getfield 26, 3) := by decide +kernel
theorem dX11_leave_86 : decode cX11_leave 86 = .ok (.iload_n 2, 1) := by decide +kernel
theorem dX11_leave_87 : decode cX11_leave 87 = .ok (.aload_n 0, 1) := by decide +kernel
theorem dX11_leave_88 : decode cX11_leave 88 = .ok (.getfield 26, 3) := by decide +kernel
theorem dX11_leave_91 : decode cX11_leave 91 = .ok (.iload_n 2, 1) := by decide +kernel
theorem dX11_leave_92 : decode cX11_leave 92 = .ok (.iconst 4, 1) := by decide +kernel
theorem dX11_leave_93 : decode cX11_leave 93 = .ok (.iadd, 1) := by decide +kernel
theorem dX11_leave_94 : decode cX11_leave 94 = .ok (.iaload, 1) := by decide +kernel
theorem dX11_leave_95 : decode cX11_leave 95 = .ok (.iastore, 1) := by decide +kernel
theorem dX11_leave_96 : decode cX11_leave 96 = .ok (.iinc 2 1, 3) := by decide +kernel
theorem dX11_leave_99 : decode cX11_leave 99 = .ok (.goto (-31), 3) := by decide +kernel
theorem dX11_leave_102 : decode cX11_leave 102 = .ok (.aload_n 0, 1) := by decide +kernel
theorem dX11_leave_103 : decode cX11_leave 103 = .ok (.getfield 26, 3) := by decide +kernel
theorem dX11_leave_106 : decode cX11_leave 106 = .ok (.iconst 3, 1) := by decide +kernel
theorem dX11_leave_107 : decode cX11_leave 107 = .ok (.iaload, 1) := by decide +kernel
theorem dX11_leave_108 : decode cX11_leave 108 = .ok (.ireturn, 1) := by decide +kernel
theorem dX11_setNeeds_0 : decode cX11_setNeeds 0 = .ok (.aload_n 0, 1) := by decide +kernel
theorem dX11_setNeeds_1 : decode cX11_setNeeds 1 = .ok (.aload_n 0, 1) := by decide +kernel
theorem dX11_setNeeds_2 : decode cX11_setNeeds 2 = .ok (.iload_n 1, 1) := by decide +kernel
theorem dX11_setNeeds_3 : decode cX11_setNeeds 3 = .ok (.invokevirtual 385, 3) := by decide +kernel
theorem dX11_setNeeds_6 : decode cX11_setNeeds 6 = .ok (.ifCond .ne 7, 3) := by decide +kernel
theorem dX11_setNeeds_9 : decode cX11_setNeeds 9 = .ok (.iconst 1, 1) := by decide +kernel
theorem dX11_setNeeds_10 : decode cX11_setNeeds 10 = .ok (.goto 19, 3) := by decide +kernel
theorem dX11_setNeeds_13 : decode cX11_setNeeds 13 = .ok (.iload_n 2, 1) := by decide +kernel
theorem dX11_setNeeds_14 : decode cX11_setNeeds 14 = .ok (.iconst 0, 1) := by decide +kernel
theorem dX11_setNeeds_15 : decode cX11_setNeeds 15 = .ok (.sipush 255, 3) := by decide +kernel
theorem dX11_setNeeds_18 : decode cX11_setNeeds 18 = .ok (.invokestatic 102, 3) := by decide +kernel
theorem dX11_setNeeds_21 : decode cX11_setNeeds 21 = .ok (.ifCond .eq 7, 3) := by decide +kernel
theorem dX11_setNeeds_24 : decode cX11_setNeeds 24 = .ok (.iconst 0, 1) := by decide +kernel
theorem dX11_setNeeds_25 : decode cX11_setNeeds 25 = .ok (.goto 4, 3) := by decide +kernel
theorem dX11_setNeeds_28 : decode cX11_setNeeds 28 = .ok (.iconst 2, 1) := by decide +kernel
theorem dX11_setNeeds_29 : decode cX11_setNeeds 29 = .ok (.invokevirtual 98, 3) := by decide +kernel
theorem dX11_setNeeds_32 : decode cX11_setNeeds 32 = .ok (.ifCond .eq 5, 3) := by decide +kernel
theorem dX11_setNeeds_35 : decode cX11_setNeeds 35 = .ok (.iconst 0, 1) := by decide +kernel
theorem dX11_setNeeds_36 : decode cX11_setNeeds 36 = .ok (.ireturn, 1) := by decide +kernel
theorem dX11_setNeeds_37 : decode cX11_setNeeds 37 = .ok (.aload_n 0, 1) := by decide +kernel
theorem dX11_setNeeds_38 : decode cX11_setNeeds 38 = .ok (.aload_n 0, 1) := by decide +kernel
theorem dX11_setNeeds_39 : decode cX11_setNeeds 39 = .ok (.invokevirtual 401, 3) := by decide +kernel
theorem dX11_setNeeds_42 : decode cX11_setNeeds 42 = .ok (.ifCond .eq 7, 3) := by decide +kernel
theorem dX11_setNeeds_45 : decode cX11_setNeeds 45 = .ok (.iconst 0, 1) := by decide +kernel
theorem dX11_setNeeds_46 : decode cX11_setNeeds 46 = .ok (.goto 4, 3) := by decide +kernel
theorem dX11_setNeeds_49 : decode cX11_setNeeds 49 = .ok (.iconst 1, 1) := by decide +kernel
theorem dX11_setNeeds_50 : decode cX11_setNeeds 50 = .ok (.iconst 3, 1) := by decide +kernel
theorem dX11_setNeeds_51 : decode cX11_setNeeds 51 = .ok (.invokevirtual 407, 3) := by decide +kernel
theorem dX11_setNeeds_54 : decode cX11_setNeeds 54 = .ok (.ifCond .eq 5, 3) := by decide +kernel
theorem dX11_setNeeds_57 : decode cX11_setNeeds 57 = .ok (.iconst 0, 1) := by decide +kernel
theorem dX11_setNeeds_58 : decode cX11_setNeeds 58 = .ok (.ireturn, 1) := by decide +kernel
theorem dX11_setNeeds_59 : decode cX11_setNeeds 59 = .ok (.aload_n 0, 1) := by decide +kernel
theorem dX11_setNeeds_60 : decode cX11_setNeeds 60 = .ok (.invokevirtual 410, 3) := by decide +kernel
theorem dX11_setNeeds_63 : decode cX11_setNeeds 63 = .ok (.aload_n 0, 1) := by decide +kernel
theorem dX11_setNeeds_64 : decode cX11_setNeeds 64 = .ok (.iload_n 1, 1) := by decide +kernel
theorem dX11_setNeeds_65 : decode cX11_setNeeds 65 = .ok (.iconst 1, 1) := by decide +kernel
theorem dX11_setNeeds_66 : decode cX11_setNeeds 66 = .ok (.invokevirtual 294, 3) := by decide +kernel
theorem dX11_setNeeds_69 : decode cX11_setNeeds 69 = .ok (.istore_n 3, 1) := by decide +kernel
theorem dX11_setNeeds_70 : decode cX11_setNeeds 70 = .ok (.aload_n 0, 1) := by decide +kernel
theorem dX11_setNeeds_71 : decode cX11_setNeeds 71 = .ok (.getfield 26, 3) := by decide +kernel
theorem dX11_setNeeds_74 : decode cX11_setNeeds 74 = .ok (.iload_n 1, 1) := by decide +kernel
theorem dX11_setNeeds_75 : decode cX11_setNeeds 75 = .ok (.iconst 1, 1) := by decide +kernel
theorem dX11_setNeeds_76 : decode cX11_setNeeds 76 = .ok (.invokestatic 91, 3) := by decide +kernel
theorem dX11_setNeeds_79 : decode cX11_setNeeds 79 = .ok (.iload_n 2, 1) := by decide +kernel
theorem dX11_setNeeds_80 : decode cX11_setNeeds 80 = .ok (.iastore, 1) := by decide +kernel
theorem dX11_setNeeds_81 : decode cX11_setNeeds 81 = .ok (.iload_n 3, 1) := by decide +kernel
theorem dX11_setNeeds_82 : decode cX11_setNeeds 82 = .ok (.ireturn, 1) := by decide +kernel
theorem dX11_whyNotLoad_0 : decode cX11_whyNotLoad 0 = .ok (.aload_n 0, 1) := by decide +kernel
theorem dX11_whyNotLoad_1 : decode cX11_whyNotLoad 1 = .ok (.invokevirtual 401, 3) := by decide +kernel
theorem dX11_whyNotLoad_4 : decode cX11_whyNotLoad 4 = .ok (.ifCond .ne 7, 3) := by decide +kernel
theorem dX11_whyNotLoad_7 : decode cX11_whyNotLoad 7 = .ok (.iconst 1, 1) := by decide +kernel
theorem dX11_whyNotLoad_8 : decode cX11_whyNotLoad 8 = .ok (.goto 16, 3) := by decide +kernel
theorem dX11_whyNotLoad_11 : decode cX11_whyNotLoad 11 = .ok (.aload_n 0, 1) := by decide +kernel
theorem dX11_whyNotLoad_12 : decode cX11_whyNotLoad 12 = .ok (.invokevirtual 106, 3) := by decide +kernel
theorem dX11_whyNotLoad_15 : decode cX11_whyNotLoad 15 = .ok (.iconst 1, 1) := by decide +kernel
theorem dX11_whyNotLoad_16 : decode cX11_whyNotLoad 16 = .ok (.if_icmp .ne 7, 3) := by decide +kernel
theorem dX11_whyNotLoad_19 : decode cX11_whyNotLoad 19 = .ok (.iconst 0, 1) := by decide +kernel
theorem dX11_whyNotLoad_20 : decode cX11_whyNotLoad 20 = .ok (.goto 4, 3) := by decide +kernel
theorem dX11_whyNotLoad_23 : decode cX11_whyNotLoad 23 = .ok (.iconst 2, 1) := by decide +kernel
theorem dX11_whyNotLoad_24 : decode cX11_whyNotLoad 24 = .ok (.ireturn, 1) := by decide +kernel
theorem dX11_storesOrder_0 : decode cX11_storesOrder 0 = .ok (.aload_n 0, 1) := by decide +kernel
theorem dX11_storesOrder_1 : decode cX11_storesOrder 1 = .ok (.invokevirtual 354, 3) := by decide +kernel
theorem dX11_storesOrder_4 : decode cX11_storesOrder 4 = .ok (.iconst 0, 1) := by decide +kernel
theorem dX11_storesOrder_5 : decode cX11_storesOrder 5 = .ok (.istore_n 1, 1) := by decide +kernel
theorem dX11_storesOrder_6 : decode cX11_storesOrder 6 = .ok (.iconst 0, 1) := by decide +kernel
theorem dX11_storesOrder_7 : decode cX11_storesOrder 7 = .ok (.istore_n 2, 1) := by decide +kernel
theorem dX11_storesOrder_8 : decode cX11_storesOrder 8 = .ok (.iload_n 2, 1) := by decide +kernel
theorem dX11_storesOrder_9 : decode cX11_storesOrder 9 = .ok (.aload_n 0, 1) := by decide +kernel
theorem dX11_storesOrder_10 : decode cX11_storesOrder 10 = .ok (.invokevirtual 300, 3) := by decide +kernel
theorem dX11_storesOrder_13 : decode cX11_storesOrder 13 = .ok (.if_icmp .ge 31, 3) := by decide +kernel
theorem dX11_storesOrder_16 : decode cX11_storesOrder 16 = .ok (.aload_n 0, 1) := by decide +kernel
theorem dX11_storesOrder_17 : decode cX11_storesOrder 17 = .ok (.iload_n 2, 1) := by decide +kernel
theorem dX11_storesOrder_18 : decode cX11_storesOrder 18 = .ok (.invokevirtual 382, 3) := by decide +kernel
theorem dX11_storesOrder_21 : decode cX11_storesOrder 21 = .ok (.istore_n 3, 1) := by decide +kernel
theorem dX11_storesOrder_22 : decode cX11_storesOrder 22 = .ok (.aload_n 0, 1) := by decide +kernel
theorem dX11_storesOrder_23 : decode cX11_storesOrder 23 = .ok (.iload_n 2, 1) := by decide +kernel
theorem dX11_storesOrder_24 : decode cX11_storesOrder 24 = .ok (.iload_n 3, 1) := by decide +kernel
theorem dX11_storesOrder_25 : decode cX11_storesOrder 25 = .ok (.invokevirtual 413, 3) := by decide +kernel
theorem dX11_storesOrder_28 : decode cX11_storesOrder 28 = .ok (.iload_n 3, 1) := by decide +kernel
theorem dX11_storesOrder_29 : decode cX11_storesOrder 29 = .ok (.if_icmp .ge 5, 3) := by decide +kernel
theorem dX11_storesOrder_32 : decode cX11_storesOrder 32 = .ok (.iconst (-1), 1) := by decide +kernel
theorem dX11_storesOrder_33 : decode cX11_storesOrder 33 = .ok (.ireturn, 1) := by decide +kernel
theorem dX11_storesOrder_34 : decode cX11_storesOrder 34 = .ok (.iload_n 1, 1) := by decide +kernel
theorem dX11_storesOrder_35 : decode cX11_storesOrder 35 = .ok (.iload_n 3, 1) := by decide +kernel
theorem dX11_storesOrder_36 : decode cX11_storesOrder 36 = .ok (.iadd, 1) := by decide +kernel
theorem dX11_storesOrder_37 : decode cX11_storesOrder 37 = .ok (.istore_n 1, 1) := by decide +kernel
theorem dX11_storesOrder_38 : decode cX11_storesOrder 38 = .ok (.iinc 2 1, 3) := by decide +kernel
theorem dX11_storesOrder_41 : decode cX11_storesOrder 41 = .ok (.goto (-33), 3) := by decide +kernel
theorem dX11_storesOrder_44 : decode cX11_storesOrder 44 = .ok (.iload_n 1, 1) := by decide +kernel
theorem dX11_storesOrder_45 : decode cX11_storesOrder 45 = .ok (.ireturn, 1) := by decide +kernel
theorem dX11_loadOrder_0 : decode cX11_loadOrder 0 = .ok (.aload_n 0, 1) := by decide +kernel
theorem dX11_loadOrder_1 : decode cX11_loadOrder 1 = .ok (.aload_n 0, 1) := by decide +kernel
theorem dX11_loadOrder_2 : decode cX11_loadOrder 2 = .ok (.invokevirtual 416, 3) := by decide +kernel
theorem dX11_loadOrder_5 : decode cX11_loadOrder 5 = .ok (.iconst 1, 1) := by decide +kernel
theorem dX11_loadOrder_6 : decode cX11_loadOrder 6 = .ok (.invokevirtual 407, 3) := by decide +kernel
theorem dX11_loadOrder_9 : decode cX11_loadOrder 9 = .ok (.ifCond .eq 5, 3) := by decide +kernel
theorem dX11_loadOrder_12 : decode cX11_loadOrder 12 = .ok (.iconst 0, 1) := by decide +kernel
theorem dX11_loadOrder_13 : decode cX11_loadOrder 13 = .ok (.ireturn, 1) := by decide +kernel
theorem dX11_loadOrder_14 : decode cX11_loadOrder 14 = .ok (.aload_n 0, 1) := by decide +kernel
theorem dX11_loadOrder_15 : decode cX11_loadOrder 15 = .ok (.invokevirtual 419, 3) := by decide +kernel
theorem dX11_loadOrder_18 : decode cX11_loadOrder 18 = .ok (.aload_n 0, 1) := by decide +kernel
theorem dX11_loadOrder_19 : decode cX11_loadOrder 19 = .ok (.invokevirtual 422, 3) := by decide +kernel
theorem dX11_loadOrder_22 : decode cX11_loadOrder 22 = .ok (.istore_n 1, 1) := by decide +kernel
theorem dX11_loadOrder_23 : decode cX11_loadOrder 23 = .ok (.aload_n 0, 1) := by decide +kernel
theorem dX11_loadOrder_24 : decode cX11_loadOrder 24 = .ok (.invokevirtual 425, 3) := by decide +kernel
theorem dX11_loadOrder_27 : decode cX11_loadOrder 27 = .ok (.aload_n 0, 1) := by decide +kernel
theorem dX11_loadOrder_28 : decode cX11_loadOrder 28 = .ok (.iload_n 1, 1) := by decide +kernel
theorem dX11_loadOrder_29 : decode cX11_loadOrder 29 = .ok (.iconst (-1), 1) := by decide +kernel
theorem dX11_loadOrder_30 : decode cX11_loadOrder 30 = .ok (.if_icmp .ne 7, 3) := by decide +kernel
theorem dX11_loadOrder_33 : decode cX11_loadOrder 33 = .ok (.iconst 3, 1) := by decide +kernel
theorem dX11_loadOrder_34 : decode cX11_loadOrder 34 = .ok (.goto 4, 3) := by decide +kernel
theorem dX11_loadOrder_37 : decode cX11_loadOrder 37 = .ok (.iconst 0, 1) := by decide +kernel
theorem dX11_loadOrder_38 : decode cX11_loadOrder 38 = .ok (.iconst 1, 1) := by decide +kernel
theorem dX11_loadOrder_39 : decode cX11_loadOrder 39 = .ok (.invokevirtual 407, 3) := by decide +kernel
theorem dX11_loadOrder_42 : decode cX11_loadOrder 42 = .ok (.ifCond .eq 5, 3) := by decide +kernel
theorem dX11_loadOrder_45 : decode cX11_loadOrder 45 = .ok (.iconst 0, 1) := by decide +kernel
theorem dX11_loadOrder_46 : decode cX11_loadOrder 46 = .ok (.ireturn, 1) := by decide +kernel
theorem dX11_loadOrder_47 : decode cX11_loadOrder 47 = .ok (.aload_n 0, 1) := by decide +kernel
theorem dX11_loadOrder_48 : decode cX11_loadOrder 48 = .ok (.invokevirtual 410, 3) := by decide +kernel
theorem dX11_loadOrder_51 : decode cX11_loadOrder 51 = .ok (.aload_n 0, 1) := by decide +kernel
theorem dX11_loadOrder_52 : decode cX11_loadOrder 52 = .ok (.invokevirtual 422, 3) := by decide +kernel
theorem dX11_loadOrder_55 : decode cX11_loadOrder 55 = .ok (.ireturn, 1) := by decide +kernel
theorem dX11_wrongUnits_0 : decode cX11_wrongUnits 0 = .ok (.aload_n 0, 1) := by decide +kernel
theorem dX11_wrongUnits_1 : decode cX11_wrongUnits 1 = .ok (.iload_n 1, 1) := by decide +kernel
theorem dX11_wrongUnits_2 : decode cX11_wrongUnits 2 = .ok (.invokevirtual 379, 3) := by decide +kernel
theorem dX11_wrongUnits_5 : decode cX11_wrongUnits 5 = .ok (.ifCond .ne 7, 3) := by decide +kernel
theorem dX11_wrongUnits_8 : decode cX11_wrongUnits 8 = .ok (.iconst 1, 1) := by decide +kernel
theorem dX11_wrongUnits_9 : decode cX11_wrongUnits 9 = .ok (.goto 18, 3) := by decide +kernel
theorem dX11_wrongUnits_12 : decode cX11_wrongUnits 12 = .ok (.iload_n 2, 1) := by decide +kernel
theorem dX11_wrongUnits_13 : decode cX11_wrongUnits 13 = .ok (.iconst 1, 1) := by decide +kernel
theorem dX11_wrongUnits_14 : decode cX11_wrongUnits 14 = .ok (.bipush 99, 2) := by decide +kernel
theorem dX11_wrongUnits_16 : decode cX11_wrongUnits 16 = .ok (.invokestatic 102, 3) := by decide +kernel
theorem dX11_wrongUnits_19 : decode cX11_wrongUnits 19 = .ok (.ifCond .eq 7, 3) := by decide +kernel
theorem dX11_wrongUnits_22 : decode cX11_wrongUnits 22 = .ok (.iconst 0, 1) := by decide +kernel
theorem dX11_wrongUnits_23 : decode cX11_wrongUnits 23 = .ok (.goto 4, 3) := by decide +kernel
theorem dX11_wrongUnits_26 : decode cX11_wrongUnits 26 = .ok (.iconst 2, 1) := by decide +kernel
theorem dX11_wrongUnits_27 : decode cX11_wrongUnits 27 = .ok (.ireturn, 1) := by decide +kernel
theorem dX11_store_0 : decode cX11_store 0 = .ok (.aload_n 0, 1) := by decide +kernel
theorem dX11_store_1 : decode cX11_store 1 = .ok (.aload_n 0, 1) := by decide +kernel
theorem dX11_store_2 : decode cX11_store 2 = .ok (.iload_n 1, 1) := by decide +kernel
theorem dX11_store_3 : decode cX11_store 3 = .ok (.iload_n 2, 1) := by decide +kernel
theorem dX11_store_4 : decode cX11_store 4 = .ok (.invokevirtual 428, 3) := by decide +kernel
theorem dX11_store_7 : decode cX11_store 7 = .ok (.invokevirtual 98, 3) := by decide +kernel
theorem dX11_store_10 : decode cX11_store 10 = .ok (.ifCond .eq 5, 3) := by decide +kernel
theorem dX11_store_13 : decode cX11_store 13 = .ok (.iconst 0, 1) := by decide +kernel
theorem dX11_store_14 : decode cX11_store 14 = .ok (.ireturn, 1) := by decide +kernel
theorem dX11_store_15 : decode cX11_store 15 = .ok (.aload_n 0, 1) := by decide +kernel
theorem dX11_store_16 : decode cX11_store 16 = .ok (.aload_n 0, 1) := by decide +kernel
theorem dX11_store_17 : decode cX11_store 17 = .ok (.invokevirtual 416, 3) := by decide +kernel
theorem dX11_store_20 : decode cX11_store 20 = .ok (.iconst 3, 1) := by decide +kernel
theorem dX11_store_21 : decode cX11_store 21 = .ok (.invokevirtual 407, 3) := by decide +kernel
theorem dX11_store_24 : decode cX11_store 24 = .ok (.ifCond .eq 5, 3) := by decide +kernel
theorem dX11_store_27 : decode cX11_store 27 = .ok (.iconst 0, 1) := by decide +kernel
theorem dX11_store_28 : decode cX11_store 28 = .ok (.ireturn, 1) := by decide +kernel
theorem dX11_store_29 : decode cX11_store 29 = .ok (.aload_n 0, 1) := by decide +kernel
theorem dX11_store_30 : decode cX11_store 30 = .ok (.invokevirtual 419, 3) := by decide +kernel
theorem dX11_store_33 : decode cX11_store 33 = .ok (.aload_n 0, 1) := by decide +kernel
theorem dX11_store_34 : decode cX11_store 34 = .ok (.iload_n 1, 1) := by decide +kernel
theorem dX11_store_35 : decode cX11_store 35 = .ok (.iload_n 2, 1) := by decide +kernel
theorem dX11_store_36 : decode cX11_store 36 = .ok (.invokevirtual 413, 3) := by decide +kernel
theorem dX11_store_39 : decode cX11_store 39 = .ok (.istore_n 3, 1) := by decide +kernel
theorem dX11_store_40 : decode cX11_store 40 = .ok (.aload_n 0, 1) := by decide +kernel
theorem dX11_store_41 : decode cX11_store 41 = .ok (.invokevirtual 425, 3) := by decide +kernel
theorem dX11_store_44 : decode cX11_store 44 = .ok (.aload_n 0, 1) := by decide +kernel
theorem dX11_store_45 : decode cX11_store 45 = .ok (.iload_n 3, 1) := by decide +kernel
theorem dX11_store_46 : decode cX11_store 46 = .ok (.iload_n 2, 1) := by decide +kernel
theorem dX11_store_47 : decode cX11_store 47 = .ok (.if_icmp .ge 7, 3) := by decide +kernel
theorem dX11_store_50 : decode cX11_store 50 = .ok (.iconst 3, 1) := by decide +kernel
theorem dX11_store_51 : decode cX11_store 51 = .ok (.goto 4, 3) := by decide +kernel
theorem dX11_store_54 : decode cX11_store 54 = .ok (.iconst 0, 1) := by decide +kernel
theorem dX11_store_55 : decode cX11_store 55 = .ok (.iconst 3, 1) := by decide +kernel
theorem dX11_store_56 : decode cX11_store 56 = .ok (.invokevirtual 407, 3) := by decide +kernel
theorem dX11_store_59 : decode cX11_store 59 = .ok (.ifCond .eq 5, 3) := by decide +kernel
theorem dX11_store_62 : decode cX11_store 62 = .ok (.iconst 0, 1) := by decide +kernel
theorem dX11_store_63 : decode cX11_store 63 = .ok (.ireturn, 1) := by decide +kernel
theorem dX11_store_64 : decode cX11_store 64 = .ok (.aload_n 0, 1) := by decide +kernel
theorem dX11_store_65 : decode cX11_store 65 = .ok (.invokevirtual 410, 3) := by decide +kernel
theorem dX11_store_68 : decode cX11_store 68 = .ok (.aload_n 0, 1) := by decide +kernel
theorem dX11_store_69 : decode cX11_store 69 = .ok (.iload_n 1, 1) := by decide +kernel
theorem dX11_store_70 : decode cX11_store 70 = .ok (.iload_n 2, 1) := by decide +kernel
theorem dX11_store_71 : decode cX11_store 71 = .ok (.invokevirtual 413, 3) := by decide +kernel
theorem dX11_store_74 : decode cX11_store 74 = .ok (.istore_n 3, 1) := by decide +kernel
theorem dX11_store_75 : decode cX11_store 75 = .ok (.aload_n 0, 1) := by decide +kernel
theorem dX11_store_76 : decode cX11_store 76 = .ok (.iload_n 1, 1) := by decide +kernel
theorem dX11_store_77 : decode cX11_store 77 = .ok (.invokevirtual 336, 3) := by decide +kernel
theorem dX11_store_80 : decode cX11_store 80 = .ok (.ireturn, 1) := by decide +kernel
theorem dX11_takesOut_0 : decode cX11_takesOut 0 = .ok (.aload_n 0, 1) := by decide +kernel
theorem dX11_takesOut_1 : decode cX11_takesOut 1 = .ok (.invokevirtual 330, 3) := by decide +kernel
theorem dX11_takesOut_4 : decode cX11_takesOut 4 = .ok (.iconst 1, 1) := by decide +kernel
theorem dX11_takesOut_5 : decode cX11_takesOut 5 = .ok (.isub, 1) := by decide +kernel
theorem dX11_takesOut_6 : decode cX11_takesOut 6 = .ok (.istore_n 2, 1) := by decide +kernel
theorem dX11_takesOut_7 : decode cX11_takesOut 7 = .ok (.aload_n 0, 1) := by decide +kernel
theorem dX11_takesOut_8 : decode cX11_takesOut 8 = .ok (.getfield 26, 3) := by decide +kernel
theorem dX11_takesOut_11 : decode cX11_takesOut 11 = .ok (.iload_n 2, 1) := by decide +kernel
theorem dX11_takesOut_12 : decode cX11_takesOut 12 = .ok (.iload_n 1, 1) := by decide +kernel
theorem dX11_takesOut_13 : decode cX11_takesOut 13 = .ok (.invokestatic 333, 3) := by decide +kernel
theorem dX11_takesOut_16 : decode cX11_takesOut 16 = .ok (.iaload, 1) := by decide +kernel
theorem dX11_takesOut_17 : decode cX11_takesOut 17 = .ok (.ifCond .ne 10, 3) := by decide +kernel
theorem dX11_takesOut_20 : decode cX11_takesOut 20 = .ok (.iload_n 2, 1) := by decide +kernel
theorem dX11_takesOut_21 : decode cX11_takesOut 21 = .ok (.iconst 1, 1) := by decide +kernel
theorem dX11_takesOut_22 : decode cX11_takesOut 22 = .ok (.isub, 1) := by decide +kernel
theorem dX11_takesOut_23 : decode cX11_takesOut 23 = .ok (.istore_n 2, 1) := by decide +kernel
theorem dX11_takesOut_24 : decode cX11_takesOut 24 = .ok (.goto (-17), 3) := by decide +kernel
theorem dX11_takesOut_27 : decode cX11_takesOut 27 = .ok (.aload_n 0, 1) := by decide +kernel
theorem dX11_takesOut_28 : decode cX11_takesOut 28 = .ok (.getfield 26, 3) := by decide +kernel
theorem dX11_takesOut_31 : decode cX11_takesOut 31 = .ok (.iload_n 2, 1) := by decide +kernel
theorem dX11_takesOut_32 : decode cX11_takesOut 32 = .ok (.iload_n 1, 1) := by decide +kernel
theorem dX11_takesOut_33 : decode cX11_takesOut 33 = .ok (.invokestatic 333, 3) := by decide +kernel
theorem dX11_takesOut_36 : decode cX11_takesOut 36 = .ok (.aload_n 0, 1) := by decide +kernel
theorem dX11_takesOut_37 : decode cX11_takesOut 37 = .ok (.getfield 26, 3) := by decide +kernel
theorem dX11_takesOut_40 : decode cX11_takesOut 40 = .ok (.iload_n 2, 1) := by decide +kernel
theorem dX11_takesOut_41 : decode cX11_takesOut 41 = .ok (.iload_n 1, 1) := by decide +kernel
theorem dX11_takesOut_42 : decode cX11_takesOut 42 = .ok (.invokestatic 333, 3) := by decide +kernel
theorem dX11_takesOut_45 : decode cX11_takesOut 45 = .ok (.iaload, 1) := by decide +kernel
theorem dX11_takesOut_46 : decode cX11_takesOut 46 = .ok (.iconst 1, 1) := by decide +kernel
theorem dX11_takesOut_47 : decode cX11_takesOut 47 = .ok (.isub, 1) := by decide +kernel
theorem dX11_takesOut_48 : decode cX11_takesOut 48 = .ok (.iastore, 1) := by decide +kernel
theorem dX11_takesOut_49 : decode cX11_takesOut 49 = .ok (.return_, 1) := by decide +kernel
theorem dX11_unload_0 : decode cX11_unload 0 = .ok (.aload_n 0, 1) := by decide +kernel
theorem dX11_unload_1 : decode cX11_unload 1 = .ok (.aload_n 0, 1) := by decide +kernel
theorem dX11_unload_2 : decode cX11_unload 2 = .ok (.iload_n 1, 1) := by decide +kernel
theorem dX11_unload_3 : decode cX11_unload 3 = .ok (.iload_n 2, 1) := by decide +kernel
theorem dX11_unload_4 : decode cX11_unload 4 = .ok (.invokevirtual 428, 3) := by decide +kernel
theorem dX11_unload_7 : decode cX11_unload 7 = .ok (.invokevirtual 98, 3) := by decide +kernel
theorem dX11_unload_10 : decode cX11_unload 10 = .ok (.ifCond .eq 5, 3) := by decide +kernel
theorem dX11_unload_13 : decode cX11_unload 13 = .ok (.iconst 0, 1) := by decide +kernel
theorem dX11_unload_14 : decode cX11_unload 14 = .ok (.ireturn, 1) := by decide +kernel
theorem dX11_unload_15 : decode cX11_unload 15 = .ok (.aload_n 0, 1) := by decide +kernel
theorem dX11_unload_16 : decode cX11_unload 16 = .ok (.aload_n 0, 1) := by decide +kernel
theorem dX11_unload_17 : decode cX11_unload 17 = .ok (.invokevirtual 401, 3) := by decide +kernel
theorem dX11_unload_20 : decode cX11_unload 20 = .ok (.ifCond .ne 7, 3) := by decide +kernel
theorem dX11_unload_23 : decode cX11_unload 23 = .ok (.iconst 1, 1) := by decide +kernel
theorem dX11_unload_24 : decode cX11_unload 24 = .ok (.goto 17, 3) := by decide +kernel
theorem dX11_unload_27 : decode cX11_unload 27 = .ok (.aload_n 0, 1) := by decide +kernel
theorem dX11_unload_28 : decode cX11_unload 28 = .ok (.iload_n 1, 1) := by decide +kernel
theorem dX11_unload_29 : decode cX11_unload 29 = .ok (.invokevirtual 336, 3) := by decide +kernel
theorem dX11_unload_32 : decode cX11_unload 32 = .ok (.iload_n 2, 1) := by decide +kernel
theorem dX11_unload_33 : decode cX11_unload 33 = .ok (.if_icmp .ge 7, 3) := by decide +kernel
theorem dX11_unload_36 : decode cX11_unload 36 = .ok (.iconst 4, 1) := by decide +kernel
theorem dX11_unload_37 : decode cX11_unload 37 = .ok (.goto 4, 3) := by decide +kernel
theorem dX11_unload_40 : decode cX11_unload 40 = .ok (.iconst 0, 1) := by decide +kernel
theorem dX11_unload_41 : decode cX11_unload 41 = .ok (.iconst 3, 1) := by decide +kernel
theorem dX11_unload_42 : decode cX11_unload 42 = .ok (.invokevirtual 407, 3) := by decide +kernel
theorem dX11_unload_45 : decode cX11_unload 45 = .ok (.ifCond .eq 5, 3) := by decide +kernel
theorem dX11_unload_48 : decode cX11_unload 48 = .ok (.iconst 0, 1) := by decide +kernel
theorem dX11_unload_49 : decode cX11_unload 49 = .ok (.ireturn, 1) := by decide +kernel
theorem dX11_unload_50 : decode cX11_unload 50 = .ok (.aload_n 0, 1) := by decide +kernel
theorem dX11_unload_51 : decode cX11_unload 51 = .ok (.invokevirtual 410, 3) := by decide +kernel
theorem dX11_unload_54 : decode cX11_unload 54 = .ok (.iconst 0, 1) := by decide +kernel
theorem dX11_unload_55 : decode cX11_unload 55 = .ok (.istore_n 3, 1) := by decide +kernel
theorem dX11_unload_56 : decode cX11_unload 56 = .ok (.iload_n 3, 1) := by decide +kernel
theorem dX11_unload_57 : decode cX11_unload 57 = .ok (.iload_n 2, 1) := by decide +kernel
theorem dX11_unload_58 : decode cX11_unload 58 = .ok (.if_icmp .ge 14, 3) := by decide +kernel
theorem dX11_unload_61 : decode cX11_unload 61 = .ok (.aload_n 0, 1) := by decide +kernel
theorem dX11_unload_62 : decode cX11_unload 62 = .ok (.iload_n 1, 1) := by decide +kernel
theorem dX11_unload_63 : decode cX11_unload 63 = .ok (.invokevirtual 431, 3) := by decide +kernel
theorem dX11_unload_66 : decode cX11_unload 66 = .ok (.iinc 3 1, 3) := by decide +kernel
theorem dX11_unload_69 : decode cX11_unload 69 = .ok (.goto (-13), 3) := by decide +kernel
theorem dX11_unload_72 : decode cX11_unload 72 = .ok (.aload_n 0, 1) := by decide +kernel
theorem dX11_unload_73 : decode cX11_unload 73 = .ok (.iload_n 1, 1) := by decide +kernel
theorem dX11_unload_74 : decode cX11_unload 74 = .ok (.invokevirtual 336, 3) := by decide +kernel
theorem dX11_unload_77 : decode cX11_unload 77 = .ok (.ireturn, 1) := by decide +kernel
theorem dX11_whyNotTopUp_0 : decode cX11_whyNotTopUp 0 = .ok (.aload_n 0, 1) := by decide +kernel
theorem dX11_whyNotTopUp_1 : decode cX11_whyNotTopUp 1 = .ok (.invokevirtual 401, 3) := by decide +kernel
theorem dX11_whyNotTopUp_4 : decode cX11_whyNotTopUp 4 = .ok (.ifCond .ne 5, 3) := by decide +kernel
theorem dX11_whyNotTopUp_7 : decode cX11_whyNotTopUp 7 = .ok (.iconst 1, 1) := by decide +kernel
theorem dX11_whyNotTopUp_8 : decode cX11_whyNotTopUp 8 = .ok (.ireturn, 1) := by decide +kernel
theorem dX11_whyNotTopUp_9 : decode cX11_whyNotTopUp 9 = .ok (.aload_n 0, 1) := by decide +kernel
theorem dX11_whyNotTopUp_10 : decode cX11_whyNotTopUp 10 = .ok (.getfield 26, 3) := by decide +kernel
theorem dX11_whyNotTopUp_13 : decode cX11_whyNotTopUp 13 = .ok (.iconst 4, 1) := by decide +kernel
theorem dX11_whyNotTopUp_14 : decode cX11_whyNotTopUp 14 = .ok (.iaload, 1) := by decide +kernel
theorem dX11_whyNotTopUp_15 : decode cX11_whyNotTopUp 15 = .ok (.bipush 6, 2) := by decide +kernel
theorem dX11_whyNotTopUp_17 : decode cX11_whyNotTopUp 17 = .ok (.if_icmp .ne 5, 3) := by decide +kernel
theorem dX11_whyNotTopUp_20 : decode cX11_whyNotTopUp 20 = .ok (.iconst 5, 1) := by decide +kernel
theorem dX11_whyNotTopUp_21 : decode cX11_whyNotTopUp 21 = .ok (.ireturn, 1) := by decide +kernel
theorem dX11_whyNotTopUp_22 : decode cX11_whyNotTopUp 22 = .ok (.aload_n 0, 1) := by decide +kernel
theorem dX11_whyNotTopUp_23 : decode cX11_whyNotTopUp 23 = .ok (.getfield 26, 3) := by decide +kernel
theorem dX11_whyNotTopUp_26 : decode cX11_whyNotTopUp 26 = .ok (.iconst 2, 1) := by decide +kernel
theorem dX11_whyNotTopUp_27 : decode cX11_whyNotTopUp 27 = .ok (.iaload, 1) := by decide +kernel
theorem dX11_whyNotTopUp_28 : decode cX11_whyNotTopUp 28 = .ok (.aload_n 0, 1) := by decide +kernel
theorem dX11_whyNotTopUp_29 : decode cX11_whyNotTopUp 29 = .ok (.getfield 7, 3) := by decide +kernel
theorem dX11_whyNotTopUp_32 : decode cX11_whyNotTopUp 32 = .ok (.iconst 4, 1) := by decide +kernel
theorem dX11_whyNotTopUp_33 : decode cX11_whyNotTopUp 33 = .ok (.iaload, 1) := by decide +kernel
theorem dX11_whyNotTopUp_34 : decode cX11_whyNotTopUp 34 = .ok (.if_icmp .ge 8, 3) := by decide +kernel
theorem dX11_whyNotTopUp_37 : decode cX11_whyNotTopUp 37 = .ok (.bipush 6, 2) := by decide +kernel
theorem dX11_whyNotTopUp_39 : decode cX11_whyNotTopUp 39 = .ok (.goto 4, 3) := by decide +kernel
theorem dX11_whyNotTopUp_42 : decode cX11_whyNotTopUp 42 = .ok (.iconst 0, 1) := by decide +kernel
theorem dX11_whyNotTopUp_43 : decode cX11_whyNotTopUp 43 = .ok (.ireturn, 1) := by decide +kernel
theorem dX11_topUp_0 : decode cX11_topUp 0 = .ok (.aload_n 0, 1) := by decide +kernel
theorem dX11_topUp_1 : decode cX11_topUp 1 = .ok (.aload_n 0, 1) := by decide +kernel
theorem dX11_topUp_2 : decode cX11_topUp 2 = .ok (.iload_n 1, 1) := by decide +kernel
theorem dX11_topUp_3 : decode cX11_topUp 3 = .ok (.iload_n 2, 1) := by decide +kernel
theorem dX11_topUp_4 : decode cX11_topUp 4 = .ok (.invokevirtual 428, 3) := by decide +kernel
theorem dX11_topUp_7 : decode cX11_topUp 7 = .ok (.invokevirtual 98, 3) := by decide +kernel
theorem dX11_topUp_10 : decode cX11_topUp 10 = .ok (.ifCond .eq 5, 3) := by decide +kernel
theorem dX11_topUp_13 : decode cX11_topUp 13 = .ok (.iconst 0, 1) := by decide +kernel
theorem dX11_topUp_14 : decode cX11_topUp 14 = .ok (.ireturn, 1) := by decide +kernel
theorem dX11_topUp_15 : decode cX11_topUp 15 = .ok (.aload_n 0, 1) := by decide +kernel
theorem dX11_topUp_16 : decode cX11_topUp 16 = .ok (.aload_n 0, 1) := by decide +kernel
theorem dX11_topUp_17 : decode cX11_topUp 17 = .ok (.invokevirtual 434, 3) := by decide +kernel
theorem dX11_topUp_20 : decode cX11_topUp 20 = .ok (.iconst 3, 1) := by decide +kernel
theorem dX11_topUp_21 : decode cX11_topUp 21 = .ok (.invokevirtual 407, 3) := by decide +kernel
theorem dX11_topUp_24 : decode cX11_topUp 24 = .ok (.ifCond .eq 5, 3) := by decide +kernel
theorem dX11_topUp_27 : decode cX11_topUp 27 = .ok (.iconst 0, 1) := by decide +kernel
theorem dX11_topUp_28 : decode cX11_topUp 28 = .ok (.ireturn, 1) := by decide +kernel
theorem dX11_topUp_29 : decode cX11_topUp 29 = .ok (.aload_n 0, 1) := by decide +kernel
theorem dX11_topUp_30 : decode cX11_topUp 30 = .ok (.invokevirtual 410, 3) := by decide +kernel
theorem dX11_topUp_33 : decode cX11_topUp 33 = .ok (.aload_n 0, 1) := by decide +kernel
theorem dX11_topUp_34 : decode cX11_topUp 34 = .ok (.getfield 7, 3) := by decide +kernel
theorem dX11_topUp_37 : decode cX11_topUp 37 = .ok (.iconst 4, 1) := by decide +kernel
theorem dX11_topUp_38 : decode cX11_topUp 38 = .ok (.iaload, 1) := by decide +kernel
theorem dX11_topUp_39 : decode cX11_topUp 39 = .ok (.ifCond .ne 17, 3) := by decide +kernel
theorem dX11_topUp_42 : decode cX11_topUp 42 = .ok (.aload_n 0, 1) := by decide +kernel
theorem dX11_topUp_43 : decode cX11_topUp 43 = .ok (.iload_n 1, 1) := by decide +kernel
theorem dX11_topUp_44 : decode cX11_topUp 44 = .ok (.iload_n 2, 1) := by decide +kernel
theorem dX11_topUp_45 : decode cX11_topUp 45 = .ok (.invokevirtual 413, 3) := by decide +kernel
theorem dX11_topUp_48 : decode cX11_topUp 48 = .ok (.istore_n 3, 1) := by decide +kernel
theorem dX11_topUp_49 : decode cX11_topUp 49 = .ok (.aload_n 0, 1) := by decide +kernel
theorem dX11_topUp_50 : decode cX11_topUp 50 = .ok (.getfield 26, 3) := by decide +kernel
theorem dX11_topUp_53 : decode cX11_topUp 53 = .ok (.iconst 4, 1) := by decide +kernel
theorem dX11_topUp_54 : decode cX11_topUp 54 = .ok (.iaload, 1) := by decide +kernel
theorem dX11_topUp_55 : decode cX11_topUp 55 = .ok (.ireturn, 1) := by decide +kernel
theorem dX11_topUp_56 : decode cX11_topUp 56 = .ok (.sipush 261, 3) := by decide +kernel
theorem dX11_topUp_59 : decode cX11_topUp 59 = .ok (.iconst 3, 1) := by decide +kernel
theorem dX11_topUp_60 : decode cX11_topUp 60 = .ok (.aload_n 0, 1) := by decide +kernel
theorem dX11_topUp_61 : decode cX11_topUp 61 = .ok (.getfield 26, 3) := by decide +kernel
theorem dX11_topUp_64 : decode cX11_topUp 64 = .ok (.iconst 4, 1) := by decide +kernel
theorem dX11_topUp_65 : decode cX11_topUp 65 = .ok (.iaload, 1) := by decide +kernel
theorem dX11_topUp_66 : decode cX11_topUp 66 = .ok (.imul, 1) := by decide +kernel
theorem dX11_topUp_67 : decode cX11_topUp 67 = .ok (.iadd, 1) := by decide +kernel
theorem dX11_topUp_68 : decode cX11_topUp 68 = .ok (.istore_n 3, 1) := by decide +kernel
theorem dX11_topUp_69 : decode cX11_topUp 69 = .ok (.aload_n 0, 1) := by decide +kernel
theorem dX11_topUp_70 : decode cX11_topUp 70 = .ok (.getfield 26, 3) := by decide +kernel
theorem dX11_topUp_73 : decode cX11_topUp 73 = .ok (.iload_n 3, 1) := by decide +kernel
theorem dX11_topUp_74 : decode cX11_topUp 74 = .ok (.iload_n 1, 1) := by decide +kernel
theorem dX11_topUp_75 : decode cX11_topUp 75 = .ok (.iastore, 1) := by decide +kernel
theorem dX11_topUp_76 : decode cX11_topUp 76 = .ok (.aload_n 0, 1) := by decide +kernel
theorem dX11_topUp_77 : decode cX11_topUp 77 = .ok (.getfield 26, 3) := by decide +kernel
theorem dX11_topUp_80 : decode cX11_topUp 80 = .ok (.iload_n 3, 1) := by decide +kernel
theorem dX11_topUp_81 : decode cX11_topUp 81 = .ok (.iconst 1, 1) := by decide +kernel
theorem dX11_topUp_82 : decode cX11_topUp 82 = .ok (.iadd, 1) := by decide +kernel
theorem dX11_topUp_83 : decode cX11_topUp 83 = .ok (.iload_n 2, 1) := by decide +kernel
theorem dX11_topUp_84 : decode cX11_topUp 84 = .ok (.iastore, 1) := by decide +kernel
theorem dX11_topUp_85 : decode cX11_topUp 85 = .ok (.aload_n 0, 1) := by decide +kernel
theorem dX11_topUp_86 : decode cX11_topUp 86 = .ok (.getfield 26, 3) := by decide +kernel
theorem dX11_topUp_89 : decode cX11_topUp 89 = .ok (.iload_n 3, 1) := by decide +kernel
theorem dX11_topUp_90 : decode cX11_topUp 90 = .ok (.iconst 2, 1) := by decide +kernel
theorem dX11_topUp_91 : decode cX11_topUp 91 = .ok (.iadd, 1) := by decide +kernel
theorem dX11_topUp_92 : decode cX11_topUp 92 = .ok (.aload_n 0, 1) := by decide +kernel
theorem dX11_topUp_93 : decode cX11_topUp 93 = .ok (.getfield 26, 3) := by decide +kernel
theorem dX11_topUp_96 : decode cX11_topUp 96 = .ok (.iconst 2, 1) := by decide +kernel
theorem dX11_topUp_97 : decode cX11_topUp 97 = .ok (.iaload, 1) := by decide +kernel
theorem dX11_topUp_98 : decode cX11_topUp 98 = .ok (.aload_n 0, 1) := by decide +kernel
theorem dX11_topUp_99 : decode cX11_topUp 99 = .ok (.getfield 7, 3) := by decide +kernel
theorem dX11_topUp_102 : decode cX11_topUp 102 = .ok (.iconst 4, 1) := by decide +kernel
theorem dX11_topUp_103 : decode cX11_topUp 103 = .ok (.iaload, 1) := by decide +kernel
theorem dX11_topUp_104 : decode cX11_topUp 104 = .ok (.isub, 1) := by decide +kernel
theorem dX11_topUp_105 : decode cX11_topUp 105 = .ok (.iastore, 1) := by decide +kernel
theorem dX11_topUp_106 : decode cX11_topUp 106 = .ok (.aload_n 0, 1) := by decide +kernel
theorem dX11_topUp_107 : decode cX11_topUp 107 = .ok (.getfield 26, 3) := by decide +kernel
theorem dX11_topUp_110 : decode cX11_topUp 110 = .ok (.iconst 4, 1) := by decide +kernel
theorem dX11_topUp_111 : decode cX11_topUp 111 = .ok (.aload_n 0, 1) := by decide +kernel
theorem dX11_topUp_112 : decode cX11_topUp 112 = .ok (.getfield 26, 3) := by decide +kernel
theorem dX11_topUp_115 : decode cX11_topUp 115 = .ok (.iconst 4, 1) := by decide +kernel
theorem dX11_topUp_116 : decode cX11_topUp 116 = .ok (.iaload, 1) := by decide +kernel
theorem dX11_topUp_117 : decode cX11_topUp 117 = .ok (.iconst 1, 1) := by decide +kernel
theorem dX11_topUp_118 : decode cX11_topUp 118 = .ok (.iadd, 1) := by decide +kernel
theorem dX11_topUp_119 : decode cX11_topUp 119 = .ok (.iastore, 1) := by decide +kernel
theorem dX11_topUp_120 : decode cX11_topUp 120 = .ok (.aload_n 0, 1) := by decide +kernel
theorem dX11_topUp_121 : decode cX11_topUp 121 = .ok (.getfield 26, 3) := by decide +kernel
theorem dX11_topUp_124 : decode cX11_topUp 124 = .ok (.iconst 4, 1) := by decide +kernel
theorem dX11_topUp_125 : decode cX11_topUp 125 = .ok (.iaload, 1) := by decide +kernel
theorem dX11_topUp_126 : decode cX11_topUp 126 = .ok (.ireturn, 1) := by decide +kernel
theorem dX11_arrives_0 : decode cX11_arrives 0 = .ok (.aload_n 0, 1) := by decide +kernel
theorem dX11_arrives_1 : decode cX11_arrives 1 = .ok (.getfield 26, 3) := by decide +kernel
theorem dX11_arrives_4 : decode cX11_arrives 4 = .ok (.sipush 261, 3) := by decide +kernel
theorem dX11_arrives_7 : decode cX11_arrives 7 = .ok (.iaload, 1) := by decide +kernel
theorem dX11_arrives_8 : decode cX11_arrives 8 = .ok (.istore_n 1, 1) := by decide +kernel
theorem dX11_arrives_9 : decode cX11_arrives 9 = .ok (.aload_n 0, 1) := by decide +kernel
theorem dX11_arrives_10 : decode cX11_arrives 10 = .ok (.getfield 26, 3) := by decide +kernel
theorem dX11_arrives_13 : decode cX11_arrives 13 = .ok (.sipush 262, 3) := by decide +kernel
theorem dX11_arrives_16 : decode cX11_arrives 16 = .ok (.iaload, 1) := by decide +kernel
theorem dX11_arrives_17 : decode cX11_arrives 17 = .ok (.istore_n 2, 1) := by decide +kernel
theorem dX11_arrives_18 : decode cX11_arrives 18 = .ok (.aload_n 0, 1) := by decide +kernel
theorem dX11_arrives_19 : decode cX11_arrives 19 = .ok (.getfield 26, 3) := by decide +kernel
theorem dX11_arrives_22 : decode cX11_arrives 22 = .ok (.iconst 4, 1) := by decide +kernel
theorem dX11_arrives_23 : decode cX11_arrives 23 = .ok (.aload_n 0, 1) := by decide +kernel
theorem dX11_arrives_24 : decode cX11_arrives 24 = .ok (.getfield 26, 3) := by decide +kernel
theorem dX11_arrives_27 : decode cX11_arrives 27 = .ok (.iconst 4, 1) := by decide +kernel
theorem dX11_arrives_28 : decode cX11_arrives 28 = .ok (.iaload, 1) := by decide +kernel
theorem dX11_arrives_29 : decode cX11_arrives 29 = .ok (.iconst 1, 1) := by decide +kernel
theorem dX11_arrives_30 : decode cX11_arrives 30 = .ok (.isub, 1) := by decide +kernel
theorem dX11_arrives_31 : decode cX11_arrives 31 = .ok (.iastore, 1) := by decide +kernel
theorem dX11_arrives_32 : decode cX11_arrives 32 = .ok (.iconst 0, 1) := by decide +kernel
theorem dX11_arrives_33 : decode cX11_arrives 33 = .ok (.istore_n 3, 1) := by decide +kernel
theorem dX11_arrives_34 : decode cX11_arrives 34 = .ok (.iload_n 3, 1) := by decide +kernel
theorem dX11_arrives_35 : decode cX11_arrives 35 = .ok (.iconst 3, 1) := by decide +kernel
theorem dX11_arrives_36 : decode cX11_arrives 36 = .ok (.aload_n 0, 1) := by decide +kernel
theorem dX11_arrives_37 : decode cX11_arrives 37 = .ok (.getfield 26, 3) := by decide +kernel
theorem dX11_arrives_40 : decode cX11_arrives 40 = .ok (.iconst 4, 1) := by decide +kernel
theorem dX11_arrives_41 : decode cX11_arrives 41 = .ok (.iaload, 1) := by decide +kernel
theorem dX11_arrives_42 : decode cX11_arrives 42 = .ok (.imul, 1) := by decide +kernel
theorem dX11_arrives_43 : decode cX11_arrives 43 = .ok (.if_icmp .ge 31, 3) := by decide +kernel
theorem dX11_arrives_46 : decode cX11_arrives 46 = .ok (.aload_n 0, 1) := by decide +kernel
theorem dX11_arrives_47 : decode cX11_arrives 47 = .ok (.getfield 26, 3) := by decide +kernel
theorem dX11_arrives_50 : decode cX11_arrives 50 = .ok (.sipush 261, 3) := by decide +kernel
theorem dX11_arrives_53 : decode cX11_arrives 53 = .ok (.iload_n 3, 1) := by decide +kernel
theorem dX11_arrives_54 : decode cX11_arrives 54 = .ok (.iadd, 1) := by decide +kernel
theorem dX11_arrives_55 : decode cX11_arrives 55 = .ok (.aload_n 0, 1) := by decide +kernel
theorem dX11_arrives_56 : decode cX11_arrives 56 = .ok (.getfield 26, 3) := by decide +kernel
theorem dX11_arrives_59 : decode cX11_arrives 59 = .ok (.sipush 261, 3) := by decide +kernel
theorem dX11_arrives_62 : decode cX11_arrives 62 = .ok (.iload_n 3, 1) := by decide +kernel
theorem dX11_arrives_63 : decode cX11_arrives 63 = .ok (.iadd, 1) := by decide +kernel
theorem dX11_arrives_64 : decode cX11_arrives 64 = .ok (.iconst 3, 1) := by decide +kernel
theorem dX11_arrives_65 : decode cX11_arrives 65 = .ok (.iadd, 1) := by decide +kernel
theorem dX11_arrives_66 : decode cX11_arrives 66 = .ok (.iaload, 1) := by decide +kernel
theorem dX11_arrives_67 : decode cX11_arrives 67 = .ok (.iastore, 1) := by decide +kernel
theorem dX11_arrives_68 : decode cX11_arrives 68 = .ok (.iinc 3 1, 3) := by decide +kernel
theorem dX11_arrives_71 : decode cX11_arrives 71 = .ok (.goto (-37), 3) := by decide +kernel
theorem dX11_arrives_74 : decode cX11_arrives 74 = .ok (.iload_n 2, 1) := by decide +kernel
theorem dX11_arrives_75 : decode cX11_arrives 75 = .ok (.aload_n 0, 1) := by decide +kernel
theorem dX11_arrives_76 : decode cX11_arrives 76 = .ok (.iload_n 1, 1) := by decide +kernel
theorem dX11_arrives_77 : decode cX11_arrives 77 = .ok (.iload_n 2, 1) := by decide +kernel
theorem dX11_arrives_78 : decode cX11_arrives 78 = .ok (.invokevirtual 413, 3) := by decide +kernel
theorem dX11_arrives_81 : decode cX11_arrives 81 = .ok (.isub, 1) := by decide +kernel
theorem dX11_arrives_82 : decode cX11_arrives 82 = .ok (.ireturn, 1) := by decide +kernel
theorem dX11_advance_0 : decode cX11_advance 0 = .ok (.aload_n 0, 1) := by decide +kernel
theorem dX11_advance_1 : decode cX11_advance 1 = .ok (.iload_n 1, 1) := by decide +kernel
theorem dX11_advance_2 : decode cX11_advance 2 = .ok (.iconst 1, 1) := by decide +kernel
theorem dX11_advance_3 : decode cX11_advance 3 = .ok (.sipush 999, 3) := by decide +kernel
theorem dX11_advance_6 : decode cX11_advance 6 = .ok (.invokestatic 102, 3) := by decide +kernel
theorem dX11_advance_9 : decode cX11_advance 9 = .ok (.ifCond .eq 7, 3) := by decide +kernel
theorem dX11_advance_12 : decode cX11_advance 12 = .ok (.iconst 0, 1) := by decide +kernel
theorem dX11_advance_13 : decode cX11_advance 13 = .ok (.goto 4, 3) := by decide +kernel
theorem dX11_advance_16 : decode cX11_advance 16 = .ok (.iconst 1, 1) := by decide +kernel
theorem dX11_advance_17 : decode cX11_advance 17 = .ok (.invokevirtual 98, 3) := by decide +kernel
theorem dX11_advance_20 : decode cX11_advance 20 = .ok (.ifCond .eq 5, 3) := by decide +kernel
theorem dX11_advance_23 : decode cX11_advance 23 = .ok (.iconst 0, 1) := by decide +kernel
theorem dX11_advance_24 : decode cX11_advance 24 = .ok (.ireturn, 1) := by decide +kernel
theorem dX11_advance_25 : decode cX11_advance 25 = .ok (.aload_n 0, 1) := by decide +kernel
theorem dX11_advance_26 : decode cX11_advance 26 = .ok (.aload_n 0, 1) := by decide +kernel
theorem dX11_advance_27 : decode cX11_advance 27 = .ok (.invokevirtual 401, 3) := by decide +kernel
theorem dX11_advance_30 : decode cX11_advance 30 = .ok (.ifCond .ne 7, 3) := by decide +kernel
theorem dX11_advance_33 : decode cX11_advance 33 = .ok (.iconst 1, 1) := by decide +kernel
theorem dX11_advance_34 : decode cX11_advance 34 = .ok (.goto 19, 3) := by decide +kernel
theorem dX11_advance_37 : decode cX11_advance 37 = .ok (.aload_n 0, 1) := by decide +kernel
theorem dX11_advance_38 : decode cX11_advance 38 = .ok (.getfield 26, 3) := by decide +kernel
theorem dX11_advance_41 : decode cX11_advance 41 = .ok (.iconst 2, 1) := by decide +kernel
theorem dX11_advance_42 : decode cX11_advance 42 = .ok (.iaload, 1) := by decide +kernel
theorem dX11_advance_43 : decode cX11_advance 43 = .ok (.iload_n 1, 1) := by decide +kernel
theorem dX11_advance_44 : decode cX11_advance 44 = .ok (.if_icmp .ge 8, 3) := by decide +kernel
theorem dX11_advance_47 : decode cX11_advance 47 = .ok (.bipush 7, 2) := by decide +kernel
theorem dX11_advance_49 : decode cX11_advance 49 = .ok (.goto 4, 3) := by decide +kernel
theorem dX11_advance_52 : decode cX11_advance 52 = .ok (.iconst 0, 1) := by decide +kernel
theorem dX11_advance_53 : decode cX11_advance 53 = .ok (.iconst 2, 1) := by decide +kernel
theorem dX11_advance_54 : decode cX11_advance 54 = .ok (.invokevirtual 407, 3) := by decide +kernel
theorem dX11_advance_57 : decode cX11_advance 57 = .ok (.ifCond .eq 5, 3) := by decide +kernel
theorem dX11_advance_60 : decode cX11_advance 60 = .ok (.iconst 0, 1) := by decide +kernel
theorem dX11_advance_61 : decode cX11_advance 61 = .ok (.ireturn, 1) := by decide +kernel
theorem dX11_advance_62 : decode cX11_advance 62 = .ok (.aload_n 0, 1) := by decide +kernel
theorem dX11_advance_63 : decode cX11_advance 63 = .ok (.invokevirtual 410, 3) := by decide +kernel
theorem dX11_advance_66 : decode cX11_advance 66 = .ok (.aload_n 0, 1) := by decide +kernel
theorem dX11_advance_67 : decode cX11_advance 67 = .ok (.getfield 26, 3) := by decide +kernel
theorem dX11_advance_70 : decode cX11_advance 70 = .ok (.iconst 2, 1) := by decide +kernel
theorem dX11_advance_71 : decode cX11_advance 71 = .ok (.aload_n 0, 1) := by decide +kernel
theorem dX11_advance_72 : decode cX11_advance 72 = .ok (.getfield 26, 3) := by decide +kernel
theorem dX11_advance_75 : decode cX11_advance 75 = .ok (.iconst 2, 1) := by decide +kernel
theorem dX11_advance_76 : decode cX11_advance 76 = .ok (.iaload, 1) := by decide +kernel
theorem dX11_advance_77 : decode cX11_advance 77 = .ok (.iload_n 1, 1) := by decide +kernel
theorem dX11_advance_78 : decode cX11_advance 78 = .ok (.isub, 1) := by decide +kernel
theorem dX11_advance_79 : decode cX11_advance 79 = .ok (.iastore, 1) := by decide +kernel
theorem dX11_advance_80 : decode cX11_advance 80 = .ok (.iconst 0, 1) := by decide +kernel
theorem dX11_advance_81 : decode cX11_advance 81 = .ok (.istore_n 2, 1) := by decide +kernel
theorem dX11_advance_82 : decode cX11_advance 82 = .ok (.aload_n 0, 1) := by decide +kernel
theorem dX11_advance_83 : decode cX11_advance 83 = .ok (.getfield 26, 3) := by decide +kernel
theorem dX11_advance_86 : decode cX11_advance 86 = .ok (.iconst 4, 1) := by decide +kernel
theorem dX11_advance_87 : decode cX11_advance 87 = .ok (.iaload, 1) := by decide +kernel
theorem dX11_advance_88 : decode cX11_advance 88 = .ok (.ifCond .le 30, 3) := by decide +kernel
theorem dX11_advance_91 : decode cX11_advance 91 = .ok (.aload_n 0, 1) := by decide +kernel
theorem dX11_advance_92 : decode cX11_advance 92 = .ok (.getfield 26, 3) := by decide +kernel
theorem dX11_advance_95 : decode cX11_advance 95 = .ok (.sipush 263, 3) := by decide +kernel
theorem dX11_advance_98 : decode cX11_advance 98 = .ok (.iaload, 1) := by decide +kernel
theorem dX11_advance_99 : decode cX11_advance 99 = .ok (.aload_n 0, 1) := by decide +kernel
theorem dX11_advance_100 : decode cX11_advance 100 = .ok (.getfield 26, 3) := by decide +kernel
theorem dX11_advance_103 : decode cX11_advance 103 = .ok (.iconst 2, 1) := by decide +kernel
theorem dX11_advance_104 : decode cX11_advance 104 = .ok (.iaload, 1) := by decide +kernel
theorem dX11_advance_105 : decode cX11_advance 105 = .ok (.if_icmp .lt 13, 3) := by decide +kernel
theorem dX11_advance_108 : decode cX11_advance 108 = .ok (.iload_n 2, 1) := by decide +kernel
theorem dX11_advance_109 : decode cX11_advance 109 = .ok (.aload_n 0, 1) := by decide +kernel
theorem dX11_advance_110 : decode cX11_advance 110 = .ok (.invokevirtual 437, 3) := by decide +kernel
theorem dX11_advance_113 : decode cX11_advance 113 = .ok (.iadd, 1) := by decide +kernel
theorem dX11_advance_114 : decode cX11_advance 114 = .ok (.istore_n 2, 1) := by decide +kernel
theorem dX11_advance_115 : decode cX11_advance 115 = .ok (.goto (-33), 3) := by decide +kernel
theorem dX11_advance_118 : decode cX11_advance 118 = .ok (.iload_n 2, 1) := by decide +kernel
theorem dX11_advance_119 : decode cX11_advance 119 = .ok (.ireturn, 1) := by decide +kernel
theorem dX11_reason_0 : decode cX11_reason 0 = .ok (.aload_n 0, 1) := by decide +kernel
theorem dX11_reason_1 : decode cX11_reason 1 = .ok (.aload_n 0, 1) := by decide +kernel
theorem dX11_reason_2 : decode cX11_reason 2 = .ok (.getfield 285, 3) := by decide +kernel
theorem dX11_reason_5 : decode cX11_reason 5 = .ok (.invokevirtual 124, 3) := by decide +kernel
theorem dX11_reason_8 : decode cX11_reason 8 = .ok (.ireturn, 1) := by decide +kernel
theorem dX11_laysUnits_0 : decode cX11_laysUnits 0 = .ok (.iconst 0, 1) := by decide +kernel
theorem dX11_laysUnits_1 : decode cX11_laysUnits 1 = .ok (.istore_n 1, 1) := by decide +kernel
theorem dX11_laysUnits_2 : decode cX11_laysUnits 2 = .ok (.iload_n 1, 1) := by decide +kernel
theorem dX11_laysUnits_3 : decode cX11_laysUnits 3 = .ok (.aload_n 0, 1) := by decide +kernel
theorem dX11_laysUnits_4 : decode cX11_laysUnits 4 = .ok (.invokevirtual 300, 3) := by decide +kernel
theorem dX11_laysUnits_7 : decode cX11_laysUnits 7 = .ok (.if_icmp .ge 20, 3) := by decide +kernel
theorem dX11_laysUnits_10 : decode cX11_laysUnits 10 = .ok (.aload_n 0, 1) := by decide +kernel
theorem dX11_laysUnits_11 : decode cX11_laysUnits 11 = .ok (.getfield 76, 3) := by decide +kernel
theorem dX11_laysUnits_14 : decode cX11_laysUnits 14 = .ok (.iload_n 1, 1) := by decide +kernel
theorem dX11_laysUnits_15 : decode cX11_laysUnits 15 = .ok (.aload_n 0, 1) := by decide +kernel
theorem dX11_laysUnits_16 : decode cX11_laysUnits 16 = .ok (.iload_n 1, 1) := by decide +kernel
theorem dX11_laysUnits_17 : decode cX11_laysUnits 17 = .ok (.invokevirtual 336, 3) := by decide +kernel
theorem dX11_laysUnits_20 : decode cX11_laysUnits 20 = .ok (.iastore, 1) := by decide +kernel
theorem dX11_laysUnits_21 : decode cX11_laysUnits 21 = .ok (.iinc 1 1, 3) := by decide +kernel
theorem dX11_laysUnits_24 : decode cX11_laysUnits 24 = .ok (.goto (-22), 3) := by decide +kernel
theorem dX11_laysUnits_27 : decode cX11_laysUnits 27 = .ok (.return_, 1) := by decide +kernel
theorem dX11_freeMeal_0 : decode cX11_freeMeal 0 = .ok (.iconst 0, 1) := by decide +kernel
theorem dX11_freeMeal_1 : decode cX11_freeMeal 1 = .ok (.istore_n 2, 1) := by decide +kernel
theorem dX11_freeMeal_2 : decode cX11_freeMeal 2 = .ok (.iconst 0, 1) := by decide +kernel
theorem dX11_freeMeal_3 : decode cX11_freeMeal 3 = .ok (.istore_n 3, 1) := by decide +kernel
theorem dX11_freeMeal_4 : decode cX11_freeMeal 4 = .ok (.iload_n 3, 1) := by decide +kernel
theorem dX11_freeMeal_5 : decode cX11_freeMeal 5 = .ok (.aload_n 0, 1) := by decide +kernel
theorem dX11_freeMeal_6 : decode cX11_freeMeal 6 = .ok (.invokevirtual 300, 3) := by decide +kernel
theorem dX11_freeMeal_9 : decode cX11_freeMeal 9 = .ok (.if_icmp .ge 43, 3) := by decide +kernel
theorem dX11_freeMeal_12 : decode cX11_freeMeal 12 = .ok (.aload_n 0, 1) := by decide +kernel
theorem dX11_freeMeal_13 : decode cX11_freeMeal 13 = .ok (.getfield 79, 3) := by decide +kernel
theorem dX11_freeMeal_16 : decode cX11_freeMeal 16 = .ok (.iload_n 3, 1) := by decide +kernel
theorem dX11_freeMeal_17 : decode cX11_freeMeal 17 = .ok (.iconst (-1), 1) := by decide +kernel
theorem dX11_freeMeal_18 : decode cX11_freeMeal 18 = .ok (.iastore, 1) := by decide +kernel
theorem dX11_freeMeal_19 : decode cX11_freeMeal 19 = .ok (.aload_n 0, 1) := by decide +kernel
theorem dX11_freeMeal_20 : decode cX11_freeMeal 20 = .ok (.iload_n 3, 1) := by decide +kernel
theorem dX11_freeMeal_21 : decode cX11_freeMeal 21 = .ok (.iload_n 1, 1) := by decide +kernel
theorem dX11_freeMeal_22 : decode cX11_freeMeal 22 = .ok (.invokevirtual 303, 3) := by decide +kernel
theorem dX11_freeMeal_25 : decode cX11_freeMeal 25 = .ok (.ifCond .eq 21, 3) := by decide +kernel
theorem dX11_freeMeal_28 : decode cX11_freeMeal 28 = .ok (.aload_n 0, 1) := by decide +kernel
theorem dX11_freeMeal_29 : decode cX11_freeMeal 29 = .ok (.getfield 79, 3) := by decide +kernel
theorem dX11_freeMeal_32 : decode cX11_freeMeal 32 = .ok (.iload_n 3, 1) := by decide +kernel
theorem dX11_freeMeal_33 : decode cX11_freeMeal 33 = .ok (.iload_n 1, 1) := by decide +kernel
theorem dX11_freeMeal_34 : decode cX11_freeMeal 34 = .ok (.iastore, 1) := by decide +kernel
theorem dX11_freeMeal_35 : decode cX11_freeMeal 35 = .ok (.aload_n 0, 1) := by decide +kernel
theorem dX11_freeMeal_36 : decode cX11_freeMeal 36 = .ok (.getfield 82, 3) := by decide +kernel
theorem dX11_freeMeal_39 : decode cX11_freeMeal 39 = .ok (.iload_n 2, 1) := by decide +kernel
theorem dX11_freeMeal_40 : decode cX11_freeMeal 40 = .ok (.iload_n 3, 1) := by decide +kernel
theorem dX11_freeMeal_41 : decode cX11_freeMeal 41 = .ok (.iastore, 1) := by decide +kernel
theorem dX11_freeMeal_42 : decode cX11_freeMeal 42 = .ok (.iload_n 2, 1) := by decide +kernel
theorem dX11_freeMeal_43 : decode cX11_freeMeal 43 = .ok (.iconst 1, 1) := by decide +kernel
theorem dX11_freeMeal_44 : decode cX11_freeMeal 44 = .ok (.iadd, 1) := by decide +kernel
theorem dX11_freeMeal_45 : decode cX11_freeMeal 45 = .ok (.istore_n 2, 1) := by decide +kernel
theorem dX11_freeMeal_46 : decode cX11_freeMeal 46 = .ok (.iinc 3 1, 3) := by decide +kernel
theorem dX11_freeMeal_49 : decode cX11_freeMeal 49 = .ok (.goto (-45), 3) := by decide +kernel
theorem dX11_freeMeal_52 : decode cX11_freeMeal 52 = .ok (.iconst 0, 1) := by decide +kernel
theorem dX11_freeMeal_53 : decode cX11_freeMeal 53 = .ok (.istore_n 3, 1) := by decide +kernel
theorem dX11_freeMeal_54 : decode cX11_freeMeal 54 = .ok (.iload_n 3, 1) := by decide +kernel
theorem dX11_freeMeal_55 : decode cX11_freeMeal 55 = .ok (.iload_n 2, 1) := by decide +kernel
theorem dX11_freeMeal_56 : decode cX11_freeMeal 56 = .ok (.if_icmp .ge 150, 3) := by decide +kernel
theorem dX11_freeMeal_59 : decode cX11_freeMeal 59 = .ok (.aload_n 0, 1) := by decide +kernel
theorem dX11_freeMeal_60 : decode cX11_freeMeal 60 = .ok (.getfield 76, 3) := by decide +kernel
theorem dX11_freeMeal_63 : decode cX11_freeMeal 63 = .ok (.aload_n 0, 1) := by decide +kernel
theorem dX11_freeMeal_64 : decode cX11_freeMeal 64 = .ok (.getfield 82, 3) := by decide +kernel
theorem dX11_freeMeal_67 : decode cX11_freeMeal 67 = .ok (.iload_n 3, 1) := by decide +kernel
theorem dX11_freeMeal_68 : decode cX11_freeMeal 68 = .ok (.iaload, 1) := by decide +kernel
theorem dX11_freeMeal_69 : decode cX11_freeMeal 69 = .ok (.iaload, 1) := by decide +kernel
theorem dX11_freeMeal_70 : decode cX11_freeMeal 70 = .ok (.ifCond .le 10, 3) := by decide +kernel
theorem dX11_freeMeal_73 : decode cX11_freeMeal 73 = .ok (.aload_n 0, 1) := by decide +kernel
theorem dX11_freeMeal_74 : decode cX11_freeMeal 74 = .ok (.getfield 82, 3) := by decide +kernel
theorem dX11_freeMeal_77 : decode cX11_freeMeal 77 = .ok (.iload_n 3, 1) := by decide +kernel
theorem dX11_freeMeal_78 : decode cX11_freeMeal 78 = .ok (.iaload, 1) := by decide +kernel
theorem dX11_freeMeal_79 : decode cX11_freeMeal 79 = .ok (.ireturn, 1) := by decide +kernel
theorem dX11_freeMeal_80 : decode cX11_freeMeal 80 = .ok (.iconst 0, 1) := by decide +kernel
theorem dX11_freeMeal_81 : decode cX11_freeMeal 81 = .ok (.istore 4, 2) := by decide +kernel
theorem dX11_freeMeal_83 : decode cX11_freeMeal 83 = .ok (.iload 4, 2) := by decide +kernel
theorem dX11_freeMeal_85 : decode cX11_freeMeal 85 = .ok (.aload_n 0, 1) := by decide +kernel
theorem dX11_freeMeal_86 : decode cX11_freeMeal 86 = .ok (.getfield 26, 3) := by decide +kernel
theorem dX11_freeMeal_89 : decode cX11_freeMeal 89 = .ok (.iconst 3, 1) := by decide +kernel
theorem dX11_freeMeal_90 : decode cX11_freeMeal 90 = .ok (.iaload, 1) := by decide +kernel
theorem dX11_freeMeal_91 : decode cX11_freeMeal 91 = .ok (.if_icmp .ge 109, 3) := by decide +kernel
theorem dX11_freeMeal_94 : decode cX11_freeMeal 94 = .ok (.aload_n 0, 1) := by decide +kernel
theorem dX11_freeMeal_95 : decode cX11_freeMeal 95 = .ok (.getfield 73, 3) := by decide +kernel
theorem dX11_freeMeal_98 : decode cX11_freeMeal 98 = .ok (.iload 4, 2) := by decide +kernel
theorem dX11_freeMeal_100 : decode cX11_freeMeal 100 = .ok (.iaload, 1) := by decide +kernel
theorem dX11_freeMeal_101 : decode cX11_freeMeal 101 = .ok (.aload_n 0, 1) := by decide +kernel
theorem dX11_freeMeal_102 : decode cX11_freeMeal 102 = .ok (.getfield 82, 3) := by decide +kernel
theorem dX11_freeMeal_105 : decode cX11_freeMeal 105 = .ok (.iload_n 3, 1) := by decide +kernel
theorem dX11_freeMeal_106 : decode cX11_freeMeal 106 = .ok (.iaload, 1) := by decide +kernel
theorem dX11_freeMeal_107 : decode cX11_freeMeal 107 = .ok (.if_icmp .ne 18, 3) := by decide +kernel
theorem dX11_freeMeal_110 : decode cX11_freeMeal 110 = .ok (.aload_n 0, 1) := by decide +kernel
theorem dX11_freeMeal_111 : decode cX11_freeMeal 111 = .ok (.getfield 70, 3) := by decide +kernel
theorem dX11_freeMeal_114 : decode cX11_freeMeal 114 = .ok (.iload 4, 2) := by decide +kernel
theorem dX11_freeMeal_116 : decode cX11_freeMeal 116 = .ok (.iaload, 1) := by decide +kernel
theorem dX11_freeMeal_117 : decode cX11_freeMeal 117 = .ok (.iconst (-1), 1) := by decide +kernel
theorem dX11_freeMeal_118 : decode cX11_freeMeal 118 = .ok (.if_icmp .ne 7, 3) := by decide +kernel
theorem dX11_freeMeal_121 : decode cX11_freeMeal 121 = .ok (.iconst 1, 1) := by decide +kernel
theorem dX11_freeMeal_122 : decode cX11_freeMeal 122 = .ok (.goto 4, 3) := by decide +kernel
theorem dX11_freeMeal_125 : decode cX11_freeMeal 125 = .ok (.iconst 0, 1) := by decide +kernel
theorem dX11_freeMeal_126 : decode cX11_freeMeal 126 = .ok (.istore 5, 2) := by decide +kernel
theorem dX11_freeMeal_128 : decode cX11_freeMeal 128 = .ok (.iconst 0, 1) := by decide +kernel
theorem dX11_freeMeal_129 : decode cX11_freeMeal 129 = .ok (.istore 6, 2) := by decide +kernel
theorem dX11_freeMeal_131 : decode cX11_freeMeal 131 = .ok (.iload 6, 2) := by decide +kernel
theorem dX11_freeMeal_133 : decode cX11_freeMeal 133 = .ok (.aload_n 0, 1) := by decide +kernel
theorem dX11_freeMeal_134 : decode cX11_freeMeal 134 = .ok (.invokevirtual 300, 3) := by decide +kernel
theorem dX11_freeMeal_137 : decode cX11_freeMeal 137 = .ok (.if_icmp .ge 57, 3) := by decide +kernel
theorem dX11_freeMeal_140 : decode cX11_freeMeal 140 = .ok (.iload 5, 2) := by decide +kernel
theorem dX11_freeMeal_142 : decode cX11_freeMeal 142 = .ok (.ifCond .eq 52, 3) := by decide +kernel
theorem dX11_freeMeal_145 : decode cX11_freeMeal 145 = .ok (.aload_n 0, 1) := by decide +kernel
theorem dX11_freeMeal_146 : decode cX11_freeMeal 146 = .ok (.getfield 79, 3) := by decide +kernel
theorem dX11_freeMeal_149 : decode cX11_freeMeal 149 = .ok (.iload 6, 2) := by decide +kernel
theorem dX11_freeMeal_151 : decode cX11_freeMeal 151 = .ok (.iaload, 1) := by decide +kernel
theorem dX11_freeMeal_152 : decode cX11_freeMeal 152 = .ok (.iconst (-1), 1) := by decide +kernel
theorem dX11_freeMeal_153 : decode cX11_freeMeal 153 = .ok (.if_icmp .ne 35, 3) := by decide +kernel
theorem dX11_freeMeal_156 : decode cX11_freeMeal 156 = .ok (.aload_n 0, 1) := by decide +kernel
theorem dX11_freeMeal_157 : decode cX11_freeMeal 157 = .ok (.iload 6, 2) := by decide +kernel
theorem dX11_freeMeal_159 : decode cX11_freeMeal 159 = .ok (.iload 4, 2) := by decide +kernel
theorem dX11_freeMeal_161 : decode cX11_freeMeal 161 = .ok (.invokevirtual 303, 3) := by decide +kernel
theorem dX11_freeMeal_164 : decode cX11_freeMeal 164 = .ok (.ifCond .eq 24, 3) := by decide +kernel
theorem dX11_freeMeal_167 : decode cX11_freeMeal 167 = .ok (.aload_n 0, 1) := by decide +kernel
theorem dX11_freeMeal_168 : decode cX11_freeMeal 168 = .ok (.getfield 79, 3) := by decide +kernel
theorem dX11_freeMeal_171 : decode cX11_freeMeal 171 = .ok (.iload 6, 2) := by decide +kernel
theorem dX11_freeMeal_173 : decode cX11_freeMeal 173 = .ok (.iload 4, 2) := by decide +kernel
theorem dX11_freeMeal_175 : decode cX11_freeMeal 175 = .ok (.iastore, 1) := by decide +kernel
theorem dX11_freeMeal_176 : decode cX11_freeMeal 176 = .ok (.aload_n 0, 1) := by decide +kernel
theorem dX11_freeMeal_177 : decode cX11_freeMeal 177 = .ok (.getfield 82, 3) := by decide +kernel
theorem dX11_freeMeal_180 : decode cX11_freeMeal 180 = .ok (.iload_n 2, 1) := by decide +kernel
theorem dX11_freeMeal_181 : decode cX11_freeMeal 181 = .ok (.iload 6, 2) := by decide +kernel
theorem dX11_freeMeal_183 : decode cX11_freeMeal 183 = .ok (.iastore, 1) := by decide +kernel
theorem dX11_freeMeal_184 : decode cX11_freeMeal 184 = .ok (.iload_n 2, 1) := by decide +kernel
theorem dX11_freeMeal_185 : decode cX11_freeMeal 185 = .ok (.iconst 1, 1) := by decide +kernel
theorem dX11_freeMeal_186 : decode cX11_freeMeal 186 = .ok (.iadd, 1) := by decide +kernel
theorem dX11_freeMeal_187 : decode cX11_freeMeal 187 = .ok (.istore_n 2, 1) := by decide +kernel
theorem dX11_freeMeal_188 : decode cX11_freeMeal 188 = .ok (.iinc 6 1, 3) := by decide +kernel
theorem dX11_freeMeal_191 : decode cX11_freeMeal 191 = .ok (.goto (-60), 3) := by decide +kernel
theorem dX11_freeMeal_194 : decode cX11_freeMeal 194 = .ok (.iinc 4 1, 3) := by decide +kernel
theorem dX11_freeMeal_197 : decode cX11_freeMeal 197 = .ok (.goto (-114), 3) := by decide +kernel
theorem dX11_freeMeal_200 : decode cX11_freeMeal 200 = .ok (.iinc 3 1, 3) := by decide +kernel
theorem dX11_freeMeal_203 : decode cX11_freeMeal 203 = .ok (.goto (-149), 3) := by decide +kernel
theorem dX11_freeMeal_206 : decode cX11_freeMeal 206 = .ok (.iconst (-1), 1) := by decide +kernel
theorem dX11_freeMeal_207 : decode cX11_freeMeal 207 = .ok (.ireturn, 1) := by decide +kernel
theorem dX11_finds_0 : decode cX11_finds 0 = .ok (.aload_n 0, 1) := by decide +kernel
theorem dX11_finds_1 : decode cX11_finds 1 = .ok (.iload_n 1, 1) := by decide +kernel
theorem dX11_finds_2 : decode cX11_finds 2 = .ok (.invokevirtual 440, 3) := by decide +kernel
theorem dX11_finds_5 : decode cX11_finds 5 = .ok (.istore_n 2, 1) := by decide +kernel
theorem dX11_finds_6 : decode cX11_finds 6 = .ok (.iload_n 2, 1) := by decide +kernel
theorem dX11_finds_7 : decode cX11_finds 7 = .ok (.iconst (-1), 1) := by decide +kernel
theorem dX11_finds_8 : decode cX11_finds 8 = .ok (.if_icmp .ne 5, 3) := by decide +kernel
theorem dX11_finds_11 : decode cX11_finds 11 = .ok (.iconst 0, 1) := by decide +kernel
theorem dX11_finds_12 : decode cX11_finds 12 = .ok (.ireturn, 1) := by decide +kernel
theorem dX11_finds_13 : decode cX11_finds 13 = .ok (.aload_n 0, 1) := by decide +kernel
theorem dX11_finds_14 : decode cX11_finds 14 = .ok (.getfield 76, 3) := by decide +kernel
theorem dX11_finds_17 : decode cX11_finds 17 = .ok (.iload_n 2, 1) := by decide +kernel
theorem dX11_finds_18 : decode cX11_finds 18 = .ok (.aload_n 0, 1) := by decide +kernel
theorem dX11_finds_19 : decode cX11_finds 19 = .ok (.getfield 76, 3) := by decide +kernel
theorem dX11_finds_22 : decode cX11_finds 22 = .ok (.iload_n 2, 1) := by decide +kernel
theorem dX11_finds_23 : decode cX11_finds 23 = .ok (.iaload, 1) := by decide +kernel
theorem dX11_finds_24 : decode cX11_finds 24 = .ok (.iconst 1, 1) := by decide +kernel
theorem dX11_finds_25 : decode cX11_finds 25 = .ok (.isub, 1) := by decide +kernel
theorem dX11_finds_26 : decode cX11_finds 26 = .ok (.iastore, 1) := by decide +kernel
theorem dX11_finds_27 : decode cX11_finds 27 = .ok (.aload_n 0, 1) := by decide +kernel
theorem dX11_finds_28 : decode cX11_finds 28 = .ok (.getfield 79, 3) := by decide +kernel
theorem dX11_finds_31 : decode cX11_finds 31 = .ok (.iload_n 2, 1) := by decide +kernel
theorem dX11_finds_32 : decode cX11_finds 32 = .ok (.iaload, 1) := by decide +kernel
theorem dX11_finds_33 : decode cX11_finds 33 = .ok (.istore_n 3, 1) := by decide +kernel
theorem dX11_finds_34 : decode cX11_finds 34 = .ok (.iload_n 3, 1) := by decide +kernel
theorem dX11_finds_35 : decode cX11_finds 35 = .ok (.iload_n 1, 1) := by decide +kernel
theorem dX11_finds_36 : decode cX11_finds 36 = .ok (.if_icmp .eq 31, 3) := by decide +kernel
theorem dX11_finds_39 : decode cX11_finds 39 = .ok (.aload_n 0, 1) := by decide +kernel
theorem dX11_finds_40 : decode cX11_finds 40 = .ok (.getfield 73, 3) := by decide +kernel
theorem dX11_finds_43 : decode cX11_finds 43 = .ok (.iload_n 3, 1) := by decide +kernel
theorem dX11_finds_44 : decode cX11_finds 44 = .ok (.iaload, 1) := by decide +kernel
theorem dX11_finds_45 : decode cX11_finds 45 = .ok (.istore 4, 2) := by decide +kernel
theorem dX11_finds_47 : decode cX11_finds 47 = .ok (.aload_n 0, 1) := by decide +kernel
theorem dX11_finds_48 : decode cX11_finds 48 = .ok (.getfield 73, 3) := by decide +kernel
theorem dX11_finds_51 : decode cX11_finds 51 = .ok (.iload_n 3, 1) := by decide +kernel
theorem dX11_finds_52 : decode cX11_finds 52 = .ok (.iload_n 2, 1) := by decide +kernel
theorem dX11_finds_53 : decode cX11_finds 53 = .ok (.iastore, 1) := by decide +kernel
theorem dX11_finds_54 : decode cX11_finds 54 = .ok (.iload 4, 2) := by decide +kernel
theorem dX11_finds_56 : decode cX11_finds 56 = .ok (.istore_n 2, 1) := by decide +kernel
theorem dX11_finds_57 : decode cX11_finds 57 = .ok (.aload_n 0, 1) := by decide +kernel
theorem dX11_finds_58 : decode cX11_finds 58 = .ok (.getfield 79, 3) := by decide +kernel
theorem dX11_finds_61 : decode cX11_finds 61 = .ok (.iload_n 2, 1) := by decide +kernel
theorem dX11_finds_62 : decode cX11_finds 62 = .ok (.iaload, 1) := by decide +kernel
theorem dX11_finds_63 : decode cX11_finds 63 = .ok (.istore_n 3, 1) := by decide +kernel
theorem dX11_finds_64 : decode cX11_finds 64 = .ok (.goto (-30), 3) := by decide +kernel
theorem dX11_finds_67 : decode cX11_finds 67 = .ok (.aload_n 0, 1) := by decide +kernel
theorem dX11_finds_68 : decode cX11_finds 68 = .ok (.getfield 73, 3) := by decide +kernel
theorem dX11_finds_71 : decode cX11_finds 71 = .ok (.iload_n 1, 1) := by decide +kernel
theorem dX11_finds_72 : decode cX11_finds 72 = .ok (.iload_n 2, 1) := by decide +kernel
theorem dX11_finds_73 : decode cX11_finds 73 = .ok (.iastore, 1) := by decide +kernel
theorem dX11_finds_74 : decode cX11_finds 74 = .ok (.iconst 1, 1) := by decide +kernel
theorem dX11_finds_75 : decode cX11_finds 75 = .ok (.ireturn, 1) := by decide +kernel
theorem dX11_matches_0 : decode cX11_matches 0 = .ok (.aload_n 0, 1) := by decide +kernel
theorem dX11_matches_1 : decode cX11_matches 1 = .ok (.invokevirtual 443, 3) := by decide +kernel
theorem dX11_matches_4 : decode cX11_matches 4 = .ok (.iconst 0, 1) := by decide +kernel
theorem dX11_matches_5 : decode cX11_matches 5 = .ok (.istore_n 1, 1) := by decide +kernel
theorem dX11_matches_6 : decode cX11_matches 6 = .ok (.iconst 0, 1) := by decide +kernel
theorem dX11_matches_7 : decode cX11_matches 7 = .ok (.istore_n 2, 1) := by decide +kernel
theorem dX11_matches_8 : decode cX11_matches 8 = .ok (.iload_n 2, 1) := by decide +kernel
theorem dX11_matches_9 : decode cX11_matches 9 = .ok (.aload_n 0, 1) := by decide +kernel
theorem dX11_matches_10 : decode cX11_matches 10 = .ok (.getfield 26, 3) := by decide +kernel
theorem dX11_matches_13 : decode cX11_matches 13 = .ok (.iconst 3, 1) := by decide +kernel
theorem dX11_matches_14 : decode cX11_matches 14 = .ok (.iaload, 1) := by decide +kernel
theorem dX11_matches_15 : decode cX11_matches 15 = .ok (.if_icmp .ge 74, 3) := by decide +kernel
theorem dX11_matches_18 : decode cX11_matches 18 = .ok (.aload_n 0, 1) := by decide +kernel
theorem dX11_matches_19 : decode cX11_matches 19 = .ok (.getfield 73, 3) := by decide +kernel
theorem dX11_matches_22 : decode cX11_matches 22 = .ok (.iload_n 2, 1) := by decide +kernel
theorem dX11_matches_23 : decode cX11_matches 23 = .ok (.aload_n 0, 1) := by decide +kernel
theorem dX11_matches_24 : decode cX11_matches 24 = .ok (.getfield 70, 3) := by decide +kernel
theorem dX11_matches_27 : decode cX11_matches 27 = .ok (.iload_n 2, 1) := by decide +kernel
theorem dX11_matches_28 : decode cX11_matches 28 = .ok (.iaload, 1) := by decide +kernel
theorem dX11_matches_29 : decode cX11_matches 29 = .ok (.iastore, 1) := by decide +kernel
theorem dX11_matches_30 : decode cX11_matches 30 = .ok (.aload_n 0, 1) := by decide +kernel
theorem dX11_matches_31 : decode cX11_matches 31 = .ok (.getfield 70, 3) := by decide +kernel
theorem dX11_matches_34 : decode cX11_matches 34 = .ok (.iload_n 2, 1) := by decide +kernel
theorem dX11_matches_35 : decode cX11_matches 35 = .ok (.iaload, 1) := by decide +kernel
theorem dX11_matches_36 : decode cX11_matches 36 = .ok (.ifCond .lt 47, 3) := by decide +kernel
theorem dX11_matches_39 : decode cX11_matches 39 = .ok (.aload_n 0, 1) := by decide +kernel
theorem dX11_matches_40 : decode cX11_matches 40 = .ok (.getfield 76, 3) := by decide +kernel
theorem dX11_matches_43 : decode cX11_matches 43 = .ok (.aload_n 0, 1) := by decide +kernel
theorem dX11_matches_44 : decode cX11_matches 44 = .ok (.getfield 70, 3) := by decide +kernel
theorem dX11_matches_47 : decode cX11_matches 47 = .ok (.iload_n 2, 1) := by decide +kernel
theorem dX11_matches_48 : decode cX11_matches 48 = .ok (.iaload, 1) := by decide +kernel
theorem dX11_matches_49 : decode cX11_matches 49 = .ok (.aload_n 0, 1) := by decide +kernel
theorem dX11_matches_50 : decode cX11_matches 50 = .ok (.getfield 76, 3) := by decide +kernel
theorem dX11_matches_53 : decode cX11_matches 53 = .ok (.aload_n 0, 1) := by decide +kernel
theorem dX11_matches_54 : decode cX11_matches 54 = .ok (.getfield 70, 3) := by decide +kernel
theorem dX11_matches_57 : decode cX11_matches 57 = .ok (.iload_n 2, 1) := by decide +kernel
theorem dX11_matches_58 : decode cX11_matches 58 = .ok (.iaload, 1) := by decide +kernel
theorem dX11_matches_59 : decode cX11_matches 59 = .ok (.iaload, 1) := by decide +kernel
theorem dX11_matches_60 : decode cX11_matches 60 = .ok (.iconst 1, 1) := by decide +kernel
theorem dX11_matches_61 : decode cX11_matches 61 = .ok (.isub, 1) := by decide +kernel
theorem dX11_matches_62 : decode cX11_matches 62 = .ok (.iastore, 1) := by decide +kernel
theorem dX11_matches_63 : decode cX11_matches 63 = .ok (.iload_n 1, 1) := by decide +kernel
theorem dX11_matches_64 : decode cX11_matches 64 = .ok (.iconst 1, 1) := by decide +kernel
theorem dX11_matches_65 : decode cX11_matches 65 = .ok (.iadd, 1) := by decide +kernel
theorem dX11_matches_66 : decode cX11_matches 66 = .ok (.istore_n 1, 1) := by decide +kernel
theorem dX11_matches_67 : decode cX11_matches 67 = .ok (.aload_n 0, 1) := by decide +kernel
theorem dX11_matches_68 : decode cX11_matches 68 = .ok (.getfield 76, 3) := by decide +kernel
theorem dX11_matches_71 : decode cX11_matches 71 = .ok (.aload_n 0, 1) := by decide +kernel
theorem dX11_matches_72 : decode cX11_matches 72 = .ok (.getfield 70, 3) := by decide +kernel
theorem dX11_matches_75 : decode cX11_matches 75 = .ok (.iload_n 2, 1) := by decide +kernel
theorem dX11_matches_76 : decode cX11_matches 76 = .ok (.iaload, 1) := by decide +kernel
theorem dX11_matches_77 : decode cX11_matches 77 = .ok (.iaload, 1) := by decide +kernel
theorem dX11_matches_78 : decode cX11_matches 78 = .ok (.ifCond .ge 5, 3) := by decide +kernel
theorem dX11_matches_81 : decode cX11_matches 81 = .ok (.iconst (-1), 1) := by decide +kernel
theorem dX11_matches_82 : decode cX11_matches 82 = .ok (.ireturn, 1) := by decide +kernel
theorem dX11_matches_83 : decode cX11_matches 83 = .ok (.iinc 2 1, 3) := by decide +kernel
theorem dX11_matches_86 : decode cX11_matches 86 = .ok (.goto (-78), 3) := by decide +kernel
theorem dX11_matches_89 : decode cX11_matches 89 = .ok (.iconst 0, 1) := by decide +kernel
theorem dX11_matches_90 : decode cX11_matches 90 = .ok (.istore_n 2, 1) := by decide +kernel
theorem dX11_matches_91 : decode cX11_matches 91 = .ok (.iload_n 2, 1) := by decide +kernel
theorem dX11_matches_92 : decode cX11_matches 92 = .ok (.aload_n 0, 1) := by decide +kernel
theorem dX11_matches_93 : decode cX11_matches 93 = .ok (.getfield 26, 3) := by decide +kernel
theorem dX11_matches_96 : decode cX11_matches 96 = .ok (.iconst 3, 1) := by decide +kernel
theorem dX11_matches_97 : decode cX11_matches 97 = .ok (.iaload, 1) := by decide +kernel
theorem dX11_matches_98 : decode cX11_matches 98 = .ok (.if_icmp .ge 39, 3) := by decide +kernel
theorem dX11_matches_101 : decode cX11_matches 101 = .ok (.aload_n 0, 1) := by decide +kernel
theorem dX11_matches_102 : decode cX11_matches 102 = .ok (.getfield 70, 3) := by decide +kernel
theorem dX11_matches_105 : decode cX11_matches 105 = .ok (.iload_n 2, 1) := by decide +kernel
theorem dX11_matches_106 : decode cX11_matches 106 = .ok (.iaload, 1) := by decide +kernel
theorem dX11_matches_107 : decode cX11_matches 107 = .ok (.iconst (-1), 1) := by decide +kernel
theorem dX11_matches_108 : decode cX11_matches 108 = .ok (.if_icmp .ne 23, 3) := by decide +kernel
theorem dX11_matches_111 : decode cX11_matches 111 = .ok (.aload_n 0, 1) := by decide +kernel
theorem dX11_matches_112 : decode cX11_matches 112 = .ok (.iload_n 2, 1) := by decide +kernel
theorem dX11_matches_113 : decode cX11_matches 113 = .ok (.invokevirtual 306, 3) := by decide +kernel
theorem dX11_matches_116 : decode cX11_matches 116 = .ok (.ifCond .eq 15, 3) := by decide +kernel
theorem dX11_matches_119 : decode cX11_matches 119 = .ok (.aload_n 0, 1) := by decide +kernel
theorem dX11_matches_120 : decode cX11_matches 120 = .ok (.iload_n 2, 1) := by decide +kernel
theorem dX11_matches_121 : decode cX11_matches 121 = .ok (.invokevirtual 446, 3) := by decide +kernel
theorem dX11_matches_124 : decode cX11_matches 124 = .ok (.ifCond .eq 7, 3) := by decide +kernel
theorem dX11_matches_127 : decode cX11_matches 127 = .ok (.iload_n 1, 1) := by decide +kernel
theorem dX11_matches_128 : decode cX11_matches 128 = .ok (.iconst 1, 1) := by decide +kernel
theorem dX11_matches_129 : decode cX11_matches 129 = .ok (.iadd, 1) := by decide +kernel
theorem dX11_matches_130 : decode cX11_matches 130 = .ok (.istore_n 1, 1) := by decide +kernel
theorem dX11_matches_131 : decode cX11_matches 131 = .ok (.iinc 2 1, 3) := by decide +kernel
theorem dX11_matches_134 : decode cX11_matches 134 = .ok (.goto (-43), 3) := by decide +kernel
theorem dX11_matches_137 : decode cX11_matches 137 = .ok (.iload_n 1, 1) := by decide +kernel
theorem dX11_matches_138 : decode cX11_matches 138 = .ok (.ireturn, 1) := by decide +kernel
theorem dX11_fixes_0 : decode cX11_fixes 0 = .ok (.iconst 0, 1) := by decide +kernel
theorem dX11_fixes_1 : decode cX11_fixes 1 = .ok (.istore_n 3, 1) := by decide +kernel
theorem dX11_fixes_2 : decode cX11_fixes 2 = .ok (.iload_n 3, 1) := by decide +kernel
theorem dX11_fixes_3 : decode cX11_fixes 3 = .ok (.aload_n 0, 1) := by decide +kernel
theorem dX11_fixes_4 : decode cX11_fixes 4 = .ok (.invokevirtual 300, 3) := by decide +kernel
theorem dX11_fixes_7 : decode cX11_fixes 7 = .ok (.if_icmp .ge 34, 3) := by decide +kernel
theorem dX11_fixes_10 : decode cX11_fixes 10 = .ok (.aload_n 0, 1) := by decide +kernel
theorem dX11_fixes_11 : decode cX11_fixes 11 = .ok (.getfield 70, 3) := by decide +kernel
theorem dX11_fixes_14 : decode cX11_fixes 14 = .ok (.iload_n 1, 1) := by decide +kernel
theorem dX11_fixes_15 : decode cX11_fixes 15 = .ok (.iload_n 3, 1) := by decide +kernel
theorem dX11_fixes_16 : decode cX11_fixes 16 = .ok (.iastore, 1) := by decide +kernel
theorem dX11_fixes_17 : decode cX11_fixes 17 = .ok (.aload_n 0, 1) := by decide +kernel
theorem dX11_fixes_18 : decode cX11_fixes 18 = .ok (.iload_n 3, 1) := by decide +kernel
theorem dX11_fixes_19 : decode cX11_fixes 19 = .ok (.iload_n 1, 1) := by decide +kernel
theorem dX11_fixes_20 : decode cX11_fixes 20 = .ok (.invokevirtual 303, 3) := by decide +kernel
theorem dX11_fixes_23 : decode cX11_fixes 23 = .ok (.ifCond .eq 12, 3) := by decide +kernel
theorem dX11_fixes_26 : decode cX11_fixes 26 = .ok (.aload_n 0, 1) := by decide +kernel
theorem dX11_fixes_27 : decode cX11_fixes 27 = .ok (.invokevirtual 449, 3) := by decide +kernel
theorem dX11_fixes_30 : decode cX11_fixes 30 = .ok (.iload_n 2, 1) := by decide +kernel
theorem dX11_fixes_31 : decode cX11_fixes 31 = .ok (.if_icmp .ne 4, 3) := by decide +kernel
theorem dX11_fixes_34 : decode cX11_fixes 34 = .ok (.return_, 1) := by decide +kernel
theorem dX11_fixes_35 : decode cX11_fixes 35 = .ok (.iinc 3 1, 3) := by decide +kernel
theorem dX11_fixes_38 : decode cX11_fixes 38 = .ok (.goto (-36), 3) := by decide +kernel
theorem dX11_fixes_41 : decode cX11_fixes 41 = .ok (.aload_n 0, 1) := by decide +kernel
theorem dX11_fixes_42 : decode cX11_fixes 42 = .ok (.getfield 70, 3) := by decide +kernel
theorem dX11_fixes_45 : decode cX11_fixes 45 = .ok (.iload_n 1, 1) := by decide +kernel
theorem dX11_fixes_46 : decode cX11_fixes 46 = .ok (.bipush (-2), 2) := by decide +kernel
theorem dX11_fixes_48 : decode cX11_fixes 48 = .ok (.iastore, 1) := by decide +kernel
theorem dX11_fixes_49 : decode cX11_fixes 49 = .ok (.return_, 1) := by decide +kernel
theorem dX11_mostUnits_0 : decode cX11_mostUnits 0 = .ok (.iconst (-1), 1) := by decide +kernel
theorem dX11_mostUnits_1 : decode cX11_mostUnits 1 = .ok (.istore_n 2, 1) := by decide +kernel
theorem dX11_mostUnits_2 : decode cX11_mostUnits 2 = .ok (.iconst 0, 1) := by decide +kernel
theorem dX11_mostUnits_3 : decode cX11_mostUnits 3 = .ok (.istore_n 3, 1) := by decide +kernel
theorem dX11_mostUnits_4 : decode cX11_mostUnits 4 = .ok (.iload_n 3, 1) := by decide +kernel
theorem dX11_mostUnits_5 : decode cX11_mostUnits 5 = .ok (.aload_n 0, 1) := by decide +kernel
theorem dX11_mostUnits_6 : decode cX11_mostUnits 6 = .ok (.invokevirtual 300, 3) := by decide +kernel
theorem dX11_mostUnits_9 : decode cX11_mostUnits 9 = .ok (.if_icmp .ge 62, 3) := by decide +kernel
theorem dX11_mostUnits_12 : decode cX11_mostUnits 12 = .ok (.aload_n 0, 1) := by decide +kernel
theorem dX11_mostUnits_13 : decode cX11_mostUnits 13 = .ok (.iload_n 3, 1) := by decide +kernel
theorem dX11_mostUnits_14 : decode cX11_mostUnits 14 = .ok (.iconst 0, 1) := by decide +kernel
theorem dX11_mostUnits_15 : decode cX11_mostUnits 15 = .ok (.invokevirtual 297, 3) := by decide +kernel
theorem dX11_mostUnits_18 : decode cX11_mostUnits 18 = .ok (.iload_n 1, 1) := by decide +kernel
theorem dX11_mostUnits_19 : decode cX11_mostUnits 19 = .ok (.if_icmp .ne 16, 3) := by decide +kernel
theorem dX11_mostUnits_22 : decode cX11_mostUnits 22 = .ok (.aload_n 0, 1) := by decide +kernel
theorem dX11_mostUnits_23 : decode cX11_mostUnits 23 = .ok (.getfield 76, 3) := by decide +kernel
theorem dX11_mostUnits_26 : decode cX11_mostUnits 26 = .ok (.iload_n 3, 1) := by decide +kernel
theorem dX11_mostUnits_27 : decode cX11_mostUnits 27 = .ok (.iaload, 1) := by decide +kernel
theorem dX11_mostUnits_28 : decode cX11_mostUnits 28 = .ok (.ifCond .le 7, 3) := by decide +kernel
theorem dX11_mostUnits_31 : decode cX11_mostUnits 31 = .ok (.iconst 1, 1) := by decide +kernel
theorem dX11_mostUnits_32 : decode cX11_mostUnits 32 = .ok (.goto 4, 3) := by decide +kernel
theorem dX11_mostUnits_35 : decode cX11_mostUnits 35 = .ok (.iconst 0, 1) := by decide +kernel
theorem dX11_mostUnits_36 : decode cX11_mostUnits 36 = .ok (.istore 4, 2) := by decide +kernel
theorem dX11_mostUnits_38 : decode cX11_mostUnits 38 = .ok (.iload 4, 2) := by decide +kernel
theorem dX11_mostUnits_40 : decode cX11_mostUnits 40 = .ok (.ifCond .eq 25, 3) := by decide +kernel
theorem dX11_mostUnits_43 : decode cX11_mostUnits 43 = .ok (.iload_n 2, 1) := by decide +kernel
theorem dX11_mostUnits_44 : decode cX11_mostUnits 44 = .ok (.iconst (-1), 1) := by decide +kernel
theorem dX11_mostUnits_45 : decode cX11_mostUnits 45 = .ok (.if_icmp .eq 18, 3) := by decide +kernel
theorem dX11_mostUnits_48 : decode cX11_mostUnits 48 = .ok (.aload_n 0, 1) := by decide +kernel
theorem dX11_mostUnits_49 : decode cX11_mostUnits 49 = .ok (.getfield 76, 3) := by decide +kernel
theorem dX11_mostUnits_52 : decode cX11_mostUnits 52 = .ok (.iload_n 3, 1) := by decide +kernel
theorem dX11_mostUnits_53 : decode cX11_mostUnits 53 = .ok (.iaload, 1) := by decide +kernel
theorem dX11_mostUnits_54 : decode cX11_mostUnits 54 = .ok (.aload_n 0, 1) := by decide +kernel
theorem dX11_mostUnits_55 : decode cX11_mostUnits 55 = .ok (.getfield 76, 3) := by decide +kernel
theorem dX11_mostUnits_58 : decode cX11_mostUnits 58 = .ok (.iload_n 2, 1) := by decide +kernel
theorem dX11_mostUnits_59 : decode cX11_mostUnits 59 = .ok (.iaload, 1) := by decide +kernel
theorem dX11_mostUnits_60 : decode cX11_mostUnits 60 = .ok (.if_icmp .le 5, 3) := by decide +kernel
theorem dX11_mostUnits_63 : decode cX11_mostUnits 63 = .ok (.iload_n 3, 1) := by decide +kernel
theorem dX11_mostUnits_64 : decode cX11_mostUnits 64 = .ok (.istore_n 2, 1) := by decide +kernel
theorem dX11_mostUnits_65 : decode cX11_mostUnits 65 = .ok (.iinc 3 1, 3) := by decide +kernel
theorem dX11_mostUnits_68 : decode cX11_mostUnits 68 = .ok (.goto (-64), 3) := by decide +kernel
theorem dX11_mostUnits_71 : decode cX11_mostUnits 71 = .ok (.iload_n 2, 1) := by decide +kernel
theorem dX11_mostUnits_72 : decode cX11_mostUnits 72 = .ok (.ireturn, 1) := by decide +kernel
theorem dX11_servesPlain_0 : decode cX11_servesPlain 0 = .ok (.aload_n 0, 1) := by decide +kernel
theorem dX11_servesPlain_1 : decode cX11_servesPlain 1 = .ok (.iload_n 1, 1) := by decide +kernel
theorem dX11_servesPlain_2 : decode cX11_servesPlain 2 = .ok (.iconst 2, 1) := by decide +kernel
theorem dX11_servesPlain_3 : decode cX11_servesPlain 3 = .ok (.invokevirtual 294, 3) := by decide +kernel
theorem dX11_servesPlain_6 : decode cX11_servesPlain 6 = .ok (.istore_n 2, 1) := by decide +kernel
theorem dX11_servesPlain_7 : decode cX11_servesPlain 7 = .ok (.iload_n 2, 1) := by decide +kernel
theorem dX11_servesPlain_8 : decode cX11_servesPlain 8 = .ok (.iconst (-1), 1) := by decide +kernel
theorem dX11_servesPlain_9 : decode cX11_servesPlain 9 = .ok (.if_icmp .eq 16, 3) := by decide +kernel
theorem dX11_servesPlain_12 : decode cX11_servesPlain 12 = .ok (.aload_n 0, 1) := by decide +kernel
theorem dX11_servesPlain_13 : decode cX11_servesPlain 13 = .ok (.getfield 76, 3) := by decide +kernel
theorem dX11_servesPlain_16 : decode cX11_servesPlain 16 = .ok (.iload_n 2, 1) := by decide +kernel
theorem dX11_servesPlain_17 : decode cX11_servesPlain 17 = .ok (.iaload, 1) := by decide +kernel
theorem dX11_servesPlain_18 : decode cX11_servesPlain 18 = .ok (.ifCond .le 7, 3) := by decide +kernel
theorem dX11_servesPlain_21 : decode cX11_servesPlain 21 = .ok (.iload_n 2, 1) := by decide +kernel
theorem dX11_servesPlain_22 : decode cX11_servesPlain 22 = .ok (.goto 13, 3) := by decide +kernel
theorem dX11_servesPlain_25 : decode cX11_servesPlain 25 = .ok (.aload_n 0, 1) := by decide +kernel
theorem dX11_servesPlain_26 : decode cX11_servesPlain 26 = .ok (.aload_n 0, 1) := by decide +kernel
theorem dX11_servesPlain_27 : decode cX11_servesPlain 27 = .ok (.iload_n 1, 1) := by decide +kernel
theorem dX11_servesPlain_28 : decode cX11_servesPlain 28 = .ok (.iconst 0, 1) := by decide +kernel
theorem dX11_servesPlain_29 : decode cX11_servesPlain 29 = .ok (.invokevirtual 294, 3) := by decide +kernel
theorem dX11_servesPlain_32 : decode cX11_servesPlain 32 = .ok (.invokevirtual 452, 3) := by decide +kernel
theorem dX11_servesPlain_35 : decode cX11_servesPlain 35 = .ok (.istore_n 3, 1) := by decide +kernel
theorem dX11_servesPlain_36 : decode cX11_servesPlain 36 = .ok (.aload_n 0, 1) := by decide +kernel
theorem dX11_servesPlain_37 : decode cX11_servesPlain 37 = .ok (.getfield 67, 3) := by decide +kernel
theorem dX11_servesPlain_40 : decode cX11_servesPlain 40 = .ok (.iload_n 1, 1) := by decide +kernel
theorem dX11_servesPlain_41 : decode cX11_servesPlain 41 = .ok (.iload_n 3, 1) := by decide +kernel
theorem dX11_servesPlain_42 : decode cX11_servesPlain 42 = .ok (.iastore, 1) := by decide +kernel
theorem dX11_servesPlain_43 : decode cX11_servesPlain 43 = .ok (.iload_n 3, 1) := by decide +kernel
theorem dX11_servesPlain_44 : decode cX11_servesPlain 44 = .ok (.iconst (-1), 1) := by decide +kernel
theorem dX11_servesPlain_45 : decode cX11_servesPlain 45 = .ok (.if_icmp .eq 17, 3) := by decide +kernel
theorem dX11_servesPlain_48 : decode cX11_servesPlain 48 = .ok (.aload_n 0, 1) := by decide +kernel
theorem dX11_servesPlain_49 : decode cX11_servesPlain 49 = .ok (.getfield 76, 3) := by decide +kernel
theorem dX11_servesPlain_52 : decode cX11_servesPlain 52 = .ok (.iload_n 3, 1) := by decide +kernel
theorem dX11_servesPlain_53 : decode cX11_servesPlain 53 = .ok (.aload_n 0, 1) := by decide +kernel
theorem dX11_servesPlain_54 : decode cX11_servesPlain 54 = .ok (.getfield 76, 3) := by decide +kernel
theorem dX11_servesPlain_57 : decode cX11_servesPlain 57 = .ok (.iload_n 3, 1) := by decide +kernel
theorem dX11_servesPlain_58 : decode cX11_servesPlain 58 = .ok (.iaload, 1) := by decide +kernel
theorem dX11_servesPlain_59 : decode cX11_servesPlain 59 = .ok (.iconst 1, 1) := by decide +kernel
theorem dX11_servesPlain_60 : decode cX11_servesPlain 60 = .ok (.isub, 1) := by decide +kernel
theorem dX11_servesPlain_61 : decode cX11_servesPlain 61 = .ok (.iastore, 1) := by decide +kernel
theorem dX11_servesPlain_62 : decode cX11_servesPlain 62 = .ok (.return_, 1) := by decide +kernel
theorem dX11_matchesSpecial_0 : decode cX11_matchesSpecial 0 = .ok (.iconst 0, 1) := by decide +kernel
theorem dX11_matchesSpecial_1 : decode cX11_matchesSpecial 1 = .ok (.istore_n 1, 1) := by decide +kernel
theorem dX11_matchesSpecial_2 : decode cX11_matchesSpecial 2 = .ok (.iload_n 1, 1) := by decide +kernel
theorem dX11_matchesSpecial_3 : decode cX11_matchesSpecial 3 = .ok (.aload_n 0, 1) := by decide +kernel
theorem dX11_matchesSpecial_4 : decode cX11_matchesSpecial 4 = .ok (.getfield 26, 3) := by decide +kernel
theorem dX11_matchesSpecial_7 : decode cX11_matchesSpecial 7 = .ok (.iconst 3, 1) := by decide +kernel
theorem dX11_matchesSpecial_8 : decode cX11_matchesSpecial 8 = .ok (.iaload, 1) := by decide +kernel
theorem dX11_matchesSpecial_9 : decode cX11_matchesSpecial 9 = .ok (.if_icmp .ge 16, 3) := by decide +kernel
theorem dX11_matchesSpecial_12 : decode cX11_matchesSpecial 12 = .ok (.aload_n 0, 1) := by decide +kernel
theorem dX11_matchesSpecial_13 : decode cX11_matchesSpecial 13 = .ok (.getfield 70, 3) := by decide +kernel
theorem dX11_matchesSpecial_16 : decode cX11_matchesSpecial 16 = .ok (.iload_n 1, 1) := by decide +kernel
theorem dX11_matchesSpecial_17 : decode cX11_matchesSpecial 17 = .ok (.iconst (-1), 1) := by decide +kernel
theorem dX11_matchesSpecial_18 : decode cX11_matchesSpecial 18 = .ok (.iastore, 1) := by decide +kernel
theorem dX11_matchesSpecial_19 : decode cX11_matchesSpecial 19 = .ok (.iinc 1 1, 3) := by decide +kernel
theorem dX11_matchesSpecial_22 : decode cX11_matchesSpecial 22 = .ok (.goto (-20), 3) := by decide +kernel
theorem dX11_matchesSpecial_25 : decode cX11_matchesSpecial 25 = .ok (.aload_n 0, 1) := by decide +kernel
theorem dX11_matchesSpecial_26 : decode cX11_matchesSpecial 26 = .ok (.invokevirtual 449, 3) := by decide +kernel
theorem dX11_matchesSpecial_29 : decode cX11_matchesSpecial 29 = .ok (.istore_n 1, 1) := by decide +kernel
theorem dX11_matchesSpecial_30 : decode cX11_matchesSpecial 30 = .ok (.iconst 0, 1) := by decide +kernel
theorem dX11_matchesSpecial_31 : decode cX11_matchesSpecial 31 = .ok (.istore_n 2, 1) := by decide +kernel
theorem dX11_matchesSpecial_32 : decode cX11_matchesSpecial 32 = .ok (.iload_n 2, 1) := by decide +kernel
theorem dX11_matchesSpecial_33 : decode cX11_matchesSpecial 33 = .ok (.aload_n 0, 1) := by decide +kernel
theorem dX11_matchesSpecial_34 : decode cX11_matchesSpecial 34 = .ok (.getfield 26, 3) := by decide +kernel
theorem dX11_matchesSpecial_37 : decode cX11_matchesSpecial 37 = .ok (.iconst 3, 1) := by decide +kernel
theorem dX11_matchesSpecial_38 : decode cX11_matchesSpecial 38 = .ok (.iaload, 1) := by decide +kernel
theorem dX11_matchesSpecial_39 : decode cX11_matchesSpecial 39 = .ok (.if_icmp .ge 23, 3) := by decide +kernel
theorem dX11_matchesSpecial_42 : decode cX11_matchesSpecial 42 = .ok (.aload_n 0, 1) := by decide +kernel
theorem dX11_matchesSpecial_43 : decode cX11_matchesSpecial 43 = .ok (.iload_n 2, 1) := by decide +kernel
theorem dX11_matchesSpecial_44 : decode cX11_matchesSpecial 44 = .ok (.invokevirtual 306, 3) := by decide +kernel
theorem dX11_matchesSpecial_47 : decode cX11_matchesSpecial 47 = .ok (.ifCond .eq 9, 3) := by decide +kernel
theorem dX11_matchesSpecial_50 : decode cX11_matchesSpecial 50 = .ok (.aload_n 0, 1) := by decide +kernel
theorem dX11_matchesSpecial_51 : decode cX11_matchesSpecial 51 = .ok (.iload_n 2, 1) := by decide +kernel
theorem dX11_matchesSpecial_52 : decode cX11_matchesSpecial 52 = .ok (.iload_n 1, 1) := by decide +kernel
theorem dX11_matchesSpecial_53 : decode cX11_matchesSpecial 53 = .ok (.invokevirtual 455, 3) := by decide +kernel
theorem dX11_matchesSpecial_56 : decode cX11_matchesSpecial 56 = .ok (.iinc 2 1, 3) := by decide +kernel
theorem dX11_matchesSpecial_59 : decode cX11_matchesSpecial 59 = .ok (.goto (-27), 3) := by decide +kernel
theorem dX11_matchesSpecial_62 : decode cX11_matchesSpecial 62 = .ok (.return_, 1) := by decide +kernel
theorem dX11_laysService_0 : decode cX11_laysService 0 = .ok (.aload_n 0, 1) := by decide +kernel
theorem dX11_laysService_1 : decode cX11_laysService 1 = .ok (.getfield 26, 3) := by decide +kernel
theorem dX11_laysService_4 : decode cX11_laysService 4 = .ok (.iconst 1, 1) := by decide +kernel
theorem dX11_laysService_5 : decode cX11_laysService 5 = .ok (.iaload, 1) := by decide +kernel
theorem dX11_laysService_6 : decode cX11_laysService 6 = .ok (.iconst 1, 1) := by decide +kernel
theorem dX11_laysService_7 : decode cX11_laysService 7 = .ok (.if_icmp .ne 34, 3) := by decide +kernel
theorem dX11_laysService_10 : decode cX11_laysService 10 = .ok (.iconst 0, 1) := by decide +kernel
theorem dX11_laysService_11 : decode cX11_laysService 11 = .ok (.istore_n 1, 1) := by decide +kernel
theorem dX11_laysService_12 : decode cX11_laysService 12 = .ok (.iload_n 1, 1) := by decide +kernel
theorem dX11_laysService_13 : decode cX11_laysService 13 = .ok (.aload_n 0, 1) := by decide +kernel
theorem dX11_laysService_14 : decode cX11_laysService 14 = .ok (.getfield 26, 3) := by decide +kernel
theorem dX11_laysService_17 : decode cX11_laysService 17 = .ok (.iconst 3, 1) := by decide +kernel
theorem dX11_laysService_18 : decode cX11_laysService 18 = .ok (.iaload, 1) := by decide +kernel
theorem dX11_laysService_19 : decode cX11_laysService 19 = .ok (.if_icmp .ge 21, 3) := by decide +kernel
theorem dX11_laysService_22 : decode cX11_laysService 22 = .ok (.aload_n 0, 1) := by decide +kernel
theorem dX11_laysService_23 : decode cX11_laysService 23 = .ok (.getfield 67, 3) := by decide +kernel
theorem dX11_laysService_26 : decode cX11_laysService 26 = .ok (.iload_n 1, 1) := by decide +kernel
theorem dX11_laysService_27 : decode cX11_laysService 27 = .ok (.aload_n 0, 1) := by decide +kernel
theorem dX11_laysService_28 : decode cX11_laysService 28 = .ok (.iload_n 1, 1) := by decide +kernel
theorem dX11_laysService_29 : decode cX11_laysService 29 = .ok (.iconst 3, 1) := by decide +kernel
theorem dX11_laysService_30 : decode cX11_laysService 30 = .ok (.invokevirtual 294, 3) := by decide +kernel
theorem dX11_laysService_33 : decode cX11_laysService 33 = .ok (.iastore, 1) := by decide +kernel
theorem dX11_laysService_34 : decode cX11_laysService 34 = .ok (.iinc 1 1, 3) := by decide +kernel
theorem dX11_laysService_37 : decode cX11_laysService 37 = .ok (.goto (-25), 3) := by decide +kernel
theorem dX11_laysService_40 : decode cX11_laysService 40 = .ok (.return_, 1) := by decide +kernel
theorem dX11_laysService_41 : decode cX11_laysService 41 = .ok (.aload_n 0, 1) := by decide +kernel
theorem dX11_laysService_42 : decode cX11_laysService 42 = .ok (.invokevirtual 459, 3) := by decide +kernel
theorem dX11_laysService_45 : decode cX11_laysService 45 = .ok (.aload_n 0, 1) := by decide +kernel
theorem dX11_laysService_46 : decode cX11_laysService 46 = .ok (.invokevirtual 443, 3) := by decide +kernel
theorem dX11_laysService_49 : decode cX11_laysService 49 = .ok (.iconst 0, 1) := by decide +kernel
theorem dX11_laysService_50 : decode cX11_laysService 50 = .ok (.istore_n 1, 1) := by decide +kernel
theorem dX11_laysService_51 : decode cX11_laysService 51 = .ok (.iload_n 1, 1) := by decide +kernel
theorem dX11_laysService_52 : decode cX11_laysService 52 = .ok (.aload_n 0, 1) := by decide +kernel
theorem dX11_laysService_53 : decode cX11_laysService 53 = .ok (.getfield 26, 3) := by decide +kernel
theorem dX11_laysService_56 : decode cX11_laysService 56 = .ok (.iconst 3, 1) := by decide +kernel
theorem dX11_laysService_57 : decode cX11_laysService 57 = .ok (.iaload, 1) := by decide +kernel
theorem dX11_laysService_58 : decode cX11_laysService 58 = .ok (.if_icmp .ge 68, 3) := by decide +kernel
theorem dX11_laysService_61 : decode cX11_laysService 61 = .ok (.aload_n 0, 1) := by decide +kernel
theorem dX11_laysService_62 : decode cX11_laysService 62 = .ok (.getfield 67, 3) := by decide +kernel
theorem dX11_laysService_65 : decode cX11_laysService 65 = .ok (.iload_n 1, 1) := by decide +kernel
theorem dX11_laysService_66 : decode cX11_laysService 66 = .ok (.aload_n 0, 1) := by decide +kernel
theorem dX11_laysService_67 : decode cX11_laysService 67 = .ok (.getfield 70, 3) := by decide +kernel
theorem dX11_laysService_70 : decode cX11_laysService 70 = .ok (.iload_n 1, 1) := by decide +kernel
theorem dX11_laysService_71 : decode cX11_laysService 71 = .ok (.iaload, 1) := by decide +kernel
theorem dX11_laysService_72 : decode cX11_laysService 72 = .ok (.ifCond .lt 12, 3) := by decide +kernel
theorem dX11_laysService_75 : decode cX11_laysService 75 = .ok (.aload_n 0, 1) := by decide +kernel
theorem dX11_laysService_76 : decode cX11_laysService 76 = .ok (.getfield 70, 3) := by decide +kernel
theorem dX11_laysService_79 : decode cX11_laysService 79 = .ok (.iload_n 1, 1) := by decide +kernel
theorem dX11_laysService_80 : decode cX11_laysService 80 = .ok (.iaload, 1) := by decide +kernel
theorem dX11_laysService_81 : decode cX11_laysService 81 = .ok (.goto 4, 3) := by decide +kernel
theorem dX11_laysService_84 : decode cX11_laysService 84 = .ok (.iconst (-1), 1) := by decide +kernel
theorem dX11_laysService_85 : decode cX11_laysService 85 = .ok (.iastore, 1) := by decide +kernel
theorem dX11_laysService_86 : decode cX11_laysService 86 = .ok (.aload_n 0, 1) := by decide +kernel
theorem dX11_laysService_87 : decode cX11_laysService 87 = .ok (.getfield 67, 3) := by decide +kernel
theorem dX11_laysService_90 : decode cX11_laysService 90 = .ok (.iload_n 1, 1) := by decide +kernel
theorem dX11_laysService_91 : decode cX11_laysService 91 = .ok (.iaload, 1) := by decide +kernel
theorem dX11_laysService_92 : decode cX11_laysService 92 = .ok (.iconst (-1), 1) := by decide +kernel
theorem dX11_laysService_93 : decode cX11_laysService 93 = .ok (.if_icmp .eq 27, 3) := by decide +kernel
theorem dX11_laysService_96 : decode cX11_laysService 96 = .ok (.aload_n 0, 1) := by decide +kernel
theorem dX11_laysService_97 : decode cX11_laysService 97 = .ok (.getfield 76, 3) := by decide +kernel
theorem dX11_laysService_100 : decode cX11_laysService 100 = .ok (.aload_n 0, 1) := by decide +kernel
theorem dX11_laysService_101 : decode cX11_laysService 101 = .ok (.getfield 67, 3) := by decide +kernel
theorem dX11_laysService_104 : decode cX11_laysService 104 = .ok (.iload_n 1, 1) := by decide +kernel
theorem dX11_laysService_105 : decode cX11_laysService 105 = .ok (.iaload, 1) := by decide +kernel
theorem dX11_laysService_106 : decode cX11_laysService 106 = .ok (.aload_n 0, 1) := by decide +kernel
theorem dX11_laysService_107 : decode cX11_laysService 107 = .ok (.getfield 76, 3) := by decide +kernel
theorem dX11_laysService_110 : decode cX11_laysService 110 = .ok (.aload_n 0, 1) := by decide +kernel
theorem dX11_laysService_111 : decode cX11_laysService 111 = .ok (.getfield 67, 3) := by decide +kernel
theorem dX11_laysService_114 : decode cX11_laysService 114 = .ok (.iload_n 1, 1) := by decide +kernel
theorem dX11_laysService_115 : decode cX11_laysService 115 = .ok (.iaload, 1) := by decide +kernel
theorem dX11_laysService_116 : decode cX11_laysService 116 = .ok (.iaload, 1) := by decide +kernel
theorem dX11_laysService_117 : decode cX11_laysService 117 = .ok (.iconst 1, 1) := by decide +kernel
theorem dX11_laysService_118 : decode cX11_laysService 118 = .ok (.isub, 1) := by decide +kernel
theorem dX11_laysService_119 : decode cX11_laysService 119 = .ok (.iastore, 1) := by decide +kernel
theorem dX11_laysService_120 : decode cX11_laysService 120 = .ok (.iinc 1 1, 3) := by decide +kernel
theorem dX11_laysService_123 : decode cX11_laysService 123 = .ok (.goto (-72), 3) := by decide +kernel
theorem dX11_laysService_126 : decode cX11_laysService 126 = .ok (.iconst 0, 1) := by decide +kernel
theorem dX11_laysService_127 : decode cX11_laysService 127 = .ok (.istore_n 1, 1) := by decide +kernel
theorem dX11_laysService_128 : decode cX11_laysService 128 = .ok (.iload_n 1, 1) := by decide +kernel
theorem dX11_laysService_129 : decode cX11_laysService 129 = .ok (.aload_n 0, 1) := by decide +kernel
theorem dX11_laysService_130 : decode cX11_laysService 130 = .ok (.getfield 26, 3) := by decide +kernel
theorem dX11_laysService_133 : decode cX11_laysService 133 = .ok (.iconst 3, 1) := by decide +kernel
theorem dX11_laysService_134 : decode cX11_laysService 134 = .ok (.iaload, 1) := by decide +kernel
theorem dX11_laysService_135 : decode cX11_laysService 135 = .ok (.if_icmp .ge 22, 3) := by decide +kernel
theorem dX11_laysService_138 : decode cX11_laysService 138 = .ok (.aload_n 0, 1) := by decide +kernel
theorem dX11_laysService_139 : decode cX11_laysService 139 = .ok (.iload_n 1, 1) := by decide +kernel
theorem dX11_laysService_140 : decode cX11_laysService 140 = .ok (.invokevirtual 306, 3) := by decide +kernel
theorem dX11_laysService_143 : decode cX11_laysService 143 = .ok (.ifCond .ne 8, 3) := by decide +kernel
theorem dX11_laysService_146 : decode cX11_laysService 146 = .ok (.aload_n 0, 1) := by decide +kernel
theorem dX11_laysService_147 : decode cX11_laysService 147 = .ok (.iload_n 1, 1) := by decide +kernel
theorem dX11_laysService_148 : decode cX11_laysService 148 = .ok (.invokevirtual 462, 3) := by decide +kernel
theorem dX11_laysService_151 : decode cX11_laysService 151 = .ok (.iinc 1 1, 3) := by decide +kernel
theorem dX11_laysService_154 : decode cX11_laysService 154 = .ok (.goto (-26), 3) := by decide +kernel
theorem dX11_laysService_157 : decode cX11_laysService 157 = .ok (.return_, 1) := by decide +kernel
theorem dX11_eatenOf_0 : decode cX11_eatenOf 0 = .ok (.iconst 0, 1) := by decide +kernel
theorem dX11_eatenOf_1 : decode cX11_eatenOf 1 = .ok (.istore_n 2, 1) := by decide +kernel
theorem dX11_eatenOf_2 : decode cX11_eatenOf 2 = .ok (.iconst 0, 1) := by decide +kernel
theorem dX11_eatenOf_3 : decode cX11_eatenOf 3 = .ok (.istore_n 3, 1) := by decide +kernel
theorem dX11_eatenOf_4 : decode cX11_eatenOf 4 = .ok (.iload_n 3, 1) := by decide +kernel
theorem dX11_eatenOf_5 : decode cX11_eatenOf 5 = .ok (.aload_n 0, 1) := by decide +kernel
theorem dX11_eatenOf_6 : decode cX11_eatenOf 6 = .ok (.getfield 26, 3) := by decide +kernel
theorem dX11_eatenOf_9 : decode cX11_eatenOf 9 = .ok (.iconst 3, 1) := by decide +kernel
theorem dX11_eatenOf_10 : decode cX11_eatenOf 10 = .ok (.iaload, 1) := by decide +kernel
theorem dX11_eatenOf_11 : decode cX11_eatenOf 11 = .ok (.if_icmp .ge 27, 3) := by decide +kernel
theorem dX11_eatenOf_14 : decode cX11_eatenOf 14 = .ok (.aload_n 0, 1) := by decide +kernel
theorem dX11_eatenOf_15 : decode cX11_eatenOf 15 = .ok (.getfield 67, 3) := by decide +kernel
theorem dX11_eatenOf_18 : decode cX11_eatenOf 18 = .ok (.iload_n 3, 1) := by decide +kernel
theorem dX11_eatenOf_19 : decode cX11_eatenOf 19 = .ok (.iaload, 1) := by decide +kernel
theorem dX11_eatenOf_20 : decode cX11_eatenOf 20 = .ok (.iload_n 1, 1) := by decide +kernel
theorem dX11_eatenOf_21 : decode cX11_eatenOf 21 = .ok (.if_icmp .ne 9, 3) := by decide +kernel
theorem dX11_eatenOf_24 : decode cX11_eatenOf 24 = .ok (.iload_n 2, 1) := by decide +kernel
theorem dX11_eatenOf_25 : decode cX11_eatenOf 25 = .ok (.iconst 1, 1) := by decide +kernel
theorem dX11_eatenOf_26 : decode cX11_eatenOf 26 = .ok (.iadd, 1) := by decide +kernel
theorem dX11_eatenOf_27 : decode cX11_eatenOf 27 = .ok (.goto 4, 3) := by decide +kernel
theorem dX11_eatenOf_30 : decode cX11_eatenOf 30 = .ok (.iload_n 2, 1) := by decide +kernel
theorem dX11_eatenOf_31 : decode cX11_eatenOf 31 = .ok (.istore_n 2, 1) := by decide +kernel
theorem dX11_eatenOf_32 : decode cX11_eatenOf 32 = .ok (.iinc 3 1, 3) := by decide +kernel
theorem dX11_eatenOf_35 : decode cX11_eatenOf 35 = .ok (.goto (-31), 3) := by decide +kernel
theorem dX11_eatenOf_38 : decode cX11_eatenOf 38 = .ok (.iload_n 2, 1) := by decide +kernel
theorem dX11_eatenOf_39 : decode cX11_eatenOf 39 = .ok (.ireturn, 1) := by decide +kernel
theorem dX11_eaten_0 : decode cX11_eaten 0 = .ok (.aload_n 0, 1) := by decide +kernel
theorem dX11_eaten_1 : decode cX11_eaten 1 = .ok (.getfield 26, 3) := by decide +kernel
theorem dX11_eaten_4 : decode cX11_eaten 4 = .ok (.iconst 3, 1) := by decide +kernel
theorem dX11_eaten_5 : decode cX11_eaten 5 = .ok (.iaload, 1) := by decide +kernel
theorem dX11_eaten_6 : decode cX11_eaten 6 = .ok (.aload_n 0, 1) := by decide +kernel
theorem dX11_eaten_7 : decode cX11_eaten 7 = .ok (.iconst (-1), 1) := by decide +kernel
theorem dX11_eaten_8 : decode cX11_eaten 8 = .ok (.invokevirtual 465, 3) := by decide +kernel
theorem dX11_eaten_11 : decode cX11_eaten 11 = .ok (.isub, 1) := by decide +kernel
theorem dX11_eaten_12 : decode cX11_eaten 12 = .ok (.ireturn, 1) := by decide +kernel
theorem dX11_specialFed_0 : decode cX11_specialFed 0 = .ok (.iconst 0, 1) := by decide +kernel
theorem dX11_specialFed_1 : decode cX11_specialFed 1 = .ok (.istore_n 1, 1) := by decide +kernel
theorem dX11_specialFed_2 : decode cX11_specialFed 2 = .ok (.iconst 0, 1) := by decide +kernel
theorem dX11_specialFed_3 : decode cX11_specialFed 3 = .ok (.istore_n 2, 1) := by decide +kernel
theorem dX11_specialFed_4 : decode cX11_specialFed 4 = .ok (.iload_n 2, 1) := by decide +kernel
theorem dX11_specialFed_5 : decode cX11_specialFed 5 = .ok (.aload_n 0, 1) := by decide +kernel
theorem dX11_specialFed_6 : decode cX11_specialFed 6 = .ok (.getfield 26, 3) := by decide +kernel
theorem dX11_specialFed_9 : decode cX11_specialFed 9 = .ok (.iconst 3, 1) := by decide +kernel
theorem dX11_specialFed_10 : decode cX11_specialFed 10 = .ok (.iaload, 1) := by decide +kernel
theorem dX11_specialFed_11 : decode cX11_specialFed 11 = .ok (.if_icmp .ge 35, 3) := by decide +kernel
theorem dX11_specialFed_14 : decode cX11_specialFed 14 = .ok (.aload_n 0, 1) := by decide +kernel
theorem dX11_specialFed_15 : decode cX11_specialFed 15 = .ok (.iload_n 2, 1) := by decide +kernel
theorem dX11_specialFed_16 : decode cX11_specialFed 16 = .ok (.invokevirtual 306, 3) := by decide +kernel
theorem dX11_specialFed_19 : decode cX11_specialFed 19 = .ok (.ifCond .eq 19, 3) := by decide +kernel
theorem dX11_specialFed_22 : decode cX11_specialFed 22 = .ok (.aload_n 0, 1) := by decide +kernel
theorem dX11_specialFed_23 : decode cX11_specialFed 23 = .ok (.getfield 67, 3) := by decide +kernel
theorem dX11_specialFed_26 : decode cX11_specialFed 26 = .ok (.iload_n 2, 1) := by decide +kernel
theorem dX11_specialFed_27 : decode cX11_specialFed 27 = .ok (.iaload, 1) := by decide +kernel
theorem dX11_specialFed_28 : decode cX11_specialFed 28 = .ok (.iconst (-1), 1) := by decide +kernel
theorem dX11_specialFed_29 : decode cX11_specialFed 29 = .ok (.if_icmp .eq 9, 3) := by decide +kernel
theorem dX11_specialFed_32 : decode cX11_specialFed 32 = .ok (.iload_n 1, 1) := by decide +kernel
theorem dX11_specialFed_33 : decode cX11_specialFed 33 = .ok (.iconst 1, 1) := by decide +kernel
theorem dX11_specialFed_34 : decode cX11_specialFed 34 = .ok (.iadd, 1) := by decide +kernel
theorem dX11_specialFed_35 : decode cX11_specialFed 35 = .ok (.goto 4, 3) := by decide +kernel
theorem dX11_specialFed_38 : decode cX11_specialFed 38 = .ok (.iload_n 1, 1) := by decide +kernel
theorem dX11_specialFed_39 : decode cX11_specialFed 39 = .ok (.istore_n 1, 1) := by decide +kernel
theorem dX11_specialFed_40 : decode cX11_specialFed 40 = .ok (.iinc 2 1, 3) := by decide +kernel
theorem dX11_specialFed_43 : decode cX11_specialFed 43 = .ok (.goto (-39), 3) := by decide +kernel
theorem dX11_specialFed_46 : decode cX11_specialFed 46 = .ok (.iload_n 1, 1) := by decide +kernel
theorem dX11_specialFed_47 : decode cX11_specialFed 47 = .ok (.ireturn, 1) := by decide +kernel
theorem dX11_wishes_0 : decode cX11_wishes 0 = .ok (.iconst 0, 1) := by decide +kernel
theorem dX11_wishes_1 : decode cX11_wishes 1 = .ok (.istore_n 1, 1) := by decide +kernel
theorem dX11_wishes_2 : decode cX11_wishes 2 = .ok (.iconst 0, 1) := by decide +kernel
theorem dX11_wishes_3 : decode cX11_wishes 3 = .ok (.istore_n 2, 1) := by decide +kernel
theorem dX11_wishes_4 : decode cX11_wishes 4 = .ok (.iload_n 2, 1) := by decide +kernel
theorem dX11_wishes_5 : decode cX11_wishes 5 = .ok (.aload_n 0, 1) := by decide +kernel
theorem dX11_wishes_6 : decode cX11_wishes 6 = .ok (.getfield 26, 3) := by decide +kernel
theorem dX11_wishes_9 : decode cX11_wishes 9 = .ok (.iconst 3, 1) := by decide +kernel
theorem dX11_wishes_10 : decode cX11_wishes 10 = .ok (.iaload, 1) := by decide +kernel
theorem dX11_wishes_11 : decode cX11_wishes 11 = .ok (.if_icmp .ge 50, 3) := by decide +kernel
theorem dX11_wishes_14 : decode cX11_wishes 14 = .ok (.aload_n 0, 1) := by decide +kernel
theorem dX11_wishes_15 : decode cX11_wishes 15 = .ok (.iload_n 2, 1) := by decide +kernel
theorem dX11_wishes_16 : decode cX11_wishes 16 = .ok (.invokevirtual 306, 3) := by decide +kernel
theorem dX11_wishes_19 : decode cX11_wishes 19 = .ok (.ifCond .ne 34, 3) := by decide +kernel
theorem dX11_wishes_22 : decode cX11_wishes 22 = .ok (.aload_n 0, 1) := by decide +kernel
theorem dX11_wishes_23 : decode cX11_wishes 23 = .ok (.getfield 67, 3) := by decide +kernel
theorem dX11_wishes_26 : decode cX11_wishes 26 = .ok (.iload_n 2, 1) := by decide +kernel
theorem dX11_wishes_27 : decode cX11_wishes 27 = .ok (.iaload, 1) := by decide +kernel
theorem dX11_wishes_28 : decode cX11_wishes 28 = .ok (.iconst (-1), 1) := by decide +kernel
theorem dX11_wishes_29 : decode cX11_wishes 29 = .ok (.if_icmp .eq 24, 3) := by decide +kernel
theorem dX11_wishes_32 : decode cX11_wishes 32 = .ok (.aload_n 0, 1) := by decide +kernel
theorem dX11_wishes_33 : decode cX11_wishes 33 = .ok (.getfield 67, 3) := by decide +kernel
theorem dX11_wishes_36 : decode cX11_wishes 36 = .ok (.iload_n 2, 1) := by decide +kernel
theorem dX11_wishes_37 : decode cX11_wishes 37 = .ok (.iaload, 1) := by decide +kernel
theorem dX11_wishes_38 : decode cX11_wishes 38 = .ok (.aload_n 0, 1) := by decide +kernel
theorem dX11_wishes_39 : decode cX11_wishes 39 = .ok (.iload_n 2, 1) := by decide +kernel
theorem dX11_wishes_40 : decode cX11_wishes 40 = .ok (.iconst 2, 1) := by decide +kernel
theorem dX11_wishes_41 : decode cX11_wishes 41 = .ok (.invokevirtual 294, 3) := by decide +kernel
theorem dX11_wishes_44 : decode cX11_wishes 44 = .ok (.if_icmp .ne 9, 3) := by decide +kernel
theorem dX11_wishes_47 : decode cX11_wishes 47 = .ok (.iload_n 1, 1) := by decide +kernel
theorem dX11_wishes_48 : decode cX11_wishes 48 = .ok (.iconst 1, 1) := by decide +kernel
theorem dX11_wishes_49 : decode cX11_wishes 49 = .ok (.iadd, 1) := by decide +kernel
theorem dX11_wishes_50 : decode cX11_wishes 50 = .ok (.goto 4, 3) := by decide +kernel
theorem dX11_wishes_53 : decode cX11_wishes 53 = .ok (.iload_n 1, 1) := by decide +kernel
theorem dX11_wishes_54 : decode cX11_wishes 54 = .ok (.istore_n 1, 1) := by decide +kernel
theorem dX11_wishes_55 : decode cX11_wishes 55 = .ok (.iinc 2 1, 3) := by decide +kernel
theorem dX11_wishes_58 : decode cX11_wishes 58 = .ok (.goto (-54), 3) := by decide +kernel
theorem dX11_wishes_61 : decode cX11_wishes 61 = .ok (.iload_n 1, 1) := by decide +kernel
theorem dX11_wishes_62 : decode cX11_wishes 62 = .ok (.ireturn, 1) := by decide +kernel
theorem dX11_wastedCost_0 : decode cX11_wastedCost 0 = .ok (.iconst 0, 1) := by decide +kernel
theorem dX11_wastedCost_1 : decode cX11_wastedCost 1 = .ok (.istore_n 1, 1) := by decide +kernel
theorem dX11_wastedCost_2 : decode cX11_wastedCost 2 = .ok (.iconst 0, 1) := by decide +kernel
theorem dX11_wastedCost_3 : decode cX11_wastedCost 3 = .ok (.istore_n 2, 1) := by decide +kernel
theorem dX11_wastedCost_4 : decode cX11_wastedCost 4 = .ok (.iload_n 2, 1) := by decide +kernel
theorem dX11_wastedCost_5 : decode cX11_wastedCost 5 = .ok (.aload_n 0, 1) := by decide +kernel
theorem dX11_wastedCost_6 : decode cX11_wastedCost 6 = .ok (.invokevirtual 300, 3) := by decide +kernel
theorem dX11_wastedCost_9 : decode cX11_wastedCost 9 = .ok (.if_icmp .ge 30, 3) := by decide +kernel
theorem dX11_wastedCost_12 : decode cX11_wastedCost 12 = .ok (.iload_n 1, 1) := by decide +kernel
theorem dX11_wastedCost_13 : decode cX11_wastedCost 13 = .ok (.aload_n 0, 1) := by decide +kernel
theorem dX11_wastedCost_14 : decode cX11_wastedCost 14 = .ok (.iload_n 2, 1) := by decide +kernel
theorem dX11_wastedCost_15 : decode cX11_wastedCost 15 = .ok (.invokevirtual 336, 3) := by decide +kernel
theorem dX11_wastedCost_18 : decode cX11_wastedCost 18 = .ok (.aload_n 0, 1) := by decide +kernel
theorem dX11_wastedCost_19 : decode cX11_wastedCost 19 = .ok (.iload_n 2, 1) := by decide +kernel
theorem dX11_wastedCost_20 : decode cX11_wastedCost 20 = .ok (.invokevirtual 465, 3) := by decide +kernel
theorem dX11_wastedCost_23 : decode cX11_wastedCost 23 = .ok (.isub, 1) := by decide +kernel
theorem dX11_wastedCost_24 : decode cX11_wastedCost 24 = .ok (.aload_n 0, 1) := by decide +kernel
theorem dX11_wastedCost_25 : decode cX11_wastedCost 25 = .ok (.iload_n 2, 1) := by decide +kernel
theorem dX11_wastedCost_26 : decode cX11_wastedCost 26 = .ok (.iconst 3, 1) := by decide +kernel
theorem dX11_wastedCost_27 : decode cX11_wastedCost 27 = .ok (.invokevirtual 297, 3) := by decide +kernel
theorem dX11_wastedCost_30 : decode cX11_wastedCost 30 = .ok (.imul, 1) := by decide +kernel
theorem dX11_wastedCost_31 : decode cX11_wastedCost 31 = .ok (.iadd, 1) := by decide +kernel
theorem dX11_wastedCost_32 : decode cX11_wastedCost 32 = .ok (.istore_n 1, 1) := by decide +kernel
theorem dX11_wastedCost_33 : decode cX11_wastedCost 33 = .ok (.iinc 2 1, 3) := by decide +kernel
theorem dX11_wastedCost_36 : decode cX11_wastedCost 36 = .ok (.goto (-32), 3) := by decide +kernel
theorem dX11_wastedCost_39 : decode cX11_wastedCost 39 = .ok (.iload_n 1, 1) := by decide +kernel
theorem dX11_wastedCost_40 : decode cX11_wastedCost 40 = .ok (.ireturn, 1) := by decide +kernel
theorem dX11_outlook_0 : decode cX11_outlook 0 = .ok (.aload_n 0, 1) := by decide +kernel
theorem dX11_outlook_1 : decode cX11_outlook 1 = .ok (.iload_n 1, 1) := by decide +kernel
theorem dX11_outlook_2 : decode cX11_outlook 2 = .ok (.iconst 0, 1) := by decide +kernel
theorem dX11_outlook_3 : decode cX11_outlook 3 = .ok (.iconst 5, 1) := by decide +kernel
theorem dX11_outlook_4 : decode cX11_outlook 4 = .ok (.invokestatic 102, 3) := by decide +kernel
theorem dX11_outlook_7 : decode cX11_outlook 7 = .ok (.ifCond .eq 7, 3) := by decide +kernel
theorem dX11_outlook_10 : decode cX11_outlook 10 = .ok (.iconst 0, 1) := by decide +kernel
theorem dX11_outlook_11 : decode cX11_outlook 11 = .ok (.goto 4, 3) := by decide +kernel
theorem dX11_outlook_14 : decode cX11_outlook 14 = .ok (.iconst 1, 1) := by decide +kernel
theorem dX11_outlook_15 : decode cX11_outlook 15 = .ok (.invokevirtual 98, 3) := by decide +kernel
theorem dX11_outlook_18 : decode cX11_outlook 18 = .ok (.ifCond .eq 5, 3) := by decide +kernel
theorem dX11_outlook_21 : decode cX11_outlook 21 = .ok (.iconst 0, 1) := by decide +kernel
theorem dX11_outlook_22 : decode cX11_outlook 22 = .ok (.ireturn, 1) := by decide +kernel
theorem dX11_outlook_23 : decode cX11_outlook 23 = .ok (.aload_n 0, 1) := by decide +kernel
theorem dX11_outlook_24 : decode cX11_outlook 24 = .ok (.invokevirtual 468, 3) := by decide +kernel
theorem dX11_outlook_27 : decode cX11_outlook 27 = .ok (.iload_n 1, 1) := by decide +kernel
theorem dX11_outlook_28 : decode cX11_outlook 28 = .ok (.tableswitch 67 0 4 #[36, 41, 46, 52, 62], 36) := by decide +kernel
theorem dX11_outlook_64 : decode cX11_outlook 64 = .ok (.aload_n 0, 1) := by decide +kernel
theorem dX11_outlook_65 : decode cX11_outlook 65 = .ok (.invokevirtual 471, 3) := by decide +kernel
theorem dX11_outlook_68 : decode cX11_outlook 68 = .ok (.ireturn, 1) := by decide +kernel
theorem dX11_outlook_69 : decode cX11_outlook 69 = .ok (.aload_n 0, 1) := by decide +kernel
theorem dX11_outlook_70 : decode cX11_outlook 70 = .ok (.invokevirtual 474, 3) := by decide +kernel
theorem dX11_outlook_73 : decode cX11_outlook 73 = .ok (.ireturn, 1) := by decide +kernel
theorem dX11_outlook_74 : decode cX11_outlook 74 = .ok (.aload_n 0, 1) := by decide +kernel
theorem dX11_outlook_75 : decode cX11_outlook 75 = .ok (.iconst (-1), 1) := by decide +kernel
theorem dX11_outlook_76 : decode cX11_outlook 76 = .ok (.invokevirtual 465, 3) := by decide +kernel
theorem dX11_outlook_79 : decode cX11_outlook 79 = .ok (.ireturn, 1) := by decide +kernel
theorem dX11_outlook_80 : decode cX11_outlook 80 = .ok (.aload_n 0, 1) := by decide +kernel
theorem dX11_outlook_81 : decode cX11_outlook 81 = .ok (.invokevirtual 357, 3) := by decide +kernel
theorem dX11_outlook_84 : decode cX11_outlook 84 = .ok (.aload_n 0, 1) := by decide +kernel
theorem dX11_outlook_85 : decode cX11_outlook 85 = .ok (.invokevirtual 474, 3) := by decide +kernel
theorem dX11_outlook_88 : decode cX11_outlook 88 = .ok (.isub, 1) := by decide +kernel
theorem dX11_outlook_89 : decode cX11_outlook 89 = .ok (.ireturn, 1) := by decide +kernel
theorem dX11_outlook_90 : decode cX11_outlook 90 = .ok (.aload_n 0, 1) := by decide +kernel
theorem dX11_outlook_91 : decode cX11_outlook 91 = .ok (.invokevirtual 477, 3) := by decide +kernel
theorem dX11_outlook_94 : decode cX11_outlook 94 = .ok (.ireturn, 1) := by decide +kernel
theorem dX11_outlook_95 : decode cX11_outlook 95 = .ok (.aload_n 0, 1) := by decide +kernel
theorem dX11_outlook_96 : decode cX11_outlook 96 = .ok (.invokevirtual 480, 3) := by decide +kernel
theorem dX11_outlook_99 : decode cX11_outlook 99 = .ok (.ireturn, 1) := by decide +kernel
theorem dX11_mealFor_0 : decode cX11_mealFor 0 = .ok (.aload_n 0, 1) := by decide +kernel
theorem dX11_mealFor_1 : decode cX11_mealFor 1 = .ok (.aload_n 0, 1) := by decide +kernel
theorem dX11_mealFor_2 : decode cX11_mealFor 2 = .ok (.iload_n 1, 1) := by decide +kernel
theorem dX11_mealFor_3 : decode cX11_mealFor 3 = .ok (.invokevirtual 385, 3) := by decide +kernel
theorem dX11_mealFor_6 : decode cX11_mealFor 6 = .ok (.ifCond .eq 7, 3) := by decide +kernel
theorem dX11_mealFor_9 : decode cX11_mealFor 9 = .ok (.iconst 0, 1) := by decide +kernel
theorem dX11_mealFor_10 : decode cX11_mealFor 10 = .ok (.goto 4, 3) := by decide +kernel
theorem dX11_mealFor_13 : decode cX11_mealFor 13 = .ok (.iconst 1, 1) := by decide +kernel
theorem dX11_mealFor_14 : decode cX11_mealFor 14 = .ok (.invokevirtual 98, 3) := by decide +kernel
theorem dX11_mealFor_17 : decode cX11_mealFor 17 = .ok (.ifCond .eq 5, 3) := by decide +kernel
theorem dX11_mealFor_20 : decode cX11_mealFor 20 = .ok (.iconst 0, 1) := by decide +kernel
theorem dX11_mealFor_21 : decode cX11_mealFor 21 = .ok (.ireturn, 1) := by decide +kernel
theorem dX11_mealFor_22 : decode cX11_mealFor 22 = .ok (.aload_n 0, 1) := by decide +kernel
theorem dX11_mealFor_23 : decode cX11_mealFor 23 = .ok (.invokevirtual 468, 3) := by decide +kernel
theorem dX11_mealFor_26 : decode cX11_mealFor 26 = .ok (.aload_n 0, 1) := by decide +kernel
theorem dX11_mealFor_27 : decode cX11_mealFor 27 = .ok (.getfield 67, 3) := by decide +kernel
theorem dX11_mealFor_30 : decode cX11_mealFor 30 = .ok (.iload_n 1, 1) := by decide +kernel
theorem dX11_mealFor_31 : decode cX11_mealFor 31 = .ok (.iaload, 1) := by decide +kernel
theorem dX11_mealFor_32 : decode cX11_mealFor 32 = .ok (.ireturn, 1) := by decide +kernel
theorem dX11_serve_0 : decode cX11_serve 0 = .ok (.aload_n 0, 1) := by decide +kernel
theorem dX11_serve_1 : decode cX11_serve 1 = .ok (.aload_n 0, 1) := by decide +kernel
theorem dX11_serve_2 : decode cX11_serve 2 = .ok (.invokevirtual 401, 3) := by decide +kernel
theorem dX11_serve_5 : decode cX11_serve 5 = .ok (.ifCond .eq 7, 3) := by decide +kernel
theorem dX11_serve_8 : decode cX11_serve 8 = .ok (.iconst 0, 1) := by decide +kernel
theorem dX11_serve_9 : decode cX11_serve 9 = .ok (.goto 4, 3) := by decide +kernel
theorem dX11_serve_12 : decode cX11_serve 12 = .ok (.iconst 1, 1) := by decide +kernel
theorem dX11_serve_13 : decode cX11_serve 13 = .ok (.iconst 1, 1) := by decide +kernel
theorem dX11_serve_14 : decode cX11_serve 14 = .ok (.invokevirtual 407, 3) := by decide +kernel
theorem dX11_serve_17 : decode cX11_serve 17 = .ok (.ifCond .eq 5, 3) := by decide +kernel
theorem dX11_serve_20 : decode cX11_serve 20 = .ok (.iconst 0, 1) := by decide +kernel
theorem dX11_serve_21 : decode cX11_serve 21 = .ok (.ireturn, 1) := by decide +kernel
theorem dX11_serve_22 : decode cX11_serve 22 = .ok (.aload_n 0, 1) := by decide +kernel
theorem dX11_serve_23 : decode cX11_serve 23 = .ok (.invokevirtual 410, 3) := by decide +kernel
theorem dX11_serve_26 : decode cX11_serve 26 = .ok (.aload_n 0, 1) := by decide +kernel
theorem dX11_serve_27 : decode cX11_serve 27 = .ok (.invokevirtual 468, 3) := by decide +kernel
theorem dX11_serve_30 : decode cX11_serve 30 = .ok (.aload_n 0, 1) := by decide +kernel
theorem dX11_serve_31 : decode cX11_serve 31 = .ok (.invokevirtual 357, 3) := by decide +kernel
theorem dX11_serve_34 : decode cX11_serve 34 = .ok (.istore_n 1, 1) := by decide +kernel
theorem dX11_serve_35 : decode cX11_serve 35 = .ok (.aload_n 0, 1) := by decide +kernel
theorem dX11_serve_36 : decode cX11_serve 36 = .ok (.invokevirtual 474, 3) := by decide +kernel
theorem dX11_serve_39 : decode cX11_serve 39 = .ok (.istore_n 2, 1) := by decide +kernel
theorem dX11_serve_40 : decode cX11_serve 40 = .ok (.aload_n 0, 1) := by decide +kernel
theorem dX11_serve_41 : decode cX11_serve 41 = .ok (.getfield 38, 3) := by decide +kernel
theorem dX11_serve_44 : decode cX11_serve 44 = .ok (.iconst 0, 1) := by decide +kernel
theorem dX11_serve_45 : decode cX11_serve 45 = .ok (.aload_n 0, 1) := by decide +kernel
theorem dX11_serve_46 : decode cX11_serve 46 = .ok (.getfield 38, 3) := by decide +kernel
theorem dX11_serve_49 : decode cX11_serve 49 = .ok (.iconst 0, 1) := by decide +kernel
theorem dX11_serve_50 : decode cX11_serve 50 = .ok (.laload, 1) := by decide +kernel
theorem dX11_serve_51 : decode cX11_serve 51 = .ok (.iload_n 1, 1) := by decide +kernel
theorem dX11_serve_52 : decode cX11_serve 52 = .ok (.i2l, 1) := by decide +kernel
theorem dX11_serve_53 : decode cX11_serve 53 = .ok (.ladd, 1) := by decide +kernel
theorem dX11_serve_54 : decode cX11_serve 54 = .ok (.lastore, 1) := by decide +kernel
theorem dX11_serve_55 : decode cX11_serve 55 = .ok (.aload_n 0, 1) := by decide +kernel
theorem dX11_serve_56 : decode cX11_serve 56 = .ok (.getfield 38, 3) := by decide +kernel
theorem dX11_serve_59 : decode cX11_serve 59 = .ok (.iconst 1, 1) := by decide +kernel
theorem dX11_serve_60 : decode cX11_serve 60 = .ok (.aload_n 0, 1) := by decide +kernel
theorem dX11_serve_61 : decode cX11_serve 61 = .ok (.getfield 38, 3) := by decide +kernel
theorem dX11_serve_64 : decode cX11_serve 64 = .ok (.iconst 1, 1) := by decide +kernel
theorem dX11_serve_65 : decode cX11_serve 65 = .ok (.laload, 1) := by decide +kernel
theorem dX11_serve_66 : decode cX11_serve 66 = .ok (.iload_n 2, 1) := by decide +kernel
theorem dX11_serve_67 : decode cX11_serve 67 = .ok (.i2l, 1) := by decide +kernel
theorem dX11_serve_68 : decode cX11_serve 68 = .ok (.ladd, 1) := by decide +kernel
theorem dX11_serve_69 : decode cX11_serve 69 = .ok (.lastore, 1) := by decide +kernel
theorem dX11_serve_70 : decode cX11_serve 70 = .ok (.aload_n 0, 1) := by decide +kernel
theorem dX11_serve_71 : decode cX11_serve 71 = .ok (.getfield 38, 3) := by decide +kernel
theorem dX11_serve_74 : decode cX11_serve 74 = .ok (.iconst 2, 1) := by decide +kernel
theorem dX11_serve_75 : decode cX11_serve 75 = .ok (.aload_n 0, 1) := by decide +kernel
theorem dX11_serve_76 : decode cX11_serve 76 = .ok (.getfield 38, 3) := by decide +kernel
theorem dX11_serve_79 : decode cX11_serve 79 = .ok (.iconst 2, 1) := by decide +kernel
theorem dX11_serve_80 : decode cX11_serve 80 = .ok (.laload, 1) := by decide +kernel
theorem dX11_serve_81 : decode cX11_serve 81 = .ok (.iload_n 1, 1) := by decide +kernel
theorem dX11_serve_82 : decode cX11_serve 82 = .ok (.i2l, 1) := by decide +kernel
theorem dX11_serve_83 : decode cX11_serve 83 = .ok (.ladd, 1) := by decide +kernel
theorem dX11_serve_84 : decode cX11_serve 84 = .ok (.iload_n 2, 1) := by decide +kernel
theorem dX11_serve_85 : decode cX11_serve 85 = .ok (.i2l, 1) := by decide +kernel
theorem dX11_serve_86 : decode cX11_serve 86 = .ok (.lsub, 1) := by decide +kernel
theorem dX11_serve_87 : decode cX11_serve 87 = .ok (.lastore, 1) := by decide +kernel
theorem dX11_serve_88 : decode cX11_serve 88 = .ok (.aload_n 0, 1) := by decide +kernel
theorem dX11_serve_89 : decode cX11_serve 89 = .ok (.getfield 38, 3) := by decide +kernel
theorem dX11_serve_92 : decode cX11_serve 92 = .ok (.iconst 3, 1) := by decide +kernel
theorem dX11_serve_93 : decode cX11_serve 93 = .ok (.aload_n 0, 1) := by decide +kernel
theorem dX11_serve_94 : decode cX11_serve 94 = .ok (.getfield 38, 3) := by decide +kernel
theorem dX11_serve_97 : decode cX11_serve 97 = .ok (.iconst 3, 1) := by decide +kernel
theorem dX11_serve_98 : decode cX11_serve 98 = .ok (.laload, 1) := by decide +kernel
theorem dX11_serve_99 : decode cX11_serve 99 = .ok (.aload_n 0, 1) := by decide +kernel
theorem dX11_serve_100 : decode cX11_serve 100 = .ok (.invokevirtual 477, 3) := by decide +kernel
theorem dX11_serve_103 : decode cX11_serve 103 = .ok (.i2l, 1) := by decide +kernel
theorem dX11_serve_104 : decode cX11_serve 104 = .ok (.ladd, 1) := by decide +kernel
theorem dX11_serve_105 : decode cX11_serve 105 = .ok (.lastore, 1) := by decide +kernel
theorem dX11_serve_106 : decode cX11_serve 106 = .ok (.aload_n 0, 1) := by decide +kernel
theorem dX11_serve_107 : decode cX11_serve 107 = .ok (.getfield 38, 3) := by decide +kernel
theorem dX11_serve_110 : decode cX11_serve 110 = .ok (.iconst 4, 1) := by decide +kernel
theorem dX11_serve_111 : decode cX11_serve 111 = .ok (.aload_n 0, 1) := by decide +kernel
theorem dX11_serve_112 : decode cX11_serve 112 = .ok (.getfield 38, 3) := by decide +kernel
theorem dX11_serve_115 : decode cX11_serve 115 = .ok (.iconst 4, 1) := by decide +kernel
theorem dX11_serve_116 : decode cX11_serve 116 = .ok (.laload, 1) := by decide +kernel
theorem dX11_serve_117 : decode cX11_serve 117 = .ok (.aload_n 0, 1) := by decide +kernel
theorem dX11_serve_118 : decode cX11_serve 118 = .ok (.iconst (-1), 1) := by decide +kernel
theorem dX11_serve_119 : decode cX11_serve 119 = .ok (.invokevirtual 465, 3) := by decide +kernel
theorem dX11_serve_122 : decode cX11_serve 122 = .ok (.i2l, 1) := by decide +kernel
theorem dX11_serve_123 : decode cX11_serve 123 = .ok (.ladd, 1) := by decide +kernel
theorem dX11_serve_124 : decode cX11_serve 124 = .ok (.lastore, 1) := by decide +kernel
theorem dX11_serve_125 : decode cX11_serve 125 = .ok (.aload_n 0, 1) := by decide +kernel
theorem dX11_serve_126 : decode cX11_serve 126 = .ok (.getfield 38, 3) := by decide +kernel
theorem dX11_serve_129 : decode cX11_serve 129 = .ok (.iconst 5, 1) := by decide +kernel
theorem dX11_serve_130 : decode cX11_serve 130 = .ok (.aload_n 0, 1) := by decide +kernel
theorem dX11_serve_131 : decode cX11_serve 131 = .ok (.getfield 38, 3) := by decide +kernel
theorem dX11_serve_134 : decode cX11_serve 134 = .ok (.iconst 5, 1) := by decide +kernel
theorem dX11_serve_135 : decode cX11_serve 135 = .ok (.laload, 1) := by decide +kernel
theorem dX11_serve_136 : decode cX11_serve 136 = .ok (.lconst 1, 1) := by decide +kernel
theorem dX11_serve_137 : decode cX11_serve 137 = .ok (.ladd, 1) := by decide +kernel
theorem dX11_serve_138 : decode cX11_serve 138 = .ok (.lastore, 1) := by decide +kernel
theorem dX11_serve_139 : decode cX11_serve 139 = .ok (.iconst 0, 1) := by decide +kernel
theorem dX11_serve_140 : decode cX11_serve 140 = .ok (.istore_n 3, 1) := by decide +kernel
theorem dX11_serve_141 : decode cX11_serve 141 = .ok (.iload_n 3, 1) := by decide +kernel
theorem dX11_serve_142 : decode cX11_serve 142 = .ok (.aload_n 0, 1) := by decide +kernel
theorem dX11_serve_143 : decode cX11_serve 143 = .ok (.invokevirtual 300, 3) := by decide +kernel
theorem dX11_serve_146 : decode cX11_serve 146 = .ok (.if_icmp .ge 24, 3) := by decide +kernel
theorem dX11_serve_149 : decode cX11_serve 149 = .ok (.aload_n 0, 1) := by decide +kernel
theorem dX11_serve_150 : decode cX11_serve 150 = .ok (.getfield 26, 3) := by decide +kernel
theorem dX11_serve_153 : decode cX11_serve 153 = .ok (.sipush 279, 3) := by decide +kernel
theorem dX11_serve_156 : decode cX11_serve 156 = .ok (.iload_n 3, 1) := by decide +kernel
theorem dX11_serve_157 : decode cX11_serve 157 = .ok (.iadd, 1) := by decide +kernel
theorem dX11_serve_158 : decode cX11_serve 158 = .ok (.aload_n 0, 1) := by decide +kernel
theorem dX11_serve_159 : decode cX11_serve 159 = .ok (.iload_n 3, 1) := by decide +kernel
theorem dX11_serve_160 : decode cX11_serve 160 = .ok (.invokevirtual 465, 3) := by decide +kernel
theorem dX11_serve_163 : decode cX11_serve 163 = .ok (.iastore, 1) := by decide +kernel
theorem dX11_serve_164 : decode cX11_serve 164 = .ok (.iinc 3 1, 3) := by decide +kernel
theorem dX11_serve_167 : decode cX11_serve 167 = .ok (.goto (-26), 3) := by decide +kernel
theorem dX11_serve_170 : decode cX11_serve 170 = .ok (.iconst 0, 1) := by decide +kernel
theorem dX11_serve_171 : decode cX11_serve 171 = .ok (.istore_n 3, 1) := by decide +kernel
theorem dX11_serve_172 : decode cX11_serve 172 = .ok (.iload_n 3, 1) := by decide +kernel
theorem dX11_serve_173 : decode cX11_serve 173 = .ok (.aload_n 0, 1) := by decide +kernel
theorem dX11_serve_174 : decode cX11_serve 174 = .ok (.getfield 26, 3) := by decide +kernel
theorem dX11_serve_177 : decode cX11_serve 177 = .ok (.iconst 3, 1) := by decide +kernel
theorem dX11_serve_178 : decode cX11_serve 178 = .ok (.iaload, 1) := by decide +kernel
theorem dX11_serve_179 : decode cX11_serve 179 = .ok (.if_icmp .ge 25, 3) := by decide +kernel
theorem dX11_serve_182 : decode cX11_serve 182 = .ok (.aload_n 0, 1) := by decide +kernel
theorem dX11_serve_183 : decode cX11_serve 183 = .ok (.getfield 26, 3) := by decide +kernel
theorem dX11_serve_186 : decode cX11_serve 186 = .ok (.iload_n 3, 1) := by decide +kernel
theorem dX11_serve_187 : decode cX11_serve 187 = .ok (.iconst 3, 1) := by decide +kernel
theorem dX11_serve_188 : decode cX11_serve 188 = .ok (.invokestatic 91, 3) := by decide +kernel
theorem dX11_serve_191 : decode cX11_serve 191 = .ok (.aload_n 0, 1) := by decide +kernel
theorem dX11_serve_192 : decode cX11_serve 192 = .ok (.getfield 67, 3) := by decide +kernel
theorem dX11_serve_195 : decode cX11_serve 195 = .ok (.iload_n 3, 1) := by decide +kernel
theorem dX11_serve_196 : decode cX11_serve 196 = .ok (.iaload, 1) := by decide +kernel
theorem dX11_serve_197 : decode cX11_serve 197 = .ok (.iastore, 1) := by decide +kernel
theorem dX11_serve_198 : decode cX11_serve 198 = .ok (.iinc 3 1, 3) := by decide +kernel
theorem dX11_serve_201 : decode cX11_serve 201 = .ok (.goto (-29), 3) := by decide +kernel
theorem dX11_serve_204 : decode cX11_serve 204 = .ok (.aload_n 0, 1) := by decide +kernel
theorem dX11_serve_205 : decode cX11_serve 205 = .ok (.getfield 26, 3) := by decide +kernel
theorem dX11_serve_208 : decode cX11_serve 208 = .ok (.iconst 1, 1) := by decide +kernel
theorem dX11_serve_209 : decode cX11_serve 209 = .ok (.iconst 1, 1) := by decide +kernel
theorem dX11_serve_210 : decode cX11_serve 210 = .ok (.iastore, 1) := by decide +kernel
theorem dX11_serve_211 : decode cX11_serve 211 = .ok (.aload_n 0, 1) := by decide +kernel
theorem dX11_serve_212 : decode cX11_serve 212 = .ok (.getfield 26, 3) := by decide +kernel
theorem dX11_serve_215 : decode cX11_serve 215 = .ok (.iconst 2, 1) := by decide +kernel
theorem dX11_serve_216 : decode cX11_serve 216 = .ok (.iconst 0, 1) := by decide +kernel
theorem dX11_serve_217 : decode cX11_serve 217 = .ok (.iastore, 1) := by decide +kernel
theorem dX11_serve_218 : decode cX11_serve 218 = .ok (.aload_n 0, 1) := by decide +kernel
theorem dX11_serve_219 : decode cX11_serve 219 = .ok (.getfield 26, 3) := by decide +kernel
theorem dX11_serve_222 : decode cX11_serve 222 = .ok (.iconst 4, 1) := by decide +kernel
theorem dX11_serve_223 : decode cX11_serve 223 = .ok (.iconst 0, 1) := by decide +kernel
theorem dX11_serve_224 : decode cX11_serve 224 = .ok (.iastore, 1) := by decide +kernel
theorem dX11_serve_225 : decode cX11_serve 225 = .ok (.iload_n 2, 1) := by decide +kernel
theorem dX11_serve_226 : decode cX11_serve 226 = .ok (.ireturn, 1) := by decide +kernel
theorem dX11_account_0 : decode cX11_account 0 = .ok (.aload_n 0, 1) := by decide +kernel
theorem dX11_account_1 : decode cX11_account 1 = .ok (.iload_n 1, 1) := by decide +kernel
theorem dX11_account_2 : decode cX11_account 2 = .ok (.iconst 0, 1) := by decide +kernel
theorem dX11_account_3 : decode cX11_account 3 = .ok (.iconst 5, 1) := by decide +kernel
theorem dX11_account_4 : decode cX11_account 4 = .ok (.invokestatic 102, 3) := by decide +kernel
theorem dX11_account_7 : decode cX11_account 7 = .ok (.ifCond .eq 7, 3) := by decide +kernel
theorem dX11_account_10 : decode cX11_account 10 = .ok (.iconst 0, 1) := by decide +kernel
theorem dX11_account_11 : decode cX11_account 11 = .ok (.goto 4, 3) := by decide +kernel
theorem dX11_account_14 : decode cX11_account 14 = .ok (.iconst 1, 1) := by decide +kernel
theorem dX11_account_15 : decode cX11_account 15 = .ok (.invokevirtual 98, 3) := by decide +kernel
theorem dX11_account_18 : decode cX11_account 18 = .ok (.ifCond .eq 5, 3) := by decide +kernel
theorem dX11_account_21 : decode cX11_account 21 = .ok (.lconst 0, 1) := by decide +kernel
theorem dX11_account_22 : decode cX11_account 22 = .ok (.lreturn, 1) := by decide +kernel
theorem dX11_account_23 : decode cX11_account 23 = .ok (.aload_n 0, 1) := by decide +kernel
theorem dX11_account_24 : decode cX11_account 24 = .ok (.getfield 38, 3) := by decide +kernel
theorem dX11_account_27 : decode cX11_account 27 = .ok (.iload_n 1, 1) := by decide +kernel
theorem dX11_account_28 : decode cX11_account 28 = .ok (.laload, 1) := by decide +kernel
theorem dX11_account_29 : decode cX11_account 29 = .ok (.lreturn, 1) := by decide +kernel
theorem dX11_shareNow_0 : decode cX11_shareNow 0 = .ok (.aload_n 0, 1) := by decide +kernel
theorem dX11_shareNow_1 : decode cX11_shareNow 1 = .ok (.getfield 38, 3) := by decide +kernel
theorem dX11_shareNow_4 : decode cX11_shareNow 4 = .ok (.iconst 0, 1) := by decide +kernel
theorem dX11_shareNow_5 : decode cX11_shareNow 5 = .ok (.laload, 1) := by decide +kernel
theorem dX11_shareNow_6 : decode cX11_shareNow 6 = .ok (.lconst 0, 1) := by decide +kernel
theorem dX11_shareNow_7 : decode cX11_shareNow 7 = .ok (.lcmp, 1) := by decide +kernel
theorem dX11_shareNow_8 : decode cX11_shareNow 8 = .ok (.ifCond .ne 7, 3) := by decide +kernel
theorem dX11_shareNow_11 : decode cX11_shareNow 11 = .ok (.fconst 0, 1) := by decide +kernel
theorem dX11_shareNow_12 : decode cX11_shareNow 12 = .ok (.goto 18, 3) := by decide +kernel
theorem dX11_shareNow_15 : decode cX11_shareNow 15 = .ok (.aload_n 0, 1) := by decide +kernel
theorem dX11_shareNow_16 : decode cX11_shareNow 16 = .ok (.getfield 38, 3) := by decide +kernel
theorem dX11_shareNow_19 : decode cX11_shareNow 19 = .ok (.iconst 2, 1) := by decide +kernel
theorem dX11_shareNow_20 : decode cX11_shareNow 20 = .ok (.laload, 1) := by decide +kernel
theorem dX11_shareNow_21 : decode cX11_shareNow 21 = .ok (.l2f, 1) := by decide +kernel
theorem dX11_shareNow_22 : decode cX11_shareNow 22 = .ok (.aload_n 0, 1) := by decide +kernel
theorem dX11_shareNow_23 : decode cX11_shareNow 23 = .ok (.getfield 38, 3) := by decide +kernel
theorem dX11_shareNow_26 : decode cX11_shareNow 26 = .ok (.iconst 0, 1) := by decide +kernel
theorem dX11_shareNow_27 : decode cX11_shareNow 27 = .ok (.laload, 1) := by decide +kernel
theorem dX11_shareNow_28 : decode cX11_shareNow 28 = .ok (.l2f, 1) := by decide +kernel
theorem dX11_shareNow_29 : decode cX11_shareNow 29 = .ok (.fdiv, 1) := by decide +kernel
theorem dX11_shareNow_30 : decode cX11_shareNow 30 = .ok (.freturn, 1) := by decide +kernel
theorem dX11_wasteShare_0 : decode cX11_wasteShare 0 = .ok (.aload_n 0, 1) := by decide +kernel
theorem dX11_wasteShare_1 : decode cX11_wasteShare 1 = .ok (.iconst 0, 1) := by decide +kernel
theorem dX11_wasteShare_2 : decode cX11_wasteShare 2 = .ok (.putfield 88, 3) := by decide +kernel
theorem dX11_wasteShare_5 : decode cX11_wasteShare 5 = .ok (.aload_n 0, 1) := by decide +kernel
theorem dX11_wasteShare_6 : decode cX11_wasteShare 6 = .ok (.invokevirtual 483, 3) := by decide +kernel
theorem dX11_wasteShare_9 : decode cX11_wasteShare 9 = .ok (.freturn, 1) := by decide +kernel
theorem dX11_wasteBits_0 : decode cX11_wasteBits 0 = .ok (.aload_n 0, 1) := by decide +kernel
theorem dX11_wasteBits_1 : decode cX11_wasteBits 1 = .ok (.iconst 0, 1) := by decide +kernel
theorem dX11_wasteBits_2 : decode cX11_wasteBits 2 = .ok (.putfield 88, 3) := by decide +kernel
theorem dX11_wasteBits_5 : decode cX11_wasteBits 5 = .ok (.aload_n 0, 1) := by decide +kernel
theorem dX11_wasteBits_6 : decode cX11_wasteBits 6 = .ok (.invokevirtual 483, 3) := by decide +kernel
theorem dX11_wasteBits_9 : decode cX11_wasteBits 9 = .ok (.invokestatic 487, 3) := by decide +kernel
theorem dX11_wasteBits_12 : decode cX11_wasteBits 12 = .ok (.ireturn, 1) := by decide +kernel
theorem dX11_costBits_0 : decode cX11_costBits 0 = .ok (.aload_n 0, 1) := by decide +kernel
theorem dX11_costBits_1 : decode cX11_costBits 1 = .ok (.iconst 0, 1) := by decide +kernel
theorem dX11_costBits_2 : decode cX11_costBits 2 = .ok (.putfield 88, 3) := by decide +kernel
theorem dX11_costBits_5 : decode cX11_costBits 5 = .ok (.aload_n 0, 1) := by decide +kernel
theorem dX11_costBits_6 : decode cX11_costBits 6 = .ok (.getfield 38, 3) := by decide +kernel
theorem dX11_costBits_9 : decode cX11_costBits 9 = .ok (.iconst 5, 1) := by decide +kernel
theorem dX11_costBits_10 : decode cX11_costBits 10 = .ok (.laload, 1) := by decide +kernel
theorem dX11_costBits_11 : decode cX11_costBits 11 = .ok (.lconst 0, 1) := by decide +kernel
theorem dX11_costBits_12 : decode cX11_costBits 12 = .ok (.lcmp, 1) := by decide +kernel
theorem dX11_costBits_13 : decode cX11_costBits 13 = .ok (.ifCond .ne 7, 3) := by decide +kernel
theorem dX11_costBits_16 : decode cX11_costBits 16 = .ok (.lconst 0, 1) := by decide +kernel
theorem dX11_costBits_17 : decode cX11_costBits 17 = .ok (.goto 21, 3) := by decide +kernel
theorem dX11_costBits_20 : decode cX11_costBits 20 = .ok (.aload_n 0, 1) := by decide +kernel
theorem dX11_costBits_21 : decode cX11_costBits 21 = .ok (.getfield 38, 3) := by decide +kernel
theorem dX11_costBits_24 : decode cX11_costBits 24 = .ok (.iconst 3, 1) := by decide +kernel
theorem dX11_costBits_25 : decode cX11_costBits 25 = .ok (.laload, 1) := by decide +kernel
theorem dX11_costBits_26 : decode cX11_costBits 26 = .ok (.l2d, 1) := by decide +kernel
theorem dX11_costBits_27 : decode cX11_costBits 27 = .ok (.aload_n 0, 1) := by decide +kernel
theorem dX11_costBits_28 : decode cX11_costBits 28 = .ok (.getfield 38, 3) := by decide +kernel
theorem dX11_costBits_31 : decode cX11_costBits 31 = .ok (.iconst 5, 1) := by decide +kernel
theorem dX11_costBits_32 : decode cX11_costBits 32 = .ok (.laload, 1) := by decide +kernel
theorem dX11_costBits_33 : decode cX11_costBits 33 = .ok (.l2d, 1) := by decide +kernel
theorem dX11_costBits_34 : decode cX11_costBits 34 = .ok (.ddiv, 1) := by decide +kernel
theorem dX11_costBits_35 : decode cX11_costBits 35 = .ok (.invokestatic 493, 3) := by decide +kernel
theorem dX11_costBits_38 : decode cX11_costBits 38 = .ok (.lreturn, 1) := by decide +kernel
theorem dX11_says_0 : decode cX11_says 0 = .ok (.aload_n 0, 1) := by decide +kernel
theorem dX11_says_1 : decode cX11_says 1 = .ok (.getfield 85, 3) := by decide +kernel
theorem dX11_says_4 : decode cX11_says 4 = .ok (.aload_n 0, 1) := by decide +kernel
theorem dX11_says_5 : decode cX11_says 5 = .ok (.getfield 499, 3) := by decide +kernel
theorem dX11_says_8 : decode cX11_says 8 = .ok (.iload_n 1, 1) := by decide +kernel
theorem dX11_says_9 : decode cX11_says 9 = .ok (.iastore, 1) := by decide +kernel
theorem dX11_says_10 : decode cX11_says 10 = .ok (.aload_n 0, 1) := by decide +kernel
theorem dX11_says_11 : decode cX11_says 11 = .ok (.aload_n 0, 1) := by decide +kernel
theorem dX11_says_12 : decode cX11_says 12 = .ok (.getfield 499, 3) := by decide +kernel
theorem dX11_says_15 : decode cX11_says 15 = .ok (.iconst 1, 1) := by decide +kernel
theorem dX11_says_16 : decode cX11_says 16 = .ok (.iadd, 1) := by decide +kernel
theorem dX11_says_17 : decode cX11_says 17 = .ok (.putfield 499, 3) := by decide +kernel
theorem dX11_says_20 : decode cX11_says 20 = .ok (.return_, 1) := by decide +kernel
theorem dX11_saysNumber_0 : decode cX11_saysNumber 0 = .ok (.iload_n 1, 1) := by decide +kernel
theorem dX11_saysNumber_1 : decode cX11_saysNumber 1 = .ok (.bipush 9, 2) := by decide +kernel
theorem dX11_saysNumber_3 : decode cX11_saysNumber 3 = .ok (.if_icmp .le 14, 3) := by decide +kernel
theorem dX11_saysNumber_6 : decode cX11_saysNumber 6 = .ok (.aload_n 0, 1) := by decide +kernel
theorem dX11_saysNumber_7 : decode cX11_saysNumber 7 = .ok (.bipush 48, 2) := by decide +kernel
theorem dX11_saysNumber_9 : decode cX11_saysNumber 9 = .ok (.iload_n 1, 1) := by decide +kernel
theorem dX11_saysNumber_10 : decode cX11_saysNumber 10 = .ok (.bipush 10, 2) := by decide +kernel
theorem dX11_saysNumber_12 : decode cX11_saysNumber 12 = .ok (.idiv, 1) := by decide +kernel
theorem dX11_saysNumber_13 : decode cX11_saysNumber 13 = .ok (.iadd, 1) := by decide +kernel
theorem dX11_saysNumber_14 : decode cX11_saysNumber 14 = .ok (.invokevirtual 502, 3) := by decide +kernel
theorem dX11_saysNumber_17 : decode cX11_saysNumber 17 = .ok (.aload_n 0, 1) := by decide +kernel
theorem dX11_saysNumber_18 : decode cX11_saysNumber 18 = .ok (.bipush 48, 2) := by decide +kernel
theorem dX11_saysNumber_20 : decode cX11_saysNumber 20 = .ok (.iload_n 1, 1) := by decide +kernel
theorem dX11_saysNumber_21 : decode cX11_saysNumber 21 = .ok (.bipush 10, 2) := by decide +kernel
theorem dX11_saysNumber_23 : decode cX11_saysNumber 23 = .ok (.irem, 1) := by decide +kernel
theorem dX11_saysNumber_24 : decode cX11_saysNumber 24 = .ok (.iadd, 1) := by decide +kernel
theorem dX11_saysNumber_25 : decode cX11_saysNumber 25 = .ok (.invokevirtual 502, 3) := by decide +kernel
theorem dX11_saysNumber_28 : decode cX11_saysNumber 28 = .ok (.return_, 1) := by decide +kernel
theorem dX11_saysName_0 : decode cX11_saysName 0 = .ok (.bipush 25, 2) := by decide +kernel
theorem dX11_saysName_2 : decode cX11_saysName 2 = .ok (.istore_n 3, 1) := by decide +kernel
theorem dX11_saysName_3 : decode cX11_saysName 3 = .ok (.iload_n 3, 1) := by decide +kernel
theorem dX11_saysName_4 : decode cX11_saysName 4 = .ok (.ifCond .lt 34, 3) := by decide +kernel
theorem dX11_saysName_7 : decode cX11_saysName 7 = .ok (.lload_n 1, 1) := by decide +kernel
theorem dX11_saysName_8 : decode cX11_saysName 8 = .ok (.iload_n 3, 1) := by decide +kernel
theorem dX11_saysName_9 : decode cX11_saysName 9 = .ok (.lshr, 1) := by decide +kernel
theorem dX11_saysName_10 : decode cX11_saysName 10 = .ok (.ldc2_w 505, 3) := by decide +kernel
theorem dX11_saysName_13 : decode cX11_saysName 13 = .ok (.land, 1) := by decide +kernel
theorem dX11_saysName_14 : decode cX11_saysName 14 = .ok (.l2i, 1) := by decide +kernel
theorem dX11_saysName_15 : decode cX11_saysName 15 = .ok (.istore 4, 2) := by decide +kernel
theorem dX11_saysName_17 : decode cX11_saysName 17 = .ok (.iload 4, 2) := by decide +kernel
theorem dX11_saysName_19 : decode cX11_saysName 19 = .ok (.ifCond .le 12, 3) := by decide +kernel
theorem dX11_saysName_22 : decode cX11_saysName 22 = .ok (.aload_n 0, 1) := by decide +kernel
theorem dX11_saysName_23 : decode cX11_saysName 23 = .ok (.bipush 96, 2) := by decide +kernel
theorem dX11_saysName_25 : decode cX11_saysName 25 = .ok (.iload 4, 2) := by decide +kernel
theorem dX11_saysName_27 : decode cX11_saysName 27 = .ok (.iadd, 1) := by decide +kernel
theorem dX11_saysName_28 : decode cX11_saysName 28 = .ok (.invokevirtual 502, 3) := by decide +kernel
theorem dX11_saysName_31 : decode cX11_saysName 31 = .ok (.iload_n 3, 1) := by decide +kernel
theorem dX11_saysName_32 : decode cX11_saysName 32 = .ok (.iconst 5, 1) := by decide +kernel
theorem dX11_saysName_33 : decode cX11_saysName 33 = .ok (.isub, 1) := by decide +kernel
theorem dX11_saysName_34 : decode cX11_saysName 34 = .ok (.istore_n 3, 1) := by decide +kernel
theorem dX11_saysName_35 : decode cX11_saysName 35 = .ok (.goto (-32), 3) := by decide +kernel
theorem dX11_saysName_38 : decode cX11_saysName 38 = .ok (.return_, 1) := by decide +kernel
theorem dX11_writeTrolley_0 : decode cX11_writeTrolley 0 = .ok (.aload_n 0, 1) := by decide +kernel
theorem dX11_writeTrolley_1 : decode cX11_writeTrolley 1 = .ok (.aload_n 0, 1) := by decide +kernel
theorem dX11_writeTrolley_2 : decode cX11_writeTrolley 2 = .ok (.iload_n 1, 1) := by decide +kernel
theorem dX11_writeTrolley_3 : decode cX11_writeTrolley 3 = .ok (.invokevirtual 391, 3) := by decide +kernel
theorem dX11_writeTrolley_6 : decode cX11_writeTrolley 6 = .ok (.ifCond .eq 7, 3) := by decide +kernel
theorem dX11_writeTrolley_9 : decode cX11_writeTrolley 9 = .ok (.iconst 0, 1) := by decide +kernel
theorem dX11_writeTrolley_10 : decode cX11_writeTrolley 10 = .ok (.goto 4, 3) := by decide +kernel
theorem dX11_writeTrolley_13 : decode cX11_writeTrolley 13 = .ok (.iconst 1, 1) := by decide +kernel
theorem dX11_writeTrolley_14 : decode cX11_writeTrolley 14 = .ok (.invokevirtual 98, 3) := by decide +kernel
theorem dX11_writeTrolley_17 : decode cX11_writeTrolley 17 = .ok (.ifCond .eq 5, 3) := by decide +kernel
theorem dX11_writeTrolley_20 : decode cX11_writeTrolley 20 = .ok (.iconst 0, 1) := by decide +kernel
theorem dX11_writeTrolley_21 : decode cX11_writeTrolley 21 = .ok (.ireturn, 1) := by decide +kernel
theorem dX11_writeTrolley_22 : decode cX11_writeTrolley 22 = .ok (.aload_n 0, 1) := by decide +kernel
theorem dX11_writeTrolley_23 : decode cX11_writeTrolley 23 = .ok (.iconst 0, 1) := by decide +kernel
theorem dX11_writeTrolley_24 : decode cX11_writeTrolley 24 = .ok (.putfield 499, 3) := by decide +kernel
theorem dX11_writeTrolley_27 : decode cX11_writeTrolley 27 = .ok (.iconst 0, 1) := by decide +kernel
theorem dX11_writeTrolley_28 : decode cX11_writeTrolley 28 = .ok (.istore_n 2, 1) := by decide +kernel
theorem dX11_writeTrolley_29 : decode cX11_writeTrolley 29 = .ok (.iload_n 2, 1) := by decide +kernel
theorem dX11_writeTrolley_30 : decode cX11_writeTrolley 30 = .ok (.aload_n 0, 1) := by decide +kernel
theorem dX11_writeTrolley_31 : decode cX11_writeTrolley 31 = .ok (.invokevirtual 300, 3) := by decide +kernel
theorem dX11_writeTrolley_34 : decode cX11_writeTrolley 34 = .ok (.if_icmp .ge 61, 3) := by decide +kernel
theorem dX11_writeTrolley_37 : decode cX11_writeTrolley 37 = .ok (.aload_n 0, 1) := by decide +kernel
theorem dX11_writeTrolley_38 : decode cX11_writeTrolley 38 = .ok (.getfield 26, 3) := by decide +kernel
theorem dX11_writeTrolley_41 : decode cX11_writeTrolley 41 = .ok (.iload_n 1, 1) := by decide +kernel
theorem dX11_writeTrolley_42 : decode cX11_writeTrolley 42 = .ok (.iload_n 2, 1) := by decide +kernel
theorem dX11_writeTrolley_43 : decode cX11_writeTrolley 43 = .ok (.invokestatic 333, 3) := by decide +kernel
theorem dX11_writeTrolley_46 : decode cX11_writeTrolley 46 = .ok (.iaload, 1) := by decide +kernel
theorem dX11_writeTrolley_47 : decode cX11_writeTrolley 47 = .ok (.istore_n 3, 1) := by decide +kernel
theorem dX11_writeTrolley_48 : decode cX11_writeTrolley 48 = .ok (.iload_n 3, 1) := by decide +kernel
theorem dX11_writeTrolley_49 : decode cX11_writeTrolley 49 = .ok (.ifCond .ne 6, 3) := by decide +kernel
theorem dX11_writeTrolley_52 : decode cX11_writeTrolley 52 = .ok (.goto 37, 3) := by decide +kernel
theorem dX11_writeTrolley_55 : decode cX11_writeTrolley 55 = .ok (.aload_n 0, 1) := by decide +kernel
theorem dX11_writeTrolley_56 : decode cX11_writeTrolley 56 = .ok (.getfield 499, 3) := by decide +kernel
theorem dX11_writeTrolley_59 : decode cX11_writeTrolley 59 = .ok (.ifCond .le 9, 3) := by decide +kernel
theorem dX11_writeTrolley_62 : decode cX11_writeTrolley 62 = .ok (.aload_n 0, 1) := by decide +kernel
theorem dX11_writeTrolley_63 : decode cX11_writeTrolley 63 = .ok (.bipush 32, 2) := by decide +kernel
theorem dX11_writeTrolley_65 : decode cX11_writeTrolley 65 = .ok (.invokevirtual 502, 3) := by decide +kernel
theorem dX11_writeTrolley_68 : decode cX11_writeTrolley 68 = .ok (.aload_n 0, 1) := by decide +kernel
theorem dX11_writeTrolley_69 : decode cX11_writeTrolley 69 = .ok (.iload_n 3, 1) := by decide +kernel
theorem dX11_writeTrolley_70 : decode cX11_writeTrolley 70 = .ok (.invokevirtual 507, 3) := by decide +kernel
theorem dX11_writeTrolley_73 : decode cX11_writeTrolley 73 = .ok (.aload_n 0, 1) := by decide +kernel
theorem dX11_writeTrolley_74 : decode cX11_writeTrolley 74 = .ok (.bipush 120, 2) := by decide +kernel
theorem dX11_writeTrolley_76 : decode cX11_writeTrolley 76 = .ok (.invokevirtual 502, 3) := by decide +kernel
theorem dX11_writeTrolley_79 : decode cX11_writeTrolley 79 = .ok (.aload_n 0, 1) := by decide +kernel
theorem dX11_writeTrolley_80 : decode cX11_writeTrolley 80 = .ok (.aload_n 0, 1) := by decide +kernel
theorem dX11_writeTrolley_81 : decode cX11_writeTrolley 81 = .ok (.getfield 16, 3) := by decide +kernel
theorem dX11_writeTrolley_84 : decode cX11_writeTrolley 84 = .ok (.iload_n 2, 1) := by decide +kernel
theorem dX11_writeTrolley_85 : decode cX11_writeTrolley 85 = .ok (.laload, 1) := by decide +kernel
theorem dX11_writeTrolley_86 : decode cX11_writeTrolley 86 = .ok (.invokevirtual 510, 3) := by decide +kernel
theorem dX11_writeTrolley_89 : decode cX11_writeTrolley 89 = .ok (.iinc 2 1, 3) := by decide +kernel
theorem dX11_writeTrolley_92 : decode cX11_writeTrolley 92 = .ok (.goto (-63), 3) := by decide +kernel
theorem dX11_writeTrolley_95 : decode cX11_writeTrolley 95 = .ok (.aload_n 0, 1) := by decide +kernel
theorem dX11_writeTrolley_96 : decode cX11_writeTrolley 96 = .ok (.bipush 10, 2) := by decide +kernel
theorem dX11_writeTrolley_98 : decode cX11_writeTrolley 98 = .ok (.invokevirtual 502, 3) := by decide +kernel
theorem dX11_writeTrolley_101 : decode cX11_writeTrolley 101 = .ok (.aload_n 0, 1) := by decide +kernel
theorem dX11_writeTrolley_102 : decode cX11_writeTrolley 102 = .ok (.getfield 499, 3) := by decide +kernel
theorem dX11_writeTrolley_105 : decode cX11_writeTrolley 105 = .ok (.ireturn, 1) := by decide +kernel
theorem dX11_outputByte_0 : decode cX11_outputByte 0 = .ok (.aload_n 0, 1) := by decide +kernel
theorem dX11_outputByte_1 : decode cX11_outputByte 1 = .ok (.iload_n 1, 1) := by decide +kernel
theorem dX11_outputByte_2 : decode cX11_outputByte 2 = .ok (.iconst 0, 1) := by decide +kernel
theorem dX11_outputByte_3 : decode cX11_outputByte 3 = .ok (.aload_n 0, 1) := by decide +kernel
theorem dX11_outputByte_4 : decode cX11_outputByte 4 = .ok (.getfield 499, 3) := by decide +kernel
theorem dX11_outputByte_7 : decode cX11_outputByte 7 = .ok (.iconst 1, 1) := by decide +kernel
theorem dX11_outputByte_8 : decode cX11_outputByte 8 = .ok (.isub, 1) := by decide +kernel
theorem dX11_outputByte_9 : decode cX11_outputByte 9 = .ok (.invokestatic 102, 3) := by decide +kernel
theorem dX11_outputByte_12 : decode cX11_outputByte 12 = .ok (.ifCond .eq 7, 3) := by decide +kernel
theorem dX11_outputByte_15 : decode cX11_outputByte 15 = .ok (.iconst 0, 1) := by decide +kernel
theorem dX11_outputByte_16 : decode cX11_outputByte 16 = .ok (.goto 4, 3) := by decide +kernel
theorem dX11_outputByte_19 : decode cX11_outputByte 19 = .ok (.iconst 1, 1) := by decide +kernel
theorem dX11_outputByte_20 : decode cX11_outputByte 20 = .ok (.invokevirtual 98, 3) := by decide +kernel
theorem dX11_outputByte_23 : decode cX11_outputByte 23 = .ok (.ifCond .eq 5, 3) := by decide +kernel
theorem dX11_outputByte_26 : decode cX11_outputByte 26 = .ok (.iconst 0, 1) := by decide +kernel
theorem dX11_outputByte_27 : decode cX11_outputByte 27 = .ok (.ireturn, 1) := by decide +kernel
theorem dX11_outputByte_28 : decode cX11_outputByte 28 = .ok (.aload_n 0, 1) := by decide +kernel
theorem dX11_outputByte_29 : decode cX11_outputByte 29 = .ok (.getfield 85, 3) := by decide +kernel
theorem dX11_outputByte_32 : decode cX11_outputByte 32 = .ok (.iload_n 1, 1) := by decide +kernel
theorem dX11_outputByte_33 : decode cX11_outputByte 33 = .ok (.iaload, 1) := by decide +kernel
theorem dX11_outputByte_34 : decode cX11_outputByte 34 = .ok (.ireturn, 1) := by decide +kernel
theorem dJxe99ae_isNaN_b9ae7_0 : decode cJxe99ae_isNaN_b9ae7 0 = .ok (.dload_n 0, 1) := by decide +kernel
theorem dJxe99ae_isNaN_b9ae7_1 : decode cJxe99ae_isNaN_b9ae7 1 = .ok (.dload_n 0, 1) := by decide +kernel
theorem dJxe99ae_isNaN_b9ae7_2 : decode cJxe99ae_isNaN_b9ae7 2 = .ok (.dcmp .l, 1) := by decide +kernel
theorem dJxe99ae_isNaN_b9ae7_3 : decode cJxe99ae_isNaN_b9ae7 3 = .ok (.ifCond .eq 7, 3) := by decide +kernel
theorem dJxe99ae_isNaN_b9ae7_6 : decode cJxe99ae_isNaN_b9ae7 6 = .ok (.iconst 1, 1) := by decide +kernel
theorem dJxe99ae_isNaN_b9ae7_7 : decode cJxe99ae_isNaN_b9ae7 7 = .ok (.goto 4, 3) := by decide +kernel
theorem dJxe99ae_isNaN_b9ae7_10 : decode cJxe99ae_isNaN_b9ae7 10 = .ok (.iconst 0, 1) := by decide +kernel
theorem dJxe99ae_isNaN_b9ae7_11 : decode cJxe99ae_isNaN_b9ae7 11 = .ok (.ireturn, 1) := by decide +kernel
theorem dJxe99ae_doubleToLongBits_ccdee_0 : decode cJxe99ae_doubleToLongBits_ccdee 0 = .ok (.dload_n 0, 1) := by decide +kernel
theorem dJxe99ae_doubleToLongBits_ccdee_1 : decode cJxe99ae_doubleToLongBits_ccdee 1 = .ok (.invokestatic 122, 3) := by decide +kernel
theorem dJxe99ae_doubleToLongBits_ccdee_4 : decode cJxe99ae_doubleToLongBits_ccdee 4 = .ok (.ifCond .ne 8, 3) := by decide +kernel
theorem dJxe99ae_doubleToLongBits_ccdee_7 : decode cJxe99ae_doubleToLongBits_ccdee 7 = .ok (.dload_n 0, 1) := by decide +kernel
theorem dJxe99ae_doubleToLongBits_ccdee_8 : decode cJxe99ae_doubleToLongBits_ccdee 8 = .ok (.invokestatic 134, 3) := by decide +kernel
theorem dJxe99ae_doubleToLongBits_ccdee_11 : decode cJxe99ae_doubleToLongBits_ccdee 11 = .ok (.lreturn, 1) := by decide +kernel
theorem dJxe99ae_doubleToLongBits_ccdee_12 : decode cJxe99ae_doubleToLongBits_ccdee 12 = .ok (.ldc2_w 137, 3) := by decide +kernel
theorem dJxe99ae_doubleToLongBits_ccdee_15 : decode cJxe99ae_doubleToLongBits_ccdee 15 = .ok (.lreturn, 1) := by decide +kernel
theorem dJxf58ca_isNaN_12338_0 : decode cJxf58ca_isNaN_12338 0 = .ok (.fload_n 0, 1) := by decide +kernel
theorem dJxf58ca_isNaN_12338_1 : decode cJxf58ca_isNaN_12338 1 = .ok (.fload_n 0, 1) := by decide +kernel
theorem dJxf58ca_isNaN_12338_2 : decode cJxf58ca_isNaN_12338 2 = .ok (.fcmp .l, 1) := by decide +kernel
theorem dJxf58ca_isNaN_12338_3 : decode cJxf58ca_isNaN_12338 3 = .ok (.ifCond .eq 7, 3) := by decide +kernel
theorem dJxf58ca_isNaN_12338_6 : decode cJxf58ca_isNaN_12338 6 = .ok (.iconst 1, 1) := by decide +kernel
theorem dJxf58ca_isNaN_12338_7 : decode cJxf58ca_isNaN_12338 7 = .ok (.goto 4, 3) := by decide +kernel
theorem dJxf58ca_isNaN_12338_10 : decode cJxf58ca_isNaN_12338 10 = .ok (.iconst 0, 1) := by decide +kernel
theorem dJxf58ca_isNaN_12338_11 : decode cJxf58ca_isNaN_12338 11 = .ok (.ireturn, 1) := by decide +kernel
theorem dJxf58ca_floatToIntBits_5c35a_0 : decode cJxf58ca_floatToIntBits_5c35a 0 = .ok (.fload_n 0, 1) := by decide +kernel
theorem dJxf58ca_floatToIntBits_5c35a_1 : decode cJxf58ca_floatToIntBits_5c35a 1 = .ok (.invokestatic 59, 3) := by decide +kernel
theorem dJxf58ca_floatToIntBits_5c35a_4 : decode cJxf58ca_floatToIntBits_5c35a 4 = .ok (.ifCond .ne 8, 3) := by decide +kernel
theorem dJxf58ca_floatToIntBits_5c35a_7 : decode cJxf58ca_floatToIntBits_5c35a 7 = .ok (.fload_n 0, 1) := by decide +kernel
theorem dJxf58ca_floatToIntBits_5c35a_8 : decode cJxf58ca_floatToIntBits_5c35a 8 = .ok (.invokestatic 74, 3) := by decide +kernel
theorem dJxf58ca_floatToIntBits_5c35a_11 : decode cJxf58ca_floatToIntBits_5c35a 11 = .ok (.ireturn, 1) := by decide +kernel
theorem dJxf58ca_floatToIntBits_5c35a_12 : decode cJxf58ca_floatToIntBits_5c35a 12 = .ok (.ldc 77, 2) := by decide +kernel
theorem dJxf58ca_floatToIntBits_5c35a_14 : decode cJxf58ca_floatToIntBits_5c35a 14 = .ok (.ireturn, 1) := by decide +kernel
theorem dJ9_max_7cf53_0 : decode cJ9_max_7cf53 0 = .ok (.iload_n 0, 1) := by decide +kernel
theorem dJ9_max_7cf53_1 : decode cJ9_max_7cf53 1 = .ok (.iload_n 1, 1) := by decide +kernel
theorem dJ9_max_7cf53_2 : decode cJ9_max_7cf53 2 = .ok (.if_icmp .lt 7, 3) := by decide +kernel
theorem dJ9_max_7cf53_5 : decode cJ9_max_7cf53 5 = .ok (.iload_n 0, 1) := by decide +kernel
theorem dJ9_max_7cf53_6 : decode cJ9_max_7cf53 6 = .ok (.goto 4, 3) := by decide +kernel
theorem dJ9_max_7cf53_9 : decode cJ9_max_7cf53 9 = .ok (.iload_n 1, 1) := by decide +kernel
theorem dJ9_max_7cf53_10 : decode cJ9_max_7cf53 10 = .ok (.ireturn, 1) := by decide +kernel
theorem dJ9_min_7cf53_0 : decode cJ9_min_7cf53 0 = .ok (.iload_n 0, 1) := by decide +kernel
theorem dJ9_min_7cf53_1 : decode cJ9_min_7cf53 1 = .ok (.iload_n 1, 1) := by decide +kernel
theorem dJ9_min_7cf53_2 : decode cJ9_min_7cf53 2 = .ok (.if_icmp .gt 7, 3) := by decide +kernel
theorem dJ9_min_7cf53_5 : decode cJ9_min_7cf53 5 = .ok (.iload_n 0, 1) := by decide +kernel
theorem dJ9_min_7cf53_6 : decode cJ9_min_7cf53 6 = .ok (.goto 4, 3) := by decide +kernel
theorem dJ9_min_7cf53_9 : decode cJ9_min_7cf53 9 = .ok (.iload_n 1, 1) := by decide +kernel
theorem dJ9_min_7cf53_10 : decode cJ9_min_7cf53 10 = .ok (.ireturn, 1) := by decide +kernel
theorem dJ0_init_905df_0 : decode cJ0_init_905df 0 = .ok (.aload_n 0, 1) := by decide +kernel
theorem dJ0_init_905df_1 : decode cJ0_init_905df 1 = .ok (.aload_n 1, 1) := by decide +kernel
theorem dJ0_init_905df_2 : decode cJ0_init_905df 2 = .ok (.iconst 0, 1) := by decide +kernel
theorem dJ0_init_905df_3 : decode cJ0_init_905df 3 = .ok (.aload_n 1, 1) := by decide +kernel
theorem dJ0_init_905df_4 : decode cJ0_init_905df 4 = .ok (.arraylength, 1) := by decide +kernel
theorem dJ0_init_905df_5 : decode cJ0_init_905df 5 = .ok (.aconst_null, 1) := by decide +kernel
theorem dJ0_init_905df_6 : decode cJ0_init_905df 6 = .ok (.invokespecial 27, 3) := by decide +kernel
theorem dJ0_init_905df_9 : decode cJ0_init_905df 9 = .ok (.return_, 1) := by decide +kernel
theorem dJ0_length_8abf5_0 : decode cJ0_length_8abf5 0 = .ok (.aload_n 0, 1) := by decide +kernel
theorem dJ0_length_8abf5_1 : decode cJ0_length_8abf5 1 = .ok (.getfield 9, 3) := by decide +kernel
theorem dJ0_length_8abf5_4 : decode cJ0_length_8abf5 4 = .ok (.arraylength, 1) := by decide +kernel
theorem dJ0_length_8abf5_5 : decode cJ0_length_8abf5 5 = .ok (.aload_n 0, 1) := by decide +kernel
theorem dJ0_length_8abf5_6 : decode cJ0_length_8abf5 6 = .ok (.invokevirtual 335, 3) := by decide +kernel
theorem dJ0_length_8abf5_9 : decode cJ0_length_8abf5 9 = .ok (.ishr, 1) := by decide +kernel
theorem dJ0_length_8abf5_10 : decode cJ0_length_8abf5 10 = .ok (.ireturn, 1) := by decide +kernel
theorem dJ0_charAt_5068e_0 : decode cJ0_charAt_5068e 0 = .ok (.aload_n 0, 1) := by decide +kernel
theorem dJ0_charAt_5068e_1 : decode cJ0_charAt_5068e 1 = .ok (.invokevirtual 492, 3) := by decide +kernel
theorem dJ0_charAt_5068e_4 : decode cJ0_charAt_5068e 4 = .ok (.ifCond .eq 12, 3) := by decide +kernel
theorem dJ0_charAt_5068e_7 : decode cJ0_charAt_5068e 7 = .ok (.aload_n 0, 1) := by decide +kernel
theorem dJ0_charAt_5068e_8 : decode cJ0_charAt_5068e 8 = .ok (.getfield 9, 3) := by decide +kernel
theorem dJ0_charAt_5068e_11 : decode cJ0_charAt_5068e 11 = .ok (.iload_n 1, 1) := by decide +kernel
theorem dJ0_charAt_5068e_12 : decode cJ0_charAt_5068e 12 = .ok (.invokestatic 495, 3) := by decide +kernel
theorem dJ0_charAt_5068e_15 : decode cJ0_charAt_5068e 15 = .ok (.ireturn, 1) := by decide +kernel
theorem dJ0_charAt_5068e_16 : decode cJ0_charAt_5068e 16 = .ok (.aload_n 0, 1) := by decide +kernel
theorem dJ0_charAt_5068e_17 : decode cJ0_charAt_5068e 17 = .ok (.getfield 9, 3) := by decide +kernel
theorem dJ0_charAt_5068e_20 : decode cJ0_charAt_5068e 20 = .ok (.iload_n 1, 1) := by decide +kernel
theorem dJ0_charAt_5068e_21 : decode cJ0_charAt_5068e 21 = .ok (.invokestatic 498, 3) := by decide +kernel
theorem dJ0_charAt_5068e_24 : decode cJ0_charAt_5068e 24 = .ok (.ireturn, 1) := by decide +kernel
theorem dJ0_init_bb550_0 : decode cJ0_init_bb550 0 = .ok (.aload_n 0, 1) := by decide +kernel
theorem dJ0_init_bb550_1 : decode cJ0_init_bb550 1 = .ok (.invokespecial 1, 3) := by decide +kernel
theorem dJ0_init_bb550_4 : decode cJ0_init_bb550 4 = .ok (.iload_n 3, 1) := by decide +kernel
theorem dJ0_init_bb550_5 : decode cJ0_init_bb550 5 = .ok (.ifCond .ne 22, 3) := by decide +kernel
theorem dJ0_init_bb550_8 : decode cJ0_init_bb550 8 = .ok (.aload_n 0, 1) := by decide +kernel
theorem dJ0_init_bb550_9 : decode cJ0_init_bb550 9 = .ok (.ldc 7, 2) := by decide +kernel
theorem dJ0_init_bb550_11 : decode cJ0_init_bb550 11 = .ok (.getfield 9, 3) := by decide +kernel
theorem dJ0_init_bb550_14 : decode cJ0_init_bb550 14 = .ok (.putfield 9, 3) := by decide +kernel
theorem dJ0_init_bb550_17 : decode cJ0_init_bb550 17 = .ok (.aload_n 0, 1) := by decide +kernel
theorem dJ0_init_bb550_18 : decode cJ0_init_bb550 18 = .ok (.ldc 7, 2) := by decide +kernel
theorem dJ0_init_bb550_20 : decode cJ0_init_bb550 20 = .ok (.getfield 15, 3) := by decide +kernel
theorem dJ0_init_bb550_23 : decode cJ0_init_bb550 23 = .ok (.putfield 15, 3) := by decide +kernel
theorem dJ0_init_bb550_26 : decode cJ0_init_bb550 26 = .ok (.return_, 1) := by decide +kernel
theorem dJ0_init_bb550_27 : decode cJ0_init_bb550 27 = .ok (.getstatic 38, 3) := by decide +kernel
theorem dJ0_init_bb550_30 : decode cJ0_init_bb550 30 = .ok (.ifCond .eq 28, 3) := by decide +kernel
theorem dJ0_init_bb550_33 : decode cJ0_init_bb550 33 = .ok (.aload_n 1, 1) := by decide +kernel
theorem dJ0_init_bb550_34 : decode cJ0_init_bb550 34 = .ok (.iload_n 2, 1) := by decide +kernel
theorem dJ0_init_bb550_35 : decode cJ0_init_bb550 35 = .ok (.iload_n 3, 1) := by decide +kernel
theorem dJ0_init_bb550_36 : decode cJ0_init_bb550 36 = .ok (.invokestatic 177, 3) := by decide +kernel
theorem dJ0_init_bb550_39 : decode cJ0_init_bb550 39 = .ok (.astore 5, 2) := by decide +kernel
theorem dJ0_init_bb550_41 : decode cJ0_init_bb550 41 = .ok (.aload_n 0, 1) := by decide +kernel
theorem dJ0_init_bb550_42 : decode cJ0_init_bb550 42 = .ok (.aload 5, 2) := by decide +kernel
theorem dJ0_init_bb550_44 : decode cJ0_init_bb550 44 = .ok (.iload_n 3, 1) := by decide +kernel
theorem dJ0_init_bb550_45 : decode cJ0_init_bb550 45 = .ok (.invokestatic 47, 3) := by decide +kernel
theorem dJ0_init_bb550_48 : decode cJ0_init_bb550 48 = .ok (.putfield 15, 3) := by decide +kernel
theorem dJ0_init_bb550_51 : decode cJ0_init_bb550 51 = .ok (.aload_n 0, 1) := by decide +kernel
theorem dJ0_init_bb550_52 : decode cJ0_init_bb550 52 = .ok (.aload 5, 2) := by decide +kernel
theorem dJ0_init_bb550_54 : decode cJ0_init_bb550 54 = .ok (.putfield 9, 3) := by decide +kernel
theorem dJ0_init_bb550_57 : decode cJ0_init_bb550 57 = .ok (.return_, 1) := by decide +kernel
theorem dJ0_init_bb550_58 : decode cJ0_init_bb550 58 = .ok (.aload_n 0, 1) := by decide +kernel
theorem dJ0_init_bb550_59 : decode cJ0_init_bb550 59 = .ok (.iconst 1, 1) := by decide +kernel
theorem dJ0_init_bb550_60 : decode cJ0_init_bb550 60 = .ok (.putfield 15, 3) := by decide +kernel
theorem dJ0_init_bb550_63 : decode cJ0_init_bb550 63 = .ok (.aload_n 0, 1) := by decide +kernel
theorem dJ0_init_bb550_64 : decode cJ0_init_bb550 64 = .ok (.aload_n 1, 1) := by decide +kernel
theorem dJ0_init_bb550_65 : decode cJ0_init_bb550 65 = .ok (.iload_n 2, 1) := by decide +kernel
theorem dJ0_init_bb550_66 : decode cJ0_init_bb550 66 = .ok (.iload_n 3, 1) := by decide +kernel
theorem dJ0_init_bb550_67 : decode cJ0_init_bb550 67 = .ok (.invokestatic 180, 3) := by decide +kernel
theorem dJ0_init_bb550_70 : decode cJ0_init_bb550 70 = .ok (.putfield 9, 3) := by decide +kernel
theorem dJ0_init_bb550_73 : decode cJ0_init_bb550 73 = .ok (.return_, 1) := by decide +kernel
theorem dJ0_coder_7d493_0 : decode cJ0_coder_7d493 0 = .ok (.getstatic 38, 3) := by decide +kernel
theorem dJ0_coder_7d493_3 : decode cJ0_coder_7d493 3 = .ok (.ifCond .eq 10, 3) := by decide +kernel
theorem dJ0_coder_7d493_6 : decode cJ0_coder_7d493 6 = .ok (.aload_n 0, 1) := by decide +kernel
theorem dJ0_coder_7d493_7 : decode cJ0_coder_7d493 7 = .ok (.getfield 15, 3) := by decide +kernel
theorem dJ0_coder_7d493_10 : decode cJ0_coder_7d493 10 = .ok (.goto 4, 3) := by decide +kernel
theorem dJ0_coder_7d493_13 : decode cJ0_coder_7d493 13 = .ok (.iconst 1, 1) := by decide +kernel
theorem dJ0_coder_7d493_14 : decode cJ0_coder_7d493 14 = .ok (.ireturn, 1) := by decide +kernel
theorem dJ0_isLatin1_aae02_0 : decode cJ0_isLatin1_aae02 0 = .ok (.getstatic 38, 3) := by decide +kernel
theorem dJ0_isLatin1_aae02_3 : decode cJ0_isLatin1_aae02 3 = .ok (.ifCond .eq 14, 3) := by decide +kernel
theorem dJ0_isLatin1_aae02_6 : decode cJ0_isLatin1_aae02 6 = .ok (.aload_n 0, 1) := by decide +kernel
theorem dJ0_isLatin1_aae02_7 : decode cJ0_isLatin1_aae02 7 = .ok (.getfield 15, 3) := by decide +kernel
theorem dJ0_isLatin1_aae02_10 : decode cJ0_isLatin1_aae02 10 = .ok (.ifCond .ne 7, 3) := by decide +kernel
theorem dJ0_isLatin1_aae02_13 : decode cJ0_isLatin1_aae02 13 = .ok (.iconst 1, 1) := by decide +kernel
theorem dJ0_isLatin1_aae02_14 : decode cJ0_isLatin1_aae02 14 = .ok (.goto 4, 3) := by decide +kernel
theorem dJ0_isLatin1_aae02_17 : decode cJ0_isLatin1_aae02 17 = .ok (.iconst 0, 1) := by decide +kernel
theorem dJ0_isLatin1_aae02_18 : decode cJ0_isLatin1_aae02 18 = .ok (.ireturn, 1) := by decide +kernel
theorem dJ0_checkIndex_df160_0 : decode cJ0_checkIndex_df160 0 = .ok (.iload_n 0, 1) := by decide +kernel
theorem dJ0_checkIndex_df160_1 : decode cJ0_checkIndex_df160 1 = .ok (.iload_n 1, 1) := by decide +kernel
theorem dJ0_checkIndex_df160_2 : decode cJ0_checkIndex_df160 2 = .ok (.getstatic 1053, 3) := by decide +kernel
