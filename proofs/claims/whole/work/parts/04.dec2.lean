theorem dX10_store_40 : decode cX10_store 40 = .ok (.invokevirtual 323, 3) := by decide +kernel
theorem dX10_store_43 : decode cX10_store 43 = .ok (.aload_n 0, 1) := by decide +kernel
theorem dX10_store_44 : decode cX10_store 44 = .ok (.invokevirtual 329, 3) := by decide +kernel
theorem dX10_store_47 : decode cX10_store 47 = .ok (.aload_n 0, 1) := by decide +kernel
theorem dX10_store_48 : decode cX10_store 48 = .ok (.getfield 28, 3) := by decide +kernel
theorem dX10_store_51 : decode cX10_store 51 = .ok (.aload_n 0, 1) := by decide +kernel
theorem dX10_store_52 : decode cX10_store 52 = .ok (.getfield 32, 3) := by decide +kernel
theorem dX10_store_55 : decode cX10_store 55 = .ok (.invokevirtual 123, 3) := by decide +kernel
theorem dX10_store_58 : decode cX10_store 58 = .ok (.aload_n 0, 1) := by decide +kernel
theorem dX10_store_59 : decode cX10_store 59 = .ok (.getfield 28, 3) := by decide +kernel
theorem dX10_store_62 : decode cX10_store 62 = .ok (.iload_n 1, 1) := by decide +kernel
theorem dX10_store_63 : decode cX10_store 63 = .ok (.invokevirtual 233, 3) := by decide +kernel
theorem dX10_store_66 : decode cX10_store 66 = .ok (.ireturn, 1) := by decide +kernel
theorem dX10_unload_0 : decode cX10_unload 0 = .ok (.aload_n 0, 1) := by decide +kernel
theorem dX10_unload_1 : decode cX10_unload 1 = .ok (.iload_n 1, 1) := by decide +kernel
theorem dX10_unload_2 : decode cX10_unload 2 = .ok (.invokevirtual 212, 3) := by decide +kernel
theorem dX10_unload_5 : decode cX10_unload 5 = .ok (.aload_n 0, 1) := by decide +kernel
theorem dX10_unload_6 : decode cX10_unload 6 = .ok (.iload_n 2, 1) := by decide +kernel
theorem dX10_unload_7 : decode cX10_unload 7 = .ok (.invokevirtual 347, 3) := by decide +kernel
theorem dX10_unload_10 : decode cX10_unload 10 = .ok (.aload_n 0, 1) := by decide +kernel
theorem dX10_unload_11 : decode cX10_unload 11 = .ok (.invokevirtual 320, 3) := by decide +kernel
theorem dX10_unload_14 : decode cX10_unload 14 = .ok (.aload_n 0, 1) := by decide +kernel
theorem dX10_unload_15 : decode cX10_unload 15 = .ok (.getfield 28, 3) := by decide +kernel
theorem dX10_unload_18 : decode cX10_unload 18 = .ok (.iload_n 1, 1) := by decide +kernel
theorem dX10_unload_19 : decode cX10_unload 19 = .ok (.invokevirtual 233, 3) := by decide +kernel
theorem dX10_unload_22 : decode cX10_unload 22 = .ok (.iload_n 2, 1) := by decide +kernel
theorem dX10_unload_23 : decode cX10_unload 23 = .ok (.if_icmp .ge 8, 3) := by decide +kernel
theorem dX10_unload_26 : decode cX10_unload 26 = .ok (.aload_n 0, 1) := by decide +kernel
theorem dX10_unload_27 : decode cX10_unload 27 = .ok (.iconst 4, 1) := by decide +kernel
theorem dX10_unload_28 : decode cX10_unload 28 = .ok (.invokevirtual 323, 3) := by decide +kernel
theorem dX10_unload_31 : decode cX10_unload 31 = .ok (.aload_n 0, 1) := by decide +kernel
theorem dX10_unload_32 : decode cX10_unload 32 = .ok (.invokevirtual 329, 3) := by decide +kernel
theorem dX10_unload_35 : decode cX10_unload 35 = .ok (.aload_n 0, 1) := by decide +kernel
theorem dX10_unload_36 : decode cX10_unload 36 = .ok (.getfield 28, 3) := by decide +kernel
theorem dX10_unload_39 : decode cX10_unload 39 = .ok (.iload_n 1, 1) := by decide +kernel
theorem dX10_unload_40 : decode cX10_unload 40 = .ok (.iload_n 2, 1) := by decide +kernel
theorem dX10_unload_41 : decode cX10_unload 41 = .ok (.invokevirtual 350, 3) := by decide +kernel
theorem dX10_unload_44 : decode cX10_unload 44 = .ok (.aload_n 0, 1) := by decide +kernel
theorem dX10_unload_45 : decode cX10_unload 45 = .ok (.getfield 28, 3) := by decide +kernel
theorem dX10_unload_48 : decode cX10_unload 48 = .ok (.iload_n 1, 1) := by decide +kernel
theorem dX10_unload_49 : decode cX10_unload 49 = .ok (.invokevirtual 233, 3) := by decide +kernel
theorem dX10_unload_52 : decode cX10_unload 52 = .ok (.ireturn, 1) := by decide +kernel
theorem dX10_topUp_0 : decode cX10_topUp 0 = .ok (.aload_n 0, 1) := by decide +kernel
theorem dX10_topUp_1 : decode cX10_topUp 1 = .ok (.iload_n 1, 1) := by decide +kernel
theorem dX10_topUp_2 : decode cX10_topUp 2 = .ok (.invokevirtual 212, 3) := by decide +kernel
theorem dX10_topUp_5 : decode cX10_topUp 5 = .ok (.aload_n 0, 1) := by decide +kernel
theorem dX10_topUp_6 : decode cX10_topUp 6 = .ok (.iload_n 2, 1) := by decide +kernel
theorem dX10_topUp_7 : decode cX10_topUp 7 = .ok (.invokevirtual 347, 3) := by decide +kernel
theorem dX10_topUp_10 : decode cX10_topUp 10 = .ok (.aload_n 0, 1) := by decide +kernel
theorem dX10_topUp_11 : decode cX10_topUp 11 = .ok (.invokevirtual 320, 3) := by decide +kernel
theorem dX10_topUp_14 : decode cX10_topUp 14 = .ok (.aload_n 0, 1) := by decide +kernel
theorem dX10_topUp_15 : decode cX10_topUp 15 = .ok (.getfield 28, 3) := by decide +kernel
theorem dX10_topUp_18 : decode cX10_topUp 18 = .ok (.getfield 151, 3) := by decide +kernel
theorem dX10_topUp_21 : decode cX10_topUp 21 = .ok (.bipush 6, 2) := by decide +kernel
theorem dX10_topUp_23 : decode cX10_topUp 23 = .ok (.if_icmp .lt 8, 3) := by decide +kernel
theorem dX10_topUp_26 : decode cX10_topUp 26 = .ok (.aload_n 0, 1) := by decide +kernel
theorem dX10_topUp_27 : decode cX10_topUp 27 = .ok (.iconst 5, 1) := by decide +kernel
theorem dX10_topUp_28 : decode cX10_topUp 28 = .ok (.invokevirtual 323, 3) := by decide +kernel
theorem dX10_topUp_31 : decode cX10_topUp 31 = .ok (.aload_n 0, 1) := by decide +kernel
theorem dX10_topUp_32 : decode cX10_topUp 32 = .ok (.getfield 28, 3) := by decide +kernel
theorem dX10_topUp_35 : decode cX10_topUp 35 = .ok (.getfield 148, 3) := by decide +kernel
theorem dX10_topUp_38 : decode cX10_topUp 38 = .ok (.aload_n 0, 1) := by decide +kernel
theorem dX10_topUp_39 : decode cX10_topUp 39 = .ok (.getfield 28, 3) := by decide +kernel
theorem dX10_topUp_42 : decode cX10_topUp 42 = .ok (.getfield 116, 3) := by decide +kernel
theorem dX10_topUp_45 : decode cX10_topUp 45 = .ok (.getfield 170, 3) := by decide +kernel
theorem dX10_topUp_48 : decode cX10_topUp 48 = .ok (.if_icmp .ge 9, 3) := by decide +kernel
theorem dX10_topUp_51 : decode cX10_topUp 51 = .ok (.aload_n 0, 1) := by decide +kernel
theorem dX10_topUp_52 : decode cX10_topUp 52 = .ok (.bipush 6, 2) := by decide +kernel
theorem dX10_topUp_54 : decode cX10_topUp 54 = .ok (.invokevirtual 323, 3) := by decide +kernel
theorem dX10_topUp_57 : decode cX10_topUp 57 = .ok (.aload_n 0, 1) := by decide +kernel
theorem dX10_topUp_58 : decode cX10_topUp 58 = .ok (.invokevirtual 329, 3) := by decide +kernel
theorem dX10_topUp_61 : decode cX10_topUp 61 = .ok (.aload_n 0, 1) := by decide +kernel
theorem dX10_topUp_62 : decode cX10_topUp 62 = .ok (.getfield 28, 3) := by decide +kernel
theorem dX10_topUp_65 : decode cX10_topUp 65 = .ok (.iload_n 1, 1) := by decide +kernel
theorem dX10_topUp_66 : decode cX10_topUp 66 = .ok (.iload_n 2, 1) := by decide +kernel
theorem dX10_topUp_67 : decode cX10_topUp 67 = .ok (.invokevirtual 354, 3) := by decide +kernel
theorem dX10_topUp_70 : decode cX10_topUp 70 = .ok (.aload_n 0, 1) := by decide +kernel
theorem dX10_topUp_71 : decode cX10_topUp 71 = .ok (.getfield 28, 3) := by decide +kernel
theorem dX10_topUp_74 : decode cX10_topUp 74 = .ok (.invokevirtual 357, 3) := by decide +kernel
theorem dX10_topUp_77 : decode cX10_topUp 77 = .ok (.pop, 1) := by decide +kernel
theorem dX10_topUp_78 : decode cX10_topUp 78 = .ok (.aload_n 0, 1) := by decide +kernel
theorem dX10_topUp_79 : decode cX10_topUp 79 = .ok (.getfield 28, 3) := by decide +kernel
theorem dX10_topUp_82 : decode cX10_topUp 82 = .ok (.getfield 151, 3) := by decide +kernel
theorem dX10_topUp_85 : decode cX10_topUp 85 = .ok (.ireturn, 1) := by decide +kernel
theorem dX10_advance_0 : decode cX10_advance 0 = .ok (.iload_n 1, 1) := by decide +kernel
theorem dX10_advance_1 : decode cX10_advance 1 = .ok (.iconst 1, 1) := by decide +kernel
theorem dX10_advance_2 : decode cX10_advance 2 = .ok (.if_icmp .lt 10, 3) := by decide +kernel
theorem dX10_advance_5 : decode cX10_advance 5 = .ok (.iload_n 1, 1) := by decide +kernel
theorem dX10_advance_6 : decode cX10_advance 6 = .ok (.sipush 999, 3) := by decide +kernel
theorem dX10_advance_9 : decode cX10_advance 9 = .ok (.if_icmp .le 14, 3) := by decide +kernel
theorem dX10_advance_12 : decode cX10_advance 12 = .ok (.new 96, 3) := by decide +kernel
theorem dX10_advance_15 : decode cX10_advance 15 = .ok (.dup, 1) := by decide +kernel
theorem dX10_advance_16 : decode cX10_advance 16 = .ok (.ldc_w 360, 3) := by decide +kernel
theorem dX10_advance_19 : decode cX10_advance 19 = .ok (.invokespecial 100, 3) := by decide +kernel
theorem dX10_advance_22 : decode cX10_advance 22 = .ok (.athrow, 1) := by decide +kernel
theorem dX10_advance_23 : decode cX10_advance 23 = .ok (.aload_n 0, 1) := by decide +kernel
theorem dX10_advance_24 : decode cX10_advance 24 = .ok (.invokevirtual 320, 3) := by decide +kernel
theorem dX10_advance_27 : decode cX10_advance 27 = .ok (.aload_n 0, 1) := by decide +kernel
theorem dX10_advance_28 : decode cX10_advance 28 = .ok (.getfield 28, 3) := by decide +kernel
theorem dX10_advance_31 : decode cX10_advance 31 = .ok (.getfield 148, 3) := by decide +kernel
theorem dX10_advance_34 : decode cX10_advance 34 = .ok (.iload_n 1, 1) := by decide +kernel
theorem dX10_advance_35 : decode cX10_advance 35 = .ok (.if_icmp .ge 9, 3) := by decide +kernel
theorem dX10_advance_38 : decode cX10_advance 38 = .ok (.aload_n 0, 1) := by decide +kernel
theorem dX10_advance_39 : decode cX10_advance 39 = .ok (.bipush 7, 2) := by decide +kernel
theorem dX10_advance_41 : decode cX10_advance 41 = .ok (.invokevirtual 323, 3) := by decide +kernel
theorem dX10_advance_44 : decode cX10_advance 44 = .ok (.aload_n 0, 1) := by decide +kernel
theorem dX10_advance_45 : decode cX10_advance 45 = .ok (.invokevirtual 329, 3) := by decide +kernel
theorem dX10_advance_48 : decode cX10_advance 48 = .ok (.aload_n 0, 1) := by decide +kernel
theorem dX10_advance_49 : decode cX10_advance 49 = .ok (.getfield 28, 3) := by decide +kernel
theorem dX10_advance_52 : decode cX10_advance 52 = .ok (.dup, 1) := by decide +kernel
theorem dX10_advance_53 : decode cX10_advance 53 = .ok (.getfield 148, 3) := by decide +kernel
theorem dX10_advance_56 : decode cX10_advance 56 = .ok (.iload_n 1, 1) := by decide +kernel
theorem dX10_advance_57 : decode cX10_advance 57 = .ok (.isub, 1) := by decide +kernel
theorem dX10_advance_58 : decode cX10_advance 58 = .ok (.putfield 148, 3) := by decide +kernel
theorem dX10_advance_61 : decode cX10_advance 61 = .ok (.aload_n 0, 1) := by decide +kernel
theorem dX10_advance_62 : decode cX10_advance 62 = .ok (.getfield 28, 3) := by decide +kernel
theorem dX10_advance_65 : decode cX10_advance 65 = .ok (.invokevirtual 357, 3) := by decide +kernel
theorem dX10_advance_68 : decode cX10_advance 68 = .ok (.ireturn, 1) := by decide +kernel
theorem dX10_reason_0 : decode cX10_reason 0 = .ok (.aload_n 0, 1) := by decide +kernel
theorem dX10_reason_1 : decode cX10_reason 1 = .ok (.getfield 129, 3) := by decide +kernel
theorem dX10_reason_4 : decode cX10_reason 4 = .ok (.ireturn, 1) := by decide +kernel
theorem dX10_outlook_0 : decode cX10_outlook 0 = .ok (.iload_n 1, 1) := by decide +kernel
theorem dX10_outlook_1 : decode cX10_outlook 1 = .ok (.tableswitch 95 0 5 #[39, 47, 55, 71, 79, 87], 39) := by decide +kernel
theorem dX10_outlook_40 : decode cX10_outlook 40 = .ok (.aload_n 0, 1) := by decide +kernel
theorem dX10_outlook_41 : decode cX10_outlook 41 = .ok (.invokevirtual 243, 3) := by decide +kernel
theorem dX10_outlook_44 : decode cX10_outlook 44 = .ok (.getfield 362, 3) := by decide +kernel
theorem dX10_outlook_47 : decode cX10_outlook 47 = .ok (.ireturn, 1) := by decide +kernel
theorem dX10_outlook_48 : decode cX10_outlook 48 = .ok (.aload_n 0, 1) := by decide +kernel
theorem dX10_outlook_49 : decode cX10_outlook 49 = .ok (.invokevirtual 243, 3) := by decide +kernel
theorem dX10_outlook_52 : decode cX10_outlook 52 = .ok (.getfield 365, 3) := by decide +kernel
theorem dX10_outlook_55 : decode cX10_outlook 55 = .ok (.ireturn, 1) := by decide +kernel
theorem dX10_outlook_56 : decode cX10_outlook 56 = .ok (.aload_n 0, 1) := by decide +kernel
theorem dX10_outlook_57 : decode cX10_outlook 57 = .ok (.getfield 28, 3) := by decide +kernel
theorem dX10_outlook_60 : decode cX10_outlook 60 = .ok (.getfield 132, 3) := by decide +kernel
theorem dX10_outlook_63 : decode cX10_outlook 63 = .ok (.aload_n 0, 1) := by decide +kernel
theorem dX10_outlook_64 : decode cX10_outlook 64 = .ok (.invokevirtual 243, 3) := by decide +kernel
theorem dX10_outlook_67 : decode cX10_outlook 67 = .ok (.getfield 365, 3) := by decide +kernel
theorem dX10_outlook_70 : decode cX10_outlook 70 = .ok (.isub, 1) := by decide +kernel
theorem dX10_outlook_71 : decode cX10_outlook 71 = .ok (.ireturn, 1) := by decide +kernel
theorem dX10_outlook_72 : decode cX10_outlook 72 = .ok (.aload_n 0, 1) := by decide +kernel
theorem dX10_outlook_73 : decode cX10_outlook 73 = .ok (.invokevirtual 243, 3) := by decide +kernel
theorem dX10_outlook_76 : decode cX10_outlook 76 = .ok (.getfield 368, 3) := by decide +kernel
theorem dX10_outlook_79 : decode cX10_outlook 79 = .ok (.ireturn, 1) := by decide +kernel
theorem dX10_outlook_80 : decode cX10_outlook 80 = .ok (.aload_n 0, 1) := by decide +kernel
theorem dX10_outlook_81 : decode cX10_outlook 81 = .ok (.invokevirtual 243, 3) := by decide +kernel
theorem dX10_outlook_84 : decode cX10_outlook 84 = .ok (.getfield 371, 3) := by decide +kernel
theorem dX10_outlook_87 : decode cX10_outlook 87 = .ok (.ireturn, 1) := by decide +kernel
theorem dX10_outlook_88 : decode cX10_outlook 88 = .ok (.aload_n 0, 1) := by decide +kernel
theorem dX10_outlook_89 : decode cX10_outlook 89 = .ok (.invokevirtual 243, 3) := by decide +kernel
theorem dX10_outlook_92 : decode cX10_outlook 92 = .ok (.getfield 374, 3) := by decide +kernel
theorem dX10_outlook_95 : decode cX10_outlook 95 = .ok (.ireturn, 1) := by decide +kernel
theorem dX10_outlook_96 : decode cX10_outlook 96 = .ok (.new 96, 3) := by decide +kernel
theorem dX10_outlook_99 : decode cX10_outlook 99 = .ok (.dup, 1) := by decide +kernel
theorem dX10_outlook_100 : decode cX10_outlook 100 = .ok (.ldc_w 377, 3) := by decide +kernel
theorem dX10_outlook_103 : decode cX10_outlook 103 = .ok (.invokespecial 100, 3) := by decide +kernel
theorem dX10_outlook_106 : decode cX10_outlook 106 = .ok (.athrow, 1) := by decide +kernel
theorem dX10_mealFor_0 : decode cX10_mealFor 0 = .ok (.aload_n 0, 1) := by decide +kernel
theorem dX10_mealFor_1 : decode cX10_mealFor 1 = .ok (.iload_n 1, 1) := by decide +kernel
theorem dX10_mealFor_2 : decode cX10_mealFor 2 = .ok (.invokevirtual 256, 3) := by decide +kernel
theorem dX10_mealFor_5 : decode cX10_mealFor 5 = .ok (.aload_n 0, 1) := by decide +kernel
theorem dX10_mealFor_6 : decode cX10_mealFor 6 = .ok (.invokevirtual 243, 3) := by decide +kernel
theorem dX10_mealFor_9 : decode cX10_mealFor 9 = .ok (.getfield 268, 3) := by decide +kernel
theorem dX10_mealFor_12 : decode cX10_mealFor 12 = .ok (.iload_n 1, 1) := by decide +kernel
theorem dX10_mealFor_13 : decode cX10_mealFor 13 = .ok (.iaload, 1) := by decide +kernel
theorem dX10_mealFor_14 : decode cX10_mealFor 14 = .ok (.ireturn, 1) := by decide +kernel
theorem dX10_serve_0 : decode cX10_serve 0 = .ok (.aload_n 0, 1) := by decide +kernel
theorem dX10_serve_1 : decode cX10_serve 1 = .ok (.invokevirtual 320, 3) := by decide +kernel
theorem dX10_serve_4 : decode cX10_serve 4 = .ok (.aload_n 0, 1) := by decide +kernel
theorem dX10_serve_5 : decode cX10_serve 5 = .ok (.invokevirtual 243, 3) := by decide +kernel
theorem dX10_serve_8 : decode cX10_serve 8 = .ok (.astore_n 1, 1) := by decide +kernel
theorem dX10_serve_9 : decode cX10_serve 9 = .ok (.aload_n 0, 1) := by decide +kernel
theorem dX10_serve_10 : decode cX10_serve 10 = .ok (.invokevirtual 329, 3) := by decide +kernel
theorem dX10_serve_13 : decode cX10_serve 13 = .ok (.aload_n 0, 1) := by decide +kernel
theorem dX10_serve_14 : decode cX10_serve 14 = .ok (.getfield 28, 3) := by decide +kernel
theorem dX10_serve_17 : decode cX10_serve 17 = .ok (.getfield 379, 3) := by decide +kernel
theorem dX10_serve_20 : decode cX10_serve 20 = .ok (.iconst 0, 1) := by decide +kernel
theorem dX10_serve_21 : decode cX10_serve 21 = .ok (.dup2, 1) := by decide +kernel
theorem dX10_serve_22 : decode cX10_serve 22 = .ok (.laload, 1) := by decide +kernel
theorem dX10_serve_23 : decode cX10_serve 23 = .ok (.aload_n 0, 1) := by decide +kernel
theorem dX10_serve_24 : decode cX10_serve 24 = .ok (.getfield 28, 3) := by decide +kernel
theorem dX10_serve_27 : decode cX10_serve 27 = .ok (.invokevirtual 154, 3) := by decide +kernel
theorem dX10_serve_30 : decode cX10_serve 30 = .ok (.i2l, 1) := by decide +kernel
theorem dX10_serve_31 : decode cX10_serve 31 = .ok (.ladd, 1) := by decide +kernel
theorem dX10_serve_32 : decode cX10_serve 32 = .ok (.lastore, 1) := by decide +kernel
theorem dX10_serve_33 : decode cX10_serve 33 = .ok (.aload_n 0, 1) := by decide +kernel
theorem dX10_serve_34 : decode cX10_serve 34 = .ok (.getfield 28, 3) := by decide +kernel
theorem dX10_serve_37 : decode cX10_serve 37 = .ok (.getfield 379, 3) := by decide +kernel
theorem dX10_serve_40 : decode cX10_serve 40 = .ok (.iconst 1, 1) := by decide +kernel
theorem dX10_serve_41 : decode cX10_serve 41 = .ok (.dup2, 1) := by decide +kernel
theorem dX10_serve_42 : decode cX10_serve 42 = .ok (.laload, 1) := by decide +kernel
theorem dX10_serve_43 : decode cX10_serve 43 = .ok (.aload_n 1, 1) := by decide +kernel
theorem dX10_serve_44 : decode cX10_serve 44 = .ok (.getfield 365, 3) := by decide +kernel
theorem dX10_serve_47 : decode cX10_serve 47 = .ok (.i2l, 1) := by decide +kernel
theorem dX10_serve_48 : decode cX10_serve 48 = .ok (.ladd, 1) := by decide +kernel
theorem dX10_serve_49 : decode cX10_serve 49 = .ok (.lastore, 1) := by decide +kernel
theorem dX10_serve_50 : decode cX10_serve 50 = .ok (.aload_n 0, 1) := by decide +kernel
theorem dX10_serve_51 : decode cX10_serve 51 = .ok (.getfield 28, 3) := by decide +kernel
theorem dX10_serve_54 : decode cX10_serve 54 = .ok (.getfield 379, 3) := by decide +kernel
theorem dX10_serve_57 : decode cX10_serve 57 = .ok (.iconst 2, 1) := by decide +kernel
theorem dX10_serve_58 : decode cX10_serve 58 = .ok (.dup2, 1) := by decide +kernel
theorem dX10_serve_59 : decode cX10_serve 59 = .ok (.laload, 1) := by decide +kernel
theorem dX10_serve_60 : decode cX10_serve 60 = .ok (.aload_n 1, 1) := by decide +kernel
theorem dX10_serve_61 : decode cX10_serve 61 = .ok (.getfield 368, 3) := by decide +kernel
theorem dX10_serve_64 : decode cX10_serve 64 = .ok (.i2l, 1) := by decide +kernel
theorem dX10_serve_65 : decode cX10_serve 65 = .ok (.ladd, 1) := by decide +kernel
theorem dX10_serve_66 : decode cX10_serve 66 = .ok (.lastore, 1) := by decide +kernel
theorem dX10_serve_67 : decode cX10_serve 67 = .ok (.aload_n 0, 1) := by decide +kernel
theorem dX10_serve_68 : decode cX10_serve 68 = .ok (.getfield 28, 3) := by decide +kernel
theorem dX10_serve_71 : decode cX10_serve 71 = .ok (.getfield 379, 3) := by decide +kernel
theorem dX10_serve_74 : decode cX10_serve 74 = .ok (.iconst 3, 1) := by decide +kernel
theorem dX10_serve_75 : decode cX10_serve 75 = .ok (.dup2, 1) := by decide +kernel
theorem dX10_serve_76 : decode cX10_serve 76 = .ok (.laload, 1) := by decide +kernel
theorem dX10_serve_77 : decode cX10_serve 77 = .ok (.aload_n 1, 1) := by decide +kernel
theorem dX10_serve_78 : decode cX10_serve 78 = .ok (.getfield 371, 3) := by decide +kernel
theorem dX10_serve_81 : decode cX10_serve 81 = .ok (.i2l, 1) := by decide +kernel
theorem dX10_serve_82 : decode cX10_serve 82 = .ok (.ladd, 1) := by decide +kernel
theorem dX10_serve_83 : decode cX10_serve 83 = .ok (.lastore, 1) := by decide +kernel
theorem dX10_serve_84 : decode cX10_serve 84 = .ok (.aload_n 0, 1) := by decide +kernel
theorem dX10_serve_85 : decode cX10_serve 85 = .ok (.getfield 28, 3) := by decide +kernel
theorem dX10_serve_88 : decode cX10_serve 88 = .ok (.getfield 379, 3) := by decide +kernel
theorem dX10_serve_91 : decode cX10_serve 91 = .ok (.iconst 4, 1) := by decide +kernel
theorem dX10_serve_92 : decode cX10_serve 92 = .ok (.dup2, 1) := by decide +kernel
theorem dX10_serve_93 : decode cX10_serve 93 = .ok (.laload, 1) := by decide +kernel
theorem dX10_serve_94 : decode cX10_serve 94 = .ok (.aload_n 0, 1) := by decide +kernel
theorem dX10_serve_95 : decode cX10_serve 95 = .ok (.getfield 28, 3) := by decide +kernel
theorem dX10_serve_98 : decode cX10_serve 98 = .ok (.getfield 132, 3) := by decide +kernel
theorem dX10_serve_101 : decode cX10_serve 101 = .ok (.aload_n 1, 1) := by decide +kernel
theorem dX10_serve_102 : decode cX10_serve 102 = .ok (.getfield 365, 3) := by decide +kernel
theorem dX10_serve_105 : decode cX10_serve 105 = .ok (.isub, 1) := by decide +kernel
theorem dX10_serve_106 : decode cX10_serve 106 = .ok (.i2l, 1) := by decide +kernel
theorem dX10_serve_107 : decode cX10_serve 107 = .ok (.ladd, 1) := by decide +kernel
theorem dX10_serve_108 : decode cX10_serve 108 = .ok (.lastore, 1) := by decide +kernel
theorem dX10_serve_109 : decode cX10_serve 109 = .ok (.aload_n 0, 1) := by decide +kernel
theorem dX10_serve_110 : decode cX10_serve 110 = .ok (.getfield 28, 3) := by decide +kernel
theorem dX10_serve_113 : decode cX10_serve 113 = .ok (.getfield 379, 3) := by decide +kernel
theorem dX10_serve_116 : decode cX10_serve 116 = .ok (.iconst 5, 1) := by decide +kernel
theorem dX10_serve_117 : decode cX10_serve 117 = .ok (.dup2, 1) := by decide +kernel
theorem dX10_serve_118 : decode cX10_serve 118 = .ok (.laload, 1) := by decide +kernel
theorem dX10_serve_119 : decode cX10_serve 119 = .ok (.lconst 1, 1) := by decide +kernel
theorem dX10_serve_120 : decode cX10_serve 120 = .ok (.ladd, 1) := by decide +kernel
theorem dX10_serve_121 : decode cX10_serve 121 = .ok (.lastore, 1) := by decide +kernel
theorem dX10_serve_122 : decode cX10_serve 122 = .ok (.aload_n 0, 1) := by decide +kernel
theorem dX10_serve_123 : decode cX10_serve 123 = .ok (.getfield 28, 3) := by decide +kernel
theorem dX10_serve_126 : decode cX10_serve 126 = .ok (.iconst 1, 1) := by decide +kernel
theorem dX10_serve_127 : decode cX10_serve 127 = .ok (.putfield 383, 3) := by decide +kernel
theorem dX10_serve_130 : decode cX10_serve 130 = .ok (.aload_n 0, 1) := by decide +kernel
theorem dX10_serve_131 : decode cX10_serve 131 = .ok (.getfield 28, 3) := by decide +kernel
theorem dX10_serve_134 : decode cX10_serve 134 = .ok (.iconst 0, 1) := by decide +kernel
theorem dX10_serve_135 : decode cX10_serve 135 = .ok (.putfield 148, 3) := by decide +kernel
theorem dX10_serve_138 : decode cX10_serve 138 = .ok (.aload_n 0, 1) := by decide +kernel
theorem dX10_serve_139 : decode cX10_serve 139 = .ok (.getfield 28, 3) := by decide +kernel
theorem dX10_serve_142 : decode cX10_serve 142 = .ok (.iconst 0, 1) := by decide +kernel
theorem dX10_serve_143 : decode cX10_serve 143 = .ok (.putfield 151, 3) := by decide +kernel
theorem dX10_serve_146 : decode cX10_serve 146 = .ok (.aload_n 1, 1) := by decide +kernel
theorem dX10_serve_147 : decode cX10_serve 147 = .ok (.getfield 365, 3) := by decide +kernel
theorem dX10_serve_150 : decode cX10_serve 150 = .ok (.ireturn, 1) := by decide +kernel
theorem dX10_account_0 : decode cX10_account 0 = .ok (.iload_n 1, 1) := by decide +kernel
theorem dX10_account_1 : decode cX10_account 1 = .ok (.ifCond .lt 9, 3) := by decide +kernel
theorem dX10_account_4 : decode cX10_account 4 = .ok (.iload_n 1, 1) := by decide +kernel
theorem dX10_account_5 : decode cX10_account 5 = .ok (.bipush 6, 2) := by decide +kernel
theorem dX10_account_7 : decode cX10_account 7 = .ok (.if_icmp .lt 14, 3) := by decide +kernel
theorem dX10_account_10 : decode cX10_account 10 = .ok (.new 96, 3) := by decide +kernel
theorem dX10_account_13 : decode cX10_account 13 = .ok (.dup, 1) := by decide +kernel
theorem dX10_account_14 : decode cX10_account 14 = .ok (.ldc_w 387, 3) := by decide +kernel
theorem dX10_account_17 : decode cX10_account 17 = .ok (.invokespecial 100, 3) := by decide +kernel
theorem dX10_account_20 : decode cX10_account 20 = .ok (.athrow, 1) := by decide +kernel
theorem dX10_account_21 : decode cX10_account 21 = .ok (.aload_n 0, 1) := by decide +kernel
theorem dX10_account_22 : decode cX10_account 22 = .ok (.getfield 28, 3) := by decide +kernel
theorem dX10_account_25 : decode cX10_account 25 = .ok (.getfield 379, 3) := by decide +kernel
theorem dX10_account_28 : decode cX10_account 28 = .ok (.iload_n 1, 1) := by decide +kernel
theorem dX10_account_29 : decode cX10_account 29 = .ok (.laload, 1) := by decide +kernel
theorem dX10_account_30 : decode cX10_account 30 = .ok (.lreturn, 1) := by decide +kernel
theorem dX10_wasteShare_0 : decode cX10_wasteShare 0 = .ok (.aload_n 0, 1) := by decide +kernel
theorem dX10_wasteShare_1 : decode cX10_wasteShare 1 = .ok (.getfield 28, 3) := by decide +kernel
theorem dX10_wasteShare_4 : decode cX10_wasteShare 4 = .ok (.getfield 379, 3) := by decide +kernel
theorem dX10_wasteShare_7 : decode cX10_wasteShare 7 = .ok (.iconst 0, 1) := by decide +kernel
theorem dX10_wasteShare_8 : decode cX10_wasteShare 8 = .ok (.laload, 1) := by decide +kernel
theorem dX10_wasteShare_9 : decode cX10_wasteShare 9 = .ok (.lstore_n 1, 1) := by decide +kernel
theorem dX10_wasteShare_10 : decode cX10_wasteShare 10 = .ok (.lload_n 1, 1) := by decide +kernel
theorem dX10_wasteShare_11 : decode cX10_wasteShare 11 = .ok (.lconst 0, 1) := by decide +kernel
theorem dX10_wasteShare_12 : decode cX10_wasteShare 12 = .ok (.lcmp, 1) := by decide +kernel
theorem dX10_wasteShare_13 : decode cX10_wasteShare 13 = .ok (.ifCond .ne 5, 3) := by decide +kernel
theorem dX10_wasteShare_16 : decode cX10_wasteShare 16 = .ok (.fconst 0, 1) := by decide +kernel
theorem dX10_wasteShare_17 : decode cX10_wasteShare 17 = .ok (.freturn, 1) := by decide +kernel
theorem dX10_wasteShare_18 : decode cX10_wasteShare 18 = .ok (.aload_n 0, 1) := by decide +kernel
theorem dX10_wasteShare_19 : decode cX10_wasteShare 19 = .ok (.getfield 28, 3) := by decide +kernel
theorem dX10_wasteShare_22 : decode cX10_wasteShare 22 = .ok (.getfield 379, 3) := by decide +kernel
theorem dX10_wasteShare_25 : decode cX10_wasteShare 25 = .ok (.iconst 2, 1) := by decide +kernel
theorem dX10_wasteShare_26 : decode cX10_wasteShare 26 = .ok (.laload, 1) := by decide +kernel
theorem dX10_wasteShare_27 : decode cX10_wasteShare 27 = .ok (.l2f, 1) := by decide +kernel
theorem dX10_wasteShare_28 : decode cX10_wasteShare 28 = .ok (.lload_n 1, 1) := by decide +kernel
theorem dX10_wasteShare_29 : decode cX10_wasteShare 29 = .ok (.l2f, 1) := by decide +kernel
theorem dX10_wasteShare_30 : decode cX10_wasteShare 30 = .ok (.fdiv, 1) := by decide +kernel
theorem dX10_wasteShare_31 : decode cX10_wasteShare 31 = .ok (.freturn, 1) := by decide +kernel
theorem dX10_wasteBits_0 : decode cX10_wasteBits 0 = .ok (.aload_n 0, 1) := by decide +kernel
theorem dX10_wasteBits_1 : decode cX10_wasteBits 1 = .ok (.invokevirtual 389, 3) := by decide +kernel
theorem dX10_wasteBits_4 : decode cX10_wasteBits 4 = .ok (.invokestatic 393, 3) := by decide +kernel
theorem dX10_wasteBits_7 : decode cX10_wasteBits 7 = .ok (.ireturn, 1) := by decide +kernel
theorem dX10_costBits_0 : decode cX10_costBits 0 = .ok (.aload_n 0, 1) := by decide +kernel
theorem dX10_costBits_1 : decode cX10_costBits 1 = .ok (.getfield 28, 3) := by decide +kernel
theorem dX10_costBits_4 : decode cX10_costBits 4 = .ok (.getfield 379, 3) := by decide +kernel
theorem dX10_costBits_7 : decode cX10_costBits 7 = .ok (.iconst 5, 1) := by decide +kernel
theorem dX10_costBits_8 : decode cX10_costBits 8 = .ok (.laload, 1) := by decide +kernel
theorem dX10_costBits_9 : decode cX10_costBits 9 = .ok (.lstore_n 1, 1) := by decide +kernel
theorem dX10_costBits_10 : decode cX10_costBits 10 = .ok (.lload_n 1, 1) := by decide +kernel
theorem dX10_costBits_11 : decode cX10_costBits 11 = .ok (.lconst 0, 1) := by decide +kernel
theorem dX10_costBits_12 : decode cX10_costBits 12 = .ok (.lcmp, 1) := by decide +kernel
theorem dX10_costBits_13 : decode cX10_costBits 13 = .ok (.ifCond .ne 5, 3) := by decide +kernel
theorem dX10_costBits_16 : decode cX10_costBits 16 = .ok (.lconst 0, 1) := by decide +kernel
theorem dX10_costBits_17 : decode cX10_costBits 17 = .ok (.lreturn, 1) := by decide +kernel
theorem dX10_costBits_18 : decode cX10_costBits 18 = .ok (.aload_n 0, 1) := by decide +kernel
theorem dX10_costBits_19 : decode cX10_costBits 19 = .ok (.getfield 28, 3) := by decide +kernel
theorem dX10_costBits_22 : decode cX10_costBits 22 = .ok (.getfield 379, 3) := by decide +kernel
theorem dX10_costBits_25 : decode cX10_costBits 25 = .ok (.iconst 3, 1) := by decide +kernel
theorem dX10_costBits_26 : decode cX10_costBits 26 = .ok (.laload, 1) := by decide +kernel
theorem dX10_costBits_27 : decode cX10_costBits 27 = .ok (.l2d, 1) := by decide +kernel
theorem dX10_costBits_28 : decode cX10_costBits 28 = .ok (.lload_n 1, 1) := by decide +kernel
theorem dX10_costBits_29 : decode cX10_costBits 29 = .ok (.l2d, 1) := by decide +kernel
theorem dX10_costBits_30 : decode cX10_costBits 30 = .ok (.ddiv, 1) := by decide +kernel
theorem dX10_costBits_31 : decode cX10_costBits 31 = .ok (.invokestatic 397, 3) := by decide +kernel
theorem dX10_costBits_34 : decode cX10_costBits 34 = .ok (.lreturn, 1) := by decide +kernel
theorem dX10_undo_0 : decode cX10_undo 0 = .ok (.aload_n 0, 1) := by decide +kernel
theorem dX10_undo_1 : decode cX10_undo 1 = .ok (.getfield 49, 3) := by decide +kernel
theorem dX10_undo_4 : decode cX10_undo 4 = .ok (.getfield 164, 3) := by decide +kernel
theorem dX10_undo_7 : decode cX10_undo 7 = .ok (.ifCond .ne 14, 3) := by decide +kernel
theorem dX10_undo_10 : decode cX10_undo 10 = .ok (.new 85, 3) := by decide +kernel
theorem dX10_undo_13 : decode cX10_undo 13 = .ok (.dup, 1) := by decide +kernel
theorem dX10_undo_14 : decode cX10_undo 14 = .ok (.ldc_w 401, 3) := by decide +kernel
theorem dX10_undo_17 : decode cX10_undo 17 = .ok (.invokespecial 89, 3) := by decide +kernel
theorem dX10_undo_20 : decode cX10_undo 20 = .ok (.athrow, 1) := by decide +kernel
theorem dX10_undo_21 : decode cX10_undo 21 = .ok (.aload_n 0, 1) := by decide +kernel
theorem dX10_undo_22 : decode cX10_undo 22 = .ok (.getfield 49, 3) := by decide +kernel
theorem dX10_undo_25 : decode cX10_undo 25 = .ok (.aload_n 0, 1) := by decide +kernel
theorem dX10_undo_26 : decode cX10_undo 26 = .ok (.getfield 28, 3) := by decide +kernel
theorem dX10_undo_29 : decode cX10_undo 29 = .ok (.invokevirtual 403, 3) := by decide +kernel
theorem dX10_undo_32 : decode cX10_undo 32 = .ok (.aload_n 0, 1) := by decide +kernel
theorem dX10_undo_33 : decode cX10_undo 33 = .ok (.iconst 0, 1) := by decide +kernel
theorem dX10_undo_34 : decode cX10_undo 34 = .ok (.putfield 406, 3) := by decide +kernel
theorem dX10_undo_37 : decode cX10_undo 37 = .ok (.aload_n 0, 1) := by decide +kernel
theorem dX10_undo_38 : decode cX10_undo 38 = .ok (.getfield 49, 3) := by decide +kernel
theorem dX10_undo_41 : decode cX10_undo 41 = .ok (.getfield 164, 3) := by decide +kernel
theorem dX10_undo_44 : decode cX10_undo 44 = .ok (.ireturn, 1) := by decide +kernel
theorem dX10_keep_0 : decode cX10_keep 0 = .ok (.aload_n 0, 1) := by decide +kernel
theorem dX10_keep_1 : decode cX10_keep 1 = .ok (.iload_n 1, 1) := by decide +kernel
theorem dX10_keep_2 : decode cX10_keep 2 = .ok (.invokevirtual 409, 3) := by decide +kernel
theorem dX10_keep_5 : decode cX10_keep 5 = .ok (.aload_n 0, 1) := by decide +kernel
theorem dX10_keep_6 : decode cX10_keep 6 = .ok (.getfield 53, 3) := by decide +kernel
theorem dX10_keep_9 : decode cX10_keep 9 = .ok (.iload_n 1, 1) := by decide +kernel
theorem dX10_keep_10 : decode cX10_keep 10 = .ok (.aaload, 1) := by decide +kernel
theorem dX10_keep_11 : decode cX10_keep 11 = .ok (.aload_n 0, 1) := by decide +kernel
theorem dX10_keep_12 : decode cX10_keep 12 = .ok (.getfield 28, 3) := by decide +kernel
theorem dX10_keep_15 : decode cX10_keep 15 = .ok (.invokevirtual 123, 3) := by decide +kernel
theorem dX10_keep_18 : decode cX10_keep 18 = .ok (.aload_n 0, 1) := by decide +kernel
theorem dX10_keep_19 : decode cX10_keep 19 = .ok (.getfield 57, 3) := by decide +kernel
theorem dX10_keep_22 : decode cX10_keep 22 = .ok (.iload_n 1, 1) := by decide +kernel
theorem dX10_keep_23 : decode cX10_keep 23 = .ok (.iconst 1, 1) := by decide +kernel
theorem dX10_keep_24 : decode cX10_keep 24 = .ok (.bastore, 1) := by decide +kernel
theorem dX10_keep_25 : decode cX10_keep 25 = .ok (.aload_n 0, 1) := by decide +kernel
theorem dX10_keep_26 : decode cX10_keep 26 = .ok (.getfield 28, 3) := by decide +kernel
theorem dX10_keep_29 : decode cX10_keep 29 = .ok (.invokevirtual 135, 3) := by decide +kernel
theorem dX10_keep_32 : decode cX10_keep 32 = .ok (.ireturn, 1) := by decide +kernel
theorem dX10_restore_0 : decode cX10_restore 0 = .ok (.aload_n 0, 1) := by decide +kernel
theorem dX10_restore_1 : decode cX10_restore 1 = .ok (.iload_n 1, 1) := by decide +kernel
theorem dX10_restore_2 : decode cX10_restore 2 = .ok (.invokevirtual 409, 3) := by decide +kernel
theorem dX10_restore_5 : decode cX10_restore 5 = .ok (.aload_n 0, 1) := by decide +kernel
theorem dX10_restore_6 : decode cX10_restore 6 = .ok (.getfield 57, 3) := by decide +kernel
theorem dX10_restore_9 : decode cX10_restore 9 = .ok (.iload_n 1, 1) := by decide +kernel
theorem dX10_restore_10 : decode cX10_restore 10 = .ok (.baload, 1) := by decide +kernel
theorem dX10_restore_11 : decode cX10_restore 11 = .ok (.ifCond .ne 14, 3) := by decide +kernel
theorem dX10_restore_14 : decode cX10_restore 14 = .ok (.new 412, 3) := by decide +kernel
theorem dX10_restore_17 : decode cX10_restore 17 = .ok (.dup, 1) := by decide +kernel
theorem dX10_restore_18 : decode cX10_restore 18 = .ok (.ldc_w 414, 3) := by decide +kernel
theorem dX10_restore_21 : decode cX10_restore 21 = .ok (.invokespecial 416, 3) := by decide +kernel
theorem dX10_restore_24 : decode cX10_restore 24 = .ok (.athrow, 1) := by decide +kernel
theorem dX10_restore_25 : decode cX10_restore 25 = .ok (.aload_n 0, 1) := by decide +kernel
theorem dX10_restore_26 : decode cX10_restore 26 = .ok (.getfield 28, 3) := by decide +kernel
theorem dX10_restore_29 : decode cX10_restore 29 = .ok (.aload_n 0, 1) := by decide +kernel
theorem dX10_restore_30 : decode cX10_restore 30 = .ok (.getfield 53, 3) := by decide +kernel
theorem dX10_restore_33 : decode cX10_restore 33 = .ok (.iload_n 1, 1) := by decide +kernel
theorem dX10_restore_34 : decode cX10_restore 34 = .ok (.aaload, 1) := by decide +kernel
theorem dX10_restore_35 : decode cX10_restore 35 = .ok (.invokevirtual 123, 3) := by decide +kernel
theorem dX10_restore_38 : decode cX10_restore 38 = .ok (.aload_n 0, 1) := by decide +kernel
theorem dX10_restore_39 : decode cX10_restore 39 = .ok (.invokevirtual 126, 3) := by decide +kernel
theorem dX10_restore_42 : decode cX10_restore 42 = .ok (.aload_n 0, 1) := by decide +kernel
theorem dX10_restore_43 : decode cX10_restore 43 = .ok (.getfield 28, 3) := by decide +kernel
theorem dX10_restore_46 : decode cX10_restore 46 = .ok (.invokevirtual 135, 3) := by decide +kernel
theorem dX10_restore_49 : decode cX10_restore 49 = .ok (.ireturn, 1) := by decide +kernel
theorem dX10_writeTrolley_0 : decode cX10_writeTrolley 0 = .ok (.aload_n 0, 1) := by decide +kernel
theorem dX10_writeTrolley_1 : decode cX10_writeTrolley 1 = .ok (.iload_n 1, 1) := by decide +kernel
theorem dX10_writeTrolley_2 : decode cX10_writeTrolley 2 = .ok (.invokevirtual 279, 3) := by decide +kernel
theorem dX10_writeTrolley_5 : decode cX10_writeTrolley 5 = .ok (.aload_n 0, 1) := by decide +kernel
theorem dX10_writeTrolley_6 : decode cX10_writeTrolley 6 = .ok (.iconst 0, 1) := by decide +kernel
theorem dX10_writeTrolley_7 : decode cX10_writeTrolley 7 = .ok (.putfield 417, 3) := by decide +kernel
theorem dX10_writeTrolley_10 : decode cX10_writeTrolley 10 = .ok (.iconst 0, 1) := by decide +kernel
theorem dX10_writeTrolley_11 : decode cX10_writeTrolley 11 = .ok (.istore_n 2, 1) := by decide +kernel
theorem dX10_writeTrolley_12 : decode cX10_writeTrolley 12 = .ok (.iload_n 2, 1) := by decide +kernel
theorem dX10_writeTrolley_13 : decode cX10_writeTrolley 13 = .ok (.aload_n 0, 1) := by decide +kernel
theorem dX10_writeTrolley_14 : decode cX10_writeTrolley 14 = .ok (.getfield 28, 3) := by decide +kernel
theorem dX10_writeTrolley_17 : decode cX10_writeTrolley 17 = .ok (.getfield 116, 3) := by decide +kernel
theorem dX10_writeTrolley_20 : decode cX10_writeTrolley 20 = .ok (.getfield 142, 3) := by decide +kernel
theorem dX10_writeTrolley_23 : decode cX10_writeTrolley 23 = .ok (.if_icmp .ge 58, 3) := by decide +kernel
theorem dX10_writeTrolley_26 : decode cX10_writeTrolley 26 = .ok (.aload_n 0, 1) := by decide +kernel
theorem dX10_writeTrolley_27 : decode cX10_writeTrolley 27 = .ok (.getfield 28, 3) := by decide +kernel
theorem dX10_writeTrolley_30 : decode cX10_writeTrolley 30 = .ok (.getfield 296, 3) := by decide +kernel
theorem dX10_writeTrolley_33 : decode cX10_writeTrolley 33 = .ok (.iload_n 1, 1) := by decide +kernel
theorem dX10_writeTrolley_34 : decode cX10_writeTrolley 34 = .ok (.aaload, 1) := by decide +kernel
theorem dX10_writeTrolley_35 : decode cX10_writeTrolley 35 = .ok (.iload_n 2, 1) := by decide +kernel
theorem dX10_writeTrolley_36 : decode cX10_writeTrolley 36 = .ok (.iaload, 1) := by decide +kernel
theorem dX10_writeTrolley_37 : decode cX10_writeTrolley 37 = .ok (.istore_n 3, 1) := by decide +kernel
theorem dX10_writeTrolley_38 : decode cX10_writeTrolley 38 = .ok (.iload_n 3, 1) := by decide +kernel
theorem dX10_writeTrolley_39 : decode cX10_writeTrolley 39 = .ok (.ifCond .le 36, 3) := by decide +kernel
theorem dX10_writeTrolley_42 : decode cX10_writeTrolley 42 = .ok (.aload_n 0, 1) := by decide +kernel
theorem dX10_writeTrolley_43 : decode cX10_writeTrolley 43 = .ok (.getfield 417, 3) := by decide +kernel
theorem dX10_writeTrolley_46 : decode cX10_writeTrolley 46 = .ok (.ifCond .le 9, 3) := by decide +kernel
theorem dX10_writeTrolley_49 : decode cX10_writeTrolley 49 = .ok (.aload_n 0, 1) := by decide +kernel
theorem dX10_writeTrolley_50 : decode cX10_writeTrolley 50 = .ok (.bipush 32, 2) := by decide +kernel
theorem dX10_writeTrolley_52 : decode cX10_writeTrolley 52 = .ok (.invokevirtual 420, 3) := by decide +kernel
theorem dX10_writeTrolley_55 : decode cX10_writeTrolley 55 = .ok (.aload_n 0, 1) := by decide +kernel
theorem dX10_writeTrolley_56 : decode cX10_writeTrolley 56 = .ok (.iload_n 3, 1) := by decide +kernel
theorem dX10_writeTrolley_57 : decode cX10_writeTrolley 57 = .ok (.aload_n 0, 1) := by decide +kernel
theorem dX10_writeTrolley_58 : decode cX10_writeTrolley 58 = .ok (.getfield 28, 3) := by decide +kernel
theorem dX10_writeTrolley_61 : decode cX10_writeTrolley 61 = .ok (.getfield 116, 3) := by decide +kernel
theorem dX10_writeTrolley_64 : decode cX10_writeTrolley 64 = .ok (.getfield 215, 3) := by decide +kernel
theorem dX10_writeTrolley_67 : decode cX10_writeTrolley 67 = .ok (.iload_n 2, 1) := by decide +kernel
theorem dX10_writeTrolley_68 : decode cX10_writeTrolley 68 = .ok (.aaload, 1) := by decide +kernel
theorem dX10_writeTrolley_69 : decode cX10_writeTrolley 69 = .ok (.getfield 424, 3) := by decide +kernel
theorem dX10_writeTrolley_72 : decode cX10_writeTrolley 72 = .ok (.invokevirtual 428, 3) := by decide +kernel
theorem dX10_writeTrolley_75 : decode cX10_writeTrolley 75 = .ok (.iinc 2 1, 3) := by decide +kernel
theorem dX10_writeTrolley_78 : decode cX10_writeTrolley 78 = .ok (.goto (-66), 3) := by decide +kernel
theorem dX10_writeTrolley_81 : decode cX10_writeTrolley 81 = .ok (.aload_n 0, 1) := by decide +kernel
theorem dX10_writeTrolley_82 : decode cX10_writeTrolley 82 = .ok (.bipush 10, 2) := by decide +kernel
theorem dX10_writeTrolley_84 : decode cX10_writeTrolley 84 = .ok (.invokevirtual 420, 3) := by decide +kernel
theorem dX10_writeTrolley_87 : decode cX10_writeTrolley 87 = .ok (.aload_n 0, 1) := by decide +kernel
theorem dX10_writeTrolley_88 : decode cX10_writeTrolley 88 = .ok (.getfield 417, 3) := by decide +kernel
theorem dX10_writeTrolley_91 : decode cX10_writeTrolley 91 = .ok (.ireturn, 1) := by decide +kernel
theorem dX10_outputByte_0 : decode cX10_outputByte 0 = .ok (.iload_n 1, 1) := by decide +kernel
theorem dX10_outputByte_1 : decode cX10_outputByte 1 = .ok (.ifCond .lt 11, 3) := by decide +kernel
theorem dX10_outputByte_4 : decode cX10_outputByte 4 = .ok (.iload_n 1, 1) := by decide +kernel
theorem dX10_outputByte_5 : decode cX10_outputByte 5 = .ok (.aload_n 0, 1) := by decide +kernel
theorem dX10_outputByte_6 : decode cX10_outputByte 6 = .ok (.getfield 417, 3) := by decide +kernel
theorem dX10_outputByte_9 : decode cX10_outputByte 9 = .ok (.if_icmp .lt 14, 3) := by decide +kernel
theorem dX10_outputByte_12 : decode cX10_outputByte 12 = .ok (.new 299, 3) := by decide +kernel
theorem dX10_outputByte_15 : decode cX10_outputByte 15 = .ok (.dup, 1) := by decide +kernel
theorem dX10_outputByte_16 : decode cX10_outputByte 16 = .ok (.ldc_w 432, 3) := by decide +kernel
theorem dX10_outputByte_19 : decode cX10_outputByte 19 = .ok (.invokespecial 303, 3) := by decide +kernel
theorem dX10_outputByte_22 : decode cX10_outputByte 22 = .ok (.athrow, 1) := by decide +kernel
theorem dX10_outputByte_23 : decode cX10_outputByte 23 = .ok (.aload_n 0, 1) := by decide +kernel
theorem dX10_outputByte_24 : decode cX10_outputByte 24 = .ok (.getfield 13, 3) := by decide +kernel
theorem dX10_outputByte_27 : decode cX10_outputByte 27 = .ok (.iload_n 1, 1) := by decide +kernel
theorem dX10_outputByte_28 : decode cX10_outputByte 28 = .ok (.baload, 1) := by decide +kernel
theorem dX10_outputByte_29 : decode cX10_outputByte 29 = .ok (.ireturn, 1) := by decide +kernel
theorem dX10_writeUnits_0 : decode cX10_writeUnits 0 = .ok (.iload_n 1, 1) := by decide +kernel
theorem dX10_writeUnits_1 : decode cX10_writeUnits 1 = .ok (.bipush 9, 2) := by decide +kernel
theorem dX10_writeUnits_3 : decode cX10_writeUnits 3 = .ok (.if_icmp .le 15, 3) := by decide +kernel
theorem dX10_writeUnits_6 : decode cX10_writeUnits 6 = .ok (.aload_n 0, 1) := by decide +kernel
theorem dX10_writeUnits_7 : decode cX10_writeUnits 7 = .ok (.bipush 48, 2) := by decide +kernel
theorem dX10_writeUnits_9 : decode cX10_writeUnits 9 = .ok (.iload_n 1, 1) := by decide +kernel
theorem dX10_writeUnits_10 : decode cX10_writeUnits 10 = .ok (.bipush 10, 2) := by decide +kernel
theorem dX10_writeUnits_12 : decode cX10_writeUnits 12 = .ok (.idiv, 1) := by decide +kernel
theorem dX10_writeUnits_13 : decode cX10_writeUnits 13 = .ok (.iadd, 1) := by decide +kernel
theorem dX10_writeUnits_14 : decode cX10_writeUnits 14 = .ok (.i2c, 1) := by decide +kernel
theorem dX10_writeUnits_15 : decode cX10_writeUnits 15 = .ok (.invokevirtual 420, 3) := by decide +kernel
theorem dX10_writeUnits_18 : decode cX10_writeUnits 18 = .ok (.aload_n 0, 1) := by decide +kernel
theorem dX10_writeUnits_19 : decode cX10_writeUnits 19 = .ok (.bipush 48, 2) := by decide +kernel
theorem dX10_writeUnits_21 : decode cX10_writeUnits 21 = .ok (.iload_n 1, 1) := by decide +kernel
theorem dX10_writeUnits_22 : decode cX10_writeUnits 22 = .ok (.bipush 10, 2) := by decide +kernel
theorem dX10_writeUnits_24 : decode cX10_writeUnits 24 = .ok (.irem, 1) := by decide +kernel
theorem dX10_writeUnits_25 : decode cX10_writeUnits 25 = .ok (.iadd, 1) := by decide +kernel
theorem dX10_writeUnits_26 : decode cX10_writeUnits 26 = .ok (.i2c, 1) := by decide +kernel
theorem dX10_writeUnits_27 : decode cX10_writeUnits 27 = .ok (.invokevirtual 420, 3) := by decide +kernel
theorem dX10_writeUnits_30 : decode cX10_writeUnits 30 = .ok (.aload_n 0, 1) := by decide +kernel
theorem dX10_writeUnits_31 : decode cX10_writeUnits 31 = .ok (.bipush 120, 2) := by decide +kernel
theorem dX10_writeUnits_33 : decode cX10_writeUnits 33 = .ok (.invokevirtual 420, 3) := by decide +kernel
theorem dX10_writeUnits_36 : decode cX10_writeUnits 36 = .ok (.iconst 0, 1) := by decide +kernel
theorem dX10_writeUnits_37 : decode cX10_writeUnits 37 = .ok (.istore_n 3, 1) := by decide +kernel
theorem dX10_writeUnits_38 : decode cX10_writeUnits 38 = .ok (.iload_n 3, 1) := by decide +kernel
theorem dX10_writeUnits_39 : decode cX10_writeUnits 39 = .ok (.aload_n 2, 1) := by decide +kernel
theorem dX10_writeUnits_40 : decode cX10_writeUnits 40 = .ok (.invokevirtual 434, 3) := by decide +kernel
theorem dX10_writeUnits_43 : decode cX10_writeUnits 43 = .ok (.if_icmp .ge 18, 3) := by decide +kernel
theorem dX10_writeUnits_46 : decode cX10_writeUnits 46 = .ok (.aload_n 0, 1) := by decide +kernel
theorem dX10_writeUnits_47 : decode cX10_writeUnits 47 = .ok (.aload_n 2, 1) := by decide +kernel
theorem dX10_writeUnits_48 : decode cX10_writeUnits 48 = .ok (.iload_n 3, 1) := by decide +kernel
theorem dX10_writeUnits_49 : decode cX10_writeUnits 49 = .ok (.invokevirtual 439, 3) := by decide +kernel
theorem dX10_writeUnits_52 : decode cX10_writeUnits 52 = .ok (.invokevirtual 420, 3) := by decide +kernel
theorem dX10_writeUnits_55 : decode cX10_writeUnits 55 = .ok (.iinc 3 1, 3) := by decide +kernel
theorem dX10_writeUnits_58 : decode cX10_writeUnits 58 = .ok (.goto (-20), 3) := by decide +kernel
theorem dX10_writeUnits_61 : decode cX10_writeUnits 61 = .ok (.return_, 1) := by decide +kernel
theorem dX10_writeSign_0 : decode cX10_writeSign 0 = .ok (.aload_n 0, 1) := by decide +kernel
theorem dX10_writeSign_1 : decode cX10_writeSign 1 = .ok (.getfield 417, 3) := by decide +kernel
theorem dX10_writeSign_4 : decode cX10_writeSign 4 = .ok (.aload_n 0, 1) := by decide +kernel
theorem dX10_writeSign_5 : decode cX10_writeSign 5 = .ok (.getfield 13, 3) := by decide +kernel
theorem dX10_writeSign_8 : decode cX10_writeSign 8 = .ok (.arraylength, 1) := by decide +kernel
theorem dX10_writeSign_9 : decode cX10_writeSign 9 = .ok (.if_icmp .ge 24, 3) := by decide +kernel
theorem dX10_writeSign_12 : decode cX10_writeSign 12 = .ok (.aload_n 0, 1) := by decide +kernel
theorem dX10_writeSign_13 : decode cX10_writeSign 13 = .ok (.getfield 13, 3) := by decide +kernel
theorem dX10_writeSign_16 : decode cX10_writeSign 16 = .ok (.aload_n 0, 1) := by decide +kernel
theorem dX10_writeSign_17 : decode cX10_writeSign 17 = .ok (.getfield 417, 3) := by decide +kernel
theorem dX10_writeSign_20 : decode cX10_writeSign 20 = .ok (.iload_n 1, 1) := by decide +kernel
theorem dX10_writeSign_21 : decode cX10_writeSign 21 = .ok (.i2b, 1) := by decide +kernel
theorem dX10_writeSign_22 : decode cX10_writeSign 22 = .ok (.bastore, 1) := by decide +kernel
theorem dX10_writeSign_23 : decode cX10_writeSign 23 = .ok (.aload_n 0, 1) := by decide +kernel
theorem dX10_writeSign_24 : decode cX10_writeSign 24 = .ok (.dup, 1) := by decide +kernel
theorem dX10_writeSign_25 : decode cX10_writeSign 25 = .ok (.getfield 417, 3) := by decide +kernel
theorem dX10_writeSign_28 : decode cX10_writeSign 28 = .ok (.iconst 1, 1) := by decide +kernel
theorem dX10_writeSign_29 : decode cX10_writeSign 29 = .ok (.iadd, 1) := by decide +kernel
theorem dX10_writeSign_30 : decode cX10_writeSign 30 = .ok (.putfield 417, 3) := by decide +kernel
theorem dX10_writeSign_33 : decode cX10_writeSign 33 = .ok (.return_, 1) := by decide +kernel
theorem dX10_requireCabin_0 : decode cX10_requireCabin 0 = .ok (.iload_n 1, 1) := by decide +kernel
theorem dX10_requireCabin_1 : decode cX10_requireCabin 1 = .ok (.ifCond .lt 17, 3) := by decide +kernel
theorem dX10_requireCabin_4 : decode cX10_requireCabin 4 = .ok (.iload_n 1, 1) := by decide +kernel
theorem dX10_requireCabin_5 : decode cX10_requireCabin 5 = .ok (.aload_n 0, 1) := by decide +kernel
theorem dX10_requireCabin_6 : decode cX10_requireCabin 6 = .ok (.getfield 28, 3) := by decide +kernel
theorem dX10_requireCabin_9 : decode cX10_requireCabin 9 = .ok (.getfield 116, 3) := by decide +kernel
theorem dX10_requireCabin_12 : decode cX10_requireCabin 12 = .ok (.getfield 139, 3) := by decide +kernel
theorem dX10_requireCabin_15 : decode cX10_requireCabin 15 = .ok (.if_icmp .lt 14, 3) := by decide +kernel
theorem dX10_requireCabin_18 : decode cX10_requireCabin 18 = .ok (.new 412, 3) := by decide +kernel
theorem dX10_requireCabin_21 : decode cX10_requireCabin 21 = .ok (.dup, 1) := by decide +kernel
theorem dX10_requireCabin_22 : decode cX10_requireCabin 22 = .ok (.ldc_w 443, 3) := by decide +kernel
theorem dX10_requireCabin_25 : decode cX10_requireCabin 25 = .ok (.invokespecial 416, 3) := by decide +kernel
theorem dX10_requireCabin_28 : decode cX10_requireCabin 28 = .ok (.athrow, 1) := by decide +kernel
theorem dX10_requireCabin_29 : decode cX10_requireCabin 29 = .ok (.return_, 1) := by decide +kernel
theorem dX10_requireMeal_0 : decode cX10_requireMeal 0 = .ok (.iload_n 1, 1) := by decide +kernel
theorem dX10_requireMeal_1 : decode cX10_requireMeal 1 = .ok (.ifCond .lt 17, 3) := by decide +kernel
theorem dX10_requireMeal_4 : decode cX10_requireMeal 4 = .ok (.iload_n 1, 1) := by decide +kernel
theorem dX10_requireMeal_5 : decode cX10_requireMeal 5 = .ok (.aload_n 0, 1) := by decide +kernel
theorem dX10_requireMeal_6 : decode cX10_requireMeal 6 = .ok (.getfield 28, 3) := by decide +kernel
theorem dX10_requireMeal_9 : decode cX10_requireMeal 9 = .ok (.getfield 116, 3) := by decide +kernel
theorem dX10_requireMeal_12 : decode cX10_requireMeal 12 = .ok (.getfield 142, 3) := by decide +kernel
theorem dX10_requireMeal_15 : decode cX10_requireMeal 15 = .ok (.if_icmp .lt 14, 3) := by decide +kernel
theorem dX10_requireMeal_18 : decode cX10_requireMeal 18 = .ok (.new 412, 3) := by decide +kernel
theorem dX10_requireMeal_21 : decode cX10_requireMeal 21 = .ok (.dup, 1) := by decide +kernel
theorem dX10_requireMeal_22 : decode cX10_requireMeal 22 = .ok (.ldc_w 445, 3) := by decide +kernel
theorem dX10_requireMeal_25 : decode cX10_requireMeal 25 = .ok (.invokespecial 416, 3) := by decide +kernel
theorem dX10_requireMeal_28 : decode cX10_requireMeal 28 = .ok (.athrow, 1) := by decide +kernel
theorem dX10_requireMeal_29 : decode cX10_requireMeal 29 = .ok (.return_, 1) := by decide +kernel
theorem dX10_requirePassenger_0 : decode cX10_requirePassenger 0 = .ok (.iload_n 1, 1) := by decide +kernel
theorem dX10_requirePassenger_1 : decode cX10_requirePassenger 1 = .ok (.ifCond .lt 14, 3) := by decide +kernel
theorem dX10_requirePassenger_4 : decode cX10_requirePassenger 4 = .ok (.iload_n 1, 1) := by decide +kernel
theorem dX10_requirePassenger_5 : decode cX10_requirePassenger 5 = .ok (.aload_n 0, 1) := by decide +kernel
theorem dX10_requirePassenger_6 : decode cX10_requirePassenger 6 = .ok (.getfield 28, 3) := by decide +kernel
theorem dX10_requirePassenger_9 : decode cX10_requirePassenger 9 = .ok (.getfield 132, 3) := by decide +kernel
theorem dX10_requirePassenger_12 : decode cX10_requirePassenger 12 = .ok (.if_icmp .lt 14, 3) := by decide +kernel
theorem dX10_requirePassenger_15 : decode cX10_requirePassenger 15 = .ok (.new 412, 3) := by decide +kernel
theorem dX10_requirePassenger_18 : decode cX10_requirePassenger 18 = .ok (.dup, 1) := by decide +kernel
theorem dX10_requirePassenger_19 : decode cX10_requirePassenger 19 = .ok (.ldc_w 447, 3) := by decide +kernel
theorem dX10_requirePassenger_22 : decode cX10_requirePassenger 22 = .ok (.invokespecial 416, 3) := by decide +kernel
theorem dX10_requirePassenger_25 : decode cX10_requirePassenger 25 = .ok (.athrow, 1) := by decide +kernel
theorem dX10_requirePassenger_26 : decode cX10_requirePassenger 26 = .ok (.return_, 1) := by decide +kernel
theorem dX10_requireTrolley_0 : decode cX10_requireTrolley 0 = .ok (.iload_n 1, 1) := by decide +kernel
theorem dX10_requireTrolley_1 : decode cX10_requireTrolley 1 = .ok (.ifCond .lt 17, 3) := by decide +kernel
theorem dX10_requireTrolley_4 : decode cX10_requireTrolley 4 = .ok (.iload_n 1, 1) := by decide +kernel
theorem dX10_requireTrolley_5 : decode cX10_requireTrolley 5 = .ok (.aload_n 0, 1) := by decide +kernel
theorem dX10_requireTrolley_6 : decode cX10_requireTrolley 6 = .ok (.getfield 28, 3) := by decide +kernel
theorem dX10_requireTrolley_9 : decode cX10_requireTrolley 9 = .ok (.getfield 116, 3) := by decide +kernel
theorem dX10_requireTrolley_12 : decode cX10_requireTrolley 12 = .ok (.getfield 145, 3) := by decide +kernel
theorem dX10_requireTrolley_15 : decode cX10_requireTrolley 15 = .ok (.if_icmp .lt 14, 3) := by decide +kernel
theorem dX10_requireTrolley_18 : decode cX10_requireTrolley 18 = .ok (.new 412, 3) := by decide +kernel
theorem dX10_requireTrolley_21 : decode cX10_requireTrolley 21 = .ok (.dup, 1) := by decide +kernel
theorem dX10_requireTrolley_22 : decode cX10_requireTrolley 22 = .ok (.ldc_w 449, 3) := by decide +kernel
theorem dX10_requireTrolley_25 : decode cX10_requireTrolley 25 = .ok (.invokespecial 416, 3) := by decide +kernel
theorem dX10_requireTrolley_28 : decode cX10_requireTrolley 28 = .ok (.athrow, 1) := by decide +kernel
theorem dX10_requireTrolley_29 : decode cX10_requireTrolley 29 = .ok (.return_, 1) := by decide +kernel
theorem dX10_requireNeeds_0 : decode cX10_requireNeeds 0 = .ok (.iload_n 1, 1) := by decide +kernel
theorem dX10_requireNeeds_1 : decode cX10_requireNeeds 1 = .ok (.ifCond .lt 10, 3) := by decide +kernel
theorem dX10_requireNeeds_4 : decode cX10_requireNeeds 4 = .ok (.iload_n 1, 1) := by decide +kernel
theorem dX10_requireNeeds_5 : decode cX10_requireNeeds 5 = .ok (.sipush 255, 3) := by decide +kernel
theorem dX10_requireNeeds_8 : decode cX10_requireNeeds 8 = .ok (.if_icmp .le 14, 3) := by decide +kernel
theorem dX10_requireNeeds_11 : decode cX10_requireNeeds 11 = .ok (.new 96, 3) := by decide +kernel
theorem dX10_requireNeeds_14 : decode cX10_requireNeeds 14 = .ok (.dup, 1) := by decide +kernel
theorem dX10_requireNeeds_15 : decode cX10_requireNeeds 15 = .ok (.ldc_w 451, 3) := by decide +kernel
theorem dX10_requireNeeds_18 : decode cX10_requireNeeds 18 = .ok (.invokespecial 100, 3) := by decide +kernel
theorem dX10_requireNeeds_21 : decode cX10_requireNeeds 21 = .ok (.athrow, 1) := by decide +kernel
theorem dX10_requireNeeds_22 : decode cX10_requireNeeds 22 = .ok (.return_, 1) := by decide +kernel
theorem dX10_requireUnits_0 : decode cX10_requireUnits 0 = .ok (.iload_n 1, 1) := by decide +kernel
theorem dX10_requireUnits_1 : decode cX10_requireUnits 1 = .ok (.iconst 1, 1) := by decide +kernel
theorem dX10_requireUnits_2 : decode cX10_requireUnits 2 = .ok (.if_icmp .lt 9, 3) := by decide +kernel
theorem dX10_requireUnits_5 : decode cX10_requireUnits 5 = .ok (.iload_n 1, 1) := by decide +kernel
theorem dX10_requireUnits_6 : decode cX10_requireUnits 6 = .ok (.bipush 99, 2) := by decide +kernel
theorem dX10_requireUnits_8 : decode cX10_requireUnits 8 = .ok (.if_icmp .le 14, 3) := by decide +kernel
theorem dX10_requireUnits_11 : decode cX10_requireUnits 11 = .ok (.new 96, 3) := by decide +kernel
theorem dX10_requireUnits_14 : decode cX10_requireUnits 14 = .ok (.dup, 1) := by decide +kernel
theorem dX10_requireUnits_15 : decode cX10_requireUnits 15 = .ok (.ldc_w 453, 3) := by decide +kernel
theorem dX10_requireUnits_18 : decode cX10_requireUnits 18 = .ok (.invokespecial 100, 3) := by decide +kernel
theorem dX10_requireUnits_21 : decode cX10_requireUnits 21 = .ok (.athrow, 1) := by decide +kernel
theorem dX10_requireUnits_22 : decode cX10_requireUnits 22 = .ok (.return_, 1) := by decide +kernel
theorem dX10_requireSlot_0 : decode cX10_requireSlot 0 = .ok (.iload_n 1, 1) := by decide +kernel
theorem dX10_requireSlot_1 : decode cX10_requireSlot 1 = .ok (.ifCond .lt 8, 3) := by decide +kernel
theorem dX10_requireSlot_4 : decode cX10_requireSlot 4 = .ok (.iload_n 1, 1) := by decide +kernel
theorem dX10_requireSlot_5 : decode cX10_requireSlot 5 = .ok (.iconst 2, 1) := by decide +kernel
theorem dX10_requireSlot_6 : decode cX10_requireSlot 6 = .ok (.if_icmp .lt 14, 3) := by decide +kernel
theorem dX10_requireSlot_9 : decode cX10_requireSlot 9 = .ok (.new 96, 3) := by decide +kernel
theorem dX10_requireSlot_12 : decode cX10_requireSlot 12 = .ok (.dup, 1) := by decide +kernel
theorem dX10_requireSlot_13 : decode cX10_requireSlot 13 = .ok (.ldc_w 455, 3) := by decide +kernel
theorem dX10_requireSlot_16 : decode cX10_requireSlot 16 = .ok (.invokespecial 100, 3) := by decide +kernel
theorem dX10_requireSlot_19 : decode cX10_requireSlot 19 = .ok (.athrow, 1) := by decide +kernel
theorem dX10_requireSlot_20 : decode cX10_requireSlot 20 = .ok (.return_, 1) := by decide +kernel
theorem dX10_requireFlight_0 : decode cX10_requireFlight 0 = .ok (.aload_n 0, 1) := by decide +kernel
theorem dX10_requireFlight_1 : decode cX10_requireFlight 1 = .ok (.getfield 28, 3) := by decide +kernel
theorem dX10_requireFlight_4 : decode cX10_requireFlight 4 = .ok (.invokevirtual 135, 3) := by decide +kernel
theorem dX10_requireFlight_7 : decode cX10_requireFlight 7 = .ok (.istore_n 1, 1) := by decide +kernel
theorem dX10_requireFlight_8 : decode cX10_requireFlight 8 = .ok (.iload_n 1, 1) := by decide +kernel
theorem dX10_requireFlight_9 : decode cX10_requireFlight 9 = .ok (.ifCond .eq 8, 3) := by decide +kernel
theorem dX10_requireFlight_12 : decode cX10_requireFlight 12 = .ok (.iload_n 1, 1) := by decide +kernel
theorem dX10_requireFlight_13 : decode cX10_requireFlight 13 = .ok (.iconst 3, 1) := by decide +kernel
theorem dX10_requireFlight_14 : decode cX10_requireFlight 14 = .ok (.if_icmp .ne 8, 3) := by decide +kernel
theorem dX10_requireFlight_17 : decode cX10_requireFlight 17 = .ok (.aload_n 0, 1) := by decide +kernel
theorem dX10_requireFlight_18 : decode cX10_requireFlight 18 = .ok (.iconst 1, 1) := by decide +kernel
theorem dX10_requireFlight_19 : decode cX10_requireFlight 19 = .ok (.invokevirtual 323, 3) := by decide +kernel
theorem dX10_requireFlight_22 : decode cX10_requireFlight 22 = .ok (.return_, 1) := by decide +kernel
theorem dX10_requireOpen_0 : decode cX10_requireOpen 0 = .ok (.aload_n 0, 1) := by decide +kernel
theorem dX10_requireOpen_1 : decode cX10_requireOpen 1 = .ok (.invokevirtual 320, 3) := by decide +kernel
theorem dX10_requireOpen_4 : decode cX10_requireOpen 4 = .ok (.aload_n 0, 1) := by decide +kernel
theorem dX10_requireOpen_5 : decode cX10_requireOpen 5 = .ok (.getfield 28, 3) := by decide +kernel
theorem dX10_requireOpen_8 : decode cX10_requireOpen 8 = .ok (.invokevirtual 135, 3) := by decide +kernel
theorem dX10_requireOpen_11 : decode cX10_requireOpen 11 = .ok (.iconst 2, 1) := by decide +kernel
theorem dX10_requireOpen_12 : decode cX10_requireOpen 12 = .ok (.if_icmp .ne 8, 3) := by decide +kernel
theorem dX10_requireOpen_15 : decode cX10_requireOpen 15 = .ok (.aload_n 0, 1) := by decide +kernel
theorem dX10_requireOpen_16 : decode cX10_requireOpen 16 = .ok (.iconst 2, 1) := by decide +kernel
theorem dX10_requireOpen_17 : decode cX10_requireOpen 17 = .ok (.invokevirtual 323, 3) := by decide +kernel
theorem dX10_requireOpen_20 : decode cX10_requireOpen 20 = .ok (.return_, 1) := by decide +kernel
theorem dX10_requireSeat_0 : decode cX10_requireSeat 0 = .ok (.aload_n 0, 1) := by decide +kernel
theorem dX10_requireSeat_1 : decode cX10_requireSeat 1 = .ok (.getfield 28, 3) := by decide +kernel
theorem dX10_requireSeat_4 : decode cX10_requireSeat 4 = .ok (.iload_n 1, 1) := by decide +kernel
theorem dX10_requireSeat_5 : decode cX10_requireSeat 5 = .ok (.invokevirtual 457, 3) := by decide +kernel
theorem dX10_requireSeat_8 : decode cX10_requireSeat 8 = .ok (.iconst 1, 1) := by decide +kernel
theorem dX10_requireSeat_9 : decode cX10_requireSeat 9 = .ok (.if_icmp .ge 9, 3) := by decide +kernel
theorem dX10_requireSeat_12 : decode cX10_requireSeat 12 = .ok (.aload_n 0, 1) := by decide +kernel
theorem dX10_requireSeat_13 : decode cX10_requireSeat 13 = .ok (.bipush 9, 2) := by decide +kernel
theorem dX10_requireSeat_15 : decode cX10_requireSeat 15 = .ok (.invokevirtual 323, 3) := by decide +kernel
theorem dX10_requireSeat_18 : decode cX10_requireSeat 18 = .ok (.return_, 1) := by decide +kernel
theorem dX10_refuse_0 : decode cX10_refuse 0 = .ok (.aload_n 0, 1) := by decide +kernel
theorem dX10_refuse_1 : decode cX10_refuse 1 = .ok (.iload_n 1, 1) := by decide +kernel
theorem dX10_refuse_2 : decode cX10_refuse 2 = .ok (.putfield 129, 3) := by decide +kernel
theorem dX10_refuse_5 : decode cX10_refuse 5 = .ok (.new 85, 3) := by decide +kernel
theorem dX10_refuse_8 : decode cX10_refuse 8 = .ok (.dup, 1) := by decide +kernel
theorem dX10_refuse_9 : decode cX10_refuse 9 = .ok (.ldc_w 460, 3) := by decide +kernel
theorem dX10_refuse_12 : decode cX10_refuse 12 = .ok (.invokespecial 89, 3) := by decide +kernel
theorem dX10_refuse_15 : decode cX10_refuse 15 = .ok (.athrow, 1) := by decide +kernel
theorem dX10_beginAct_0 : decode cX10_beginAct 0 = .ok (.aload_n 0, 1) := by decide +kernel
theorem dX10_beginAct_1 : decode cX10_beginAct 1 = .ok (.getfield 49, 3) := by decide +kernel
theorem dX10_beginAct_4 : decode cX10_beginAct 4 = .ok (.aload_n 0, 1) := by decide +kernel
theorem dX10_beginAct_5 : decode cX10_beginAct 5 = .ok (.getfield 28, 3) := by decide +kernel
theorem dX10_beginAct_8 : decode cX10_beginAct 8 = .ok (.invokevirtual 462, 3) := by decide +kernel
theorem dX10_beginAct_11 : decode cX10_beginAct 11 = .ok (.aload_n 0, 1) := by decide +kernel
theorem dX10_beginAct_12 : decode cX10_beginAct 12 = .ok (.iconst 0, 1) := by decide +kernel
theorem dX10_beginAct_13 : decode cX10_beginAct 13 = .ok (.putfield 406, 3) := by decide +kernel
theorem dX10_beginAct_16 : decode cX10_beginAct 16 = .ok (.return_, 1) := by decide +kernel
theorem dX10_forgetPast_0 : decode cX10_forgetPast 0 = .ok (.aload_n 0, 1) := by decide +kernel
theorem dX10_forgetPast_1 : decode cX10_forgetPast 1 = .ok (.getfield 49, 3) := by decide +kernel
theorem dX10_forgetPast_4 : decode cX10_forgetPast 4 = .ok (.iconst 0, 1) := by decide +kernel
theorem dX10_forgetPast_5 : decode cX10_forgetPast 5 = .ok (.putfield 164, 3) := by decide +kernel
theorem dX10_forgetPast_8 : decode cX10_forgetPast 8 = .ok (.aload_n 0, 1) := by decide +kernel
theorem dX10_forgetPast_9 : decode cX10_forgetPast 9 = .ok (.iconst 0, 1) := by decide +kernel
theorem dX10_forgetPast_10 : decode cX10_forgetPast 10 = .ok (.putfield 406, 3) := by decide +kernel
theorem dX10_forgetPast_13 : decode cX10_forgetPast 13 = .ok (.return_, 1) := by decide +kernel
theorem dX10_freshOrder_0 : decode cX10_freshOrder 0 = .ok (.aload_n 0, 1) := by decide +kernel
theorem dX10_freshOrder_1 : decode cX10_freshOrder 1 = .ok (.getfield 64, 3) := by decide +kernel
theorem dX10_freshOrder_4 : decode cX10_freshOrder 4 = .ok (.aload_n 0, 1) := by decide +kernel
theorem dX10_freshOrder_5 : decode cX10_freshOrder 5 = .ok (.getfield 28, 3) := by decide +kernel
theorem dX10_freshOrder_8 : decode cX10_freshOrder 8 = .ok (.invokevirtual 465, 3) := by decide +kernel
theorem dX10_freshOrder_11 : decode cX10_freshOrder 11 = .ok (.aload_n 0, 1) := by decide +kernel
theorem dX10_freshOrder_12 : decode cX10_freshOrder 12 = .ok (.getfield 64, 3) := by decide +kernel
theorem dX10_freshOrder_15 : decode cX10_freshOrder 15 = .ok (.areturn, 1) := by decide +kernel
theorem dX10_freshService_0 : decode cX10_freshService 0 = .ok (.aload_n 0, 1) := by decide +kernel
theorem dX10_freshService_1 : decode cX10_freshService 1 = .ok (.getfield 406, 3) := by decide +kernel
theorem dX10_freshService_4 : decode cX10_freshService 4 = .ok (.ifCond .ne 37, 3) := by decide +kernel
theorem dX10_freshService_7 : decode cX10_freshService 7 = .ok (.aload_n 0, 1) := by decide +kernel
theorem dX10_freshService_8 : decode cX10_freshService 8 = .ok (.getfield 71, 3) := by decide +kernel
theorem dX10_freshService_11 : decode cX10_freshService 11 = .ok (.aload_n 0, 1) := by decide +kernel
theorem dX10_freshService_12 : decode cX10_freshService 12 = .ok (.getfield 28, 3) := by decide +kernel
theorem dX10_freshService_15 : decode cX10_freshService 15 = .ok (.invokevirtual 468, 3) := by decide +kernel
theorem dX10_freshService_18 : decode cX10_freshService 18 = .ok (.aload_n 0, 1) := by decide +kernel
theorem dX10_freshService_19 : decode cX10_freshService 19 = .ok (.getfield 78, 3) := by decide +kernel
theorem dX10_freshService_22 : decode cX10_freshService 22 = .ok (.aload_n 0, 1) := by decide +kernel
theorem dX10_freshService_23 : decode cX10_freshService 23 = .ok (.getfield 28, 3) := by decide +kernel
theorem dX10_freshService_26 : decode cX10_freshService 26 = .ok (.aload_n 0, 1) := by decide +kernel
theorem dX10_freshService_27 : decode cX10_freshService 27 = .ok (.getfield 71, 3) := by decide +kernel
theorem dX10_freshService_30 : decode cX10_freshService 30 = .ok (.getfield 471, 3) := by decide +kernel
theorem dX10_freshService_33 : decode cX10_freshService 33 = .ok (.invokevirtual 472, 3) := by decide +kernel
theorem dX10_freshService_36 : decode cX10_freshService 36 = .ok (.aload_n 0, 1) := by decide +kernel
theorem dX10_freshService_37 : decode cX10_freshService 37 = .ok (.iconst 1, 1) := by decide +kernel
theorem dX10_freshService_38 : decode cX10_freshService 38 = .ok (.putfield 406, 3) := by decide +kernel
theorem dX10_freshService_41 : decode cX10_freshService 41 = .ok (.aload_n 0, 1) := by decide +kernel
theorem dX10_freshService_42 : decode cX10_freshService 42 = .ok (.getfield 78, 3) := by decide +kernel
theorem dX10_freshService_45 : decode cX10_freshService 45 = .ok (.areturn, 1) := by decide +kernel
theorem dX10_bitsOfShare_0 : decode cX10_bitsOfShare 0 = .ok (.fload_n 0, 1) := by decide +kernel
theorem dX10_bitsOfShare_1 : decode cX10_bitsOfShare 1 = .ok (.fconst 0, 1) := by decide +kernel
theorem dX10_bitsOfShare_2 : decode cX10_bitsOfShare 2 = .ok (.fcmp .g, 1) := by decide +kernel
theorem dX10_bitsOfShare_3 : decode cX10_bitsOfShare 3 = .ok (.ifCond .gt 5, 3) := by decide +kernel
theorem dX10_bitsOfShare_6 : decode cX10_bitsOfShare 6 = .ok (.iconst 0, 1) := by decide +kernel
theorem dX10_bitsOfShare_7 : decode cX10_bitsOfShare 7 = .ok (.ireturn, 1) := by decide +kernel
theorem dX10_bitsOfShare_8 : decode cX10_bitsOfShare 8 = .ok (.bipush 127, 2) := by decide +kernel
theorem dX10_bitsOfShare_10 : decode cX10_bitsOfShare 10 = .ok (.istore_n 1, 1) := by decide +kernel
theorem dX10_bitsOfShare_11 : decode cX10_bitsOfShare 11 = .ok (.fload_n 0, 1) := by decide +kernel
theorem dX10_bitsOfShare_12 : decode cX10_bitsOfShare 12 = .ok (.fstore_n 2, 1) := by decide +kernel
theorem dX10_bitsOfShare_13 : decode cX10_bitsOfShare 13 = .ok (.iconst 0, 1) := by decide +kernel
theorem dX10_bitsOfShare_14 : decode cX10_bitsOfShare 14 = .ok (.istore_n 3, 1) := by decide +kernel
theorem dX10_bitsOfShare_15 : decode cX10_bitsOfShare 15 = .ok (.iload_n 3, 1) := by decide +kernel
theorem dX10_bitsOfShare_16 : decode cX10_bitsOfShare 16 = .ok (.bipush 126, 2) := by decide +kernel
theorem dX10_bitsOfShare_18 : decode cX10_bitsOfShare 18 = .ok (.if_icmp .ge 22, 3) := by decide +kernel
theorem dX10_bitsOfShare_21 : decode cX10_bitsOfShare 21 = .ok (.fload_n 2, 1) := by decide +kernel
theorem dX10_bitsOfShare_22 : decode cX10_bitsOfShare 22 = .ok (.fconst 1, 1) := by decide +kernel
theorem dX10_bitsOfShare_23 : decode cX10_bitsOfShare 23 = .ok (.fcmp .g, 1) := by decide +kernel
theorem dX10_bitsOfShare_24 : decode cX10_bitsOfShare 24 = .ok (.ifCond .ge 16, 3) := by decide +kernel
theorem dX10_bitsOfShare_27 : decode cX10_bitsOfShare 27 = .ok (.fload_n 2, 1) := by decide +kernel
theorem dX10_bitsOfShare_28 : decode cX10_bitsOfShare 28 = .ok (.fconst 2, 1) := by decide +kernel
theorem dX10_bitsOfShare_29 : decode cX10_bitsOfShare 29 = .ok (.fmul, 1) := by decide +kernel
theorem dX10_bitsOfShare_30 : decode cX10_bitsOfShare 30 = .ok (.fstore_n 2, 1) := by decide +kernel
theorem dX10_bitsOfShare_31 : decode cX10_bitsOfShare 31 = .ok (.iinc 1 (-1), 3) := by decide +kernel
theorem dX10_bitsOfShare_34 : decode cX10_bitsOfShare 34 = .ok (.iinc 3 1, 3) := by decide +kernel
theorem dX10_bitsOfShare_37 : decode cX10_bitsOfShare 37 = .ok (.goto (-22), 3) := by decide +kernel
theorem dX10_bitsOfShare_40 : decode cX10_bitsOfShare 40 = .ok (.iload_n 1, 1) := by decide +kernel
theorem dX10_bitsOfShare_41 : decode cX10_bitsOfShare 41 = .ok (.bipush 23, 2) := by decide +kernel
theorem dX10_bitsOfShare_43 : decode cX10_bitsOfShare 43 = .ok (.ishl, 1) := by decide +kernel
theorem dX10_bitsOfShare_44 : decode cX10_bitsOfShare 44 = .ok (.fload_n 2, 1) := by decide +kernel
theorem dX10_bitsOfShare_45 : decode cX10_bitsOfShare 45 = .ok (.fconst 1, 1) := by decide +kernel
theorem dX10_bitsOfShare_46 : decode cX10_bitsOfShare 46 = .ok (.fsub, 1) := by decide +kernel
theorem dX10_bitsOfShare_47 : decode cX10_bitsOfShare 47 = .ok (.ldc_w 475, 3) := by decide +kernel
theorem dX10_bitsOfShare_50 : decode cX10_bitsOfShare 50 = .ok (.fmul, 1) := by decide +kernel
theorem dX10_bitsOfShare_51 : decode cX10_bitsOfShare 51 = .ok (.f2i, 1) := by decide +kernel
theorem dX10_bitsOfShare_52 : decode cX10_bitsOfShare 52 = .ok (.iadd, 1) := by decide +kernel
theorem dX10_bitsOfShare_53 : decode cX10_bitsOfShare 53 = .ok (.ireturn, 1) := by decide +kernel
theorem dX10_bitsOfCost_0 : decode cX10_bitsOfCost 0 = .ok (.dload_n 0, 1) := by decide +kernel
theorem dX10_bitsOfCost_1 : decode cX10_bitsOfCost 1 = .ok (.dconst 0, 1) := by decide +kernel
theorem dX10_bitsOfCost_2 : decode cX10_bitsOfCost 2 = .ok (.dcmp .g, 1) := by decide +kernel
theorem dX10_bitsOfCost_3 : decode cX10_bitsOfCost 3 = .ok (.ifCond .gt 5, 3) := by decide +kernel
theorem dX10_bitsOfCost_6 : decode cX10_bitsOfCost 6 = .ok (.lconst 0, 1) := by decide +kernel
theorem dX10_bitsOfCost_7 : decode cX10_bitsOfCost 7 = .ok (.lreturn, 1) := by decide +kernel
theorem dX10_bitsOfCost_8 : decode cX10_bitsOfCost 8 = .ok (.ldc2_w 476, 3) := by decide +kernel
theorem dX10_bitsOfCost_11 : decode cX10_bitsOfCost 11 = .ok (.lstore_n 2, 1) := by decide +kernel
theorem dX10_bitsOfCost_12 : decode cX10_bitsOfCost 12 = .ok (.dload_n 0, 1) := by decide +kernel
theorem dX10_bitsOfCost_13 : decode cX10_bitsOfCost 13 = .ok (.dstore 4, 2) := by decide +kernel
theorem dX10_bitsOfCost_15 : decode cX10_bitsOfCost 15 = .ok (.iconst 0, 1) := by decide +kernel
theorem dX10_bitsOfCost_16 : decode cX10_bitsOfCost 16 = .ok (.istore 6, 2) := by decide +kernel
theorem dX10_bitsOfCost_18 : decode cX10_bitsOfCost 18 = .ok (.iload 6, 2) := by decide +kernel
theorem dX10_bitsOfCost_20 : decode cX10_bitsOfCost 20 = .ok (.sipush 1022, 3) := by decide +kernel
theorem dX10_bitsOfCost_23 : decode cX10_bitsOfCost 23 = .ok (.if_icmp .ge 28, 3) := by decide +kernel
theorem dX10_bitsOfCost_26 : decode cX10_bitsOfCost 26 = .ok (.dload 4, 2) := by decide +kernel
theorem dX10_bitsOfCost_28 : decode cX10_bitsOfCost 28 = .ok (.dconst 1, 1) := by decide +kernel
theorem dX10_bitsOfCost_29 : decode cX10_bitsOfCost 29 = .ok (.dcmp .g, 1) := by decide +kernel
theorem dX10_bitsOfCost_30 : decode cX10_bitsOfCost 30 = .ok (.ifCond .ge 21, 3) := by decide +kernel
theorem dX10_bitsOfCost_33 : decode cX10_bitsOfCost 33 = .ok (.dload 4, 2) := by decide +kernel
theorem dX10_bitsOfCost_35 : decode cX10_bitsOfCost 35 = .ok (.ldc2_w 478, 3) := by decide +kernel
theorem dX10_bitsOfCost_38 : decode cX10_bitsOfCost 38 = .ok (.dmul, 1) := by decide +kernel
theorem dX10_bitsOfCost_39 : decode cX10_bitsOfCost 39 = .ok (.dstore 4, 2) := by decide +kernel
theorem dX10_bitsOfCost_41 : decode cX10_bitsOfCost 41 = .ok (.lload_n 2, 1) := by decide +kernel
theorem dX10_bitsOfCost_42 : decode cX10_bitsOfCost 42 = .ok (.lconst 1, 1) := by decide +kernel
theorem dX10_bitsOfCost_43 : decode cX10_bitsOfCost 43 = .ok (.lsub, 1) := by decide +kernel
theorem dX10_bitsOfCost_44 : decode cX10_bitsOfCost 44 = .ok (.lstore_n 2, 1) := by decide +kernel
theorem dX10_bitsOfCost_45 : decode cX10_bitsOfCost 45 = .ok (.iinc 6 1, 3) := by decide +kernel
theorem dX10_bitsOfCost_48 : decode cX10_bitsOfCost 48 = .ok (.goto (-30), 3) := by decide +kernel
theorem dX10_bitsOfCost_51 : decode cX10_bitsOfCost 51 = .ok (.iconst 0, 1) := by decide +kernel
theorem dX10_bitsOfCost_52 : decode cX10_bitsOfCost 52 = .ok (.istore 6, 2) := by decide +kernel
theorem dX10_bitsOfCost_54 : decode cX10_bitsOfCost 54 = .ok (.iload 6, 2) := by decide +kernel
theorem dX10_bitsOfCost_56 : decode cX10_bitsOfCost 56 = .ok (.sipush 1023, 3) := by decide +kernel
theorem dX10_bitsOfCost_59 : decode cX10_bitsOfCost 59 = .ok (.if_icmp .ge 30, 3) := by decide +kernel
theorem dX10_bitsOfCost_62 : decode cX10_bitsOfCost 62 = .ok (.dload 4, 2) := by decide +kernel
theorem dX10_bitsOfCost_64 : decode cX10_bitsOfCost 64 = .ok (.ldc2_w 478, 3) := by decide +kernel
theorem dX10_bitsOfCost_67 : decode cX10_bitsOfCost 67 = .ok (.dcmp .l, 1) := by decide +kernel
theorem dX10_bitsOfCost_68 : decode cX10_bitsOfCost 68 = .ok (.ifCond .lt 21, 3) := by decide +kernel
theorem dX10_bitsOfCost_71 : decode cX10_bitsOfCost 71 = .ok (.dload 4, 2) := by decide +kernel
theorem dX10_bitsOfCost_73 : decode cX10_bitsOfCost 73 = .ok (.ldc2_w 478, 3) := by decide +kernel
theorem dX10_bitsOfCost_76 : decode cX10_bitsOfCost 76 = .ok (.ddiv, 1) := by decide +kernel
theorem dX10_bitsOfCost_77 : decode cX10_bitsOfCost 77 = .ok (.dstore 4, 2) := by decide +kernel
theorem dX10_bitsOfCost_79 : decode cX10_bitsOfCost 79 = .ok (.lload_n 2, 1) := by decide +kernel
theorem dX10_bitsOfCost_80 : decode cX10_bitsOfCost 80 = .ok (.lconst 1, 1) := by decide +kernel
theorem dX10_bitsOfCost_81 : decode cX10_bitsOfCost 81 = .ok (.ladd, 1) := by decide +kernel
theorem dX10_bitsOfCost_82 : decode cX10_bitsOfCost 82 = .ok (.lstore_n 2, 1) := by decide +kernel
theorem dX10_bitsOfCost_83 : decode cX10_bitsOfCost 83 = .ok (.iinc 6 1, 3) := by decide +kernel
theorem dX10_bitsOfCost_86 : decode cX10_bitsOfCost 86 = .ok (.goto (-32), 3) := by decide +kernel
theorem dX10_bitsOfCost_89 : decode cX10_bitsOfCost 89 = .ok (.lload_n 2, 1) := by decide +kernel
theorem dX10_bitsOfCost_90 : decode cX10_bitsOfCost 90 = .ok (.bipush 52, 2) := by decide +kernel
theorem dX10_bitsOfCost_92 : decode cX10_bitsOfCost 92 = .ok (.lshl, 1) := by decide +kernel
theorem dX10_bitsOfCost_93 : decode cX10_bitsOfCost 93 = .ok (.dload 4, 2) := by decide +kernel
theorem dX10_bitsOfCost_95 : decode cX10_bitsOfCost 95 = .ok (.dconst 1, 1) := by decide +kernel
theorem dX10_bitsOfCost_96 : decode cX10_bitsOfCost 96 = .ok (.dsub, 1) := by decide +kernel
theorem dX10_bitsOfCost_97 : decode cX10_bitsOfCost 97 = .ok (.ldc2_w 480, 3) := by decide +kernel
theorem dX10_bitsOfCost_100 : decode cX10_bitsOfCost 100 = .ok (.dmul, 1) := by decide +kernel
theorem dX10_bitsOfCost_101 : decode cX10_bitsOfCost 101 = .ok (.d2l, 1) := by decide +kernel
theorem dX10_bitsOfCost_102 : decode cX10_bitsOfCost 102 = .ok (.ladd, 1) := by decide +kernel
theorem dX10_bitsOfCost_103 : decode cX10_bitsOfCost 103 = .ok (.lreturn, 1) := by decide +kernel
theorem dX11_init_0 : decode cX11_init 0 = .ok (.aload_n 0, 1) := by decide +kernel
theorem dX11_init_1 : decode cX11_init 1 = .ok (.invokespecial 1, 3) := by decide +kernel
theorem dX11_init_4 : decode cX11_init 4 = .ok (.aload_n 0, 1) := by decide +kernel
theorem dX11_init_5 : decode cX11_init 5 = .ok (.bipush 89, 2) := by decide +kernel
theorem dX11_init_7 : decode cX11_init 7 = .ok (.newarray .int, 2) := by decide +kernel
theorem dX11_init_9 : decode cX11_init 9 = .ok (.putfield 7, 3) := by decide +kernel
theorem dX11_init_12 : decode cX11_init 12 = .ok (.aload_n 0, 1) := by decide +kernel
theorem dX11_init_13 : decode cX11_init 13 = .ok (.bipush 89, 2) := by decide +kernel
theorem dX11_init_15 : decode cX11_init 15 = .ok (.newarray .int, 2) := by decide +kernel
theorem dX11_init_17 : decode cX11_init 17 = .ok (.putfield 13, 3) := by decide +kernel
theorem dX11_init_20 : decode cX11_init 20 = .ok (.aload_n 0, 1) := by decide +kernel
theorem dX11_init_21 : decode cX11_init 21 = .ok (.bipush 12, 2) := by decide +kernel
theorem dX11_init_23 : decode cX11_init 23 = .ok (.newarray .long, 2) := by decide +kernel
theorem dX11_init_25 : decode cX11_init 25 = .ok (.putfield 16, 3) := by decide +kernel
theorem dX11_init_28 : decode cX11_init 28 = .ok (.aload_n 0, 1) := by decide +kernel
theorem dX11_init_29 : decode cX11_init 29 = .ok (.iconst 4, 1) := by decide +kernel
theorem dX11_init_30 : decode cX11_init 30 = .ok (.newarray .long, 2) := by decide +kernel
theorem dX11_init_32 : decode cX11_init 32 = .ok (.putfield 20, 3) := by decide +kernel
theorem dX11_init_35 : decode cX11_init 35 = .ok (.aload_n 0, 1) := by decide +kernel
theorem dX11_init_36 : decode cX11_init 36 = .ok (.bipush 12, 2) := by decide +kernel
theorem dX11_init_38 : decode cX11_init 38 = .ok (.newarray .long, 2) := by decide +kernel
theorem dX11_init_40 : decode cX11_init 40 = .ok (.putfield 23, 3) := by decide +kernel
theorem dX11_init_43 : decode cX11_init 43 = .ok (.aload_n 0, 1) := by decide +kernel
theorem dX11_init_44 : decode cX11_init 44 = .ok (.sipush 291, 3) := by decide +kernel
theorem dX11_init_47 : decode cX11_init 47 = .ok (.newarray .int, 2) := by decide +kernel
theorem dX11_init_49 : decode cX11_init 49 = .ok (.putfield 26, 3) := by decide +kernel
theorem dX11_init_52 : decode cX11_init 52 = .ok (.aload_n 0, 1) := by decide +kernel
theorem dX11_init_53 : decode cX11_init 53 = .ok (.sipush 291, 3) := by decide +kernel
theorem dX11_init_56 : decode cX11_init 56 = .ok (.newarray .int, 2) := by decide +kernel
theorem dX11_init_58 : decode cX11_init 58 = .ok (.putfield 29, 3) := by decide +kernel
theorem dX11_init_61 : decode cX11_init 61 = .ok (.aload_n 0, 1) := by decide +kernel
theorem dX11_init_62 : decode cX11_init 62 = .ok (.sipush 3492, 3) := by decide +kernel
theorem dX11_init_65 : decode cX11_init 65 = .ok (.newarray .int, 2) := by decide +kernel
theorem dX11_init_67 : decode cX11_init 67 = .ok (.putfield 32, 3) := by decide +kernel
theorem dX11_init_70 : decode cX11_init 70 = .ok (.aload_n 0, 1) := by decide +kernel
theorem dX11_init_71 : decode cX11_init 71 = .ok (.sipush 582, 3) := by decide +kernel
theorem dX11_init_74 : decode cX11_init 74 = .ok (.newarray .int, 2) := by decide +kernel
theorem dX11_init_76 : decode cX11_init 76 = .ok (.putfield 35, 3) := by decide +kernel
theorem dX11_init_79 : decode cX11_init 79 = .ok (.aload_n 0, 1) := by decide +kernel
theorem dX11_init_80 : decode cX11_init 80 = .ok (.bipush 6, 2) := by decide +kernel
theorem dX11_init_82 : decode cX11_init 82 = .ok (.newarray .long, 2) := by decide +kernel
theorem dX11_init_84 : decode cX11_init 84 = .ok (.putfield 38, 3) := by decide +kernel
theorem dX11_init_87 : decode cX11_init 87 = .ok (.aload_n 0, 1) := by decide +kernel
theorem dX11_init_88 : decode cX11_init 88 = .ok (.bipush 72, 2) := by decide +kernel
theorem dX11_init_90 : decode cX11_init 90 = .ok (.newarray .long, 2) := by decide +kernel
theorem dX11_init_92 : decode cX11_init 92 = .ok (.putfield 41, 3) := by decide +kernel
theorem dX11_init_95 : decode cX11_init 95 = .ok (.aload_n 0, 1) := by decide +kernel
theorem dX11_init_96 : decode cX11_init 96 = .ok (.bipush 12, 2) := by decide +kernel
theorem dX11_init_98 : decode cX11_init 98 = .ok (.newarray .long, 2) := by decide +kernel
theorem dX11_init_100 : decode cX11_init 100 = .ok (.putfield 44, 3) := by decide +kernel
theorem dX11_init_103 : decode cX11_init 103 = .ok (.aload_n 0, 1) := by decide +kernel
theorem dX11_init_104 : decode cX11_init 104 = .ok (.iconst 2, 1) := by decide +kernel
theorem dX11_init_105 : decode cX11_init 105 = .ok (.newarray .boolean, 2) := by decide +kernel
theorem dX11_init_107 : decode cX11_init 107 = .ok (.putfield 47, 3) := by decide +kernel
theorem dX11_init_110 : decode cX11_init 110 = .ok (.aload_n 0, 1) := by decide +kernel
theorem dX11_init_111 : decode cX11_init 111 = .ok (.sipush 900, 3) := by decide +kernel
theorem dX11_init_114 : decode cX11_init 114 = .ok (.newarray .int, 2) := by decide +kernel
theorem dX11_init_116 : decode cX11_init 116 = .ok (.putfield 51, 3) := by decide +kernel
theorem dX11_init_119 : decode cX11_init 119 = .ok (.aload_n 0, 1) := by decide +kernel
theorem dX11_init_120 : decode cX11_init 120 = .ok (.iconst (-1), 1) := by decide +kernel
theorem dX11_init_121 : decode cX11_init 121 = .ok (.putfield 54, 3) := by decide +kernel
theorem dX11_init_124 : decode cX11_init 124 = .ok (.aload_n 0, 1) := by decide +kernel
theorem dX11_init_125 : decode cX11_init 125 = .ok (.bipush 12, 2) := by decide +kernel
theorem dX11_init_127 : decode cX11_init 127 = .ok (.newarray .int, 2) := by decide +kernel
theorem dX11_init_129 : decode cX11_init 129 = .ok (.putfield 58, 3) := by decide +kernel
theorem dX11_init_132 : decode cX11_init 132 = .ok (.aload_n 0, 1) := by decide +kernel
theorem dX11_init_133 : decode cX11_init 133 = .ok (.bipush 12, 2) := by decide +kernel
theorem dX11_init_135 : decode cX11_init 135 = .ok (.newarray .int, 2) := by decide +kernel
theorem dX11_init_137 : decode cX11_init 137 = .ok (.putfield 61, 3) := by decide +kernel
theorem dX11_init_140 : decode cX11_init 140 = .ok (.aload_n 0, 1) := by decide +kernel
theorem dX11_init_141 : decode cX11_init 141 = .ok (.bipush 96, 2) := by decide +kernel
theorem dX11_init_143 : decode cX11_init 143 = .ok (.newarray .int, 2) := by decide +kernel
theorem dX11_init_145 : decode cX11_init 145 = .ok (.putfield 64, 3) := by decide +kernel
theorem dX11_init_148 : decode cX11_init 148 = .ok (.aload_n 0, 1) := by decide +kernel
theorem dX11_init_149 : decode cX11_init 149 = .ok (.bipush 40, 2) := by decide +kernel
theorem dX11_init_151 : decode cX11_init 151 = .ok (.newarray .int, 2) := by decide +kernel
theorem dX11_init_153 : decode cX11_init 153 = .ok (.putfield 67, 3) := by decide +kernel
theorem dX11_init_156 : decode cX11_init 156 = .ok (.aload_n 0, 1) := by decide +kernel
theorem dX11_init_157 : decode cX11_init 157 = .ok (.bipush 40, 2) := by decide +kernel
theorem dX11_init_159 : decode cX11_init 159 = .ok (.newarray .int, 2) := by decide +kernel
theorem dX11_init_161 : decode cX11_init 161 = .ok (.putfield 70, 3) := by decide +kernel
theorem dX11_init_164 : decode cX11_init 164 = .ok (.aload_n 0, 1) := by decide +kernel
theorem dX11_init_165 : decode cX11_init 165 = .ok (.bipush 40, 2) := by decide +kernel
theorem dX11_init_167 : decode cX11_init 167 = .ok (.newarray .int, 2) := by decide +kernel
theorem dX11_init_169 : decode cX11_init 169 = .ok (.putfield 73, 3) := by decide +kernel
theorem dX11_init_172 : decode cX11_init 172 = .ok (.aload_n 0, 1) := by decide +kernel
theorem dX11_init_173 : decode cX11_init 173 = .ok (.bipush 12, 2) := by decide +kernel
theorem dX11_init_175 : decode cX11_init 175 = .ok (.newarray .int, 2) := by decide +kernel
theorem dX11_init_177 : decode cX11_init 177 = .ok (.putfield 76, 3) := by decide +kernel
theorem dX11_init_180 : decode cX11_init 180 = .ok (.aload_n 0, 1) := by decide +kernel
theorem dX11_init_181 : decode cX11_init 181 = .ok (.bipush 12, 2) := by decide +kernel
theorem dX11_init_183 : decode cX11_init 183 = .ok (.newarray .int, 2) := by decide +kernel
theorem dX11_init_185 : decode cX11_init 185 = .ok (.putfield 79, 3) := by decide +kernel
theorem dX11_init_188 : decode cX11_init 188 = .ok (.aload_n 0, 1) := by decide +kernel
theorem dX11_init_189 : decode cX11_init 189 = .ok (.bipush 12, 2) := by decide +kernel
theorem dX11_init_191 : decode cX11_init 191 = .ok (.newarray .int, 2) := by decide +kernel
theorem dX11_init_193 : decode cX11_init 193 = .ok (.putfield 82, 3) := by decide +kernel
theorem dX11_init_196 : decode cX11_init 196 = .ok (.aload_n 0, 1) := by decide +kernel
theorem dX11_init_197 : decode cX11_init 197 = .ok (.sipush 150, 3) := by decide +kernel
theorem dX11_init_200 : decode cX11_init 200 = .ok (.newarray .int, 2) := by decide +kernel
theorem dX11_init_202 : decode cX11_init 202 = .ok (.putfield 85, 3) := by decide +kernel
theorem dX11_init_205 : decode cX11_init 205 = .ok (.return_, 1) := by decide +kernel
theorem dX11_thrown_0 : decode cX11_thrown 0 = .ok (.aload_n 0, 1) := by decide +kernel
theorem dX11_thrown_1 : decode cX11_thrown 1 = .ok (.getfield 88, 3) := by decide +kernel
theorem dX11_thrown_4 : decode cX11_thrown 4 = .ok (.ireturn, 1) := by decide +kernel
theorem dX11_refuse_0 : decode cX11_refuse 0 = .ok (.aload_n 0, 1) := by decide +kernel
theorem dX11_refuse_1 : decode cX11_refuse 1 = .ok (.iload_n 1, 1) := by decide +kernel
theorem dX11_refuse_2 : decode cX11_refuse 2 = .ok (.putfield 88, 3) := by decide +kernel
theorem dX11_refuse_5 : decode cX11_refuse 5 = .ok (.iconst 0, 1) := by decide +kernel
theorem dX11_refuse_6 : decode cX11_refuse 6 = .ok (.ireturn, 1) := by decide +kernel
theorem dX11_told_0 : decode cX11_told 0 = .ok (.aload_n 0, 1) := by decide +kernel
theorem dX11_told_1 : decode cX11_told 1 = .ok (.iconst 0, 1) := by decide +kernel
theorem dX11_told_2 : decode cX11_told 2 = .ok (.putfield 88, 3) := by decide +kernel
theorem dX11_told_5 : decode cX11_told 5 = .ok (.iload_n 1, 1) := by decide +kernel
theorem dX11_told_6 : decode cX11_told 6 = .ok (.ireturn, 1) := by decide +kernel
theorem dX11_isRefused_0 : decode cX11_isRefused 0 = .ok (.aload_n 0, 1) := by decide +kernel
theorem dX11_isRefused_1 : decode cX11_isRefused 1 = .ok (.iload_n 1, 1) := by decide +kernel
theorem dX11_isRefused_2 : decode cX11_isRefused 2 = .ok (.putfield 88, 3) := by decide +kernel
theorem dX11_isRefused_5 : decode cX11_isRefused 5 = .ok (.iload_n 1, 1) := by decide +kernel
theorem dX11_isRefused_6 : decode cX11_isRefused 6 = .ok (.ifCond .le 7, 3) := by decide +kernel
theorem dX11_isRefused_9 : decode cX11_isRefused 9 = .ok (.iconst 1, 1) := by decide +kernel
theorem dX11_isRefused_10 : decode cX11_isRefused 10 = .ok (.goto 4, 3) := by decide +kernel
theorem dX11_isRefused_13 : decode cX11_isRefused 13 = .ok (.iconst 0, 1) := by decide +kernel
theorem dX11_isRefused_14 : decode cX11_isRefused 14 = .ok (.ireturn, 1) := by decide +kernel
theorem dX11_in_0 : decode cX11_in 0 = .ok (.iload_n 0, 1) := by decide +kernel
theorem dX11_in_1 : decode cX11_in 1 = .ok (.iload_n 1, 1) := by decide +kernel
theorem dX11_in_2 : decode cX11_in 2 = .ok (.if_icmp .lt 12, 3) := by decide +kernel
theorem dX11_in_5 : decode cX11_in 5 = .ok (.iload_n 0, 1) := by decide +kernel
theorem dX11_in_6 : decode cX11_in 6 = .ok (.iload_n 2, 1) := by decide +kernel
theorem dX11_in_7 : decode cX11_in 7 = .ok (.if_icmp .gt 7, 3) := by decide +kernel
theorem dX11_in_10 : decode cX11_in 10 = .ok (.iconst 1, 1) := by decide +kernel
theorem dX11_in_11 : decode cX11_in 11 = .ok (.goto 4, 3) := by decide +kernel
theorem dX11_in_14 : decode cX11_in 14 = .ok (.iconst 0, 1) := by decide +kernel
theorem dX11_in_15 : decode cX11_in 15 = .ok (.ireturn, 1) := by decide +kernel
theorem dX11_has_0 : decode cX11_has 0 = .ok (.iload_n 0, 1) := by decide +kernel
theorem dX11_has_1 : decode cX11_has 1 = .ok (.iload_n 1, 1) := by decide +kernel
theorem dX11_has_2 : decode cX11_has 2 = .ok (.ishr, 1) := by decide +kernel
theorem dX11_has_3 : decode cX11_has 3 = .ok (.iconst 1, 1) := by decide +kernel
theorem dX11_has_4 : decode cX11_has 4 = .ok (.iand, 1) := by decide +kernel
theorem dX11_has_5 : decode cX11_has 5 = .ok (.iconst 1, 1) := by decide +kernel
theorem dX11_has_6 : decode cX11_has 6 = .ok (.if_icmp .ne 7, 3) := by decide +kernel
theorem dX11_has_9 : decode cX11_has 9 = .ok (.iconst 1, 1) := by decide +kernel
theorem dX11_has_10 : decode cX11_has 10 = .ok (.goto 4, 3) := by decide +kernel
theorem dX11_has_13 : decode cX11_has 13 = .ok (.iconst 0, 1) := by decide +kernel
theorem dX11_has_14 : decode cX11_has 14 = .ok (.ireturn, 1) := by decide +kernel
theorem dX11_ofCabin_0 : decode cX11_ofCabin 0 = .ok (.aload_n 0, 1) := by decide +kernel
theorem dX11_ofCabin_1 : decode cX11_ofCabin 1 = .ok (.getfield 7, 3) := by decide +kernel
theorem dX11_ofCabin_4 : decode cX11_ofCabin 4 = .ok (.iconst 5, 1) := by decide +kernel
theorem dX11_ofCabin_5 : decode cX11_ofCabin 5 = .ok (.iconst 2, 1) := by decide +kernel
theorem dX11_ofCabin_6 : decode cX11_ofCabin 6 = .ok (.iload_n 1, 1) := by decide +kernel
theorem dX11_ofCabin_7 : decode cX11_ofCabin 7 = .ok (.imul, 1) := by decide +kernel
theorem dX11_ofCabin_8 : decode cX11_ofCabin 8 = .ok (.iadd, 1) := by decide +kernel
theorem dX11_ofCabin_9 : decode cX11_ofCabin 9 = .ok (.iload_n 2, 1) := by decide +kernel
theorem dX11_ofCabin_10 : decode cX11_ofCabin 10 = .ok (.iadd, 1) := by decide +kernel
theorem dX11_ofCabin_11 : decode cX11_ofCabin 11 = .ok (.iaload, 1) := by decide +kernel
theorem dX11_ofCabin_12 : decode cX11_ofCabin 12 = .ok (.ireturn, 1) := by decide +kernel
theorem dX11_ofMeal_0 : decode cX11_ofMeal 0 = .ok (.aload_n 0, 1) := by decide +kernel
theorem dX11_ofMeal_1 : decode cX11_ofMeal 1 = .ok (.getfield 7, 3) := by decide +kernel
theorem dX11_ofMeal_4 : decode cX11_ofMeal 4 = .ok (.bipush 13, 2) := by decide +kernel
theorem dX11_ofMeal_6 : decode cX11_ofMeal 6 = .ok (.iconst 5, 1) := by decide +kernel
theorem dX11_ofMeal_7 : decode cX11_ofMeal 7 = .ok (.iload_n 1, 1) := by decide +kernel
theorem dX11_ofMeal_8 : decode cX11_ofMeal 8 = .ok (.imul, 1) := by decide +kernel
theorem dX11_ofMeal_9 : decode cX11_ofMeal 9 = .ok (.iadd, 1) := by decide +kernel
theorem dX11_ofMeal_10 : decode cX11_ofMeal 10 = .ok (.iload_n 2, 1) := by decide +kernel
theorem dX11_ofMeal_11 : decode cX11_ofMeal 11 = .ok (.iadd, 1) := by decide +kernel
theorem dX11_ofMeal_12 : decode cX11_ofMeal 12 = .ok (.iaload, 1) := by decide +kernel
theorem dX11_ofMeal_13 : decode cX11_ofMeal 13 = .ok (.ireturn, 1) := by decide +kernel
theorem dX11_ofTrolley_0 : decode cX11_ofTrolley 0 = .ok (.aload_n 0, 1) := by decide +kernel
theorem dX11_ofTrolley_1 : decode cX11_ofTrolley 1 = .ok (.getfield 7, 3) := by decide +kernel
theorem dX11_ofTrolley_4 : decode cX11_ofTrolley 4 = .ok (.bipush 73, 2) := by decide +kernel
theorem dX11_ofTrolley_6 : decode cX11_ofTrolley 6 = .ok (.iconst 2, 1) := by decide +kernel
theorem dX11_ofTrolley_7 : decode cX11_ofTrolley 7 = .ok (.iload_n 1, 1) := by decide +kernel
theorem dX11_ofTrolley_8 : decode cX11_ofTrolley 8 = .ok (.imul, 1) := by decide +kernel
theorem dX11_ofTrolley_9 : decode cX11_ofTrolley 9 = .ok (.iadd, 1) := by decide +kernel
theorem dX11_ofTrolley_10 : decode cX11_ofTrolley 10 = .ok (.iload_n 2, 1) := by decide +kernel
theorem dX11_ofTrolley_11 : decode cX11_ofTrolley 11 = .ok (.iadd, 1) := by decide +kernel
theorem dX11_ofTrolley_12 : decode cX11_ofTrolley 12 = .ok (.iaload, 1) := by decide +kernel
theorem dX11_ofTrolley_13 : decode cX11_ofTrolley 13 = .ok (.ireturn, 1) := by decide +kernel
theorem dX11_passengerAt_0 : decode cX11_passengerAt 0 = .ok (.iconst 5, 1) := by decide +kernel
theorem dX11_passengerAt_1 : decode cX11_passengerAt 1 = .ok (.iconst 4, 1) := by decide +kernel
theorem dX11_passengerAt_2 : decode cX11_passengerAt 2 = .ok (.iload_n 0, 1) := by decide +kernel
theorem dX11_passengerAt_3 : decode cX11_passengerAt 3 = .ok (.imul, 1) := by decide +kernel
theorem dX11_passengerAt_4 : decode cX11_passengerAt 4 = .ok (.iadd, 1) := by decide +kernel
theorem dX11_passengerAt_5 : decode cX11_passengerAt 5 = .ok (.iload_n 1, 1) := by decide +kernel
theorem dX11_passengerAt_6 : decode cX11_passengerAt 6 = .ok (.iadd, 1) := by decide +kernel
theorem dX11_passengerAt_7 : decode cX11_passengerAt 7 = .ok (.ireturn, 1) := by decide +kernel
theorem dX11_of_0 : decode cX11_of 0 = .ok (.aload_n 0, 1) := by decide +kernel
theorem dX11_of_1 : decode cX11_of 1 = .ok (.getfield 26, 3) := by decide +kernel
theorem dX11_of_4 : decode cX11_of 4 = .ok (.iload_n 1, 1) := by decide +kernel
theorem dX11_of_5 : decode cX11_of 5 = .ok (.iload_n 2, 1) := by decide +kernel
theorem dX11_of_6 : decode cX11_of 6 = .ok (.invokestatic 91, 3) := by decide +kernel
theorem dX11_of_9 : decode cX11_of 9 = .ok (.iaload, 1) := by decide +kernel
theorem dX11_of_10 : decode cX11_of 10 = .ok (.ireturn, 1) := by decide +kernel
theorem dX11_unitAt_0 : decode cX11_unitAt 0 = .ok (.sipush 165, 3) := by decide +kernel
theorem dX11_unitAt_3 : decode cX11_unitAt 3 = .ok (.bipush 12, 2) := by decide +kernel
theorem dX11_unitAt_5 : decode cX11_unitAt 5 = .ok (.iload_n 0, 1) := by decide +kernel
theorem dX11_unitAt_6 : decode cX11_unitAt 6 = .ok (.imul, 1) := by decide +kernel
theorem dX11_unitAt_7 : decode cX11_unitAt 7 = .ok (.iadd, 1) := by decide +kernel
theorem dX11_unitAt_8 : decode cX11_unitAt 8 = .ok (.iload_n 1, 1) := by decide +kernel
theorem dX11_unitAt_9 : decode cX11_unitAt 9 = .ok (.iadd, 1) := by decide +kernel
theorem dX11_unitAt_10 : decode cX11_unitAt 10 = .ok (.ireturn, 1) := by decide +kernel
theorem dX11_remembers_0 : decode cX11_remembers 0 = .ok (.aload_n 0, 1) := by decide +kernel
theorem dX11_remembers_1 : decode cX11_remembers 1 = .ok (.getfield 95, 3) := by decide +kernel
theorem dX11_remembers_4 : decode cX11_remembers 4 = .ok (.bipush 12, 2) := by decide +kernel
theorem dX11_remembers_6 : decode cX11_remembers 6 = .ok (.if_icmp .ne 76, 3) := by decide +kernel
theorem dX11_remembers_9 : decode cX11_remembers 9 = .ok (.sipush 291, 3) := by decide +kernel
theorem dX11_remembers_12 : decode cX11_remembers 12 = .ok (.istore_n 1, 1) := by decide +kernel
theorem dX11_remembers_13 : decode cX11_remembers 13 = .ok (.iload_n 1, 1) := by decide +kernel
theorem dX11_remembers_14 : decode cX11_remembers 14 = .ok (.sipush 3492, 3) := by decide +kernel
theorem dX11_remembers_17 : decode cX11_remembers 17 = .ok (.if_icmp .ge 25, 3) := by decide +kernel
theorem dX11_remembers_20 : decode cX11_remembers 20 = .ok (.aload_n 0, 1) := by decide +kernel
theorem dX11_remembers_21 : decode cX11_remembers 21 = .ok (.getfield 32, 3) := by decide +kernel
theorem dX11_remembers_24 : decode cX11_remembers 24 = .ok (.iload_n 1, 1) := by decide +kernel
theorem dX11_remembers_25 : decode cX11_remembers 25 = .ok (.sipush 291, 3) := by decide +kernel
theorem dX11_remembers_28 : decode cX11_remembers 28 = .ok (.isub, 1) := by decide +kernel
theorem dX11_remembers_29 : decode cX11_remembers 29 = .ok (.aload_n 0, 1) := by decide +kernel
theorem dX11_remembers_30 : decode cX11_remembers 30 = .ok (.getfield 32, 3) := by decide +kernel
theorem dX11_remembers_33 : decode cX11_remembers 33 = .ok (.iload_n 1, 1) := by decide +kernel
theorem dX11_remembers_34 : decode cX11_remembers 34 = .ok (.iaload, 1) := by decide +kernel
theorem dX11_remembers_35 : decode cX11_remembers 35 = .ok (.iastore, 1) := by decide +kernel
theorem dX11_remembers_36 : decode cX11_remembers 36 = .ok (.iinc 1 1, 3) := by decide +kernel
theorem dX11_remembers_39 : decode cX11_remembers 39 = .ok (.goto (-26), 3) := by decide +kernel
theorem dX11_remembers_42 : decode cX11_remembers 42 = .ok (.bipush 6, 2) := by decide +kernel
theorem dX11_remembers_44 : decode cX11_remembers 44 = .ok (.istore_n 1, 1) := by decide +kernel
theorem dX11_remembers_45 : decode cX11_remembers 45 = .ok (.iload_n 1, 1) := by decide +kernel
theorem dX11_remembers_46 : decode cX11_remembers 46 = .ok (.bipush 72, 2) := by decide +kernel
theorem dX11_remembers_48 : decode cX11_remembers 48 = .ok (.if_icmp .ge 24, 3) := by decide +kernel
theorem dX11_remembers_51 : decode cX11_remembers 51 = .ok (.aload_n 0, 1) := by decide +kernel
theorem dX11_remembers_52 : decode cX11_remembers 52 = .ok (.getfield 41, 3) := by decide +kernel
theorem dX11_remembers_55 : decode cX11_remembers 55 = .ok (.iload_n 1, 1) := by decide +kernel
theorem dX11_remembers_56 : decode cX11_remembers 56 = .ok (.bipush 6, 2) := by decide +kernel
theorem dX11_remembers_58 : decode cX11_remembers 58 = .ok (.isub, 1) := by decide +kernel
theorem dX11_remembers_59 : decode cX11_remembers 59 = .ok (.aload_n 0, 1) := by decide +kernel
theorem dX11_remembers_60 : decode cX11_remembers 60 = .ok (.getfield 41, 3) := by decide +kernel
theorem dX11_remembers_63 : decode cX11_remembers 63 = .ok (.iload_n 1, 1) := by decide +kernel
theorem dX11_remembers_64 : decode cX11_remembers 64 = .ok (.laload, 1) := by decide +kernel
theorem dX11_remembers_65 : decode cX11_remembers 65 = .ok (.lastore, 1) := by decide +kernel
theorem dX11_remembers_66 : decode cX11_remembers 66 = .ok (.iinc 1 1, 3) := by decide +kernel
theorem dX11_remembers_69 : decode cX11_remembers 69 = .ok (.goto (-24), 3) := by decide +kernel
theorem dX11_remembers_72 : decode cX11_remembers 72 = .ok (.aload_n 0, 1) := by decide +kernel
theorem dX11_remembers_73 : decode cX11_remembers 73 = .ok (.aload_n 0, 1) := by decide +kernel
theorem dX11_remembers_74 : decode cX11_remembers 74 = .ok (.getfield 95, 3) := by decide +kernel
theorem dX11_remembers_77 : decode cX11_remembers 77 = .ok (.iconst 1, 1) := by decide +kernel
theorem dX11_remembers_78 : decode cX11_remembers 78 = .ok (.isub, 1) := by decide +kernel
theorem dX11_remembers_79 : decode cX11_remembers 79 = .ok (.putfield 95, 3) := by decide +kernel
theorem dX11_remembers_82 : decode cX11_remembers 82 = .ok (.iconst 0, 1) := by decide +kernel
theorem dX11_remembers_83 : decode cX11_remembers 83 = .ok (.istore_n 1, 1) := by decide +kernel
theorem dX11_remembers_84 : decode cX11_remembers 84 = .ok (.iload_n 1, 1) := by decide +kernel
theorem dX11_remembers_85 : decode cX11_remembers 85 = .ok (.sipush 291, 3) := by decide +kernel
theorem dX11_remembers_88 : decode cX11_remembers 88 = .ok (.if_icmp .ge 30, 3) := by decide +kernel
theorem dX11_remembers_91 : decode cX11_remembers 91 = .ok (.aload_n 0, 1) := by decide +kernel
theorem dX11_remembers_92 : decode cX11_remembers 92 = .ok (.getfield 32, 3) := by decide +kernel
theorem dX11_remembers_95 : decode cX11_remembers 95 = .ok (.sipush 291, 3) := by decide +kernel
theorem dX11_remembers_98 : decode cX11_remembers 98 = .ok (.aload_n 0, 1) := by decide +kernel
theorem dX11_remembers_99 : decode cX11_remembers 99 = .ok (.getfield 95, 3) := by decide +kernel
theorem dX11_remembers_102 : decode cX11_remembers 102 = .ok (.imul, 1) := by decide +kernel
theorem dX11_remembers_103 : decode cX11_remembers 103 = .ok (.iload_n 1, 1) := by decide +kernel
theorem dX11_remembers_104 : decode cX11_remembers 104 = .ok (.iadd, 1) := by decide +kernel
theorem dX11_remembers_105 : decode cX11_remembers 105 = .ok (.aload_n 0, 1) := by decide +kernel
theorem dX11_remembers_106 : decode cX11_remembers 106 = .ok (.getfield 26, 3) := by decide +kernel
theorem dX11_remembers_109 : decode cX11_remembers 109 = .ok (.iload_n 1, 1) := by decide +kernel
theorem dX11_remembers_110 : decode cX11_remembers 110 = .ok (.iaload, 1) := by decide +kernel
theorem dX11_remembers_111 : decode cX11_remembers 111 = .ok (.iastore, 1) := by decide +kernel
theorem dX11_remembers_112 : decode cX11_remembers 112 = .ok (.iinc 1 1, 3) := by decide +kernel
theorem dX11_remembers_115 : decode cX11_remembers 115 = .ok (.goto (-31), 3) := by decide +kernel
theorem dX11_remembers_118 : decode cX11_remembers 118 = .ok (.iconst 0, 1) := by decide +kernel
theorem dX11_remembers_119 : decode cX11_remembers 119 = .ok (.istore_n 1, 1) := by decide +kernel
theorem dX11_remembers_120 : decode cX11_remembers 120 = .ok (.iload_n 1, 1) := by decide +kernel
theorem dX11_remembers_121 : decode cX11_remembers 121 = .ok (.bipush 6, 2) := by decide +kernel
theorem dX11_remembers_123 : decode cX11_remembers 123 = .ok (.if_icmp .ge 29, 3) := by decide +kernel
theorem dX11_remembers_126 : decode cX11_remembers 126 = .ok (.aload_n 0, 1) := by decide +kernel
theorem dX11_remembers_127 : decode cX11_remembers 127 = .ok (.getfield 41, 3) := by decide +kernel
theorem dX11_remembers_130 : decode cX11_remembers 130 = .ok (.bipush 6, 2) := by decide +kernel
theorem dX11_remembers_132 : decode cX11_remembers 132 = .ok (.aload_n 0, 1) := by decide +kernel
theorem dX11_remembers_133 : decode cX11_remembers 133 = .ok (.getfield 95, 3) := by decide +kernel
theorem dX11_remembers_136 : decode cX11_remembers 136 = .ok (.imul, 1) := by decide +kernel
theorem dX11_remembers_137 : decode cX11_remembers 137 = .ok (.iload_n 1, 1) := by decide +kernel
theorem dX11_remembers_138 : decode cX11_remembers 138 = .ok (.iadd, 1) := by decide +kernel
theorem dX11_remembers_139 : decode cX11_remembers 139 = .ok (.aload_n 0, 1) := by decide +kernel
theorem dX11_remembers_140 : decode cX11_remembers 140 = .ok (.getfield 38, 3) := by decide +kernel
theorem dX11_remembers_143 : decode cX11_remembers 143 = .ok (.iload_n 1, 1) := by decide +kernel
theorem dX11_remembers_144 : decode cX11_remembers 144 = .ok (.laload, 1) := by decide +kernel
theorem dX11_remembers_145 : decode cX11_remembers 145 = .ok (.lastore, 1) := by decide +kernel
theorem dX11_remembers_146 : decode cX11_remembers 146 = .ok (.iinc 1 1, 3) := by decide +kernel
theorem dX11_remembers_149 : decode cX11_remembers 149 = .ok (.goto (-29), 3) := by decide +kernel
theorem dX11_remembers_152 : decode cX11_remembers 152 = .ok (.aload_n 0, 1) := by decide +kernel
theorem dX11_remembers_153 : decode cX11_remembers 153 = .ok (.aload_n 0, 1) := by decide +kernel
theorem dX11_remembers_154 : decode cX11_remembers 154 = .ok (.getfield 95, 3) := by decide +kernel
theorem dX11_remembers_157 : decode cX11_remembers 157 = .ok (.iconst 1, 1) := by decide +kernel
theorem dX11_remembers_158 : decode cX11_remembers 158 = .ok (.iadd, 1) := by decide +kernel
theorem dX11_remembers_159 : decode cX11_remembers 159 = .ok (.putfield 95, 3) := by decide +kernel
theorem dX11_remembers_162 : decode cX11_remembers 162 = .ok (.return_, 1) := by decide +kernel
theorem dX11_undo_0 : decode cX11_undo 0 = .ok (.aload_n 0, 1) := by decide +kernel
theorem dX11_undo_1 : decode cX11_undo 1 = .ok (.aload_n 0, 1) := by decide +kernel
theorem dX11_undo_2 : decode cX11_undo 2 = .ok (.getfield 95, 3) := by decide +kernel
theorem dX11_undo_5 : decode cX11_undo 5 = .ok (.ifCond .ne 7, 3) := by decide +kernel
theorem dX11_undo_8 : decode cX11_undo 8 = .ok (.iconst 1, 1) := by decide +kernel
theorem dX11_undo_9 : decode cX11_undo 9 = .ok (.goto 4, 3) := by decide +kernel
theorem dX11_undo_12 : decode cX11_undo 12 = .ok (.iconst 0, 1) := by decide +kernel
theorem dX11_undo_13 : decode cX11_undo 13 = .ok (.invokevirtual 98, 3) := by decide +kernel
theorem dX11_undo_16 : decode cX11_undo 16 = .ok (.ifCond .eq 5, 3) := by decide +kernel
theorem dX11_undo_19 : decode cX11_undo 19 = .ok (.iconst 0, 1) := by decide +kernel
theorem dX11_undo_20 : decode cX11_undo 20 = .ok (.ireturn, 1) := by decide +kernel
theorem dX11_undo_21 : decode cX11_undo 21 = .ok (.aload_n 0, 1) := by decide +kernel
theorem dX11_undo_22 : decode cX11_undo 22 = .ok (.aload_n 0, 1) := by decide +kernel
theorem dX11_undo_23 : decode cX11_undo 23 = .ok (.getfield 95, 3) := by decide +kernel
theorem dX11_undo_26 : decode cX11_undo 26 = .ok (.iconst 1, 1) := by decide +kernel
theorem dX11_undo_27 : decode cX11_undo 27 = .ok (.isub, 1) := by decide +kernel
theorem dX11_undo_28 : decode cX11_undo 28 = .ok (.putfield 95, 3) := by decide +kernel
theorem dX11_undo_31 : decode cX11_undo 31 = .ok (.iconst 0, 1) := by decide +kernel
theorem dX11_undo_32 : decode cX11_undo 32 = .ok (.istore_n 1, 1) := by decide +kernel
theorem dX11_undo_33 : decode cX11_undo 33 = .ok (.iload_n 1, 1) := by decide +kernel
theorem dX11_undo_34 : decode cX11_undo 34 = .ok (.sipush 291, 3) := by decide +kernel
theorem dX11_undo_37 : decode cX11_undo 37 = .ok (.if_icmp .ge 30, 3) := by decide +kernel
theorem dX11_undo_40 : decode cX11_undo 40 = .ok (.aload_n 0, 1) := by decide +kernel
theorem dX11_undo_41 : decode cX11_undo 41 = .ok (.getfield 26, 3) := by decide +kernel
theorem dX11_undo_44 : decode cX11_undo 44 = .ok (.iload_n 1, 1) := by decide +kernel
theorem dX11_undo_45 : decode cX11_undo 45 = .ok (.aload_n 0, 1) := by decide +kernel
theorem dX11_undo_46 : decode cX11_undo 46 = .ok (.getfield 32, 3) := by decide +kernel
theorem dX11_undo_49 : decode cX11_undo 49 = .ok (.sipush 291, 3) := by decide +kernel
theorem dX11_undo_52 : decode cX11_undo 52 = .ok (.aload_n 0, 1) := by decide +kernel
theorem dX11_undo_53 : decode cX11_undo 53 = .ok (.getfield 95, 3) := by decide +kernel
theorem dX11_undo_56 : decode cX11_undo 56 = .ok (.imul, 1) := by decide +kernel
theorem dX11_undo_57 : decode cX11_undo 57 = .ok (.iload_n 1, 1) := by decide +kernel
theorem dX11_undo_58 : decode cX11_undo 58 = .ok (.iadd, 1) := by decide +kernel
theorem dX11_undo_59 : decode cX11_undo 59 = .ok (.iaload, 1) := by decide +kernel
theorem dX11_undo_60 : decode cX11_undo 60 = .ok (.iastore, 1) := by decide +kernel
theorem dX11_undo_61 : decode cX11_undo 61 = .ok (.iinc 1 1, 3) := by decide +kernel
theorem dX11_undo_64 : decode cX11_undo 64 = .ok (.goto (-31), 3) := by decide +kernel
theorem dX11_undo_67 : decode cX11_undo 67 = .ok (.iconst 0, 1) := by decide +kernel
theorem dX11_undo_68 : decode cX11_undo 68 = .ok (.istore_n 1, 1) := by decide +kernel
theorem dX11_undo_69 : decode cX11_undo 69 = .ok (.iload_n 1, 1) := by decide +kernel
theorem dX11_undo_70 : decode cX11_undo 70 = .ok (.bipush 6, 2) := by decide +kernel
theorem dX11_undo_72 : decode cX11_undo 72 = .ok (.if_icmp .ge 29, 3) := by decide +kernel
theorem dX11_undo_75 : decode cX11_undo 75 = .ok (.aload_n 0, 1) := by decide +kernel
theorem dX11_undo_76 : decode cX11_undo 76 = .ok (.getfield 38, 3) := by decide +kernel
theorem dX11_undo_79 : decode cX11_undo 79 = .ok (.iload_n 1, 1) := by decide +kernel
theorem dX11_undo_80 : decode cX11_undo 80 = .ok (.aload_n 0, 1) := by decide +kernel
theorem dX11_undo_81 : decode cX11_undo 81 = .ok (.getfield 41, 3) := by decide +kernel
theorem dX11_undo_84 : decode cX11_undo 84 = .ok (.bipush 6, 2) := by decide +kernel
theorem dX11_undo_86 : decode cX11_undo 86 = .ok (.aload_n 0, 1) := by decide +kernel
theorem dX11_undo_87 : decode cX11_undo 87 = .ok (.getfield 95, 3) := by decide +kernel
theorem dX11_undo_90 : decode cX11_undo 90 = .ok (.imul, 1) := by decide +kernel
theorem dX11_undo_91 : decode cX11_undo 91 = .ok (.iload_n 1, 1) := by decide +kernel
theorem dX11_undo_92 : decode cX11_undo 92 = .ok (.iadd, 1) := by decide +kernel
theorem dX11_undo_93 : decode cX11_undo 93 = .ok (.laload, 1) := by decide +kernel
theorem dX11_undo_94 : decode cX11_undo 94 = .ok (.lastore, 1) := by decide +kernel
theorem dX11_undo_95 : decode cX11_undo 95 = .ok (.iinc 1 1, 3) := by decide +kernel
theorem dX11_undo_98 : decode cX11_undo 98 = .ok (.goto (-29), 3) := by decide +kernel
theorem dX11_undo_101 : decode cX11_undo 101 = .ok (.aload_n 0, 1) := by decide +kernel
theorem dX11_undo_102 : decode cX11_undo 102 = .ok (.getfield 95, 3) := by decide +kernel
theorem dX11_undo_105 : decode cX11_undo 105 = .ok (.ireturn, 1) := by decide +kernel
theorem dX11_phase_0 : decode cX11_phase 0 = .ok (.aload_n 0, 1) := by decide +kernel
theorem dX11_phase_1 : decode cX11_phase 1 = .ok (.getfield 26, 3) := by decide +kernel
theorem dX11_phase_4 : decode cX11_phase 4 = .ok (.iconst 0, 1) := by decide +kernel
theorem dX11_phase_5 : decode cX11_phase 5 = .ok (.iaload, 1) := by decide +kernel
theorem dX11_phase_6 : decode cX11_phase 6 = .ok (.ifCond .ne 5, 3) := by decide +kernel
theorem dX11_phase_9 : decode cX11_phase 9 = .ok (.iconst 0, 1) := by decide +kernel
theorem dX11_phase_10 : decode cX11_phase 10 = .ok (.ireturn, 1) := by decide +kernel
theorem dX11_phase_11 : decode cX11_phase 11 = .ok (.aload_n 0, 1) := by decide +kernel
theorem dX11_phase_12 : decode cX11_phase 12 = .ok (.getfield 26, 3) := by decide +kernel
theorem dX11_phase_15 : decode cX11_phase 15 = .ok (.iconst 1, 1) := by decide +kernel
theorem dX11_phase_16 : decode cX11_phase 16 = .ok (.iaload, 1) := by decide +kernel
theorem dX11_phase_17 : decode cX11_phase 17 = .ok (.iconst 1, 1) := by decide +kernel
theorem dX11_phase_18 : decode cX11_phase 18 = .ok (.if_icmp .ne 7, 3) := by decide +kernel
theorem dX11_phase_21 : decode cX11_phase 21 = .ok (.iconst 3, 1) := by decide +kernel
theorem dX11_phase_22 : decode cX11_phase 22 = .ok (.goto 23, 3) := by decide +kernel
theorem dX11_phase_25 : decode cX11_phase 25 = .ok (.aload_n 0, 1) := by decide +kernel
theorem dX11_phase_26 : decode cX11_phase 26 = .ok (.getfield 26, 3) := by decide +kernel
theorem dX11_phase_29 : decode cX11_phase 29 = .ok (.iconst 2, 1) := by decide +kernel
theorem dX11_phase_30 : decode cX11_phase 30 = .ok (.iaload, 1) := by decide +kernel
theorem dX11_phase_31 : decode cX11_phase 31 = .ok (.aload_n 0, 1) := by decide +kernel
theorem dX11_phase_32 : decode cX11_phase 32 = .ok (.getfield 7, 3) := by decide +kernel
theorem dX11_phase_35 : decode cX11_phase 35 = .ok (.iconst 3, 1) := by decide +kernel
theorem dX11_phase_36 : decode cX11_phase 36 = .ok (.iaload, 1) := by decide +kernel
theorem dX11_phase_37 : decode cX11_phase 37 = .ok (.if_icmp .le 7, 3) := by decide +kernel
theorem dX11_phase_40 : decode cX11_phase 40 = .ok (.iconst 1, 1) := by decide +kernel
theorem dX11_phase_41 : decode cX11_phase 41 = .ok (.goto 4, 3) := by decide +kernel
theorem dX11_phase_44 : decode cX11_phase 44 = .ok (.iconst 2, 1) := by decide +kernel
theorem dX11_phase_45 : decode cX11_phase 45 = .ok (.ireturn, 1) := by decide +kernel
theorem dX11_keep_0 : decode cX11_keep 0 = .ok (.aload_n 0, 1) := by decide +kernel
theorem dX11_keep_1 : decode cX11_keep 1 = .ok (.iload_n 1, 1) := by decide +kernel
theorem dX11_keep_2 : decode cX11_keep 2 = .ok (.iconst 0, 1) := by decide +kernel
theorem dX11_keep_3 : decode cX11_keep 3 = .ok (.iconst 1, 1) := by decide +kernel
theorem dX11_keep_4 : decode cX11_keep 4 = .ok (.invokestatic 102, 3) := by decide +kernel
theorem dX11_keep_7 : decode cX11_keep 7 = .ok (.ifCond .eq 7, 3) := by decide +kernel
theorem dX11_keep_10 : decode cX11_keep 10 = .ok (.iconst 0, 1) := by decide +kernel
theorem dX11_keep_11 : decode cX11_keep 11 = .ok (.goto 4, 3) := by decide +kernel
theorem dX11_keep_14 : decode cX11_keep 14 = .ok (.iconst 1, 1) := by decide +kernel
theorem dX11_keep_15 : decode cX11_keep 15 = .ok (.invokevirtual 98, 3) := by decide +kernel
theorem dX11_keep_18 : decode cX11_keep 18 = .ok (.ifCond .eq 5, 3) := by decide +kernel
theorem dX11_keep_21 : decode cX11_keep 21 = .ok (.iconst 0, 1) := by decide +kernel
theorem dX11_keep_22 : decode cX11_keep 22 = .ok (.ireturn, 1) := by decide +kernel
theorem dX11_keep_23 : decode cX11_keep 23 = .ok (.iconst 0, 1) := by decide +kernel
theorem dX11_keep_24 : decode cX11_keep 24 = .ok (.istore_n 2, 1) := by decide +kernel
theorem dX11_keep_25 : decode cX11_keep 25 = .ok (.iload_n 2, 1) := by decide +kernel
theorem dX11_keep_26 : decode cX11_keep 26 = .ok (.sipush 291, 3) := by decide +kernel
theorem dX11_keep_29 : decode cX11_keep 29 = .ok (.if_icmp .ge 27, 3) := by decide +kernel
theorem dX11_keep_32 : decode cX11_keep 32 = .ok (.aload_n 0, 1) := by decide +kernel
theorem dX11_keep_33 : decode cX11_keep 33 = .ok (.getfield 35, 3) := by decide +kernel
theorem dX11_keep_36 : decode cX11_keep 36 = .ok (.sipush 291, 3) := by decide +kernel
theorem dX11_keep_39 : decode cX11_keep 39 = .ok (.iload_n 1, 1) := by decide +kernel
theorem dX11_keep_40 : decode cX11_keep 40 = .ok (.imul, 1) := by decide +kernel
theorem dX11_keep_41 : decode cX11_keep 41 = .ok (.iload_n 2, 1) := by decide +kernel
theorem dX11_keep_42 : decode cX11_keep 42 = .ok (.iadd, 1) := by decide +kernel
theorem dX11_keep_43 : decode cX11_keep 43 = .ok (.aload_n 0, 1) := by decide +kernel
theorem dX11_keep_44 : decode cX11_keep 44 = .ok (.getfield 26, 3) := by decide +kernel
theorem dX11_keep_47 : decode cX11_keep 47 = .ok (.iload_n 2, 1) := by decide +kernel
theorem dX11_keep_48 : decode cX11_keep 48 = .ok (.iaload, 1) := by decide +kernel
theorem dX11_keep_49 : decode cX11_keep 49 = .ok (.iastore, 1) := by decide +kernel
theorem dX11_keep_50 : decode cX11_keep 50 = .ok (.iinc 2 1, 3) := by decide +kernel
theorem dX11_keep_53 : decode cX11_keep 53 = .ok (.goto (-28), 3) := by decide +kernel
theorem dX11_keep_56 : decode cX11_keep 56 = .ok (.iconst 0, 1) := by decide +kernel
theorem dX11_keep_57 : decode cX11_keep 57 = .ok (.istore_n 2, 1) := by decide +kernel
theorem dX11_keep_58 : decode cX11_keep 58 = .ok (.iload_n 2, 1) := by decide +kernel
theorem dX11_keep_59 : decode cX11_keep 59 = .ok (.bipush 6, 2) := by decide +kernel
theorem dX11_keep_61 : decode cX11_keep 61 = .ok (.if_icmp .ge 26, 3) := by decide +kernel
theorem dX11_keep_64 : decode cX11_keep 64 = .ok (.aload_n 0, 1) := by decide +kernel
theorem dX11_keep_65 : decode cX11_keep 65 = .ok (.getfield 44, 3) := by decide +kernel
theorem dX11_keep_68 : decode cX11_keep 68 = .ok (.bipush 6, 2) := by decide +kernel
theorem dX11_keep_70 : decode cX11_keep 70 = .ok (.iload_n 1, 1) := by decide +kernel
theorem dX11_keep_71 : decode cX11_keep 71 = .ok (.imul, 1) := by decide +kernel
theorem dX11_keep_72 : decode cX11_keep 72 = .ok (.iload_n 2, 1) := by decide +kernel
theorem dX11_keep_73 : decode cX11_keep 73 = .ok (.iadd, 1) := by decide +kernel
theorem dX11_keep_74 : decode cX11_keep 74 = .ok (.aload_n 0, 1) := by decide +kernel
theorem dX11_keep_75 : decode cX11_keep 75 = .ok (.getfield 38, 3) := by decide +kernel
theorem dX11_keep_78 : decode cX11_keep 78 = .ok (.iload_n 2, 1) := by decide +kernel
theorem dX11_keep_79 : decode cX11_keep 79 = .ok (.laload, 1) := by decide +kernel
theorem dX11_keep_80 : decode cX11_keep 80 = .ok (.lastore, 1) := by decide +kernel
theorem dX11_keep_81 : decode cX11_keep 81 = .ok (.iinc 2 1, 3) := by decide +kernel
theorem dX11_keep_84 : decode cX11_keep 84 = .ok (.goto (-26), 3) := by decide +kernel
theorem dX11_keep_87 : decode cX11_keep 87 = .ok (.aload_n 0, 1) := by decide +kernel
theorem dX11_keep_88 : decode cX11_keep 88 = .ok (.getfield 47, 3) := by decide +kernel
theorem dX11_keep_91 : decode cX11_keep 91 = .ok (.iload_n 1, 1) := by decide +kernel
theorem dX11_keep_92 : decode cX11_keep 92 = .ok (.iconst 1, 1) := by decide +kernel
theorem dX11_keep_93 : decode cX11_keep 93 = .ok (.bastore, 1) := by decide +kernel
theorem dX11_keep_94 : decode cX11_keep 94 = .ok (.aload_n 0, 1) := by decide +kernel
theorem dX11_keep_95 : decode cX11_keep 95 = .ok (.invokevirtual 106, 3) := by decide +kernel
theorem dX11_keep_98 : decode cX11_keep 98 = .ok (.ireturn, 1) := by decide +kernel
theorem dX11_restore_0 : decode cX11_restore 0 = .ok (.aload_n 0, 1) := by decide +kernel
theorem dX11_restore_1 : decode cX11_restore 1 = .ok (.iload_n 1, 1) := by decide +kernel
theorem dX11_restore_2 : decode cX11_restore 2 = .ok (.iconst 0, 1) := by decide +kernel
theorem dX11_restore_3 : decode cX11_restore 3 = .ok (.iconst 1, 1) := by decide +kernel
theorem dX11_restore_4 : decode cX11_restore 4 = .ok (.invokestatic 102, 3) := by decide +kernel
theorem dX11_restore_7 : decode cX11_restore 7 = .ok (.ifCond .ne 7, 3) := by decide +kernel
theorem dX11_restore_10 : decode cX11_restore 10 = .ok (.iconst 1, 1) := by decide +kernel
theorem dX11_restore_11 : decode cX11_restore 11 = .ok (.goto 17, 3) := by decide +kernel
theorem dX11_restore_14 : decode cX11_restore 14 = .ok (.aload_n 0, 1) := by decide +kernel
theorem dX11_restore_15 : decode cX11_restore 15 = .ok (.getfield 47, 3) := by decide +kernel
theorem dX11_restore_18 : decode cX11_restore 18 = .ok (.iload_n 1, 1) := by decide +kernel
theorem dX11_restore_19 : decode cX11_restore 19 = .ok (.baload, 1) := by decide +kernel
theorem dX11_restore_20 : decode cX11_restore 20 = .ok (.ifCond .eq 7, 3) := by decide +kernel
theorem dX11_restore_23 : decode cX11_restore 23 = .ok (.iconst 0, 1) := by decide +kernel
theorem dX11_restore_24 : decode cX11_restore 24 = .ok (.goto 4, 3) := by decide +kernel
theorem dX11_restore_27 : decode cX11_restore 27 = .ok (.iconst 2, 1) := by decide +kernel
theorem dX11_restore_28 : decode cX11_restore 28 = .ok (.invokevirtual 98, 3) := by decide +kernel
theorem dX11_restore_31 : decode cX11_restore 31 = .ok (.ifCond .eq 5, 3) := by decide +kernel
theorem dX11_restore_34 : decode cX11_restore 34 = .ok (.iconst 0, 1) := by decide +kernel
theorem dX11_restore_35 : decode cX11_restore 35 = .ok (.ireturn, 1) := by decide +kernel
theorem dX11_restore_36 : decode cX11_restore 36 = .ok (.iconst 0, 1) := by decide +kernel
theorem dX11_restore_37 : decode cX11_restore 37 = .ok (.istore_n 2, 1) := by decide +kernel
theorem dX11_restore_38 : decode cX11_restore 38 = .ok (.iload_n 2, 1) := by decide +kernel
theorem dX11_restore_39 : decode cX11_restore 39 = .ok (.sipush 291, 3) := by decide +kernel
theorem dX11_restore_42 : decode cX11_restore 42 = .ok (.if_icmp .ge 27, 3) := by decide +kernel
theorem dX11_restore_45 : decode cX11_restore 45 = .ok (.aload_n 0, 1) := by decide +kernel
theorem dX11_restore_46 : decode cX11_restore 46 = .ok (.getfield 26, 3) := by decide +kernel
theorem dX11_restore_49 : decode cX11_restore 49 = .ok (.iload_n 2, 1) := by decide +kernel
theorem dX11_restore_50 : decode cX11_restore 50 = .ok (.aload_n 0, 1) := by decide +kernel
theorem dX11_restore_51 : decode cX11_restore 51 = .ok (.getfield 35, 3) := by decide +kernel
theorem dX11_restore_54 : decode cX11_restore 54 = .ok (.sipush 291, 3) := by decide +kernel
theorem dX11_restore_57 : decode cX11_restore 57 = .ok (.iload_n 1, 1) := by decide +kernel
theorem dX11_restore_58 : decode cX11_restore 58 = .ok (.imul, 1) := by decide +kernel
theorem dX11_restore_59 : decode cX11_restore 59 = .ok (.iload_n 2, 1) := by decide +kernel
theorem dX11_restore_60 : decode cX11_restore 60 = .ok (.iadd, 1) := by decide +kernel
theorem dX11_restore_61 : decode cX11_restore 61 = .ok (.iaload, 1) := by decide +kernel
theorem dX11_restore_62 : decode cX11_restore 62 = .ok (.iastore, 1) := by decide +kernel
theorem dX11_restore_63 : decode cX11_restore 63 = .ok (.iinc 2 1, 3) := by decide +kernel
theorem dX11_restore_66 : decode cX11_restore 66 = .ok (.goto (-28), 3) := by decide +kernel
theorem dX11_restore_69 : decode cX11_restore 69 = .ok (.iconst 0, 1) := by decide +kernel
theorem dX11_restore_70 : decode cX11_restore 70 = .ok (.istore_n 2, 1) := by decide +kernel
theorem dX11_restore_71 : decode cX11_restore 71 = .ok (.iload_n 2, 1) := by decide +kernel
theorem dX11_restore_72 : decode cX11_restore 72 = .ok (.bipush 6, 2) := by decide +kernel
theorem dX11_restore_74 : decode cX11_restore 74 = .ok (.if_icmp .ge 26, 3) := by decide +kernel
theorem dX11_restore_77 : decode cX11_restore 77 = .ok (.aload_n 0, 1) := by decide +kernel
theorem dX11_restore_78 : decode cX11_restore 78 = .ok (.getfield 38, 3) := by decide +kernel
theorem dX11_restore_81 : decode cX11_restore 81 = .ok (.iload_n 2, 1) := by decide +kernel
theorem dX11_restore_82 : decode cX11_restore 82 = .ok (.aload_n 0, 1) := by decide +kernel
theorem dX11_restore_83 : decode cX11_restore 83 = .ok (.getfield 44, 3) := by decide +kernel
theorem dX11_restore_86 : decode cX11_restore 86 = .ok (.bipush 6, 2) := by decide +kernel
theorem dX11_restore_88 : decode cX11_restore 88 = .ok (.iload_n 1, 1) := by decide +kernel
theorem dX11_restore_89 : decode cX11_restore 89 = .ok (.imul, 1) := by decide +kernel
theorem dX11_restore_90 : decode cX11_restore 90 = .ok (.iload_n 2, 1) := by decide +kernel
theorem dX11_restore_91 : decode cX11_restore 91 = .ok (.iadd, 1) := by decide +kernel
theorem dX11_restore_92 : decode cX11_restore 92 = .ok (.laload, 1) := by decide +kernel
theorem dX11_restore_93 : decode cX11_restore 93 = .ok (.lastore, 1) := by decide +kernel
theorem dX11_restore_94 : decode cX11_restore 94 = .ok (.iinc 2 1, 3) := by decide +kernel
theorem dX11_restore_97 : decode cX11_restore 97 = .ok (.goto (-26), 3) := by decide +kernel
theorem dX11_restore_100 : decode cX11_restore 100 = .ok (.aload_n 0, 1) := by decide +kernel
theorem dX11_restore_101 : decode cX11_restore 101 = .ok (.iconst 0, 1) := by decide +kernel
theorem dX11_restore_102 : decode cX11_restore 102 = .ok (.putfield 95, 3) := by decide +kernel
theorem dX11_restore_105 : decode cX11_restore 105 = .ok (.aload_n 0, 1) := by decide +kernel
theorem dX11_restore_106 : decode cX11_restore 106 = .ok (.invokevirtual 106, 3) := by decide +kernel
theorem dX11_restore_109 : decode cX11_restore 109 = .ok (.ireturn, 1) := by decide +kernel
theorem dX11_feed_0 : decode cX11_feed 0 = .ok (.aload_n 0, 1) := by decide +kernel
theorem dX11_feed_1 : decode cX11_feed 1 = .ok (.iconst 0, 1) := by decide +kernel
theorem dX11_feed_2 : decode cX11_feed 2 = .ok (.putfield 88, 3) := by decide +kernel
theorem dX11_feed_5 : decode cX11_feed 5 = .ok (.aload_n 0, 1) := by decide +kernel
theorem dX11_feed_6 : decode cX11_feed 6 = .ok (.getfield 110, 3) := by decide +kernel
theorem dX11_feed_9 : decode cX11_feed 9 = .ok (.bipush 20, 2) := by decide +kernel
theorem dX11_feed_11 : decode cX11_feed 11 = .ok (.iadd, 1) := by decide +kernel
theorem dX11_feed_12 : decode cX11_feed 12 = .ok (.sipush 900, 3) := by decide +kernel
theorem dX11_feed_15 : decode cX11_feed 15 = .ok (.if_icmp .le 9, 3) := by decide +kernel
theorem dX11_feed_18 : decode cX11_feed 18 = .ok (.aload_n 0, 1) := by decide +kernel
theorem dX11_feed_19 : decode cX11_feed 19 = .ok (.iconst 1, 1) := by decide +kernel
theorem dX11_feed_20 : decode cX11_feed 20 = .ok (.invokevirtual 113, 3) := by decide +kernel
theorem dX11_feed_23 : decode cX11_feed 23 = .ok (.ireturn, 1) := by decide +kernel
theorem dX11_feed_24 : decode cX11_feed 24 = .ok (.aload_n 0, 1) := by decide +kernel
theorem dX11_feed_25 : decode cX11_feed 25 = .ok (.iload_n 1, 1) := by decide +kernel
theorem dX11_feed_26 : decode cX11_feed 26 = .ok (.invokevirtual 117, 3) := by decide +kernel
theorem dX11_feed_29 : decode cX11_feed 29 = .ok (.aload_n 0, 1) := by decide +kernel
theorem dX11_feed_30 : decode cX11_feed 30 = .ok (.iload_n 2, 1) := by decide +kernel
theorem dX11_feed_31 : decode cX11_feed 31 = .ok (.invokevirtual 117, 3) := by decide +kernel
theorem dX11_feed_34 : decode cX11_feed 34 = .ok (.aload_n 0, 1) := by decide +kernel
theorem dX11_feed_35 : decode cX11_feed 35 = .ok (.iload_n 3, 1) := by decide +kernel
theorem dX11_feed_36 : decode cX11_feed 36 = .ok (.invokevirtual 117, 3) := by decide +kernel
theorem dX11_feed_39 : decode cX11_feed 39 = .ok (.aload_n 0, 1) := by decide +kernel
theorem dX11_feed_40 : decode cX11_feed 40 = .ok (.iload 4, 2) := by decide +kernel
theorem dX11_feed_42 : decode cX11_feed 42 = .ok (.invokevirtual 117, 3) := by decide +kernel
theorem dX11_feed_45 : decode cX11_feed 45 = .ok (.aload_n 0, 1) := by decide +kernel
theorem dX11_feed_46 : decode cX11_feed 46 = .ok (.iload 5, 2) := by decide +kernel
theorem dX11_feed_48 : decode cX11_feed 48 = .ok (.invokevirtual 117, 3) := by decide +kernel
theorem dX11_feed_51 : decode cX11_feed 51 = .ok (.aload_n 0, 1) := by decide +kernel
theorem dX11_feed_52 : decode cX11_feed 52 = .ok (.getfield 110, 3) := by decide +kernel
theorem dX11_feed_55 : decode cX11_feed 55 = .ok (.ireturn, 1) := by decide +kernel
theorem dX11_lays_0 : decode cX11_lays 0 = .ok (.bipush 24, 2) := by decide +kernel
theorem dX11_lays_2 : decode cX11_lays 2 = .ok (.istore_n 2, 1) := by decide +kernel
theorem dX11_lays_3 : decode cX11_lays 3 = .ok (.iload_n 2, 1) := by decide +kernel
theorem dX11_lays_4 : decode cX11_lays 4 = .ok (.ifCond .lt 37, 3) := by decide +kernel
theorem dX11_lays_7 : decode cX11_lays 7 = .ok (.aload_n 0, 1) := by decide +kernel
theorem dX11_lays_8 : decode cX11_lays 8 = .ok (.getfield 51, 3) := by decide +kernel
theorem dX11_lays_11 : decode cX11_lays 11 = .ok (.aload_n 0, 1) := by decide +kernel
theorem dX11_lays_12 : decode cX11_lays 12 = .ok (.getfield 110, 3) := by decide +kernel
theorem dX11_lays_15 : decode cX11_lays 15 = .ok (.iload_n 1, 1) := by decide +kernel
theorem dX11_lays_16 : decode cX11_lays 16 = .ok (.iload_n 2, 1) := by decide +kernel
theorem dX11_lays_17 : decode cX11_lays 17 = .ok (.ishr, 1) := by decide +kernel
theorem dX11_lays_18 : decode cX11_lays 18 = .ok (.sipush 255, 3) := by decide +kernel
theorem dX11_lays_21 : decode cX11_lays 21 = .ok (.iand, 1) := by decide +kernel
theorem dX11_lays_22 : decode cX11_lays 22 = .ok (.iastore, 1) := by decide +kernel
theorem dX11_lays_23 : decode cX11_lays 23 = .ok (.aload_n 0, 1) := by decide +kernel
theorem dX11_lays_24 : decode cX11_lays 24 = .ok (.aload_n 0, 1) := by decide +kernel
theorem dX11_lays_25 : decode cX11_lays 25 = .ok (.getfield 110, 3) := by decide +kernel
theorem dX11_lays_28 : decode cX11_lays 28 = .ok (.iconst 1, 1) := by decide +kernel
theorem dX11_lays_29 : decode cX11_lays 29 = .ok (.iadd, 1) := by decide +kernel
theorem dX11_lays_30 : decode cX11_lays 30 = .ok (.putfield 110, 3) := by decide +kernel
theorem dX11_lays_33 : decode cX11_lays 33 = .ok (.iload_n 2, 1) := by decide +kernel
theorem dX11_lays_34 : decode cX11_lays 34 = .ok (.bipush 8, 2) := by decide +kernel
theorem dX11_lays_36 : decode cX11_lays 36 = .ok (.isub, 1) := by decide +kernel
theorem dX11_lays_37 : decode cX11_lays 37 = .ok (.istore_n 2, 1) := by decide +kernel
theorem dX11_lays_38 : decode cX11_lays 38 = .ok (.goto (-35), 3) := by decide +kernel
theorem dX11_lays_41 : decode cX11_lays 41 = .ok (.return_, 1) := by decide +kernel
theorem dX11_errorCode_0 : decode cX11_errorCode 0 = .ok (.aload_n 0, 1) := by decide +kernel
theorem dX11_errorCode_1 : decode cX11_errorCode 1 = .ok (.aload_n 0, 1) := by decide +kernel
theorem dX11_errorCode_2 : decode cX11_errorCode 2 = .ok (.getfield 121, 3) := by decide +kernel
theorem dX11_errorCode_5 : decode cX11_errorCode 5 = .ok (.invokevirtual 124, 3) := by decide +kernel
theorem dX11_errorCode_8 : decode cX11_errorCode 8 = .ok (.ireturn, 1) := by decide +kernel
theorem dX11_errorPosition_0 : decode cX11_errorPosition 0 = .ok (.aload_n 0, 1) := by decide +kernel
theorem dX11_errorPosition_1 : decode cX11_errorPosition 1 = .ok (.aload_n 0, 1) := by decide +kernel
theorem dX11_errorPosition_2 : decode cX11_errorPosition 2 = .ok (.getfield 54, 3) := by decide +kernel
theorem dX11_errorPosition_5 : decode cX11_errorPosition 5 = .ok (.invokevirtual 124, 3) := by decide +kernel
theorem dX11_errorPosition_8 : decode cX11_errorPosition 8 = .ok (.ireturn, 1) := by decide +kernel
theorem dX11_byteAt_0 : decode cX11_byteAt 0 = .ok (.iload_n 1, 1) := by decide +kernel
theorem dX11_byteAt_1 : decode cX11_byteAt 1 = .ok (.aload_n 0, 1) := by decide +kernel
theorem dX11_byteAt_2 : decode cX11_byteAt 2 = .ok (.getfield 127, 3) := by decide +kernel
theorem dX11_byteAt_5 : decode cX11_byteAt 5 = .ok (.if_icmp .ge 12, 3) := by decide +kernel
theorem dX11_byteAt_8 : decode cX11_byteAt 8 = .ok (.aload_n 0, 1) := by decide +kernel
theorem dX11_byteAt_9 : decode cX11_byteAt 9 = .ok (.getfield 51, 3) := by decide +kernel
theorem dX11_byteAt_12 : decode cX11_byteAt 12 = .ok (.iload_n 1, 1) := by decide +kernel
theorem dX11_byteAt_13 : decode cX11_byteAt 13 = .ok (.iaload, 1) := by decide +kernel
theorem dX11_byteAt_14 : decode cX11_byteAt 14 = .ok (.goto 4, 3) := by decide +kernel
theorem dX11_byteAt_17 : decode cX11_byteAt 17 = .ok (.iconst (-1), 1) := by decide +kernel
theorem dX11_byteAt_18 : decode cX11_byteAt 18 = .ok (.ireturn, 1) := by decide +kernel
theorem dX11_isLetter_0 : decode cX11_isLetter 0 = .ok (.iload_n 0, 1) := by decide +kernel
theorem dX11_isLetter_1 : decode cX11_isLetter 1 = .ok (.bipush 97, 2) := by decide +kernel
theorem dX11_isLetter_3 : decode cX11_isLetter 3 = .ok (.bipush 122, 2) := by decide +kernel
theorem dX11_isLetter_5 : decode cX11_isLetter 5 = .ok (.invokestatic 102, 3) := by decide +kernel
theorem dX11_isLetter_8 : decode cX11_isLetter 8 = .ok (.ireturn, 1) := by decide +kernel
theorem dX11_isDigit_0 : decode cX11_isDigit 0 = .ok (.iload_n 0, 1) := by decide +kernel
theorem dX11_isDigit_1 : decode cX11_isDigit 1 = .ok (.bipush 48, 2) := by decide +kernel
theorem dX11_isDigit_3 : decode cX11_isDigit 3 = .ok (.bipush 57, 2) := by decide +kernel
theorem dX11_isDigit_5 : decode cX11_isDigit 5 = .ok (.invokestatic 102, 3) := by decide +kernel
theorem dX11_isDigit_8 : decode cX11_isDigit 8 = .ok (.ireturn, 1) := by decide +kernel
theorem dX11_peek_0 : decode cX11_peek 0 = .ok (.aload_n 0, 1) := by decide +kernel
theorem dX11_peek_1 : decode cX11_peek 1 = .ok (.aload_n 0, 1) := by decide +kernel
theorem dX11_peek_2 : decode cX11_peek 2 = .ok (.getfield 130, 3) := by decide +kernel
theorem dX11_peek_5 : decode cX11_peek 5 = .ok (.invokevirtual 133, 3) := by decide +kernel
theorem dX11_peek_8 : decode cX11_peek 8 = .ok (.bipush 32, 2) := by decide +kernel
theorem dX11_peek_10 : decode cX11_peek 10 = .ok (.if_icmp .eq 16, 3) := by decide +kernel
theorem dX11_peek_13 : decode cX11_peek 13 = .ok (.aload_n 0, 1) := by decide +kernel
theorem dX11_peek_14 : decode cX11_peek 14 = .ok (.aload_n 0, 1) := by decide +kernel
theorem dX11_peek_15 : decode cX11_peek 15 = .ok (.getfield 130, 3) := by decide +kernel
theorem dX11_peek_18 : decode cX11_peek 18 = .ok (.invokevirtual 133, 3) := by decide +kernel
theorem dX11_peek_21 : decode cX11_peek 21 = .ok (.bipush 10, 2) := by decide +kernel
theorem dX11_peek_23 : decode cX11_peek 23 = .ok (.if_icmp .ne 16, 3) := by decide +kernel
theorem dX11_peek_26 : decode cX11_peek 26 = .ok (.aload_n 0, 1) := by decide +kernel
theorem dX11_peek_27 : decode cX11_peek 27 = .ok (.aload_n 0, 1) := by decide +kernel
theorem dX11_peek_28 : decode cX11_peek 28 = .ok (.getfield 130, 3) := by decide +kernel
theorem dX11_peek_31 : decode cX11_peek 31 = .ok (.iconst 1, 1) := by decide +kernel
theorem dX11_peek_32 : decode cX11_peek 32 = .ok (.iadd, 1) := by decide +kernel
theorem dX11_peek_33 : decode cX11_peek 33 = .ok (.putfield 130, 3) := by decide +kernel
theorem dX11_peek_36 : decode cX11_peek 36 = .ok (.goto (-36), 3) := by decide +kernel
theorem dX11_peek_39 : decode cX11_peek 39 = .ok (.aload_n 0, 1) := by decide +kernel
theorem dX11_peek_40 : decode cX11_peek 40 = .ok (.aload_n 0, 1) := by decide +kernel
theorem dX11_peek_41 : decode cX11_peek 41 = .ok (.getfield 130, 3) := by decide +kernel
theorem dX11_peek_44 : decode cX11_peek 44 = .ok (.putfield 136, 3) := by decide +kernel
theorem dX11_peek_47 : decode cX11_peek 47 = .ok (.aload_n 0, 1) := by decide +kernel
theorem dX11_peek_48 : decode cX11_peek 48 = .ok (.aload_n 0, 1) := by decide +kernel
theorem dX11_peek_49 : decode cX11_peek 49 = .ok (.getfield 130, 3) := by decide +kernel
theorem dX11_peek_52 : decode cX11_peek 52 = .ok (.invokevirtual 133, 3) := by decide +kernel
theorem dX11_peek_55 : decode cX11_peek 55 = .ok (.istore_n 1, 1) := by decide +kernel
theorem dX11_peek_56 : decode cX11_peek 56 = .ok (.aload_n 0, 1) := by decide +kernel
theorem dX11_peek_57 : decode cX11_peek 57 = .ok (.aload_n 0, 1) := by decide +kernel
theorem dX11_peek_58 : decode cX11_peek 58 = .ok (.getfield 130, 3) := by decide +kernel
theorem dX11_peek_61 : decode cX11_peek 61 = .ok (.iconst 1, 1) := by decide +kernel
theorem dX11_peek_62 : decode cX11_peek 62 = .ok (.iadd, 1) := by decide +kernel
theorem dX11_peek_63 : decode cX11_peek 63 = .ok (.putfield 139, 3) := by decide +kernel
theorem dX11_peek_66 : decode cX11_peek 66 = .ok (.iload_n 1, 1) := by decide +kernel
theorem dX11_peek_67 : decode cX11_peek 67 = .ok (.invokestatic 142, 3) := by decide +kernel
theorem dX11_peek_70 : decode cX11_peek 70 = .ok (.ifCond .eq 17, 3) := by decide +kernel
theorem dX11_peek_73 : decode cX11_peek 73 = .ok (.aload_n 0, 1) := by decide +kernel
theorem dX11_peek_74 : decode cX11_peek 74 = .ok (.aload_n 0, 1) := by decide +kernel
theorem dX11_peek_75 : decode cX11_peek 75 = .ok (.getfield 139, 3) := by decide +kernel
theorem dX11_peek_78 : decode cX11_peek 78 = .ok (.invokevirtual 133, 3) := by decide +kernel
theorem dX11_peek_81 : decode cX11_peek 81 = .ok (.invokestatic 142, 3) := by decide +kernel
theorem dX11_peek_84 : decode cX11_peek 84 = .ok (.ifCond .ne 24, 3) := by decide +kernel
theorem dX11_peek_87 : decode cX11_peek 87 = .ok (.iload_n 1, 1) := by decide +kernel
theorem dX11_peek_88 : decode cX11_peek 88 = .ok (.invokestatic 145, 3) := by decide +kernel
theorem dX11_peek_91 : decode cX11_peek 91 = .ok (.ifCond .eq 30, 3) := by decide +kernel
theorem dX11_peek_94 : decode cX11_peek 94 = .ok (.aload_n 0, 1) := by decide +kernel
theorem dX11_peek_95 : decode cX11_peek 95 = .ok (.aload_n 0, 1) := by decide +kernel
theorem dX11_peek_96 : decode cX11_peek 96 = .ok (.getfield 139, 3) := by decide +kernel
theorem dX11_peek_99 : decode cX11_peek 99 = .ok (.invokevirtual 133, 3) := by decide +kernel
theorem dX11_peek_102 : decode cX11_peek 102 = .ok (.invokestatic 145, 3) := by decide +kernel
theorem dX11_peek_105 : decode cX11_peek 105 = .ok (.ifCond .eq 16, 3) := by decide +kernel
theorem dX11_peek_108 : decode cX11_peek 108 = .ok (.aload_n 0, 1) := by decide +kernel
theorem dX11_peek_109 : decode cX11_peek 109 = .ok (.aload_n 0, 1) := by decide +kernel
theorem dX11_peek_110 : decode cX11_peek 110 = .ok (.getfield 139, 3) := by decide +kernel
theorem dX11_peek_113 : decode cX11_peek 113 = .ok (.iconst 1, 1) := by decide +kernel
theorem dX11_peek_114 : decode cX11_peek 114 = .ok (.iadd, 1) := by decide +kernel
theorem dX11_peek_115 : decode cX11_peek 115 = .ok (.putfield 139, 3) := by decide +kernel
theorem dX11_peek_118 : decode cX11_peek 118 = .ok (.goto (-52), 3) := by decide +kernel
theorem dX11_peek_121 : decode cX11_peek 121 = .ok (.iload_n 1, 1) := by decide +kernel
theorem dX11_peek_122 : decode cX11_peek 122 = .ok (.ireturn, 1) := by decide +kernel
theorem dX11_fails_0 : decode cX11_fails 0 = .ok (.aload_n 0, 1) := by decide +kernel
theorem dX11_fails_1 : decode cX11_fails 1 = .ok (.iload_n 1, 1) := by decide +kernel
theorem dX11_fails_2 : decode cX11_fails 2 = .ok (.putfield 121, 3) := by decide +kernel
theorem dX11_fails_5 : decode cX11_fails 5 = .ok (.aload_n 0, 1) := by decide +kernel
theorem dX11_fails_6 : decode cX11_fails 6 = .ok (.aload_n 0, 1) := by decide +kernel
theorem dX11_fails_7 : decode cX11_fails 7 = .ok (.getfield 136, 3) := by decide +kernel
theorem dX11_fails_10 : decode cX11_fails 10 = .ok (.putfield 54, 3) := by decide +kernel
theorem dX11_fails_13 : decode cX11_fails 13 = .ok (.iconst 0, 1) := by decide +kernel
theorem dX11_fails_14 : decode cX11_fails 14 = .ok (.ireturn, 1) := by decide +kernel
theorem dX11_passes_0 : decode cX11_passes 0 = .ok (.aload_n 0, 1) := by decide +kernel
theorem dX11_passes_1 : decode cX11_passes 1 = .ok (.aload_n 0, 1) := by decide +kernel
theorem dX11_passes_2 : decode cX11_passes 2 = .ok (.getfield 139, 3) := by decide +kernel
theorem dX11_passes_5 : decode cX11_passes 5 = .ok (.putfield 130, 3) := by decide +kernel
theorem dX11_passes_8 : decode cX11_passes 8 = .ok (.iconst 1, 1) := by decide +kernel
theorem dX11_passes_9 : decode cX11_passes 9 = .ok (.ireturn, 1) := by decide +kernel
theorem dX11_letters_0 : decode cX11_letters 0 = .ok (.aload_n 0, 1) := by decide +kernel
theorem dX11_letters_1 : decode cX11_letters 1 = .ok (.getfield 139, 3) := by decide +kernel
theorem dX11_letters_4 : decode cX11_letters 4 = .ok (.aload_n 0, 1) := by decide +kernel
theorem dX11_letters_5 : decode cX11_letters 5 = .ok (.getfield 136, 3) := by decide +kernel
theorem dX11_letters_8 : decode cX11_letters 8 = .ok (.isub, 1) := by decide +kernel
theorem dX11_letters_9 : decode cX11_letters 9 = .ok (.ireturn, 1) := by decide +kernel
theorem dX11_nextWord_0 : decode cX11_nextWord 0 = .ok (.aload_n 0, 1) := by decide +kernel
theorem dX11_nextWord_1 : decode cX11_nextWord 1 = .ok (.invokevirtual 148, 3) := by decide +kernel
theorem dX11_nextWord_4 : decode cX11_nextWord 4 = .ok (.invokestatic 142, 3) := by decide +kernel
theorem dX11_nextWord_7 : decode cX11_nextWord 7 = .ok (.ifCond .ne 5, 3) := by decide +kernel
theorem dX11_nextWord_10 : decode cX11_nextWord 10 = .ok (.lconst 0, 1) := by decide +kernel
theorem dX11_nextWord_11 : decode cX11_nextWord 11 = .ok (.lreturn, 1) := by decide +kernel
theorem dX11_nextWord_12 : decode cX11_nextWord 12 = .ok (.lconst 0, 1) := by decide +kernel
theorem dX11_nextWord_13 : decode cX11_nextWord 13 = .ok (.lstore_n 1, 1) := by decide +kernel
theorem dX11_nextWord_14 : decode cX11_nextWord 14 = .ok (.aload_n 0, 1) := by decide +kernel
theorem dX11_nextWord_15 : decode cX11_nextWord 15 = .ok (.getfield 136, 3) := by decide +kernel
theorem dX11_nextWord_18 : decode cX11_nextWord 18 = .ok (.istore_n 3, 1) := by decide +kernel
theorem dX11_nextWord_19 : decode cX11_nextWord 19 = .ok (.iload_n 3, 1) := by decide +kernel
theorem dX11_nextWord_20 : decode cX11_nextWord 20 = .ok (.aload_n 0, 1) := by decide +kernel
theorem dX11_nextWord_21 : decode cX11_nextWord 21 = .ok (.getfield 139, 3) := by decide +kernel
theorem dX11_nextWord_24 : decode cX11_nextWord 24 = .ok (.if_icmp .ge 35, 3) := by decide +kernel
theorem dX11_nextWord_27 : decode cX11_nextWord 27 = .ok (.aload_n 0, 1) := by decide +kernel
theorem dX11_nextWord_28 : decode cX11_nextWord 28 = .ok (.invokevirtual 151, 3) := by decide +kernel
theorem dX11_nextWord_31 : decode cX11_nextWord 31 = .ok (.bipush 8, 2) := by decide +kernel
theorem dX11_nextWord_33 : decode cX11_nextWord 33 = .ok (.if_icmp .gt 26, 3) := by decide +kernel
theorem dX11_nextWord_36 : decode cX11_nextWord 36 = .ok (.ldc2_w 154, 3) := by decide +kernel
theorem dX11_nextWord_39 : decode cX11_nextWord 39 = .ok (.lload_n 1, 1) := by decide +kernel
theorem dX11_nextWord_40 : decode cX11_nextWord 40 = .ok (.lmul, 1) := by decide +kernel
theorem dX11_nextWord_41 : decode cX11_nextWord 41 = .ok (.aload_n 0, 1) := by decide +kernel
theorem dX11_nextWord_42 : decode cX11_nextWord 42 = .ok (.iload_n 3, 1) := by decide +kernel
theorem dX11_nextWord_43 : decode cX11_nextWord 43 = .ok (.invokevirtual 133, 3) := by decide +kernel
theorem dX11_nextWord_46 : decode cX11_nextWord 46 = .ok (.i2l, 1) := by decide +kernel
theorem dX11_nextWord_47 : decode cX11_nextWord 47 = .ok (.ladd, 1) := by decide +kernel
theorem dX11_nextWord_48 : decode cX11_nextWord 48 = .ok (.ldc2_w 156, 3) := by decide +kernel
theorem dX11_nextWord_51 : decode cX11_nextWord 51 = .ok (.lsub, 1) := by decide +kernel
theorem dX11_nextWord_52 : decode cX11_nextWord 52 = .ok (.lstore_n 1, 1) := by decide +kernel
theorem dX11_nextWord_53 : decode cX11_nextWord 53 = .ok (.iinc 3 1, 3) := by decide +kernel
theorem dX11_nextWord_56 : decode cX11_nextWord 56 = .ok (.goto (-37), 3) := by decide +kernel
theorem dX11_nextWord_59 : decode cX11_nextWord 59 = .ok (.lload_n 1, 1) := by decide +kernel
theorem dX11_nextWord_60 : decode cX11_nextWord 60 = .ok (.lreturn, 1) := by decide +kernel
theorem dX11_passesWord_0 : decode cX11_passesWord 0 = .ok (.aload_n 0, 1) := by decide +kernel
theorem dX11_passesWord_1 : decode cX11_passesWord 1 = .ok (.invokevirtual 158, 3) := by decide +kernel
theorem dX11_passesWord_4 : decode cX11_passesWord 4 = .ok (.lload_n 1, 1) := by decide +kernel
theorem dX11_passesWord_5 : decode cX11_passesWord 5 = .ok (.lcmp, 1) := by decide +kernel
theorem dX11_passesWord_6 : decode cX11_passesWord 6 = .ok (.ifCond .ne 14, 3) := by decide +kernel
theorem dX11_passesWord_9 : decode cX11_passesWord 9 = .ok (.aload_n 0, 1) := by decide +kernel
theorem dX11_passesWord_10 : decode cX11_passesWord 10 = .ok (.invokevirtual 162, 3) := by decide +kernel
theorem dX11_passesWord_13 : decode cX11_passesWord 13 = .ok (.ifCond .eq 7, 3) := by decide +kernel
theorem dX11_passesWord_16 : decode cX11_passesWord 16 = .ok (.iconst 1, 1) := by decide +kernel
theorem dX11_passesWord_17 : decode cX11_passesWord 17 = .ok (.goto 4, 3) := by decide +kernel
theorem dX11_passesWord_20 : decode cX11_passesWord 20 = .ok (.iconst 0, 1) := by decide +kernel
theorem dX11_passesWord_21 : decode cX11_passesWord 21 = .ok (.ireturn, 1) := by decide +kernel
theorem dX11_looksNumber_0 : decode cX11_looksNumber 0 = .ok (.aload_n 0, 1) := by decide +kernel
theorem dX11_looksNumber_1 : decode cX11_looksNumber 1 = .ok (.invokevirtual 148, 3) := by decide +kernel
theorem dX11_looksNumber_4 : decode cX11_looksNumber 4 = .ok (.invokestatic 145, 3) := by decide +kernel
theorem dX11_looksNumber_7 : decode cX11_looksNumber 7 = .ok (.ifCond .eq 11, 3) := by decide +kernel
theorem dX11_looksNumber_10 : decode cX11_looksNumber 10 = .ok (.aload_n 0, 1) := by decide +kernel
theorem dX11_looksNumber_11 : decode cX11_looksNumber 11 = .ok (.invokevirtual 151, 3) := by decide +kernel
theorem dX11_looksNumber_14 : decode cX11_looksNumber 14 = .ok (.iconst 4, 1) := by decide +kernel
theorem dX11_looksNumber_15 : decode cX11_looksNumber 15 = .ok (.if_icmp .le 9, 3) := by decide +kernel
theorem dX11_looksNumber_18 : decode cX11_looksNumber 18 = .ok (.aload_n 0, 1) := by decide +kernel
theorem dX11_looksNumber_19 : decode cX11_looksNumber 19 = .ok (.iconst 1, 1) := by decide +kernel
theorem dX11_looksNumber_20 : decode cX11_looksNumber 20 = .ok (.invokevirtual 166, 3) := by decide +kernel
theorem dX11_looksNumber_23 : decode cX11_looksNumber 23 = .ok (.ireturn, 1) := by decide +kernel
theorem dX11_looksNumber_24 : decode cX11_looksNumber 24 = .ok (.aload_n 0, 1) := by decide +kernel
theorem dX11_looksNumber_25 : decode cX11_looksNumber 25 = .ok (.iconst 0, 1) := by decide +kernel
theorem dX11_looksNumber_26 : decode cX11_looksNumber 26 = .ok (.putfield 169, 3) := by decide +kernel
theorem dX11_looksNumber_29 : decode cX11_looksNumber 29 = .ok (.aload_n 0, 1) := by decide +kernel
theorem dX11_looksNumber_30 : decode cX11_looksNumber 30 = .ok (.getfield 136, 3) := by decide +kernel
theorem dX11_looksNumber_33 : decode cX11_looksNumber 33 = .ok (.istore_n 3, 1) := by decide +kernel
theorem dX11_looksNumber_34 : decode cX11_looksNumber 34 = .ok (.iload_n 3, 1) := by decide +kernel
theorem dX11_looksNumber_35 : decode cX11_looksNumber 35 = .ok (.aload_n 0, 1) := by decide +kernel
theorem dX11_looksNumber_36 : decode cX11_looksNumber 36 = .ok (.getfield 139, 3) := by decide +kernel
theorem dX11_looksNumber_39 : decode cX11_looksNumber 39 = .ok (.if_icmp .ge 29, 3) := by decide +kernel
theorem dX11_looksNumber_42 : decode cX11_looksNumber 42 = .ok (.aload_n 0, 1) := by decide +kernel
theorem dX11_looksNumber_43 : decode cX11_looksNumber 43 = .ok (.bipush 10, 2) := by decide +kernel
theorem dX11_looksNumber_45 : decode cX11_looksNumber 45 = .ok (.aload_n 0, 1) := by decide +kernel
theorem dX11_looksNumber_46 : decode cX11_looksNumber 46 = .ok (.getfield 169, 3) := by decide +kernel
theorem dX11_looksNumber_49 : decode cX11_looksNumber 49 = .ok (.imul, 1) := by decide +kernel
theorem dX11_looksNumber_50 : decode cX11_looksNumber 50 = .ok (.aload_n 0, 1) := by decide +kernel
theorem dX11_looksNumber_51 : decode cX11_looksNumber 51 = .ok (.iload_n 3, 1) := by decide +kernel
theorem dX11_looksNumber_52 : decode cX11_looksNumber 52 = .ok (.invokevirtual 133, 3) := by decide +kernel
theorem dX11_looksNumber_55 : decode cX11_looksNumber 55 = .ok (.iadd, 1) := by decide +kernel
theorem dX11_looksNumber_56 : decode cX11_looksNumber 56 = .ok (.bipush 48, 2) := by decide +kernel
theorem dX11_looksNumber_58 : decode cX11_looksNumber 58 = .ok (.isub, 1) := by decide +kernel
theorem dX11_looksNumber_59 : decode cX11_looksNumber 59 = .ok (.putfield 169, 3) := by decide +kernel
theorem dX11_looksNumber_62 : decode cX11_looksNumber 62 = .ok (.iinc 3 1, 3) := by decide +kernel
theorem dX11_looksNumber_65 : decode cX11_looksNumber 65 = .ok (.goto (-31), 3) := by decide +kernel
theorem dX11_looksNumber_68 : decode cX11_looksNumber 68 = .ok (.aload_n 0, 1) := by decide +kernel
theorem dX11_looksNumber_69 : decode cX11_looksNumber 69 = .ok (.getfield 169, 3) := by decide +kernel
theorem dX11_looksNumber_72 : decode cX11_looksNumber 72 = .ok (.iload_n 1, 1) := by decide +kernel
theorem dX11_looksNumber_73 : decode cX11_looksNumber 73 = .ok (.iload_n 2, 1) := by decide +kernel
theorem dX11_looksNumber_74 : decode cX11_looksNumber 74 = .ok (.invokestatic 102, 3) := by decide +kernel
theorem dX11_looksNumber_77 : decode cX11_looksNumber 77 = .ok (.ifCond .ne 11, 3) := by decide +kernel
theorem dX11_looksNumber_80 : decode cX11_looksNumber 80 = .ok (.aload_n 0, 1) := by decide +kernel
theorem dX11_looksNumber_81 : decode cX11_looksNumber 81 = .ok (.iconst 2, 1) := by decide +kernel
theorem dX11_looksNumber_82 : decode cX11_looksNumber 82 = .ok (.invokevirtual 166, 3) := by decide +kernel
theorem dX11_looksNumber_85 : decode cX11_looksNumber 85 = .ok (.ifCond .eq 7, 3) := by decide +kernel
theorem dX11_looksNumber_88 : decode cX11_looksNumber 88 = .ok (.iconst 1, 1) := by decide +kernel
theorem dX11_looksNumber_89 : decode cX11_looksNumber 89 = .ok (.goto 4, 3) := by decide +kernel
theorem dX11_looksNumber_92 : decode cX11_looksNumber 92 = .ok (.iconst 0, 1) := by decide +kernel
theorem dX11_looksNumber_93 : decode cX11_looksNumber 93 = .ok (.ireturn, 1) := by decide +kernel
theorem dX11_readNumber_0 : decode cX11_readNumber 0 = .ok (.aload_n 0, 1) := by decide +kernel
theorem dX11_readNumber_1 : decode cX11_readNumber 1 = .ok (.iload_n 1, 1) := by decide +kernel
theorem dX11_readNumber_2 : decode cX11_readNumber 2 = .ok (.iload_n 2, 1) := by decide +kernel
theorem dX11_readNumber_3 : decode cX11_readNumber 3 = .ok (.invokevirtual 172, 3) := by decide +kernel
theorem dX11_readNumber_6 : decode cX11_readNumber 6 = .ok (.ifCond .eq 14, 3) := by decide +kernel
theorem dX11_readNumber_9 : decode cX11_readNumber 9 = .ok (.aload_n 0, 1) := by decide +kernel
theorem dX11_readNumber_10 : decode cX11_readNumber 10 = .ok (.invokevirtual 162, 3) := by decide +kernel
theorem dX11_readNumber_13 : decode cX11_readNumber 13 = .ok (.ifCond .eq 7, 3) := by decide +kernel
theorem dX11_readNumber_16 : decode cX11_readNumber 16 = .ok (.iconst 1, 1) := by decide +kernel
theorem dX11_readNumber_17 : decode cX11_readNumber 17 = .ok (.goto 4, 3) := by decide +kernel
theorem dX11_readNumber_20 : decode cX11_readNumber 20 = .ok (.iconst 0, 1) := by decide +kernel
theorem dX11_readNumber_21 : decode cX11_readNumber 21 = .ok (.ireturn, 1) := by decide +kernel
theorem dX11_readSemicolon_0 : decode cX11_readSemicolon 0 = .ok (.aload_n 0, 1) := by decide +kernel
theorem dX11_readSemicolon_1 : decode cX11_readSemicolon 1 = .ok (.invokevirtual 148, 3) := by decide +kernel
theorem dX11_readSemicolon_4 : decode cX11_readSemicolon 4 = .ok (.bipush 59, 2) := by decide +kernel
theorem dX11_readSemicolon_6 : decode cX11_readSemicolon 6 = .ok (.if_icmp .ne 10, 3) := by decide +kernel
theorem dX11_readSemicolon_9 : decode cX11_readSemicolon 9 = .ok (.aload_n 0, 1) := by decide +kernel
theorem dX11_readSemicolon_10 : decode cX11_readSemicolon 10 = .ok (.invokevirtual 162, 3) := by decide +kernel
theorem dX11_readSemicolon_13 : decode cX11_readSemicolon 13 = .ok (.goto 8, 3) := by decide +kernel
theorem dX11_readSemicolon_16 : decode cX11_readSemicolon 16 = .ok (.aload_n 0, 1) := by decide +kernel
theorem dX11_readSemicolon_17 : decode cX11_readSemicolon 17 = .ok (.iconst 1, 1) := by decide +kernel
theorem dX11_readSemicolon_18 : decode cX11_readSemicolon 18 = .ok (.invokevirtual 166, 3) := by decide +kernel
theorem dX11_readSemicolon_21 : decode cX11_readSemicolon 21 = .ok (.ireturn, 1) := by decide +kernel
theorem dX11_looksName_0 : decode cX11_looksName 0 = .ok (.aload_n 0, 1) := by decide +kernel
theorem dX11_looksName_1 : decode cX11_looksName 1 = .ok (.aload_n 0, 1) := by decide +kernel
theorem dX11_looksName_2 : decode cX11_looksName 2 = .ok (.invokevirtual 158, 3) := by decide +kernel
theorem dX11_looksName_5 : decode cX11_looksName 5 = .ok (.putfield 176, 3) := by decide +kernel
theorem dX11_looksName_8 : decode cX11_looksName 8 = .ok (.aload_n 0, 1) := by decide +kernel
theorem dX11_looksName_9 : decode cX11_looksName 9 = .ok (.getfield 176, 3) := by decide +kernel
theorem dX11_looksName_12 : decode cX11_looksName 12 = .ok (.lconst 0, 1) := by decide +kernel
theorem dX11_looksName_13 : decode cX11_looksName 13 = .ok (.lcmp, 1) := by decide +kernel
theorem dX11_looksName_14 : decode cX11_looksName 14 = .ok (.ifCond .eq 12, 3) := by decide +kernel
theorem dX11_looksName_17 : decode cX11_looksName 17 = .ok (.aload_n 0, 1) := by decide +kernel
theorem dX11_looksName_18 : decode cX11_looksName 18 = .ok (.invokevirtual 151, 3) := by decide +kernel
theorem dX11_looksName_21 : decode cX11_looksName 21 = .ok (.bipush 6, 2) := by decide +kernel
theorem dX11_looksName_23 : decode cX11_looksName 23 = .ok (.if_icmp .le 9, 3) := by decide +kernel
theorem dX11_looksName_26 : decode cX11_looksName 26 = .ok (.aload_n 0, 1) := by decide +kernel
theorem dX11_looksName_27 : decode cX11_looksName 27 = .ok (.iconst 1, 1) := by decide +kernel
theorem dX11_looksName_28 : decode cX11_looksName 28 = .ok (.invokevirtual 166, 3) := by decide +kernel
theorem dX11_looksName_31 : decode cX11_looksName 31 = .ok (.ireturn, 1) := by decide +kernel
theorem dX11_looksName_32 : decode cX11_looksName 32 = .ok (.iconst 1, 1) := by decide +kernel
theorem dX11_looksName_33 : decode cX11_looksName 33 = .ok (.ireturn, 1) := by decide +kernel
theorem dX11_cabinNamed_0 : decode cX11_cabinNamed 0 = .ok (.iconst 0, 1) := by decide +kernel
theorem dX11_cabinNamed_1 : decode cX11_cabinNamed 1 = .ok (.istore_n 3, 1) := by decide +kernel
theorem dX11_cabinNamed_2 : decode cX11_cabinNamed 2 = .ok (.iload_n 3, 1) := by decide +kernel
theorem dX11_cabinNamed_3 : decode cX11_cabinNamed 3 = .ok (.aload_n 0, 1) := by decide +kernel
theorem dX11_cabinNamed_4 : decode cX11_cabinNamed 4 = .ok (.getfield 13, 3) := by decide +kernel
theorem dX11_cabinNamed_7 : decode cX11_cabinNamed 7 = .ok (.iconst 0, 1) := by decide +kernel
theorem dX11_cabinNamed_8 : decode cX11_cabinNamed 8 = .ok (.iaload, 1) := by decide +kernel
theorem dX11_cabinNamed_9 : decode cX11_cabinNamed 9 = .ok (.if_icmp .ge 22, 3) := by decide +kernel
theorem dX11_cabinNamed_12 : decode cX11_cabinNamed 12 = .ok (.aload_n 0, 1) := by decide +kernel
theorem dX11_cabinNamed_13 : decode cX11_cabinNamed 13 = .ok (.getfield 20, 3) := by decide +kernel
theorem dX11_cabinNamed_16 : decode cX11_cabinNamed 16 = .ok (.iload_n 3, 1) := by decide +kernel
theorem dX11_cabinNamed_17 : decode cX11_cabinNamed 17 = .ok (.laload, 1) := by decide +kernel
theorem dX11_cabinNamed_18 : decode cX11_cabinNamed 18 = .ok (.lload_n 1, 1) := by decide +kernel
theorem dX11_cabinNamed_19 : decode cX11_cabinNamed 19 = .ok (.lcmp, 1) := by decide +kernel
theorem dX11_cabinNamed_20 : decode cX11_cabinNamed 20 = .ok (.ifCond .ne 5, 3) := by decide +kernel
theorem dX11_cabinNamed_23 : decode cX11_cabinNamed 23 = .ok (.iload_n 3, 1) := by decide +kernel
theorem dX11_cabinNamed_24 : decode cX11_cabinNamed 24 = .ok (.ireturn, 1) := by decide +kernel
theorem dX11_cabinNamed_25 : decode cX11_cabinNamed 25 = .ok (.iinc 3 1, 3) := by decide +kernel
theorem dX11_cabinNamed_28 : decode cX11_cabinNamed 28 = .ok (.goto (-26), 3) := by decide +kernel
theorem dX11_cabinNamed_31 : decode cX11_cabinNamed 31 = .ok (.iconst (-1), 1) := by decide +kernel
theorem dX11_cabinNamed_32 : decode cX11_cabinNamed 32 = .ok (.ireturn, 1) := by decide +kernel
theorem dX11_mealNamed_0 : decode cX11_mealNamed 0 = .ok (.iconst 0, 1) := by decide +kernel
theorem dX11_mealNamed_1 : decode cX11_mealNamed 1 = .ok (.istore_n 3, 1) := by decide +kernel
theorem dX11_mealNamed_2 : decode cX11_mealNamed 2 = .ok (.iload_n 3, 1) := by decide +kernel
theorem dX11_mealNamed_3 : decode cX11_mealNamed 3 = .ok (.aload_n 0, 1) := by decide +kernel
theorem dX11_mealNamed_4 : decode cX11_mealNamed 4 = .ok (.getfield 13, 3) := by decide +kernel
theorem dX11_mealNamed_7 : decode cX11_mealNamed 7 = .ok (.iconst 1, 1) := by decide +kernel
theorem dX11_mealNamed_8 : decode cX11_mealNamed 8 = .ok (.iaload, 1) := by decide +kernel
theorem dX11_mealNamed_9 : decode cX11_mealNamed 9 = .ok (.if_icmp .ge 22, 3) := by decide +kernel
theorem dX11_mealNamed_12 : decode cX11_mealNamed 12 = .ok (.aload_n 0, 1) := by decide +kernel
theorem dX11_mealNamed_13 : decode cX11_mealNamed 13 = .ok (.getfield 23, 3) := by decide +kernel
theorem dX11_mealNamed_16 : decode cX11_mealNamed 16 = .ok (.iload_n 3, 1) := by decide +kernel
theorem dX11_mealNamed_17 : decode cX11_mealNamed 17 = .ok (.laload, 1) := by decide +kernel
theorem dX11_mealNamed_18 : decode cX11_mealNamed 18 = .ok (.lload_n 1, 1) := by decide +kernel
theorem dX11_mealNamed_19 : decode cX11_mealNamed 19 = .ok (.lcmp, 1) := by decide +kernel
theorem dX11_mealNamed_20 : decode cX11_mealNamed 20 = .ok (.ifCond .ne 5, 3) := by decide +kernel
theorem dX11_mealNamed_23 : decode cX11_mealNamed 23 = .ok (.iload_n 3, 1) := by decide +kernel
theorem dX11_mealNamed_24 : decode cX11_mealNamed 24 = .ok (.ireturn, 1) := by decide +kernel
theorem dX11_mealNamed_25 : decode cX11_mealNamed 25 = .ok (.iinc 3 1, 3) := by decide +kernel
theorem dX11_mealNamed_28 : decode cX11_mealNamed 28 = .ok (.goto (-26), 3) := by decide +kernel
theorem dX11_mealNamed_31 : decode cX11_mealNamed 31 = .ok (.iconst (-1), 1) := by decide +kernel
theorem dX11_mealNamed_32 : decode cX11_mealNamed 32 = .ok (.ireturn, 1) := by decide +kernel
theorem dX11_looksCabin_0 : decode cX11_looksCabin 0 = .ok (.aload_n 0, 1) := by decide +kernel
theorem dX11_looksCabin_1 : decode cX11_looksCabin 1 = .ok (.invokevirtual 148, 3) := by decide +kernel
theorem dX11_looksCabin_4 : decode cX11_looksCabin 4 = .ok (.invokestatic 142, 3) := by decide +kernel
theorem dX11_looksCabin_7 : decode cX11_looksCabin 7 = .ok (.ifCond .ne 9, 3) := by decide +kernel
theorem dX11_looksCabin_10 : decode cX11_looksCabin 10 = .ok (.aload_n 0, 1) := by decide +kernel
theorem dX11_looksCabin_11 : decode cX11_looksCabin 11 = .ok (.iconst 1, 1) := by decide +kernel
theorem dX11_looksCabin_12 : decode cX11_looksCabin 12 = .ok (.invokevirtual 166, 3) := by decide +kernel
theorem dX11_looksCabin_15 : decode cX11_looksCabin 15 = .ok (.ireturn, 1) := by decide +kernel
theorem dX11_looksCabin_16 : decode cX11_looksCabin 16 = .ok (.aload_n 0, 1) := by decide +kernel
theorem dX11_looksCabin_17 : decode cX11_looksCabin 17 = .ok (.aload_n 0, 1) := by decide +kernel
theorem dX11_looksCabin_18 : decode cX11_looksCabin 18 = .ok (.aload_n 0, 1) := by decide +kernel
theorem dX11_looksCabin_19 : decode cX11_looksCabin 19 = .ok (.invokevirtual 158, 3) := by decide +kernel
theorem dX11_looksCabin_22 : decode cX11_looksCabin 22 = .ok (.invokevirtual 180, 3) := by decide +kernel
theorem dX11_looksCabin_25 : decode cX11_looksCabin 25 = .ok (.putfield 184, 3) := by decide +kernel
theorem dX11_looksCabin_28 : decode cX11_looksCabin 28 = .ok (.aload_n 0, 1) := by decide +kernel
theorem dX11_looksCabin_29 : decode cX11_looksCabin 29 = .ok (.getfield 184, 3) := by decide +kernel
theorem dX11_looksCabin_32 : decode cX11_looksCabin 32 = .ok (.iconst (-1), 1) := by decide +kernel
theorem dX11_looksCabin_33 : decode cX11_looksCabin 33 = .ok (.if_icmp .ne 11, 3) := by decide +kernel
theorem dX11_looksCabin_36 : decode cX11_looksCabin 36 = .ok (.aload_n 0, 1) := by decide +kernel
theorem dX11_looksCabin_37 : decode cX11_looksCabin 37 = .ok (.iconst 3, 1) := by decide +kernel
theorem dX11_looksCabin_38 : decode cX11_looksCabin 38 = .ok (.invokevirtual 166, 3) := by decide +kernel
theorem dX11_looksCabin_41 : decode cX11_looksCabin 41 = .ok (.ifCond .eq 7, 3) := by decide +kernel
theorem dX11_looksCabin_44 : decode cX11_looksCabin 44 = .ok (.iconst 1, 1) := by decide +kernel
theorem dX11_looksCabin_45 : decode cX11_looksCabin 45 = .ok (.goto 4, 3) := by decide +kernel
theorem dX11_looksCabin_48 : decode cX11_looksCabin 48 = .ok (.iconst 0, 1) := by decide +kernel
theorem dX11_looksCabin_49 : decode cX11_looksCabin 49 = .ok (.ireturn, 1) := by decide +kernel
theorem dX11_readCabinName_0 : decode cX11_readCabinName 0 = .ok (.aload_n 0, 1) := by decide +kernel
theorem dX11_readCabinName_1 : decode cX11_readCabinName 1 = .ok (.invokevirtual 187, 3) := by decide +kernel
theorem dX11_readCabinName_4 : decode cX11_readCabinName 4 = .ok (.ifCond .eq 14, 3) := by decide +kernel
theorem dX11_readCabinName_7 : decode cX11_readCabinName 7 = .ok (.aload_n 0, 1) := by decide +kernel
theorem dX11_readCabinName_8 : decode cX11_readCabinName 8 = .ok (.invokevirtual 162, 3) := by decide +kernel
theorem dX11_readCabinName_11 : decode cX11_readCabinName 11 = .ok (.ifCond .eq 7, 3) := by decide +kernel
theorem dX11_readCabinName_14 : decode cX11_readCabinName 14 = .ok (.iconst 1, 1) := by decide +kernel
theorem dX11_readCabinName_15 : decode cX11_readCabinName 15 = .ok (.goto 4, 3) := by decide +kernel
theorem dX11_readCabinName_18 : decode cX11_readCabinName 18 = .ok (.iconst 0, 1) := by decide +kernel
theorem dX11_readCabinName_19 : decode cX11_readCabinName 19 = .ok (.ireturn, 1) := by decide +kernel
theorem dX11_readDiets_0 : decode cX11_readDiets 0 = .ok (.aload_n 0, 1) := by decide +kernel
theorem dX11_readDiets_1 : decode cX11_readDiets 1 = .ok (.invokevirtual 148, 3) := by decide +kernel
theorem dX11_readDiets_4 : decode cX11_readDiets 4 = .ok (.invokestatic 142, 3) := by decide +kernel
theorem dX11_readDiets_7 : decode cX11_readDiets 7 = .ok (.ifCond .ne 9, 3) := by decide +kernel
theorem dX11_readDiets_10 : decode cX11_readDiets 10 = .ok (.aload_n 0, 1) := by decide +kernel
theorem dX11_readDiets_11 : decode cX11_readDiets 11 = .ok (.iconst 1, 1) := by decide +kernel
theorem dX11_readDiets_12 : decode cX11_readDiets 12 = .ok (.invokevirtual 166, 3) := by decide +kernel
theorem dX11_readDiets_15 : decode cX11_readDiets 15 = .ok (.ireturn, 1) := by decide +kernel
theorem dX11_readDiets_16 : decode cX11_readDiets 16 = .ok (.aload_n 0, 1) := by decide +kernel
theorem dX11_readDiets_17 : decode cX11_readDiets 17 = .ok (.iconst 0, 1) := by decide +kernel
theorem dX11_readDiets_18 : decode cX11_readDiets 18 = .ok (.putfield 190, 3) := by decide +kernel
theorem dX11_readDiets_21 : decode cX11_readDiets 21 = .ok (.aload_n 0, 1) := by decide +kernel
theorem dX11_readDiets_22 : decode cX11_readDiets 22 = .ok (.getfield 136, 3) := by decide +kernel
theorem dX11_readDiets_25 : decode cX11_readDiets 25 = .ok (.istore_n 1, 1) := by decide +kernel
theorem dX11_readDiets_26 : decode cX11_readDiets 26 = .ok (.iload_n 1, 1) := by decide +kernel
theorem dX11_readDiets_27 : decode cX11_readDiets 27 = .ok (.aload_n 0, 1) := by decide +kernel
theorem dX11_readDiets_28 : decode cX11_readDiets 28 = .ok (.getfield 139, 3) := by decide +kernel
theorem dX11_readDiets_31 : decode cX11_readDiets 31 = .ok (.if_icmp .ge 53, 3) := by decide +kernel
theorem dX11_readDiets_34 : decode cX11_readDiets 34 = .ok (.aload_n 0, 1) := by decide +kernel
theorem dX11_readDiets_35 : decode cX11_readDiets 35 = .ok (.iload_n 1, 1) := by decide +kernel
theorem dX11_readDiets_36 : decode cX11_readDiets 36 = .ok (.invokevirtual 133, 3) := by decide +kernel
theorem dX11_readDiets_39 : decode cX11_readDiets 39 = .ok (.bipush 97, 2) := by decide +kernel
theorem dX11_readDiets_41 : decode cX11_readDiets 41 = .ok (.isub, 1) := by decide +kernel
theorem dX11_readDiets_42 : decode cX11_readDiets 42 = .ok (.istore_n 2, 1) := by decide +kernel
theorem dX11_readDiets_43 : decode cX11_readDiets 43 = .ok (.iload_n 2, 1) := by decide +kernel
theorem dX11_readDiets_44 : decode cX11_readDiets 44 = .ok (.bipush 7, 2) := by decide +kernel
theorem dX11_readDiets_46 : decode cX11_readDiets 46 = .ok (.if_icmp .gt 14, 3) := by decide +kernel
theorem dX11_readDiets_49 : decode cX11_readDiets 49 = .ok (.aload_n 0, 1) := by decide +kernel
theorem dX11_readDiets_50 : decode cX11_readDiets 50 = .ok (.getfield 190, 3) := by decide +kernel
theorem dX11_readDiets_53 : decode cX11_readDiets 53 = .ok (.iload_n 2, 1) := by decide +kernel
theorem dX11_readDiets_54 : decode cX11_readDiets 54 = .ok (.invokestatic 193, 3) := by decide +kernel
theorem dX11_readDiets_57 : decode cX11_readDiets 57 = .ok (.ifCond .eq 9, 3) := by decide +kernel
theorem dX11_readDiets_60 : decode cX11_readDiets 60 = .ok (.aload_n 0, 1) := by decide +kernel
theorem dX11_readDiets_61 : decode cX11_readDiets 61 = .ok (.iconst 1, 1) := by decide +kernel
theorem dX11_readDiets_62 : decode cX11_readDiets 62 = .ok (.invokevirtual 166, 3) := by decide +kernel
theorem dX11_readDiets_65 : decode cX11_readDiets 65 = .ok (.ireturn, 1) := by decide +kernel
theorem dX11_readDiets_66 : decode cX11_readDiets 66 = .ok (.aload_n 0, 1) := by decide +kernel
theorem dX11_readDiets_67 : decode cX11_readDiets 67 = .ok (.aload_n 0, 1) := by decide +kernel
theorem dX11_readDiets_68 : decode cX11_readDiets 68 = .ok (.getfield 190, 3) := by decide +kernel
theorem dX11_readDiets_71 : decode cX11_readDiets 71 = .ok (.iconst 1, 1) := by decide +kernel
theorem dX11_readDiets_72 : decode cX11_readDiets 72 = .ok (.iload_n 2, 1) := by decide +kernel
theorem dX11_readDiets_73 : decode cX11_readDiets 73 = .ok (.ishl, 1) := by decide +kernel
theorem dX11_readDiets_74 : decode cX11_readDiets 74 = .ok (.ior, 1) := by decide +kernel
theorem dX11_readDiets_75 : decode cX11_readDiets 75 = .ok (.putfield 190, 3) := by decide +kernel
theorem dX11_readDiets_78 : decode cX11_readDiets 78 = .ok (.iinc 1 1, 3) := by decide +kernel
theorem dX11_readDiets_81 : decode cX11_readDiets 81 = .ok (.goto (-55), 3) := by decide +kernel
theorem dX11_readDiets_84 : decode cX11_readDiets 84 = .ok (.aload_n 0, 1) := by decide +kernel
theorem dX11_readDiets_85 : decode cX11_readDiets 85 = .ok (.invokevirtual 162, 3) := by decide +kernel
theorem dX11_readDiets_88 : decode cX11_readDiets 88 = .ok (.ireturn, 1) := by decide +kernel
theorem dX11_readTime_0 : decode cX11_readTime 0 = .ok (.aload_n 0, 1) := by decide +kernel
theorem dX11_readTime_1 : decode cX11_readTime 1 = .ok (.iconst 1, 1) := by decide +kernel
theorem dX11_readTime_2 : decode cX11_readTime 2 = .ok (.sipush 999, 3) := by decide +kernel
theorem dX11_readTime_5 : decode cX11_readTime 5 = .ok (.invokevirtual 196, 3) := by decide +kernel
theorem dX11_readTime_8 : decode cX11_readTime 8 = .ok (.ifCond .ne 5, 3) := by decide +kernel
theorem dX11_readTime_11 : decode cX11_readTime 11 = .ok (.iconst 0, 1) := by decide +kernel
theorem dX11_readTime_12 : decode cX11_readTime 12 = .ok (.ireturn, 1) := by decide +kernel
theorem dX11_readTime_13 : decode cX11_readTime 13 = .ok (.aload_n 0, 1) := by decide +kernel
theorem dX11_readTime_14 : decode cX11_readTime 14 = .ok (.getfield 29, 3) := by decide +kernel
theorem dX11_readTime_17 : decode cX11_readTime 17 = .ok (.iconst 2, 1) := by decide +kernel
theorem dX11_readTime_18 : decode cX11_readTime 18 = .ok (.aload_n 0, 1) := by decide +kernel
theorem dX11_readTime_19 : decode cX11_readTime 19 = .ok (.getfield 169, 3) := by decide +kernel
theorem dX11_readTime_22 : decode cX11_readTime 22 = .ok (.iastore, 1) := by decide +kernel
theorem dX11_readTime_23 : decode cX11_readTime 23 = .ok (.aload_n 0, 1) := by decide +kernel
theorem dX11_readTime_24 : decode cX11_readTime 24 = .ok (.iconst 0, 1) := by decide +kernel
theorem dX11_readTime_25 : decode cX11_readTime 25 = .ok (.sipush 999, 3) := by decide +kernel
theorem dX11_readTime_28 : decode cX11_readTime 28 = .ok (.invokevirtual 196, 3) := by decide +kernel
theorem dX11_readTime_31 : decode cX11_readTime 31 = .ok (.ifCond .ne 5, 3) := by decide +kernel
theorem dX11_readTime_34 : decode cX11_readTime 34 = .ok (.iconst 0, 1) := by decide +kernel
theorem dX11_readTime_35 : decode cX11_readTime 35 = .ok (.ireturn, 1) := by decide +kernel
theorem dX11_readTime_36 : decode cX11_readTime 36 = .ok (.aload_n 0, 1) := by decide +kernel
theorem dX11_readTime_37 : decode cX11_readTime 37 = .ok (.getfield 13, 3) := by decide +kernel
theorem dX11_readTime_40 : decode cX11_readTime 40 = .ok (.iconst 3, 1) := by decide +kernel
theorem dX11_readTime_41 : decode cX11_readTime 41 = .ok (.aload_n 0, 1) := by decide +kernel
theorem dX11_readTime_42 : decode cX11_readTime 42 = .ok (.getfield 169, 3) := by decide +kernel
theorem dX11_readTime_45 : decode cX11_readTime 45 = .ok (.iastore, 1) := by decide +kernel
theorem dX11_readTime_46 : decode cX11_readTime 46 = .ok (.iconst 1, 1) := by decide +kernel
theorem dX11_readTime_47 : decode cX11_readTime 47 = .ok (.ireturn, 1) := by decide +kernel
theorem dX11_readLead_0 : decode cX11_readLead 0 = .ok (.aload_n 0, 1) := by decide +kernel
theorem dX11_readLead_1 : decode cX11_readLead 1 = .ok (.iconst 0, 1) := by decide +kernel
theorem dX11_readLead_2 : decode cX11_readLead 2 = .ok (.bipush 99, 2) := by decide +kernel
theorem dX11_readLead_4 : decode cX11_readLead 4 = .ok (.invokevirtual 196, 3) := by decide +kernel
theorem dX11_readLead_7 : decode cX11_readLead 7 = .ok (.ifCond .ne 5, 3) := by decide +kernel
theorem dX11_readLead_10 : decode cX11_readLead 10 = .ok (.iconst 0, 1) := by decide +kernel
theorem dX11_readLead_11 : decode cX11_readLead 11 = .ok (.ireturn, 1) := by decide +kernel
theorem dX11_readLead_12 : decode cX11_readLead 12 = .ok (.aload_n 0, 1) := by decide +kernel
theorem dX11_readLead_13 : decode cX11_readLead 13 = .ok (.getfield 13, 3) := by decide +kernel
theorem dX11_readLead_16 : decode cX11_readLead 16 = .ok (.iconst 4, 1) := by decide +kernel
theorem dX11_readLead_17 : decode cX11_readLead 17 = .ok (.aload_n 0, 1) := by decide +kernel
theorem dX11_readLead_18 : decode cX11_readLead 18 = .ok (.getfield 169, 3) := by decide +kernel
theorem dX11_readLead_21 : decode cX11_readLead 21 = .ok (.iastore, 1) := by decide +kernel
theorem dX11_readLead_22 : decode cX11_readLead 22 = .ok (.iconst 1, 1) := by decide +kernel
theorem dX11_readLead_23 : decode cX11_readLead 23 = .ok (.ireturn, 1) := by decide +kernel
theorem dX11_readCabin_0 : decode cX11_readCabin 0 = .ok (.aload_n 0, 1) := by decide +kernel
theorem dX11_readCabin_1 : decode cX11_readCabin 1 = .ok (.getfield 13, 3) := by decide +kernel
theorem dX11_readCabin_4 : decode cX11_readCabin 4 = .ok (.iconst 0, 1) := by decide +kernel
theorem dX11_readCabin_5 : decode cX11_readCabin 5 = .ok (.iaload, 1) := by decide +kernel
theorem dX11_readCabin_6 : decode cX11_readCabin 6 = .ok (.istore_n 1, 1) := by decide +kernel
theorem dX11_readCabin_7 : decode cX11_readCabin 7 = .ok (.aload_n 0, 1) := by decide +kernel
theorem dX11_readCabin_8 : decode cX11_readCabin 8 = .ok (.invokevirtual 199, 3) := by decide +kernel
theorem dX11_readCabin_11 : decode cX11_readCabin 11 = .ok (.ifCond .ne 5, 3) := by decide +kernel
theorem dX11_readCabin_14 : decode cX11_readCabin 14 = .ok (.iconst 0, 1) := by decide +kernel
theorem dX11_readCabin_15 : decode cX11_readCabin 15 = .ok (.ireturn, 1) := by decide +kernel
theorem dX11_readCabin_16 : decode cX11_readCabin 16 = .ok (.aload_n 0, 1) := by decide +kernel
theorem dX11_readCabin_17 : decode cX11_readCabin 17 = .ok (.aload_n 0, 1) := by decide +kernel
theorem dX11_readCabin_18 : decode cX11_readCabin 18 = .ok (.getfield 176, 3) := by decide +kernel
theorem dX11_readCabin_21 : decode cX11_readCabin 21 = .ok (.invokevirtual 180, 3) := by decide +kernel
theorem dX11_readCabin_24 : decode cX11_readCabin 24 = .ok (.iconst (-1), 1) := by decide +kernel
theorem dX11_readCabin_25 : decode cX11_readCabin 25 = .ok (.if_icmp .eq 9, 3) := by decide +kernel
theorem dX11_readCabin_28 : decode cX11_readCabin 28 = .ok (.aload_n 0, 1) := by decide +kernel
theorem dX11_readCabin_29 : decode cX11_readCabin 29 = .ok (.iconst 3, 1) := by decide +kernel
theorem dX11_readCabin_30 : decode cX11_readCabin 30 = .ok (.invokevirtual 166, 3) := by decide +kernel
theorem dX11_readCabin_33 : decode cX11_readCabin 33 = .ok (.ireturn, 1) := by decide +kernel
theorem dX11_readCabin_34 : decode cX11_readCabin 34 = .ok (.aload_n 0, 1) := by decide +kernel
theorem dX11_readCabin_35 : decode cX11_readCabin 35 = .ok (.invokevirtual 162, 3) := by decide +kernel
theorem dX11_readCabin_38 : decode cX11_readCabin 38 = .ok (.pop, 1) := by decide +kernel
theorem dX11_readCabin_39 : decode cX11_readCabin 39 = .ok (.aload_n 0, 1) := by decide +kernel
theorem dX11_readCabin_40 : decode cX11_readCabin 40 = .ok (.getfield 20, 3) := by decide +kernel
theorem dX11_readCabin_43 : decode cX11_readCabin 43 = .ok (.iload_n 1, 1) := by decide +kernel
theorem dX11_readCabin_44 : decode cX11_readCabin 44 = .ok (.aload_n 0, 1) := by decide +kernel
theorem dX11_readCabin_45 : decode cX11_readCabin 45 = .ok (.getfield 176, 3) := by decide +kernel
theorem dX11_readCabin_48 : decode cX11_readCabin 48 = .ok (.lastore, 1) := by decide +kernel
theorem dX11_readCabin_49 : decode cX11_readCabin 49 = .ok (.aload_n 0, 1) := by decide +kernel
theorem dX11_readCabin_50 : decode cX11_readCabin 50 = .ok (.iconst 1, 1) := by decide +kernel
theorem dX11_readCabin_51 : decode cX11_readCabin 51 = .ok (.bipush 40, 2) := by decide +kernel
theorem dX11_readCabin_53 : decode cX11_readCabin 53 = .ok (.invokevirtual 196, 3) := by decide +kernel
theorem dX11_readCabin_56 : decode cX11_readCabin 56 = .ok (.ifCond .ne 5, 3) := by decide +kernel
theorem dX11_readCabin_59 : decode cX11_readCabin 59 = .ok (.iconst 0, 1) := by decide +kernel
theorem dX11_readCabin_60 : decode cX11_readCabin 60 = .ok (.ireturn, 1) := by decide +kernel
theorem dX11_readCabin_61 : decode cX11_readCabin 61 = .ok (.aload_n 0, 1) := by decide +kernel
theorem dX11_readCabin_62 : decode cX11_readCabin 62 = .ok (.getfield 13, 3) := by decide +kernel
theorem dX11_readCabin_65 : decode cX11_readCabin 65 = .ok (.iconst 5, 1) := by decide +kernel
theorem dX11_readCabin_66 : decode cX11_readCabin 66 = .ok (.iconst 2, 1) := by decide +kernel
theorem dX11_readCabin_67 : decode cX11_readCabin 67 = .ok (.iload_n 1, 1) := by decide +kernel
theorem dX11_readCabin_68 : decode cX11_readCabin 68 = .ok (.imul, 1) := by decide +kernel
theorem dX11_readCabin_69 : decode cX11_readCabin 69 = .ok (.iadd, 1) := by decide +kernel
theorem dX11_readCabin_70 : decode cX11_readCabin 70 = .ok (.iconst 0, 1) := by decide +kernel
theorem dX11_readCabin_71 : decode cX11_readCabin 71 = .ok (.iadd, 1) := by decide +kernel
theorem dX11_readCabin_72 : decode cX11_readCabin 72 = .ok (.aload_n 0, 1) := by decide +kernel
theorem dX11_readCabin_73 : decode cX11_readCabin 73 = .ok (.getfield 169, 3) := by decide +kernel
theorem dX11_readCabin_76 : decode cX11_readCabin 76 = .ok (.iastore, 1) := by decide +kernel
theorem dX11_readCabin_77 : decode cX11_readCabin 77 = .ok (.aload_n 0, 1) := by decide +kernel
theorem dX11_readCabin_78 : decode cX11_readCabin 78 = .ok (.getfield 13, 3) := by decide +kernel
theorem dX11_readCabin_81 : decode cX11_readCabin 81 = .ok (.iconst 5, 1) := by decide +kernel
theorem dX11_readCabin_82 : decode cX11_readCabin 82 = .ok (.iconst 2, 1) := by decide +kernel
theorem dX11_readCabin_83 : decode cX11_readCabin 83 = .ok (.iload_n 1, 1) := by decide +kernel
theorem dX11_readCabin_84 : decode cX11_readCabin 84 = .ok (.imul, 1) := by decide +kernel
theorem dX11_readCabin_85 : decode cX11_readCabin 85 = .ok (.iadd, 1) := by decide +kernel
theorem dX11_readCabin_86 : decode cX11_readCabin 86 = .ok (.iconst 1, 1) := by decide +kernel
theorem dX11_readCabin_87 : decode cX11_readCabin 87 = .ok (.iadd, 1) := by decide +kernel
theorem dX11_readCabin_88 : decode cX11_readCabin 88 = .ok (.iconst 0, 1) := by decide +kernel
theorem dX11_readCabin_89 : decode cX11_readCabin 89 = .ok (.iastore, 1) := by decide +kernel
theorem dX11_readCabin_90 : decode cX11_readCabin 90 = .ok (.aload_n 0, 1) := by decide +kernel
theorem dX11_readCabin_91 : decode cX11_readCabin 91 = .ok (.invokevirtual 148, 3) := by decide +kernel
theorem dX11_readCabin_94 : decode cX11_readCabin 94 = .ok (.invokestatic 145, 3) := by decide +kernel
theorem dX11_readCabin_97 : decode cX11_readCabin 97 = .ok (.ifCond .eq 31, 3) := by decide +kernel
theorem dX11_readCabin_100 : decode cX11_readCabin 100 = .ok (.aload_n 0, 1) := by decide +kernel
theorem dX11_readCabin_101 : decode cX11_readCabin 101 = .ok (.iconst 0, 1) := by decide +kernel
theorem dX11_readCabin_102 : decode cX11_readCabin 102 = .ok (.bipush 50, 2) := by decide +kernel
theorem dX11_readCabin_104 : decode cX11_readCabin 104 = .ok (.invokevirtual 196, 3) := by decide +kernel
theorem dX11_readCabin_107 : decode cX11_readCabin 107 = .ok (.ifCond .ne 5, 3) := by decide +kernel
theorem dX11_readCabin_110 : decode cX11_readCabin 110 = .ok (.iconst 0, 1) := by decide +kernel
theorem dX11_readCabin_111 : decode cX11_readCabin 111 = .ok (.ireturn, 1) := by decide +kernel
theorem dX11_readCabin_112 : decode cX11_readCabin 112 = .ok (.aload_n 0, 1) := by decide +kernel
theorem dX11_readCabin_113 : decode cX11_readCabin 113 = .ok (.getfield 13, 3) := by decide +kernel
theorem dX11_readCabin_116 : decode cX11_readCabin 116 = .ok (.iconst 5, 1) := by decide +kernel
theorem dX11_readCabin_117 : decode cX11_readCabin 117 = .ok (.iconst 2, 1) := by decide +kernel
theorem dX11_readCabin_118 : decode cX11_readCabin 118 = .ok (.iload_n 1, 1) := by decide +kernel
theorem dX11_readCabin_119 : decode cX11_readCabin 119 = .ok (.imul, 1) := by decide +kernel
theorem dX11_readCabin_120 : decode cX11_readCabin 120 = .ok (.iadd, 1) := by decide +kernel
theorem dX11_readCabin_121 : decode cX11_readCabin 121 = .ok (.iconst 1, 1) := by decide +kernel
theorem dX11_readCabin_122 : decode cX11_readCabin 122 = .ok (.iadd, 1) := by decide +kernel
theorem dX11_readCabin_123 : decode cX11_readCabin 123 = .ok (.aload_n 0, 1) := by decide +kernel
theorem dX11_readCabin_124 : decode cX11_readCabin 124 = .ok (.getfield 169, 3) := by decide +kernel
theorem dX11_readCabin_127 : decode cX11_readCabin 127 = .ok (.iastore, 1) := by decide +kernel
theorem dX11_readCabin_128 : decode cX11_readCabin 128 = .ok (.aload_n 0, 1) := by decide +kernel
theorem dX11_readCabin_129 : decode cX11_readCabin 129 = .ok (.getfield 13, 3) := by decide +kernel
theorem dX11_readCabin_132 : decode cX11_readCabin 132 = .ok (.iconst 0, 1) := by decide +kernel
theorem dX11_readCabin_133 : decode cX11_readCabin 133 = .ok (.iload_n 1, 1) := by decide +kernel
theorem dX11_readCabin_134 : decode cX11_readCabin 134 = .ok (.iconst 1, 1) := by decide +kernel
theorem dX11_readCabin_135 : decode cX11_readCabin 135 = .ok (.iadd, 1) := by decide +kernel
theorem dX11_readCabin_136 : decode cX11_readCabin 136 = .ok (.iastore, 1) := by decide +kernel
theorem dX11_readCabin_137 : decode cX11_readCabin 137 = .ok (.iconst 1, 1) := by decide +kernel
theorem dX11_readCabin_138 : decode cX11_readCabin 138 = .ok (.ireturn, 1) := by decide +kernel
theorem dX11_readMenu_0 : decode cX11_readMenu 0 = .ok (.aload_n 0, 1) := by decide +kernel
theorem dX11_readMenu_1 : decode cX11_readMenu 1 = .ok (.ldc2_w 202, 3) := by decide +kernel
theorem dX11_readMenu_4 : decode cX11_readMenu 4 = .ok (.invokevirtual 204, 3) := by decide +kernel
theorem dX11_readMenu_7 : decode cX11_readMenu 7 = .ok (.ifCond .eq 23, 3) := by decide +kernel
theorem dX11_readMenu_10 : decode cX11_readMenu 10 = .ok (.aload_n 0, 1) := by decide +kernel
theorem dX11_readMenu_11 : decode cX11_readMenu 11 = .ok (.getfield 13, 3) := by decide +kernel
theorem dX11_readMenu_14 : decode cX11_readMenu 14 = .ok (.iload_n 1, 1) := by decide +kernel
theorem dX11_readMenu_15 : decode cX11_readMenu 15 = .ok (.iconst 0, 1) := by decide +kernel
theorem dX11_readMenu_16 : decode cX11_readMenu 16 = .ok (.iadd, 1) := by decide +kernel
theorem dX11_readMenu_17 : decode cX11_readMenu 17 = .ok (.iconst (-1), 1) := by decide +kernel
theorem dX11_readMenu_18 : decode cX11_readMenu 18 = .ok (.iastore, 1) := by decide +kernel
theorem dX11_readMenu_19 : decode cX11_readMenu 19 = .ok (.aload_n 0, 1) := by decide +kernel
theorem dX11_readMenu_20 : decode cX11_readMenu 20 = .ok (.getfield 13, 3) := by decide +kernel
theorem dX11_readMenu_23 : decode cX11_readMenu 23 = .ok (.iload_n 1, 1) := by decide +kernel
theorem dX11_readMenu_24 : decode cX11_readMenu 24 = .ok (.iconst 1, 1) := by decide +kernel
theorem dX11_readMenu_25 : decode cX11_readMenu 25 = .ok (.iadd, 1) := by decide +kernel
theorem dX11_readMenu_26 : decode cX11_readMenu 26 = .ok (.iconst 0, 1) := by decide +kernel
theorem dX11_readMenu_27 : decode cX11_readMenu 27 = .ok (.iastore, 1) := by decide +kernel
theorem dX11_readMenu_28 : decode cX11_readMenu 28 = .ok (.iconst 1, 1) := by decide +kernel
theorem dX11_readMenu_29 : decode cX11_readMenu 29 = .ok (.ireturn, 1) := by decide +kernel
theorem dX11_readMenu_30 : decode cX11_readMenu 30 = .ok (.aload_n 0, 1) := by decide +kernel
theorem dX11_readMenu_31 : decode cX11_readMenu 31 = .ok (.ldc2_w 208, 3) := by decide +kernel
theorem dX11_readMenu_34 : decode cX11_readMenu 34 = .ok (.invokevirtual 204, 3) := by decide +kernel
theorem dX11_readMenu_37 : decode cX11_readMenu 37 = .ok (.ifCond .ne 9, 3) := by decide +kernel
theorem dX11_readMenu_40 : decode cX11_readMenu 40 = .ok (.aload_n 0, 1) := by decide +kernel
theorem dX11_readMenu_41 : decode cX11_readMenu 41 = .ok (.iconst 1, 1) := by decide +kernel
theorem dX11_readMenu_42 : decode cX11_readMenu 42 = .ok (.invokevirtual 166, 3) := by decide +kernel
theorem dX11_readMenu_45 : decode cX11_readMenu 45 = .ok (.ireturn, 1) := by decide +kernel
theorem dX11_readMenu_46 : decode cX11_readMenu 46 = .ok (.aload_n 0, 1) := by decide +kernel
theorem dX11_readMenu_47 : decode cX11_readMenu 47 = .ok (.invokevirtual 210, 3) := by decide +kernel
theorem dX11_readMenu_50 : decode cX11_readMenu 50 = .ok (.ifCond .ne 5, 3) := by decide +kernel
theorem dX11_readMenu_53 : decode cX11_readMenu 53 = .ok (.iconst 0, 1) := by decide +kernel
theorem dX11_readMenu_54 : decode cX11_readMenu 54 = .ok (.ireturn, 1) := by decide +kernel
theorem dX11_readMenu_55 : decode cX11_readMenu 55 = .ok (.aload_n 0, 1) := by decide +kernel
theorem dX11_readMenu_56 : decode cX11_readMenu 56 = .ok (.getfield 13, 3) := by decide +kernel
theorem dX11_readMenu_59 : decode cX11_readMenu 59 = .ok (.iload_n 1, 1) := by decide +kernel
theorem dX11_readMenu_60 : decode cX11_readMenu 60 = .ok (.iconst 0, 1) := by decide +kernel
theorem dX11_readMenu_61 : decode cX11_readMenu 61 = .ok (.iadd, 1) := by decide +kernel
theorem dX11_readMenu_62 : decode cX11_readMenu 62 = .ok (.aload_n 0, 1) := by decide +kernel
theorem dX11_readMenu_63 : decode cX11_readMenu 63 = .ok (.getfield 184, 3) := by decide +kernel
theorem dX11_readMenu_66 : decode cX11_readMenu 66 = .ok (.iastore, 1) := by decide +kernel
theorem dX11_readMenu_67 : decode cX11_readMenu 67 = .ok (.aload_n 0, 1) := by decide +kernel
theorem dX11_readMenu_68 : decode cX11_readMenu 68 = .ok (.iconst 1, 1) := by decide +kernel
theorem dX11_readMenu_69 : decode cX11_readMenu 69 = .ok (.bipush 99, 2) := by decide +kernel
theorem dX11_readMenu_71 : decode cX11_readMenu 71 = .ok (.invokevirtual 196, 3) := by decide +kernel
theorem dX11_readMenu_74 : decode cX11_readMenu 74 = .ok (.ifCond .ne 5, 3) := by decide +kernel
theorem dX11_readMenu_77 : decode cX11_readMenu 77 = .ok (.iconst 0, 1) := by decide +kernel
