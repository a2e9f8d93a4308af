theorem dL_type_52 : decode cL_type 52 = .ok (.iconst 4, 1) := by decide +kernel
theorem dL_type_53 : decode cL_type 53 = .ok (.idiv, 1) := by decide +kernel
theorem dL_type_54 : decode cL_type 54 = .ok (.iaload, 1) := by decide +kernel
theorem dL_type_55 : decode cL_type 55 = .ok (.bipush 8, 2) := by decide +kernel
theorem dL_type_57 : decode cL_type 57 = .ok (.ishl, 1) := by decide +kernel
theorem dL_type_58 : decode cL_type 58 = .ok (.iload_n 2, 1) := by decide +kernel
theorem dL_type_59 : decode cL_type 59 = .ok (.iload 4, 2) := by decide +kernel
theorem dL_type_61 : decode cL_type 61 = .ok (.iadd, 1) := by decide +kernel
theorem dL_type_62 : decode cL_type 62 = .ok (.aload_n 1, 1) := by decide +kernel
theorem dL_type_63 : decode cL_type 63 = .ok (.invokevirtual 8, 3) := by decide +kernel
theorem dL_type_66 : decode cL_type 66 = .ok (.if_icmp .ge 14, 3) := by decide +kernel
theorem dL_type_69 : decode cL_type 69 = .ok (.aload_n 1, 1) := by decide +kernel
theorem dL_type_70 : decode cL_type 70 = .ok (.iload_n 2, 1) := by decide +kernel
theorem dL_type_71 : decode cL_type 71 = .ok (.iload 4, 2) := by decide +kernel
theorem dL_type_73 : decode cL_type 73 = .ok (.iadd, 1) := by decide +kernel
theorem dL_type_74 : decode cL_type 74 = .ok (.invokevirtual 14, 3) := by decide +kernel
theorem dL_type_77 : decode cL_type 77 = .ok (.goto 5, 3) := by decide +kernel
theorem dL_type_80 : decode cL_type 80 = .ok (.bipush 32, 2) := by decide +kernel
theorem dL_type_82 : decode cL_type 82 = .ok (.ior, 1) := by decide +kernel
theorem dL_type_83 : decode cL_type 83 = .ok (.iastore, 1) := by decide +kernel
theorem dL_type_84 : decode cL_type 84 = .ok (.iinc 4 1, 3) := by decide +kernel
theorem dL_type_87 : decode cL_type 87 = .ok (.goto (-50), 3) := by decide +kernel
theorem dL_type_90 : decode cL_type 90 = .ok (.aload_n 0, 1) := by decide +kernel
theorem dL_type_91 : decode cL_type 91 = .ok (.aload_n 3, 1) := by decide +kernel
theorem dL_type_92 : decode cL_type 92 = .ok (.iconst 0, 1) := by decide +kernel
theorem dL_type_93 : decode cL_type 93 = .ok (.iaload, 1) := by decide +kernel
theorem dL_type_94 : decode cL_type 94 = .ok (.aload_n 3, 1) := by decide +kernel
theorem dL_type_95 : decode cL_type 95 = .ok (.iconst 1, 1) := by decide +kernel
theorem dL_type_96 : decode cL_type 96 = .ok (.iaload, 1) := by decide +kernel
theorem dL_type_97 : decode cL_type 97 = .ok (.aload_n 3, 1) := by decide +kernel
theorem dL_type_98 : decode cL_type 98 = .ok (.iconst 2, 1) := by decide +kernel
theorem dL_type_99 : decode cL_type 99 = .ok (.iaload, 1) := by decide +kernel
theorem dL_type_100 : decode cL_type 100 = .ok (.aload_n 3, 1) := by decide +kernel
theorem dL_type_101 : decode cL_type 101 = .ok (.iconst 3, 1) := by decide +kernel
theorem dL_type_102 : decode cL_type 102 = .ok (.iaload, 1) := by decide +kernel
theorem dL_type_103 : decode cL_type 103 = .ok (.aload_n 3, 1) := by decide +kernel
theorem dL_type_104 : decode cL_type 104 = .ok (.iconst 4, 1) := by decide +kernel
theorem dL_type_105 : decode cL_type 105 = .ok (.iaload, 1) := by decide +kernel
theorem dL_type_106 : decode cL_type 106 = .ok (.invokevirtual 18, 3) := by decide +kernel
theorem dL_type_109 : decode cL_type 109 = .ok (.pop, 1) := by decide +kernel
theorem dL_type_110 : decode cL_type 110 = .ok (.iinc 2 20, 3) := by decide +kernel
theorem dL_type_113 : decode cL_type 113 = .ok (.goto (-111), 3) := by decide +kernel
theorem dL_type_116 : decode cL_type 116 = .ok (.aload_n 1, 1) := by decide +kernel
theorem dL_type_117 : decode cL_type 117 = .ok (.invokevirtual 8, 3) := by decide +kernel
theorem dL_type_120 : decode cL_type 120 = .ok (.ireturn, 1) := by decide +kernel
theorem dL_load_0 : decode cL_load 0 = .ok (.aload_n 0, 1) := by decide +kernel
theorem dL_load_1 : decode cL_load 1 = .ok (.aload_n 1, 1) := by decide +kernel
theorem dL_load_2 : decode cL_load 2 = .ok (.invokestatic 24, 3) := by decide +kernel
theorem dL_load_5 : decode cL_load 5 = .ok (.istore_n 2, 1) := by decide +kernel
theorem dL_load_6 : decode cL_load 6 = .ok (.aload_n 0, 1) := by decide +kernel
theorem dL_load_7 : decode cL_load 7 = .ok (.iload_n 2, 1) := by decide +kernel
theorem dL_load_8 : decode cL_load 8 = .ok (.invokevirtual 30, 3) := by decide +kernel
theorem dL_load_11 : decode cL_load 11 = .ok (.ireturn, 1) := by decide +kernel
theorem dL_load_12 : decode cL_load 12 = .ok (.astore_n 3, 1) := by decide +kernel
theorem dL_load_13 : decode cL_load 13 = .ok (.iconst (-1), 1) := by decide +kernel
theorem dL_load_14 : decode cL_load 14 = .ok (.ireturn, 1) := by decide +kernel
theorem dL_diets_0 : decode cL_diets 0 = .ok (.new 36, 3) := by decide +kernel
theorem dL_diets_3 : decode cL_diets 3 = .ok (.dup, 1) := by decide +kernel
theorem dL_diets_4 : decode cL_diets 4 = .ok (.invokespecial 38, 3) := by decide +kernel
theorem dL_diets_7 : decode cL_diets 7 = .ok (.astore_n 2, 1) := by decide +kernel
theorem dL_diets_8 : decode cL_diets 8 = .ok (.iconst 0, 1) := by decide +kernel
theorem dL_diets_9 : decode cL_diets 9 = .ok (.istore_n 3, 1) := by decide +kernel
theorem dL_diets_10 : decode cL_diets 10 = .ok (.iload_n 3, 1) := by decide +kernel
theorem dL_diets_11 : decode cL_diets 11 = .ok (.iload_n 1, 1) := by decide +kernel
theorem dL_diets_12 : decode cL_diets 12 = .ok (.if_icmp .ge 28, 3) := by decide +kernel
theorem dL_diets_15 : decode cL_diets 15 = .ok (.aload_n 0, 1) := by decide +kernel
theorem dL_diets_16 : decode cL_diets 16 = .ok (.invokestatic 39, 3) := by decide +kernel
theorem dL_diets_19 : decode cL_diets 19 = .ok (.iconst 2, 1) := by decide +kernel
theorem dL_diets_20 : decode cL_diets 20 = .ok (.irem, 1) := by decide +kernel
theorem dL_diets_21 : decode cL_diets 21 = .ok (.ifCond .ne 13, 3) := by decide +kernel
theorem dL_diets_24 : decode cL_diets 24 = .ok (.aload_n 2, 1) := by decide +kernel
theorem dL_diets_25 : decode cL_diets 25 = .ok (.bipush 97, 2) := by decide +kernel
theorem dL_diets_27 : decode cL_diets 27 = .ok (.iload_n 3, 1) := by decide +kernel
theorem dL_diets_28 : decode cL_diets 28 = .ok (.iadd, 1) := by decide +kernel
theorem dL_diets_29 : decode cL_diets 29 = .ok (.i2c, 1) := by decide +kernel
theorem dL_diets_30 : decode cL_diets 30 = .ok (.invokevirtual 43, 3) := by decide +kernel
theorem dL_diets_33 : decode cL_diets 33 = .ok (.pop, 1) := by decide +kernel
theorem dL_diets_34 : decode cL_diets 34 = .ok (.iinc 3 1, 3) := by decide +kernel
theorem dL_diets_37 : decode cL_diets 37 = .ok (.goto (-27), 3) := by decide +kernel
theorem dL_diets_40 : decode cL_diets 40 = .ok (.aload_n 2, 1) := by decide +kernel
theorem dL_diets_41 : decode cL_diets 41 = .ok (.invokevirtual 47, 3) := by decide +kernel
theorem dL_diets_44 : decode cL_diets 44 = .ok (.ifCond .ne 8, 3) := by decide +kernel
theorem dL_diets_47 : decode cL_diets 47 = .ok (.ldc 48, 2) := by decide +kernel
theorem dL_diets_49 : decode cL_diets 49 = .ok (.goto 7, 3) := by decide +kernel
theorem dL_diets_52 : decode cL_diets 52 = .ok (.aload_n 2, 1) := by decide +kernel
theorem dL_diets_53 : decode cL_diets 53 = .ok (.invokevirtual 50, 3) := by decide +kernel
theorem dL_diets_56 : decode cL_diets 56 = .ok (.areturn, 1) := by decide +kernel
theorem dL_flight_0 : decode cL_flight 0 = .ok (.new 36, 3) := by decide +kernel
theorem dL_flight_3 : decode cL_flight 3 = .ok (.dup, 1) := by decide +kernel
theorem dL_flight_4 : decode cL_flight 4 = .ok (.ldc 54, 2) := by decide +kernel
theorem dL_flight_6 : decode cL_flight 6 = .ok (.invokespecial 56, 3) := by decide +kernel
theorem dL_flight_9 : decode cL_flight 9 = .ok (.bipush 30, 2) := by decide +kernel
theorem dL_flight_11 : decode cL_flight 11 = .ok (.aload_n 0, 1) := by decide +kernel
theorem dL_flight_12 : decode cL_flight 12 = .ok (.invokestatic 39, 3) := by decide +kernel
theorem dL_flight_15 : decode cL_flight 15 = .ok (.bipush 60, 2) := by decide +kernel
theorem dL_flight_17 : decode cL_flight 17 = .ok (.irem, 1) := by decide +kernel
theorem dL_flight_18 : decode cL_flight 18 = .ok (.iadd, 1) := by decide +kernel
theorem dL_flight_19 : decode cL_flight 19 = .ok (.invokevirtual 59, 3) := by decide +kernel
theorem dL_flight_22 : decode cL_flight 22 = .ok (.bipush 32, 2) := by decide +kernel
theorem dL_flight_24 : decode cL_flight 24 = .ok (.invokevirtual 43, 3) := by decide +kernel
theorem dL_flight_27 : decode cL_flight 27 = .ok (.aload_n 0, 1) := by decide +kernel
theorem dL_flight_28 : decode cL_flight 28 = .ok (.invokestatic 39, 3) := by decide +kernel
theorem dL_flight_31 : decode cL_flight 31 = .ok (.bipush 30, 2) := by decide +kernel
theorem dL_flight_33 : decode cL_flight 33 = .ok (.irem, 1) := by decide +kernel
theorem dL_flight_34 : decode cL_flight 34 = .ok (.invokevirtual 59, 3) := by decide +kernel
theorem dL_flight_37 : decode cL_flight 37 = .ok (.ldc 62, 2) := by decide +kernel
theorem dL_flight_39 : decode cL_flight 39 = .ok (.invokevirtual 64, 3) := by decide +kernel
theorem dL_flight_42 : decode cL_flight 42 = .ok (.aload_n 0, 1) := by decide +kernel
theorem dL_flight_43 : decode cL_flight 43 = .ok (.invokestatic 39, 3) := by decide +kernel
theorem dL_flight_46 : decode cL_flight 46 = .ok (.iconst 3, 1) := by decide +kernel
theorem dL_flight_47 : decode cL_flight 47 = .ok (.irem, 1) := by decide +kernel
theorem dL_flight_48 : decode cL_flight 48 = .ok (.iconst 5, 1) := by decide +kernel
theorem dL_flight_49 : decode cL_flight 49 = .ok (.imul, 1) := by decide +kernel
theorem dL_flight_50 : decode cL_flight 50 = .ok (.invokevirtual 59, 3) := by decide +kernel
theorem dL_flight_53 : decode cL_flight 53 = .ok (.ldc 67, 2) := by decide +kernel
theorem dL_flight_55 : decode cL_flight 55 = .ok (.invokevirtual 64, 3) := by decide +kernel
theorem dL_flight_58 : decode cL_flight 58 = .ok (.aload_n 0, 1) := by decide +kernel
theorem dL_flight_59 : decode cL_flight 59 = .ok (.invokestatic 39, 3) := by decide +kernel
theorem dL_flight_62 : decode cL_flight 62 = .ok (.bipush 51, 2) := by decide +kernel
theorem dL_flight_64 : decode cL_flight 64 = .ok (.irem, 1) := by decide +kernel
theorem dL_flight_65 : decode cL_flight 65 = .ok (.invokevirtual 59, 3) := by decide +kernel
theorem dL_flight_68 : decode cL_flight 68 = .ok (.ldc 69, 2) := by decide +kernel
theorem dL_flight_70 : decode cL_flight 70 = .ok (.invokevirtual 64, 3) := by decide +kernel
theorem dL_flight_73 : decode cL_flight 73 = .ok (.astore_n 1, 1) := by decide +kernel
theorem dL_flight_74 : decode cL_flight 74 = .ok (.iconst 4, 1) := by decide +kernel
theorem dL_flight_75 : decode cL_flight 75 = .ok (.aload_n 0, 1) := by decide +kernel
theorem dL_flight_76 : decode cL_flight 76 = .ok (.invokestatic 39, 3) := by decide +kernel
theorem dL_flight_79 : decode cL_flight 79 = .ok (.iconst 4, 1) := by decide +kernel
theorem dL_flight_80 : decode cL_flight 80 = .ok (.irem, 1) := by decide +kernel
theorem dL_flight_81 : decode cL_flight 81 = .ok (.iadd, 1) := by decide +kernel
theorem dL_flight_82 : decode cL_flight 82 = .ok (.istore_n 2, 1) := by decide +kernel
theorem dL_flight_83 : decode cL_flight 83 = .ok (.iload_n 2, 1) := by decide +kernel
theorem dL_flight_84 : decode cL_flight 84 = .ok (.ifCond .le 151, 3) := by decide +kernel
theorem dL_flight_87 : decode cL_flight 87 = .ok (.aload_n 1, 1) := by decide +kernel
theorem dL_flight_88 : decode cL_flight 88 = .ok (.ldc 71, 2) := by decide +kernel
theorem dL_flight_90 : decode cL_flight 90 = .ok (.invokevirtual 64, 3) := by decide +kernel
theorem dL_flight_93 : decode cL_flight 93 = .ok (.bipush 97, 2) := by decide +kernel
theorem dL_flight_95 : decode cL_flight 95 = .ok (.iload_n 2, 1) := by decide +kernel
theorem dL_flight_96 : decode cL_flight 96 = .ok (.iadd, 1) := by decide +kernel
theorem dL_flight_97 : decode cL_flight 97 = .ok (.i2c, 1) := by decide +kernel
theorem dL_flight_98 : decode cL_flight 98 = .ok (.invokevirtual 43, 3) := by decide +kernel
theorem dL_flight_101 : decode cL_flight 101 = .ok (.aload_n 0, 1) := by decide +kernel
theorem dL_flight_102 : decode cL_flight 102 = .ok (.invokestatic 39, 3) := by decide +kernel
theorem dL_flight_105 : decode cL_flight 105 = .ok (.iconst 3, 1) := by decide +kernel
theorem dL_flight_106 : decode cL_flight 106 = .ok (.irem, 1) := by decide +kernel
theorem dL_flight_107 : decode cL_flight 107 = .ok (.ifCond .ne 8, 3) := by decide +kernel
theorem dL_flight_110 : decode cL_flight 110 = .ok (.ldc 73, 2) := by decide +kernel
theorem dL_flight_112 : decode cL_flight 112 = .ok (.goto 54, 3) := by decide +kernel
theorem dL_flight_115 : decode cL_flight 115 = .ok (.new 36, 3) := by decide +kernel
theorem dL_flight_118 : decode cL_flight 118 = .ok (.dup, 1) := by decide +kernel
theorem dL_flight_119 : decode cL_flight 119 = .ok (.invokespecial 38, 3) := by decide +kernel
theorem dL_flight_122 : decode cL_flight 122 = .ok (.ldc 75, 2) := by decide +kernel
theorem dL_flight_124 : decode cL_flight 124 = .ok (.invokevirtual 64, 3) := by decide +kernel
theorem dL_flight_127 : decode cL_flight 127 = .ok (.aload_n 0, 1) := by decide +kernel
theorem dL_flight_128 : decode cL_flight 128 = .ok (.invokestatic 39, 3) := by decide +kernel
theorem dL_flight_131 : decode cL_flight 131 = .ok (.iconst 2, 1) := by decide +kernel
theorem dL_flight_132 : decode cL_flight 132 = .ok (.irem, 1) := by decide +kernel
theorem dL_flight_133 : decode cL_flight 133 = .ok (.ifCond .ne 8, 3) := by decide +kernel
theorem dL_flight_136 : decode cL_flight 136 = .ok (.ldc 77, 2) := by decide +kernel
theorem dL_flight_138 : decode cL_flight 138 = .ok (.goto 5, 3) := by decide +kernel
theorem dL_flight_141 : decode cL_flight 141 = .ok (.ldc 79, 2) := by decide +kernel
theorem dL_flight_143 : decode cL_flight 143 = .ok (.invokevirtual 64, 3) := by decide +kernel
theorem dL_flight_146 : decode cL_flight 146 = .ok (.iconst 1, 1) := by decide +kernel
theorem dL_flight_147 : decode cL_flight 147 = .ok (.aload_n 0, 1) := by decide +kernel
theorem dL_flight_148 : decode cL_flight 148 = .ok (.invokestatic 39, 3) := by decide +kernel
theorem dL_flight_151 : decode cL_flight 151 = .ok (.bipush 9, 2) := by decide +kernel
theorem dL_flight_153 : decode cL_flight 153 = .ok (.irem, 1) := by decide +kernel
theorem dL_flight_154 : decode cL_flight 154 = .ok (.iadd, 1) := by decide +kernel
theorem dL_flight_155 : decode cL_flight 155 = .ok (.invokevirtual 59, 3) := by decide +kernel
theorem dL_flight_158 : decode cL_flight 158 = .ok (.ldc 81, 2) := by decide +kernel
theorem dL_flight_160 : decode cL_flight 160 = .ok (.invokevirtual 64, 3) := by decide +kernel
theorem dL_flight_163 : decode cL_flight 163 = .ok (.invokevirtual 50, 3) := by decide +kernel
theorem dL_flight_166 : decode cL_flight 166 = .ok (.invokevirtual 64, 3) := by decide +kernel
theorem dL_flight_169 : decode cL_flight 169 = .ok (.iconst 1, 1) := by decide +kernel
theorem dL_flight_170 : decode cL_flight 170 = .ok (.aload_n 0, 1) := by decide +kernel
theorem dL_flight_171 : decode cL_flight 171 = .ok (.invokestatic 39, 3) := by decide +kernel
theorem dL_flight_174 : decode cL_flight 174 = .ok (.iconst 3, 1) := by decide +kernel
theorem dL_flight_175 : decode cL_flight 175 = .ok (.irem, 1) := by decide +kernel
theorem dL_flight_176 : decode cL_flight 176 = .ok (.iadd, 1) := by decide +kernel
theorem dL_flight_177 : decode cL_flight 177 = .ok (.invokevirtual 59, 3) := by decide +kernel
theorem dL_flight_180 : decode cL_flight 180 = .ok (.bipush 32, 2) := by decide +kernel
theorem dL_flight_182 : decode cL_flight 182 = .ok (.invokevirtual 43, 3) := by decide +kernel
theorem dL_flight_185 : decode cL_flight 185 = .ok (.iconst 1, 1) := by decide +kernel
theorem dL_flight_186 : decode cL_flight 186 = .ok (.aload_n 0, 1) := by decide +kernel
theorem dL_flight_187 : decode cL_flight 187 = .ok (.invokestatic 39, 3) := by decide +kernel
theorem dL_flight_190 : decode cL_flight 190 = .ok (.bipush 30, 2) := by decide +kernel
theorem dL_flight_192 : decode cL_flight 192 = .ok (.irem, 1) := by decide +kernel
theorem dL_flight_193 : decode cL_flight 193 = .ok (.iadd, 1) := by decide +kernel
theorem dL_flight_194 : decode cL_flight 194 = .ok (.invokevirtual 59, 3) := by decide +kernel
theorem dL_flight_197 : decode cL_flight 197 = .ok (.pop, 1) := by decide +kernel
theorem dL_flight_198 : decode cL_flight 198 = .ok (.aload_n 0, 1) := by decide +kernel
theorem dL_flight_199 : decode cL_flight 199 = .ok (.invokestatic 39, 3) := by decide +kernel
theorem dL_flight_202 : decode cL_flight 202 = .ok (.iconst 3, 1) := by decide +kernel
theorem dL_flight_203 : decode cL_flight 203 = .ok (.irem, 1) := by decide +kernel
theorem dL_flight_204 : decode cL_flight 204 = .ok (.ifCond .le 18, 3) := by decide +kernel
theorem dL_flight_207 : decode cL_flight 207 = .ok (.aload_n 1, 1) := by decide +kernel
theorem dL_flight_208 : decode cL_flight 208 = .ok (.ldc 83, 2) := by decide +kernel
theorem dL_flight_210 : decode cL_flight 210 = .ok (.invokevirtual 64, 3) := by decide +kernel
theorem dL_flight_213 : decode cL_flight 213 = .ok (.aload_n 0, 1) := by decide +kernel
theorem dL_flight_214 : decode cL_flight 214 = .ok (.iconst 3, 1) := by decide +kernel
theorem dL_flight_215 : decode cL_flight 215 = .ok (.invokestatic 85, 3) := by decide +kernel
theorem dL_flight_218 : decode cL_flight 218 = .ok (.invokevirtual 64, 3) := by decide +kernel
theorem dL_flight_221 : decode cL_flight 221 = .ok (.pop, 1) := by decide +kernel
theorem dL_flight_222 : decode cL_flight 222 = .ok (.aload_n 1, 1) := by decide +kernel
theorem dL_flight_223 : decode cL_flight 223 = .ok (.bipush 59, 2) := by decide +kernel
theorem dL_flight_225 : decode cL_flight 225 = .ok (.invokevirtual 43, 3) := by decide +kernel
theorem dL_flight_228 : decode cL_flight 228 = .ok (.pop, 1) := by decide +kernel
theorem dL_flight_229 : decode cL_flight 229 = .ok (.iinc 2 (-1), 3) := by decide +kernel
theorem dL_flight_232 : decode cL_flight 232 = .ok (.goto (-149), 3) := by decide +kernel
theorem dL_flight_235 : decode cL_flight 235 = .ok (.iconst 1, 1) := by decide +kernel
theorem dL_flight_236 : decode cL_flight 236 = .ok (.aload_n 0, 1) := by decide +kernel
theorem dL_flight_237 : decode cL_flight 237 = .ok (.invokestatic 39, 3) := by decide +kernel
theorem dL_flight_240 : decode cL_flight 240 = .ok (.iconst 4, 1) := by decide +kernel
theorem dL_flight_241 : decode cL_flight 241 = .ok (.irem, 1) := by decide +kernel
theorem dL_flight_242 : decode cL_flight 242 = .ok (.iadd, 1) := by decide +kernel
theorem dL_flight_243 : decode cL_flight 243 = .ok (.istore_n 2, 1) := by decide +kernel
theorem dL_flight_244 : decode cL_flight 244 = .ok (.iload_n 2, 1) := by decide +kernel
theorem dL_flight_245 : decode cL_flight 245 = .ok (.ifCond .le 52, 3) := by decide +kernel
theorem dL_flight_248 : decode cL_flight 248 = .ok (.aload_n 1, 1) := by decide +kernel
theorem dL_flight_249 : decode cL_flight 249 = .ok (.ldc 89, 2) := by decide +kernel
theorem dL_flight_251 : decode cL_flight 251 = .ok (.invokevirtual 64, 3) := by decide +kernel
theorem dL_flight_254 : decode cL_flight 254 = .ok (.aload_n 0, 1) := by decide +kernel
theorem dL_flight_255 : decode cL_flight 255 = .ok (.invokestatic 39, 3) := by decide +kernel
theorem dL_flight_258 : decode cL_flight 258 = .ok (.iconst 2, 1) := by decide +kernel
theorem dL_flight_259 : decode cL_flight 259 = .ok (.irem, 1) := by decide +kernel
theorem dL_flight_260 : decode cL_flight 260 = .ok (.ifCond .ne 8, 3) := by decide +kernel
theorem dL_flight_263 : decode cL_flight 263 = .ok (.ldc 77, 2) := by decide +kernel
theorem dL_flight_265 : decode cL_flight 265 = .ok (.goto 5, 3) := by decide +kernel
theorem dL_flight_268 : decode cL_flight 268 = .ok (.ldc 79, 2) := by decide +kernel
theorem dL_flight_270 : decode cL_flight 270 = .ok (.invokevirtual 64, 3) := by decide +kernel
theorem dL_flight_273 : decode cL_flight 273 = .ok (.iconst 1, 1) := by decide +kernel
theorem dL_flight_274 : decode cL_flight 274 = .ok (.aload_n 0, 1) := by decide +kernel
theorem dL_flight_275 : decode cL_flight 275 = .ok (.invokestatic 39, 3) := by decide +kernel
theorem dL_flight_278 : decode cL_flight 278 = .ok (.bipush 12, 2) := by decide +kernel
theorem dL_flight_280 : decode cL_flight 280 = .ok (.irem, 1) := by decide +kernel
theorem dL_flight_281 : decode cL_flight 281 = .ok (.iadd, 1) := by decide +kernel
theorem dL_flight_282 : decode cL_flight 282 = .ok (.invokevirtual 59, 3) := by decide +kernel
theorem dL_flight_285 : decode cL_flight 285 = .ok (.bipush 59, 2) := by decide +kernel
theorem dL_flight_287 : decode cL_flight 287 = .ok (.invokevirtual 43, 3) := by decide +kernel
theorem dL_flight_290 : decode cL_flight 290 = .ok (.pop, 1) := by decide +kernel
theorem dL_flight_291 : decode cL_flight 291 = .ok (.iinc 2 (-1), 3) := by decide +kernel
theorem dL_flight_294 : decode cL_flight 294 = .ok (.goto (-50), 3) := by decide +kernel
theorem dL_flight_297 : decode cL_flight 297 = .ok (.aload_n 1, 1) := by decide +kernel
theorem dL_flight_298 : decode cL_flight 298 = .ok (.ldc 91, 2) := by decide +kernel
theorem dL_flight_300 : decode cL_flight 300 = .ok (.invokevirtual 64, 3) := by decide +kernel
theorem dL_flight_303 : decode cL_flight 303 = .ok (.iconst 1, 1) := by decide +kernel
theorem dL_flight_304 : decode cL_flight 304 = .ok (.aload_n 0, 1) := by decide +kernel
theorem dL_flight_305 : decode cL_flight 305 = .ok (.invokestatic 39, 3) := by decide +kernel
theorem dL_flight_308 : decode cL_flight 308 = .ok (.iconst 3, 1) := by decide +kernel
theorem dL_flight_309 : decode cL_flight 309 = .ok (.irem, 1) := by decide +kernel
theorem dL_flight_310 : decode cL_flight 310 = .ok (.iadd, 1) := by decide +kernel
theorem dL_flight_311 : decode cL_flight 311 = .ok (.invokevirtual 59, 3) := by decide +kernel
theorem dL_flight_314 : decode cL_flight 314 = .ok (.ldc 93, 2) := by decide +kernel
theorem dL_flight_316 : decode cL_flight 316 = .ok (.invokevirtual 64, 3) := by decide +kernel
theorem dL_flight_319 : decode cL_flight 319 = .ok (.iconst 1, 1) := by decide +kernel
theorem dL_flight_320 : decode cL_flight 320 = .ok (.aload_n 0, 1) := by decide +kernel
theorem dL_flight_321 : decode cL_flight 321 = .ok (.invokestatic 39, 3) := by decide +kernel
theorem dL_flight_324 : decode cL_flight 324 = .ok (.iconst 2, 1) := by decide +kernel
theorem dL_flight_325 : decode cL_flight 325 = .ok (.irem, 1) := by decide +kernel
theorem dL_flight_326 : decode cL_flight 326 = .ok (.iadd, 1) := by decide +kernel
theorem dL_flight_327 : decode cL_flight 327 = .ok (.invokevirtual 59, 3) := by decide +kernel
theorem dL_flight_330 : decode cL_flight 330 = .ok (.bipush 59, 2) := by decide +kernel
theorem dL_flight_332 : decode cL_flight 332 = .ok (.invokevirtual 43, 3) := by decide +kernel
theorem dL_flight_335 : decode cL_flight 335 = .ok (.pop, 1) := by decide +kernel
theorem dL_flight_336 : decode cL_flight 336 = .ok (.aload_n 0, 1) := by decide +kernel
theorem dL_flight_337 : decode cL_flight 337 = .ok (.invokestatic 39, 3) := by decide +kernel
theorem dL_flight_340 : decode cL_flight 340 = .ok (.iconst 4, 1) := by decide +kernel
theorem dL_flight_341 : decode cL_flight 341 = .ok (.irem, 1) := by decide +kernel
theorem dL_flight_342 : decode cL_flight 342 = .ok (.istore_n 2, 1) := by decide +kernel
theorem dL_flight_343 : decode cL_flight 343 = .ok (.iload_n 2, 1) := by decide +kernel
theorem dL_flight_344 : decode cL_flight 344 = .ok (.ifCond .le 45, 3) := by decide +kernel
theorem dL_flight_347 : decode cL_flight 347 = .ok (.aload_n 1, 1) := by decide +kernel
theorem dL_flight_348 : decode cL_flight 348 = .ok (.ldc 95, 2) := by decide +kernel
theorem dL_flight_350 : decode cL_flight 350 = .ok (.invokevirtual 64, 3) := by decide +kernel
theorem dL_flight_353 : decode cL_flight 353 = .ok (.iload_n 2, 1) := by decide +kernel
theorem dL_flight_354 : decode cL_flight 354 = .ok (.iconst 2, 1) := by decide +kernel
theorem dL_flight_355 : decode cL_flight 355 = .ok (.irem, 1) := by decide +kernel
theorem dL_flight_356 : decode cL_flight 356 = .ok (.ifCond .ne 8, 3) := by decide +kernel
theorem dL_flight_359 : decode cL_flight 359 = .ok (.ldc 97, 2) := by decide +kernel
theorem dL_flight_361 : decode cL_flight 361 = .ok (.goto 5, 3) := by decide +kernel
theorem dL_flight_364 : decode cL_flight 364 = .ok (.ldc 99, 2) := by decide +kernel
theorem dL_flight_366 : decode cL_flight 366 = .ok (.invokevirtual 64, 3) := by decide +kernel
theorem dL_flight_369 : decode cL_flight 369 = .ok (.aload_n 0, 1) := by decide +kernel
theorem dL_flight_370 : decode cL_flight 370 = .ok (.iconst 3, 1) := by decide +kernel
theorem dL_flight_371 : decode cL_flight 371 = .ok (.invokestatic 85, 3) := by decide +kernel
theorem dL_flight_374 : decode cL_flight 374 = .ok (.invokevirtual 64, 3) := by decide +kernel
theorem dL_flight_377 : decode cL_flight 377 = .ok (.bipush 59, 2) := by decide +kernel
theorem dL_flight_379 : decode cL_flight 379 = .ok (.invokevirtual 43, 3) := by decide +kernel
theorem dL_flight_382 : decode cL_flight 382 = .ok (.pop, 1) := by decide +kernel
theorem dL_flight_383 : decode cL_flight 383 = .ok (.iinc 2 (-1), 3) := by decide +kernel
theorem dL_flight_386 : decode cL_flight 386 = .ok (.goto (-43), 3) := by decide +kernel
theorem dL_flight_389 : decode cL_flight 389 = .ok (.aload_n 1, 1) := by decide +kernel
theorem dL_flight_390 : decode cL_flight 390 = .ok (.invokevirtual 50, 3) := by decide +kernel
theorem dL_flight_393 : decode cL_flight 393 = .ok (.areturn, 1) := by decide +kernel
theorem dL_undone_0 : decode cL_undone 0 = .ok (.aload_n 0, 1) := by decide +kernel
theorem dL_undone_1 : decode cL_undone 1 = .ok (.invokevirtual 101, 3) := by decide +kernel
theorem dL_undone_4 : decode cL_undone 4 = .ok (.ireturn, 1) := by decide +kernel
theorem dL_undone_5 : decode cL_undone 5 = .ok (.astore_n 1, 1) := by decide +kernel
theorem dL_undone_6 : decode cL_undone 6 = .ok (.bipush (-2), 2) := by decide +kernel
theorem dL_undone_8 : decode cL_undone 8 = .ok (.ireturn, 1) := by decide +kernel
theorem dL_boarded_0 : decode cL_boarded 0 = .ok (.aload_n 0, 1) := by decide +kernel
theorem dL_boarded_1 : decode cL_boarded 1 = .ok (.iload_n 1, 1) := by decide +kernel
theorem dL_boarded_2 : decode cL_boarded 2 = .ok (.iload_n 2, 1) := by decide +kernel
theorem dL_boarded_3 : decode cL_boarded 3 = .ok (.iload_n 3, 1) := by decide +kernel
theorem dL_boarded_4 : decode cL_boarded 4 = .ok (.invokevirtual 104, 3) := by decide +kernel
theorem dL_boarded_7 : decode cL_boarded 7 = .ok (.ireturn, 1) := by decide +kernel
theorem dL_boarded_8 : decode cL_boarded 8 = .ok (.astore 4, 2) := by decide +kernel
theorem dL_boarded_10 : decode cL_boarded 10 = .ok (.bipush (-2), 2) := by decide +kernel
theorem dL_boarded_12 : decode cL_boarded 12 = .ok (.ireturn, 1) := by decide +kernel
theorem dL_boarded_13 : decode cL_boarded 13 = .ok (.astore 4, 2) := by decide +kernel
theorem dL_boarded_15 : decode cL_boarded 15 = .ok (.bipush (-3), 2) := by decide +kernel
theorem dL_boarded_17 : decode cL_boarded 17 = .ok (.ireturn, 1) := by decide +kernel
theorem dL_changed_0 : decode cL_changed 0 = .ok (.aload_n 0, 1) := by decide +kernel
theorem dL_changed_1 : decode cL_changed 1 = .ok (.iload_n 1, 1) := by decide +kernel
theorem dL_changed_2 : decode cL_changed 2 = .ok (.iload_n 2, 1) := by decide +kernel
theorem dL_changed_3 : decode cL_changed 3 = .ok (.invokevirtual 110, 3) := by decide +kernel
theorem dL_changed_6 : decode cL_changed 6 = .ok (.ireturn, 1) := by decide +kernel
theorem dL_changed_7 : decode cL_changed 7 = .ok (.astore_n 3, 1) := by decide +kernel
theorem dL_changed_8 : decode cL_changed 8 = .ok (.bipush (-2), 2) := by decide +kernel
theorem dL_changed_10 : decode cL_changed 10 = .ok (.ireturn, 1) := by decide +kernel
theorem dL_changed_11 : decode cL_changed 11 = .ok (.astore_n 3, 1) := by decide +kernel
theorem dL_changed_12 : decode cL_changed 12 = .ok (.bipush (-3), 2) := by decide +kernel
theorem dL_changed_14 : decode cL_changed 14 = .ok (.ireturn, 1) := by decide +kernel
theorem dL_ordered_0 : decode cL_ordered 0 = .ok (.aload_n 0, 1) := by decide +kernel
theorem dL_ordered_1 : decode cL_ordered 1 = .ok (.invokevirtual 114, 3) := by decide +kernel
theorem dL_ordered_4 : decode cL_ordered 4 = .ok (.ireturn, 1) := by decide +kernel
theorem dL_ordered_5 : decode cL_ordered 5 = .ok (.astore_n 1, 1) := by decide +kernel
theorem dL_ordered_6 : decode cL_ordered 6 = .ok (.bipush (-2), 2) := by decide +kernel
theorem dL_ordered_8 : decode cL_ordered 8 = .ok (.ireturn, 1) := by decide +kernel
theorem dL_stored_0 : decode cL_stored 0 = .ok (.aload_n 0, 1) := by decide +kernel
theorem dL_stored_1 : decode cL_stored 1 = .ok (.iload_n 1, 1) := by decide +kernel
theorem dL_stored_2 : decode cL_stored 2 = .ok (.iload_n 2, 1) := by decide +kernel
theorem dL_stored_3 : decode cL_stored 3 = .ok (.invokevirtual 117, 3) := by decide +kernel
theorem dL_stored_6 : decode cL_stored 6 = .ok (.ireturn, 1) := by decide +kernel
theorem dL_stored_7 : decode cL_stored 7 = .ok (.astore_n 3, 1) := by decide +kernel
theorem dL_stored_8 : decode cL_stored 8 = .ok (.bipush (-2), 2) := by decide +kernel
theorem dL_stored_10 : decode cL_stored 10 = .ok (.ireturn, 1) := by decide +kernel
theorem dL_unloaded_0 : decode cL_unloaded 0 = .ok (.aload_n 0, 1) := by decide +kernel
theorem dL_unloaded_1 : decode cL_unloaded 1 = .ok (.iload_n 1, 1) := by decide +kernel
theorem dL_unloaded_2 : decode cL_unloaded 2 = .ok (.iload_n 2, 1) := by decide +kernel
theorem dL_unloaded_3 : decode cL_unloaded 3 = .ok (.invokevirtual 120, 3) := by decide +kernel
theorem dL_unloaded_6 : decode cL_unloaded 6 = .ok (.ireturn, 1) := by decide +kernel
theorem dL_unloaded_7 : decode cL_unloaded 7 = .ok (.astore_n 3, 1) := by decide +kernel
theorem dL_unloaded_8 : decode cL_unloaded 8 = .ok (.bipush (-2), 2) := by decide +kernel
theorem dL_unloaded_10 : decode cL_unloaded 10 = .ok (.ireturn, 1) := by decide +kernel
theorem dL_topped_0 : decode cL_topped 0 = .ok (.aload_n 0, 1) := by decide +kernel
theorem dL_topped_1 : decode cL_topped 1 = .ok (.iload_n 1, 1) := by decide +kernel
theorem dL_topped_2 : decode cL_topped 2 = .ok (.iload_n 2, 1) := by decide +kernel
theorem dL_topped_3 : decode cL_topped 3 = .ok (.invokevirtual 123, 3) := by decide +kernel
theorem dL_topped_6 : decode cL_topped 6 = .ok (.ireturn, 1) := by decide +kernel
theorem dL_topped_7 : decode cL_topped 7 = .ok (.astore_n 3, 1) := by decide +kernel
theorem dL_topped_8 : decode cL_topped 8 = .ok (.bipush (-2), 2) := by decide +kernel
theorem dL_topped_10 : decode cL_topped 10 = .ok (.ireturn, 1) := by decide +kernel
theorem dL_passed_0 : decode cL_passed 0 = .ok (.aload_n 0, 1) := by decide +kernel
theorem dL_passed_1 : decode cL_passed 1 = .ok (.iload_n 1, 1) := by decide +kernel
theorem dL_passed_2 : decode cL_passed 2 = .ok (.invokevirtual 126, 3) := by decide +kernel
theorem dL_passed_5 : decode cL_passed 5 = .ok (.ireturn, 1) := by decide +kernel
theorem dL_passed_6 : decode cL_passed 6 = .ok (.astore_n 2, 1) := by decide +kernel
theorem dL_passed_7 : decode cL_passed 7 = .ok (.bipush (-2), 2) := by decide +kernel
theorem dL_passed_9 : decode cL_passed 9 = .ok (.ireturn, 1) := by decide +kernel
theorem dL_sum_0 : decode cL_sum 0 = .ok (.lconst 0, 1) := by decide +kernel
theorem dL_sum_1 : decode cL_sum 1 = .ok (.lstore_n 1, 1) := by decide +kernel
theorem dL_sum_2 : decode cL_sum 2 = .ok (.iconst 0, 1) := by decide +kernel
theorem dL_sum_3 : decode cL_sum 3 = .ok (.istore_n 3, 1) := by decide +kernel
theorem dL_sum_4 : decode cL_sum 4 = .ok (.iload_n 3, 1) := by decide +kernel
theorem dL_sum_5 : decode cL_sum 5 = .ok (.bipush 12, 2) := by decide +kernel
theorem dL_sum_7 : decode cL_sum 7 = .ok (.if_icmp .ge 59, 3) := by decide +kernel
theorem dL_sum_10 : decode cL_sum 10 = .ok (.ldc2_w 129, 3) := by decide +kernel
theorem dL_sum_13 : decode cL_sum 13 = .ok (.lload_n 1, 1) := by decide +kernel
theorem dL_sum_14 : decode cL_sum 14 = .ok (.lmul, 1) := by decide +kernel
theorem dL_sum_15 : decode cL_sum 15 = .ok (.iload_n 3, 1) := by decide +kernel
theorem dL_sum_16 : decode cL_sum 16 = .ok (.bipush 9, 2) := by decide +kernel
theorem dL_sum_18 : decode cL_sum 18 = .ok (.if_icmp .ne 7, 3) := by decide +kernel
theorem dL_sum_21 : decode cL_sum 21 = .ok (.iconst 0, 1) := by decide +kernel
theorem dL_sum_22 : decode cL_sum 22 = .ok (.goto 8, 3) := by decide +kernel
theorem dL_sum_25 : decode cL_sum 25 = .ok (.aload_n 0, 1) := by decide +kernel
theorem dL_sum_26 : decode cL_sum 26 = .ok (.iload_n 3, 1) := by decide +kernel
theorem dL_sum_27 : decode cL_sum 27 = .ok (.invokevirtual 131, 3) := by decide +kernel
theorem dL_sum_30 : decode cL_sum 30 = .ok (.i2l, 1) := by decide +kernel
theorem dL_sum_31 : decode cL_sum 31 = .ok (.ladd, 1) := by decide +kernel
theorem dL_sum_32 : decode cL_sum 32 = .ok (.iload_n 3, 1) := by decide +kernel
theorem dL_sum_33 : decode cL_sum 33 = .ok (.bipush 6, 2) := by decide +kernel
theorem dL_sum_35 : decode cL_sum 35 = .ok (.if_icmp .ge 22, 3) := by decide +kernel
theorem dL_sum_38 : decode cL_sum 38 = .ok (.ldc2_w 134, 3) := by decide +kernel
theorem dL_sum_41 : decode cL_sum 41 = .ok (.aload_n 0, 1) := by decide +kernel
theorem dL_sum_42 : decode cL_sum 42 = .ok (.iload_n 3, 1) := by decide +kernel
theorem dL_sum_43 : decode cL_sum 43 = .ok (.invokevirtual 136, 3) := by decide +kernel
theorem dL_sum_46 : decode cL_sum 46 = .ok (.i2l, 1) := by decide +kernel
theorem dL_sum_47 : decode cL_sum 47 = .ok (.lmul, 1) := by decide +kernel
theorem dL_sum_48 : decode cL_sum 48 = .ok (.aload_n 0, 1) := by decide +kernel
theorem dL_sum_49 : decode cL_sum 49 = .ok (.iload_n 3, 1) := by decide +kernel
theorem dL_sum_50 : decode cL_sum 50 = .ok (.invokevirtual 139, 3) := by decide +kernel
theorem dL_sum_53 : decode cL_sum 53 = .ok (.ladd, 1) := by decide +kernel
theorem dL_sum_54 : decode cL_sum 54 = .ok (.goto 4, 3) := by decide +kernel
theorem dL_sum_57 : decode cL_sum 57 = .ok (.lconst 0, 1) := by decide +kernel
theorem dL_sum_58 : decode cL_sum 58 = .ok (.ladd, 1) := by decide +kernel
theorem dL_sum_59 : decode cL_sum 59 = .ok (.lstore_n 1, 1) := by decide +kernel
theorem dL_sum_60 : decode cL_sum 60 = .ok (.iinc 3 1, 3) := by decide +kernel
theorem dL_sum_63 : decode cL_sum 63 = .ok (.goto (-59), 3) := by decide +kernel
theorem dL_sum_66 : decode cL_sum 66 = .ok (.iconst 0, 1) := by decide +kernel
theorem dL_sum_67 : decode cL_sum 67 = .ok (.istore_n 3, 1) := by decide +kernel
theorem dL_sum_68 : decode cL_sum 68 = .ok (.iload_n 3, 1) := by decide +kernel
theorem dL_sum_69 : decode cL_sum 69 = .ok (.aload_n 0, 1) := by decide +kernel
theorem dL_sum_70 : decode cL_sum 70 = .ok (.iconst 1, 1) := by decide +kernel
theorem dL_sum_71 : decode cL_sum 71 = .ok (.invokevirtual 131, 3) := by decide +kernel
theorem dL_sum_74 : decode cL_sum 74 = .ok (.if_icmp .ge 40, 3) := by decide +kernel
theorem dL_sum_77 : decode cL_sum 77 = .ok (.iconst 0, 1) := by decide +kernel
theorem dL_sum_78 : decode cL_sum 78 = .ok (.istore 4, 2) := by decide +kernel
theorem dL_sum_80 : decode cL_sum 80 = .ok (.iload 4, 2) := by decide +kernel
theorem dL_sum_82 : decode cL_sum 82 = .ok (.bipush 8, 2) := by decide +kernel
theorem dL_sum_84 : decode cL_sum 84 = .ok (.if_icmp .ge 24, 3) := by decide +kernel
theorem dL_sum_87 : decode cL_sum 87 = .ok (.ldc2_w 129, 3) := by decide +kernel
theorem dL_sum_90 : decode cL_sum 90 = .ok (.lload_n 1, 1) := by decide +kernel
theorem dL_sum_91 : decode cL_sum 91 = .ok (.lmul, 1) := by decide +kernel
theorem dL_sum_92 : decode cL_sum 92 = .ok (.aload_n 0, 1) := by decide +kernel
theorem dL_sum_93 : decode cL_sum 93 = .ok (.iload_n 3, 1) := by decide +kernel
theorem dL_sum_94 : decode cL_sum 94 = .ok (.iload 4, 2) := by decide +kernel
theorem dL_sum_96 : decode cL_sum 96 = .ok (.invokevirtual 143, 3) := by decide +kernel
theorem dL_sum_99 : decode cL_sum 99 = .ok (.i2l, 1) := by decide +kernel
theorem dL_sum_100 : decode cL_sum 100 = .ok (.ladd, 1) := by decide +kernel
theorem dL_sum_101 : decode cL_sum 101 = .ok (.lstore_n 1, 1) := by decide +kernel
theorem dL_sum_102 : decode cL_sum 102 = .ok (.iinc 4 1, 3) := by decide +kernel
theorem dL_sum_105 : decode cL_sum 105 = .ok (.goto (-25), 3) := by decide +kernel
theorem dL_sum_108 : decode cL_sum 108 = .ok (.iinc 3 1, 3) := by decide +kernel
theorem dL_sum_111 : decode cL_sum 111 = .ok (.goto (-43), 3) := by decide +kernel
theorem dL_sum_114 : decode cL_sum 114 = .ok (.iconst 0, 1) := by decide +kernel
theorem dL_sum_115 : decode cL_sum 115 = .ok (.istore_n 3, 1) := by decide +kernel
theorem dL_sum_116 : decode cL_sum 116 = .ok (.iload_n 3, 1) := by decide +kernel
theorem dL_sum_117 : decode cL_sum 117 = .ok (.aload_n 0, 1) := by decide +kernel
theorem dL_sum_118 : decode cL_sum 118 = .ok (.iconst 2, 1) := by decide +kernel
theorem dL_sum_119 : decode cL_sum 119 = .ok (.invokevirtual 131, 3) := by decide +kernel
theorem dL_sum_122 : decode cL_sum 122 = .ok (.if_icmp .ge 40, 3) := by decide +kernel
theorem dL_sum_125 : decode cL_sum 125 = .ok (.iconst 0, 1) := by decide +kernel
theorem dL_sum_126 : decode cL_sum 126 = .ok (.istore 4, 2) := by decide +kernel
theorem dL_sum_128 : decode cL_sum 128 = .ok (.iload 4, 2) := by decide +kernel
theorem dL_sum_130 : decode cL_sum 130 = .ok (.bipush 10, 2) := by decide +kernel
theorem dL_sum_132 : decode cL_sum 132 = .ok (.if_icmp .ge 24, 3) := by decide +kernel
theorem dL_sum_135 : decode cL_sum 135 = .ok (.ldc2_w 129, 3) := by decide +kernel
theorem dL_sum_138 : decode cL_sum 138 = .ok (.lload_n 1, 1) := by decide +kernel
theorem dL_sum_139 : decode cL_sum 139 = .ok (.lmul, 1) := by decide +kernel
theorem dL_sum_140 : decode cL_sum 140 = .ok (.aload_n 0, 1) := by decide +kernel
theorem dL_sum_141 : decode cL_sum 141 = .ok (.iload_n 3, 1) := by decide +kernel
theorem dL_sum_142 : decode cL_sum 142 = .ok (.iload 4, 2) := by decide +kernel
theorem dL_sum_144 : decode cL_sum 144 = .ok (.invokevirtual 146, 3) := by decide +kernel
theorem dL_sum_147 : decode cL_sum 147 = .ok (.i2l, 1) := by decide +kernel
theorem dL_sum_148 : decode cL_sum 148 = .ok (.ladd, 1) := by decide +kernel
theorem dL_sum_149 : decode cL_sum 149 = .ok (.lstore_n 1, 1) := by decide +kernel
theorem dL_sum_150 : decode cL_sum 150 = .ok (.iinc 4 1, 3) := by decide +kernel
theorem dL_sum_153 : decode cL_sum 153 = .ok (.goto (-25), 3) := by decide +kernel
theorem dL_sum_156 : decode cL_sum 156 = .ok (.iinc 3 1, 3) := by decide +kernel
theorem dL_sum_159 : decode cL_sum 159 = .ok (.goto (-43), 3) := by decide +kernel
theorem dL_sum_162 : decode cL_sum 162 = .ok (.iconst 0, 1) := by decide +kernel
theorem dL_sum_163 : decode cL_sum 163 = .ok (.istore_n 3, 1) := by decide +kernel
theorem dL_sum_164 : decode cL_sum 164 = .ok (.iload_n 3, 1) := by decide +kernel
theorem dL_sum_165 : decode cL_sum 165 = .ok (.aload_n 0, 1) := by decide +kernel
theorem dL_sum_166 : decode cL_sum 166 = .ok (.iconst 3, 1) := by decide +kernel
theorem dL_sum_167 : decode cL_sum 167 = .ok (.invokevirtual 131, 3) := by decide +kernel
theorem dL_sum_170 : decode cL_sum 170 = .ok (.if_icmp .ge 40, 3) := by decide +kernel
theorem dL_sum_173 : decode cL_sum 173 = .ok (.iconst 0, 1) := by decide +kernel
theorem dL_sum_174 : decode cL_sum 174 = .ok (.istore 4, 2) := by decide +kernel
theorem dL_sum_176 : decode cL_sum 176 = .ok (.iload 4, 2) := by decide +kernel
theorem dL_sum_178 : decode cL_sum 178 = .ok (.bipush 6, 2) := by decide +kernel
theorem dL_sum_180 : decode cL_sum 180 = .ok (.if_icmp .ge 24, 3) := by decide +kernel
theorem dL_sum_183 : decode cL_sum 183 = .ok (.ldc2_w 129, 3) := by decide +kernel
theorem dL_sum_186 : decode cL_sum 186 = .ok (.lload_n 1, 1) := by decide +kernel
theorem dL_sum_187 : decode cL_sum 187 = .ok (.lmul, 1) := by decide +kernel
theorem dL_sum_188 : decode cL_sum 188 = .ok (.aload_n 0, 1) := by decide +kernel
theorem dL_sum_189 : decode cL_sum 189 = .ok (.iload_n 3, 1) := by decide +kernel
theorem dL_sum_190 : decode cL_sum 190 = .ok (.iload 4, 2) := by decide +kernel
theorem dL_sum_192 : decode cL_sum 192 = .ok (.invokevirtual 149, 3) := by decide +kernel
theorem dL_sum_195 : decode cL_sum 195 = .ok (.i2l, 1) := by decide +kernel
theorem dL_sum_196 : decode cL_sum 196 = .ok (.ladd, 1) := by decide +kernel
theorem dL_sum_197 : decode cL_sum 197 = .ok (.lstore_n 1, 1) := by decide +kernel
theorem dL_sum_198 : decode cL_sum 198 = .ok (.iinc 4 1, 3) := by decide +kernel
theorem dL_sum_201 : decode cL_sum 201 = .ok (.goto (-25), 3) := by decide +kernel
theorem dL_sum_204 : decode cL_sum 204 = .ok (.iinc 3 1, 3) := by decide +kernel
theorem dL_sum_207 : decode cL_sum 207 = .ok (.goto (-43), 3) := by decide +kernel
theorem dL_sum_210 : decode cL_sum 210 = .ok (.iconst 0, 1) := by decide +kernel
theorem dL_sum_211 : decode cL_sum 211 = .ok (.istore_n 3, 1) := by decide +kernel
theorem dL_sum_212 : decode cL_sum 212 = .ok (.iload_n 3, 1) := by decide +kernel
theorem dL_sum_213 : decode cL_sum 213 = .ok (.aload_n 0, 1) := by decide +kernel
theorem dL_sum_214 : decode cL_sum 214 = .ok (.iconst 4, 1) := by decide +kernel
theorem dL_sum_215 : decode cL_sum 215 = .ok (.invokevirtual 131, 3) := by decide +kernel
theorem dL_sum_218 : decode cL_sum 218 = .ok (.if_icmp .ge 43, 3) := by decide +kernel
theorem dL_sum_221 : decode cL_sum 221 = .ok (.iconst 0, 1) := by decide +kernel
theorem dL_sum_222 : decode cL_sum 222 = .ok (.istore 4, 2) := by decide +kernel
theorem dL_sum_224 : decode cL_sum 224 = .ok (.iload 4, 2) := by decide +kernel
theorem dL_sum_226 : decode cL_sum 226 = .ok (.aload_n 0, 1) := by decide +kernel
theorem dL_sum_227 : decode cL_sum 227 = .ok (.iconst 2, 1) := by decide +kernel
theorem dL_sum_228 : decode cL_sum 228 = .ok (.invokevirtual 131, 3) := by decide +kernel
theorem dL_sum_231 : decode cL_sum 231 = .ok (.if_icmp .ge 24, 3) := by decide +kernel
theorem dL_sum_234 : decode cL_sum 234 = .ok (.ldc2_w 129, 3) := by decide +kernel
theorem dL_sum_237 : decode cL_sum 237 = .ok (.lload_n 1, 1) := by decide +kernel
theorem dL_sum_238 : decode cL_sum 238 = .ok (.lmul, 1) := by decide +kernel
theorem dL_sum_239 : decode cL_sum 239 = .ok (.aload_n 0, 1) := by decide +kernel
theorem dL_sum_240 : decode cL_sum 240 = .ok (.iload_n 3, 1) := by decide +kernel
theorem dL_sum_241 : decode cL_sum 241 = .ok (.iload 4, 2) := by decide +kernel
theorem dL_sum_243 : decode cL_sum 243 = .ok (.invokevirtual 152, 3) := by decide +kernel
theorem dL_sum_246 : decode cL_sum 246 = .ok (.i2l, 1) := by decide +kernel
theorem dL_sum_247 : decode cL_sum 247 = .ok (.ladd, 1) := by decide +kernel
theorem dL_sum_248 : decode cL_sum 248 = .ok (.lstore_n 1, 1) := by decide +kernel
theorem dL_sum_249 : decode cL_sum 249 = .ok (.iinc 4 1, 3) := by decide +kernel
theorem dL_sum_252 : decode cL_sum 252 = .ok (.goto (-28), 3) := by decide +kernel
theorem dL_sum_255 : decode cL_sum 255 = .ok (.iinc 3 1, 3) := by decide +kernel
theorem dL_sum_258 : decode cL_sum 258 = .ok (.goto (-46), 3) := by decide +kernel
theorem dL_sum_261 : decode cL_sum 261 = .ok (.iconst 0, 1) := by decide +kernel
theorem dL_sum_262 : decode cL_sum 262 = .ok (.istore_n 3, 1) := by decide +kernel
theorem dL_sum_263 : decode cL_sum 263 = .ok (.iload_n 3, 1) := by decide +kernel
theorem dL_sum_264 : decode cL_sum 264 = .ok (.aload_n 0, 1) := by decide +kernel
theorem dL_sum_265 : decode cL_sum 265 = .ok (.bipush 6, 2) := by decide +kernel
theorem dL_sum_267 : decode cL_sum 267 = .ok (.invokevirtual 131, 3) := by decide +kernel
theorem dL_sum_270 : decode cL_sum 270 = .ok (.if_icmp .ge 47, 3) := by decide +kernel
theorem dL_sum_273 : decode cL_sum 273 = .ok (.ldc2_w 129, 3) := by decide +kernel
theorem dL_sum_276 : decode cL_sum 276 = .ok (.lload_n 1, 1) := by decide +kernel
theorem dL_sum_277 : decode cL_sum 277 = .ok (.lmul, 1) := by decide +kernel
theorem dL_sum_278 : decode cL_sum 278 = .ok (.ldc2_w 134, 3) := by decide +kernel
theorem dL_sum_281 : decode cL_sum 281 = .ok (.aload_n 0, 1) := by decide +kernel
theorem dL_sum_282 : decode cL_sum 282 = .ok (.iload_n 3, 1) := by decide +kernel
theorem dL_sum_283 : decode cL_sum 283 = .ok (.iconst 0, 1) := by decide +kernel
theorem dL_sum_284 : decode cL_sum 284 = .ok (.invokevirtual 155, 3) := by decide +kernel
theorem dL_sum_287 : decode cL_sum 287 = .ok (.i2l, 1) := by decide +kernel
theorem dL_sum_288 : decode cL_sum 288 = .ok (.lmul, 1) := by decide +kernel
theorem dL_sum_289 : decode cL_sum 289 = .ok (.ladd, 1) := by decide +kernel
theorem dL_sum_290 : decode cL_sum 290 = .ok (.ldc2_w 158, 3) := by decide +kernel
theorem dL_sum_293 : decode cL_sum 293 = .ok (.aload_n 0, 1) := by decide +kernel
theorem dL_sum_294 : decode cL_sum 294 = .ok (.iload_n 3, 1) := by decide +kernel
theorem dL_sum_295 : decode cL_sum 295 = .ok (.iconst 1, 1) := by decide +kernel
theorem dL_sum_296 : decode cL_sum 296 = .ok (.invokevirtual 155, 3) := by decide +kernel
theorem dL_sum_299 : decode cL_sum 299 = .ok (.i2l, 1) := by decide +kernel
theorem dL_sum_300 : decode cL_sum 300 = .ok (.lmul, 1) := by decide +kernel
theorem dL_sum_301 : decode cL_sum 301 = .ok (.ladd, 1) := by decide +kernel
theorem dL_sum_302 : decode cL_sum 302 = .ok (.aload_n 0, 1) := by decide +kernel
theorem dL_sum_303 : decode cL_sum 303 = .ok (.iload_n 3, 1) := by decide +kernel
theorem dL_sum_304 : decode cL_sum 304 = .ok (.iconst 2, 1) := by decide +kernel
theorem dL_sum_305 : decode cL_sum 305 = .ok (.invokevirtual 155, 3) := by decide +kernel
theorem dL_sum_308 : decode cL_sum 308 = .ok (.i2l, 1) := by decide +kernel
theorem dL_sum_309 : decode cL_sum 309 = .ok (.ladd, 1) := by decide +kernel
theorem dL_sum_310 : decode cL_sum 310 = .ok (.lstore_n 1, 1) := by decide +kernel
theorem dL_sum_311 : decode cL_sum 311 = .ok (.iinc 3 1, 3) := by decide +kernel
theorem dL_sum_314 : decode cL_sum 314 = .ok (.goto (-51), 3) := by decide +kernel
theorem dL_sum_317 : decode cL_sum 317 = .ok (.lload_n 1, 1) := by decide +kernel
theorem dL_sum_318 : decode cL_sum 318 = .ok (.lreturn, 1) := by decide +kernel
theorem dL_trolleys_0 : decode cL_trolleys 0 = .ok (.iconst 1, 1) := by decide +kernel
theorem dL_trolleys_1 : decode cL_trolleys 1 = .ok (.istore_n 1, 1) := by decide +kernel
theorem dL_trolleys_2 : decode cL_trolleys 2 = .ok (.iconst 0, 1) := by decide +kernel
theorem dL_trolleys_3 : decode cL_trolleys 3 = .ok (.istore_n 2, 1) := by decide +kernel
theorem dL_trolleys_4 : decode cL_trolleys 4 = .ok (.iconst 0, 1) := by decide +kernel
theorem dL_trolleys_5 : decode cL_trolleys 5 = .ok (.istore_n 3, 1) := by decide +kernel
theorem dL_trolleys_6 : decode cL_trolleys 6 = .ok (.iload_n 3, 1) := by decide +kernel
theorem dL_trolleys_7 : decode cL_trolleys 7 = .ok (.aload_n 0, 1) := by decide +kernel
theorem dL_trolleys_8 : decode cL_trolleys 8 = .ok (.iconst 4, 1) := by decide +kernel
theorem dL_trolleys_9 : decode cL_trolleys 9 = .ok (.invokevirtual 131, 3) := by decide +kernel
theorem dL_trolleys_12 : decode cL_trolleys 12 = .ok (.if_icmp .ge 164, 3) := by decide +kernel
theorem dL_trolleys_15 : decode cL_trolleys 15 = .ok (.iload_n 1, 1) := by decide +kernel
theorem dL_trolleys_16 : decode cL_trolleys 16 = .ok (.ifCond .eq 160, 3) := by decide +kernel
theorem dL_trolleys_19 : decode cL_trolleys 19 = .ok (.iconst 0, 1) := by decide +kernel
theorem dL_trolleys_20 : decode cL_trolleys 20 = .ok (.istore 4, 2) := by decide +kernel
theorem dL_trolleys_22 : decode cL_trolleys 22 = .ok (.iconst 0, 1) := by decide +kernel
theorem dL_trolleys_23 : decode cL_trolleys 23 = .ok (.istore 5, 2) := by decide +kernel
theorem dL_trolleys_25 : decode cL_trolleys 25 = .ok (.iconst 0, 1) := by decide +kernel
theorem dL_trolleys_26 : decode cL_trolleys 26 = .ok (.istore 6, 2) := by decide +kernel
theorem dL_trolleys_28 : decode cL_trolleys 28 = .ok (.iload 6, 2) := by decide +kernel
theorem dL_trolleys_30 : decode cL_trolleys 30 = .ok (.aload_n 0, 1) := by decide +kernel
theorem dL_trolleys_31 : decode cL_trolleys 31 = .ok (.iconst 2, 1) := by decide +kernel
theorem dL_trolleys_32 : decode cL_trolleys 32 = .ok (.invokevirtual 131, 3) := by decide +kernel
theorem dL_trolleys_35 : decode cL_trolleys 35 = .ok (.if_icmp .ge 80, 3) := by decide +kernel
theorem dL_trolleys_38 : decode cL_trolleys 38 = .ok (.aload_n 0, 1) := by decide +kernel
theorem dL_trolleys_39 : decode cL_trolleys 39 = .ok (.iload_n 3, 1) := by decide +kernel
theorem dL_trolleys_40 : decode cL_trolleys 40 = .ok (.iload 6, 2) := by decide +kernel
theorem dL_trolleys_42 : decode cL_trolleys 42 = .ok (.invokevirtual 152, 3) := by decide +kernel
theorem dL_trolleys_45 : decode cL_trolleys 45 = .ok (.istore 7, 2) := by decide +kernel
theorem dL_trolleys_47 : decode cL_trolleys 47 = .ok (.aload_n 0, 1) := by decide +kernel
theorem dL_trolleys_48 : decode cL_trolleys 48 = .ok (.iload 6, 2) := by decide +kernel
theorem dL_trolleys_50 : decode cL_trolleys 50 = .ok (.iconst 0, 1) := by decide +kernel
theorem dL_trolleys_51 : decode cL_trolleys 51 = .ok (.invokevirtual 146, 3) := by decide +kernel
theorem dL_trolleys_54 : decode cL_trolleys 54 = .ok (.istore 8, 2) := by decide +kernel
theorem dL_trolleys_56 : decode cL_trolleys 56 = .ok (.iload 4, 2) := by decide +kernel
theorem dL_trolleys_58 : decode cL_trolleys 58 = .ok (.iload 7, 2) := by decide +kernel
theorem dL_trolleys_60 : decode cL_trolleys 60 = .ok (.aload_n 0, 1) := by decide +kernel
theorem dL_trolleys_61 : decode cL_trolleys 61 = .ok (.iload 6, 2) := by decide +kernel
theorem dL_trolleys_63 : decode cL_trolleys 63 = .ok (.iconst 2, 1) := by decide +kernel
theorem dL_trolleys_64 : decode cL_trolleys 64 = .ok (.invokevirtual 146, 3) := by decide +kernel
theorem dL_trolleys_67 : decode cL_trolleys 67 = .ok (.imul, 1) := by decide +kernel
theorem dL_trolleys_68 : decode cL_trolleys 68 = .ok (.iadd, 1) := by decide +kernel
theorem dL_trolleys_69 : decode cL_trolleys 69 = .ok (.istore 4, 2) := by decide +kernel
theorem dL_trolleys_71 : decode cL_trolleys 71 = .ok (.iload 5, 2) := by decide +kernel
theorem dL_trolleys_73 : decode cL_trolleys 73 = .ok (.iload 7, 2) := by decide +kernel
theorem dL_trolleys_75 : decode cL_trolleys 75 = .ok (.iadd, 1) := by decide +kernel
theorem dL_trolleys_76 : decode cL_trolleys 76 = .ok (.istore 5, 2) := by decide +kernel
theorem dL_trolleys_78 : decode cL_trolleys 78 = .ok (.iload_n 1, 1) := by decide +kernel
theorem dL_trolleys_79 : decode cL_trolleys 79 = .ok (.ifCond .eq 28, 3) := by decide +kernel
theorem dL_trolleys_82 : decode cL_trolleys 82 = .ok (.iload 7, 2) := by decide +kernel
theorem dL_trolleys_84 : decode cL_trolleys 84 = .ok (.ifCond .eq 19, 3) := by decide +kernel
theorem dL_trolleys_87 : decode cL_trolleys 87 = .ok (.iload 8, 2) := by decide +kernel
theorem dL_trolleys_89 : decode cL_trolleys 89 = .ok (.ifCond .lt 14, 3) := by decide +kernel
theorem dL_trolleys_92 : decode cL_trolleys 92 = .ok (.iload 8, 2) := by decide +kernel
theorem dL_trolleys_94 : decode cL_trolleys 94 = .ok (.aload_n 0, 1) := by decide +kernel
theorem dL_trolleys_95 : decode cL_trolleys 95 = .ok (.iload_n 3, 1) := by decide +kernel
theorem dL_trolleys_96 : decode cL_trolleys 96 = .ok (.iconst 0, 1) := by decide +kernel
theorem dL_trolleys_97 : decode cL_trolleys 97 = .ok (.invokevirtual 160, 3) := by decide +kernel
theorem dL_trolleys_100 : decode cL_trolleys 100 = .ok (.if_icmp .ne 7, 3) := by decide +kernel
theorem dL_trolleys_103 : decode cL_trolleys 103 = .ok (.iconst 1, 1) := by decide +kernel
theorem dL_trolleys_104 : decode cL_trolleys 104 = .ok (.goto 4, 3) := by decide +kernel
theorem dL_trolleys_107 : decode cL_trolleys 107 = .ok (.iconst 0, 1) := by decide +kernel
theorem dL_trolleys_108 : decode cL_trolleys 108 = .ok (.istore_n 1, 1) := by decide +kernel
theorem dL_trolleys_109 : decode cL_trolleys 109 = .ok (.iinc 6 1, 3) := by decide +kernel
theorem dL_trolleys_112 : decode cL_trolleys 112 = .ok (.goto (-84), 3) := by decide +kernel
theorem dL_trolleys_115 : decode cL_trolleys 115 = .ok (.iload_n 2, 1) := by decide +kernel
theorem dL_trolleys_116 : decode cL_trolleys 116 = .ok (.iload 5, 2) := by decide +kernel
theorem dL_trolleys_118 : decode cL_trolleys 118 = .ok (.iadd, 1) := by decide +kernel
theorem dL_trolleys_119 : decode cL_trolleys 119 = .ok (.istore_n 2, 1) := by decide +kernel
theorem dL_trolleys_120 : decode cL_trolleys 120 = .ok (.iload_n 1, 1) := by decide +kernel
theorem dL_trolleys_121 : decode cL_trolleys 121 = .ok (.ifCond .eq 47, 3) := by decide +kernel
theorem dL_trolleys_124 : decode cL_trolleys 124 = .ok (.aload_n 0, 1) := by decide +kernel
theorem dL_trolleys_125 : decode cL_trolleys 125 = .ok (.iload_n 3, 1) := by decide +kernel
theorem dL_trolleys_126 : decode cL_trolleys 126 = .ok (.iconst 2, 1) := by decide +kernel
theorem dL_trolleys_127 : decode cL_trolleys 127 = .ok (.invokevirtual 160, 3) := by decide +kernel
theorem dL_trolleys_130 : decode cL_trolleys 130 = .ok (.aload_n 0, 1) := by decide +kernel
theorem dL_trolleys_131 : decode cL_trolleys 131 = .ok (.iload_n 3, 1) := by decide +kernel
theorem dL_trolleys_132 : decode cL_trolleys 132 = .ok (.iconst 1, 1) := by decide +kernel
theorem dL_trolleys_133 : decode cL_trolleys 133 = .ok (.invokevirtual 160, 3) := by decide +kernel
theorem dL_trolleys_136 : decode cL_trolleys 136 = .ok (.iload 4, 2) := by decide +kernel
theorem dL_trolleys_138 : decode cL_trolleys 138 = .ok (.isub, 1) := by decide +kernel
theorem dL_trolleys_139 : decode cL_trolleys 139 = .ok (.if_icmp .ne 29, 3) := by decide +kernel
theorem dL_trolleys_142 : decode cL_trolleys 142 = .ok (.iload 4, 2) := by decide +kernel
theorem dL_trolleys_144 : decode cL_trolleys 144 = .ok (.aload_n 0, 1) := by decide +kernel
theorem dL_trolleys_145 : decode cL_trolleys 145 = .ok (.iload_n 3, 1) := by decide +kernel
theorem dL_trolleys_146 : decode cL_trolleys 146 = .ok (.iconst 1, 1) := by decide +kernel
theorem dL_trolleys_147 : decode cL_trolleys 147 = .ok (.invokevirtual 160, 3) := by decide +kernel
theorem dL_trolleys_150 : decode cL_trolleys 150 = .ok (.if_icmp .gt 18, 3) := by decide +kernel
theorem dL_trolleys_153 : decode cL_trolleys 153 = .ok (.aload_n 0, 1) := by decide +kernel
theorem dL_trolleys_154 : decode cL_trolleys 154 = .ok (.iload_n 3, 1) := by decide +kernel
theorem dL_trolleys_155 : decode cL_trolleys 155 = .ok (.iconst 3, 1) := by decide +kernel
theorem dL_trolleys_156 : decode cL_trolleys 156 = .ok (.invokevirtual 160, 3) := by decide +kernel
theorem dL_trolleys_159 : decode cL_trolleys 159 = .ok (.iload 5, 2) := by decide +kernel
theorem dL_trolleys_161 : decode cL_trolleys 161 = .ok (.if_icmp .ne 7, 3) := by decide +kernel
theorem dL_trolleys_164 : decode cL_trolleys 164 = .ok (.iconst 1, 1) := by decide +kernel
theorem dL_trolleys_165 : decode cL_trolleys 165 = .ok (.goto 4, 3) := by decide +kernel
theorem dL_trolleys_168 : decode cL_trolleys 168 = .ok (.iconst 0, 1) := by decide +kernel
theorem dL_trolleys_169 : decode cL_trolleys 169 = .ok (.istore_n 1, 1) := by decide +kernel
theorem dL_trolleys_170 : decode cL_trolleys 170 = .ok (.iinc 3 1, 3) := by decide +kernel
theorem dL_trolleys_173 : decode cL_trolleys 173 = .ok (.goto (-167), 3) := by decide +kernel
theorem dL_trolleys_176 : decode cL_trolleys 176 = .ok (.iload_n 1, 1) := by decide +kernel
theorem dL_trolleys_177 : decode cL_trolleys 177 = .ok (.ifCond .eq 17, 3) := by decide +kernel
theorem dL_trolleys_180 : decode cL_trolleys 180 = .ok (.aload_n 0, 1) := by decide +kernel
theorem dL_trolleys_181 : decode cL_trolleys 181 = .ok (.bipush 7, 2) := by decide +kernel
theorem dL_trolleys_183 : decode cL_trolleys 183 = .ok (.invokevirtual 131, 3) := by decide +kernel
theorem dL_trolleys_186 : decode cL_trolleys 186 = .ok (.iload_n 2, 1) := by decide +kernel
theorem dL_trolleys_187 : decode cL_trolleys 187 = .ok (.if_icmp .ne 7, 3) := by decide +kernel
theorem dL_trolleys_190 : decode cL_trolleys 190 = .ok (.iconst 1, 1) := by decide +kernel
theorem dL_trolleys_191 : decode cL_trolleys 191 = .ok (.goto 4, 3) := by decide +kernel
theorem dL_trolleys_194 : decode cL_trolleys 194 = .ok (.iconst 0, 1) := by decide +kernel
theorem dL_trolleys_195 : decode cL_trolleys 195 = .ok (.ireturn, 1) := by decide +kernel
theorem dL_order_0 : decode cL_order 0 = .ok (.iconst 1, 1) := by decide +kernel
theorem dL_order_1 : decode cL_order 1 = .ok (.istore_n 1, 1) := by decide +kernel
theorem dL_order_2 : decode cL_order 2 = .ok (.iconst 0, 1) := by decide +kernel
theorem dL_order_3 : decode cL_order 3 = .ok (.istore_n 2, 1) := by decide +kernel
theorem dL_order_4 : decode cL_order 4 = .ok (.iconst 0, 1) := by decide +kernel
theorem dL_order_5 : decode cL_order 5 = .ok (.istore_n 3, 1) := by decide +kernel
theorem dL_order_6 : decode cL_order 6 = .ok (.iconst 0, 1) := by decide +kernel
theorem dL_order_7 : decode cL_order 7 = .ok (.istore 4, 2) := by decide +kernel
theorem dL_order_9 : decode cL_order 9 = .ok (.iload 4, 2) := by decide +kernel
theorem dL_order_11 : decode cL_order 11 = .ok (.aload_n 0, 1) := by decide +kernel
theorem dL_order_12 : decode cL_order 12 = .ok (.iconst 3, 1) := by decide +kernel
theorem dL_order_13 : decode cL_order 13 = .ok (.invokevirtual 131, 3) := by decide +kernel
theorem dL_order_16 : decode cL_order 16 = .ok (.if_icmp .ge 37, 3) := by decide +kernel
theorem dL_order_19 : decode cL_order 19 = .ok (.iload_n 3, 1) := by decide +kernel
theorem dL_order_20 : decode cL_order 20 = .ok (.aload_n 0, 1) := by decide +kernel
theorem dL_order_21 : decode cL_order 21 = .ok (.iload 4, 2) := by decide +kernel
theorem dL_order_23 : decode cL_order 23 = .ok (.iconst 1, 1) := by decide +kernel
theorem dL_order_24 : decode cL_order 24 = .ok (.invokevirtual 149, 3) := by decide +kernel
theorem dL_order_27 : decode cL_order 27 = .ok (.ifCond .eq 17, 3) := by decide +kernel
theorem dL_order_30 : decode cL_order 30 = .ok (.aload_n 0, 1) := by decide +kernel
theorem dL_order_31 : decode cL_order 31 = .ok (.iload 4, 2) := by decide +kernel
theorem dL_order_33 : decode cL_order 33 = .ok (.iconst 5, 1) := by decide +kernel
theorem dL_order_34 : decode cL_order 34 = .ok (.invokevirtual 149, 3) := by decide +kernel
theorem dL_order_37 : decode cL_order 37 = .ok (.ifCond .lt 7, 3) := by decide +kernel
theorem dL_order_40 : decode cL_order 40 = .ok (.iconst 1, 1) := by decide +kernel
theorem dL_order_41 : decode cL_order 41 = .ok (.goto 4, 3) := by decide +kernel
theorem dL_order_44 : decode cL_order 44 = .ok (.iconst 0, 1) := by decide +kernel
theorem dL_order_45 : decode cL_order 45 = .ok (.iadd, 1) := by decide +kernel
theorem dL_order_46 : decode cL_order 46 = .ok (.istore_n 3, 1) := by decide +kernel
theorem dL_order_47 : decode cL_order 47 = .ok (.iinc 4 1, 3) := by decide +kernel
theorem dL_order_50 : decode cL_order 50 = .ok (.goto (-41), 3) := by decide +kernel
theorem dL_order_53 : decode cL_order 53 = .ok (.iconst 0, 1) := by decide +kernel
theorem dL_order_54 : decode cL_order 54 = .ok (.istore 4, 2) := by decide +kernel
theorem dL_order_56 : decode cL_order 56 = .ok (.iload 4, 2) := by decide +kernel
theorem dL_order_58 : decode cL_order 58 = .ok (.aload_n 0, 1) := by decide +kernel
theorem dL_order_59 : decode cL_order 59 = .ok (.iconst 1, 1) := by decide +kernel
theorem dL_order_60 : decode cL_order 60 = .ok (.invokevirtual 131, 3) := by decide +kernel
theorem dL_order_63 : decode cL_order 63 = .ok (.if_icmp .ge 90, 3) := by decide +kernel
theorem dL_order_66 : decode cL_order 66 = .ok (.aload_n 0, 1) := by decide +kernel
theorem dL_order_67 : decode cL_order 67 = .ok (.iload 4, 2) := by decide +kernel
theorem dL_order_69 : decode cL_order 69 = .ok (.iconst 2, 1) := by decide +kernel
theorem dL_order_70 : decode cL_order 70 = .ok (.invokevirtual 143, 3) := by decide +kernel
theorem dL_order_73 : decode cL_order 73 = .ok (.aload_n 0, 1) := by decide +kernel
theorem dL_order_74 : decode cL_order 74 = .ok (.iload 4, 2) := by decide +kernel
theorem dL_order_76 : decode cL_order 76 = .ok (.iconst 3, 1) := by decide +kernel
theorem dL_order_77 : decode cL_order 77 = .ok (.invokevirtual 143, 3) := by decide +kernel
theorem dL_order_80 : decode cL_order 80 = .ok (.isub, 1) := by decide +kernel
theorem dL_order_81 : decode cL_order 81 = .ok (.istore 5, 2) := by decide +kernel
theorem dL_order_83 : decode cL_order 83 = .ok (.iload_n 2, 1) := by decide +kernel
theorem dL_order_84 : decode cL_order 84 = .ok (.aload_n 0, 1) := by decide +kernel
theorem dL_order_85 : decode cL_order 85 = .ok (.iload 4, 2) := by decide +kernel
theorem dL_order_87 : decode cL_order 87 = .ok (.bipush 6, 2) := by decide +kernel
theorem dL_order_89 : decode cL_order 89 = .ok (.invokevirtual 143, 3) := by decide +kernel
theorem dL_order_92 : decode cL_order 92 = .ok (.ifCond .ne 7, 3) := by decide +kernel
theorem dL_order_95 : decode cL_order 95 = .ok (.iconst 0, 1) := by decide +kernel
theorem dL_order_96 : decode cL_order 96 = .ok (.goto 22, 3) := by decide +kernel
theorem dL_order_99 : decode cL_order 99 = .ok (.iload 5, 2) := by decide +kernel
theorem dL_order_101 : decode cL_order 101 = .ok (.bipush 100, 2) := by decide +kernel
theorem dL_order_103 : decode cL_order 103 = .ok (.aload_n 0, 1) := by decide +kernel
theorem dL_order_104 : decode cL_order 104 = .ok (.iload 4, 2) := by decide +kernel
theorem dL_order_106 : decode cL_order 106 = .ok (.iconst 1, 1) := by decide +kernel
theorem dL_order_107 : decode cL_order 107 = .ok (.invokevirtual 143, 3) := by decide +kernel
theorem dL_order_110 : decode cL_order 110 = .ok (.iadd, 1) := by decide +kernel
theorem dL_order_111 : decode cL_order 111 = .ok (.imul, 1) := by decide +kernel
theorem dL_order_112 : decode cL_order 112 = .ok (.bipush 99, 2) := by decide +kernel
theorem dL_order_114 : decode cL_order 114 = .ok (.iadd, 1) := by decide +kernel
theorem dL_order_115 : decode cL_order 115 = .ok (.bipush 100, 2) := by decide +kernel
theorem dL_order_117 : decode cL_order 117 = .ok (.idiv, 1) := by decide +kernel
theorem dL_order_118 : decode cL_order 118 = .ok (.iadd, 1) := by decide +kernel
theorem dL_order_119 : decode cL_order 119 = .ok (.istore_n 2, 1) := by decide +kernel
theorem dL_order_120 : decode cL_order 120 = .ok (.iload_n 1, 1) := by decide +kernel
theorem dL_order_121 : decode cL_order 121 = .ok (.ifCond .eq 24, 3) := by decide +kernel
theorem dL_order_124 : decode cL_order 124 = .ok (.aload_n 0, 1) := by decide +kernel
theorem dL_order_125 : decode cL_order 125 = .ok (.iload 4, 2) := by decide +kernel
theorem dL_order_127 : decode cL_order 127 = .ok (.iconst 2, 1) := by decide +kernel
theorem dL_order_128 : decode cL_order 128 = .ok (.invokevirtual 143, 3) := by decide +kernel
theorem dL_order_131 : decode cL_order 131 = .ok (.aload_n 0, 1) := by decide +kernel
theorem dL_order_132 : decode cL_order 132 = .ok (.iload 4, 2) := by decide +kernel
theorem dL_order_134 : decode cL_order 134 = .ok (.iconst 0, 1) := by decide +kernel
theorem dL_order_135 : decode cL_order 135 = .ok (.invokevirtual 143, 3) := by decide +kernel
theorem dL_order_138 : decode cL_order 138 = .ok (.if_icmp .gt 7, 3) := by decide +kernel
theorem dL_order_141 : decode cL_order 141 = .ok (.iconst 1, 1) := by decide +kernel
theorem dL_order_142 : decode cL_order 142 = .ok (.goto 4, 3) := by decide +kernel
theorem dL_order_145 : decode cL_order 145 = .ok (.iconst 0, 1) := by decide +kernel
theorem dL_order_146 : decode cL_order 146 = .ok (.istore_n 1, 1) := by decide +kernel
theorem dL_order_147 : decode cL_order 147 = .ok (.iinc 4 1, 3) := by decide +kernel
theorem dL_order_150 : decode cL_order 150 = .ok (.goto (-94), 3) := by decide +kernel
theorem dL_order_153 : decode cL_order 153 = .ok (.iconst 0, 1) := by decide +kernel
theorem dL_order_154 : decode cL_order 154 = .ok (.istore 4, 2) := by decide +kernel
theorem dL_order_156 : decode cL_order 156 = .ok (.iconst 0, 1) := by decide +kernel
theorem dL_order_157 : decode cL_order 157 = .ok (.istore 5, 2) := by decide +kernel
theorem dL_order_159 : decode cL_order 159 = .ok (.iconst 0, 1) := by decide +kernel
theorem dL_order_160 : decode cL_order 160 = .ok (.istore 6, 2) := by decide +kernel
theorem dL_order_162 : decode cL_order 162 = .ok (.iload 6, 2) := by decide +kernel
theorem dL_order_164 : decode cL_order 164 = .ok (.aload_n 0, 1) := by decide +kernel
theorem dL_order_165 : decode cL_order 165 = .ok (.iconst 2, 1) := by decide +kernel
theorem dL_order_166 : decode cL_order 166 = .ok (.invokevirtual 131, 3) := by decide +kernel
theorem dL_order_169 : decode cL_order 169 = .ok (.if_icmp .ge 85, 3) := by decide +kernel
theorem dL_order_172 : decode cL_order 172 = .ok (.iload 4, 2) := by decide +kernel
theorem dL_order_174 : decode cL_order 174 = .ok (.aload_n 0, 1) := by decide +kernel
theorem dL_order_175 : decode cL_order 175 = .ok (.iload 6, 2) := by decide +kernel
theorem dL_order_177 : decode cL_order 177 = .ok (.bipush 6, 2) := by decide +kernel
theorem dL_order_179 : decode cL_order 179 = .ok (.invokevirtual 146, 3) := by decide +kernel
theorem dL_order_182 : decode cL_order 182 = .ok (.iadd, 1) := by decide +kernel
theorem dL_order_183 : decode cL_order 183 = .ok (.istore 4, 2) := by decide +kernel
theorem dL_order_185 : decode cL_order 185 = .ok (.iload 5, 2) := by decide +kernel
theorem dL_order_187 : decode cL_order 187 = .ok (.aload_n 0, 1) := by decide +kernel
theorem dL_order_188 : decode cL_order 188 = .ok (.iload 6, 2) := by decide +kernel
theorem dL_order_190 : decode cL_order 190 = .ok (.bipush 7, 2) := by decide +kernel
theorem dL_order_192 : decode cL_order 192 = .ok (.invokevirtual 146, 3) := by decide +kernel
theorem dL_order_195 : decode cL_order 195 = .ok (.iadd, 1) := by decide +kernel
theorem dL_order_196 : decode cL_order 196 = .ok (.istore 5, 2) := by decide +kernel
theorem dL_order_198 : decode cL_order 198 = .ok (.iload_n 1, 1) := by decide +kernel
theorem dL_order_199 : decode cL_order 199 = .ok (.ifCond .eq 47, 3) := by decide +kernel
theorem dL_order_202 : decode cL_order 202 = .ok (.aload_n 0, 1) := by decide +kernel
theorem dL_order_203 : decode cL_order 203 = .ok (.iload 6, 2) := by decide +kernel
theorem dL_order_205 : decode cL_order 205 = .ok (.bipush 9, 2) := by decide +kernel
theorem dL_order_207 : decode cL_order 207 = .ok (.invokevirtual 146, 3) := by decide +kernel
theorem dL_order_210 : decode cL_order 210 = .ok (.iconst 0, 1) := by decide +kernel
theorem dL_order_211 : decode cL_order 211 = .ok (.aload_n 0, 1) := by decide +kernel
theorem dL_order_212 : decode cL_order 212 = .ok (.iload 6, 2) := by decide +kernel
theorem dL_order_214 : decode cL_order 214 = .ok (.bipush 6, 2) := by decide +kernel
theorem dL_order_216 : decode cL_order 216 = .ok (.invokevirtual 146, 3) := by decide +kernel
theorem dL_order_219 : decode cL_order 219 = .ok (.aload_n 0, 1) := by decide +kernel
theorem dL_order_220 : decode cL_order 220 = .ok (.iload 6, 2) := by decide +kernel
theorem dL_order_222 : decode cL_order 222 = .ok (.iconst 5, 1) := by decide +kernel
theorem dL_order_223 : decode cL_order 223 = .ok (.invokevirtual 146, 3) := by decide +kernel
theorem dL_order_226 : decode cL_order 226 = .ok (.isub, 1) := by decide +kernel
theorem dL_order_227 : decode cL_order 227 = .ok (.aload_n 0, 1) := by decide +kernel
theorem dL_order_228 : decode cL_order 228 = .ok (.iload 6, 2) := by decide +kernel
theorem dL_order_230 : decode cL_order 230 = .ok (.bipush 7, 2) := by decide +kernel
theorem dL_order_232 : decode cL_order 232 = .ok (.invokevirtual 146, 3) := by decide +kernel
theorem dL_order_235 : decode cL_order 235 = .ok (.isub, 1) := by decide +kernel
theorem dL_order_236 : decode cL_order 236 = .ok (.invokestatic 163, 3) := by decide +kernel
theorem dL_order_239 : decode cL_order 239 = .ok (.if_icmp .ne 7, 3) := by decide +kernel
theorem dL_order_242 : decode cL_order 242 = .ok (.iconst 1, 1) := by decide +kernel
theorem dL_order_243 : decode cL_order 243 = .ok (.goto 4, 3) := by decide +kernel
theorem dL_order_246 : decode cL_order 246 = .ok (.iconst 0, 1) := by decide +kernel
theorem dL_order_247 : decode cL_order 247 = .ok (.istore_n 1, 1) := by decide +kernel
theorem dL_order_248 : decode cL_order 248 = .ok (.iinc 6 1, 3) := by decide +kernel
theorem dL_order_251 : decode cL_order 251 = .ok (.goto (-89), 3) := by decide +kernel
theorem dL_order_254 : decode cL_order 254 = .ok (.iconst 0, 1) := by decide +kernel
theorem dL_order_255 : decode cL_order 255 = .ok (.istore 6, 2) := by decide +kernel
theorem dL_order_257 : decode cL_order 257 = .ok (.iconst 0, 1) := by decide +kernel
theorem dL_order_258 : decode cL_order 258 = .ok (.istore 7, 2) := by decide +kernel
theorem dL_order_260 : decode cL_order 260 = .ok (.iload 7, 2) := by decide +kernel
theorem dL_order_262 : decode cL_order 262 = .ok (.aload_n 0, 1) := by decide +kernel
theorem dL_order_263 : decode cL_order 263 = .ok (.bipush 6, 2) := by decide +kernel
theorem dL_order_265 : decode cL_order 265 = .ok (.invokevirtual 131, 3) := by decide +kernel
theorem dL_order_268 : decode cL_order 268 = .ok (.if_icmp .ge 70, 3) := by decide +kernel
theorem dL_order_271 : decode cL_order 271 = .ok (.iload 6, 2) := by decide +kernel
theorem dL_order_273 : decode cL_order 273 = .ok (.aload_n 0, 1) := by decide +kernel
theorem dL_order_274 : decode cL_order 274 = .ok (.iload 7, 2) := by decide +kernel
theorem dL_order_276 : decode cL_order 276 = .ok (.iconst 1, 1) := by decide +kernel
theorem dL_order_277 : decode cL_order 277 = .ok (.invokevirtual 155, 3) := by decide +kernel
theorem dL_order_280 : decode cL_order 280 = .ok (.iadd, 1) := by decide +kernel
theorem dL_order_281 : decode cL_order 281 = .ok (.istore 6, 2) := by decide +kernel
theorem dL_order_283 : decode cL_order 283 = .ok (.iload_n 1, 1) := by decide +kernel
theorem dL_order_284 : decode cL_order 284 = .ok (.ifCond .eq 46, 3) := by decide +kernel
theorem dL_order_287 : decode cL_order 287 = .ok (.aload_n 0, 1) := by decide +kernel
theorem dL_order_288 : decode cL_order 288 = .ok (.iload 7, 2) := by decide +kernel
theorem dL_order_290 : decode cL_order 290 = .ok (.iconst 2, 1) := by decide +kernel
theorem dL_order_291 : decode cL_order 291 = .ok (.invokevirtual 155, 3) := by decide +kernel
theorem dL_order_294 : decode cL_order 294 = .ok (.aload_n 0, 1) := by decide +kernel
theorem dL_order_295 : decode cL_order 295 = .ok (.iconst 5, 1) := by decide +kernel
theorem dL_order_296 : decode cL_order 296 = .ok (.invokevirtual 131, 3) := by decide +kernel
theorem dL_order_299 : decode cL_order 299 = .ok (.if_icmp .ge 31, 3) := by decide +kernel
theorem dL_order_302 : decode cL_order 302 = .ok (.iload 7, 2) := by decide +kernel
theorem dL_order_304 : decode cL_order 304 = .ok (.ifCond .eq 22, 3) := by decide +kernel
theorem dL_order_307 : decode cL_order 307 = .ok (.aload_n 0, 1) := by decide +kernel
theorem dL_order_308 : decode cL_order 308 = .ok (.iload 7, 2) := by decide +kernel
theorem dL_order_310 : decode cL_order 310 = .ok (.iconst 2, 1) := by decide +kernel
theorem dL_order_311 : decode cL_order 311 = .ok (.invokevirtual 155, 3) := by decide +kernel
theorem dL_order_314 : decode cL_order 314 = .ok (.aload_n 0, 1) := by decide +kernel
theorem dL_order_315 : decode cL_order 315 = .ok (.iload 7, 2) := by decide +kernel
theorem dL_order_317 : decode cL_order 317 = .ok (.iconst 1, 1) := by decide +kernel
theorem dL_order_318 : decode cL_order 318 = .ok (.isub, 1) := by decide +kernel
theorem dL_order_319 : decode cL_order 319 = .ok (.iconst 2, 1) := by decide +kernel
theorem dL_order_320 : decode cL_order 320 = .ok (.invokevirtual 155, 3) := by decide +kernel
theorem dL_order_323 : decode cL_order 323 = .ok (.if_icmp .gt 7, 3) := by decide +kernel
theorem dL_order_326 : decode cL_order 326 = .ok (.iconst 1, 1) := by decide +kernel
theorem dL_order_327 : decode cL_order 327 = .ok (.goto 4, 3) := by decide +kernel
theorem dL_order_330 : decode cL_order 330 = .ok (.iconst 0, 1) := by decide +kernel
theorem dL_order_331 : decode cL_order 331 = .ok (.istore_n 1, 1) := by decide +kernel
theorem dL_order_332 : decode cL_order 332 = .ok (.iinc 7 1, 3) := by decide +kernel
theorem dL_order_335 : decode cL_order 335 = .ok (.goto (-75), 3) := by decide +kernel
theorem dL_order_338 : decode cL_order 338 = .ok (.iload_n 1, 1) := by decide +kernel
theorem dL_order_339 : decode cL_order 339 = .ok (.ifCond .eq 33, 3) := by decide +kernel
theorem dL_order_342 : decode cL_order 342 = .ok (.iload 4, 2) := by decide +kernel
theorem dL_order_344 : decode cL_order 344 = .ok (.iload_n 2, 1) := by decide +kernel
theorem dL_order_345 : decode cL_order 345 = .ok (.iload_n 3, 1) := by decide +kernel
theorem dL_order_346 : decode cL_order 346 = .ok (.iadd, 1) := by decide +kernel
theorem dL_order_347 : decode cL_order 347 = .ok (.if_icmp .ne 25, 3) := by decide +kernel
theorem dL_order_350 : decode cL_order 350 = .ok (.aload_n 0, 1) := by decide +kernel
theorem dL_order_351 : decode cL_order 351 = .ok (.bipush 8, 2) := by decide +kernel
theorem dL_order_353 : decode cL_order 353 = .ok (.invokevirtual 131, 3) := by decide +kernel
theorem dL_order_356 : decode cL_order 356 = .ok (.iload 4, 2) := by decide +kernel
theorem dL_order_358 : decode cL_order 358 = .ok (.if_icmp .ne 14, 3) := by decide +kernel
theorem dL_order_361 : decode cL_order 361 = .ok (.iload 5, 2) := by decide +kernel
theorem dL_order_363 : decode cL_order 363 = .ok (.iload 6, 2) := by decide +kernel
theorem dL_order_365 : decode cL_order 365 = .ok (.if_icmp .ne 7, 3) := by decide +kernel
theorem dL_order_368 : decode cL_order 368 = .ok (.iconst 1, 1) := by decide +kernel
theorem dL_order_369 : decode cL_order 369 = .ok (.goto 4, 3) := by decide +kernel
theorem dL_order_372 : decode cL_order 372 = .ok (.iconst 0, 1) := by decide +kernel
theorem dL_order_373 : decode cL_order 373 = .ok (.ireturn, 1) := by decide +kernel
theorem dL_service_0 : decode cL_service 0 = .ok (.bipush 12, 2) := by decide +kernel
theorem dL_service_2 : decode cL_service 2 = .ok (.newarray .int, 2) := by decide +kernel
theorem dL_service_4 : decode cL_service 4 = .ok (.astore_n 1, 1) := by decide +kernel
theorem dL_service_5 : decode cL_service 5 = .ok (.iconst 0, 1) := by decide +kernel
theorem dL_service_6 : decode cL_service 6 = .ok (.istore_n 2, 1) := by decide +kernel
theorem dL_service_7 : decode cL_service 7 = .ok (.iconst 0, 1) := by decide +kernel
theorem dL_service_8 : decode cL_service 8 = .ok (.istore_n 3, 1) := by decide +kernel
theorem dL_service_9 : decode cL_service 9 = .ok (.iconst 0, 1) := by decide +kernel
theorem dL_service_10 : decode cL_service 10 = .ok (.istore 4, 2) := by decide +kernel
theorem dL_service_12 : decode cL_service 12 = .ok (.iconst 1, 1) := by decide +kernel
theorem dL_service_13 : decode cL_service 13 = .ok (.istore 5, 2) := by decide +kernel
theorem dL_service_15 : decode cL_service 15 = .ok (.iconst 0, 1) := by decide +kernel
theorem dL_service_16 : decode cL_service 16 = .ok (.istore 6, 2) := by decide +kernel
theorem dL_service_18 : decode cL_service 18 = .ok (.iload 6, 2) := by decide +kernel
theorem dL_service_20 : decode cL_service 20 = .ok (.aload_n 0, 1) := by decide +kernel
theorem dL_service_21 : decode cL_service 21 = .ok (.iconst 3, 1) := by decide +kernel
theorem dL_service_22 : decode cL_service 22 = .ok (.invokevirtual 131, 3) := by decide +kernel
theorem dL_service_25 : decode cL_service 25 = .ok (.if_icmp .ge 143, 3) := by decide +kernel
theorem dL_service_28 : decode cL_service 28 = .ok (.iload 5, 2) := by decide +kernel
theorem dL_service_30 : decode cL_service 30 = .ok (.ifCond .eq 138, 3) := by decide +kernel
theorem dL_service_33 : decode cL_service 33 = .ok (.aload_n 0, 1) := by decide +kernel
theorem dL_service_34 : decode cL_service 34 = .ok (.iload 6, 2) := by decide +kernel
theorem dL_service_36 : decode cL_service 36 = .ok (.invokevirtual 168, 3) := by decide +kernel
theorem dL_service_39 : decode cL_service 39 = .ok (.istore 7, 2) := by decide +kernel
theorem dL_service_41 : decode cL_service 41 = .ok (.iload 7, 2) := by decide +kernel
theorem dL_service_43 : decode cL_service 43 = .ok (.ifCond .ge 6, 3) := by decide +kernel
theorem dL_service_46 : decode cL_service 46 = .ok (.goto 116, 3) := by decide +kernel
theorem dL_service_49 : decode cL_service 49 = .ok (.iinc 3 1, 3) := by decide +kernel
theorem dL_service_52 : decode cL_service 52 = .ok (.aload_n 1, 1) := by decide +kernel
theorem dL_service_53 : decode cL_service 53 = .ok (.iload 7, 2) := by decide +kernel
theorem dL_service_55 : decode cL_service 55 = .ok (.dup2, 1) := by decide +kernel
theorem dL_service_56 : decode cL_service 56 = .ok (.iaload, 1) := by decide +kernel
theorem dL_service_57 : decode cL_service 57 = .ok (.iconst 1, 1) := by decide +kernel
theorem dL_service_58 : decode cL_service 58 = .ok (.iadd, 1) := by decide +kernel
theorem dL_service_59 : decode cL_service 59 = .ok (.iastore, 1) := by decide +kernel
theorem dL_service_60 : decode cL_service 60 = .ok (.aload_n 0, 1) := by decide +kernel
theorem dL_service_61 : decode cL_service 61 = .ok (.iload 6, 2) := by decide +kernel
theorem dL_service_63 : decode cL_service 63 = .ok (.iconst 1, 1) := by decide +kernel
theorem dL_service_64 : decode cL_service 64 = .ok (.invokevirtual 149, 3) := by decide +kernel
theorem dL_service_67 : decode cL_service 67 = .ok (.ifCond .ne 7, 3) := by decide +kernel
theorem dL_service_70 : decode cL_service 70 = .ok (.iconst 1, 1) := by decide +kernel
theorem dL_service_71 : decode cL_service 71 = .ok (.goto 4, 3) := by decide +kernel
theorem dL_service_74 : decode cL_service 74 = .ok (.iconst 0, 1) := by decide +kernel
theorem dL_service_75 : decode cL_service 75 = .ok (.istore 8, 2) := by decide +kernel
theorem dL_service_77 : decode cL_service 77 = .ok (.iload_n 2, 1) := by decide +kernel
theorem dL_service_78 : decode cL_service 78 = .ok (.iload 8, 2) := by decide +kernel
theorem dL_service_80 : decode cL_service 80 = .ok (.ifCond .eq 7, 3) := by decide +kernel
theorem dL_service_83 : decode cL_service 83 = .ok (.iconst 0, 1) := by decide +kernel
theorem dL_service_84 : decode cL_service 84 = .ok (.goto 4, 3) := by decide +kernel
theorem dL_service_87 : decode cL_service 87 = .ok (.iconst 1, 1) := by decide +kernel
theorem dL_service_88 : decode cL_service 88 = .ok (.iadd, 1) := by decide +kernel
theorem dL_service_89 : decode cL_service 89 = .ok (.istore_n 2, 1) := by decide +kernel
theorem dL_service_90 : decode cL_service 90 = .ok (.iload 4, 2) := by decide +kernel
theorem dL_service_92 : decode cL_service 92 = .ok (.iload 8, 2) := by decide +kernel
theorem dL_service_94 : decode cL_service 94 = .ok (.ifCond .eq 19, 3) := by decide +kernel
theorem dL_service_97 : decode cL_service 97 = .ok (.aload_n 0, 1) := by decide +kernel
theorem dL_service_98 : decode cL_service 98 = .ok (.iload 6, 2) := by decide +kernel
theorem dL_service_100 : decode cL_service 100 = .ok (.iconst 2, 1) := by decide +kernel
theorem dL_service_101 : decode cL_service 101 = .ok (.invokevirtual 149, 3) := by decide +kernel
theorem dL_service_104 : decode cL_service 104 = .ok (.iload 7, 2) := by decide +kernel
theorem dL_service_106 : decode cL_service 106 = .ok (.if_icmp .ne 7, 3) := by decide +kernel
theorem dL_service_109 : decode cL_service 109 = .ok (.iconst 1, 1) := by decide +kernel
theorem dL_service_110 : decode cL_service 110 = .ok (.goto 4, 3) := by decide +kernel
theorem dL_service_113 : decode cL_service 113 = .ok (.iconst 0, 1) := by decide +kernel
theorem dL_service_114 : decode cL_service 114 = .ok (.iadd, 1) := by decide +kernel
theorem dL_service_115 : decode cL_service 115 = .ok (.istore 4, 2) := by decide +kernel
theorem dL_service_117 : decode cL_service 117 = .ok (.aload_n 0, 1) := by decide +kernel
theorem dL_service_118 : decode cL_service 118 = .ok (.iload 6, 2) := by decide +kernel
theorem dL_service_120 : decode cL_service 120 = .ok (.iconst 4, 1) := by decide +kernel
theorem dL_service_121 : decode cL_service 121 = .ok (.invokevirtual 149, 3) := by decide +kernel
theorem dL_service_124 : decode cL_service 124 = .ok (.iload 7, 2) := by decide +kernel
theorem dL_service_126 : decode cL_service 126 = .ok (.ishr, 1) := by decide +kernel
theorem dL_service_127 : decode cL_service 127 = .ok (.iconst 1, 1) := by decide +kernel
theorem dL_service_128 : decode cL_service 128 = .ok (.iand, 1) := by decide +kernel
theorem dL_service_129 : decode cL_service 129 = .ok (.iconst 1, 1) := by decide +kernel
theorem dL_service_130 : decode cL_service 130 = .ok (.if_icmp .ne 29, 3) := by decide +kernel
theorem dL_service_133 : decode cL_service 133 = .ok (.iload 8, 2) := by decide +kernel
theorem dL_service_135 : decode cL_service 135 = .ok (.ifCond .eq 20, 3) := by decide +kernel
theorem dL_service_138 : decode cL_service 138 = .ok (.aload_n 0, 1) := by decide +kernel
theorem dL_service_139 : decode cL_service 139 = .ok (.iload 7, 2) := by decide +kernel
theorem dL_service_141 : decode cL_service 141 = .ok (.iconst 0, 1) := by decide +kernel
theorem dL_service_142 : decode cL_service 142 = .ok (.invokevirtual 146, 3) := by decide +kernel
theorem dL_service_145 : decode cL_service 145 = .ok (.aload_n 0, 1) := by decide +kernel
theorem dL_service_146 : decode cL_service 146 = .ok (.iload 6, 2) := by decide +kernel
theorem dL_service_148 : decode cL_service 148 = .ok (.iconst 0, 1) := by decide +kernel
theorem dL_service_149 : decode cL_service 149 = .ok (.invokevirtual 149, 3) := by decide +kernel
theorem dL_service_152 : decode cL_service 152 = .ok (.if_icmp .ne 7, 3) := by decide +kernel
theorem dL_service_155 : decode cL_service 155 = .ok (.iconst 1, 1) := by decide +kernel
theorem dL_service_156 : decode cL_service 156 = .ok (.goto 4, 3) := by decide +kernel
theorem dL_service_159 : decode cL_service 159 = .ok (.iconst 0, 1) := by decide +kernel
theorem dL_service_160 : decode cL_service 160 = .ok (.istore 5, 2) := by decide +kernel
theorem dL_service_162 : decode cL_service 162 = .ok (.iinc 6 1, 3) := by decide +kernel
theorem dL_service_165 : decode cL_service 165 = .ok (.goto (-147), 3) := by decide +kernel
theorem dL_service_168 : decode cL_service 168 = .ok (.iconst 0, 1) := by decide +kernel
theorem dL_service_169 : decode cL_service 169 = .ok (.istore 6, 2) := by decide +kernel
theorem dL_service_171 : decode cL_service 171 = .ok (.iconst 0, 1) := by decide +kernel
theorem dL_service_172 : decode cL_service 172 = .ok (.istore 7, 2) := by decide +kernel
theorem dL_service_174 : decode cL_service 174 = .ok (.iconst 0, 1) := by decide +kernel
theorem dL_service_175 : decode cL_service 175 = .ok (.istore 8, 2) := by decide +kernel
theorem dL_service_177 : decode cL_service 177 = .ok (.iconst 0, 1) := by decide +kernel
theorem dL_service_178 : decode cL_service 178 = .ok (.istore 9, 2) := by decide +kernel
theorem dL_service_180 : decode cL_service 180 = .ok (.iload 9, 2) := by decide +kernel
theorem dL_service_182 : decode cL_service 182 = .ok (.aload_n 0, 1) := by decide +kernel
theorem dL_service_183 : decode cL_service 183 = .ok (.iconst 2, 1) := by decide +kernel
theorem dL_service_184 : decode cL_service 184 = .ok (.invokevirtual 131, 3) := by decide +kernel
theorem dL_service_187 : decode cL_service 187 = .ok (.if_icmp .ge 62, 3) := by decide +kernel
theorem dL_service_190 : decode cL_service 190 = .ok (.aload_n 0, 1) := by decide +kernel
theorem dL_service_191 : decode cL_service 191 = .ok (.iload 9, 2) := by decide +kernel
theorem dL_service_193 : decode cL_service 193 = .ok (.iconst 5, 1) := by decide +kernel
theorem dL_service_194 : decode cL_service 194 = .ok (.invokevirtual 146, 3) := by decide +kernel
theorem dL_service_197 : decode cL_service 197 = .ok (.aload_n 1, 1) := by decide +kernel
theorem dL_service_198 : decode cL_service 198 = .ok (.iload 9, 2) := by decide +kernel
theorem dL_service_200 : decode cL_service 200 = .ok (.iaload, 1) := by decide +kernel
theorem dL_service_201 : decode cL_service 201 = .ok (.isub, 1) := by decide +kernel
theorem dL_service_202 : decode cL_service 202 = .ok (.istore 10, 2) := by decide +kernel
theorem dL_service_204 : decode cL_service 204 = .ok (.iload 5, 2) := by decide +kernel
theorem dL_service_206 : decode cL_service 206 = .ok (.ifCond .eq 12, 3) := by decide +kernel
theorem dL_service_209 : decode cL_service 209 = .ok (.iload 10, 2) := by decide +kernel
theorem dL_service_211 : decode cL_service 211 = .ok (.ifCond .lt 7, 3) := by decide +kernel
theorem dL_service_214 : decode cL_service 214 = .ok (.iconst 1, 1) := by decide +kernel
theorem dL_service_215 : decode cL_service 215 = .ok (.goto 4, 3) := by decide +kernel
theorem dL_service_218 : decode cL_service 218 = .ok (.iconst 0, 1) := by decide +kernel
theorem dL_service_219 : decode cL_service 219 = .ok (.istore 5, 2) := by decide +kernel
theorem dL_service_221 : decode cL_service 221 = .ok (.iload 6, 2) := by decide +kernel
theorem dL_service_223 : decode cL_service 223 = .ok (.iload 10, 2) := by decide +kernel
theorem dL_service_225 : decode cL_service 225 = .ok (.iadd, 1) := by decide +kernel
theorem dL_service_226 : decode cL_service 226 = .ok (.istore 6, 2) := by decide +kernel
theorem dL_service_228 : decode cL_service 228 = .ok (.iload 7, 2) := by decide +kernel
theorem dL_service_230 : decode cL_service 230 = .ok (.iload 10, 2) := by decide +kernel
theorem dL_service_232 : decode cL_service 232 = .ok (.aload_n 0, 1) := by decide +kernel
theorem dL_service_233 : decode cL_service 233 = .ok (.iload 9, 2) := by decide +kernel
theorem dL_service_235 : decode cL_service 235 = .ok (.iconst 3, 1) := by decide +kernel
theorem dL_service_236 : decode cL_service 236 = .ok (.invokevirtual 146, 3) := by decide +kernel
theorem dL_service_239 : decode cL_service 239 = .ok (.imul, 1) := by decide +kernel
theorem dL_service_240 : decode cL_service 240 = .ok (.iadd, 1) := by decide +kernel
theorem dL_service_241 : decode cL_service 241 = .ok (.istore 7, 2) := by decide +kernel
theorem dL_service_243 : decode cL_service 243 = .ok (.iinc 9 1, 3) := by decide +kernel
theorem dL_service_246 : decode cL_service 246 = .ok (.goto (-66), 3) := by decide +kernel
theorem dL_service_249 : decode cL_service 249 = .ok (.iconst 0, 1) := by decide +kernel
theorem dL_service_250 : decode cL_service 250 = .ok (.istore 9, 2) := by decide +kernel
theorem dL_service_252 : decode cL_service 252 = .ok (.iload 9, 2) := by decide +kernel
theorem dL_service_254 : decode cL_service 254 = .ok (.aload_n 0, 1) := by decide +kernel
theorem dL_service_255 : decode cL_service 255 = .ok (.iconst 3, 1) := by decide +kernel
theorem dL_service_256 : decode cL_service 256 = .ok (.invokevirtual 131, 3) := by decide +kernel
theorem dL_service_259 : decode cL_service 259 = .ok (.if_icmp .ge 129, 3) := by decide +kernel
theorem dL_service_262 : decode cL_service 262 = .ok (.aload_n 0, 1) := by decide +kernel
theorem dL_service_263 : decode cL_service 263 = .ok (.iload 9, 2) := by decide +kernel
theorem dL_service_265 : decode cL_service 265 = .ok (.invokevirtual 168, 3) := by decide +kernel
theorem dL_service_268 : decode cL_service 268 = .ok (.ifCond .ge 13, 3) := by decide +kernel
theorem dL_service_271 : decode cL_service 271 = .ok (.aload_n 0, 1) := by decide +kernel
theorem dL_service_272 : decode cL_service 272 = .ok (.iload 9, 2) := by decide +kernel
theorem dL_service_274 : decode cL_service 274 = .ok (.iconst 4, 1) := by decide +kernel
theorem dL_service_275 : decode cL_service 275 = .ok (.invokevirtual 149, 3) := by decide +kernel
theorem dL_service_278 : decode cL_service 278 = .ok (.goto 4, 3) := by decide +kernel
theorem dL_service_281 : decode cL_service 281 = .ok (.iconst 0, 1) := by decide +kernel
theorem dL_service_282 : decode cL_service 282 = .ok (.istore 10, 2) := by decide +kernel
theorem dL_service_284 : decode cL_service 284 = .ok (.iconst 0, 1) := by decide +kernel
theorem dL_service_285 : decode cL_service 285 = .ok (.istore 11, 2) := by decide +kernel
theorem dL_service_287 : decode cL_service 287 = .ok (.iload 11, 2) := by decide +kernel
theorem dL_service_289 : decode cL_service 289 = .ok (.aload_n 0, 1) := by decide +kernel
theorem dL_service_290 : decode cL_service 290 = .ok (.iconst 2, 1) := by decide +kernel
theorem dL_service_291 : decode cL_service 291 = .ok (.invokevirtual 131, 3) := by decide +kernel
theorem dL_service_294 : decode cL_service 294 = .ok (.if_icmp .ge 88, 3) := by decide +kernel
theorem dL_service_297 : decode cL_service 297 = .ok (.iload 10, 2) := by decide +kernel
theorem dL_service_299 : decode cL_service 299 = .ok (.iload 11, 2) := by decide +kernel
theorem dL_service_301 : decode cL_service 301 = .ok (.ishr, 1) := by decide +kernel
theorem dL_service_302 : decode cL_service 302 = .ok (.iconst 1, 1) := by decide +kernel
theorem dL_service_303 : decode cL_service 303 = .ok (.iand, 1) := by decide +kernel
theorem dL_service_304 : decode cL_service 304 = .ok (.iconst 1, 1) := by decide +kernel
theorem dL_service_305 : decode cL_service 305 = .ok (.if_icmp .ne 27, 3) := by decide +kernel
theorem dL_service_308 : decode cL_service 308 = .ok (.aload_n 0, 1) := by decide +kernel
theorem dL_service_309 : decode cL_service 309 = .ok (.iload 9, 2) := by decide +kernel
theorem dL_service_311 : decode cL_service 311 = .ok (.iconst 1, 1) := by decide +kernel
theorem dL_service_312 : decode cL_service 312 = .ok (.invokevirtual 149, 3) := by decide +kernel
theorem dL_service_315 : decode cL_service 315 = .ok (.ifCond .ne 13, 3) := by decide +kernel
theorem dL_service_318 : decode cL_service 318 = .ok (.aload_n 0, 1) := by decide +kernel
theorem dL_service_319 : decode cL_service 319 = .ok (.iload 11, 2) := by decide +kernel
theorem dL_service_321 : decode cL_service 321 = .ok (.iconst 0, 1) := by decide +kernel
theorem dL_service_322 : decode cL_service 322 = .ok (.invokevirtual 146, 3) := by decide +kernel
theorem dL_service_325 : decode cL_service 325 = .ok (.ifCond .lt 7, 3) := by decide +kernel
theorem dL_service_328 : decode cL_service 328 = .ok (.iconst 1, 1) := by decide +kernel
theorem dL_service_329 : decode cL_service 329 = .ok (.goto 4, 3) := by decide +kernel
theorem dL_service_332 : decode cL_service 332 = .ok (.iconst 0, 1) := by decide +kernel
theorem dL_service_333 : decode cL_service 333 = .ok (.istore 12, 2) := by decide +kernel
theorem dL_service_335 : decode cL_service 335 = .ok (.iload 8, 2) := by decide +kernel
theorem dL_service_337 : decode cL_service 337 = .ok (.ifCond .ne 32, 3) := by decide +kernel
theorem dL_service_340 : decode cL_service 340 = .ok (.iload 12, 2) := by decide +kernel
theorem dL_service_342 : decode cL_service 342 = .ok (.ifCond .eq 31, 3) := by decide +kernel
theorem dL_service_345 : decode cL_service 345 = .ok (.aload_n 0, 1) := by decide +kernel
theorem dL_service_346 : decode cL_service 346 = .ok (.iload 11, 2) := by decide +kernel
theorem dL_service_348 : decode cL_service 348 = .ok (.iconst 5, 1) := by decide +kernel
theorem dL_service_349 : decode cL_service 349 = .ok (.invokevirtual 146, 3) := by decide +kernel
theorem dL_service_352 : decode cL_service 352 = .ok (.aload_n 1, 1) := by decide +kernel
theorem dL_service_353 : decode cL_service 353 = .ok (.iload 11, 2) := by decide +kernel
theorem dL_service_355 : decode cL_service 355 = .ok (.iaload, 1) := by decide +kernel
theorem dL_service_356 : decode cL_service 356 = .ok (.if_icmp .le 17, 3) := by decide +kernel
theorem dL_service_359 : decode cL_service 359 = .ok (.aload_n 0, 1) := by decide +kernel
theorem dL_service_360 : decode cL_service 360 = .ok (.iload 9, 2) := by decide +kernel
theorem dL_service_362 : decode cL_service 362 = .ok (.iconst 1, 1) := by decide +kernel
theorem dL_service_363 : decode cL_service 363 = .ok (.invokevirtual 149, 3) := by decide +kernel
theorem dL_service_366 : decode cL_service 366 = .ok (.ifCond .ne 7, 3) := by decide +kernel
theorem dL_service_369 : decode cL_service 369 = .ok (.iconst 1, 1) := by decide +kernel
theorem dL_service_370 : decode cL_service 370 = .ok (.goto 4, 3) := by decide +kernel
theorem dL_service_373 : decode cL_service 373 = .ok (.iconst 0, 1) := by decide +kernel
theorem dL_service_374 : decode cL_service 374 = .ok (.istore 8, 2) := by decide +kernel
theorem dL_service_376 : decode cL_service 376 = .ok (.iinc 11 1, 3) := by decide +kernel
theorem dL_service_379 : decode cL_service 379 = .ok (.goto (-92), 3) := by decide +kernel
theorem dL_service_382 : decode cL_service 382 = .ok (.iinc 9 1, 3) := by decide +kernel
theorem dL_service_385 : decode cL_service 385 = .ok (.goto (-133), 3) := by decide +kernel
theorem dL_service_388 : decode cL_service 388 = .ok (.iload 5, 2) := by decide +kernel
theorem dL_service_390 : decode cL_service 390 = .ok (.ifCond .eq 75, 3) := by decide +kernel
theorem dL_service_393 : decode cL_service 393 = .ok (.iload 8, 2) := by decide +kernel
theorem dL_service_395 : decode cL_service 395 = .ok (.ifCond .ne 70, 3) := by decide +kernel
theorem dL_service_398 : decode cL_service 398 = .ok (.aload_n 0, 1) := by decide +kernel
theorem dL_service_399 : decode cL_service 399 = .ok (.iconst 0, 1) := by decide +kernel
theorem dL_service_400 : decode cL_service 400 = .ok (.invokevirtual 136, 3) := by decide +kernel
theorem dL_service_403 : decode cL_service 403 = .ok (.iload_n 2, 1) := by decide +kernel
theorem dL_service_404 : decode cL_service 404 = .ok (.if_icmp .ne 61, 3) := by decide +kernel
theorem dL_service_407 : decode cL_service 407 = .ok (.aload_n 0, 1) := by decide +kernel
theorem dL_service_408 : decode cL_service 408 = .ok (.iconst 1, 1) := by decide +kernel
theorem dL_service_409 : decode cL_service 409 = .ok (.invokevirtual 136, 3) := by decide +kernel
theorem dL_service_412 : decode cL_service 412 = .ok (.iload_n 3, 1) := by decide +kernel
theorem dL_service_413 : decode cL_service 413 = .ok (.if_icmp .ne 52, 3) := by decide +kernel
theorem dL_service_416 : decode cL_service 416 = .ok (.aload_n 0, 1) := by decide +kernel
theorem dL_service_417 : decode cL_service 417 = .ok (.iconst 2, 1) := by decide +kernel
theorem dL_service_418 : decode cL_service 418 = .ok (.invokevirtual 136, 3) := by decide +kernel
theorem dL_service_421 : decode cL_service 421 = .ok (.aload_n 0, 1) := by decide +kernel
theorem dL_service_422 : decode cL_service 422 = .ok (.iconst 3, 1) := by decide +kernel
theorem dL_service_423 : decode cL_service 423 = .ok (.invokevirtual 131, 3) := by decide +kernel
theorem dL_service_426 : decode cL_service 426 = .ok (.iload_n 3, 1) := by decide +kernel
theorem dL_service_427 : decode cL_service 427 = .ok (.isub, 1) := by decide +kernel
theorem dL_service_428 : decode cL_service 428 = .ok (.if_icmp .ne 37, 3) := by decide +kernel
theorem dL_service_431 : decode cL_service 431 = .ok (.aload_n 0, 1) := by decide +kernel
theorem dL_service_432 : decode cL_service 432 = .ok (.iconst 3, 1) := by decide +kernel
theorem dL_service_433 : decode cL_service 433 = .ok (.invokevirtual 136, 3) := by decide +kernel
theorem dL_service_436 : decode cL_service 436 = .ok (.iload 6, 2) := by decide +kernel
theorem dL_service_438 : decode cL_service 438 = .ok (.if_icmp .ne 27, 3) := by decide +kernel
theorem dL_service_441 : decode cL_service 441 = .ok (.aload_n 0, 1) := by decide +kernel
theorem dL_service_442 : decode cL_service 442 = .ok (.iconst 4, 1) := by decide +kernel
theorem dL_service_443 : decode cL_service 443 = .ok (.invokevirtual 136, 3) := by decide +kernel
theorem dL_service_446 : decode cL_service 446 = .ok (.iload 7, 2) := by decide +kernel
theorem dL_service_448 : decode cL_service 448 = .ok (.if_icmp .ne 17, 3) := by decide +kernel
theorem dL_service_451 : decode cL_service 451 = .ok (.aload_n 0, 1) := by decide +kernel
theorem dL_service_452 : decode cL_service 452 = .ok (.iconst 5, 1) := by decide +kernel
theorem dL_service_453 : decode cL_service 453 = .ok (.invokevirtual 136, 3) := by decide +kernel
theorem dL_service_456 : decode cL_service 456 = .ok (.iload 4, 2) := by decide +kernel
theorem dL_service_458 : decode cL_service 458 = .ok (.if_icmp .ne 7, 3) := by decide +kernel
theorem dL_service_461 : decode cL_service 461 = .ok (.iconst 1, 1) := by decide +kernel
theorem dL_service_462 : decode cL_service 462 = .ok (.goto 4, 3) := by decide +kernel
theorem dL_service_465 : decode cL_service 465 = .ok (.iconst 0, 1) := by decide +kernel
theorem dL_service_466 : decode cL_service 466 = .ok (.ireturn, 1) := by decide +kernel
theorem dL_law_0 : decode cL_law 0 = .ok (.new 19, 3) := by decide +kernel
theorem dL_law_3 : decode cL_law 3 = .ok (.dup, 1) := by decide +kernel
theorem dL_law_4 : decode cL_law 4 = .ok (.invokespecial 171, 3) := by decide +kernel
theorem dL_law_7 : decode cL_law 7 = .ok (.astore_n 1, 1) := by decide +kernel
theorem dL_law_8 : decode cL_law 8 = .ok (.iconst 1, 1) := by decide +kernel
theorem dL_law_9 : decode cL_law 9 = .ok (.newarray .int, 2) := by decide +kernel
theorem dL_law_11 : decode cL_law 11 = .ok (.dup, 1) := by decide +kernel
theorem dL_law_12 : decode cL_law 12 = .ok (.iconst 0, 1) := by decide +kernel
theorem dL_law_13 : decode cL_law 13 = .ok (.aload_n 0, 1) := by decide +kernel
theorem dL_law_14 : decode cL_law 14 = .ok (.arraylength, 1) := by decide +kernel
theorem dL_law_15 : decode cL_law 15 = .ok (.ifCond .ne 9, 3) := by decide +kernel
theorem dL_law_18 : decode cL_law 18 = .ok (.sipush 5759, 3) := by decide +kernel
theorem dL_law_21 : decode cL_law 21 = .ok (.goto 6, 3) := by decide +kernel
theorem dL_law_24 : decode cL_law 24 = .ok (.aload_n 0, 1) := by decide +kernel
theorem dL_law_25 : decode cL_law 25 = .ok (.iconst 0, 1) := by decide +kernel
theorem dL_law_26 : decode cL_law 26 = .ok (.iaload, 1) := by decide +kernel
theorem dL_law_27 : decode cL_law 27 = .ok (.iastore, 1) := by decide +kernel
theorem dL_law_28 : decode cL_law 28 = .ok (.astore_n 2, 1) := by decide +kernel
theorem dL_law_29 : decode cL_law 29 = .ok (.iconst 1, 1) := by decide +kernel
theorem dL_law_30 : decode cL_law 30 = .ok (.istore_n 3, 1) := by decide +kernel
theorem dL_law_31 : decode cL_law 31 = .ok (.iconst 0, 1) := by decide +kernel
theorem dL_law_32 : decode cL_law 32 = .ok (.istore 4, 2) := by decide +kernel
theorem dL_law_34 : decode cL_law 34 = .ok (.iload 4, 2) := by decide +kernel
theorem dL_law_36 : decode cL_law 36 = .ok (.iconst 5, 1) := by decide +kernel
theorem dL_law_37 : decode cL_law 37 = .ok (.if_icmp .ge 548, 3) := by decide +kernel
theorem dL_law_40 : decode cL_law 40 = .ok (.iload_n 3, 1) := by decide +kernel
theorem dL_law_41 : decode cL_law 41 = .ok (.ifCond .eq 544, 3) := by decide +kernel
theorem dL_law_44 : decode cL_law 44 = .ok (.aload_n 2, 1) := by decide +kernel
theorem dL_law_45 : decode cL_law 45 = .ok (.iconst 0, 1) := by decide +kernel
theorem dL_law_46 : decode cL_law 46 = .ok (.dup2, 1) := by decide +kernel
theorem dL_law_47 : decode cL_law 47 = .ok (.iaload, 1) := by decide +kernel
theorem dL_law_48 : decode cL_law 48 = .ok (.iload 4, 2) := by decide +kernel
theorem dL_law_50 : decode cL_law 50 = .ok (.aload_n 0, 1) := by decide +kernel
theorem dL_law_51 : decode cL_law 51 = .ok (.arraylength, 1) := by decide +kernel
theorem dL_law_52 : decode cL_law 52 = .ok (.if_icmp .ge 10, 3) := by decide +kernel
theorem dL_law_55 : decode cL_law 55 = .ok (.aload_n 0, 1) := by decide +kernel
theorem dL_law_56 : decode cL_law 56 = .ok (.iload 4, 2) := by decide +kernel
theorem dL_law_58 : decode cL_law 58 = .ok (.iaload, 1) := by decide +kernel
theorem dL_law_59 : decode cL_law 59 = .ok (.goto 4, 3) := by decide +kernel
theorem dL_law_62 : decode cL_law 62 = .ok (.iconst 0, 1) := by decide +kernel
theorem dL_law_63 : decode cL_law 63 = .ok (.ixor, 1) := by decide +kernel
theorem dL_law_64 : decode cL_law 64 = .ok (.iastore, 1) := by decide +kernel
theorem dL_law_65 : decode cL_law 65 = .ok (.aload_n 1, 1) := by decide +kernel
theorem dL_law_66 : decode cL_law 66 = .ok (.iconst 0, 1) := by decide +kernel
theorem dL_law_67 : decode cL_law 67 = .ok (.invokevirtual 139, 3) := by decide +kernel
theorem dL_law_70 : decode cL_law 70 = .ok (.lstore 5, 2) := by decide +kernel
theorem dL_law_72 : decode cL_law 72 = .ok (.aload_n 1, 1) := by decide +kernel
theorem dL_law_73 : decode cL_law 73 = .ok (.aload_n 2, 1) := by decide +kernel
theorem dL_law_74 : decode cL_law 74 = .ok (.invokestatic 172, 3) := by decide +kernel
theorem dL_law_77 : decode cL_law 77 = .ok (.invokestatic 176, 3) := by decide +kernel
theorem dL_law_80 : decode cL_law 80 = .ok (.iconst 2, 1) := by decide +kernel
theorem dL_law_81 : decode cL_law 81 = .ok (.if_icmp .lt 31, 3) := by decide +kernel
theorem dL_law_84 : decode cL_law 84 = .ok (.aload_n 1, 1) := by decide +kernel
theorem dL_law_85 : decode cL_law 85 = .ok (.iconst 0, 1) := by decide +kernel
theorem dL_law_86 : decode cL_law 86 = .ok (.invokevirtual 139, 3) := by decide +kernel
theorem dL_law_89 : decode cL_law 89 = .ok (.lload 5, 2) := by decide +kernel
theorem dL_law_91 : decode cL_law 91 = .ok (.lcmp, 1) := by decide +kernel
theorem dL_law_92 : decode cL_law 92 = .ok (.ifCond .ne 20, 3) := by decide +kernel
theorem dL_law_95 : decode cL_law 95 = .ok (.aload_n 1, 1) := by decide +kernel
theorem dL_law_96 : decode cL_law 96 = .ok (.iconst 0, 1) := by decide +kernel
theorem dL_law_97 : decode cL_law 97 = .ok (.invokevirtual 178, 3) := by decide +kernel
theorem dL_law_100 : decode cL_law 100 = .ok (.aload_n 1, 1) := by decide +kernel
theorem dL_law_101 : decode cL_law 101 = .ok (.iconst 0, 1) := by decide +kernel
theorem dL_law_102 : decode cL_law 102 = .ok (.invokevirtual 131, 3) := by decide +kernel
theorem dL_law_105 : decode cL_law 105 = .ok (.if_icmp .ne 7, 3) := by decide +kernel
theorem dL_law_108 : decode cL_law 108 = .ok (.iconst 1, 1) := by decide +kernel
theorem dL_law_109 : decode cL_law 109 = .ok (.goto 4, 3) := by decide +kernel
theorem dL_law_112 : decode cL_law 112 = .ok (.iconst 0, 1) := by decide +kernel
theorem dL_law_113 : decode cL_law 113 = .ok (.istore_n 3, 1) := by decide +kernel
theorem dL_law_114 : decode cL_law 114 = .ok (.aload_n 1, 1) := by decide +kernel
theorem dL_law_115 : decode cL_law 115 = .ok (.invokestatic 181, 3) := by decide +kernel
theorem dL_law_118 : decode cL_law 118 = .ok (.lstore 7, 2) := by decide +kernel
theorem dL_law_120 : decode cL_law 120 = .ok (.iconst 0, 1) := by decide +kernel
theorem dL_law_121 : decode cL_law 121 = .ok (.istore 9, 2) := by decide +kernel
theorem dL_law_123 : decode cL_law 123 = .ok (.iload 9, 2) := by decide +kernel
theorem dL_law_125 : decode cL_law 125 = .ok (.bipush 14, 2) := by decide +kernel
theorem dL_law_127 : decode cL_law 127 = .ok (.if_icmp .ge 149, 3) := by decide +kernel
theorem dL_law_130 : decode cL_law 130 = .ok (.iload_n 3, 1) := by decide +kernel
theorem dL_law_131 : decode cL_law 131 = .ok (.ifCond .eq 145, 3) := by decide +kernel
theorem dL_law_134 : decode cL_law 134 = .ok (.aload_n 1, 1) := by decide +kernel
theorem dL_law_135 : decode cL_law 135 = .ok (.invokestatic 181, 3) := by decide +kernel
theorem dL_law_138 : decode cL_law 138 = .ok (.lstore 10, 2) := by decide +kernel
theorem dL_law_140 : decode cL_law 140 = .ok (.aload_n 1, 1) := by decide +kernel
theorem dL_law_141 : decode cL_law 141 = .ok (.aload_n 2, 1) := by decide +kernel
theorem dL_law_142 : decode cL_law 142 = .ok (.invokestatic 185, 3) := by decide +kernel
theorem dL_law_145 : decode cL_law 145 = .ok (.istore 12, 2) := by decide +kernel
theorem dL_law_147 : decode cL_law 147 = .ok (.iload 12, 2) := by decide +kernel
theorem dL_law_149 : decode cL_law 149 = .ok (.ifCond .ne 13, 3) := by decide +kernel
theorem dL_law_152 : decode cL_law 152 = .ok (.aload_n 1, 1) := by decide +kernel
theorem dL_law_153 : decode cL_law 153 = .ok (.invokestatic 181, 3) := by decide +kernel
theorem dL_law_156 : decode cL_law 156 = .ok (.lload 10, 2) := by decide +kernel
theorem dL_law_158 : decode cL_law 158 = .ok (.lcmp, 1) := by decide +kernel
theorem dL_law_159 : decode cL_law 159 = .ok (.ifCond .ne 68, 3) := by decide +kernel
theorem dL_law_162 : decode cL_law 162 = .ok (.aload_n 1, 1) := by decide +kernel
theorem dL_law_163 : decode cL_law 163 = .ok (.invokestatic 189, 3) := by decide +kernel
theorem dL_law_166 : decode cL_law 166 = .ok (.ifCond .eq 61, 3) := by decide +kernel
theorem dL_law_169 : decode cL_law 169 = .ok (.aload_n 1, 1) := by decide +kernel
theorem dL_law_170 : decode cL_law 170 = .ok (.invokestatic 193, 3) := by decide +kernel
theorem dL_law_173 : decode cL_law 173 = .ok (.ifCond .eq 54, 3) := by decide +kernel
theorem dL_law_176 : decode cL_law 176 = .ok (.aload_n 2, 1) := by decide +kernel
theorem dL_law_177 : decode cL_law 177 = .ok (.invokestatic 39, 3) := by decide +kernel
theorem dL_law_180 : decode cL_law 180 = .ok (.iconst 3, 1) := by decide +kernel
theorem dL_law_181 : decode cL_law 181 = .ok (.irem, 1) := by decide +kernel
theorem dL_law_182 : decode cL_law 182 = .ok (.ifCond .gt 10, 3) := by decide +kernel
theorem dL_law_185 : decode cL_law 185 = .ok (.aload_n 1, 1) := by decide +kernel
theorem dL_law_186 : decode cL_law 186 = .ok (.invokestatic 196, 3) := by decide +kernel
theorem dL_law_189 : decode cL_law 189 = .ok (.ifCond .eq 38, 3) := by decide +kernel
theorem dL_law_192 : decode cL_law 192 = .ok (.aload_n 1, 1) := by decide +kernel
theorem dL_law_193 : decode cL_law 193 = .ok (.iconst 0, 1) := by decide +kernel
theorem dL_law_194 : decode cL_law 194 = .ok (.invokevirtual 139, 3) := by decide +kernel
theorem dL_law_197 : decode cL_law 197 = .ok (.aload_n 1, 1) := by decide +kernel
theorem dL_law_198 : decode cL_law 198 = .ok (.iconst 1, 1) := by decide +kernel
theorem dL_law_199 : decode cL_law 199 = .ok (.invokevirtual 139, 3) := by decide +kernel
theorem dL_law_202 : decode cL_law 202 = .ok (.aload_n 1, 1) := by decide +kernel
theorem dL_law_203 : decode cL_law 203 = .ok (.iconst 2, 1) := by decide +kernel
theorem dL_law_204 : decode cL_law 204 = .ok (.invokevirtual 139, 3) := by decide +kernel
theorem dL_law_207 : decode cL_law 207 = .ok (.ladd, 1) := by decide +kernel
theorem dL_law_208 : decode cL_law 208 = .ok (.lcmp, 1) := by decide +kernel
theorem dL_law_209 : decode cL_law 209 = .ok (.ifCond .ne 18, 3) := by decide +kernel
theorem dL_law_212 : decode cL_law 212 = .ok (.aload_n 1, 1) := by decide +kernel
theorem dL_law_213 : decode cL_law 213 = .ok (.iconst 0, 1) := by decide +kernel
theorem dL_law_214 : decode cL_law 214 = .ok (.invokevirtual 139, 3) := by decide +kernel
theorem dL_law_217 : decode cL_law 217 = .ok (.lload 5, 2) := by decide +kernel
theorem dL_law_219 : decode cL_law 219 = .ok (.lcmp, 1) := by decide +kernel
theorem dL_law_220 : decode cL_law 220 = .ok (.ifCond .ne 7, 3) := by decide +kernel
theorem dL_law_223 : decode cL_law 223 = .ok (.iconst 1, 1) := by decide +kernel
theorem dL_law_224 : decode cL_law 224 = .ok (.goto 4, 3) := by decide +kernel
theorem dL_law_227 : decode cL_law 227 = .ok (.iconst 0, 1) := by decide +kernel
theorem dL_law_228 : decode cL_law 228 = .ok (.istore_n 3, 1) := by decide +kernel
theorem dL_law_229 : decode cL_law 229 = .ok (.iload_n 3, 1) := by decide +kernel
theorem dL_law_230 : decode cL_law 230 = .ok (.ifCond .eq 40, 3) := by decide +kernel
theorem dL_law_233 : decode cL_law 233 = .ok (.iload 12, 2) := by decide +kernel
theorem dL_law_235 : decode cL_law 235 = .ok (.ifCond .eq 35, 3) := by decide +kernel
theorem dL_law_238 : decode cL_law 238 = .ok (.aload_n 2, 1) := by decide +kernel
theorem dL_law_239 : decode cL_law 239 = .ok (.invokestatic 39, 3) := by decide +kernel
theorem dL_law_242 : decode cL_law 242 = .ok (.iconst 4, 1) := by decide +kernel
theorem dL_law_243 : decode cL_law 243 = .ok (.irem, 1) := by decide +kernel
theorem dL_law_244 : decode cL_law 244 = .ok (.ifCond .ne 26, 3) := by decide +kernel
theorem dL_law_247 : decode cL_law 247 = .ok (.aload_n 1, 1) := by decide +kernel
theorem dL_law_248 : decode cL_law 248 = .ok (.invokestatic 199, 3) := by decide +kernel
theorem dL_law_251 : decode cL_law 251 = .ok (.ifCond .lt 17, 3) := by decide +kernel
theorem dL_law_254 : decode cL_law 254 = .ok (.aload_n 1, 1) := by decide +kernel
theorem dL_law_255 : decode cL_law 255 = .ok (.invokestatic 181, 3) := by decide +kernel
theorem dL_law_258 : decode cL_law 258 = .ok (.lload 10, 2) := by decide +kernel
theorem dL_law_260 : decode cL_law 260 = .ok (.lcmp, 1) := by decide +kernel
theorem dL_law_261 : decode cL_law 261 = .ok (.ifCond .ne 7, 3) := by decide +kernel
theorem dL_law_264 : decode cL_law 264 = .ok (.iconst 1, 1) := by decide +kernel
theorem dL_law_265 : decode cL_law 265 = .ok (.goto 4, 3) := by decide +kernel
theorem dL_law_268 : decode cL_law 268 = .ok (.iconst 0, 1) := by decide +kernel
theorem dL_law_269 : decode cL_law 269 = .ok (.istore_n 3, 1) := by decide +kernel
theorem dL_law_270 : decode cL_law 270 = .ok (.iinc 9 1, 3) := by decide +kernel
theorem dL_law_273 : decode cL_law 273 = .ok (.goto (-150), 3) := by decide +kernel
theorem dL_law_276 : decode cL_law 276 = .ok (.aload_n 1, 1) := by decide +kernel
theorem dL_law_277 : decode cL_law 277 = .ok (.iconst 1, 1) := by decide +kernel
theorem dL_law_278 : decode cL_law 278 = .ok (.invokevirtual 136, 3) := by decide +kernel
theorem dL_law_281 : decode cL_law 281 = .ok (.istore 9, 2) := by decide +kernel
theorem dL_law_283 : decode cL_law 283 = .ok (.aload_n 1, 1) := by decide +kernel
theorem dL_law_284 : decode cL_law 284 = .ok (.iconst 3, 1) := by decide +kernel
theorem dL_law_285 : decode cL_law 285 = .ok (.invokevirtual 136, 3) := by decide +kernel
theorem dL_law_288 : decode cL_law 288 = .ok (.istore 10, 2) := by decide +kernel
theorem dL_law_290 : decode cL_law 290 = .ok (.aload_n 1, 1) := by decide +kernel
theorem dL_law_291 : decode cL_law 291 = .ok (.iconst 2, 1) := by decide +kernel
theorem dL_law_292 : decode cL_law 292 = .ok (.invokevirtual 136, 3) := by decide +kernel
theorem dL_law_295 : decode cL_law 295 = .ok (.istore 11, 2) := by decide +kernel
theorem dL_law_297 : decode cL_law 297 = .ok (.aload_n 1, 1) := by decide +kernel
theorem dL_law_298 : decode cL_law 298 = .ok (.iconst 4, 1) := by decide +kernel
theorem dL_law_299 : decode cL_law 299 = .ok (.invokevirtual 136, 3) := by decide +kernel
theorem dL_law_302 : decode cL_law 302 = .ok (.istore 12, 2) := by decide +kernel
theorem dL_law_304 : decode cL_law 304 = .ok (.aload_n 1, 1) := by decide +kernel
theorem dL_law_305 : decode cL_law 305 = .ok (.iconst 3, 1) := by decide +kernel
theorem dL_law_306 : decode cL_law 306 = .ok (.invokevirtual 139, 3) := by decide +kernel
theorem dL_law_309 : decode cL_law 309 = .ok (.lstore 13, 2) := by decide +kernel
theorem dL_law_311 : decode cL_law 311 = .ok (.aload_n 1, 1) := by decide +kernel
theorem dL_law_312 : decode cL_law 312 = .ok (.iconst 5, 1) := by decide +kernel
theorem dL_law_313 : decode cL_law 313 = .ok (.invokevirtual 139, 3) := by decide +kernel
theorem dL_law_316 : decode cL_law 316 = .ok (.lstore 15, 2) := by decide +kernel
theorem dL_law_318 : decode cL_law 318 = .ok (.aload_n 1, 1) := by decide +kernel
theorem dL_law_319 : decode cL_law 319 = .ok (.bipush 7, 2) := by decide +kernel
theorem dL_law_321 : decode cL_law 321 = .ok (.invokevirtual 131, 3) := by decide +kernel
theorem dL_law_324 : decode cL_law 324 = .ok (.i2l, 1) := by decide +kernel
theorem dL_law_325 : decode cL_law 325 = .ok (.lstore 17, 2) := by decide +kernel
theorem dL_law_327 : decode cL_law 327 = .ok (.aload_n 1, 1) := by decide +kernel
theorem dL_law_328 : decode cL_law 328 = .ok (.iconst 3, 1) := by decide +kernel
theorem dL_law_329 : decode cL_law 329 = .ok (.invokevirtual 131, 3) := by decide +kernel
theorem dL_law_332 : decode cL_law 332 = .ok (.ifCond .ne 7, 3) := by decide +kernel
theorem dL_law_335 : decode cL_law 335 = .ok (.iconst (-1), 1) := by decide +kernel
theorem dL_law_336 : decode cL_law 336 = .ok (.goto 14, 3) := by decide +kernel
theorem dL_law_339 : decode cL_law 339 = .ok (.aload_n 1, 1) := by decide +kernel
theorem dL_law_340 : decode cL_law 340 = .ok (.aload_n 1, 1) := by decide +kernel
theorem dL_law_341 : decode cL_law 341 = .ok (.iconst 3, 1) := by decide +kernel
theorem dL_law_342 : decode cL_law 342 = .ok (.invokevirtual 131, 3) := by decide +kernel
theorem dL_law_345 : decode cL_law 345 = .ok (.iconst 1, 1) := by decide +kernel
theorem dL_law_346 : decode cL_law 346 = .ok (.isub, 1) := by decide +kernel
theorem dL_law_347 : decode cL_law 347 = .ok (.invokevirtual 168, 3) := by decide +kernel
theorem dL_law_350 : decode cL_law 350 = .ok (.istore 19, 2) := by decide +kernel
theorem dL_law_352 : decode cL_law 352 = .ok (.iload_n 3, 1) := by decide +kernel
theorem dL_law_353 : decode cL_law 353 = .ok (.ifCond .eq 151, 3) := by decide +kernel
theorem dL_law_356 : decode cL_law 356 = .ok (.aload_n 1, 1) := by decide +kernel
theorem dL_law_357 : decode cL_law 357 = .ok (.invokestatic 196, 3) := by decide +kernel
theorem dL_law_360 : decode cL_law 360 = .ok (.ifCond .eq 144, 3) := by decide +kernel
theorem dL_law_363 : decode cL_law 363 = .ok (.aload_n 1, 1) := by decide +kernel
theorem dL_law_364 : decode cL_law 364 = .ok (.invokevirtual 203, 3) := by decide +kernel
theorem dL_law_367 : decode cL_law 367 = .ok (.iload 9, 2) := by decide +kernel
theorem dL_law_369 : decode cL_law 369 = .ok (.if_icmp .ne 135, 3) := by decide +kernel
theorem dL_law_372 : decode cL_law 372 = .ok (.aload_n 1, 1) := by decide +kernel
theorem dL_law_373 : decode cL_law 373 = .ok (.iconst 0, 1) := by decide +kernel
theorem dL_law_374 : decode cL_law 374 = .ok (.invokevirtual 131, 3) := by decide +kernel
theorem dL_law_377 : decode cL_law 377 = .ok (.iconst 3, 1) := by decide +kernel
theorem dL_law_378 : decode cL_law 378 = .ok (.if_icmp .ne 126, 3) := by decide +kernel
theorem dL_law_381 : decode cL_law 381 = .ok (.aload_n 1, 1) := by decide +kernel
theorem dL_law_382 : decode cL_law 382 = .ok (.iconst 0, 1) := by decide +kernel
theorem dL_law_383 : decode cL_law 383 = .ok (.invokevirtual 139, 3) := by decide +kernel
theorem dL_law_386 : decode cL_law 386 = .ok (.lload 5, 2) := by decide +kernel
theorem dL_law_388 : decode cL_law 388 = .ok (.lload 17, 2) := by decide +kernel
theorem dL_law_390 : decode cL_law 390 = .ok (.ladd, 1) := by decide +kernel
theorem dL_law_391 : decode cL_law 391 = .ok (.lcmp, 1) := by decide +kernel
theorem dL_law_392 : decode cL_law 392 = .ok (.ifCond .ne 112, 3) := by decide +kernel
theorem dL_law_395 : decode cL_law 395 = .ok (.aload_n 1, 1) := by decide +kernel
theorem dL_law_396 : decode cL_law 396 = .ok (.iconst 3, 1) := by decide +kernel
theorem dL_law_397 : decode cL_law 397 = .ok (.invokevirtual 139, 3) := by decide +kernel
theorem dL_law_400 : decode cL_law 400 = .ok (.lload 13, 2) := by decide +kernel
theorem dL_law_402 : decode cL_law 402 = .ok (.iload 12, 2) := by decide +kernel
theorem dL_law_404 : decode cL_law 404 = .ok (.i2l, 1) := by decide +kernel
theorem dL_law_405 : decode cL_law 405 = .ok (.ladd, 1) := by decide +kernel
theorem dL_law_406 : decode cL_law 406 = .ok (.lcmp, 1) := by decide +kernel
theorem dL_law_407 : decode cL_law 407 = .ok (.ifCond .ne 97, 3) := by decide +kernel
theorem dL_law_410 : decode cL_law 410 = .ok (.aload_n 1, 1) := by decide +kernel
theorem dL_law_411 : decode cL_law 411 = .ok (.iconst 5, 1) := by decide +kernel
theorem dL_law_412 : decode cL_law 412 = .ok (.invokevirtual 139, 3) := by decide +kernel
theorem dL_law_415 : decode cL_law 415 = .ok (.lload 15, 2) := by decide +kernel
theorem dL_law_417 : decode cL_law 417 = .ok (.lconst 1, 1) := by decide +kernel
theorem dL_law_418 : decode cL_law 418 = .ok (.ladd, 1) := by decide +kernel
theorem dL_law_419 : decode cL_law 419 = .ok (.lcmp, 1) := by decide +kernel
theorem dL_law_420 : decode cL_law 420 = .ok (.ifCond .ne 84, 3) := by decide +kernel
theorem dL_law_423 : decode cL_law 423 = .ok (.aload_n 1, 1) := by decide +kernel
theorem dL_law_424 : decode cL_law 424 = .ok (.iconst 3, 1) := by decide +kernel
theorem dL_law_425 : decode cL_law 425 = .ok (.invokevirtual 136, 3) := by decide +kernel
theorem dL_law_428 : decode cL_law 428 = .ok (.iload 10, 2) := by decide +kernel
theorem dL_law_430 : decode cL_law 430 = .ok (.if_icmp .ne 74, 3) := by decide +kernel
theorem dL_law_433 : decode cL_law 433 = .ok (.aload_n 1, 1) := by decide +kernel
theorem dL_law_434 : decode cL_law 434 = .ok (.iconst 2, 1) := by decide +kernel
theorem dL_law_435 : decode cL_law 435 = .ok (.invokevirtual 136, 3) := by decide +kernel
theorem dL_law_438 : decode cL_law 438 = .ok (.iload 11, 2) := by decide +kernel
theorem dL_law_440 : decode cL_law 440 = .ok (.if_icmp .ne 64, 3) := by decide +kernel
theorem dL_law_443 : decode cL_law 443 = .ok (.aload_n 1, 1) := by decide +kernel
theorem dL_law_444 : decode cL_law 444 = .ok (.invokestatic 196, 3) := by decide +kernel
theorem dL_law_447 : decode cL_law 447 = .ok (.ifCond .eq 57, 3) := by decide +kernel
theorem dL_law_450 : decode cL_law 450 = .ok (.aload_n 1, 1) := by decide +kernel
theorem dL_law_451 : decode cL_law 451 = .ok (.iconst 3, 1) := by decide +kernel
theorem dL_law_452 : decode cL_law 452 = .ok (.invokevirtual 131, 3) := by decide +kernel
theorem dL_law_455 : decode cL_law 455 = .ok (.ifCond .eq 20, 3) := by decide +kernel
theorem dL_law_458 : decode cL_law 458 = .ok (.aload_n 1, 1) := by decide +kernel
theorem dL_law_459 : decode cL_law 459 = .ok (.aload_n 1, 1) := by decide +kernel
theorem dL_law_460 : decode cL_law 460 = .ok (.iconst 3, 1) := by decide +kernel
theorem dL_law_461 : decode cL_law 461 = .ok (.invokevirtual 131, 3) := by decide +kernel
theorem dL_law_464 : decode cL_law 464 = .ok (.iconst 1, 1) := by decide +kernel
theorem dL_law_465 : decode cL_law 465 = .ok (.isub, 1) := by decide +kernel
theorem dL_law_466 : decode cL_law 466 = .ok (.iconst 3, 1) := by decide +kernel
theorem dL_law_467 : decode cL_law 467 = .ok (.invokevirtual 149, 3) := by decide +kernel
theorem dL_law_470 : decode cL_law 470 = .ok (.iload 19, 2) := by decide +kernel
theorem dL_law_472 : decode cL_law 472 = .ok (.if_icmp .ne 32, 3) := by decide +kernel
theorem dL_law_475 : decode cL_law 475 = .ok (.lload 17, 2) := by decide +kernel
theorem dL_law_477 : decode cL_law 477 = .ok (.iload 9, 2) := by decide +kernel
theorem dL_law_479 : decode cL_law 479 = .ok (.iload 10, 2) := by decide +kernel
theorem dL_law_481 : decode cL_law 481 = .ok (.iadd, 1) := by decide +kernel
theorem dL_law_482 : decode cL_law 482 = .ok (.i2l, 1) := by decide +kernel
theorem dL_law_483 : decode cL_law 483 = .ok (.lcmp, 1) := by decide +kernel
theorem dL_law_484 : decode cL_law 484 = .ok (.ifCond .ne 20, 3) := by decide +kernel
theorem dL_law_487 : decode cL_law 487 = .ok (.aload_n 1, 1) := by decide +kernel
theorem dL_law_488 : decode cL_law 488 = .ok (.bipush 7, 2) := by decide +kernel
theorem dL_law_490 : decode cL_law 490 = .ok (.invokevirtual 131, 3) := by decide +kernel
theorem dL_law_493 : decode cL_law 493 = .ok (.i2l, 1) := by decide +kernel
theorem dL_law_494 : decode cL_law 494 = .ok (.lload 17, 2) := by decide +kernel
theorem dL_law_496 : decode cL_law 496 = .ok (.lcmp, 1) := by decide +kernel
theorem dL_law_497 : decode cL_law 497 = .ok (.ifCond .ne 7, 3) := by decide +kernel
theorem dL_law_500 : decode cL_law 500 = .ok (.iconst 1, 1) := by decide +kernel
theorem dL_law_501 : decode cL_law 501 = .ok (.goto 4, 3) := by decide +kernel
theorem dL_law_504 : decode cL_law 504 = .ok (.iconst 0, 1) := by decide +kernel
theorem dL_law_505 : decode cL_law 505 = .ok (.istore_n 3, 1) := by decide +kernel
theorem dL_law_506 : decode cL_law 506 = .ok (.iload_n 3, 1) := by decide +kernel
theorem dL_law_507 : decode cL_law 507 = .ok (.ifCond .eq 72, 3) := by decide +kernel
theorem dL_law_510 : decode cL_law 510 = .ok (.aload_n 2, 1) := by decide +kernel
theorem dL_law_511 : decode cL_law 511 = .ok (.invokestatic 39, 3) := by decide +kernel
theorem dL_law_514 : decode cL_law 514 = .ok (.iconst 2, 1) := by decide +kernel
theorem dL_law_515 : decode cL_law 515 = .ok (.irem, 1) := by decide +kernel
theorem dL_law_516 : decode cL_law 516 = .ok (.ifCond .ne 63, 3) := by decide +kernel
theorem dL_law_519 : decode cL_law 519 = .ok (.aload_n 1, 1) := by decide +kernel
theorem dL_law_520 : decode cL_law 520 = .ok (.invokestatic 199, 3) := by decide +kernel
theorem dL_law_523 : decode cL_law 523 = .ok (.ifCond .lt 54, 3) := by decide +kernel
theorem dL_law_526 : decode cL_law 526 = .ok (.aload_n 1, 1) := by decide +kernel
theorem dL_law_527 : decode cL_law 527 = .ok (.iconst 0, 1) := by decide +kernel
theorem dL_law_528 : decode cL_law 528 = .ok (.invokevirtual 139, 3) := by decide +kernel
theorem dL_law_531 : decode cL_law 531 = .ok (.lload 5, 2) := by decide +kernel
theorem dL_law_533 : decode cL_law 533 = .ok (.lcmp, 1) := by decide +kernel
theorem dL_law_534 : decode cL_law 534 = .ok (.ifCond .ne 43, 3) := by decide +kernel
theorem dL_law_537 : decode cL_law 537 = .ok (.aload_n 1, 1) := by decide +kernel
theorem dL_law_538 : decode cL_law 538 = .ok (.iconst 0, 1) := by decide +kernel
theorem dL_law_539 : decode cL_law 539 = .ok (.invokevirtual 131, 3) := by decide +kernel
theorem dL_law_542 : decode cL_law 542 = .ok (.iconst 3, 1) := by decide +kernel
theorem dL_law_543 : decode cL_law 543 = .ok (.if_icmp .ge 34, 3) := by decide +kernel
theorem dL_law_546 : decode cL_law 546 = .ok (.aload_n 1, 1) := by decide +kernel
theorem dL_law_547 : decode cL_law 547 = .ok (.iconst 0, 1) := by decide +kernel
theorem dL_law_548 : decode cL_law 548 = .ok (.invokevirtual 206, 3) := by decide +kernel
theorem dL_law_551 : decode cL_law 551 = .ok (.ifCond .le 26, 3) := by decide +kernel
theorem dL_law_554 : decode cL_law 554 = .ok (.aload_n 1, 1) := by decide +kernel
theorem dL_law_555 : decode cL_law 555 = .ok (.invokestatic 181, 3) := by decide +kernel
theorem dL_law_558 : decode cL_law 558 = .ok (.lload 7, 2) := by decide +kernel
theorem dL_law_560 : decode cL_law 560 = .ok (.lcmp, 1) := by decide +kernel
theorem dL_law_561 : decode cL_law 561 = .ok (.ifCond .ne 16, 3) := by decide +kernel
theorem dL_law_564 : decode cL_law 564 = .ok (.aload_n 1, 1) := by decide +kernel
theorem dL_law_565 : decode cL_law 565 = .ok (.invokestatic 199, 3) := by decide +kernel
theorem dL_law_568 : decode cL_law 568 = .ok (.bipush (-2), 2) := by decide +kernel
theorem dL_law_570 : decode cL_law 570 = .ok (.if_icmp .ne 7, 3) := by decide +kernel
theorem dL_law_573 : decode cL_law 573 = .ok (.iconst 1, 1) := by decide +kernel
theorem dL_law_574 : decode cL_law 574 = .ok (.goto 4, 3) := by decide +kernel
theorem dL_law_577 : decode cL_law 577 = .ok (.iconst 0, 1) := by decide +kernel
theorem dL_law_578 : decode cL_law 578 = .ok (.istore_n 3, 1) := by decide +kernel
theorem dL_law_579 : decode cL_law 579 = .ok (.iinc 4 1, 3) := by decide +kernel
theorem dL_law_582 : decode cL_law 582 = .ok (.goto (-548), 3) := by decide +kernel
theorem dL_law_585 : decode cL_law 585 = .ok (.iload_n 3, 1) := by decide +kernel
theorem dL_law_586 : decode cL_law 586 = .ok (.ireturn, 1) := by decide +kernel
theorem dL_act_0 : decode cL_act 0 = .ok (.aload_n 1, 1) := by decide +kernel
theorem dL_act_1 : decode cL_act 1 = .ok (.invokestatic 39, 3) := by decide +kernel
theorem dL_act_4 : decode cL_act 4 = .ok (.aload_n 0, 1) := by decide +kernel
theorem dL_act_5 : decode cL_act 5 = .ok (.iconst 2, 1) := by decide +kernel
theorem dL_act_6 : decode cL_act 6 = .ok (.invokevirtual 131, 3) := by decide +kernel
theorem dL_act_9 : decode cL_act 9 = .ok (.irem, 1) := by decide +kernel
theorem dL_act_10 : decode cL_act 10 = .ok (.istore_n 2, 1) := by decide +kernel
theorem dL_act_11 : decode cL_act 11 = .ok (.aload_n 0, 1) := by decide +kernel
theorem dL_act_12 : decode cL_act 12 = .ok (.iconst 3, 1) := by decide +kernel
theorem dL_act_13 : decode cL_act 13 = .ok (.invokevirtual 131, 3) := by decide +kernel
theorem dL_act_16 : decode cL_act 16 = .ok (.istore_n 3, 1) := by decide +kernel
theorem dL_act_17 : decode cL_act 17 = .ok (.aload_n 1, 1) := by decide +kernel
theorem dL_act_18 : decode cL_act 18 = .ok (.invokestatic 39, 3) := by decide +kernel
theorem dL_act_21 : decode cL_act 21 = .ok (.bipush 9, 2) := by decide +kernel
theorem dL_act_23 : decode cL_act 23 = .ok (.irem, 1) := by decide +kernel
theorem dL_act_24 : decode cL_act 24 = .ok (.tableswitch 267 0 7 #[48, 103, 132, 158, 188, 201, 223, 245], 48) := by decide +kernel
theorem dL_act_72 : decode cL_act 72 = .ok (.aload_n 0, 1) := by decide +kernel
theorem dL_act_73 : decode cL_act 73 = .ok (.aload_n 1, 1) := by decide +kernel
theorem dL_act_74 : decode cL_act 74 = .ok (.invokestatic 39, 3) := by decide +kernel
theorem dL_act_77 : decode cL_act 77 = .ok (.iconst 2, 1) := by decide +kernel
theorem dL_act_78 : decode cL_act 78 = .ok (.irem, 1) := by decide +kernel
theorem dL_act_79 : decode cL_act 79 = .ok (.aload_n 1, 1) := by decide +kernel
theorem dL_act_80 : decode cL_act 80 = .ok (.invokestatic 39, 3) := by decide +kernel
theorem dL_act_83 : decode cL_act 83 = .ok (.iconst 3, 1) := by decide +kernel
theorem dL_act_84 : decode cL_act 84 = .ok (.irem, 1) := by decide +kernel
theorem dL_act_85 : decode cL_act 85 = .ok (.ifCond .ne 15, 3) := by decide +kernel
theorem dL_act_88 : decode cL_act 88 = .ok (.iconst 1, 1) := by decide +kernel
theorem dL_act_89 : decode cL_act 89 = .ok (.aload_n 1, 1) := by decide +kernel
theorem dL_act_90 : decode cL_act 90 = .ok (.invokestatic 39, 3) := by decide +kernel
theorem dL_act_93 : decode cL_act 93 = .ok (.bipush 7, 2) := by decide +kernel
theorem dL_act_95 : decode cL_act 95 = .ok (.irem, 1) := by decide +kernel
theorem dL_act_96 : decode cL_act 96 = .ok (.iadd, 1) := by decide +kernel
theorem dL_act_97 : decode cL_act 97 = .ok (.goto 4, 3) := by decide +kernel
theorem dL_act_100 : decode cL_act 100 = .ok (.iconst 0, 1) := by decide +kernel
theorem dL_act_101 : decode cL_act 101 = .ok (.aload_n 1, 1) := by decide +kernel
theorem dL_act_102 : decode cL_act 102 = .ok (.invokestatic 39, 3) := by decide +kernel
theorem dL_act_105 : decode cL_act 105 = .ok (.iconst 2, 1) := by decide +kernel
theorem dL_act_106 : decode cL_act 106 = .ok (.irem, 1) := by decide +kernel
theorem dL_act_107 : decode cL_act 107 = .ok (.ifCond .ne 7, 3) := by decide +kernel
theorem dL_act_110 : decode cL_act 110 = .ok (.iconst (-1), 1) := by decide +kernel
theorem dL_act_111 : decode cL_act 111 = .ok (.goto 4, 3) := by decide +kernel
theorem dL_act_114 : decode cL_act 114 = .ok (.iload_n 2, 1) := by decide +kernel
theorem dL_act_115 : decode cL_act 115 = .ok (.invokestatic 209, 3) := by decide +kernel
theorem dL_act_118 : decode cL_act 118 = .ok (.ifCond .lt 7, 3) := by decide +kernel
theorem dL_act_121 : decode cL_act 121 = .ok (.iconst 1, 1) := by decide +kernel
theorem dL_act_122 : decode cL_act 122 = .ok (.goto 4, 3) := by decide +kernel
theorem dL_act_125 : decode cL_act 125 = .ok (.iconst 0, 1) := by decide +kernel
theorem dL_act_126 : decode cL_act 126 = .ok (.ireturn, 1) := by decide +kernel
theorem dL_act_127 : decode cL_act 127 = .ok (.iload_n 3, 1) := by decide +kernel
theorem dL_act_128 : decode cL_act 128 = .ok (.ifCond .le 26, 3) := by decide +kernel
theorem dL_act_131 : decode cL_act 131 = .ok (.aload_n 0, 1) := by decide +kernel
theorem dL_act_132 : decode cL_act 132 = .ok (.aload_n 1, 1) := by decide +kernel
theorem dL_act_133 : decode cL_act 133 = .ok (.invokestatic 39, 3) := by decide +kernel
theorem dL_act_136 : decode cL_act 136 = .ok (.iload_n 3, 1) := by decide +kernel
theorem dL_act_137 : decode cL_act 137 = .ok (.irem, 1) := by decide +kernel
theorem dL_act_138 : decode cL_act 138 = .ok (.aload_n 1, 1) := by decide +kernel
theorem dL_act_139 : decode cL_act 139 = .ok (.invokestatic 39, 3) := by decide +kernel
theorem dL_act_142 : decode cL_act 142 = .ok (.iconst 2, 1) := by decide +kernel
theorem dL_act_143 : decode cL_act 143 = .ok (.irem, 1) := by decide +kernel
theorem dL_act_144 : decode cL_act 144 = .ok (.invokestatic 213, 3) := by decide +kernel
theorem dL_act_147 : decode cL_act 147 = .ok (.ifCond .lt 7, 3) := by decide +kernel
theorem dL_act_150 : decode cL_act 150 = .ok (.iconst 1, 1) := by decide +kernel
theorem dL_act_151 : decode cL_act 151 = .ok (.goto 4, 3) := by decide +kernel
theorem dL_act_154 : decode cL_act 154 = .ok (.iconst 0, 1) := by decide +kernel
theorem dL_act_155 : decode cL_act 155 = .ok (.ireturn, 1) := by decide +kernel
theorem dL_act_156 : decode cL_act 156 = .ok (.iload_n 3, 1) := by decide +kernel
theorem dL_act_157 : decode cL_act 157 = .ok (.ifCond .le 23, 3) := by decide +kernel
theorem dL_act_160 : decode cL_act 160 = .ok (.aload_n 0, 1) := by decide +kernel
theorem dL_act_161 : decode cL_act 161 = .ok (.aload_n 1, 1) := by decide +kernel
theorem dL_act_162 : decode cL_act 162 = .ok (.invokestatic 39, 3) := by decide +kernel
theorem dL_act_165 : decode cL_act 165 = .ok (.iload_n 3, 1) := by decide +kernel
theorem dL_act_166 : decode cL_act 166 = .ok (.irem, 1) := by decide +kernel
theorem dL_act_167 : decode cL_act 167 = .ok (.invokevirtual 217, 3) := by decide +kernel
theorem dL_act_170 : decode cL_act 170 = .ok (.iload_n 3, 1) := by decide +kernel
theorem dL_act_171 : decode cL_act 171 = .ok (.iconst 1, 1) := by decide +kernel
theorem dL_act_172 : decode cL_act 172 = .ok (.isub, 1) := by decide +kernel
theorem dL_act_173 : decode cL_act 173 = .ok (.if_icmp .ne 7, 3) := by decide +kernel
theorem dL_act_176 : decode cL_act 176 = .ok (.iconst 1, 1) := by decide +kernel
theorem dL_act_177 : decode cL_act 177 = .ok (.goto 4, 3) := by decide +kernel
theorem dL_act_180 : decode cL_act 180 = .ok (.iconst 0, 1) := by decide +kernel
theorem dL_act_181 : decode cL_act 181 = .ok (.ireturn, 1) := by decide +kernel
theorem dL_act_182 : decode cL_act 182 = .ok (.iload_n 3, 1) := by decide +kernel
theorem dL_act_183 : decode cL_act 183 = .ok (.ifCond .le 27, 3) := by decide +kernel
theorem dL_act_186 : decode cL_act 186 = .ok (.aload_n 0, 1) := by decide +kernel
theorem dL_act_187 : decode cL_act 187 = .ok (.aload_n 1, 1) := by decide +kernel
theorem dL_act_188 : decode cL_act 188 = .ok (.invokestatic 39, 3) := by decide +kernel
theorem dL_act_191 : decode cL_act 191 = .ok (.iload_n 3, 1) := by decide +kernel
theorem dL_act_192 : decode cL_act 192 = .ok (.irem, 1) := by decide +kernel
theorem dL_act_193 : decode cL_act 193 = .ok (.aload_n 1, 1) := by decide +kernel
theorem dL_act_194 : decode cL_act 194 = .ok (.invokestatic 39, 3) := by decide +kernel
theorem dL_act_197 : decode cL_act 197 = .ok (.bipush 8, 2) := by decide +kernel
theorem dL_act_199 : decode cL_act 199 = .ok (.irem, 1) := by decide +kernel
theorem dL_act_200 : decode cL_act 200 = .ok (.invokevirtual 220, 3) := by decide +kernel
theorem dL_act_203 : decode cL_act 203 = .ok (.ifCond .lt 7, 3) := by decide +kernel
theorem dL_act_206 : decode cL_act 206 = .ok (.iconst 1, 1) := by decide +kernel
theorem dL_act_207 : decode cL_act 207 = .ok (.goto 4, 3) := by decide +kernel
theorem dL_act_210 : decode cL_act 210 = .ok (.iconst 0, 1) := by decide +kernel
theorem dL_act_211 : decode cL_act 211 = .ok (.ireturn, 1) := by decide +kernel
theorem dL_act_212 : decode cL_act 212 = .ok (.aload_n 0, 1) := by decide +kernel
theorem dL_act_213 : decode cL_act 213 = .ok (.invokestatic 223, 3) := by decide +kernel
theorem dL_act_216 : decode cL_act 216 = .ok (.ifCond .lt 7, 3) := by decide +kernel
theorem dL_act_219 : decode cL_act 219 = .ok (.iconst 1, 1) := by decide +kernel
theorem dL_act_220 : decode cL_act 220 = .ok (.goto 4, 3) := by decide +kernel
theorem dL_act_223 : decode cL_act 223 = .ok (.iconst 0, 1) := by decide +kernel
theorem dL_act_224 : decode cL_act 224 = .ok (.ireturn, 1) := by decide +kernel
theorem dL_act_225 : decode cL_act 225 = .ok (.aload_n 0, 1) := by decide +kernel
theorem dL_act_226 : decode cL_act 226 = .ok (.iload_n 2, 1) := by decide +kernel
theorem dL_act_227 : decode cL_act 227 = .ok (.iconst 1, 1) := by decide +kernel
theorem dL_act_228 : decode cL_act 228 = .ok (.aload_n 1, 1) := by decide +kernel
theorem dL_act_229 : decode cL_act 229 = .ok (.invokestatic 39, 3) := by decide +kernel
theorem dL_act_232 : decode cL_act 232 = .ok (.iconst 4, 1) := by decide +kernel
theorem dL_act_233 : decode cL_act 233 = .ok (.irem, 1) := by decide +kernel
theorem dL_act_234 : decode cL_act 234 = .ok (.iadd, 1) := by decide +kernel
theorem dL_act_235 : decode cL_act 235 = .ok (.invokestatic 226, 3) := by decide +kernel
theorem dL_act_238 : decode cL_act 238 = .ok (.ifCond .lt 7, 3) := by decide +kernel
theorem dL_act_241 : decode cL_act 241 = .ok (.iconst 1, 1) := by decide +kernel
theorem dL_act_242 : decode cL_act 242 = .ok (.goto 4, 3) := by decide +kernel
theorem dL_act_245 : decode cL_act 245 = .ok (.iconst 0, 1) := by decide +kernel
theorem dL_act_246 : decode cL_act 246 = .ok (.ireturn, 1) := by decide +kernel
theorem dL_act_247 : decode cL_act 247 = .ok (.aload_n 0, 1) := by decide +kernel
theorem dL_act_248 : decode cL_act 248 = .ok (.iload_n 2, 1) := by decide +kernel
theorem dL_act_249 : decode cL_act 249 = .ok (.iconst 1, 1) := by decide +kernel
theorem dL_act_250 : decode cL_act 250 = .ok (.aload_n 1, 1) := by decide +kernel
theorem dL_act_251 : decode cL_act 251 = .ok (.invokestatic 39, 3) := by decide +kernel
theorem dL_act_254 : decode cL_act 254 = .ok (.iconst 3, 1) := by decide +kernel
theorem dL_act_255 : decode cL_act 255 = .ok (.irem, 1) := by decide +kernel
theorem dL_act_256 : decode cL_act 256 = .ok (.iadd, 1) := by decide +kernel
theorem dL_act_257 : decode cL_act 257 = .ok (.invokestatic 229, 3) := by decide +kernel
theorem dL_act_260 : decode cL_act 260 = .ok (.ifCond .lt 7, 3) := by decide +kernel
theorem dL_act_263 : decode cL_act 263 = .ok (.iconst 1, 1) := by decide +kernel
theorem dL_act_264 : decode cL_act 264 = .ok (.goto 4, 3) := by decide +kernel
theorem dL_act_267 : decode cL_act 267 = .ok (.iconst 0, 1) := by decide +kernel
theorem dL_act_268 : decode cL_act 268 = .ok (.ireturn, 1) := by decide +kernel
theorem dL_act_269 : decode cL_act 269 = .ok (.aload_n 0, 1) := by decide +kernel
theorem dL_act_270 : decode cL_act 270 = .ok (.iload_n 2, 1) := by decide +kernel
theorem dL_act_271 : decode cL_act 271 = .ok (.iconst 1, 1) := by decide +kernel
theorem dL_act_272 : decode cL_act 272 = .ok (.aload_n 1, 1) := by decide +kernel
theorem dL_act_273 : decode cL_act 273 = .ok (.invokestatic 39, 3) := by decide +kernel
theorem dL_act_276 : decode cL_act 276 = .ok (.iconst 4, 1) := by decide +kernel
theorem dL_act_277 : decode cL_act 277 = .ok (.irem, 1) := by decide +kernel
theorem dL_act_278 : decode cL_act 278 = .ok (.iadd, 1) := by decide +kernel
theorem dL_act_279 : decode cL_act 279 = .ok (.invokestatic 232, 3) := by decide +kernel
theorem dL_act_282 : decode cL_act 282 = .ok (.ifCond .lt 7, 3) := by decide +kernel
theorem dL_act_285 : decode cL_act 285 = .ok (.iconst 1, 1) := by decide +kernel
theorem dL_act_286 : decode cL_act 286 = .ok (.goto 4, 3) := by decide +kernel
theorem dL_act_289 : decode cL_act 289 = .ok (.iconst 0, 1) := by decide +kernel
theorem dL_act_290 : decode cL_act 290 = .ok (.ireturn, 1) := by decide +kernel
theorem dL_act_291 : decode cL_act 291 = .ok (.aload_n 0, 1) := by decide +kernel
theorem dL_act_292 : decode cL_act 292 = .ok (.iconst 1, 1) := by decide +kernel
theorem dL_act_293 : decode cL_act 293 = .ok (.aload_n 1, 1) := by decide +kernel
theorem dL_act_294 : decode cL_act 294 = .ok (.invokestatic 39, 3) := by decide +kernel
theorem dL_act_297 : decode cL_act 297 = .ok (.bipush 12, 2) := by decide +kernel
theorem dL_act_299 : decode cL_act 299 = .ok (.irem, 1) := by decide +kernel
theorem dL_act_300 : decode cL_act 300 = .ok (.iadd, 1) := by decide +kernel
theorem dL_act_301 : decode cL_act 301 = .ok (.invokestatic 235, 3) := by decide +kernel
theorem dL_act_304 : decode cL_act 304 = .ok (.ifCond .lt 7, 3) := by decide +kernel
theorem dL_act_307 : decode cL_act 307 = .ok (.iconst 1, 1) := by decide +kernel
theorem dL_act_308 : decode cL_act 308 = .ok (.goto 4, 3) := by decide +kernel
theorem dL_act_311 : decode cL_act 311 = .ok (.iconst 0, 1) := by decide +kernel
theorem dL_act_312 : decode cL_act 312 = .ok (.ireturn, 1) := by decide +kernel
