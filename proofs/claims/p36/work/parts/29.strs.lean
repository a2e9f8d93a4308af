section STRS
variable {Y : Yd} {rm : Room} {b : Nat × Nat} {μ μ1 : Wd} {pc : Nat} {la : List (Nat × Value)} {st : List Value} {o : Oc}
theorem ml_J0_335 : Cond.methodLink RJ0 335 yJ0_coder_7d493 ∈ lwa := lwa_in 849 (by decide +kernel) rfl
theorem ml_J0_492 : Cond.methodLink RJ0 492 yJ0_isLatin1_aae02 ∈ lwa := lwa_in 859 (by decide +kernel) rfl
theorem ml_J0_495 : Cond.methodLink RJ0 495 yJ1_charAt_3b067 ∈ lwa := lwa_in 863 (by decide +kernel) rfl
theorem ml_J1_9 : Cond.methodLink RJ1 9 yJ0_checkIndex_df160 ∈ lwa := lwa_in 866 (by decide +kernel) rfl
theorem ml_J0_1059 : Cond.methodLink RJ0 1059 yJ3_checkIndex_8e157 ∈ lwa := lwa_in 871 (by decide +kernel) rfl
theorem ml_J0_498 : Cond.methodLink RJ0 498 yJ2_charAt_3b067 ∈ lwa := lwa_in 874 (by decide +kernel) rfl
theorem ml_J2_67 : Cond.methodLink RJ2 67 yJ2_checkIndex_2214a ∈ lwa := lwa_in 877 (by decide +kernel) rfl
theorem ml_J2_48 : Cond.methodLink RJ2 48 yJ2_length_9d52b ∈ lwa := lwa_in 880 (by decide +kernel) rfl
theorem ml_J2_414 : Cond.methodLink RJ2 414 yJ0_checkIndex_df160 ∈ lwa := lwa_in 883 (by decide +kernel) rfl
theorem ml_J2_71 : Cond.methodLink RJ2 71 yJ2_getChar_3b067 ∈ lwa := lwa_in 884 (by decide +kernel) rfl
theorem ml_J0_27 : Cond.methodLink RJ0 27 yJ0_init_bb550 ∈ lwa := lwa_in 999 (by decide +kernel) rfl
theorem ml_J0_177 : Cond.methodLink RJ0 177 yJ2_compress_dfd3c ∈ lwa := lwa_in 1004 (by decide +kernel) rfl
theorem ml_J2_115 : Cond.methodLink RJ2 115 yJ2_compress_fe38e ∈ lwa := lwa_in 1007 (by decide +kernel) rfl
theorem ml_J2_119 : Cond.methodLink RJ2 119 yJ2_toBytes_dfd3c ∈ lwa := lwa_in 1010 (by decide +kernel) rfl
theorem ml_J2_107 : Cond.methodLink RJ2 107 yJ2_newBytesFor_77867 ∈ lwa := lwa_in 1013 (by decide +kernel) rfl
theorem ml_J2_11 : Cond.methodLink RJ2 11 yJ2_newBytesLength_0f7a4 ∈ lwa := lwa_in 1016 (by decide +kernel) rfl
theorem ml_J2_111 : Cond.methodLink RJ2 111 yJ2_putChar_b72d1 ∈ lwa := lwa_in 1020 (by decide +kernel) rfl
theorem ml_J2_123 : Cond.methodLink RJ2 123 yJ2_compress_5af95 ∈ lwa := lwa_in 1023 (by decide +kernel) rfl
theorem ml_J2_173 : Cond.methodLink RJ2 173 yJ2_checkBoundsOffCount_d044e ∈ lwa := lwa_in 1026 (by decide +kernel) rfl
theorem ml_J2_419 : Cond.methodLink RJ2 419 yJ0_checkBoundsOffCount_cabcc ∈ lwa := lwa_in 1029 (by decide +kernel) rfl
theorem ml_J0_1065 : Cond.methodLink RJ0 1065 yJ3_checkFromIndexSize_8c36e ∈ lwa := lwa_in 1032 (by decide +kernel) rfl
theorem ml_J0_47 : Cond.methodLink RJ0 47 yJ2_coderFromArrayLen_85cad ∈ lwa := lwa_in 1035 (by decide +kernel) rfl
theorem ml_J0_180 : Cond.methodLink RJ0 180 yJ2_toBytes_dfd3c ∈ lwa := lwa_in 1038 (by decide +kernel) rfl
theorem ml_J4_7 : Cond.methodLink RJ4 7 yJ5_init_a7421 ∈ lwa := lwa_in 1116 (by decide +kernel) rfl
theorem ml_J5_32 : Cond.methodLink RJ5 32 yJ0_length_8abf5 ∈ lwa := lwa_in 1120 (by decide +kernel) rfl
theorem ml_J5_40 : Cond.methodLink RJ5 40 yJ0_coder_7d493 ∈ lwa := lwa_in 1123 (by decide +kernel) rfl
theorem ml_J5_26 : Cond.methodLink RJ5 26 yJ2_newBytesFor_77867 ∈ lwa := lwa_in 1124 (by decide +kernel) rfl
theorem ml_J5_43 : Cond.methodLink RJ5 43 yJ5_append_cf1ce ∈ lwa := lwa_in 1125 (by decide +kernel) rfl
theorem ml_J4_23 : Cond.methodLink RJ4 23 yJ4_append_15ec4 ∈ lwa := lwa_in 1131 (by decide +kernel) rfl
theorem ml_J4_29 : Cond.methodLink RJ4 29 yJ5_append_cf1ce ∈ lwa := lwa_in 1135 (by decide +kernel) rfl
theorem ml_J5_204 : Cond.methodLink RJ5 204 yJ5_appendNull_278bc ∈ lwa := lwa_in 1138 (by decide +kernel) rfl
theorem ml_J5_100 : Cond.methodLink RJ5 100 yJ5_ensureCapacityInternal_d00df ∈ lwa := lwa_in 1142 (by decide +kernel) rfl
theorem ml_J5_104 : Cond.methodLink RJ5 104 yJ5_newCapacity_0f7a4 ∈ lwa := lwa_in 1146 (by decide +kernel) rfl
theorem ml_J5_114 : Cond.methodLink RJ5 114 yJ8_newLength_cabcc ∈ lwa := lwa_in 1150 (by decide +kernel) rfl
theorem ml_J8_194 : Cond.methodLink RJ8 194 yJ9_max_7cf53 ∈ lwa := lwa_in 1153 (by decide +kernel) rfl
theorem ml_J8_201 : Cond.methodLink RJ8 201 yJ8_hugeLength_7cf53 ∈ lwa := lwa_in 1157 (by decide +kernel) rfl
theorem ml_J5_108 : Cond.methodLink RJ5 108 yJ7_copyOf_9075b ∈ lwa := lwa_in 1160 (by decide +kernel) rfl
theorem ml_J7_304 : Cond.methodLink RJ7 304 yJ9_min_7cf53 ∈ lwa := lwa_in 1170 (by decide +kernel) rfl
theorem ml_J5_83 : Cond.methodLink RJ5 83 yJ5_isLatin1_aae02 ∈ lwa := lwa_in 1172 (by decide +kernel) rfl
theorem ml_J5_226 : Cond.methodLink RJ5 226 yJ2_putCharsAt_cd4e5 ∈ lwa := lwa_in 1178 (by decide +kernel) rfl
theorem ml_J2_96 : Cond.methodLink RJ2 96 yJ2_checkBoundsBeginEnd_d044e ∈ lwa := lwa_in 1181 (by decide +kernel) rfl
theorem ml_J2_241 : Cond.methodLink RJ2 241 yJ0_checkBoundsBeginEnd_23922 ∈ lwa := lwa_in 1184 (by decide +kernel) rfl
theorem ml_J0_1062 : Cond.methodLink RJ0 1062 yJ3_checkFromToIndex_8c36e ∈ lwa := lwa_in 1187 (by decide +kernel) rfl
theorem ml_J5_208 : Cond.methodLink RJ5 208 yJ5_putStringAt_47b60 ∈ lwa := lwa_in 1190 (by decide +kernel) rfl
theorem ml_J5_397 : Cond.methodLink RJ5 397 yJ5_inflateIfNeededFor_a7421 ∈ lwa := lwa_in 1194 (by decide +kernel) rfl
theorem ml_J5_195 : Cond.methodLink RJ5 195 yJ5_inflate_da8c8 ∈ lwa := lwa_in 1198 (by decide +kernel) rfl
theorem ml_J5_125 : Cond.methodLink RJ5 125 yJ1_inflate_0e8fd ∈ lwa := lwa_in 1202 (by decide +kernel) rfl
theorem ml_J1_240 : Cond.methodLink RJ1 240 yJ2_inflate_0e8fd ∈ lwa := lwa_in 1205 (by decide +kernel) rfl
theorem ml_J5_399 : Cond.methodLink RJ5 399 yJ0_getBytes_840e7 ∈ lwa := lwa_in 1208 (by decide +kernel) rfl
theorem ml_J0_106 : Cond.methodLink RJ0 106 yJ1_inflate_0e8fd ∈ lwa := lwa_in 1213 (by decide +kernel) rfl
theorem ml_J4_53 : Cond.methodLink RJ4 53 yJ5_append_c97b9 ∈ lwa := lwa_in 1230 (by decide +kernel) rfl
theorem ml_J5_245 : Cond.methodLink RJ5 245 yJ6_stringSize_0f7a4 ∈ lwa := lwa_in 1233 (by decide +kernel) rfl
theorem ml_J5_248 : Cond.methodLink RJ5 248 yJ6_getChars_ba4f3 ∈ lwa := lwa_in 1236 (by decide +kernel) rfl
theorem ml_J5_251 : Cond.methodLink RJ5 251 yJ2_getChars_46870 ∈ lwa := lwa_in 1243 (by decide +kernel) rfl
theorem ml_J2_393 : Cond.methodLink RJ2 393 yJ2_getChars_ba4f3 ∈ lwa := lwa_in 1246 (by decide +kernel) rfl
theorem ml_J4_50 : Cond.methodLink RJ4 50 yJ5_append_3fe6f ∈ lwa := lwa_in 1255 (by decide +kernel) rfl
theorem ml_J5_191 : Cond.methodLink RJ5 191 yJ1_canEncode_fc78d ∈ lwa := lwa_in 1258 (by decide +kernel) rfl
theorem ml_J5_197 : Cond.methodLink RJ5 197 yJ2_putCharSB_b72d1 ∈ lwa := lwa_in 1261 (by decide +kernel) rfl
theorem ml_J4_1 : Cond.methodLink RJ4 1 yJ5_init_d00df ∈ lwa := lwa_in 1273 (by decide +kernel) rfl
theorem ml_J4_137 : Cond.methodLink RJ4 137 yJ0_init_81219 ∈ lwa := lwa_in 1285 (by decide +kernel) rfl
theorem ml_J0_489 : Cond.methodLink RJ0 489 yJ0_init_db425 ∈ lwa := lwa_in 1288 (by decide +kernel) rfl
theorem ml_J0_552 : Cond.methodLink RJ0 552 yJ5_getValue_6d5f1 ∈ lwa := lwa_in 1291 (by decide +kernel) rfl
theorem ml_J0_549 : Cond.methodLink RJ0 549 yJ5_length_8abf5 ∈ lwa := lwa_in 1296 (by decide +kernel) rfl
theorem ml_J4_343 : Cond.methodLink RJ4 343 yJ5_length_8abf5 ∈ lwa := lwa_in 1302 (by decide +kernel) rfl
theorem ml_J0_1047 : Cond.methodLink RJ0 1047 yJ5_isLatin1_aae02 ∈ lwa := lwa_in 1304 (by decide +kernel) rfl
theorem ml_J0_54 : Cond.methodLink RJ0 54 yJ7_copyOfRange_39247 ∈ lwa := lwa_in 1305 (by decide +kernel) rfl
theorem ml_J7_339 : Cond.methodLink RJ7 339 yJ7_copyOfRangeByte_39247 ∈ lwa := lwa_in 1308 (by decide +kernel) rfl
theorem ml_J7_343 : Cond.methodLink RJ7 343 yJ7_checkLength_df160 ∈ lwa := lwa_in 1311 (by decide +kernel) rfl
theorem ml_J7_47 : Cond.methodLink RJ7 47 yJ4_init_da8c8 ∈ lwa := lwa_in 1316 (by decide +kernel) rfl
theorem ml_J7_54 : Cond.methodLink RJ7 54 yJ4_append_bf812 ∈ lwa := lwa_in 1317 (by decide +kernel) rfl
theorem ml_J7_50 : Cond.methodLink RJ7 50 yJ4_append_15ec4 ∈ lwa := lwa_in 1319 (by decide +kernel) rfl
theorem ml_J7_61 : Cond.methodLink RJ7 61 yJ4_toString_0e30d ∈ lwa := lwa_in 1320 (by decide +kernel) rfl
theorem ml_J0_1051 : Cond.methodLink RJ0 1051 yJ2_compress_39247 ∈ lwa := lwa_in 1322 (by decide +kernel) rfl
theorem ml_J2_126 : Cond.methodLink RJ2 126 yJ7_copyOfRange_39247 ∈ lwa := lwa_in 1325 (by decide +kernel) rfl
theorem fs_J0_9 : FSite RJ0 9 0 0 (.array .byte) true := ⟨RJ0, TJ0, 4, tyJ0, cls_J0, by decide, lwa_in 1039 (by decide +kernel) rfl, rfl, rfl⟩
theorem fs_J0_15 : FSite RJ0 15 0 1 .byte true := ⟨RJ0, TJ0, 4, tyJ0, cls_J0, by decide, lwa_in 1040 (by decide +kernel) rfl, rfl, rfl⟩
theorem fl_CS : Cond.fieldLink RJ0 38 "java/lang/String" "COMPACT_STRINGS" "Z" ∈ lwa := lwa_in 853 (by decide +kernel) rfl
theorem fl_SF : Cond.fieldLink RJ0 1053 "jdk/internal/util/Preconditions" "SIOOBE_FORMATTER" "Ljava/util/function/BiFunction;" ∈ lwa := lwa_in 869 (by decide +kernel) rfl
theorem fl_val : Cond.fieldLink RJ0 9 "java/lang/String" "value" "[B" ∈ lwa := lwa_in 1039 (by decide +kernel) rfl
theorem fl_cod : Cond.fieldLink RJ0 15 "java/lang/String" "coder" "B" ∈ lwa := lwa_in 1040 (by decide +kernel) rfl
theorem a_kval {c : Nat} {q : String × Nat × String} (hY : Y.1.cls = RJ0) (hd : decode Y.2.1 pc = .ok (.getfield 9, 3)) (hq : kst[c]? = some q) (kk : AW Y rm b μ (pc + 3) la (.ref (1500000 + c) :: st) o μ1) : AW Y rm b μ pc la (.ref (1000000 + c) :: st) o μ1 := by
  intro p l e s m args below meth c9 H locs cells slots ls D cA base ad0 n0 ad C E h1 h2 h3
  have hts := C.2.2.2.2.2.1
  have hE := (E.1.2.2.2.2.2.1 c q hq).2.2.2.1
  have hown := C.2.2.2.2.1
  rw [hY] at hown
  exact vk_getf C.1 C.2.1 hE E.2.2.2.1 hown (hts _ fl_val) (fun _ h => h) hd (kk p l e s m args below meth c9 H locs cells slots ls D cA base ad0 n0 ad C E h1 (okS_cons.mpr ⟨Or.inr (by omega), (okS_cons.mp h2).2⟩) h3)
theorem a_kcod {c : Nat} {q : String × Nat × String} (hY : Y.1.cls = RJ0) (hd : decode Y.2.1 pc = .ok (.getfield 15, 3)) (hq : kst[c]? = some q) (kk : AW Y rm b μ (pc + 3) la (.int 0 :: st) o μ1) : AW Y rm b μ pc la (.ref (1000000 + c) :: st) o μ1 := by
  intro p l e s m args below meth c9 H locs cells slots ls D cA base ad0 n0 ad C E h1 h2 h3
  have hts := C.2.2.2.2.2.1
  have hE := (E.1.2.2.2.2.2.1 c q hq).2.2.1
  have hown := C.2.2.2.2.1
  rw [hY] at hown
  exact vk_getf C.1 C.2.1 hE E.2.2.2.1 hown (hts _ fl_cod) (fun _ h => h) hd (kk p l e s m args below meth c9 H locs cells slots ls D cA base ad0 n0 ad C E h1 (okS_cons.mpr ⟨trivial, (okS_cons.mp h2).2⟩) h3)
theorem a_klen {c : Nat} {q : String × Nat × String} (hd : decode Y.2.1 pc = .ok (.arraylength, 1)) (hq : kst[c]? = some q) (kk : AW Y rm b μ (pc + 1) la (.int (nI (kby c).length) :: st) o μ1) : AW Y rm b μ pc la (.ref (1500000 + c) :: st) o μ1 := by
  intro p l e s m args below meth c9 H locs cells slots ls D cA base ad0 n0 ad C E h1 h2 h3
  exact va_tlen C.1 C.2.1 (E.1.2.2.2.2.2.1 c q hq).2.2.2.2 E.2.2.2.1 rfl hd (kk p l e s m args below meth c9 H locs cells slots ls D cA base ad0 n0 ad C E h1 (okS_cons.mpr ⟨trivial, (okS_cons.mp h2).2⟩) h3)
theorem a_kbld {c j : Nat} {q : String × Nat × String} (hd : decode Y.2.1 pc = .ok (.baload, 1)) (hq : kst[c]? = some q) (hj : j < (kby c).length) (hn : (kby c).length < 2 ^ 31) (kk : AW Y rm b μ (pc + 1) la (.int (nI ((kby c).getD j 0)) :: st) o μ1) : AW Y rm b μ pc la (.int (nI j) :: .ref (1500000 + c) :: st) o μ1 := by
  intro p l e s m args below meth c9 H locs cells slots ls D cA base ad0 n0 ad C E h1 h2 h3
  have hc : (nI j).toNatClampNeg = j := nI_clamp (by omega)
  exact va_tb C.1 C.2.1 (E.1.2.2.2.2.2.1 c q hq).2.2.2.2 E.2.2.2.1 (i := nI j) (nI_in hj hn) (by rw [hc]; rfl) hd (kk p l e s m args below meth c9 H locs cells slots ls D cA base ad0 n0 ad C E h1 (okS_cons.mpr ⟨trivial, (okS_cons.mp (okS_cons.mp h2).2).2⟩) h3)
theorem a_gsCS (hY : Y.1.cls = RJ0) (hd : decode Y.2.1 pc = .ok (.getstatic 38, 3)) (kk : AW Y rm b μ (pc + 3) la (.int 1 :: st) o μ1) : AW Y rm b μ pc la st o μ1 := by
  intro p l e s m args below meth c9 H locs cells slots ls D cA base ad0 n0 ad C E h1 h2 h3
  have hts := C.2.2.2.2.2.1
  have hown := C.2.2.2.2.1
  rw [hY] at hown
  exact va_gets C.1 C.2.1 E.1.2.2.1 E.2.2.2.1 hown (hts _ fl_CS) (fun _ h => h) hd (kk p l e s m args below meth c9 H locs cells slots ls D cA base ad0 n0 ad C E h1 (okS_cons.mpr ⟨trivial, h2⟩) h3)
theorem a_gsSF (hY : Y.1.cls = RJ0) (hd : decode Y.2.1 pc = .ok (.getstatic 1053, 3)) (kk : ∀ v : Value, v = .null ∨ v = .ref 1700000 → AW Y rm b μ (pc + 3) la (v :: st) o μ1) : AW Y rm b μ pc la st o μ1 := by
  intro p l e s m args below meth c9 H locs cells slots ls D cA base ad0 n0 ad C E h1 h2 h3
  have hts := C.2.2.2.2.2.1
  have hown := C.2.2.2.2.1
  rw [hY] at hown
  rcases E.1.2.2.2.2.1 with hZ | hZ
  · exact va_gets C.1 C.2.1 hZ E.2.2.2.1 hown (hts _ fl_SF) (fun _ h => h) hd (kk .null (Or.inl rfl) p l e s m args below meth c9 H locs cells slots ls D cA base ad0 n0 ad C E h1 (okS_cons.mpr ⟨trivial, h2⟩) h3)
  · exact va_gets C.1 C.2.1 hZ E.2.2.2.1 hown (hts _ fl_SF) (fun _ h => h) hd (kk (.ref 1700000) (Or.inr rfl) p l e s m args below meth c9 H locs cells slots ls D cA base ad0 n0 ad C E h1 (okS_cons.mpr ⟨Or.inr (by omega), h2⟩) h3)
/-- a call of a method of a String constant -/
theorem a_invK {Y2 : Yd} {rm2 : Room} {as sk : List Value} {v : Option Value} {μ2 : Wd} {i c n : Nat} {q : String × Nat × String} {b2 : Nat × Nat} (hq : kst[c]? = some q)
    (hct : Ct Y2 rm2 (.ref (1000000 + c) :: as) μ (.inl v) μ2) (hsk : sk = as.reverse ++ .ref (1000000 + c) :: st) (hd : decode Y.2.1 pc = .ok (.invokevirtual i, 3)) (hy : YOK Y2 n) (hin : Cond.instanceMethod Y2.1 ∈ lwa) (hse : Cond.selects Y2.1.cls Y2.1 Y2.1 ∈ lwa) (hl : Cond.methodLink Y.1.cls i Y2.1 ∈ lwa) (ha : as.length = n) (hcl : Y2.1.cls = "java/lang/String") (hR : rm2.frames + 1 ≤ rm.frames ∧ 8 + (Y2.2.2.1 + 11) + rm2.locals ≤ rm.locals) (hb : rm2.cells + b2.1 ≤ b.1 ∧ rm2.slots + b2.2 ≤ b.2) (hst : (st.map fun v => v.category).sum ≤ 8)
    (kk : AW Y rm b2 μ2 (pc + 3) la (v.toList ++ st) o μ1) : AW Y rm b μ pc la sk o μ1 := by
  intro p l e s m args below meth c9 H locs cells slots ls D cA base ad0 n0 ad C E h1 h2 h3
  have h4 : okS (wn μ) st := by
    rw [hsk] at h2
    exact (okS_cons.mp (okS_app.mp h2).2).2
  refine a_back (A2 := ((Value.ref (1000000 + c) :: as).map (tv ad)).toArray) C E h1 h4 h3 hb ?_ kk
  subst hsk
  have hts := C.2.2.2.2.2.1
  have hB := hy.B (Y := Y) (rm := rm) hl hts hR
  have hrecv := va_Orecv (E.1.2.2.2.2.2.1 c q hq).2.1 E.2.2.2.1
  rw [← hcl] at hrecv
  have hok : okS (wn μ) (.ref (1000000 + c) :: as) := by
    have h4 := okS_app.mp h2
    exact okS_cons.mpr ⟨(okS_cons.mp h4.2).1, okS_rev.mp h4.1⟩
  refine vx_runV (n := n) (C := Y2.1.cls) (b := ad (1000000 + c)) (As := as.map (tv ad)) (rest := st.map (tv ad)) (nL := Y.2.2.1) (own := Y.1.cls) (Ts := lwa) ⟨C.1, C.2.1, C.2.2.1, C.2.2.2.2.1, hts⟩ (hct l D cA base ad C.2.2.2.2.2.2.2.1) ⟨hB, hts _ hin, hts _ hse⟩ ⟨PcO.blind, hrecv, PcO.go E hok⟩ rfl (by rw [List.length_map]; exact ha) h3.1 ?_ ?_ hd ⟨?_, ?_⟩
  · exact rev_tv ad as (1000000 + c) st
  · exact lv_room (by rw [cat_tv]; exact hst)
  · have h5 := E.2.2.2.2.2.2.2.1
    have h6 := hb.1
    omega
  · have h5 := E.2.2.2.2.2.2.2.2
    have h6 := hb.2
    omega
/-- a text: a constant, or a String that was made -/
def StrV (μ : Wd) (r : Nat) (l : List Nat) : Prop := l.length ≤ 900 ∧ (∀ x ∈ l, x < 128) ∧ ((∃ (c : Nat) (q : String × Nat × String), r = 1000000 + c ∧ kst[c]? = some q ∧ kby c = l) ∨ (339 ≤ r ∧ Ob μ r 0 ∧ ∃ v, 339 ≤ v ∧ gR μ r 0 = some v ∧ Ar μ v 22 l.length ∧ gI μ r 1 = 0 ∧ ∀ j, j < l.length → gI μ v j = nI (l.getD j 0)))
theorem getD_mem : ∀ (l : List Nat) (j : Nat), j < l.length → l.getD j 0 ∈ l
  | [], _, h => absurd h (Nat.not_lt_zero _)
  | _ :: _, 0, _ => List.mem_cons_self
  | _ :: l, j + 1, h => List.mem_cons_of_mem _ (getD_mem l j (Nat.lt_of_succ_lt_succ h))
theorem sh0 {n : Nat} (h : n < 2 ^ 31) : nI n >>> ((0 : Int32) &&& 31) = nI n := sc_shr0 h
theorem by255 {n : Nat} (h : n < 128) : nI n &&& 255 = nI n ∧ ((nI n).toUInt32 % 65536).toInt32 = nI n := by
  have q : ∀ n, n < 128 → nI n &&& 255 = nI n ∧ ((nI n).toUInt32 % 65536).toInt32 = nI n := by decide +kernel
  exact q n h
end STRS
section STRM
variable {μ : Wd} {r : Nat} {l : List Nat}
abbrev R_J0_coder_7d493 : Room := { frames := 0, cells := 0, slots := 0, locals := 0 }
theorem t_J0_coder_7d493 (hs : StrV μ r l) : Ct Y_J0_coder_7d493 R_J0_coder_7d493 [.ref r] μ (.inl (some (.int 0))) μ := by
  refine Ct.ent yk_J0_coder_7d493 (Nat.le_of_ble_eq_true rfl) ?_
  obtain ⟨-, -, ⟨c, q, rfl, hq, hl⟩ | ⟨-, ho, v, -, hr, ha, hc, hb⟩⟩ := hs
  · refine a_gsCS rfl dJ0_coder_7d493_0 ?_
    refine a_if_eq (tgt := 13) dJ0_coder_7d493_3 (by decide) (fun h3 => absurd h3 (by decide)) (fun h3 => ?_)
    refine a_aload_n dJ0_coder_7d493_6 rfl ?_
    refine a_kcod rfl dJ0_coder_7d493_7 hq ?_
    refine a_goto (tgt := 14) dJ0_coder_7d493_10 (by decide) ?_
    exact a_out rfl rfl (a_ireturn dJ0_coder_7d493_14 rfl rfl)
  · refine a_gsCS rfl dJ0_coder_7d493_0 ?_
    refine a_if_eq (tgt := 13) dJ0_coder_7d493_3 (by decide) (fun h3 => absurd h3 (by decide)) (fun h3 => ?_)
    refine a_aload_n dJ0_coder_7d493_6 rfl ?_
    refine a_getI dJ0_coder_7d493_7 fs_J0_15 rfl ho ?_
    rw [hc]
    refine a_goto (tgt := 14) dJ0_coder_7d493_10 (by decide) ?_
    exact a_out rfl rfl (a_ireturn dJ0_coder_7d493_14 rfl rfl)
abbrev R_J0_isLatin1_aae02 : Room := { frames := 0, cells := 0, slots := 0, locals := 0 }
theorem t_J0_isLatin1_aae02 (hs : StrV μ r l) : Ct Y_J0_isLatin1_aae02 R_J0_isLatin1_aae02 [.ref r] μ (.inl (some (.int 1))) μ := by
  refine Ct.ent yk_J0_isLatin1_aae02 (Nat.le_of_ble_eq_true rfl) ?_
  obtain ⟨-, -, ⟨c, q, rfl, hq, hl⟩ | ⟨-, ho, v, -, hr, ha, hc, hb⟩⟩ := hs
  · refine a_gsCS rfl dJ0_isLatin1_aae02_0 ?_
    refine a_if_eq (tgt := 17) dJ0_isLatin1_aae02_3 (by decide) (fun h3 => absurd h3 (by decide)) (fun h3 => ?_)
    refine a_aload_n dJ0_isLatin1_aae02_6 rfl ?_
    refine a_kcod rfl dJ0_isLatin1_aae02_7 hq ?_
    refine a_if_ne (tgt := 17) dJ0_isLatin1_aae02_10 (by decide) (fun h10 => absurd h10 (by decide)) (fun h10 => ?_)
    refine a_iconst (1 : Int32) dJ0_isLatin1_aae02_13 (by decide) ?_
    refine a_goto (tgt := 18) dJ0_isLatin1_aae02_14 (by decide) ?_
    exact a_out rfl rfl (a_ireturn dJ0_isLatin1_aae02_18 rfl rfl)
  · refine a_gsCS rfl dJ0_isLatin1_aae02_0 ?_
    refine a_if_eq (tgt := 17) dJ0_isLatin1_aae02_3 (by decide) (fun h3 => absurd h3 (by decide)) (fun h3 => ?_)
    refine a_aload_n dJ0_isLatin1_aae02_6 rfl ?_
    refine a_getI dJ0_isLatin1_aae02_7 fs_J0_15 rfl ho ?_
    rw [hc]
    refine a_if_ne (tgt := 17) dJ0_isLatin1_aae02_10 (by decide) (fun h10 => absurd h10 (by decide)) (fun h10 => ?_)
    refine a_iconst (1 : Int32) dJ0_isLatin1_aae02_13 (by decide) ?_
    refine a_goto (tgt := 18) dJ0_isLatin1_aae02_14 (by decide) ?_
    exact a_out rfl rfl (a_ireturn dJ0_isLatin1_aae02_18 rfl rfl)
abbrev R_J0_length_8abf5 : Room := { frames := 3, cells := 0, slots := 0, locals := 80 }
theorem t_J0_length_8abf5 (hs : StrV μ r l) : Ct Y_J0_length_8abf5 R_J0_length_8abf5 [.ref r] μ (.inl (some (.int (nI l.length)))) μ := by
  refine Ct.ent yk_J0_length_8abf5 (Nat.le_of_ble_eq_true rfl) ?_
  have hs0 := hs
  obtain ⟨h60, -, ⟨c, q, rfl, hq, hl⟩ | ⟨-, ho, v, -, hr, ha, hc, hb⟩⟩ := hs
  · refine a_aload_n dJ0_length_8abf5_0 rfl ?_
    refine a_kval rfl dJ0_length_8abf5_1 hq ?_
    refine a_klen dJ0_length_8abf5_4 hq ?_
    rw [hl]
    refine a_aload_n dJ0_length_8abf5_5 rfl ?_
    refine a_invK (b2 := (0, 0)) hq (t_J0_coder_7d493 hs0) rfl dJ0_length_8abf5_6 yk_J0_coder_7d493 im_J0_coder_7d493 se_J0_coder_7d493 ml_J0_335 rfl rfl (by decide) (by decide) (Nat.le_of_ble_eq_true rfl) ?_
    refine a_ishr dJ0_length_8abf5_9 ?_
    rw [sh0 (by omega)]
    exact a_out rfl rfl (a_ireturn dJ0_length_8abf5_10 rfl rfl)
  · refine a_aload_n dJ0_length_8abf5_0 rfl ?_
    refine a_getR hr dJ0_length_8abf5_1 fs_J0_9 rfl ho ?_
    refine a_alen (nI l.length) dJ0_length_8abf5_4 ha (by decide) rfl ?_
    refine a_aload_n dJ0_length_8abf5_5 rfl ?_
    refine a_inv (b2 := (0, 0)) (t_J0_coder_7d493 hs0) rfl dJ0_length_8abf5_6 yk_J0_coder_7d493 im_J0_coder_7d493 se_J0_coder_7d493 ml_J0_335 rfl ho (by decide) hc_J0 (by decide) (by decide) (Nat.le_of_ble_eq_true rfl) ?_
    refine a_ishr dJ0_length_8abf5_9 ?_
    rw [sh0 (by omega)]
    exact a_out rfl rfl (a_ireturn dJ0_length_8abf5_10 rfl rfl)
abbrev R_J3_checkIndex_8e157 : Room := { frames := 0, cells := 0, slots := 0, locals := 0 }
theorem t_J3_checkIndex_8e157 {i n : Nat} (hi : i < n) (hn : n < 2 ^ 31) (v : Value) (hv : v = .null ∨ v = .ref 1700000) : Ct Y_J3_checkIndex_8e157 R_J3_checkIndex_8e157 [.int (nI i), .int (nI n), v] μ (.inl (some (.int (nI i)))) μ := by
  refine Ct.ent yk_J3_checkIndex_8e157 ?_ ?_
  · rcases hv with rfl | rfl <;> exact Nat.le_of_ble_eq_true rfl
  have hv9 : lv_args 0 [.int (nI i), .int (nI n), v] = [(0, .int (nI i)), (1, .int (nI n)), (2, v)] := rfl
  rw [hv9]
  refine a_iload_n dJ3_checkIndex_8e157_0 rfl ?_
  refine a_if_lt (tgt := 9) dJ3_checkIndex_8e157_1 (by decide) (fun h1 => absurd h1 (nI_pos (by omega))) (fun h1 => ?_)
  refine a_iload_n dJ3_checkIndex_8e157_4 rfl ?_
  refine a_iload_n dJ3_checkIndex_8e157_5 rfl ?_
  refine a_icmp_lt (tgt := 16) dJ3_checkIndex_8e157_6 (by decide) (fun h6 => ?_) (fun h6 => absurd h6 (fun z => z (nI_lt hi hn)))
  refine a_iload_n dJ3_checkIndex_8e157_16 rfl ?_
  exact a_out rfl rfl (a_ireturn dJ3_checkIndex_8e157_17 rfl rfl)
abbrev R_J0_checkIndex_df160 : Room := { frames := 1, cells := 0, slots := 0, locals := 30 }
theorem t_J0_checkIndex_df160 {i n : Nat} (hi : i < n) (hn : n < 2 ^ 31) : Ct Y_J0_checkIndex_df160 R_J0_checkIndex_df160 [.int (nI i), .int (nI n)] μ (.inl none) μ := by
  refine Ct.ent yk_J0_checkIndex_df160 (Nat.le_of_ble_eq_true rfl) ?_
  refine a_iload_n dJ0_checkIndex_df160_0 rfl ?_
  refine a_iload_n dJ0_checkIndex_df160_1 rfl ?_
  refine a_gsSF rfl dJ0_checkIndex_df160_2 (fun v hv => ?_)
  have hst : ([.int (nI i), .int (nI n), v] : List Value).reverse ++ ([] : List Value) = [v, .int (nI n), .int (nI i)] := rfl
  refine a_invS (b2 := (0, 0)) (t_J3_checkIndex_8e157 hi hn v hv) hst.symm dJ0_checkIndex_df160_5 yk_J3_checkIndex_8e157 sm_J3_checkIndex_8e157 ml_J0_1059 rfl (by decide) (by decide) (Nat.le_of_ble_eq_true rfl) ?_
  refine a_pop dJ0_checkIndex_df160_8 rfl ?_
  exact a_out rfl rfl (a_return dJ0_checkIndex_df160_9 rfl)
theorem narrow_ch {n : Nat} (h : n < 128) : narrow .char (.int (nI n)) = .int (nI n) := by
  have q : ∀ n, n < 128 → narrow .char (.int (nI n)) = .int (nI n) := by decide +kernel
  exact q n h
abbrev R_J1_charAt_3b067 : Room := { frames := 2, cells := 0, slots := 0, locals := 60 }
theorem tk_J1_charAt_3b067 {c : Nat} {q : String × Nat × String} (hq : kst[c]? = some q) (h60 : (kby c).length ≤ 900) (hx : ∀ x ∈ kby c, x < 128) {j : Nat} (hj : j < (kby c).length) : Ct Y_J1_charAt_3b067 R_J1_charAt_3b067 [.ref (1500000 + c), .int (nI j)] μ (.inl (some (.int (nI ((kby c).getD j 0))))) μ := by
  refine Ct.ent yk_J1_charAt_3b067 (Nat.le_of_ble_eq_true rfl) ?_
  have hb : (kby c).getD j 0 < 128 := by
    exact hx _ (getD_mem _ _ hj)
  refine a_iload_n dJ1_charAt_3b067_0 rfl ?_
  refine a_aload_n dJ1_charAt_3b067_1 rfl ?_
  refine a_klen dJ1_charAt_3b067_2 hq ?_
  refine a_invS (b2 := (0, 0)) (t_J0_checkIndex_df160 hj (by omega)) rfl dJ1_charAt_3b067_3 yk_J0_checkIndex_df160 sm_J0_checkIndex_df160 ml_J1_9 rfl (by decide) (by decide) (Nat.le_of_ble_eq_true rfl) ?_
  refine a_aload_n dJ1_charAt_3b067_6 rfl ?_
  refine a_iload_n dJ1_charAt_3b067_7 rfl ?_
  refine a_kbld dJ1_charAt_3b067_8 hq hj (by omega) ?_
  refine a_sipush (255 : Int32) dJ1_charAt_3b067_9 (by decide) ?_
  refine a_iand dJ1_charAt_3b067_12 ?_
  rw [(by255 hb).1]
  refine a_i2c dJ1_charAt_3b067_13 ?_
  rw [(by255 hb).2]
  exact a_out rfl rfl (a_ireturn dJ1_charAt_3b067_14 rfl (show narrow .char (.int _) = .int _ from by first | (rw [narrow_ch hb]) | (rw [narrow_ch hx])))
theorem tp_J1_charAt_3b067 {v n : Nat} (ha : Ar μ v 22 n) (hn : n ≤ 900) {j x : Nat} (hj : j < n) (hv : gI μ v j = nI x) (hx : x < 128) : Ct Y_J1_charAt_3b067 R_J1_charAt_3b067 [.ref v, .int (nI j)] μ (.inl (some (.int (nI x)))) μ := by
  refine Ct.ent yk_J1_charAt_3b067 (Nat.le_of_ble_eq_true rfl) ?_
  refine a_iload_n dJ1_charAt_3b067_0 rfl ?_
  refine a_aload_n dJ1_charAt_3b067_1 rfl ?_
  refine a_alen (nI n) dJ1_charAt_3b067_2 ha (by decide) rfl ?_
  refine a_invS (b2 := (0, 0)) (t_J0_checkIndex_df160 hj (by omega)) rfl dJ1_charAt_3b067_3 yk_J0_checkIndex_df160 sm_J0_checkIndex_df160 ml_J1_9 rfl (by decide) (by decide) (Nat.le_of_ble_eq_true rfl) ?_
  refine a_aload_n dJ1_charAt_3b067_6 rfl ?_
  refine a_iload_n dJ1_charAt_3b067_7 rfl ?_
  refine a_bld dJ1_charAt_3b067_8 ha (ixn hj (by omega)) ?_
  rw [hv]
  refine a_sipush (255 : Int32) dJ1_charAt_3b067_9 (by decide) ?_
  refine a_iand dJ1_charAt_3b067_12 ?_
  rw [(by255 hx).1]
  refine a_i2c dJ1_charAt_3b067_13 ?_
  rw [(by255 hx).2]
  exact a_out rfl rfl (a_ireturn dJ1_charAt_3b067_14 rfl (show narrow .char (.int _) = .int _ from by first | (rw [narrow_ch hb]) | (rw [narrow_ch hx])))
abbrev R_J0_charAt_5068e : Room := { frames := 6, cells := 0, slots := 0, locals := 160 }
theorem t_J0_charAt_5068e (hs : StrV μ r l) {j : Nat} (hj : j < l.length) : Ct Y_J0_charAt_5068e R_J0_charAt_5068e [.ref r, .int (nI j)] μ (.inl (some (.int (nI (l.getD j 0))))) μ := by
  refine Ct.ent yk_J0_charAt_5068e (Nat.le_of_ble_eq_true rfl) ?_
  have hs0 := hs
  obtain ⟨h60, hx, hs⟩ := hs
  have hlj : l.getD j 0 < 128 := by
    exact hx _ (getD_mem _ _ hj)
  obtain ⟨c, q, rfl, hq, hl⟩ | ⟨-, ho, v, -, hr, ha, hc, hb⟩ := hs
  · refine a_aload_n dJ0_charAt_5068e_0 rfl ?_
    refine a_invK (b2 := (0, 0)) hq (t_J0_isLatin1_aae02 hs0) rfl dJ0_charAt_5068e_1 yk_J0_isLatin1_aae02 im_J0_isLatin1_aae02 se_J0_isLatin1_aae02 ml_J0_492 rfl rfl (by decide) (by decide) (Nat.le_of_ble_eq_true rfl) ?_
    refine a_if_eq (tgt := 16) dJ0_charAt_5068e_4 (by decide) (fun h4 => absurd h4 (by decide)) (fun h4 => ?_)
    refine a_aload_n dJ0_charAt_5068e_7 rfl ?_
    refine a_kval rfl dJ0_charAt_5068e_8 hq ?_
    refine a_iload_n dJ0_charAt_5068e_11 rfl ?_
    refine a_invS (b2 := (0, 0)) (Ct.int (by rw [hl]) (tk_J1_charAt_3b067 hq (by rw [hl]; exact h60) (by rw [hl]; exact hx) (show j < (kby c).length by rw [hl]; exact hj))) rfl dJ0_charAt_5068e_12 yk_J1_charAt_3b067 sm_J1_charAt_3b067 ml_J0_495 rfl (by decide) (by decide) (Nat.le_of_ble_eq_true rfl) ?_
    exact a_out rfl rfl (a_ireturn dJ0_charAt_5068e_15 rfl (by rw [narrow_ch hlj]))
  · refine a_aload_n dJ0_charAt_5068e_0 rfl ?_
    refine a_inv (b2 := (0, 0)) (t_J0_isLatin1_aae02 hs0) rfl dJ0_charAt_5068e_1 yk_J0_isLatin1_aae02 im_J0_isLatin1_aae02 se_J0_isLatin1_aae02 ml_J0_492 rfl ho (by decide) hc_J0 (by decide) (by decide) (Nat.le_of_ble_eq_true rfl) ?_
    refine a_if_eq (tgt := 16) dJ0_charAt_5068e_4 (by decide) (fun h4 => absurd h4 (by decide)) (fun h4 => ?_)
    refine a_aload_n dJ0_charAt_5068e_7 rfl ?_
    refine a_getR hr dJ0_charAt_5068e_8 fs_J0_9 rfl ho ?_
    refine a_iload_n dJ0_charAt_5068e_11 rfl ?_
    refine a_invS (b2 := (0, 0)) (tp_J1_charAt_3b067 ha h60 hj (hb j hj) hlj) rfl dJ0_charAt_5068e_12 yk_J1_charAt_3b067 sm_J1_charAt_3b067 ml_J0_495 rfl (by decide) (by decide) (Nat.le_of_ble_eq_true rfl) ?_
    exact a_out rfl rfl (a_ireturn dJ0_charAt_5068e_15 rfl (by rw [narrow_ch hlj]))
end STRM
