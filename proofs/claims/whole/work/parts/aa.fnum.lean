section FLOATS
variable {Y : Yd} {rm : Room} {b : Nat × Nat} {μ μ1 : Wd} {pc : Nat} {la : List (Nat × Value)} {st : List Value} {o : Oc} {N : Nat} {p : Nat} {q : PDt} {d : FDt}
def fwl_0 : List (Nat × Cond) := [(653, Cond.constantFloat RX10 475 1258291200), (7, Cond.constantLong RX10 476 1023), (0, Cond.constantDouble RX10 478 4611686018427387904), (0, Cond.constantDouble RX10 480 4841369599423283200), (1533, Cond.static yJxf58ca_floatToIntBits_5c35a), (1, Cond.methodLink RJxf58ca 59 yJxf58ca_isNaN_12338), (0, Cond.static yJxf58ca_isNaN_12338), (1, Cond.methodLink RJxf58ca 74 ⟨"java/lang/Float", "floatToRawIntBits", "(F)I"⟩), (0, Cond.static ⟨"java/lang/Float", "floatToRawIntBits", "(F)I"⟩), (0, Cond.native ⟨"java/lang/Float", "floatToRawIntBits", "(F)I"⟩), (8, Cond.methodLink RJxe99ae 122 yJxe99ae_isNaN_b9ae7), (2, Cond.methodLink RJxe99ae 134 ⟨"java/lang/Double", "doubleToRawLongBits", "(D)J"⟩), (0, Cond.static ⟨"java/lang/Double", "doubleToRawLongBits", "(D)J"⟩), (0, Cond.native ⟨"java/lang/Double", "doubleToRawLongBits", "(D)J"⟩)]
set_option maxRecDepth 50000 in
theorem fwc_0 : chk fwl_0 lw_tbl = true := by decide +kernel
theorem kf_475 : Cond.constantFloat RX10 475 1258291200 ∈ lwa := chk_in fwc_0 0 rfl
theorem kl_476 : Cond.constantLong RX10 476 1023 ∈ lwa := chk_in fwc_0 1 rfl
theorem kd_478 : Cond.constantDouble RX10 478 4611686018427387904 ∈ lwa := chk_in fwc_0 2 rfl
theorem kd_480 : Cond.constantDouble RX10 480 4841369599423283200 ∈ lwa := chk_in fwc_0 3 rfl
theorem sf_b : Cond.static yJxf58ca_floatToIntBits_5c35a ∈ lwa := chk_in fwc_0 4 rfl
theorem lf_n : Cond.methodLink RJxf58ca 59 yJxf58ca_isNaN_12338 ∈ lwa := chk_in fwc_0 5 rfl
theorem sf_n : Cond.static yJxf58ca_isNaN_12338 ∈ lwa := chk_in fwc_0 6 rfl
theorem lf_r : Cond.methodLink RJxf58ca 74 ⟨"java/lang/Float", "floatToRawIntBits", "(F)I"⟩ ∈ lwa := chk_in fwc_0 7 rfl
theorem sf_r : Cond.static ⟨"java/lang/Float", "floatToRawIntBits", "(F)I"⟩ ∈ lwa := chk_in fwc_0 8 rfl
theorem nf_r : Cond.native ⟨"java/lang/Float", "floatToRawIntBits", "(F)I"⟩ ∈ lwa := chk_in fwc_0 9 rfl
theorem ld_n : Cond.methodLink RJxe99ae 122 yJxe99ae_isNaN_b9ae7 ∈ lwa := chk_in fwc_0 10 rfl
theorem ld_r : Cond.methodLink RJxe99ae 134 ⟨"java/lang/Double", "doubleToRawLongBits", "(D)J"⟩ ∈ lwa := chk_in fwc_0 11 rfl
theorem sd_r : Cond.static ⟨"java/lang/Double", "doubleToRawLongBits", "(D)J"⟩ ∈ lwa := chk_in fwc_0 12 rfl
theorem nd_r : Cond.native ⟨"java/lang/Double", "doubleToRawLongBits", "(D)J"⟩ ∈ lwa := chk_in fwc_0 13 rfl
theorem vx_ofWF {l : Launch} {y : MethodName} {ws ws' : List Cond} {rm : Room} {Pc : Array Value → State → Prop} {Qc : Array Value → State → Outcome → State → Prop} {XC : String → State → State → Prop} {mc ms : Nat} {free : Addr → Prop} {cc : ByteArray} {maxL : Nat} {ret : Option FieldType}
    (hy : plainFor y = true) (hw : ws = Cond.code y cc maxL ret :: ws')
    (body : ∀ p e s m args below meth c s₁, BodyLoose p l y (headSpec ws rm) cc maxL ret e s m args below meth c s₁ → c.maxLocals = maxL → (∀ x ∈ c.exceptionTable.toList, False) → Pc args s →
      W p l e (headSpec ws rm).room s m args below meth c s.heap [] 0 0 (vx_MQ below Qc XC args s mc ms free) (entryFrame m args maxL)) : vx_Met l y ws rm Pc Qc XC mc ms free := by
  refine MetFree.of_bodySF (code := cc) (maxLocals := maxL) (ret := ret) hy ?_ ?_
  · intro args s m h hn
    obtain ⟨meth, c, h1, h2, h3, h4, h5, h6, -, -⟩ := Cond.code_spec hn (atoms_spec (ws := ws) h _ (by rw [hw]; exact List.mem_cons_self))
    exact ⟨meth, c, h1, h2, h3, h4, h5, h6⟩
  · intro p e s m args below meth c s₁ B hml hP _
    have hh0 : s₁.heap = s.heap := by rw [B.state]; rfl
    have ht : ∀ x ∈ c.exceptionTable.toList, False := by
      obtain ⟨meth9, c9, h1, h2, -, -, -, -, h7, -⟩ := Cond.code_spec B.named (atoms_spec (ws := ws) B.pre _ (by rw [hw]; exact List.mem_cons_self))
      cases Option.some.inj (h1.symm.trans B.method)
      cases Option.some.inj (h2.symm.trans (Stand.of_body B).code)
      intro x hx
      rw [Array.isEmpty_iff.mp h7] at hx
      cases hx
    obtain ⟨t, a1, o, b1, b2, b3⟩ := body p e s m args below meth c s₁ B hml ht hP s₁ hh0 (Stand.of_body B)
    exact ⟨t, o, a1, b1, b2, b3⟩
/-- as YOK, of a method of a class of which the machine knows others by itself -/
def YOKF (Y : Yd) (n : Nat) : Prop :=
  Cond.code Y.1 Y.2.1 Y.2.2.1 Y.2.2.2.1 ∈ lwa ∧ Cond.initialized Y.1.cls ∈ lwa ∧ (Y.1.cls ≠ "java/lang/invoke/MethodHandle" ∧ Y.1.cls ≠ "java/lang/invoke/VarHandle") ∧ (parseMethodDescriptor Y.1.desc).map (fun d => d.parameters.length) = some n ∧ Y.2.2.2.2 = [] ∧ plainFor Y.1 = true
theorem Ct.entF {n : Nat} {as : List Value} (hy : YOKF Y n) (hn : (lg_sl as).length ≤ Y.2.2.1) (h : AW Y rm (rm.cells, rm.slots) μ 0 (lv_args 0 as) [] o μ1) : Ct Y rm as μ o μ1 := by
  intro l D cA base ad hst
  obtain ⟨g1, g2, g3, g4, g5, g6⟩ := hy
  refine vx_ofWF (cc := Y.2.1) (maxL := Y.2.2.1) (ret := Y.2.2.2.1) (ws' := lwa) g6 (by rw [hdw_nil g5]) ?_
  intro p e s m args below meth c s₁ B hml htab hv
  obtain ⟨rfl, hKF, hK, hR, hbase, hok⟩ := hv
  have hts : ∀ w ∈ lwa, w.before ((as.map (tv ad)).toArray) s = true := fun w hw => atoms_spec (ws := hdw Y :: lwa) B.pre w (List.mem_cons_of_mem _ hw)
  rw [lg_entry_eq]
  have hl := lv_entry (as.map (tv ad)) (n := Y.2.2.1) (by rw [lg_sl_len]; exact hn)
  rw [lv_args_tv] at hl
  refine h p l e s m _ below meth c s.heap [] 0 0 _ D cA base ad (wn μ) ad ⟨B.exec, B.bytes, hml, B.returns, findClass_of_methodNamed B.named, hts, B.notSynchronized, hst, (name_of_methodNamed B.named B.method).1, ?_⟩ ⟨hKF, hK, hR, va_S.rf, hbase, Ext.rfl', Nat.le_refl _, by simp, by simp⟩ (lv_args_ok as 0 hok) okS_nil hl
  have h10 : c.exceptionTable.toList = [] := List.eq_nil_iff_forall_not_mem.mpr fun x hx => htab x hx
  rw [h10, g5]
  rfl
theorem a_invSF {Y2 : Yd} {rm2 : Room} {as sk : List Value} {v : Option Value} {μ2 : Wd} {i n : Nat} {b2 : Nat × Nat}
    (hct : Ct Y2 rm2 as μ (.inl v) μ2) (hsk : sk = as.reverse ++ st) (hd : decode Y.2.1 pc = .ok (.invokestatic i, 3)) (hy : YOKF Y2 n) (hin : Cond.static Y2.1 ∈ lwa) (hl : Cond.methodLink Y.1.cls i Y2.1 ∈ lwa) (ha : as.length = n) (hR : rm2.frames + 1 ≤ rm.frames ∧ 8 + (Y2.2.2.1 + 11) + rm2.locals ≤ rm.locals) (hb : rm2.cells + b2.1 ≤ b.1 ∧ rm2.slots + b2.2 ≤ b.2) (hst : (st.map fun v => v.category).sum ≤ 8)
    (kk : AW Y rm b2 μ2 (pc + 3) la (v.toList ++ st) o μ1) : AW Y rm b μ pc la sk o μ1 := by
  intro p l e s m args below meth c H locs cells slots ls D cA base ad0 n0 ad C E h1 h2 h3
  subst hsk
  have h4 := okS_app.mp h2
  have hts := C.2.2.2.2.2.1
  obtain ⟨g1, g2, g3, g4, g5, g6⟩ := hy
  have hg : GoodIn lwa (hdw Y2 :: lwa) := by
    rw [hdw_nil g5]
    exact lwa_good (List.forall_mem_cons.mpr ⟨g1, fun w h => h⟩)
  have hB : CallB rm s args Y.1.cls i Y2.1 Y2.2.1 Y2.2.2.1 Y2.2.2.2.1 (hdw Y2 :: lwa) rm2 rm2.cells rm2.slots n := callB_of n hts hg (by rw [hdw_nil g5]) rfl rfl (hts _ g2) (hts _ hl) ⟨g3.1, g3.2, g4⟩ hR
  refine a_back C E h1 h4.2 h3 hb (A2 := (as.map (tv ad)).toArray) ?_ kk
  refine vx_runS (n := n) (As := as.map (tv ad)) (rest := st.map (tv ad)) (nL := Y.2.2.1) (own := Y.1.cls) (Ts := lwa) ⟨C.1, C.2.1, C.2.2.1, C.2.2.2.2.1, hts⟩ (hct l D cA base ad C.2.2.2.2.2.2.2.1) ⟨hB, hts _ hin⟩ ⟨PcO.blind, PcO.go E (okS_rev.mp h4.1)⟩ rfl (by rw [List.length_map]; exact ha) h3.1 ?_ ?_ hd ⟨?_, ?_⟩
  · exact rev_tvS ad as st
  · exact lv_room (by rw [cat_tv]; exact hst)
  · have h5 := E.2.2.2.2.2.2.2.1
    have h6 := hb.1
    omega
  · have h5 := E.2.2.2.2.2.2.2.2
    have h6 := hb.2
    omega
theorem yk_f_n : YOKF Y_Jxf58ca_isNaN_12338 1 := ⟨cd_Jxf58ca_isNaN_12338, ini_RJxf58ca, ⟨by decide +kernel, by decide +kernel⟩, by decide +kernel, rfl, by decide +kernel⟩
theorem yk_f_b : YOKF Y_Jxf58ca_floatToIntBits_5c35a 1 := ⟨cd_Jxf58ca_floatToIntBits_5c35a, ini_RJxf58ca, ⟨by decide +kernel, by decide +kernel⟩, by decide +kernel, rfl, by decide +kernel⟩
theorem a_f2raw {i : Nat} {x : UInt32} (hd : decode Y.2.1 pc = .ok (.invokestatic i, 3)) (hl : Cond.methodLink Y.1.cls i ⟨"java/lang/Float", "floatToRawIntBits", "(F)I"⟩ ∈ lwa) (hf : 1 ≤ rm.frames) (hr : 23 ≤ rm.locals) (hst : (st.map fun v => v.category).sum ≤ 8) (kk : AW Y rm b μ (pc + 3) la (.int x.toInt32 :: st) o μ1) : AW Y rm b μ pc la (.float x :: st) o μ1 := by
  intro p l e s m args below meth c H locs cells slots ls D cA base ad0 n0 ad C E h1 h2 h3
  have hts := C.2.2.2.2.2.1
  have hlv : (((st.map (tv ad)).map fun v => v.category)).sum ≤ 8 := by rw [cat_tv]; exact hst
  refine vn_f2i C.1 C.2.1 (C.2.2.1.trans h3.1.symm) C.2.2.2.2.1 (hts _ hl) (hts _ nf_r) (hts _ sf_r) (hts _ ini_RJxf58ca) hf (by omega) hd ?_
  exact kk p l e s m args below meth c H locs cells slots ls D cA base ad0 n0 ad C E h1 (by simpa only [okS_cons, okV_int, true_and] using (okS_cons.mp h2).2) h3
theorem a_d2raw {i : Nat} {x : UInt64} (hd : decode Y.2.1 pc = .ok (.invokestatic i, 3)) (hl : Cond.methodLink Y.1.cls i ⟨"java/lang/Double", "doubleToRawLongBits", "(D)J"⟩ ∈ lwa) (hf : 1 ≤ rm.frames) (hr : 23 ≤ rm.locals) (hst : (st.map fun v => v.category).sum ≤ 8) (kk : AW Y rm b μ (pc + 3) la (.long x.toInt64 :: st) o μ1) : AW Y rm b μ pc la (.double x :: st) o μ1 := by
  intro p l e s m args below meth c H locs cells slots ls D cA base ad0 n0 ad C E h1 h2 h3
  have hts := C.2.2.2.2.2.1
  have hlv : (((st.map (tv ad)).map fun v => v.category)).sum ≤ 8 := by rw [cat_tv]; exact hst
  refine vn_d2l C.1 C.2.1 (C.2.2.1.trans h3.1.symm) C.2.2.2.2.1 (hts _ hl) (hts _ nd_r) (hts _ sd_r) (hts _ ini_RJxe99ae) hf (by omega) hd ?_
  exact kk p l e s m args below meth c H locs cells slots ls D cA base ad0 n0 ad C E h1 (by simpa only [okS_cons, okV_long, true_and] using (okS_cons.mp h2).2) h3
theorem a_ldcwF {i : Nat} {v : UInt32} (hd : decode Y.2.1 pc = .ok (.ldc_w i, 3)) (hw : Cond.constantFloat Y.1.cls i v ∈ lwa) (kk : AW Y rm b μ (pc + 3) la (.float v :: st) o μ1) : AW Y rm b μ pc la st o μ1 := by
  intro p l e s m args below meth c H locs cells slots ls D cA base ad0 n0 ad C E h1 h2 h3
  intro T hT X
  obtain ⟨t, a1, b1⟩ := kk p l e s m args below meth c H locs cells slots ls D cA base ad0 n0 ad C E h1 (by simpa only [okS_cons, okV_float, true_and] using h2) h3 T hT X
  obtain ⟨k, cf, hk, hcf, hcp⟩ := Cond.constantFloat_spec C.2.2.2.2.1 (C.2.2.2.2.2.1 _ hw)
  obtain ⟨k', hk', he⟩ := X.warmed.alike.2.2 _ _ hk
  have hdg : decode c.code (F0 m pc ls (st.map (tv ad))).pc = .ok (.ldc_w i, 3) := by rw [C.2.1]; exact hd
  refine ⟨t, ?_, b1⟩
  jvm_step X.here [C.1, hdg, ldc_w.wp_float (s := T) (f := F0 m pc ls (st.map (tv ad))) X.here.top hk' (by rw [he]; exact hcf) hcp]
  exact a1
theorem n32_of {r : UInt32} (h : r.toNat ≤ 2139095040) : vf_n32 r := by
  unfold vf_n32
  rw [UInt32.le_iff_toNat_le, UInt32.toNat_and]
  exact Nat.le_trans Nat.and_le_left h
theorem n64_of {r : UInt64} (h : r.toNat ≤ 9218868437227405312) : vf_n64 r := by
  unfold vf_n64
  rw [UInt64.le_iff_toNat_le, UInt64.toNat_and]
  exact Nat.le_trans Nat.and_le_left h
theorem b32c : FP.Core.b32.qmin = -149 ∧ FP.Core.b32.qmax = 104 ∧ FP.Core.b32.tails = 8388608 ∧ 2 ^ FP.Core.b32.p = 16777216 ∧ FP.Core.b32.p = 24 := by decide +kernel
theorem b64c : FP.Core.b64.qmin = -1074 ∧ FP.Core.b64.qmax = 971 ∧ FP.Core.b64.tails = 4503599627370496 ∧ 2 ^ FP.Core.b64.p = 9007199254740992 ∧ FP.Core.b64.p = 53 := by decide +kernel
theorem enc_n {f : FP.Core.Fmt} {c : Nat} {q : Int} (h : f.tails ≤ c) : FP.Core.encode f (.fin false c q) = ((q - f.qmin).toNat + 1) * f.tails + (c - f.tails) := by
  show (if c < f.tails then _ else FP.Core.assemble f false ((q - f.qmin).toNat + 1) (c - f.tails)) = _
  rw [if_neg (by omega)]
  unfold FP.Core.assemble
  show (0 * f.exps + ((q - f.qmin).toNat + 1)) * f.tails + (c - f.tails) = _
  rw [Nat.zero_mul, Nat.zero_add]
/-- a float from 2^-127 to 2, by its digits and how often it must be doubled -/
def FX (c K : Nat) : UInt32 := FP.Core.of32 (.fin false c (-23 - (K : Int)))
def NF (c : Nat) : Prop := 8388608 ≤ c ∧ c < 16777216
theorem FX_fits {c K : Nat} (h : NF c) (hK : K ≤ 126) : FP.Core.fits FP.Core.b32 (.fin false c (-23 - (K : Int))) := by
  obtain ⟨e1, e2, e3, e4, e5⟩ := b32c
  exact ⟨by rw [e4]; exact h.2, by omega, by omega, Or.inr (by rw [e3]; exact h.1)⟩
theorem FX_val {c K : Nat} (h : NF c) (hK : K ≤ 126) : FP.Core.val32 (FX c K) = .fin false c (-23 - (K : Int)) := FP.Core.val32_of32 (FX_fits h hK)
theorem FX_enc {c K : Nat} (h : NF c) (hK : K ≤ 126) : FP.Core.encode FP.Core.b32 (.fin false c (-23 - (K : Int))) = (127 - K) * 8388608 + (c - 8388608) := by
  obtain ⟨e1, e2, e3, e4, e5⟩ := b32c
  rw [enc_n (by rw [e3]; exact h.1), e1, e3, show (-23 - (K : Int) - -149).toNat + 1 = 127 - K by omega]
theorem FX_nat {c K : Nat} (h : NF c) (hK : K ≤ 126) : (FX c K).toNat = (127 - K) * 8388608 + (c - 8388608) := by
  have h1 := h.1
  have h2 := h.2
  unfold FX FP.Core.of32
  rw [FX_enc h hK, UInt32.toNat_ofNat_of_lt' (by show _ < 4294967296; omega)]
theorem FX_n {c K : Nat} (h : NF c) (hK : K ≤ 126) : vf_n32 (FX c K) := n32_of (by
  have h1 := h.1
  have h2 := h.2
  rw [FX_nat h hK]
  omega)
theorem v_f0 : FP.Core.val32 FP.fconst0 = .fin false 0 FP.Core.b32.qmin := by decide +kernel
theorem v_f1 : FP.Core.val32 FP.fconst1 = .fin false FP.Core.b32.tails (-((FP.Core.b32.p - 1 : Nat) : Int)) := by decide +kernel
theorem v_f2 : FP.Core.val32 FP.fconst2 = .fin false FP.Core.b32.tails (2 - (FP.Core.b32.p : Int)) := by decide +kernel
theorem v_fK : FP.Core.val32 1258291200 = .fin false FP.Core.b32.tails 0 := by decide +kernel
theorem FX_mul {c K : Nat} (h : NF c) (hK : K + 1 ≤ 126) : FP.fmul (FX c (K + 1)) FP.fconst2 = FX c K := by
  obtain ⟨e1, e2, e3, e4, e5⟩ := b32c
  show FP.Core.of32 (FP.Core.round FP.Core.b32 (FP.Core.exactProduct (FP.Core.val32 (FX c (K + 1))) (FP.Core.val32 FP.fconst2))) = _
  rw [FX_val h hK, v_f2, fm_dbl FP.Core.good_b32 (by rw [e3]; exact h.1) (by rw [e4]; exact h.2) (by omega) (by omega)]
  unfold FX
  rw [show -23 - ((K + 1 : Nat) : Int) + 1 = -23 - (K : Int) by omega]
theorem FX_lt1 {c K : Nat} (h : NF c) (hK : K + 1 ≤ 126) : FP.fcmp (FX c (K + 1)) FP.fconst1 = some .lt := by
  obtain ⟨e1, e2, e3, e4, e5⟩ := b32c
  show FP.Core.order (FP.Core.val32 (FX c (K + 1))) (FP.Core.val32 FP.fconst1) = _
  rw [FX_val h hK, v_f1]
  exact fm_lt1 FP.Core.good_b32 (by rw [e4]; exact h.2) (by omega)
theorem FX_ge1 {c : Nat} (h : NF c) : ∃ o, FP.fcmp (FX c 0) FP.fconst1 = some o ∧ o ≠ .lt := by
  obtain ⟨e1, e2, e3, e4, e5⟩ := b32c
  show ∃ o, FP.Core.order (FP.Core.val32 (FX c 0)) (FP.Core.val32 FP.fconst1) = some o ∧ o ≠ .lt
  rw [FX_val h (by omega), v_f1]
  exact fm_ge1 FP.Core.good_b32 (by rw [e3]; exact h.1) (by omega)
theorem FX_gt0 {c K : Nat} (h : NF c) (hK : K ≤ 126) : FP.fcmp (FX c K) FP.fconst0 = some .gt := by
  obtain ⟨e1, e2, e3, e4, e5⟩ := b32c
  show FP.Core.order (FP.Core.val32 (FX c K)) (FP.Core.val32 FP.fconst0) = _
  rw [FX_val h hK, v_f0]
  exact fm_gt0 (by have := h.1; omega) (by omega)
theorem fcmp_self {x : UInt32} {s : Bool} {c : Nat} {q : Int} (h : FP.Core.val32 x = .fin s c q) : FP.fcmp x x = some .eq := by
  show FP.Core.order (FP.Core.val32 x) (FP.Core.val32 x) = _
  rw [h]
  exact congrArg some (Int.compare_eq_eq.mpr rfl)
theorem dcmp_self {x : UInt64} {s : Bool} {c : Nat} {q : Int} (h : FP.Core.val64 x = .fin s c q) : FP.dcmp x x = some .eq := by
  show FP.Core.order (FP.Core.val64 x) (FP.Core.val64 x) = _
  rw [h]
  exact congrArg some (Int.compare_eq_eq.mpr rfl)
theorem n32_fin {n : Nat} {q : Int} (h : FP.Core.fits FP.Core.b32 (.fin false n q)) : vf_n32 (FP.Core.of32 (.fin false n q)) := by
  obtain ⟨e1, e2, e3, e4, e5⟩ := b32c
  obtain ⟨g1, g2, g3, g4⟩ := h
  have hb : FP.Core.encode FP.Core.b32 (.fin false n q) ≤ 2139095039 := by
    by_cases hn : FP.Core.b32.tails ≤ n
    · rw [enc_n hn]
      rw [e3, e1] at *
      rw [e4] at g1
      rw [e2] at g3
      omega
    · show (if n < FP.Core.b32.tails then FP.Core.assemble FP.Core.b32 false 0 n else _) ≤ _
      rw [if_pos (by omega)]
      unfold FP.Core.assemble
      show (0 * _ + 0) * _ + n ≤ _
      rw [Nat.zero_mul, Nat.zero_add, Nat.zero_mul]
      omega
  refine n32_of ?_
  unfold FP.Core.of32
  rw [UInt32.toNat_ofNat_of_lt' (by show _ < 4294967296; omega)]
  omega
theorem n64_fin {n : Nat} {q : Int} (h : FP.Core.fits FP.Core.b64 (.fin false n q)) : vf_n64 (FP.Core.of64 (.fin false n q)) := by
  obtain ⟨e1, e2, e3, e4, e5⟩ := b64c
  obtain ⟨g1, g2, g3, g4⟩ := h
  have hb : FP.Core.encode FP.Core.b64 (.fin false n q) ≤ 9218868437227405311 := by
    by_cases hn : FP.Core.b64.tails ≤ n
    · rw [enc_n hn]
      rw [e3, e1] at *
      rw [e4] at g1
      rw [e2] at g3
      omega
    · show (if n < FP.Core.b64.tails then FP.Core.assemble FP.Core.b64 false 0 n else _) ≤ _
      rw [if_pos (by omega)]
      unfold FP.Core.assemble
      show (0 * _ + 0) * _ + n ≤ _
      rw [Nat.zero_mul, Nat.zero_add, Nat.zero_mul]
      omega
  refine n64_of ?_
  unfold FP.Core.of64
  rw [UInt64.toNat_ofNat_of_lt' (by show _ < 18446744073709551616; omega)]
  omega
theorem toI_v {n : Nat} {q : Int} {m : Nat} (h : FP.Core.truncate false n q = (m : Int)) (hm : m < 8388608) : FP.Core.toI (.fin false n q) = nI m := by
  have e : FP.Core.toInt (-2 ^ 31) (2 ^ 31 - 1) (.fin false n q) = (m : Int) := by
    show max (-2 ^ 31) (min (2 ^ 31 - 1) (FP.Core.truncate false n q)) = _
    rw [h]
    have p1 : (2 : Int) ^ 31 = 2147483648 := by decide +kernel
    rw [p1]
    omega
  unfold FP.Core.toI
  rw [e]
  rfl
theorem toL_v {n : Nat} {q : Int} {m : Nat} (h : FP.Core.truncate false n q = (m : Int)) (hm : m < 4503599627370496) : FP.Core.toL (.fin false n q) = lN m := by
  have e : FP.Core.toInt (-2 ^ 63) (2 ^ 63 - 1) (.fin false n q) = (m : Int) := by
    show max (-2 ^ 63) (min (2 ^ 63 - 1) (FP.Core.truncate false n q)) = _
    rw [h]
    have p1 : (2 : Int) ^ 63 = 9223372036854775808 := by decide +kernel
    rw [p1]
    omega
  unfold FP.Core.toL
  rw [e]
  rfl
/-- the digits behind the leading one -/
theorem FX_fr {c : Nat} (h : NF c) : vf_n32 (FP.fsub (FX c 0) FP.fconst1) ∧ vf_n32 (FP.fmul (FP.fsub (FX c 0) FP.fconst1) 1258291200) ∧ FP.f2i (FP.fmul (FP.fsub (FX c 0) FP.fconst1) 1258291200) = nI (c - 8388608) := by
  obtain ⟨e1, e2, e3, e4, e5⟩ := b32c
  have h1 := h.1
  have h2 := h.2
  obtain ⟨n1, n2, q1, q2, g1, g2, g3⟩ := fm_frac FP.Core.good_b32 (c := c) (by rw [e3]; exact h.1) (by rw [e4]; exact h.2) (by omega) (by omega)
  have f1 : FP.Core.fits FP.Core.b32 (.fin false n1 q1) := g1 ▸ FP.Core.round_fits FP.Core.good_b32 _
  have f2 : FP.Core.fits FP.Core.b32 (.fin false n2 q2) := g2 ▸ FP.Core.round_fits FP.Core.good_b32 _
  have s1 : FP.fsub (FX c 0) FP.fconst1 = FP.Core.of32 (.fin false n1 q1) := by
    show FP.Core.of32 (FP.Core.round FP.Core.b32 (FP.Core.exactSum (FP.Core.val32 (FX c 0)) (FP.Core.negate (FP.Core.val32 FP.fconst1)))) = _
    rw [FX_val h (by omega), v_f1, show (-23 - ((0 : Nat) : Int)) = -((FP.Core.b32.p - 1 : Nat) : Int) by omega, g1]
  have s2 : FP.fmul (FP.fsub (FX c 0) FP.fconst1) 1258291200 = FP.Core.of32 (.fin false n2 q2) := by
    show FP.Core.of32 (FP.Core.round FP.Core.b32 (FP.Core.exactProduct (FP.Core.val32 (FP.fsub (FX c 0) FP.fconst1)) (FP.Core.val32 1258291200))) = _
    rw [s1, FP.Core.val32_of32 f1, v_fK, g2]
  refine ⟨by rw [s1]; exact n32_fin f1, by rw [s2]; exact n32_fin f2, ?_⟩
  rw [s2]
  show FP.Core.toI (FP.Core.val32 (FP.Core.of32 (.fin false n2 q2))) = _
  rw [FP.Core.val32_of32 f2]
  exact toI_v (g3.trans (by rw [e3])) (by omega)
/-- a double, by its digits -/
def DX (c : Nat) (q : Int) : UInt64 := FP.Core.of64 (.fin false c q)
def ND (c : Nat) : Prop := 4503599627370496 ≤ c ∧ c < 9007199254740992
theorem DX_fits {c : Nat} {q : Int} (h : ND c) (h1 : -1074 ≤ q) (h2 : q ≤ 971) : FP.Core.fits FP.Core.b64 (.fin false c q) := by
  obtain ⟨e1, e2, e3, e4, e5⟩ := b64c
  exact ⟨by rw [e4]; exact h.2, by omega, by omega, Or.inr (by rw [e3]; exact h.1)⟩
theorem DX_val {c : Nat} {q : Int} (h : ND c) (h1 : -1074 ≤ q) (h2 : q ≤ 971) : FP.Core.val64 (DX c q) = .fin false c q := FP.Core.val64_of64 (DX_fits h h1 h2)
theorem DX_n {c : Nat} {q : Int} (h : ND c) (h1 : -1074 ≤ q) (h2 : q ≤ 971) : vf_n64 (DX c q) := n64_fin (DX_fits h h1 h2)
theorem DX_enc {c : Nat} {q : Int} (h : ND c) : FP.Core.encode FP.Core.b64 (.fin false c q) = ((q + 1074).toNat + 1) * 4503599627370496 + (c - 4503599627370496) := by
  obtain ⟨e1, e2, e3, e4, e5⟩ := b64c
  rw [enc_n (by rw [e3]; exact h.1), e1, e3, show q - -1074 = q + 1074 by omega]
theorem v_d0 : FP.Core.val64 FP.dconst0 = .fin false 0 FP.Core.b64.qmin := by decide +kernel
theorem v_d1 : FP.Core.val64 FP.dconst1 = .fin false FP.Core.b64.tails (-((FP.Core.b64.p - 1 : Nat) : Int)) := by decide +kernel
theorem v_d2 : FP.Core.val64 4611686018427387904 = .fin false FP.Core.b64.tails (2 - (FP.Core.b64.p : Int)) := by decide +kernel
theorem v_dK : FP.Core.val64 4841369599423283200 = .fin false FP.Core.b64.tails 0 := by decide +kernel
theorem DX_mul {c : Nat} {q : Int} (h : ND c) (h1 : -1074 ≤ q) (h2 : q + 1 ≤ 971) : FP.dmul (DX c q) 4611686018427387904 = DX c (q + 1) := by
  obtain ⟨e1, e2, e3, e4, e5⟩ := b64c
  show FP.Core.of64 (FP.Core.round FP.Core.b64 (FP.Core.exactProduct (FP.Core.val64 (DX c q)) (FP.Core.val64 4611686018427387904))) = _
  rw [DX_val h h1 (by omega), v_d2, fm_dbl FP.Core.good_b64 (by rw [e3]; exact h.1) (by rw [e4]; exact h.2) (by omega) (by omega)]
  rfl
theorem DX_div {c : Nat} {q : Int} (h : ND c) (h1 : -1074 ≤ q) (h2 : q + 1 ≤ 971) : FP.ddiv (DX c (q + 1)) 4611686018427387904 = DX c q := by
  obtain ⟨e1, e2, e3, e4, e5⟩ := b64c
  show FP.Core.of64 (FP.Core.quotient FP.Core.b64 (FP.Core.val64 (DX c (q + 1))) (FP.Core.val64 4611686018427387904)) = _
  rw [DX_val h (by omega) h2, v_d2, fm_half FP.Core.good_b64 (by rw [e3]; exact h.1) (by rw [e4]; exact h.2) (by omega) (by omega)]
  rfl
theorem DX_lt1 {c : Nat} {q : Int} (h : ND c) (h1 : -1074 ≤ q) (h2 : q < -52) : FP.dcmp (DX c q) FP.dconst1 = some .lt := by
  obtain ⟨e1, e2, e3, e4, e5⟩ := b64c
  show FP.Core.order (FP.Core.val64 (DX c q)) (FP.Core.val64 FP.dconst1) = _
  rw [DX_val h h1 (by omega), v_d1]
  exact fm_lt1 FP.Core.good_b64 (by rw [e4]; exact h.2) (by omega)
theorem DX_ge1 {c : Nat} {q : Int} (h : ND c) (h1 : -52 ≤ q) (h2 : q ≤ 971) : ∃ o, FP.dcmp (DX c q) FP.dconst1 = some o ∧ o ≠ .lt := by
  obtain ⟨e1, e2, e3, e4, e5⟩ := b64c
  show ∃ o, FP.Core.order (FP.Core.val64 (DX c q)) (FP.Core.val64 FP.dconst1) = some o ∧ o ≠ .lt
  rw [DX_val h (by omega) h2, v_d1]
  exact fm_ge1 FP.Core.good_b64 (by rw [e3]; exact h.1) (by omega)
theorem DX_lt2 {c : Nat} {q : Int} (h : ND c) (h1 : -1074 ≤ q) (h2 : q ≤ -52) : FP.dcmp (DX c q) 4611686018427387904 = some .lt := by
  obtain ⟨e1, e2, e3, e4, e5⟩ := b64c
  show FP.Core.order (FP.Core.val64 (DX c q)) (FP.Core.val64 4611686018427387904) = _
  rw [DX_val h h1 (by omega), v_d2]
  exact fm_lt2 FP.Core.good_b64 (by rw [e4]; exact h.2) (by omega)
theorem DX_ge2 {c : Nat} {q : Int} (h : ND c) (h1 : -51 ≤ q) (h2 : q ≤ 971) : ∃ o, FP.dcmp (DX c q) 4611686018427387904 = some o ∧ o ≠ .lt := by
  obtain ⟨e1, e2, e3, e4, e5⟩ := b64c
  show ∃ o, FP.Core.order (FP.Core.val64 (DX c q)) (FP.Core.val64 4611686018427387904) = some o ∧ o ≠ .lt
  rw [DX_val h (by omega) h2, v_d2]
  exact fm_ge2 FP.Core.good_b64 (by rw [e3]; exact h.1) (by omega)
theorem DX_gt0 {c : Nat} {q : Int} (h : ND c) (h1 : -1074 ≤ q) (h2 : q ≤ 971) : FP.dcmp (DX c q) FP.dconst0 = some .gt := by
  obtain ⟨e1, e2, e3, e4, e5⟩ := b64c
  show FP.Core.order (FP.Core.val64 (DX c q)) (FP.Core.val64 FP.dconst0) = _
  rw [DX_val h h1 h2, v_d0]
  exact fm_gt0 (by have := h.1; omega) (by omega)
theorem DX_fr {c : Nat} (h : ND c) : vf_n64 (FP.dsub (DX c (-52)) FP.dconst1) ∧ vf_n64 (FP.dmul (FP.dsub (DX c (-52)) FP.dconst1) 4841369599423283200) ∧ FP.d2l (FP.dmul (FP.dsub (DX c (-52)) FP.dconst1) 4841369599423283200) = lN (c - 4503599627370496) := by
  obtain ⟨e1, e2, e3, e4, e5⟩ := b64c
  have h1 := h.1
  have h2 := h.2
  obtain ⟨n1, n2, q1, q2, g1, g2, g3⟩ := fm_frac FP.Core.good_b64 (c := c) (by rw [e3]; exact h.1) (by rw [e4]; exact h.2) (by omega) (by omega)
  have f1 : FP.Core.fits FP.Core.b64 (.fin false n1 q1) := g1 ▸ FP.Core.round_fits FP.Core.good_b64 _
  have f2 : FP.Core.fits FP.Core.b64 (.fin false n2 q2) := g2 ▸ FP.Core.round_fits FP.Core.good_b64 _
  have s1 : FP.dsub (DX c (-52)) FP.dconst1 = FP.Core.of64 (.fin false n1 q1) := by
    show FP.Core.of64 (FP.Core.round FP.Core.b64 (FP.Core.exactSum (FP.Core.val64 (DX c (-52))) (FP.Core.negate (FP.Core.val64 FP.dconst1)))) = _
    rw [DX_val h (by omega) (by omega), v_d1, show (-52 : Int) = -((FP.Core.b64.p - 1 : Nat) : Int) by omega, g1]
  have s2 : FP.dmul (FP.dsub (DX c (-52)) FP.dconst1) 4841369599423283200 = FP.Core.of64 (.fin false n2 q2) := by
    show FP.Core.of64 (FP.Core.round FP.Core.b64 (FP.Core.exactProduct (FP.Core.val64 (FP.dsub (DX c (-52)) FP.dconst1)) (FP.Core.val64 4841369599423283200))) = _
    rw [s1, FP.Core.val64_of64 f1, v_dK, g2]
  refine ⟨by rw [s1]; exact n64_fin f1, by rw [s2]; exact n64_fin f2, ?_⟩
  rw [s2]
  show FP.Core.toL (FP.Core.val64 (FP.Core.of64 (.fin false n2 q2))) = _
  rw [FP.Core.val64_of64 f2]
  exact toL_v (g3.trans (by rw [e3])) (by omega)
theorem lNI {n : Nat} (h : n < 2 ^ 63) : (lN n).toInt = (n : Int) := pk_lT h
theorem l2f_v {n : Nat} (h0 : 0 < n) (h : n < 16777216) : ∃ k : Nat, FP.Core.val32 (FP.l2f (lN n)) = .fin false (n * 2 ^ k) (-(k : Int)) := by
  obtain ⟨e1, e2, e3, e4, e5⟩ := b32c
  obtain ⟨k, hk, g1, -, -⟩ := fm_int FP.Core.good_b32 h0 (by rw [e4]; exact h) false 0 (by omega) (by omega)
  refine ⟨k, ?_⟩
  show FP.Core.val32 (FP.Core.l2f (lN n)) = _
  rw [FP.Core.val32_l2f, lNI (by omega)]
  show FP.Core.roundRatio FP.Core.b32 (decide ((n : Int) < 0)) (n : Int).natAbs 1 0 = _
  rw [decide_eq_false (by omega), Int.natAbs_natCast, g1, Int.zero_sub]
theorem l2d_v {n : Nat} (h0 : 0 < n) (h : n < 9007199254740992) : ∃ k : Nat, FP.Core.val64 (FP.l2d (lN n)) = .fin false (n * 2 ^ k) (-(k : Int)) := by
  obtain ⟨e1, e2, e3, e4, e5⟩ := b64c
  obtain ⟨k, hk, g1, -, -⟩ := fm_int FP.Core.good_b64 h0 (by rw [e4]; exact h) false 0 (by omega) (by omega)
  refine ⟨k, ?_⟩
  show FP.Core.val64 (FP.Core.l2d (lN n)) = _
  rw [FP.Core.val64_l2d, lNI (by omega)]
  show FP.Core.roundRatio FP.Core.b64 (decide ((n : Int) < 0)) (n : Int).natAbs 1 0 = _
  rw [decide_eq_false (by omega), Int.natAbs_natCast, g1, Int.zero_sub]
/-- what a share may be -/
def ShV (x : UInt32) : Prop := x = FP.fconst0 ∨ ∃ c K, NF c ∧ K ≤ 126 ∧ x = FX c K
def CoV (x : UInt64) : Prop := x = FP.dconst0 ∨ ∃ (c : Nat) (q : Int), ND c ∧ -1000 ≤ q ∧ q ≤ 900 ∧ x = DX c q
def shF (d : FDt) : UInt32 := if dA d 0 = 0 then FP.fconst0 else FP.fdiv (FP.l2f (dA d 2)) (FP.l2f (dA d 0))
theorem share_v (h : AcD N d) (hN : N ≤ 511) : ShV (shF d) ∧ (¬ dA d 0 = 0 → vf_n32 (FP.fdiv (FP.l2f (dA d 2)) (FP.l2f (dA d 0)))) := by
  obtain ⟨e1, e2, e3, e4, e5⟩ := b32c
  obtain ⟨s, a, w, c, h1, h2, h3, h4, h5, h6, h7, h8⟩ := h
  have key : ¬ dA d 0 = 0 → ShV (FP.fdiv (FP.l2f (dA d 2)) (FP.l2f (dA d 0))) := fun h0 => by
    have ha : 0 < a := Nat.pos_of_ne_zero fun e => h0 (by rw [h3, e]; rfl)
    obtain ⟨l, hl⟩ := l2f_v ha (by omega)
    by_cases hw : w = 0
    · refine Or.inl ?_
      show FP.Core.of32 (FP.Core.quotient FP.Core.b32 (FP.Core.val32 (FP.l2f (dA d 2))) (FP.Core.val32 (FP.l2f (dA d 0)))) = _
      rw [h3, h4, hl, hw, show FP.Core.val32 (FP.l2f (lN 0)) = .fin false 0 FP.Core.b32.qmin by decide +kernel]
      have p1 : a * 2 ^ l ≠ 0 := Nat.ne_of_gt (Nat.mul_pos ha (Nat.two_pow_pos l))
      show FP.Core.of32 (if a * 2 ^ l = 0 then _ else FP.Core.roundRatio FP.Core.b32 (false != false) 0 (a * 2 ^ l) _) = _
      rw [if_neg p1]
      show FP.Core.of32 (.fin false 0 FP.Core.b32.qmin) = _
      decide +kernel
    · obtain ⟨k, hk⟩ := l2f_v (n := w) (by omega) (by omega)
      obtain ⟨c9, q9, g1, g2, g3, g4, g5⟩ := fm_rr FP.Core.good_b32 (A := w) (B := a) (lo := 24) (hi := 0) (by omega) ha (by omega) (by omega) (by omega) (by omega)
      refine Or.inr ⟨c9, (-23 - q9).toNat, ⟨by rw [← e3]; exact g2, by rw [← e4]; exact g3⟩, by omega, ?_⟩
      show FP.Core.of32 (FP.Core.quotient FP.Core.b32 (FP.Core.val32 (FP.l2f (dA d 2))) (FP.Core.val32 (FP.l2f (dA d 0)))) = _
      rw [h3, h4, hl, hk, fm_quot FP.Core.good_b32 ha, g1]
      unfold FX
      rw [show -23 - (((-23 - q9).toNat : Nat) : Int) = q9 by omega]
  refine ⟨?_, fun h0 => ?_⟩
  · unfold shF
    by_cases h0 : dA d 0 = 0
    · rw [if_pos h0]; exact Or.inl rfl
    · rw [if_neg h0]; exact key h0
  · rcases key h0 with e | ⟨c9, K, g1, g2, e⟩
    · rw [e]; exact n32_of (by decide +kernel)
    · rw [e]; exact FX_n g1 g2
def coD (d : FDt) : UInt64 := FP.ddiv (FP.l2d (dA d 3)) (FP.l2d (dA d 5))
theorem cost_v (h : AcD N d) (hN : N ≤ 511) (h0 : ¬ dA d 5 = 0) : CoV (coD d) ∧ vf_n64 (FP.ddiv (FP.l2d (dA d 3)) (FP.l2d (dA d 5))) := by
  obtain ⟨e1, e2, e3, e4, e5⟩ := b64c
  obtain ⟨s, a, w, c, h1, h2, h3, h4, h5, h6, h7, h8⟩ := h
  have key : CoV (coD d) := by
    have ha : 0 < s := Nat.pos_of_ne_zero fun e => h0 (by rw [h2, e]; rfl)
    obtain ⟨l, hl⟩ := l2d_v ha (by omega)
    by_cases hw : c = 0
    · refine Or.inl ?_
      show FP.Core.of64 (FP.Core.quotient FP.Core.b64 (FP.Core.val64 (FP.l2d (dA d 3))) (FP.Core.val64 (FP.l2d (dA d 5)))) = _
      rw [h2, h5, hl, hw, show FP.Core.val64 (FP.l2d (lN 0)) = .fin false 0 FP.Core.b64.qmin by decide +kernel]
      have p1 : s * 2 ^ l ≠ 0 := Nat.ne_of_gt (Nat.mul_pos ha (Nat.two_pow_pos l))
      show FP.Core.of64 (if s * 2 ^ l = 0 then _ else FP.Core.roundRatio FP.Core.b64 (false != false) 0 (s * 2 ^ l) _) = _
      rw [if_neg p1]
      show FP.Core.of64 (.fin false 0 FP.Core.b64.qmin) = _
      decide +kernel
    · obtain ⟨k, hk⟩ := l2d_v (n := c) (by omega) (by omega)
      obtain ⟨c9, q9, g1, g2, g3, g4, g5⟩ := fm_rr FP.Core.good_b64 (A := c) (B := s) (lo := 10) (hi := 35) (by omega) ha (by omega) (by omega) (by omega) (by omega)
      refine Or.inr ⟨c9, q9, ⟨by rw [← e3]; exact g2, by rw [← e4]; exact g3⟩, by omega, by omega, ?_⟩
      show FP.Core.of64 (FP.Core.quotient FP.Core.b64 (FP.Core.val64 (FP.l2d (dA d 3))) (FP.Core.val64 (FP.l2d (dA d 5)))) = _
      rw [h2, h5, hl, hk, fm_quot FP.Core.good_b64 ha, g1]
      rfl
  refine ⟨key, ?_⟩
  rcases key with e | ⟨c9, q, g1, g2, g3, e⟩
  · show vf_n64 (coD d)
    rw [e]; exact n64_of (by decide +kernel)
  · show vf_n64 (coD d)
    rw [e]; exact DX_n g1 (by omega) (by omega)
end FLOATS
