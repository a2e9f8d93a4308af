section ENTH
variable {Y : Yd} {rm : Room} {μ μ1 : Wd} {o : Oc}
/-- what is said of a method with handlers that is called -/
def YOKH (Y : Yd) (n : Nat) : Prop :=
  Cond.codeWith Y.1 Y.2.1 Y.2.2.1 Y.2.2.2.1 Y.2.2.2.2 ∈ lwa ∧ Cond.initialized Y.1.cls ∈ lwa ∧ (Y.1.cls ≠ "java/lang/invoke/MethodHandle" ∧ Y.1.cls ≠ "java/lang/invoke/VarHandle") ∧ (parseMethodDescriptor Y.1.desc).map (fun d => d.parameters.length) = some n ∧ Y.2.2.2.2 ≠ [] ∧ plainName Y.1.cls = true
theorem hdw_cons (h : Y.2.2.2.2 ≠ []) : hdw Y = Cond.codeWith Y.1 Y.2.1 Y.2.2.1 Y.2.2.2.1 Y.2.2.2.2 := by
  unfold hdw
  split
  · rename_i e; exact absurd e h
  · rfl
theorem Ct.entH {n : Nat} {as : List Value} (hy : YOKH Y n) (hn : (lg_sl as).length ≤ Y.2.2.1) (h : AW Y rm (rm.cells, rm.slots) μ 0 (lv_args 0 as) [] o μ1) : Ct Y rm as μ o μ1 := by
  intro l D cA base ad hst
  obtain ⟨g1, g2, g3, g4, g5, g6⟩ := hy
  refine vx_ofWH (cc := Y.2.1) (maxL := Y.2.2.1) (ret := Y.2.2.2.1) (hh := Y.2.2.2.2) (ws' := lwa) g6 (by rw [hdw_cons g5]) ?_
  intro p e s m args below meth c s₁ B hml hv
  obtain ⟨rfl, hKF, hK, hR, hbase, hok⟩ := hv
  have hts : ∀ w ∈ lwa, w.before ((as.map (tv ad)).toArray) s = true := fun w hw => atoms_spec (ws := hdw Y :: lwa) B.pre w (List.mem_cons_of_mem _ hw)
  have h10 := vx_table (x := Y.1) B (hts _ g1)
  rw [lg_entry_eq]
  have hl := lv_entry (as.map (tv ad)) (n := Y.2.2.1) (by rw [lg_sl_len]; exact hn)
  rw [lv_args_tv] at hl
  refine h p l e s m _ below meth c s.heap [] 0 0 _ D cA base ad (wn μ) ad ⟨B.exec, B.bytes, hml, B.returns, findClass_of_methodNamed B.named, hts, B.notSynchronized, hst, (name_of_methodNamed B.named B.method).1, ?_⟩ ⟨hKF, hK, hR, va_S.rf, hbase, Ext.rfl', Nat.le_refl _, by simp, by simp⟩ (lv_args_ok as 0 hok) okS_nil hl
  rw [h10]
  unfold tableOf
  rw [List.map_map]
  exact List.map_id _
end ENTH
