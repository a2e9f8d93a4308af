section
variable {p : Program} {l : Launch} {e : Env} {R : Room} {s : State} {m : MethodId} {args : Array Value} {below : List Frame} {meth : Method} {c : Code} {H : Heap} {locs : List Loc} {cells slots : Nat}
theorem vx_callVU {T : State} {locs : List Loc} {cells slots : Nat} (X : Stand p l e R s m args below meth c T locs cells slots) (hexec : p.tables.exec = Jvm.exec) {own C owner : String} {index : Nat} {x y : MethodName} {bytes : ByteArray} {maxL : Nat} {ret : Option FieldType}
    (hown : s.vm.findClass own = some m.cls) (hlink : (Cond.methodLink own index x).before args s = true) (hsame : (Cond.sameMethod x.cls owner x.name x.desc).before args s = true)
    (hd0 : va_Decl s ⟨owner, x.name, x.desc⟩) (howner : owner ≠ "java/lang/invoke/MethodHandle" ∧ owner ≠ "java/lang/invoke/VarHandle")
    (hsel : (Cond.selects C x y).before args s = true) (hinst : (Cond.instanceMethod y).before args s = true) (hcode : (Cond.code y bytes maxL ret).before args s = true)
    {W : Nat} {Pre : Pt → Array Value → Prop} {Post : Pt → Array Value → Option Value → Pt → Prop} {PostX : Pt → Array Value → Addr → Pt → Prop} (hK : vx_Back l R p e below s args y 3 W Pre Post PostX)
    {b : Addr} {cellB : Cell} (hcell : T.heap[b]? = some cellB) (hobj : cellB.vm.isStatics = false) (hcls : s.vm.findClass C = some cellB.cls)
    {g : JFrame} (hg : g.method = m) (hsize : g.locals.size = c.maxLocals) {argsL rest : List Value} (hlen : ∀ sig, parseMethodDescriptor x.desc = some sig → argsL.length = sig.parameters.length)
    (hstack : g.stack = argsL.reverse ++ .ref b :: rest) (hW : 2 * g.monitorRoom + (rest.map fun v => v.category).sum ≤ W) (hdg : decode c.code g.pc = .ok (.invokevirtual index, 3))
    (hpre : ∀ vm₁, s.WarmedH vm₁ → Pre ⟨T.setVm vm₁, locs, cells, slots⟩ (Value.ref b :: argsL).toArray) :
    (∃ (v : Option Value) (vm₁ : Vm) (B : Pt), s.WarmedH vm₁ ∧ Stand p l e R s m args below meth c B.U B.locs B.cells B.slots ∧ Post ⟨T.setVm vm₁, locs, cells, slots⟩ (Value.ref b :: argsL).toArray v B ∧
      ∀ target, Steps p.tables e below (B.U.setTop { g with pc := g.pc + 3, stack := v.toList ++ rest }) target → Steps p.tables e below (T.setTop g) target) ∨
    (∃ (q : Addr) (vm₁ : Vm) (B : Pt), s.WarmedH vm₁ ∧ Stand p l e R s m args below meth c B.U B.locs B.cells B.slots ∧ PostX ⟨T.setVm vm₁, locs, cells, slots⟩ (Value.ref b :: argsL).toArray q B ∧
      Steps p.tables e below (T.setTop g) ((B.U.setTop { g with stack := rest }).pushFrame (.throwing q))) := by
  obtain ⟨r0, r, hn, hrm, hstR, hsigR⟩ := hd0
  obtain ⟨cn, ck, r1, hcn, hck, hni, hf, hn1⟩ := Cond.sameMethod_found hsame
  cases hn.symm.trans hn1
  obtain ⟨mk, methM, hnamed, hmethM, -, habM⟩ := Cond.instanceMethod_spec hinst
  obtain ⟨c2, r2, m2, q1, q2, q3, q4, kP, hkP, hkPi⟩ := Cond.selects_spec hsel
  cases hcls.symm.trans q1
  cases hf.symm.trans q2
  cases hnamed.symm.trans q3
  have hselP : selectMethod e.platform s.vm cellB.cls r0 = .method mk := by rw [Launch.admits_selectMethod X.admits]; exact q4
  obtain ⟨vm₁, X₁, hstep₁⟩ := X.invokevirtualUp hexec hown hlink hsame howner hn hrm hstR (a := b) (cell := cellB) hcell
    (fun z h => by rw [h] at hobj; cases hobj) hselP hmethM habM hkP hkPi (g := g) hg (argsL := argsL) (rest := rest) (hlen _ hsigR) hstack hdg
  rcases hK m meth c ⟨T.setVm vm₁, locs, cells, slots⟩ { g with stack := rest } (.invokevirtual index) mk (Value.ref b :: argsL).toArray X₁ hg hsize hdg hW (X₁.named hnamed) (hpre vm₁ X₁.warmed) with ⟨v, B, X', hpost, hsteps⟩ | ⟨q, B, X', hpost, hsteps⟩
  · exact Or.inl ⟨v, vm₁, B, X₁.warmed, X', hpost, fun target h => hstep₁ _ fun acts => by rw [doInvoke_state]; exact hsteps.trans h⟩
  · exact Or.inr ⟨q, vm₁, B, X₁.warmed, X', hpost, hstep₁ _ fun acts => by rw [doInvoke_state]; exact hsteps⟩
theorem vx_runU {x y : MethodName} {bytes cc : ByteArray} {maxL nL mc ms n index : Nat} {ret : Option FieldType} {ws : List Cond} {rm : Room} {Pc : Array Value → State → Prop} {Qc : Array Value → State → Outcome → State → Prop} {XC : String → State → State → Prop} {free : Addr → Prop} {Ts : List Cond} {own C owner : String} {b : Addr} {As rest : List Value} {g : JFrame}
    (S : CallFix p m c cc nL s args Ts own) (hM : vx_Met l y ws rm Pc Qc XC mc ms free) (cw : va_CU R s args own C owner index x y bytes maxL ret ws rm mc ms n) (hp : PreV s H C b Pc As)
    (hg : g.method = m) (hn : As.length = n) (hsize : g.locals.size = nL) (hstack : g.stack = As.reverse ++ .ref b :: rest) (hW : 2 * g.monitorRoom + (rest.map fun v => v.category).sum ≤ 8) (hdg : decode cc g.pc = .ok (.invokevirtual index, 3)) (hf : cells + mc ≤ R.cells ∧ slots + ms ≤ R.slots) :
    vx_Run p l e R s m args below meth c H locs cells slots mc ms g rest (Qc (Value.ref b :: As).toArray) XC free := by
  obtain ⟨hrc, hrs, hfr, hlo, hws, hcw⟩ := cw.back
  have hini := cw.init
  have hK : vx_Back l R p e below s args y 3 8 (PreOf R mc ms Pc) (PostOf Qc mc ms free) (vx_Post XC mc ms free) := vx_back (bytes := bytes) (maxL := maxL) (ret := ret) hM hp.1 hrc hrs hfr hlo hws hcw (fun a' U hW => word_at hW (Or.inl (by first | rfl | simp [Cond.onTables, Cond.keeps, Cond.steady])) hini)
  obtain ⟨hx, hb, hml, ho, -⟩ := S
  obtain ⟨-, ⟨cellB, hcB, hoB, hclB⟩, hPc⟩ := hp
  intro T hT X
  rcases vx_callVU X hx (C := C) (owner := owner) (bytes := bytes) (maxL := maxL) (ret := ret) ho cw.link cw.same cw.decl cw.notMH cw.sel cw.inst cw.code hK (by rw [hT]; exact hcB) hoB hclB hg (hsize.trans hml.symm) (argsL := As) (rest := rest) (fun sig h => hn.trans (cw.len sig h)) hstack hW (by rw [hb]; exact hdg)
    (fun vm₁ hW₁ => ⟨hf.1, hf.2, hPc (T.setVm vm₁) hT hW₁⟩) with ⟨v, vm₁, ⟨U', l2, c2, s2⟩, hW₁, X', ⟨g', mk, t, L, e1, e2, hq, h1, hL, h2, h3⟩, st⟩ | ⟨q, vm₁, ⟨U', l2, c2, s2⟩, hW₁, X', ⟨g', mk, t, L, E, ce, e1, e2, hq, hce, hcv, hcl, h1, hL, h2, h3⟩, st⟩
  · dsimp only [Pt.U, Pt.locs, Pt.cells, Pt.slots] at X' e1 e2 h1 h2 h3 st
    subst h1; subst h2; subst h3
    exact Or.inl ⟨v, (T.setVm vm₁).calling g' mk (Value.ref b :: As).toArray, t, U', L, hT, X', hL, e1, e2, hq, st⟩
  · dsimp only [Pt.U, Pt.locs, Pt.cells, Pt.slots] at X' e1 e2 h1 h2 h3 st hcl
    subst h1; subst h2; subst h3
    exact Or.inr ⟨q, (T.setVm vm₁).calling g' mk (Value.ref b :: As).toArray, t, U', L, E, ce, hT, X', hL, e1, e2, hq, hce, hcv, vx_cls hW₁ hcl, st⟩
end
section
variable {p : Program} {l : Launch} {e : Env} {R : Room} {s : State} {m : MethodId} {args : Array Value} {below : List Frame} {meth : Method} {c : Code} {H : Heap} {locs : List Loc} {cells slots : Nat}
theorem vx_callSU {T : State} {locs : List Loc} {cells slots : Nat} (X : Stand p l e R s m args below meth c T locs cells slots) (hexec : p.tables.exec = Jvm.exec) {own : String} {index : Nat} {y : MethodName} {bytes : ByteArray} {maxL : Nat} {ret : Option FieldType}
    (hown : s.vm.findClass own = some m.cls) (hlink : (Cond.methodLink own index y).before args s = true) (hsame : (Cond.sameMethod y.cls y.cls y.name y.desc).before args s = true) (hsup : (Cond.superclass own y.cls).before args s = true)
    (hinst : (Cond.instanceMethod y).before args s = true) (hcode : (Cond.code y bytes maxL ret).before args s = true) (hno : y.name ≠ "<init>")
    {W : Nat} {Pre : Pt → Array Value → Prop} {Post : Pt → Array Value → Option Value → Pt → Prop} {PostX : Pt → Array Value → Addr → Pt → Prop} (hK : vx_Back l R p e below s args y 3 W Pre Post PostX)
    {b : Addr} {cellB : Cell} {kB : Class} (hcell : T.heap[b]? = some cellB) (hobj : cellB.vm.isStatics = false) (hkB : s.vm.classes[cellB.cls]? = some kB)
    {g : JFrame} (hg : g.method = m) (hsize : g.locals.size = c.maxLocals) {argsL rest : List Value} (hlen : ∀ sig, parseMethodDescriptor y.desc = some sig → argsL.length = sig.parameters.length)
    (hstack : g.stack = argsL.reverse ++ .ref b :: rest) (hW : 2 * g.monitorRoom + (rest.map fun v => v.category).sum ≤ W) (hdg : decode c.code g.pc = .ok (.invokespecial index, 3))
    (hpre : ∀ vm₁, s.WarmedH vm₁ → Pre ⟨T.setVm vm₁, locs, cells, slots⟩ (Value.ref b :: argsL).toArray) :
    (∃ (v : Option Value) (vm₁ : Vm) (B : Pt), s.WarmedH vm₁ ∧ Stand p l e R s m args below meth c B.U B.locs B.cells B.slots ∧ Post ⟨T.setVm vm₁, locs, cells, slots⟩ (Value.ref b :: argsL).toArray v B ∧
      ∀ target, Steps p.tables e below (B.U.setTop { g with pc := g.pc + 3, stack := v.toList ++ rest }) target → Steps p.tables e below (T.setTop g) target) ∨
    (∃ (q : Addr) (vm₁ : Vm) (B : Pt), s.WarmedH vm₁ ∧ Stand p l e R s m args below meth c B.U B.locs B.cells B.slots ∧ PostX ⟨T.setVm vm₁, locs, cells, slots⟩ (Value.ref b :: argsL).toArray q B ∧
      Steps p.tables e below (T.setTop g) ((B.U.setTop { g with stack := rest }).pushFrame (.throwing q))) := by
  obtain ⟨mk, methM, hnamed, hmethM, hstM, habM⟩ := Cond.instanceMethod_spec hinst
  obtain ⟨methM', cM, hmethM', -, -, -, -, -, -, hsigM⟩ := Cond.code_spec hnamed hcode
  cases hmethM.symm.trans hmethM'
  obtain ⟨ps, dk, kp, hps, hdk, hkp, hsuper, -, -, hnid⟩ := Cond.superclass_spec hown hsup
  have hn : s.methodNamed? ⟨y.cls, y.name, y.desc⟩ = some mk := hnamed
  have hpm : ps = mk.cls := Option.some.inj (hps.symm.trans (findClass_of_methodNamed hnamed))
  have hsub : s.vm.isSubclass ps mk.cls = true := by rw [hpm]; simp [Vm.isSubclass, Vm.isSubclassAux]
  obtain ⟨vm₁, X₁, hstep₁⟩ := X.invokespecialUp hexec hown hlink hsame hn hmethM hstM habM hno hdk hnid hps hsuper hsub (a := b) (cell := cellB) hcell
    (fun z h => by rw [h] at hobj; cases hobj) hkB (g := g) hg (argsL := argsL) (rest := rest) (hlen _ hsigM) hstack hdg
  rcases hK m meth c ⟨T.setVm vm₁, locs, cells, slots⟩ { g with stack := rest } (.invokespecial index) mk (Value.ref b :: argsL).toArray X₁ hg hsize hdg hW (X₁.named hnamed) (hpre vm₁ X₁.warmed) with ⟨v, B, X', hpost, hsteps⟩ | ⟨q, B, X', hpost, hsteps⟩
  · exact Or.inl ⟨v, vm₁, B, X₁.warmed, X', hpost, fun target h => hstep₁ _ (by rw [doInvoke_state]; exact hsteps.trans h)⟩
  · exact Or.inr ⟨q, vm₁, B, X₁.warmed, X', hpost, hstep₁ _ (by rw [doInvoke_state]; exact hsteps)⟩
theorem vx_runSU {y : MethodName} {bytes cc : ByteArray} {maxL nL mc ms n index : Nat} {ret : Option FieldType} {ws : List Cond} {rm : Room} {Pc : Array Value → State → Prop} {Qc : Array Value → State → Outcome → State → Prop} {XC : String → State → State → Prop} {free : Addr → Prop} {Ts : List Cond} {own C : String} {cC : ClassId} {b : Addr} {As rest : List Value} {g : JFrame}
    (hat : ClassAt s C cC) (S : CallFix p m c cc nL s args Ts own) (hM : vx_Met l y ws rm Pc Qc XC mc ms free) (cw : va_CS R s args own index y bytes maxL ret ws rm mc ms n) (hp : PreV s H C b Pc As)
    (hg : g.method = m) (hn : As.length = n) (hsize : g.locals.size = nL) (hstack : g.stack = As.reverse ++ .ref b :: rest) (hW : 2 * g.monitorRoom + (rest.map fun v => v.category).sum ≤ 8) (hdg : decode cc g.pc = .ok (.invokespecial index, 3)) (hf : cells + mc ≤ R.cells ∧ slots + ms ≤ R.slots) :
    vx_Run p l e R s m args below meth c H locs cells slots mc ms g rest (Qc (Value.ref b :: As).toArray) XC free := by
  obtain ⟨⟨hrc, hrs, hfr, hlo, hws, hcw⟩, hl1, hl2, hl3, hl4, hini, hcode, hno, hlen⟩ := cw
  have hK : vx_Back l R p e below s args y 3 8 (PreOf R mc ms Pc) (PostOf Qc mc ms free) (vx_Post XC mc ms free) := vx_back (bytes := bytes) (maxL := maxL) (ret := ret) hM hp.1 hrc hrs hfr hlo hws hcw (fun a' U hW => word_at hW (Or.inl (by first | rfl | simp [Cond.onTables, Cond.keeps, Cond.steady])) hini)
  obtain ⟨hx, hb, hml, ho, -⟩ := S
  obtain ⟨-, ⟨cellB, hcB, hoB, hclB⟩, hPc⟩ := hp
  obtain ⟨hfc, kB, hkB, -⟩ := hat
  cases hfc.symm.trans hclB
  intro T hT X
  rcases vx_callSU X hx (bytes := bytes) (maxL := maxL) (ret := ret) ho hl1 hl2 hl3 hl4 hcode hno hK (by rw [hT]; exact hcB) hoB hkB hg (hsize.trans hml.symm) (argsL := As) (rest := rest) (fun sig h => hn.trans (hlen sig h)) hstack hW (by rw [hb]; exact hdg)
    (fun vm₁ hW₁ => ⟨hf.1, hf.2, hPc (T.setVm vm₁) hT hW₁⟩) with ⟨v, vm₁, ⟨U', l2, c2, s2⟩, hW₁, X', ⟨g', mk, t, L, e1, e2, hq, h1, hL, h2, h3⟩, st⟩ | ⟨q, vm₁, ⟨U', l2, c2, s2⟩, hW₁, X', ⟨g', mk, t, L, E, ce, e1, e2, hq, hce, hcv, hcl, h1, hL, h2, h3⟩, st⟩
  · dsimp only [Pt.U, Pt.locs, Pt.cells, Pt.slots] at X' e1 e2 h1 h2 h3 st
    subst h1; subst h2; subst h3
    exact Or.inl ⟨v, (T.setVm vm₁).calling g' mk (Value.ref b :: As).toArray, t, U', L, hT, X', hL, e1, e2, hq, st⟩
  · dsimp only [Pt.U, Pt.locs, Pt.cells, Pt.slots] at X' e1 e2 h1 h2 h3 st hcl
    subst h1; subst h2; subst h3
    exact Or.inr ⟨q, (T.setVm vm₁).calling g' mk (Value.ref b :: As).toArray, t, U', L, E, ce, hT, X', hL, e1, e2, hq, hce, hcv, vx_cls hW₁ hcl, st⟩
end
section SBROW
variable {Y : Yd} {rm : Room} {b : Nat × Nat} {μ μ1 : Wd} {pc : Nat} {la : List (Nat × Value)} {st : List Value} {o : Oc}
theorem a_dup_x1 {v u : Value} (hd : decode Y.2.1 pc = .ok (.dup_x1, 1)) (hv : v.category = 1) (hu : u.category = 1) (k : AW Y rm b μ (pc + 1) la (v :: u :: v :: st) o μ1) : AW Y rm b μ pc la (v :: u :: st) o μ1 := by
  intro p l e s m args below meth c H locs cells slots ls D cA base ad0 n0 ad C E h1 h2 h3
  exact lv_dup_x1 C.1 C.2.1 hd (by rw [tv_cat]; exact hv) (by rw [tv_cat]; exact hu) (k p l e s m args below meth c H locs cells slots ls D cA base ad0 n0 ad C E h1 (okS_cons.mpr ⟨(okS_cons.mp h2).1, okS_cons.mpr ⟨(okS_cons.mp (okS_cons.mp h2).2).1, okS_cons.mpr ⟨(okS_cons.mp h2).1, (okS_cons.mp (okS_cons.mp h2).2).2⟩⟩⟩) h3)
theorem a_ineg {x : Int32} (hd : decode Y.2.1 pc = .ok (.ineg, 1)) (k : AW Y rm b μ (pc + 1) la (.int (-x) :: st) o μ1) : AW Y rm b μ pc la (.int x :: st) o μ1 := by
  intro p l e s m args below meth c H locs cells slots ls D cA base ad0 n0 ad C E h1 h2 h3
  exact lv_ineg C.1 C.2.1 hd (k p l e s m args below meth c H locs cells slots ls D cA base ad0 n0 ad C E h1 (by simpa only [okS_cons, okV_int, okV_long, okV_float, okV_double, okV_null, true_and] using h2) h3)
theorem a_ifnn {x : Nat} {off : Int} {tgt : Nat} (hd : decode Y.2.1 pc = .ok (.ifnonnull off, 3)) (ht : (pc : Int) + off = (tgt : Int)) (k : AW Y rm b μ tgt la st o μ1) : AW Y rm b μ pc la (.ref x :: st) o μ1 := by
  intro p l e s m args below meth c H locs cells slots ls D cA base ad0 n0 ad C E h1 h2 h3
  exact lv_ifnonnull C.1 C.2.1 hd ht (k p l e s m args below meth c H locs cells slots ls D cA base ad0 n0 ad C E h1 (okS_cons.mp h2).2 h3)
/-- a private method is the one that is called, whatever the object's class -/
theorem sel_priv {C : String} {x y z : MethodName} {s : State} {args : Array Value} (hy : y.cls ≠ "java/lang/invoke/MethodHandle" ∧ y.cls ≠ "java/lang/invoke/VarHandle") (hz : z.cls = y.cls) (hsz : (Cond.selects C x z).before args s = true) (hpriv : (Cond.privateMethod y).before args s = true) (hinst : (Cond.instanceMethod y).before args s = true) : (Cond.selects C y y).before args s = true := by
  obtain ⟨mk, methM, hnamed, hmethM, -, -⟩ := Cond.instanceMethod_spec hinst
  have hfound : s.methodFound? y.cls y.name y.desc = some mk := State.methodFound?_of_named hnamed hy
  have hsel : ∀ c, selectMethod {} s.vm c mk = .method mk := fun c => selectMethod_private hmethM (Cond.privateMethod_at hpriv mk methM hnamed hmethM)
  simp only [Cond.before, Cond.holds, Cond.value] at hsz ⊢
  rw [hfound, hnamed]
  cases hc : s.vm.findClass C with
  | none => rw [hc] at hsz; simp at hsz
  | some c =>
    rw [hc] at hsz
    cases hr : s.methodFound? x.cls x.name x.desc with
    | none => rw [hr] at hsz; simp at hsz
    | some r =>
      rw [hr] at hsz
      cases hm : s.methodNamed? z with
      | none => rw [hm] at hsz; simp at hsz
      | some m =>
        rw [hm] at hsz
        have hcls : m.cls = mk.cls := Option.some.inj ((findClass_of_methodNamed hm).symm.trans (by rw [hz]; exact findClass_of_methodNamed hnamed))
        simp only [hsel c]
        simp only at hsz
        cases hq : selectMethod {} s.vm c r with
        | method m' =>
          rw [hq] at hsz
          simp at hsz ⊢
          rw [← hcls]
          exact hsz.2
        | _ => rw [hq] at hsz; simp at hsz
/-- a call of a method of the object a, of whatever class -/
theorem a_invG {Y2 : Yd} {rm2 : Room} {as sk : List Value} {v : Option Value} {μ2 : Wd} {i a ci n : Nat} {C9 : String} {b2 : Nat × Nat}
    (hct : Ct Y2 rm2 (.ref a :: as) μ (.inl v) μ2) (hsk : sk = as.reverse ++ .ref a :: st) (hd : decode Y.2.1 pc = .ok (.invokevirtual i, 3)) (hy : YOK Y2 n) (hin : Cond.instanceMethod Y2.1 ∈ lwa) (hse : ∀ (s : State) (args : Array Value), (∀ w ∈ lwa, w.before args s = true) → KB s → (Cond.selects C9 Y2.1 Y2.1).before args s = true) (hl : Cond.methodLink Y.1.cls i Y2.1 ∈ lwa) (ha : as.length = n) (ho : Ob μ a ci) (hci : ci < 13) (hc : ∀ r, vwCl[ci]? = some r → r.1 = C9) (hR : rm2.frames + 1 ≤ rm.frames ∧ 8 + (Y2.2.2.1 + 11) + rm2.locals ≤ rm.locals) (hb : rm2.cells + b2.1 ≤ b.1 ∧ rm2.slots + b2.2 ≤ b.2) (hst : (st.map fun v => v.category).sum ≤ 8)
    (kk : AW Y rm b2 μ2 (pc + 3) la (v.toList ++ st) o μ1) : AW Y rm b μ pc la sk o μ1 := by
  intro p l e s m args below meth c H locs cells slots ls D cA base ad0 n0 ad C E h1 h2 h3
  have h4 : okS (wn μ) st := by
    rw [hsk] at h2
    exact (okS_cons.mp (okS_app.mp h2).2).2
  refine a_back (A2 := ((Value.ref a :: as).map (tv ad)).toArray) C E h1 h4 h3 hb ?_ kk
  subst hsk
  have hts := C.2.2.2.2.2.1
  have hB := hy.B (Y := Y) (rm := rm) hl hts hR
  have he : (wsO ad cA μ)[a]? = some (ad a, .inr (ci, fvs ad μ a ci)) := by rw [wsO_get ho.1, ent_obj ho.2 hci]
  obtain ⟨r9, hr9⟩ : ∃ r, vwCl[ci]? = some r := by
    rcases hq : vwCl[ci]? with _ | r
    · exact absurd hq (by rw [List.getElem?_eq_none_iff]; show ¬ 13 ≤ ci; omega)
    · exact ⟨r, rfl⟩
  have hrecv := va_recv (D := D) E.2.1 E.2.2.1.1 hr9 he
  rw [hc r9 hr9] at hrecv
  have hok : okS (wn μ) (.ref a :: as) := by
    have h4 := okS_app.mp h2
    exact okS_cons.mpr ⟨(okS_cons.mp h4.2).1, okS_rev.mp h4.1⟩
  refine vx_runV (n := n) (C := C9) (b := ad a) (As := as.map (tv ad)) (rest := st.map (tv ad)) (nL := Y.2.2.1) (own := Y.1.cls) (Ts := lwa) ⟨C.1, C.2.1, C.2.2.1, C.2.2.2.2.1, hts⟩ (hct l D cA base ad C.2.2.2.2.2.2.2.1) ⟨hB, hts _ hin, hse s args hts E.1.2.2.2.1.2.2⟩ ⟨PcO.blind, hrecv, PcO.go E hok⟩ rfl (by rw [List.length_map]; exact ha) h3.1 ?_ ?_ hd ⟨?_, ?_⟩
  · exact rev_tv ad as a st
  · exact lv_room (by rw [cat_tv]; exact hst)
  · have h5 := E.2.2.2.2.2.2.2.1
    have h6 := hb.1
    omega
  · have h5 := E.2.2.2.2.2.2.2.2
    have h6 := hb.2
    omega
/-- a call that names x, and goes to another method -/
theorem a_invO {Y2 : Yd} {rm2 : Room} {as sk : List Value} {v : Option Value} {μ2 : Wd} {i a ci n : Nat} {x : MethodName} {b0 : ByteArray} {m0 : Nat} {r0 : Option FieldType} {C9 : String} {b2 : Nat × Nat}
    (hct : Ct Y2 rm2 (.ref a :: as) μ (.inl v) μ2) (hsk : sk = as.reverse ++ .ref a :: st) (hd : decode Y.2.1 pc = .ok (.invokevirtual i, 3)) (hy : YOK Y2 n) (hin : Cond.instanceMethod Y2.1 ∈ lwa) (hse : Cond.selects C9 x Y2.1 ∈ lwa) (hl : Cond.methodLink Y.1.cls i x ∈ lwa) (hsm : Cond.sameMethod x.cls x.cls x.name x.desc ∈ lwa) (hix : Cond.instanceMethod x ∈ lwa) (h0 : Cond.code x b0 m0 r0 ∈ lwa) (hpd : (x.cls ≠ "java/lang/invoke/MethodHandle" ∧ x.cls ≠ "java/lang/invoke/VarHandle") ∧ (parseMethodDescriptor x.desc).map (fun d => d.parameters.length) = some n) (ha : as.length = n) (ho : Ob μ a ci) (hci : ci < 13) (hc : ∀ r, vwCl[ci]? = some r → r.1 = C9) (hR : rm2.frames + 1 ≤ rm.frames ∧ 8 + (Y2.2.2.1 + 11) + rm2.locals ≤ rm.locals) (hb : rm2.cells + b2.1 ≤ b.1 ∧ rm2.slots + b2.2 ≤ b.2) (hst : (st.map fun v => v.category).sum ≤ 8)
    (kk : AW Y rm b2 μ2 (pc + 3) la (v.toList ++ st) o μ1) : AW Y rm b μ pc la sk o μ1 := by
  intro p l e s m args below meth c H locs cells slots ls D cA base ad0 n0 ad C E h1 h2 h3
  have h4 : okS (wn μ) st := by
    rw [hsk] at h2
    exact (okS_cons.mp (okS_app.mp h2).2).2
  refine a_back (A2 := ((Value.ref a :: as).map (tv ad)).toArray) C E h1 h4 h3 hb ?_ kk
  subst hsk
  have hts := C.2.2.2.2.2.1
  obtain ⟨g1, g2, g3, g4, g5, g6⟩ := hy
  have hB := va_cwO (R := rm) (s := s) (args := args) (own := Y.1.cls) (C := C9) (owner := x.cls) (index := i) (x := x) (y := Y2.1) (bytes := Y2.2.1) (maxL := Y2.2.2.1) (ret := Y2.2.2.2.1) (ws := hdw Y2 :: lwa) (ws' := lwa) (rm := rm2) n hts (lwa_good (fun w hw => by
    rcases List.mem_append.mp hw with hw | hw
    · simp only [List.mem_cons, List.not_mem_nil, or_false] at hw
      rcases hw with rfl | rfl | rfl | rfl | rfl | rfl
      · exact hl
      · exact hsm
      · exact hix
      · exact hse
      · exact hin
      · exact g2
    · rcases List.mem_cons.mp hw with rfl | hw
      · rw [hdw_nil g5]; exact g1
      · exact hw)) (by rw [hdw_nil g5]) rfl rfl h0 ⟨hpd.1.1, hpd.1.2, hpd.2⟩ hR
  have he : (wsO ad cA μ)[a]? = some (ad a, .inr (ci, fvs ad μ a ci)) := by rw [wsO_get ho.1, ent_obj ho.2 hci]
  obtain ⟨r9, hr9⟩ : ∃ r, vwCl[ci]? = some r := by
    rcases hq : vwCl[ci]? with _ | r
    · exact absurd hq (by rw [List.getElem?_eq_none_iff]; show ¬ 13 ≤ ci; omega)
    · exact ⟨r, rfl⟩
  have hrecv := va_recv (D := D) E.2.1 E.2.2.1.1 hr9 he
  rw [hc r9 hr9] at hrecv
  have hok : okS (wn μ) (.ref a :: as) := by
    have h4 := okS_app.mp h2
    exact okS_cons.mpr ⟨(okS_cons.mp h4.2).1, okS_rev.mp h4.1⟩
  refine vx_runU (n := n) (C := C9) (b := ad a) (As := as.map (tv ad)) (rest := st.map (tv ad)) (nL := Y.2.2.1) (own := Y.1.cls) (Ts := lwa) ⟨C.1, C.2.1, C.2.2.1, C.2.2.2.2.1, hts⟩ (hct l D cA base ad C.2.2.2.2.2.2.2.1) hB ⟨PcO.blind, hrecv, PcO.go E hok⟩ rfl (by rw [List.length_map]; exact ha) h3.1 ?_ ?_ hd ⟨?_, ?_⟩
  · exact rev_tv ad as a st
  · exact lv_room (by rw [cat_tv]; exact hst)
  · have h5 := E.2.2.2.2.2.2.2.1
    have h6 := hb.1
    omega
  · have h5 := E.2.2.2.2.2.2.2.2
    have h6 := hb.2
    omega
/-- super.m(..) -/
theorem a_invSup {Y2 : Yd} {rm2 : Room} {as sk : List Value} {v : Option Value} {μ2 : Wd} {i a ci n N : Nat} {C9 : String} {b2 : Nat × Nat}
    (hct : Ct Y2 rm2 (.ref a :: as) μ (.inl v) μ2) (hsk : sk = as.reverse ++ .ref a :: st) (hd : decode Y.2.1 pc = .ok (.invokespecial i, 3)) (hy : YOK Y2 n) (hin : Cond.instanceMethod Y2.1 ∈ lwa) (hl : Cond.methodLink Y.1.cls i Y2.1 ∈ lwa) (hsm : Cond.sameMethod Y2.1.cls Y2.1.cls Y2.1.name Y2.1.desc ∈ lwa) (hsu : Cond.superclass Y.1.cls Y2.1.cls ∈ lwa) (hno : Y2.1.name ≠ "<init>") (hit : Cond.instantiable C9 N ∈ lwa) (ha : as.length = n) (ho : Ob μ a ci) (hci : ci < 13) (hc : ∀ r, vwCl[ci]? = some r → r.1 = C9) (hR : rm2.frames + 1 ≤ rm.frames ∧ 8 + (Y2.2.2.1 + 11) + rm2.locals ≤ rm.locals) (hb : rm2.cells + b2.1 ≤ b.1 ∧ rm2.slots + b2.2 ≤ b.2) (hst : (st.map fun v => v.category).sum ≤ 8)
    (kk : AW Y rm b2 μ2 (pc + 3) la (v.toList ++ st) o μ1) : AW Y rm b μ pc la sk o μ1 := by
  intro p l e s m args below meth c H locs cells slots ls D cA base ad0 n0 ad C E h1 h2 h3
  have h4 : okS (wn μ) st := by
    rw [hsk] at h2
    exact (okS_cons.mp (okS_app.mp h2).2).2
  refine a_back (A2 := ((Value.ref a :: as).map (tv ad)).toArray) C E h1 h4 h3 hb ?_ kk
  subst hsk
  have hts := C.2.2.2.2.2.1
  obtain ⟨g1, g2, g3, g4, g5, g6⟩ := hy
  have hB := va_cwSU (R := rm) (s := s) (args := args) (own := Y.1.cls) (index := i) (y := Y2.1) (bytes := Y2.2.1) (maxL := Y2.2.2.1) (ret := Y2.2.2.2.1) (ws := hdw Y2 :: lwa) (ws' := lwa) (rm := rm2) n hts (lwa_good (fun w hw => by
    rcases List.mem_append.mp hw with hw | hw
    · simp only [List.mem_cons, List.not_mem_nil, or_false] at hw
      rcases hw with rfl | rfl | rfl | rfl | rfl
      · exact hl
      · exact hsm
      · exact hsu
      · exact hin
      · exact g2
    · rcases List.mem_cons.mp hw with rfl | hw
      · rw [hdw_nil g5]; exact g1
      · exact hw)) (by rw [hdw_nil g5]) rfl rfl ⟨hno, g4⟩ hR
  obtain ⟨cC, hcC⟩ := classAt_of (hts _ hit)
  have he : (wsO ad cA μ)[a]? = some (ad a, .inr (ci, fvs ad μ a ci)) := by rw [wsO_get ho.1, ent_obj ho.2 hci]
  obtain ⟨r9, hr9⟩ : ∃ r, vwCl[ci]? = some r := by
    rcases hq : vwCl[ci]? with _ | r
    · exact absurd hq (by rw [List.getElem?_eq_none_iff]; show ¬ 13 ≤ ci; omega)
    · exact ⟨r, rfl⟩
  have hrecv := va_recv (D := D) E.2.1 E.2.2.1.1 hr9 he
  rw [hc r9 hr9] at hrecv
  have hok : okS (wn μ) (.ref a :: as) := by
    have h4 := okS_app.mp h2
    exact okS_cons.mpr ⟨(okS_cons.mp h4.2).1, okS_rev.mp h4.1⟩
  refine vx_runSU (n := n) (C := C9) (b := ad a) (As := as.map (tv ad)) (rest := st.map (tv ad)) (nL := Y.2.2.1) (own := Y.1.cls) (Ts := lwa) hcC ⟨C.1, C.2.1, C.2.2.1, C.2.2.2.2.1, hts⟩ (hct l D cA base ad C.2.2.2.2.2.2.2.1) hB ⟨PcO.blind, hrecv, PcO.go E hok⟩ rfl (by rw [List.length_map]; exact ha) h3.1 ?_ ?_ hd ⟨?_, ?_⟩
  · exact rev_tv ad as a st
  · exact lv_room (by rw [cat_tv]; exact hst)
  · have h5 := E.2.2.2.2.2.2.2.1
    have h6 := hb.1
    omega
  · have h5 := E.2.2.2.2.2.2.2.2
    have h6 := hb.2
    omega
theorem fl_DO : Cond.fieldLink RJ6 83 "java/lang/Integer" "DigitOnes" "[B" ∈ lwa := lwa_in 1239 (by decide +kernel) rfl
theorem fl_DT : Cond.fieldLink RJ6 87 "java/lang/Integer" "DigitTens" "[B" ∈ lwa := lwa_in 1241 (by decide +kernel) rfl
theorem fl_CS5 : Cond.fieldLink RJ5 18 "java/lang/String" "COMPACT_STRINGS" "Z" ∈ lwa := lwa_in 1177 (by decide +kernel) rfl
theorem a_gsCS5 (hY : Y.1.cls = RJ5) (hd : decode Y.2.1 pc = .ok (.getstatic 18, 3)) (kk : AW Y rm b μ (pc + 3) la (.int 1 :: st) o μ1) : AW Y rm b μ pc la st o μ1 := by
  intro p l e s m args below meth c H locs cells slots ls D cA base ad0 n0 ad C E h1 h2 h3
  have hts := C.2.2.2.2.2.1
  have hown := C.2.2.2.2.1
  rw [hY] at hown
  exact va_gets C.1 C.2.1 E.1.2.2.1 E.2.2.2.1 hown (hts _ fl_CS5) (fun _ h => h) hd (kk p l e s m args below meth c H locs cells slots ls D cA base ad0 n0 ad C E h1 (okS_cons.mpr ⟨trivial, h2⟩) h3)
theorem a_gsDO (hY : Y.1.cls = RJ6) (hd : decode Y.2.1 pc = .ok (.getstatic 83, 3)) (kk : AW Y rm b μ (pc + 3) la (.ref 1700002 :: st) o μ1) : AW Y rm b μ pc la st o μ1 := by
  intro p l e s m args below meth c H locs cells slots ls D cA base ad0 n0 ad C E h1 h2 h3
  have hts := C.2.2.2.2.2.1
  have hown := C.2.2.2.2.1
  rw [hY] at hown
  exact va_gets C.1 C.2.1 (E.1.2.2.2.1.2.1 1 (by decide)).1 E.2.2.2.1 hown (hts _ fl_DO) (fun _ h => h) hd (kk p l e s m args below meth c H locs cells slots ls D cA base ad0 n0 ad C E h1 (okS_cons.mpr ⟨Or.inr (by decide), h2⟩) h3)
theorem a_gsDT (hY : Y.1.cls = RJ6) (hd : decode Y.2.1 pc = .ok (.getstatic 87, 3)) (kk : AW Y rm b μ (pc + 3) la (.ref 1700001 :: st) o μ1) : AW Y rm b μ pc la st o μ1 := by
  intro p l e s m args below meth c H locs cells slots ls D cA base ad0 n0 ad C E h1 h2 h3
  have hts := C.2.2.2.2.2.1
  have hown := C.2.2.2.2.1
  rw [hY] at hown
  exact va_gets C.1 C.2.1 (E.1.2.2.2.1.2.1 0 (by decide)).1 E.2.2.2.1 hown (hts _ fl_DT) (fun _ h => h) hd (kk p l e s m args below meth c H locs cells slots ls D cA base ad0 n0 ad C E h1 (okS_cons.mpr ⟨Or.inr (by decide), h2⟩) h3)
/-- a digit out of the JDK's tables -/
theorem a_dgld {t j : Nat} (ht : t < 2) (hj : j < 100) (hd : decode Y.2.1 pc = .ok (.baload, 1)) (kk : AW Y rm b μ (pc + 1) la (.int (nI (dgB t j)) :: st) o μ1) : AW Y rm b μ pc la (.int (nI j) :: .ref (1700001 + t) :: st) o μ1 := by
  intro p l e s m args below meth c H locs cells slots ls D cA base ad0 n0 ad C E h1 h2 h3
  have hc : (nI j).toNatClampNeg = j := nI_clamp (by omega)
  exact va_tb C.1 C.2.1 (E.1.2.2.2.1.2.1 t ht).2 E.2.2.2.1 (i := nI j) (nI_in hj (by decide)) (by rw [hc]; rfl) hd (kk p l e s m args below meth c H locs cells slots ls D cA base ad0 n0 ad C E h1 (okS_cons.mpr ⟨trivial, (okS_cons.mp (okS_cons.mp h2).2).2⟩) h3)
/-- n bytes put from dp on -/
def cpY (μ : Wd) (f : Nat → Int32) (c9 dp n : Nat) : Wd := sIs μ (fun i k => if i = c9 ∧ dp ≤ k ∧ k < dp + n then f (k - dp) else gI μ i k)
theorem gI_cpY (μ : Wd) (f : Nat → Int32) (c9 dp n i k : Nat) : gI (cpY μ f c9 dp n) i k = if i = c9 ∧ dp ≤ k ∧ k < dp + n then f (k - dp) else gI μ i k := rfl
theorem gR_cpY (μ : Wd) (f : Nat → Int32) (c9 dp n i k : Nat) : gR (cpY μ f c9 dp n) i k = gR μ i k := rfl
theorem gL_cpY (μ : Wd) (f : Nat → Int32) (c9 dp n i k : Nat) : gL (cpY μ f c9 dp n) i k = gL μ i k := rfl
theorem fit_b {x : Nat} (h : x < 128) : fits .byte (.int (nI x)) = true := by
  have q : ∀ x, x < 128 → fits .byte (.int (nI x)) = true := by decide +kernel
  exact q x h
theorem wsO_cpY {ad : Nat → Nat} {cA : Nat → ClassId} {f : Nat → Int32} {c9 n n1 dp : Nat} (ho1 : Ar μ c9 22 n1) : wsO ad cA (cpY μ f c9 dp n) = (wsO ad cA μ).set c9 (ad c9, .inl (cA 22, n1, .inl (va_cpy f (gI μ c9) 0 dp n))) := by
  have ho2 : Ar (cpY μ f c9 dp n) c9 22 n1 := ho1
  have e1 : (wsO ad cA (cpY μ f c9 dp n))[c9]? = some (ad c9, .inl (cA 22, n1, .inl (gI (cpY μ f c9 dp n) c9))) := by
    rw [wsO_get ho2.1, ent_arr ho2.2.1 (by omega) ho2.2.2]
    unfold ec
    rw [ho2.2.1]
    rfl
  rw [wsO_get (show c9 < wn (cpY μ f c9 dp n) from ho2.1)] at e1
  refine (wsO_set (μ := μ) (μ' := cpY μ f c9 dp n) (a := c9) rfl (fun k9 hk9 => ?_)).trans (by
    rw [Option.some.inj e1]
    refine congrArg (fun z => (wsO ad cA μ).set c9 (ad c9, .inl (cA 22, n1, z))) ?_
    refine congrArg Sum.inl (funext fun k9 => ?_)
    simp [gI_cpY, va_cpy])
  unfold ent fvs
  rw [show km (cpY μ f c9 dp n) k9 = km μ k9 from rfl]
  have hfv : fv ad (cpY μ f c9 dp n) k9 (km μ k9) = fv ad μ k9 (km μ k9) := funext fun z => by
    simp only [fv, gI_cpY, gL_cpY, gR_cpY]
    simp [hk9]
  have hec : ec ad (cpY μ f c9 dp n) k9 = ec ad μ k9 := by
    unfold ec
    rw [show km (cpY μ f c9 dp n) k9 = km μ k9 from rfl]
    have q1 : gI (cpY μ f c9 dp n) k9 = gI μ k9 := funext fun z => by rw [gI_cpY]; simp [hk9]
    have q2 : gL (cpY μ f c9 dp n) k9 = gL μ k9 := funext fun z => rfl
    have q3 : gR (cpY μ f c9 dp n) k9 = gR μ k9 := funext fun z => rfl
    simp only [q1, q2, q3]
  rw [hfv, hec]
  rfl
/-- System.arraycopy of bytes -/
theorem a_copyB {i a c9 n n0 n1 dp : Nat} (hd : decode Y.2.1 pc = .ok (.invokestatic i, 3)) (hl : Cond.methodLink Y.1.cls i arraycopyName ∈ lwa) (ho : Ar μ a 22 n0) (ho1 : Ar μ c9 22 n1) (hn0 : n ≤ n0) (hn1 : dp + n ≤ n1) (hn : n1 < 4096) (hx : ∀ j, j < n → ∃ x, x < 128 ∧ gI μ a j = nI x) (hf : 1 ≤ rm.frames) (hr : 60 ≤ rm.locals) (hst : (st.map fun v => v.category).sum ≤ 8) (kk : AW Y rm b (cpY μ (gI μ a) c9 dp n) (pc + 3) la st o μ1) : AW Y rm b μ pc la (.int (nI n) :: .int (nI dp) :: .ref c9 :: .int 0 :: .ref a :: st) o μ1 := by
  intro p l e s m args below meth c H locs cells slots ls D cA base ad0 n0_ ad C E h1 h2 h3
  have hts := C.2.2.2.2.2.1
  have he : ∀ (a9 n9 : Nat), Ar μ a9 22 n9 → (wsO ad cA μ)[a9]? = some (ad a9, .inl (cA 22, n9, .inl (gI μ a9))) := fun a9 n9 h => by
    rw [wsO_get h.1, ent_arr h.2.1 (by omega) h.2.2]
    unfold ec
    rw [h.2.1]
    rfl
  have hc : (nI n).toNatClampNeg = n := nI_clamp (by omega)
  have hcd : (nI dp).toNatClampNeg = dp := nI_clamp (by omega)
  have h0 : (0 : Int32).toNatClampNeg = 0 := by decide
  refine va_copyi (D := D) C.1 C.2.1 (C.2.2.1.trans h3.1.symm) C.2.2.2.2.1 (hts _ hl) (hts _ ac_nat) (hts _ ac_st) (hts _ ac_ini) E.2.1 E.2.2.1.1 E.2.2.1.2.1 E.2.2.2.1 a c9 (22 - 20) (22 - 20) (he a n0 ho) (he c9 n1 ho1) (tyL_get cA (t := 22) (by omega) (by omega)) (tyL_get cA (t := 22) (by omega) (by omega)) rfl (by decide) (nI_pos (by omega)) (nI_pos (by omega)) (by rw [hc, h0]; omega) (by rw [hc, hcd]; omega) (fun j hj => by
    rw [hc] at hj
    rw [h0, Nat.zero_add]
    obtain ⟨x, q1, q2⟩ := hx j hj
    rw [q2]
    exact fit_b q1) hf (by rw [cat_tv]; exact Nat.le_trans (Nat.add_le_add_right hst _) (Nat.le_trans (Nat.le_of_ble_eq_true rfl) hr)) hd (fun H1 locs1 hP hD hS => ?_)
  rw [h0, hc, hcd] at hP hD
  have hP : va_P D vwCl (wsO ad cA (cpY μ (gI μ a) c9 dp n)) H1 := by rw [wsO_cpY ho1]; exact hP
  have hD : va_D (fun q => base ≤ q) (wsO ad cA (cpY μ (gI μ a) c9 dp n)) := by rw [wsO_cpY ho1]; exact hD
  exact kk p l e s m args below meth c H1 locs1 cells slots ls D cA base ad0 n0_ ad C (E.wd hP hD hS rfl E.2.2.1.2.2.1 rfl (fun q => scr_kept E.2.2.2.2.1 E.2.2.2.1 hS q)) h1 (by simp only [okS_cons] at h2; exact h2.2.2.2.2.2) h3
/-- the same, out of a constant's bytes -/
theorem a_copyBK {i c9 kc n1 dp : Nat} {q : String × Nat × String} (hq : kst[kc]? = some q) (hd : decode Y.2.1 pc = .ok (.invokestatic i, 3)) (hl : Cond.methodLink Y.1.cls i arraycopyName ∈ lwa) (ho1 : Ar μ c9 22 n1) (hn1 : dp + (kby kc).length ≤ n1) (hn : n1 < 4096) (hx : ∀ x ∈ kby kc, x < 128) (hf : 1 ≤ rm.frames) (hr : 60 ≤ rm.locals) (hst : (st.map fun v => v.category).sum ≤ 8) (kk : AW Y rm b (cpY μ (fun j => nI ((kby kc).getD j 0)) c9 dp (kby kc).length) (pc + 3) la st o μ1) : AW Y rm b μ pc la (.int (nI (kby kc).length) :: .int (nI dp) :: .ref c9 :: .int 0 :: .ref (1500000 + kc) :: st) o μ1 := by
  intro p l e s m args below meth c H locs cells slots ls D cA base ad0 n0_ ad C E h1 h2 h3
  have hts := C.2.2.2.2.2.1
  have he : ∀ (a9 n9 : Nat), Ar μ a9 22 n9 → (wsO ad cA μ)[a9]? = some (ad a9, .inl (cA 22, n9, .inl (gI μ a9))) := fun a9 n9 h => by
    rw [wsO_get h.1, ent_arr h.2.1 (by omega) h.2.2]
    unfold ec
    rw [h.2.1]
    rfl
  have hc : (nI (kby kc).length).toNatClampNeg = (kby kc).length := nI_clamp (by omega)
  have hcd : (nI dp).toNatClampNeg = dp := nI_clamp (by omega)
  have h0 : (0 : Int32).toNatClampNeg = 0 := by decide
  refine vk_copyt (D := D) C.1 C.2.1 (C.2.2.1.trans h3.1.symm) C.2.2.2.2.1 (hts _ hl) (hts _ ac_nat) (hts _ ac_st) (hts _ ac_ini) E.2.1 E.2.2.1.1 E.2.2.1.2.1 E.2.2.2.1 (E.1.2.2.2.2.2.1 kc q hq).2.2.2.2 c9 (22 - 20) (he c9 n1 ho1) (tyL_get cA (t := 22) (by omega) (by omega)) (by decide) (nI_pos (by omega)) (nI_pos (by omega)) (by rw [hc, h0]; omega) (by rw [hc, hcd]; omega) (fun j hj => by
    rw [hc] at hj
    rw [h0, Nat.zero_add]
    exact fit_b (hx _ (getD_mem _ _ hj))) hf (by rw [cat_tv]; exact Nat.le_trans (Nat.add_le_add_right hst _) (Nat.le_trans (Nat.le_of_ble_eq_true rfl) hr)) hd (fun H1 locs1 hP hD hS => ?_)
  rw [h0, hc, hcd] at hP hD
  have hP : va_P D vwCl (wsO ad cA (cpY μ (fun j => nI ((kby kc).getD j 0)) c9 dp (kby kc).length)) H1 := by rw [wsO_cpY ho1]; exact hP
  have hD : va_D (fun q => base ≤ q) (wsO ad cA (cpY μ (fun j => nI ((kby kc).getD j 0)) c9 dp (kby kc).length)) := by rw [wsO_cpY ho1]; exact hD
  exact kk p l e s m args below meth c H1 locs1 cells slots ls D cA base ad0 n0_ ad C (E.wd hP hD hS rfl E.2.2.1.2.2.1 rfl (fun q => scr_kept E.2.2.2.2.1 E.2.2.2.1 hS q)) h1 (by simp only [okS_cons] at h2; exact h2.2.2.2.2.2) h3
end SBROW
