/-! THE WORLD: cells by their numbers in the order in which they are made; ints, longs and references by cell and place -/
/-- how many cells; ints; longs; references (numbers of cells); lengths of the late arrays; the script -/
abbrev Wd : Type := Nat × (Nat → Nat → Int32) × (Nat → Nat → Int64) × (Nat → Nat → Option Nat) × (Nat → Nat) × (Nat × (Nat → Int32))
def wn (μ : Wd) : Nat := μ.1
def gI (μ : Wd) (i k : Nat) : Int32 := μ.2.1 i k
def gL (μ : Wd) (i k : Nat) : Int64 := μ.2.2.1 i k
def gR (μ : Wd) (i k : Nat) : Option Nat := μ.2.2.2.1 i k
def gN (μ : Wd) (i : Nat) : Nat := μ.2.2.2.2.1 i
def gX (μ : Wd) : Nat × (Nat → Int32) := μ.2.2.2.2.2
def up2 {α : Type} (f : Nat → Nat → α) (i k : Nat) (v : α) : Nat → Nat → α := fun a b => if a = i ∧ b = k then v else f a b
def sI (μ : Wd) (i k : Nat) (v : Int32) : Wd := (μ.1, up2 μ.2.1 i k v, μ.2.2)
def sL (μ : Wd) (i k : Nat) (v : Int64) : Wd := (μ.1, μ.2.1, up2 μ.2.2.1 i k v, μ.2.2.2)
def sR (μ : Wd) (i k : Nat) (v : Option Nat) : Wd := (μ.1, μ.2.1, μ.2.2.1, up2 μ.2.2.2.1 i k v, μ.2.2.2.2)
/-- the ints as a whole replaced -/
def sIs (μ : Wd) (f : Nat → Nat → Int32) : Wd := (μ.1, f, μ.2.2)
def sLs (μ : Wd) (f : Nat → Nat → Int64) : Wd := (μ.1, μ.2.1, f, μ.2.2.2)
/-- one more cell: zeros and nulls -/
def mk (μ : Wd) (len : Nat) : Wd := (μ.1 + 1, (fun a b => if a = μ.1 then 0 else μ.2.1 a b), (fun a b => if a = μ.1 then 0 else μ.2.2.1 a b), (fun a b => if a = μ.1 then none else μ.2.2.2.1 a b), (fun a => if a = μ.1 then len else μ.2.2.2.2.1 a), μ.2.2.2.2.2)
theorem up2_eq {α : Type} (f : Nat → Nat → α) (i k : Nat) (v : α) : up2 f i k v i k = v := if_pos ⟨rfl, rfl⟩
theorem up2_ne {α : Type} {f : Nat → Nat → α} {i k a b : Nat} {v : α} (h : ¬ (a = i ∧ b = k)) : up2 f i k v a b = f a b := if_neg h
theorem wn_sI (μ : Wd) (i k : Nat) (v : Int32) : wn (sI μ i k v) = wn μ := rfl
theorem wn_sL (μ : Wd) (i k : Nat) (v : Int64) : wn (sL μ i k v) = wn μ := rfl
theorem wn_sR (μ : Wd) (i k : Nat) (v : Option Nat) : wn (sR μ i k v) = wn μ := rfl
theorem wn_sIs (μ : Wd) (f : Nat → Nat → Int32) : wn (sIs μ f) = wn μ := rfl
theorem wn_sLs (μ : Wd) (f : Nat → Nat → Int64) : wn (sLs μ f) = wn μ := rfl
theorem wn_mk (μ : Wd) (n : Nat) : wn (mk μ n) = wn μ + 1 := rfl
theorem gI_sI (μ : Wd) (i k : Nat) (v : Int32) (a b : Nat) : gI (sI μ i k v) a b = if a = i ∧ b = k then v else gI μ a b := rfl
theorem gL_sI (μ : Wd) (i k : Nat) (v : Int32) (a b : Nat) : gL (sI μ i k v) a b = gL μ a b := rfl
theorem gR_sI (μ : Wd) (i k : Nat) (v : Int32) (a b : Nat) : gR (sI μ i k v) a b = gR μ a b := rfl
theorem gI_sL (μ : Wd) (i k : Nat) (v : Int64) (a b : Nat) : gI (sL μ i k v) a b = gI μ a b := rfl
theorem gL_sL (μ : Wd) (i k : Nat) (v : Int64) (a b : Nat) : gL (sL μ i k v) a b = if a = i ∧ b = k then v else gL μ a b := rfl
theorem gR_sL (μ : Wd) (i k : Nat) (v : Int64) (a b : Nat) : gR (sL μ i k v) a b = gR μ a b := rfl
theorem gI_sR (μ : Wd) (i k : Nat) (v : Option Nat) (a b : Nat) : gI (sR μ i k v) a b = gI μ a b := rfl
theorem gL_sR (μ : Wd) (i k : Nat) (v : Option Nat) (a b : Nat) : gL (sR μ i k v) a b = gL μ a b := rfl
theorem gR_sR (μ : Wd) (i k : Nat) (v : Option Nat) (a b : Nat) : gR (sR μ i k v) a b = if a = i ∧ b = k then v else gR μ a b := rfl
theorem gI_sIs (μ : Wd) (f : Nat → Nat → Int32) (a b : Nat) : gI (sIs μ f) a b = f a b := rfl
theorem gL_sIs (μ : Wd) (f : Nat → Nat → Int32) (a b : Nat) : gL (sIs μ f) a b = gL μ a b := rfl
theorem gR_sIs (μ : Wd) (f : Nat → Nat → Int32) (a b : Nat) : gR (sIs μ f) a b = gR μ a b := rfl
theorem gI_sLs (μ : Wd) (f : Nat → Nat → Int64) (a b : Nat) : gI (sLs μ f) a b = gI μ a b := rfl
theorem gL_sLs (μ : Wd) (f : Nat → Nat → Int64) (a b : Nat) : gL (sLs μ f) a b = f a b := rfl
theorem gR_sLs (μ : Wd) (f : Nat → Nat → Int64) (a b : Nat) : gR (sLs μ f) a b = gR μ a b := rfl
theorem sI_sIs (μ : Wd) (f : Nat → Nat → Int32) (i k : Nat) (v : Int32) : sI (sIs μ f) i k v = sIs μ (up2 f i k v) := rfl
theorem sL_sLs (μ : Wd) (f : Nat → Nat → Int64) (i k : Nat) (v : Int64) : sL (sLs μ f) i k v = sLs μ (up2 f i k v) := rfl
/-- how many cells there are when all are made -/
abbrev N0 : Nat := 339
def ktL : List Nat := [11, 22, 22, 8, 25, 1, 1, 1, 1, 26, 6, 6, 6, 6, 6, 6, 6, 6, 6, 6, 6, 6, 20, 20, 2, 20, 20, 20, 28, 20, 20, 20, 20, 20, 20, 20, 20, 20, 20, 20, 21, 2, 20, 20, 20, 28, 20, 20, 20, 20, 20, 20, 20, 20, 20, 20, 20, 21, 8, 25, 1, 1, 1, 1, 26, 6, 6, 6, 6, 6, 6, 6, 6, 6, 6, 6, 6, 20, 20, 3, 10, 22, 4, 27, 2, 20, 20, 20, 28, 20, 20, 20, 20, 20, 20, 20, 20, 20, 20, 20, 21, 2, 20, 20, 20, 28, 20, 20, 20, 20, 20, 20, 20, 20, 20, 20, 20, 21, 2, 20, 20, 20, 28, 20, 20, 20, 20, 20, 20, 20, 20, 20, 20, 20, 21, 2, 20, 20, 20, 28, 20, 20, 20, 20, 20, 20, 20, 20, 20, 20, 20, 21, 2, 20, 20, 20, 28, 20, 20, 20, 20, 20, 20, 20, 20, 20, 20, 20, 21, 2, 20, 20, 20, 28, 20, 20, 20, 20, 20, 20, 20, 20, 20, 20, 20, 21, 2, 20, 20, 20, 28, 20, 20, 20, 20, 20, 20, 20, 20, 20, 20, 20, 21, 2, 20, 20, 20, 28, 20, 20, 20, 20, 20, 20, 20, 20, 20, 20, 20, 21, 2, 20, 20, 20, 28, 20, 20, 20, 20, 20, 20, 20, 20, 20, 20, 20, 21, 2, 20, 20, 20, 28, 20, 20, 20, 20, 20, 20, 20, 20, 20, 20, 20, 21, 2, 20, 20, 20, 28, 20, 20, 20, 20, 20, 20, 20, 20, 20, 20, 20, 21, 2, 20, 20, 20, 28, 20, 20, 20, 20, 20, 20, 20, 20, 20, 20, 20, 21, 27, 2, 20, 20, 20, 28, 20, 20, 20, 20, 20, 20, 20, 20, 20, 20, 20, 21, 2, 20, 20, 20, 28, 20, 20, 20, 20, 20, 20, 20, 20, 20, 20, 20, 21, 23, 7, 20, 20, 5, 20, 20, 20, 20, 20, 20, 9, 20, 20, 20, 20]
def klL : List Nat := [0, 900, 120, 0, 4, 0, 0, 0, 0, 12, 0, 0, 0, 0, 0, 0, 0, 0, 0, 0, 0, 0, 8, 8, 0, 40, 40, 40, 8, 12, 12, 12, 12, 12, 12, 12, 12, 6, 6, 6, 6, 0, 40, 40, 40, 8, 12, 12, 12, 12, 12, 12, 12, 12, 6, 6, 6, 6, 0, 4, 0, 0, 0, 0, 12, 0, 0, 0, 0, 0, 0, 0, 0, 0, 0, 0, 0, 8, 8, 0, 0, 0, 0, 12, 0, 40, 40, 40, 8, 12, 12, 12, 12, 12, 12, 12, 12, 6, 6, 6, 6, 0, 40, 40, 40, 8, 12, 12, 12, 12, 12, 12, 12, 12, 6, 6, 6, 6, 0, 40, 40, 40, 8, 12, 12, 12, 12, 12, 12, 12, 12, 6, 6, 6, 6, 0, 40, 40, 40, 8, 12, 12, 12, 12, 12, 12, 12, 12, 6, 6, 6, 6, 0, 40, 40, 40, 8, 12, 12, 12, 12, 12, 12, 12, 12, 6, 6, 6, 6, 0, 40, 40, 40, 8, 12, 12, 12, 12, 12, 12, 12, 12, 6, 6, 6, 6, 0, 40, 40, 40, 8, 12, 12, 12, 12, 12, 12, 12, 12, 6, 6, 6, 6, 0, 40, 40, 40, 8, 12, 12, 12, 12, 12, 12, 12, 12, 6, 6, 6, 6, 0, 40, 40, 40, 8, 12, 12, 12, 12, 12, 12, 12, 12, 6, 6, 6, 6, 0, 40, 40, 40, 8, 12, 12, 12, 12, 12, 12, 12, 12, 6, 6, 6, 6, 0, 40, 40, 40, 8, 12, 12, 12, 12, 12, 12, 12, 12, 6, 6, 6, 6, 0, 40, 40, 40, 8, 12, 12, 12, 12, 12, 12, 12, 12, 6, 6, 6, 6, 2, 0, 40, 40, 40, 8, 12, 12, 12, 12, 12, 12, 12, 12, 6, 6, 6, 6, 0, 40, 40, 40, 8, 12, 12, 12, 12, 12, 12, 12, 12, 6, 6, 6, 6, 2, 0, 12, 12, 0, 40, 40, 12, 12, 12, 12, 0, 40, 12, 12, 1]
/-- the kind of a cell: a class by its place in vwCl; 20 int[], 21 long[], 22 byte[], 23 boolean[], 24 char[], 25 Cabin[], 26 Meal[], 27 Flight[], 28 int[][]; late cells: by their number in the world, length * 32 + kind -/
def kt (i : Nat) : Nat := if i < 339 then ktL.getD i 99 else 99
def km (μ : Wd) (i : Nat) : Nat := if i < 339 then ktL.getD i 99 else gN μ i % 32
def al (μ : Wd) (i : Nat) : Nat := if i < 339 then klL.getD i 0 else gN μ i / 32
theorem km_lt {μ : Wd} {i : Nat} (h : i < 339) : km μ i = kt i := by unfold km kt; rw [if_pos h, if_pos h]
def ftL : List (List Nat) := [[2, 0, 0, 0], [2, 0, 0], [2, 0, 0, 0, 2, 2, 2, 2, 0, 2, 2, 2, 2], [2, 2, 2, 0, 0], [2, 0, 0], [0, 0, 2, 2, 2, 2, 2, 2, 0, 0], [2, 0, 0, 0, 0, 0], [2, 2], [0, 0, 2, 0, 2, 0, 2, 2, 0, 0, 0], [2, 2, 2, 0, 0, 0, 0, 0], [2, 0, 0, 0, 0, 0], [2, 0, 2, 0, 0, 0, 0, 2, 2, 2, 2, 2, 2, 2, 2, 2, 2, 0], [2, 0, 0, 0]]
/-- a field's type: 0 int and its like, 1 long, 2 reference -/
def fty (c k : Nat) : Nat := (ftL.getD c []).getD k 9
def nf (c : Nat) : Nat := (ftL.getD c []).length
def okI (n i : Nat) : Prop := i < n ∨ 1000000 ≤ i
def okV (n : Nat) (v : Value) : Prop := match v with
  | .ref i => okI n i
  | _ => True
def okS (n : Nat) (st : List Value) : Prop := ∀ v ∈ st, okV n v
def okL (n : Nat) (ls : List (Nat × Value)) : Prop := ∀ q ∈ ls, okV n q.2
def tv (ad : Nat → Nat) (v : Value) : Value := match v with
  | .ref i => .ref (ad i)
  | v => v
def fv (ad : Nat → Nat) (μ : Wd) (i c k : Nat) : Value := match fty c k with
  | 0 => .int (gI μ i k)
  | 1 => .long (gL μ i k)
  | _ => va_rf ((gR μ i k).map ad)
def fvs (ad : Nat → Nat) (μ : Wd) (i c : Nat) : List Value := (List.range (nf c)).map (fv ad μ i c)
def ec (ad : Nat → Nat) (μ : Wd) (i : Nat) : (Nat → Int32) ⊕ (Nat → Int64) ⊕ (Nat → UInt32) ⊕ (Nat → UInt64) ⊕ (Nat → Option Nat) :=
  if km μ i = 21 then .inr (.inl (gL μ i)) else if km μ i < 25 then .inl (gI μ i) else .inr (.inr (.inr (.inr (fun k => (gR μ i k).map ad))))
def ent (ad : Nat → Nat) (cA : Nat → ClassId) (μ : Wd) (i : Nat) : va_E :=
  if km μ i < 13 then .inr (km μ i, fvs ad μ i (km μ i)) else .inl (cA (km μ i), al μ i, ec ad μ i)
def wsO (ad : Nat → Nat) (cA : Nat → ClassId) (μ : Wd) : va_W := (List.range (wn μ)).map fun i => (ad i, ent ad cA μ i)
abbrev tyL (cA : Nat → ClassId) : List (ClassId × FieldType) := [(cA 20, .int), (cA 21, .long), (cA 22, .byte), (cA 23, .boolean), (cA 24, .char), (cA 25, .object RX0), (cA 26, .object RX5), (cA 27, .object RX1), (cA 28, .array .int)]
def tyN (t : Nat) : FieldType := match t with
  | 20 => .int
  | 21 => .long
  | 22 => .byte
  | 23 => .boolean
  | 24 => .char
  | 25 => .object RX0
  | 26 => .object RX5
  | 27 => .object RX1
  | _ => .array .int
theorem tyL_get (cA : Nat → ClassId) {t : Nat} (h1 : 20 ≤ t) (h2 : t ≤ 28) : (tyL cA)[t - 20]? = some (cA t, tyN t) := by
  rcases (by omega : t = 20 ∨ t = 21 ∨ t = 22 ∨ t = 23 ∨ t = 24 ∨ t = 25 ∨ t = 26 ∨ t = 27 ∨ t = 28) with h | h | h | h | h | h | h | h | h <;> subst h <;> rfl
/-- the words -/
def lwa : List Cond := lw_tbl.filter goodWord
theorem lwa_in {w : Cond} (i : Nat) (h : lw_tbl[i]? = some w) (hg : goodWord w = true) : w ∈ lwa := List.mem_filter.mpr ⟨List.mem_of_getElem? h, hg⟩
theorem lwa_good {ws : List Cond} (h : ∀ w ∈ ws, w ∈ lwa) : GoodIn lwa ws := fun w hw => ⟨h w hw, good_of_word (List.mem_filter.mp (h w hw)).2⟩
/-- the String constants: whose, its entry, its text -/
def kst : List (String × Nat × String) := [("MealLoader$Cabin", 7, ""), ("MealLoader$Meal", 7, ""), ("MealLoader", 87, "the input buffer is full"), ("MealLoader", 98, "no such length of the buffer"), ("MealLoader$FlightText", 63, "time"), ("MealLoader$FlightText", 72, "lead"), ("MealLoader$FlightText", 77, "cabin"), ("java/lang/String", 7, ""), ("MealLoader$FlightText", 82, "meal"), ("MealLoader$FlightText", 184, "special"), ("MealLoader$FlightText", 186, "menu"), ("MealLoader$FlightText", 175, "offers"), ("MealLoader$FlightText", 87, "trolley"), ("MealLoader$FlightText", 92, "guests"), ("MealLoader$FlightText", 97, "guest"), ("MealLoader$FlightText", 212, "needs"), ("MealLoader$FlightText", 214, "wish"), ("MealLoader", 114, "the text has an error"), ("MealLoader", 173, "nothing such to count"), ("MealLoader", 447, "no such passenger"), ("MealLoader", 277, "nothing such of a passenger"), ("MealLoader", 377, "nothing such of the service"), ("MealLoader", 460, "the act is refused"), ("MealLoader", 387, "no such account"), ("MealLoader", 455, "no such slot"), ("MealLoader", 414, "the slot is empty"), ("MealLoaderLaw", 54, "time "), ("MealLoaderLaw", 62, ";lead "), ("MealLoaderLaw", 67, ";cabin x 6 "), ("MealLoaderLaw", 69, ";cabin y 5;"), ("MealLoaderLaw", 71, "meal "), ("MealLoaderLaw", 73, " special "), ("MealLoaderLaw", 75, " menu "), ("MealLoaderLaw", 77, "x "), ("MealLoaderLaw", 79, "y "), ("MealLoaderLaw", 81, " "), ("java/util/Arrays", 337, " > "), ("MealLoaderLaw", 83, " offers "), ("MealLoaderLaw", 48, "a"), ("MealLoaderLaw", 89, "trolley "), ("MealLoaderLaw", 91, "guests x "), ("MealLoaderLaw", 93, ";guests y "), ("MealLoaderLaw", 95, "guest "), ("MealLoaderLaw", 97, "x needs "), ("MealLoaderLaw", 99, "y needs "), ("MealLoader", 401, "nothing can be undone"), ("MealLoader", 443, "no such cabin"), ("MealLoader", 210, "nothing such of a cabin"), ("MealLoader", 445, "no such meal"), ("MealLoader", 254, "nothing such of a meal"), ("MealLoader", 449, "no such trolley"), ("MealLoader", 301, "no such top-up"), ("MealLoader", 313, "nothing such of a top-up"), ("MealLoader", 294, "nothing such of a trolley"), ("MealLoader", 451, "needs out of range"), ("MealLoader", 318, "the wish is not on the menu"), ("MealLoader", 336, "the passenger is in this cabin"), ("MealLoader", 453, "units out of range"), ("MealLoader", 360, "minutes out of range")]
def kby (c : Nat) : List Nat := ((kst.getD c ("", 0, "")).2.2.toList).map Char.toNat
def kNc : List (String × String) := [("java/lang/IllegalArgumentException", "java/lang/IllegalStateException"), ("java/util/NoSuchElementException", "java/lang/IllegalStateException"), ("java/lang/IndexOutOfBoundsException", "java/lang/IllegalStateException"), ("java/lang/IllegalStateException", "java/lang/IllegalArgumentException"), ("java/util/NoSuchElementException", "java/lang/IllegalArgumentException"), ("java/lang/IndexOutOfBoundsException", "java/lang/IllegalArgumentException")]
/-- words of exceptions that the tables alone decide -/
def kDe : List MethodName := [Bundle.initS "java/lang/RuntimeException", Bundle.initS "java/lang/Exception", Bundle.initS Bundle.tN]
def kCs : List String := ["java/lang/IllegalStateException", "java/lang/IllegalArgumentException", "java/util/NoSuchElementException", "java/lang/IndexOutOfBoundsException"]
def KW (s : State) : Prop := (∀ x ∈ kDe, (Cond.declares x).before #[] s = true) ∧ ∀ x ∈ kCs, (Cond.castable x x).before #[] s = true
theorem KW.moved {u U : State} (hvm : u.vm.Alike U.vm) (h : KW u) : KW U := by
  have tr : ∀ {c : Cond}, c.onTables = true → c.before #[] (u.setVm U.vm) = true → c.before #[] U = true := by
    intro c hc h
    have e := Cond.onTables_vm (A := #[]) (A' := #[]) (U := u) (U' := U) U.vm c hc
    have hU : U.setVm U.vm = U := rfl
    rw [hU] at e
    rw [← e]
    exact h
  exact ⟨fun x hx => tr rfl (by rw [Cond.declares_setVm hvm]; exact h.1 x hx), fun x hx => tr rfl (by rw [Cond.castable_setVm hvm]; exact h.2 x hx)⟩
/-- array classes over these are there; calls of nest mates' constructors are linked -/
def kAo : List String := [RX0, RX5, RX1]
def kMn : List (String × Nat × MethodName) := [(RX7, 17, yX0_init), (RX7, 24, yX5_init), (RX2, 11, yX9_init)]
def KX (s : State) : Prop := (∀ x ∈ kAo, va_AO x s) ∧ va_AOA .int s ∧ ∀ z ∈ kMn, va_Nw (.methodLinkNest z.1 z.2.1 z.2.2 "MealLoader") s
theorem aoa_moved {t : FieldType} {u U : State} (hal : u.vm.Alike U.vm) (h : va_AOA t u) : va_AOA t U := by
  unfold va_AOA at h ⊢
  simp only [Cond.before, Cond.holds, Cond.value] at h ⊢
  rw [hal.findClass]
  cases hf : u.vm.findClass (FieldType.array t).toString with
  | none => rw [hf] at h; simp at h
  | some comp =>
    rw [hf] at h
    simp only [Option.bind_some] at h ⊢
    rw [hal.findIdx_congr _ (fun _ _ _ _ => rfl)]
    generalize hF : (u.vm.classes.findIdx? fun (x : Class) => match x.kind with | .array component _ => component == comp | _ => false) = fi at h ⊢
    cases fi with
    | none => simp at h
    | some c =>
      simp only [Option.bind_some] at h ⊢
      cases hk : u.vm.classes[c]? with
      | none => rw [hk] at h; simp at h
      | some k =>
        obtain ⟨k', hk', ek⟩ := hal.2.2 _ _ hk
        rw [hk] at h
        rw [hk', hal.findClass]
        have ekind : k'.kind = k.kind := by rw [ek]
        simp only [Option.map_some] at h ⊢
        rw [ekind]
        exact h
theorem KX.warm {u U : State} (hW : u.WarmedH U.vm) (h : KX u) : KX U := ⟨fun x hx => va_AO.moved hW.alike (h.1 x hx), aoa_moved hW.alike h.2.1, fun z hz => va_Nw.warmM hW (h.2.2 z hz)⟩
theorem KX.same {u U : State} (hv : u.vm = U.vm) (h : KX u) : KX U := by
  have hal : u.vm.Alike U.vm := hv ▸ Vm.Alike.refl u.vm
  exact ⟨fun x hx => va_AO.moved hal (h.1 x hx), aoa_moved hal h.2.1, fun z hz => va_Nw.same rfl hv (h.2.2 z hz)⟩
/-- what stays true of the start, whatever is done: statics, String constants -/
def dgB (t j : Nat) : Nat := 48 + (if t = 0 then j / 10 else j % 10)
def KD (ad : Nat → Nat) (base : Nat) (s : State) : Prop :=
  ∀ t, t < 2 → va_Z "java/lang/Integer" (if t = 0 then "DigitTens" else "DigitOnes") "[B" (.ref (ad (1700001 + t))) (fun q => base ≤ q) s s.heap ∧ va_T .byte (ad (1700001 + t)) 100 (fun j => .int (Int32.ofNat (dgB t j))) (fun q => base ≤ q) s s.heap
/-- an array of bytes may be cloned -/
def kPr : List MethodName := [yJ5_ensureCapacityInternal_d00df, yJ5_newCapacity_0f7a4, yJ5_putStringAt_47b60, yJ5_inflateIfNeededFor_a7421]
def KB (s : State) : Prop := va_Nw (.castable "[B" "java/lang/Cloneable") s ∧ ∀ y ∈ kPr, va_Nw (.selects RJ4 y y) s
theorem KB.warm {u U : State} (hW : u.WarmedH U.vm) (h : KB u) : KB U := ⟨va_Nw.warmC hW h.1, fun y hy => word_at hW (Or.inl rfl) (h.2 y hy)⟩
theorem KB.same {u U : State} (hv : u.vm = U.vm) (h : KB u) : KB U := ⟨va_Nw.same rfl hv h.1, fun y hy => va_Nw.same rfl hv (h.2 y hy)⟩
def KF (ad : Nat → Nat) (base : Nat) (s : State) : Prop :=
  vx_Zq Bundle.tN "UNASSIGNED_STACK" Bundle.steD (fun q => base ≤ q) s s.heap ∧ vx_Zq Bundle.tN "SUPPRESSED_SENTINEL" Bundle.listD (fun q => base ≤ q) s s.heap ∧
  va_Z "java/lang/String" "COMPACT_STRINGS" "Z" (.int 1) (fun q => base ≤ q) s s.heap ∧ (va_Z "java/lang/StringUTF16" "$assertionsDisabled" "Z" (.int 1) (fun q => base ≤ q) s s.heap ∧ KD ad base s ∧ KB s) ∧
  (va_Z "jdk/internal/util/Preconditions" "SIOOBE_FORMATTER" "Ljava/util/function/BiFunction;" .null (fun q => base ≤ q) s s.heap ∨ va_Z "jdk/internal/util/Preconditions" "SIOOBE_FORMATTER" "Ljava/util/function/BiFunction;" (.ref (ad 1700000)) (fun q => base ≤ q) s s.heap) ∧
  (∀ (c : Nat) (q : String × Nat × String), kst[c]? = some q → vk_R q.1 q.2.1 q.2.2 (ad (1000000 + c)) s ∧ va_O "java/lang/String" (ad (1000000 + c)) (fun q => base ≤ q) s s.heap ∧
    va_OF "java/lang/String" "coder" "B" (.int 0) (ad (1000000 + c)) (fun q => base ≤ q) s s.heap ∧
    va_OF "java/lang/String" "value" "[B" (.ref (ad (1500000 + c))) (ad (1000000 + c)) (fun q => base ≤ q) s s.heap ∧ va_T .byte (ad (1500000 + c)) (kby c).length (fun j => .int (Int32.ofNat ((kby c).getD j 0))) (fun q => base ≤ q) s s.heap) ∧
  (∀ q ∈ kNc, va_Nc q.1 q.2 s) ∧ KW s ∧ KX s
/-- the heap holds the world -/
def Rl (D : va_G) (cA : Nat → ClassId) (base : Nat) (ad : Nat → Nat) (μ : Wd) (s : State) (H : Heap) : Prop :=
  va_P D vwCl (wsO ad cA μ) H ∧ va_D (fun q => base ≤ q) (wsO ad cA μ) ∧ (∀ i k j, i < wn μ → gR μ i k = some j → okI (wn μ) j) ∧ wn μ < 1000000 ∧ va_X (ad 2000000) (gX μ).1 (gX μ).2 s H ∧ ad 2000000 < base
def Ext (ad0 : Nat → Nat) (n0 : Nat) (ad : Nat → Nat) : Prop := ∀ i, okI n0 i → ad i = ad0 i
def okO (n : Nat) (v : Option Value) : Prop := ∀ w, v = some w → okV n w
abbrev Oc : Type := Option Value ⊕ String
def qC (D : va_G) (cA : Nat → ClassId) (base : Nat) (ad0 : Nat → Nat) (n0 : Nat) (o : Oc) (μ1 : Wd) : Array Value → State → Outcome → State → Prop := fun _ st oc t =>
  ∃ (ad1 : Nat → Nat) (v : Option Value), o = .inl v ∧ oc = .returned (v.map (tv ad1)) ∧ Ext ad0 n0 ad1 ∧ n0 ≤ wn μ1 ∧ Rl D cA base ad1 μ1 t t.heap ∧ okO (wn μ1) v ∧ va_F (fun q => base ≤ q) st t
def xC (D : va_G) (cA : Nat → ClassId) (base : Nat) (ad0 : Nat → Nat) (n0 : Nat) (o : Oc) (μ1 : Wd) : String → State → State → Prop := fun E st t =>
  ∃ ad1 : Nat → Nat, o = .inr E ∧ Ext ad0 n0 ad1 ∧ n0 ≤ wn μ1 ∧ Rl D cA base ad1 μ1 t t.heap ∧ va_F (fun q => base ≤ q) st t
/-- a method: its name, its bytes, how many locals, its answer's type, its table -/
abbrev Yd : Type := MethodName × ByteArray × Nat × Option FieldType × List (Nat × Nat × Nat × Nat)
def Cx (Y : Yd) (p : Program) (l : Launch) (s : State) (m : MethodId) (args : Array Value) (meth : Method) (c : Code) : Prop :=
  p.tables.exec = Jvm.exec ∧ c.code = Y.2.1 ∧ c.maxLocals = Y.2.2.1 ∧ meth.sig.returnType = Y.2.2.2.1 ∧ s.vm.findClass Y.1.cls = some m.cls ∧ (∀ w ∈ lwa, w.before args s = true) ∧ meth.locks = false ∧ l.stackTraces = false ∧ meth.name = Y.1.name ∧ c.exceptionTable.toList.map (fun h => (h.startPc, h.endPc, h.handlerPc, h.catchType)) = Y.2.2.2.2
def Ev (rm : Room) (b : Nat × Nat) (μ : Wd) (s : State) (H : Heap) (locs : List Loc) (cells slots : Nat) (D : va_G) (cA : Nat → ClassId) (base : Nat) (ad0 : Nat → Nat) (n0 : Nat) (ad : Nat → Nat) : Prop :=
  KF ad base s ∧ va_K D vwCl (tyL cA) s ∧ Rl D cA base ad μ s H ∧ va_S (fun q => base ≤ q) s.heap H locs ∧ base ≤ s.heap.size ∧ Ext ad0 n0 ad ∧ n0 ≤ wn μ ∧ cells + b.1 ≤ rm.cells ∧ slots + b.2 ≤ rm.slots
/-- from here the method comes to the outcome o and the world μ1 -/
def AW (Y : Yd) (rm : Room) (b : Nat × Nat) (μ : Wd) (pc : Nat) (la : List (Nat × Value)) (st : List Value) (o : Oc) (μ1 : Wd) : Prop :=
  ∀ (p : Program) (l : Launch) (e : Env) (s : State) (m : MethodId) (args : Array Value) (below : List Frame) (meth : Method) (c : Code) (H : Heap) (locs : List Loc) (cells slots : Nat) (ls : Array Slot) (D : va_G) (cA : Nat → ClassId) (base : Nat) (ad0 : Nat → Nat) (n0 : Nat) (ad : Nat → Nat),
    Cx Y p l s m args meth c → Ev rm b μ s H locs cells slots D cA base ad0 n0 ad → okL (wn μ) la → okS (wn μ) st → lv_has ls Y.2.2.1 (la.map fun q => (q.1, tv ad q.2)) →
    W p l e rm s m args below meth c H locs cells slots (vx_MQ below (qC D cA base ad0 n0 o μ1) (xC D cA base ad0 n0 o μ1) args s rm.cells rm.slots (fun q => base ≤ q)) (F0 m pc ls (st.map (tv ad)))
/-- the word of a method's code -/
def hdw (Y : Yd) : Cond := match Y.2.2.2.2 with
  | [] => Cond.code Y.1 Y.2.1 Y.2.2.1 Y.2.2.2.1
  | hh => Cond.codeWith Y.1 Y.2.1 Y.2.2.1 Y.2.2.2.1 hh
/-- called so, in this world, the method comes to the outcome o and the world μ1 -/
def Ct (Y : Yd) (rm : Room) (as : List Value) (μ : Wd) (o : Oc) (μ1 : Wd) : Prop :=
  ∀ (l : Launch) (D : va_G) (cA : Nat → ClassId) (base : Nat) (ad : Nat → Nat), l.stackTraces = false →
    vx_Met l Y.1 (hdw Y :: lwa) rm (va_Pc (as.map (tv ad)) (fun U => KF ad base U ∧ va_K D vwCl (tyL cA) U ∧ Rl D cA base ad μ U U.heap ∧ base ≤ U.heap.size ∧ okS (wn μ) as)) (qC D cA base ad (wn μ) o μ1) (xC D cA base ad (wn μ) o μ1) rm.cells rm.slots (fun q => base ≤ q)
