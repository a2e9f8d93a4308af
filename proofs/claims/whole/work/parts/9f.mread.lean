section MREAD
variable {μ W V : Wd} {B : Nat → Nat} {n p x : Nat} {z : PZ}
/-- the model's draft of a flight -/
def DrR (r : Nat → Int32) (z : PZ) : Prop := (r 0 = 1 ∧ r 1 = 0 ∧ r 2 = pF z.1 9 1 ∧ r 3 = nI (dP z.2.1) ∧ r 4 = 0) ∧ (∀ i, i < dP z.2.1 → r (5 + 4 * i + 0) = dF z.2.1 0 i ∧ r (5 + 4 * i + 1) = dF z.2.1 1 i ∧ r (5 + 4 * i + 2) = dF z.2.1 2 i ∧ r (5 + 4 * i + 3) = -1) ∧ ∀ k, 165 ≤ k → k < 291 → r k = 0
def DrV (z : PZ) (μ : Wd) : Prop := PwV (gI μ 340) z.1 ∧ DrR (gI μ 345) z ∧ (∀ i, i < pC z.1 → gL μ 342 i = lN (wvN (z.2.2.1 i))) ∧ ∀ i, i < pM z.1 → gL μ 343 i = lN (wvN (z.2.2.2 i))
def MgV (B : Nat → Nat) (n p : Nat) (z : PZ) (μ : Wd) : Prop := Wf μ ∧ TxV B n p μ ∧ (gI μ 338 23 = 0 ∧ gI μ 338 24 = -1) ∧ DrV z μ
/-- what a draft keeps to -/
def NaL (l : List Nat) : Prop := LtL l ∧ l ≠ [] ∧ l.length ≤ 6
def GzD (z : PZ) : Prop :=
  (GdP z.1) ∧
  (pF z.1 9 0 = 1) ∧
  (∃ m, 1 ≤ m ∧ m ≤ 999 ∧ pF z.1 9 1 = nI m) ∧
  (dU z.2.1 = 0) ∧
  (dP z.2.1 ≤ 40) ∧
  (∀ i, i < dP z.2.1 → (∃ c, c < pC z.1 ∧ dF z.2.1 0 i = nI c) ∧ (∃ m, m < 256 ∧ dF z.2.1 1 i = nI m) ∧ (dF z.2.1 2 i = -1 ∨ ∃ x, x < pM z.1 ∧ dF z.2.1 2 i = nI x)) ∧
  (∀ t k, 7 ≤ t → dF z.2.1 t k = 0) ∧
  (dF z.2.1 6 0 = 0) ∧
  (∀ i, i < pC z.1 → NaL (z.2.2.1 i)) ∧
  (∀ i, i < pM z.1 → NaL (z.2.2.2 i)) ∧
  (∀ c, c < pC z.1 → ∃ s, s ≤ 40 ∧ pF z.1 0 c = nI s ∧ paN z.2.1 (nI c) ≤ s)
theorem GzD.q (h : GzD z) : GdP z.1 := h.1
theorem GzD.told (h : GzD z) : pF z.1 9 0 = 1 := h.2.1
theorem GzD.mins (h : GzD z) : ∃ m, 1 ≤ m ∧ m ≤ 999 ∧ pF z.1 9 1 = nI m := h.2.2.1
theorem GzD.u0 (h : GzD z) : dU z.2.1 = 0 := h.2.2.2.1
theorem GzD.P4 (h : GzD z) : dP z.2.1 ≤ 40 := h.2.2.2.2.1
theorem GzD.pas (h : GzD z) : ∀ i, i < dP z.2.1 → (∃ c, c < pC z.1 ∧ dF z.2.1 0 i = nI c) ∧ (∃ m, m < 256 ∧ dF z.2.1 1 i = nI m) ∧ (dF z.2.1 2 i = -1 ∨ ∃ x, x < pM z.1 ∧ dF z.2.1 2 i = nI x) := h.2.2.2.2.2.1
theorem GzD.un (h : GzD z) : ∀ t k, 7 ≤ t → dF z.2.1 t k = 0 := h.2.2.2.2.2.2.1
theorem GzD.srv (h : GzD z) : dF z.2.1 6 0 = 0 := h.2.2.2.2.2.2.2.1
theorem GzD.nC (h : GzD z) : ∀ i, i < pC z.1 → NaL (z.2.2.1 i) := h.2.2.2.2.2.2.2.2.1
theorem GzD.nM (h : GzD z) : ∀ i, i < pM z.1 → NaL (z.2.2.2 i) := h.2.2.2.2.2.2.2.2.2.1
theorem GzD.room (h : GzD z) : ∀ c, c < pC z.1 → ∃ s, s ≤ 40 ∧ pF z.1 0 c = nI s ∧ paN z.2.1 (nI c) ≤ s := h.2.2.2.2.2.2.2.2.2.2
theorem DrV.fr {S : Nat → Prop} (h : DrV z μ) (a : Out S μ V) (h1 : ¬ S 340) (h2 : ¬ S 345) (h3 : ¬ S 342) (h4 : ¬ S 343) : DrV z V := by
  have e1 : gI V 340 = gI μ 340 := funext fun k => a.i h1 k
  have e2 : gI V 345 = gI μ 345 := funext fun k => a.i h2 k
  unfold DrV
  rw [e1, e2]
  exact ⟨h.1, h.2.1, fun i hi => (a.l h3 i).trans (h.2.2.1 i hi), fun i hi => (a.l h4 i).trans (h.2.2.2 i hi)⟩
theorem MgV.wf (h : MgV B n p z μ) : Wf μ := h.1
theorem MgV.tx (h : MgV B n p z μ) : TxV B n p μ := h.2.1
theorem MgV.le (h : MgV B n p z μ) : p ≤ n := h.2.1.2.1
theorem MgV.n9 (h : MgV B n p z μ) : n ≤ 900 := h.2.1.1
theorem MgV.dr (h : MgV B n p z μ) : DrV z μ := h.2.2.2
theorem MgV.fk (h : MgV B n p z μ) (a : FkF μ V) (h23 : gI V 338 23 = gI μ 338 23) (h24 : gI V 338 24 = gI μ 338 24) {p2 : Nat} (hp : p2 ≤ n) {x : Nat} (hx : gI V 338 18 = nI x) (hxn : x ≤ n) (he : tkS B n x = tkS B n p2) : MgV B n p2 z V :=
  ⟨a.1.1, a.tx h.2.1 hp hx hxn he, ⟨h23.trans h.2.2.1.1, h24.trans h.2.2.1.2⟩, h.2.2.2.fr a.1 (by decide) (by decide) (by decide) (by decide)⟩
theorem MgV.hd (h : MgV B n p z μ) (a : PkF μ V) (hh : HdV B n p V) : MgV B n p z V :=
  h.fk a.fk (a.2.1 23 (by decide) (by decide) (by decide)) (a.2.1 24 (by decide) (by decide) (by decide)) h.le hh.1 (tkS_le h.le).2 (tkS_idem h.le)
theorem MgV.pass (h : MgV B n p z μ) (e21 : gI μ 338 21 = nI (tkE B n p)) : MgV B n (tkE B n p) z (sI μ 338 18 (gI μ 338 21)) :=
  h.fk ((FkF.rfl' h.1).set (by decide) _) (by rw [gI_sI, if_neg (by omega)]) (by rw [gI_sI, if_neg (by omega)]) (tkE_le h.le).2.1 (by rw [gI_sI, if_pos ⟨rfl, rfl⟩, e21]) (tkE_le h.le).2.1 rfl
theorem MgV.s (h : MgV B n p z μ) {k : Nat} (hk : k = 22 ∨ k = 26 ∨ k = 27) (v : Int32) : MgV B n p z (sI μ 338 k v) := by
  obtain ⟨x, hx, hxn, he⟩ := h.2.1.2.2.2.2
  exact h.fk ((FkF.rfl' h.1).set (by omega) _) (by rw [gI_sI, if_neg (by omega)]) (by rw [gI_sI, if_neg (by omega)]) h.le (by rw [gI_sI, if_neg (by omega), hx]) hxn he
theorem MgV.l (h : MgV B n p z μ) (v : Int64) : MgV B n p z (sL μ 338 25 v) := by
  obtain ⟨x, hx, hxn, he⟩ := h.2.1.2.2.2.2
  exact h.fk ((FkF.rfl' h.1).sL _) rfl rfl h.le hx hxn he
theorem HdV.s (h : HdV B n p μ) {k : Nat} (hk : 22 ≤ k) (v : Int32) : HdV B n p (sI μ 338 k v) := ⟨by rw [gI_sI, if_neg (by omega)]; exact h.1, by rw [gI_sI, if_neg (by omega)]; exact h.2.1, by rw [gI_sI, if_neg (by omega)]; exact h.2.2⟩
theorem HdV.e (h : HdV B n p μ) (hs : tkS B n p < n) : gI μ 338 21 = nI (tkE B n p) := by rw [h.2.2, pkE_lt hs]
/-- a reader's result: refused, or read -/
def RdO {α : Type} (r : (Nat × Nat) ⊕ α) (ok : α → Wd → Prop) (v : Option Value) (V : Wd) : Prop := match r with
  | .inl e => v = some (.int 0) ∧ gI V 338 23 = nI e.1 ∧ gI V 338 24 = nI e.2
  | .inr a => v = some (.int 1) ∧ ok a V
def RdK {α : Type} (μ : Wd) (r : (Nat × Nat) ⊕ α) (ok : α → Wd → Prop) (v : Option Value) (V : Wd) : Prop := FkF μ V ∧ RdO r ok v V
def fW (V : Wd) (c : Int32) : Wd := sI (sI V 338 23 c) 338 24 (gI V 338 20)
theorem RdO.fail {α : Type} {r : (Nat × Nat) ⊕ α} {ok : α → Wd → Prop} {c t : Nat} (h20 : gI V 338 20 = nI t) (hr : r = .inl (c, t)) : RdO r ok (some (.int 0)) (fW V (nI c)) := by
  rw [hr]
  exact ⟨rfl, by unfold fW; rw [gI_sI, if_neg (by omega), gI_sI, if_pos ⟨rfl, rfl⟩], by unfold fW; rw [gI_sI, if_pos ⟨rfl, rfl⟩, h20]⟩
theorem RdK.fail {α : Type} {r : (Nat × Nat) ⊕ α} {ok : α → Wd → Prop} {c t : Nat} (a : FkF μ V) (h20 : gI V 338 20 = nI t) (hr : r = .inl (c, t)) : RdK μ r ok (some (.int 0)) (fW V (nI c)) :=
  ⟨(a.set (by decide) _).set (by decide) _, RdO.fail h20 hr⟩
theorem RdK.ok {α : Type} {r : (Nat × Nat) ⊕ α} {ok : α → Wd → Prop} {x : α} (a : FkF μ V) (hr : r = .inr x) (k : ok x V) : RdK μ r ok (some (.int 1)) V := ⟨a, by rw [hr]; exact ⟨rfl, k⟩⟩
theorem RdK.bad {α : Type} {r : (Nat × Nat) ⊕ α} {ok : α → Wd → Prop} {e : Nat × Nat} (a : FkF μ V) (hr : r = .inl e) (k : gI V 338 23 = nI e.1 ∧ gI V 338 24 = nI e.2) : RdK μ r ok (some (.int 0)) V := ⟨a, by rw [hr]; exact ⟨rfl, k⟩⟩
def PwQ (B : Nat → Nat) (n p : Nat) (z : PZ) (μ : Wd) (b : Bool) (v : Option Value) (V : Wd) : Prop := FkF μ V ∧ match b with
  | false => v = some (.int 0) ∧ MgV B n p z V ∧ HdV B n p V
  | true => v = some (.int 1) ∧ MgV B n (tkE B n p) z V
abbrev R_X11_passesWord : Room := { frames := 4, cells := 0, slots := 0, locals := 86 }
abbrev RX_X11_passesWord : Room := { frames := 4, cells := 1, slots := 6, locals := 86 }

theorem m_passesWord (hz : MgV B n p z μ) {l : List Nat} (hl : LtL l) (h0 : l ≠ []) (h8 : l.length ≤ 8) : CV Y_X11_passesWord R_X11_passesWord [.ref 338, .long (lN (wvN l))] μ (PwQ B n p z μ (decide (tkK B n p = 1 ∧ tkL B n p = l))) := by
  refine CV.ent yk_X11_passesWord (Nat.le_of_ble_eq_true rfl) ?_
  have hw := hz.wf
  have hww := wdL_is (B := B) hz.le hl h0 h8
  have hl1 : wvN l < 2 ^ 40 := wvN_lt hl h8
  have hl2 := wdL_lt (B := B) (n := n) (p := p)
  by_cases hq : tkK B n p = 1 ∧ tkL B n p = l
  · rw [decide_eq_true hq]
    have hc : lg_cmp (lN (wdL B n p)) (lN (wvN l)) = 0 := lgc_eq.mpr (congrArg lN (hww.mpr hq))
    refine lf (a_aload_n dX11_passesWord_0 rfl) ?_
    obtain ⟨v_, W1, k1, rfl, hF, hH⟩ := (m_nextWord hw hz.tx)
    have hw1 := hF.1.1
    have e21 := hH.e (tkK1.mp hq.1).1
    refine lf (a_inv (b2 := (0, 0)) k1 rfl dX11_passesWord_1 yk_X11_nextWord im_X11_nextWord se_X11_nextWord ml_X11_158 rfl (co_338 (by repeat (first | with_reducible exact hw | with_reducible exact hwc | with_reducible assumption | with_reducible apply Wf.sI | with_reducible apply Wf.sL | with_reducible apply Wf.cpI | with_reducible apply Wf.cpL | with_reducible apply Wf.cp2 | with_reducible apply Wf.sIs | with_reducible apply Wf.sLs | with_reducible apply Wf.cpU | with_reducible apply Wf.fillI | with_reducible apply Wf.clU | with_reducible apply Wf.dnF | with_reducible apply Wf.gbW))) (by decide) hc_X11 (by decide) (by decide) (Nat.le_of_ble_eq_true rfl)) ?_
    refine lf (a_lload_n dX11_passesWord_4 rfl) ?_
    refine lf (a_lcmp dX11_passesWord_5) ?_
    refine lfn (a_if_ne (tgt := 20) dX11_passesWord_6 (by decide)) (fun h6 => absurd h6 (fun z => z hc)) (fun h6 => ?_)
    refine lf (a_aload_n dX11_passesWord_9 rfl) ?_
    refine lf (a_inv (b2 := (0, 0)) (m_passes hw1) rfl dX11_passesWord_10 yk_X11_passes im_X11_passes se_X11_passes ml_X11_162 rfl (co_338 (by repeat (first | with_reducible exact hw | with_reducible exact hwc | with_reducible assumption | with_reducible apply Wf.sI | with_reducible apply Wf.sL | with_reducible apply Wf.cpI | with_reducible apply Wf.cpL | with_reducible apply Wf.cp2 | with_reducible apply Wf.sIs | with_reducible apply Wf.sLs | with_reducible apply Wf.cpU | with_reducible apply Wf.fillI | with_reducible apply Wf.clU | with_reducible apply Wf.dnF | with_reducible apply Wf.gbW))) (by decide) hc_X11 (by decide) (by decide) (Nat.le_of_ble_eq_true rfl)) ?_
    refine lf2 (a_if_eq (tgt := 20) dX11_passesWord_13 (by decide)) (fun h13 => absurd h13 (by decide)) (fun h13 => ?_)
    refine lf (a_iconst (1 : Int32) dX11_passesWord_16 (by decide)) ?_
    refine lf (a_goto (tgt := 21) dX11_passesWord_17 (by decide)) ?_
    refine ⟨_, _, (a_ireturn dX11_passesWord_21 rfl rfl), ?_⟩
    exact ⟨_, rfl, hF.fk.set (by decide) _, rfl, (hz.hd hF hH).pass e21⟩
  · rw [decide_eq_false hq]
    have hc : ¬ lg_cmp (lN (wdL B n p)) (lN (wvN l)) = 0 := fun z => hq (hww.mp ((lN_inj (by omega) (by omega)).mp (lgc_eq.mp z)))
    refine lf (a_aload_n dX11_passesWord_0 rfl) ?_
    obtain ⟨v_, W1, k1, rfl, hF, hH⟩ := (m_nextWord hw hz.tx)
    refine lf (a_inv (b2 := (0, 0)) k1 rfl dX11_passesWord_1 yk_X11_nextWord im_X11_nextWord se_X11_nextWord ml_X11_158 rfl (co_338 hw) (by decide) hc_X11 (by decide) (by decide) (Nat.le_of_ble_eq_true rfl)) ?_
    refine lf (a_lload_n dX11_passesWord_4 rfl) ?_
    refine lf (a_lcmp dX11_passesWord_5) ?_
    refine lfn (a_if_ne (tgt := 20) dX11_passesWord_6 (by decide)) (fun h6 => ?_) (fun h6 => absurd h6 hc)
    refine lf (a_iconst (0 : Int32) dX11_passesWord_20 (by decide)) ?_
    refine ⟨_, _, (a_ireturn dX11_passesWord_21 rfl rfl), ?_⟩
    exact ⟨_, rfl, hF.fk, rfl, hz.hd hF hH, hH⟩
abbrev R_X11_readSemicolon : Room := { frames := 3, cells := 0, slots := 0, locals := 63 }
abbrev RX_X11_readSemicolon : Room := { frames := 3, cells := 1, slots := 6, locals := 63 }

theorem m_readSemicolon (hz : MgV B n p z μ) : CV Y_X11_readSemicolon R_X11_readSemicolon [.ref 338] μ (RdK μ (sgS B n p) (fun _ V => MgV B n (tkE B n p) z V)) := by
  refine CV.ent yk_X11_readSemicolon (Nat.le_of_ble_eq_true rfl) ?_
  have hw := hz.wf
  have hk3 := tkK3 (p := p) (fun k hk => hz.tx.b256 hk)
  have hbi := bA_is (n := n) (B := B) (k := tkS B n p) (c := 59) (fun k hk => hz.tx.b256 hk) (by decide)
  refine lf (a_aload_n dX11_readSemicolon_0 rfl) ?_
  obtain ⟨v_, W1, k1, rfl, hF, hH⟩ := (m_peek hw hz.tx)
  have hw1 := hF.1.1
  refine lf (a_inv (b2 := (0, 0)) k1 rfl dX11_readSemicolon_1 yk_X11_peek im_X11_peek se_X11_peek ml_X11_148 rfl (co_338 (by repeat (first | with_reducible exact hw | with_reducible exact hwc | with_reducible assumption | with_reducible apply Wf.sI | with_reducible apply Wf.sL | with_reducible apply Wf.cpI | with_reducible apply Wf.cpL | with_reducible apply Wf.cp2 | with_reducible apply Wf.sIs | with_reducible apply Wf.sLs | with_reducible apply Wf.cpU | with_reducible apply Wf.fillI | with_reducible apply Wf.clU | with_reducible apply Wf.dnF | with_reducible apply Wf.gbW))) (by decide) hc_X11 (by decide) (by decide) (Nat.le_of_ble_eq_true rfl)) ?_
  refine lf (a_bipush (59 : Int32) dX11_readSemicolon_4 (by decide)) ?_
  refine lfn (a_icmp_ne (tgt := 16) dX11_readSemicolon_6 (by decide)) (fun h6 => ?_) (fun h6 => ?_)
  · have h6b := fun z => h6 (hbi.mpr z)
    refine lf (a_aload_n dX11_readSemicolon_16 rfl) ?_
    refine lf (a_iconst (1 : Int32) dX11_readSemicolon_17 (by decide)) ?_
    refine lf (a_inv (b2 := (0, 0)) (m_fails hw1 1) rfl dX11_readSemicolon_18 yk_X11_fails im_X11_fails se_X11_fails ml_X11_166 rfl (co_338 (by repeat (first | with_reducible exact hw | with_reducible exact hwc | with_reducible assumption | with_reducible apply Wf.sI | with_reducible apply Wf.sL | with_reducible apply Wf.cpI | with_reducible apply Wf.cpL | with_reducible apply Wf.cp2 | with_reducible apply Wf.sIs | with_reducible apply Wf.sLs | with_reducible apply Wf.cpU | with_reducible apply Wf.fillI | with_reducible apply Wf.clU | with_reducible apply Wf.dnF | with_reducible apply Wf.gbW))) (by decide) hc_X11 (by decide) (by decide) (Nat.le_of_ble_eq_true rfl)) ?_
    refine ⟨_, _, (a_ireturn dX11_readSemicolon_21 rfl rfl), ?_⟩
    exact ⟨_, rfl, RdK.fail (c := 1) hF.fk hH.2.1 (if_neg (fun z => h6b (hk3.mp z)))⟩
  · have h6b := hbi.mp h6
    have e21 := hH.e h6b.1
    refine lf (a_aload_n dX11_readSemicolon_9 rfl) ?_
    refine lf (a_inv (b2 := (0, 0)) (m_passes hw1) rfl dX11_readSemicolon_10 yk_X11_passes im_X11_passes se_X11_passes ml_X11_162 rfl (co_338 (by repeat (first | with_reducible exact hw | with_reducible exact hwc | with_reducible assumption | with_reducible apply Wf.sI | with_reducible apply Wf.sL | with_reducible apply Wf.cpI | with_reducible apply Wf.cpL | with_reducible apply Wf.cp2 | with_reducible apply Wf.sIs | with_reducible apply Wf.sLs | with_reducible apply Wf.cpU | with_reducible apply Wf.fillI | with_reducible apply Wf.clU | with_reducible apply Wf.dnF | with_reducible apply Wf.gbW))) (by decide) hc_X11 (by decide) (by decide) (Nat.le_of_ble_eq_true rfl)) ?_
    refine lf (a_goto (tgt := 21) dX11_readSemicolon_13 (by decide)) ?_
    refine ⟨_, _, (a_ireturn dX11_readSemicolon_21 rfl rfl), ?_⟩
    exact ⟨_, rfl, RdK.ok (hF.fk.set (by decide) _) (if_pos (hk3.mpr h6b)) ((hz.hd hF hH).pass e21)⟩
abbrev R_X11_looksNumber : Room := { frames := 3, cells := 0, slots := 0, locals := 63 }
abbrev RX_X11_looksNumber : Room := { frames := 3, cells := 1, slots := 6, locals := 63 }

def K22 (μ V : Wd) : Prop := FkF μ V ∧ (∀ k, k ≠ 22 → gI V 338 k = gI μ 338 k)
theorem num_step {a b : Nat} (h : 48 ≤ b ∧ b ≤ 57) : (10 : Int32) * nI a + nI b - 48 = nI (a * 10 + (b - 48)) := by
  rw [show (10 : Int32) = nI 10 from rfl, show (48 : Int32) = nI 48 from rfl, nI_mulI, nI_add, nI_subI (by omega)]
  exact congrArg nI (by omega)
theorem ln_l (hz : MgV B n p z μ) {lo hi e N : Nat} {Q : Oc → Wd → Prop} (hen : e ≤ n) (e21 : gI μ 338 21 = nI e) (kx : ∀ W : Wd, K22 μ W → gI W 338 22 = nI N → WP Y_X11_looksNumber R_X11_looksNumber (0, 0) W 68 [(0, .ref 338), (1, .int (nI lo)), (2, .int (nI hi))] [] Q) : ∀ (dd m a : Nat) (W : Wd), m + dd = e → (∀ i, m ≤ i → i < e → kdN (B i) = 2) → K22 μ W → gI W 338 22 = nI a → nuW B dd m a = N → WP Y_X11_looksNumber R_X11_looksNumber (0, 0) W 34 [(0, .ref 338), (1, .int (nI lo)), (2, .int (nI hi)), (3, .int (nI m))] [] Q := by
  have hn := hz.n9
  have e19 := hz.tx.2.2.1
  have e52 := hz.tx.2.2.2.1
  intro dd
  induction dd with
  | zero =>
    intro m a W hm hk hF e22 hN
    obtain rfl : e = m := by omega
    obtain rfl : a = N := hN
    have hw := hF.1.1.1
    have f21 := (hF.2 21 (by decide)).trans e21
    refine lf (a_iload_n dX11_looksNumber_34 rfl) ?_
    refine lf (a_aload_n dX11_looksNumber_35 rfl) ?_
    refine lf (a_getI dX11_looksNumber_36 fs_X11_139 rfl (co_338 hw)) ?_
    rw [f21]
    refine lf2 (a_icmp_ge (tgt := 68) dX11_looksNumber_39 (by decide)) (fun h39 => ?_) (fun h39 => absurd h39 (fun z => z (nI_le (Nat.le_refl _) (by omega))))
    exact lf (a_loc _ rfl) (kx W hF e22)
  | succ dd ih =>
    intro m a W hm hk hF e22 hN
    have hw := hF.1.1.1
    have f21 := (hF.2 21 (by decide)).trans e21
    have hbm : bA B n m = nI (B m) := if_pos (by omega)
    have hk1 := kd2 (hk m (Nat.le_refl m) (by omega))
    refine lf (a_iload_n dX11_looksNumber_34 rfl) ?_
    refine lf (a_aload_n dX11_looksNumber_35 rfl) ?_
    refine lf (a_getI dX11_looksNumber_36 fs_X11_139 rfl (co_338 (by repeat (first | with_reducible exact hw | with_reducible exact hwc | with_reducible assumption | with_reducible apply Wf.sI | with_reducible apply Wf.sL | with_reducible apply Wf.cpI | with_reducible apply Wf.cpL | with_reducible apply Wf.cp2 | with_reducible apply Wf.sIs | with_reducible apply Wf.sLs | with_reducible apply Wf.cpU | with_reducible apply Wf.fillI | with_reducible apply Wf.clU | with_reducible apply Wf.dnF | with_reducible apply Wf.gbW)))) ?_
    rw [f21]
    refine lf2 (a_icmp_ge (tgt := 68) dX11_looksNumber_39 (by decide)) (fun h39 => absurd h39 (nI_ge (by omega) (by omega))) (fun h39 => ?_)
    refine lf (a_aload_n dX11_looksNumber_42 rfl) ?_
    refine lf (a_bipush (10 : Int32) dX11_looksNumber_43 (by decide)) ?_
    refine lf (a_aload_n dX11_looksNumber_45 rfl) ?_
    refine lf (a_getI dX11_looksNumber_46 fs_X11_169 rfl (co_338 (by repeat (first | with_reducible exact hw | with_reducible exact hwc | with_reducible assumption | with_reducible apply Wf.sI | with_reducible apply Wf.sL | with_reducible apply Wf.cpI | with_reducible apply Wf.cpL | with_reducible apply Wf.cp2 | with_reducible apply Wf.sIs | with_reducible apply Wf.sLs | with_reducible apply Wf.cpU | with_reducible apply Wf.fillI | with_reducible apply Wf.clU | with_reducible apply Wf.dnF | with_reducible apply Wf.gbW)))) ?_
    rw [e22]
    refine lf (a_imul dX11_looksNumber_49) ?_
    refine lf (a_aload_n dX11_looksNumber_50 rfl) ?_
    refine lf (a_iload_n dX11_looksNumber_51 rfl) ?_
    refine lf (a_inv (b2 := (0, 0)) (m_byteAt (by repeat (first | with_reducible exact hw | with_reducible exact hwc | with_reducible assumption | with_reducible apply Wf.sI | with_reducible apply Wf.sL | with_reducible apply Wf.cpI | with_reducible apply Wf.cpL | with_reducible apply Wf.cp2 | with_reducible apply Wf.sIs | with_reducible apply Wf.sLs | with_reducible apply Wf.cpU | with_reducible apply Wf.fillI | with_reducible apply Wf.clU | with_reducible apply Wf.dnF | with_reducible apply Wf.gbW)) hn ((hF.2 19 (by decide)).trans e19) (fun k hk => ⟨(e52 k hk).1, (hF.1.1.i (by decide) k).trans (e52 k hk).2⟩) (k := m) (by omega)) rfl dX11_looksNumber_52 yk_X11_byteAt im_X11_byteAt se_X11_byteAt ml_X11_133 rfl (co_338 (by repeat (first | with_reducible exact hw | with_reducible exact hwc | with_reducible assumption | with_reducible apply Wf.sI | with_reducible apply Wf.sL | with_reducible apply Wf.cpI | with_reducible apply Wf.cpL | with_reducible apply Wf.cp2 | with_reducible apply Wf.sIs | with_reducible apply Wf.sLs | with_reducible apply Wf.cpU | with_reducible apply Wf.fillI | with_reducible apply Wf.clU | with_reducible apply Wf.dnF | with_reducible apply Wf.gbW))) (by decide) hc_X11 (by decide) (by decide) (Nat.le_of_ble_eq_true rfl)) ?_
    refine lf (a_iadd dX11_looksNumber_55) ?_
    refine lf (a_bipush (48 : Int32) dX11_looksNumber_56 (by decide)) ?_
    refine lf (a_isub dX11_looksNumber_58) ?_
    rw [hbm, num_step hk1]
    refine lf (a_putI dX11_looksNumber_59 fs_X11_169 rfl rfl rfl (co_338 (by repeat (first | with_reducible exact hw | with_reducible exact hwc | with_reducible assumption | with_reducible apply Wf.sI | with_reducible apply Wf.sL | with_reducible apply Wf.cpI | with_reducible apply Wf.cpL | with_reducible apply Wf.cp2 | with_reducible apply Wf.sIs | with_reducible apply Wf.sLs | with_reducible apply Wf.cpU | with_reducible apply Wf.fillI | with_reducible apply Wf.clU | with_reducible apply Wf.dnF | with_reducible apply Wf.gbW)))) ?_
    refine lf (a_iincN dX11_looksNumber_62 rfl (by decide)) ?_
    refine lf (a_goto (tgt := 34) dX11_looksNumber_65 (by decide)) ?_
    exact lf (a_loc _ rfl) (ih (m + 1) (a * 10 + (B m - 48)) _ (by omega) (fun i h1 h2 => hk i (by omega) h2) ⟨hF.1.set (by decide) _, fun k hk => by rw [gI_sI, if_neg (by omega)]; exact hF.2 k hk⟩ (by rw [gI_sI, if_pos ⟨rfl, rfl⟩]) hN)
theorem m_looksNumber (hz : MgV B n p z μ) {lo hi : Nat} (hlo : lo < 2 ^ 31) (hhi : hi < 2 ^ 31) : CV Y_X11_looksNumber R_X11_looksNumber [.ref 338, .int (nI lo), .int (nI hi)] μ (RdK μ (nhS B n p lo hi) (fun a V => MgV B n p z V ∧ HdV B n p V ∧ tkS B n p < n ∧ gI V 338 22 = nI a)) := by
  refine CV.ent yk_X11_looksNumber (Nat.le_of_ble_eq_true rfl) ?_
  have hw := hz.wf
  have hte := tkE_le (B := B) hz.le
  have hn9 := hz.n9
  have hl := bA_dig (n := n) (B := B) (fun k hk => hz.tx.b256 hk) (tkS B n p)
  by_cases hd2 : tkS B n p < n ∧ kdN (B (tkS B n p)) = 2
  · rw [if_pos hd2] at hl
    by_cases h4 : tkE B n p - tkS B n p ≤ 4
    · refine lf (a_aload_n dX11_looksNumber_0 rfl) ?_
      obtain ⟨v_, W1, k1, rfl, hF, hH⟩ := (m_peek hw hz.tx)
      have hw1 := hF.1.1
      have e21 := hH.e hd2.1
      refine lf (a_inv (b2 := (0, 0)) k1 rfl dX11_looksNumber_1 yk_X11_peek im_X11_peek se_X11_peek ml_X11_148 rfl (co_338 (by repeat (first | with_reducible exact hw | with_reducible exact hwc | with_reducible assumption | with_reducible apply Wf.sI | with_reducible apply Wf.sL | with_reducible apply Wf.cpI | with_reducible apply Wf.cpL | with_reducible apply Wf.cp2 | with_reducible apply Wf.sIs | with_reducible apply Wf.sLs | with_reducible apply Wf.cpU | with_reducible apply Wf.fillI | with_reducible apply Wf.clU | with_reducible apply Wf.dnF | with_reducible apply Wf.gbW))) (by decide) hc_X11 (by decide) (by decide) (Nat.le_of_ble_eq_true rfl)) ?_
      refine lf (a_invS (b2 := (0, 0)) (Ct.int hl (m_isDigit _)) rfl dX11_looksNumber_4 yk_X11_isDigit sm_X11_isDigit ml_X11_145 rfl (by decide) (by decide) (Nat.le_of_ble_eq_true rfl)) ?_
      refine lf2 (a_if_eq (tgt := 18) dX11_looksNumber_7 (by decide)) (fun h7 => absurd h7 (by decide)) (fun h7 => ?_)
      refine lf (a_aload_n dX11_looksNumber_10 rfl) ?_
      refine lf (a_inv (b2 := (0, 0)) (m_letters hw1 hH.2.1 e21 hte.1) rfl dX11_looksNumber_11 yk_X11_letters im_X11_letters se_X11_letters ml_X11_151 rfl (co_338 (by repeat (first | with_reducible exact hw | with_reducible exact hwc | with_reducible assumption | with_reducible apply Wf.sI | with_reducible apply Wf.sL | with_reducible apply Wf.cpI | with_reducible apply Wf.cpL | with_reducible apply Wf.cp2 | with_reducible apply Wf.sIs | with_reducible apply Wf.sLs | with_reducible apply Wf.cpU | with_reducible apply Wf.fillI | with_reducible apply Wf.clU | with_reducible apply Wf.dnF | with_reducible apply Wf.gbW))) (by decide) hc_X11 (by decide) (by decide) (Nat.le_of_ble_eq_true rfl)) ?_
      refine lf (a_iconst (4 : Int32) dX11_looksNumber_14 (by decide)) ?_
      refine lf2 (a_icmp_le (tgt := 24) dX11_looksNumber_15 (by decide)) (fun h15 => ?_) (fun h15 => absurd h15 (fun z => z (nI_le (b := 4) (by omega) (by decide))))
      refine lf (a_aload_n dX11_looksNumber_24 rfl) ?_
      refine lf (a_iconst (0 : Int32) dX11_looksNumber_25 (by decide)) ?_
      refine lf (a_putI dX11_looksNumber_26 fs_X11_169 rfl rfl rfl (co_338 (by repeat (first | with_reducible exact hw | with_reducible exact hwc | with_reducible assumption | with_reducible apply Wf.sI | with_reducible apply Wf.sL | with_reducible apply Wf.cpI | with_reducible apply Wf.cpL | with_reducible apply Wf.cp2 | with_reducible apply Wf.sIs | with_reducible apply Wf.sLs | with_reducible apply Wf.cpU | with_reducible apply Wf.fillI | with_reducible apply Wf.clU | with_reducible apply Wf.dnF | with_reducible apply Wf.gbW)))) ?_
      refine lf (a_aload_n dX11_looksNumber_29 rfl) ?_
      refine lf (a_getI dX11_looksNumber_30 fs_X11_136 rfl (co_338 (by repeat (first | with_reducible exact hw | with_reducible exact hwc | with_reducible assumption | with_reducible apply Wf.sI | with_reducible apply Wf.sL | with_reducible apply Wf.cpI | with_reducible apply Wf.cpL | with_reducible apply Wf.cp2 | with_reducible apply Wf.sIs | with_reducible apply Wf.sLs | with_reducible apply Wf.cpU | with_reducible apply Wf.fillI | with_reducible apply Wf.clU | with_reducible apply Wf.dnF | with_reducible apply Wf.gbW)))) ?_
      rw [gI_sI, if_neg (by omega), hH.2.1]
      refine lf (a_istore_n dX11_looksNumber_33 (by decide)) ?_
      refine lf (a_loc ([(0, .ref 338), (1, .int (nI lo)), (2, .int (nI hi)), (3, .int (nI (tkS B n p)))]) rfl) (ln_l ((hz.hd hF hH).s (Or.inl rfl) 0) hte.2.1 (by rw [gI_sI, if_neg (by omega), e21]) (N := tkN B n p) (fun W hK e22 => ?_) (tkE B n p - tkS B n p) (tkS B n p) 0 _ (by omega) (fun i h1 h2 => tkE_run hd2.1 hd2.2 (Or.inr rfl) i h1 h2) ⟨FkF.rfl' (by exact ((hz.hd hF hH).s (Or.inl rfl) 0).wf), fun _ _ => rfl⟩ (by rw [gI_sI, if_pos ⟨rfl, rfl⟩]; rfl) rfl)
      have hK2 : tkK B n p = 2 := tkK2.mpr ⟨hd2.1, hd2.2, h4⟩
      have hNl : tkN B n p < 10000 := by
        have h1 := nuW_lt B (tkE B n p - tkS B n p) (tkS B n p) 0 (fun i h1 h2 => tkE_run hd2.1 hd2.2 (Or.inr rfl) i h1 (by omega))
        have h2 : 10 ^ (tkE B n p - tkS B n p) ≤ 10 ^ 4 := Nat.pow_le_pow_right (by decide) h4
        have h3 : tkN B n p = nuW B (tkE B n p - tkS B n p) (tkS B n p) 0 := rfl
        omega
      have hw2 := hK.1.1.1
      have hFF : FkF μ W := (hF.fk.set (k := 22) (by decide) 0).trans hK.1
      have f18 : gI W 338 18 = nI (tkS B n p) := (hK.2 18 (by decide)).trans (by rw [gI_sI, if_neg (by omega)]; exact hH.1)
      have f20 : gI W 338 20 = nI (tkS B n p) := (hK.2 20 (by decide)).trans (by rw [gI_sI, if_neg (by omega)]; exact hH.2.1)
      have f21 : gI W 338 21 = nI (pkE B n p) := (hK.2 21 (by decide)).trans (by rw [gI_sI, if_neg (by omega)]; exact hH.2.2)
      have hM : MgV B n p z W := ((hz.hd hF hH).s (Or.inl rfl) 0).fk hK.1 (hK.2 23 (by decide)) (hK.2 24 (by decide)) hz.le f18 (tkS_le hz.le).2 (tkS_idem hz.le)
      clear hl hH hK hF k1 hw
      generalize hNe : tkN B n p = N at e22 hNl
      refine lf (a_aload_n dX11_looksNumber_68 rfl) ?_
      refine lf (a_getI dX11_looksNumber_69 fs_X11_169 rfl (co_338 (by repeat (first | with_reducible exact hw | with_reducible exact hwc | with_reducible assumption | with_reducible apply Wf.sI | with_reducible apply Wf.sL | with_reducible apply Wf.cpI | with_reducible apply Wf.cpL | with_reducible apply Wf.cp2 | with_reducible apply Wf.sIs | with_reducible apply Wf.sLs | with_reducible apply Wf.cpU | with_reducible apply Wf.fillI | with_reducible apply Wf.clU | with_reducible apply Wf.dnF | with_reducible apply Wf.gbW)))) ?_
      rw [e22]
      refine lf (a_iload_n dX11_looksNumber_72 rfl) ?_
      refine lf (a_iload_n dX11_looksNumber_73 rfl) ?_
      refine lf (a_invS (b2 := (0, 0)) (m_in (nI N) (nI lo) (nI hi)) rfl dX11_looksNumber_74 yk_X11_in sm_X11_in ml_X11_102 rfl (by decide) (by decide) (Nat.le_of_ble_eq_true rfl)) ?_
      refine lfn (a_if_ne (tgt := 88) dX11_looksNumber_77 (by decide)) (fun h77 => ?_) (fun h77 => ?_)
      · have h77 : lo ≤ N ∧ N ≤ hi := by
          unfold inI at h77
          have q1 : ¬ nI N < nI lo := fun z => h77 (if_pos z)
          have q2 : ¬ nI hi < nI N := fun z => h77 (by rw [if_neg q1, if_pos z])
          rw [nI_ltI (by omega) hlo] at q1
          rw [nI_ltI hhi (by omega)] at q2
          omega
        refine lf (a_iconst (1 : Int32) dX11_looksNumber_88 (by decide)) ?_
        refine lf (a_goto (tgt := 93) dX11_looksNumber_89 (by decide)) ?_
        refine ⟨_, _, (a_ireturn dX11_looksNumber_93 rfl rfl), ?_⟩
        refine ⟨_, rfl, RdK.ok hFF ?_ ⟨hM, ⟨f18, f20, f21⟩, hd2.1, e22⟩⟩
        unfold nhS
        rw [if_neg (fun z => z hK2), hNe, if_neg (by omega), if_neg (by omega)]
      · have h77 : ¬ (lo ≤ N ∧ N ≤ hi) := by
          intro z
          unfold inI at h77
          rw [if_neg (by rw [nI_ltI (by omega) hlo]; omega), if_neg (by rw [nI_ltI hhi (by omega)]; omega)] at h77
          exact absurd h77 (by decide)
        refine lf (a_aload_n dX11_looksNumber_80 rfl) ?_
        refine lf (a_iconst (2 : Int32) dX11_looksNumber_81 (by decide)) ?_
        refine lf (a_inv (b2 := (0, 0)) (m_fails hw2 2) rfl dX11_looksNumber_82 yk_X11_fails im_X11_fails se_X11_fails ml_X11_166 rfl (co_338 (by repeat (first | with_reducible exact hw | with_reducible exact hwc | with_reducible assumption | with_reducible apply Wf.sI | with_reducible apply Wf.sL | with_reducible apply Wf.cpI | with_reducible apply Wf.cpL | with_reducible apply Wf.cp2 | with_reducible apply Wf.sIs | with_reducible apply Wf.sLs | with_reducible apply Wf.cpU | with_reducible apply Wf.fillI | with_reducible apply Wf.clU | with_reducible apply Wf.dnF | with_reducible apply Wf.gbW))) (by decide) hc_X11 (by decide) (by decide) (Nat.le_of_ble_eq_true rfl)) ?_
        refine lf2 (a_if_eq (tgt := 92) dX11_looksNumber_85 (by decide)) (fun h85 => ?_) (fun h85 => absurd h85 (by decide))
        refine lf (a_iconst (0 : Int32) dX11_looksNumber_92 (by decide)) ?_
        refine ⟨_, _, (a_ireturn dX11_looksNumber_93 rfl rfl), ?_⟩
        refine ⟨_, rfl, RdK.fail (c := 2) hFF f20 ?_⟩
        unfold nhS
        rw [if_neg (fun z => z hK2), hNe]
        by_cases hq : N < lo
        · rw [if_pos hq]
        · rw [if_neg hq, if_pos (by omega)]
    · refine lf (a_aload_n dX11_looksNumber_0 rfl) ?_
      obtain ⟨v_, W1, k1, rfl, hF, hH⟩ := (m_peek hw hz.tx)
      have hw1 := hF.1.1
      have e21 := hH.e hd2.1
      refine lf (a_inv (b2 := (0, 0)) k1 rfl dX11_looksNumber_1 yk_X11_peek im_X11_peek se_X11_peek ml_X11_148 rfl (co_338 (by repeat (first | with_reducible exact hw | with_reducible exact hwc | with_reducible assumption | with_reducible apply Wf.sI | with_reducible apply Wf.sL | with_reducible apply Wf.cpI | with_reducible apply Wf.cpL | with_reducible apply Wf.cp2 | with_reducible apply Wf.sIs | with_reducible apply Wf.sLs | with_reducible apply Wf.cpU | with_reducible apply Wf.fillI | with_reducible apply Wf.clU | with_reducible apply Wf.dnF | with_reducible apply Wf.gbW))) (by decide) hc_X11 (by decide) (by decide) (Nat.le_of_ble_eq_true rfl)) ?_
      refine lf (a_invS (b2 := (0, 0)) (Ct.int hl (m_isDigit _)) rfl dX11_looksNumber_4 yk_X11_isDigit sm_X11_isDigit ml_X11_145 rfl (by decide) (by decide) (Nat.le_of_ble_eq_true rfl)) ?_
      refine lf2 (a_if_eq (tgt := 18) dX11_looksNumber_7 (by decide)) (fun h7 => absurd h7 (by decide)) (fun h7 => ?_)
      refine lf (a_aload_n dX11_looksNumber_10 rfl) ?_
      refine lf (a_inv (b2 := (0, 0)) (m_letters hw1 hH.2.1 e21 hte.1) rfl dX11_looksNumber_11 yk_X11_letters im_X11_letters se_X11_letters ml_X11_151 rfl (co_338 (by repeat (first | with_reducible exact hw | with_reducible exact hwc | with_reducible assumption | with_reducible apply Wf.sI | with_reducible apply Wf.sL | with_reducible apply Wf.cpI | with_reducible apply Wf.cpL | with_reducible apply Wf.cp2 | with_reducible apply Wf.sIs | with_reducible apply Wf.sLs | with_reducible apply Wf.cpU | with_reducible apply Wf.fillI | with_reducible apply Wf.clU | with_reducible apply Wf.dnF | with_reducible apply Wf.gbW))) (by decide) hc_X11 (by decide) (by decide) (Nat.le_of_ble_eq_true rfl)) ?_
      refine lf (a_iconst (4 : Int32) dX11_looksNumber_14 (by decide)) ?_
      refine lf2 (a_icmp_le (tgt := 24) dX11_looksNumber_15 (by decide)) (fun h15 => absurd h15 (fun z => absurd ((nI_leI (b := 4) (by omega) (by decide)).mp z) h4)) (fun h15 => ?_)
      refine lf (a_aload_n dX11_looksNumber_18 rfl) ?_
      refine lf (a_iconst (1 : Int32) dX11_looksNumber_19 (by decide)) ?_
      refine lf (a_inv (b2 := (0, 0)) (m_fails hw1 1) rfl dX11_looksNumber_20 yk_X11_fails im_X11_fails se_X11_fails ml_X11_166 rfl (co_338 (by repeat (first | with_reducible exact hw | with_reducible exact hwc | with_reducible assumption | with_reducible apply Wf.sI | with_reducible apply Wf.sL | with_reducible apply Wf.cpI | with_reducible apply Wf.cpL | with_reducible apply Wf.cp2 | with_reducible apply Wf.sIs | with_reducible apply Wf.sLs | with_reducible apply Wf.cpU | with_reducible apply Wf.fillI | with_reducible apply Wf.clU | with_reducible apply Wf.dnF | with_reducible apply Wf.gbW))) (by decide) hc_X11 (by decide) (by decide) (Nat.le_of_ble_eq_true rfl)) ?_
      refine ⟨_, _, (a_ireturn dX11_looksNumber_23 rfl rfl), ?_⟩
      exact ⟨_, rfl, RdK.fail (c := 1) hF.fk hH.2.1 (if_pos (fun z => h4 (tkK2.mp z).2.2))⟩
  · rw [if_neg hd2] at hl
    refine lf (a_aload_n dX11_looksNumber_0 rfl) ?_
    obtain ⟨v_, W1, k1, rfl, hF, hH⟩ := (m_peek hw hz.tx)
    have hw1 := hF.1.1
    refine lf (a_inv (b2 := (0, 0)) k1 rfl dX11_looksNumber_1 yk_X11_peek im_X11_peek se_X11_peek ml_X11_148 rfl (co_338 (by repeat (first | with_reducible exact hw | with_reducible exact hwc | with_reducible assumption | with_reducible apply Wf.sI | with_reducible apply Wf.sL | with_reducible apply Wf.cpI | with_reducible apply Wf.cpL | with_reducible apply Wf.cp2 | with_reducible apply Wf.sIs | with_reducible apply Wf.sLs | with_reducible apply Wf.cpU | with_reducible apply Wf.fillI | with_reducible apply Wf.clU | with_reducible apply Wf.dnF | with_reducible apply Wf.gbW))) (by decide) hc_X11 (by decide) (by decide) (Nat.le_of_ble_eq_true rfl)) ?_
    refine lf (a_invS (b2 := (0, 0)) (Ct.int hl (m_isDigit _)) rfl dX11_looksNumber_4 yk_X11_isDigit sm_X11_isDigit ml_X11_145 rfl (by decide) (by decide) (Nat.le_of_ble_eq_true rfl)) ?_
    refine lf2 (a_if_eq (tgt := 18) dX11_looksNumber_7 (by decide)) (fun h7 => ?_) (fun h7 => absurd h7 (by decide))
    refine lf (a_aload_n dX11_looksNumber_18 rfl) ?_
    refine lf (a_iconst (1 : Int32) dX11_looksNumber_19 (by decide)) ?_
    refine lf (a_inv (b2 := (0, 0)) (m_fails hw1 1) rfl dX11_looksNumber_20 yk_X11_fails im_X11_fails se_X11_fails ml_X11_166 rfl (co_338 (by repeat (first | with_reducible exact hw | with_reducible exact hwc | with_reducible assumption | with_reducible apply Wf.sI | with_reducible apply Wf.sL | with_reducible apply Wf.cpI | with_reducible apply Wf.cpL | with_reducible apply Wf.cp2 | with_reducible apply Wf.sIs | with_reducible apply Wf.sLs | with_reducible apply Wf.cpU | with_reducible apply Wf.fillI | with_reducible apply Wf.clU | with_reducible apply Wf.dnF | with_reducible apply Wf.gbW))) (by decide) hc_X11 (by decide) (by decide) (Nat.le_of_ble_eq_true rfl)) ?_
    refine ⟨_, _, (a_ireturn dX11_looksNumber_23 rfl rfl), ?_⟩
    exact ⟨_, rfl, RdK.fail (c := 1) hF.fk hH.2.1 (if_pos (fun z => hd2 ⟨(tkK2.mp z).1, (tkK2.mp z).2.1⟩))⟩
abbrev R_X11_readNumber : Room := { frames := 4, cells := 0, slots := 0, locals := 86 }
abbrev RX_X11_readNumber : Room := { frames := 4, cells := 1, slots := 6, locals := 86 }

theorem m_readNumber (hz : MgV B n p z μ) {lo hi : Nat} (hlo : lo < 2 ^ 31) (hhi : hi < 2 ^ 31) : CV Y_X11_readNumber R_X11_readNumber [.ref 338, .int (nI lo), .int (nI hi)] μ (RdK μ (nhS B n p lo hi) (fun a V => MgV B n (tkE B n p) z V ∧ gI V 338 22 = nI a)) := by
  refine CV.ent yk_X11_readNumber (Nat.le_of_ble_eq_true rfl) ?_
  have hw := hz.wf
  refine lf (a_aload_n dX11_readNumber_0 rfl) ?_
  refine lf (a_iload_n dX11_readNumber_1 rfl) ?_
  refine lf (a_iload_n dX11_readNumber_2 rfl) ?_
  obtain ⟨v_, W3, k3, hR3⟩ := (m_looksNumber hz hlo hhi)
  obtain ⟨hX3, hR3⟩ := hR3
  generalize hr3 : nhS B n p lo hi = r3 at hR3
  cases r3 with
  | inl a3 =>
    obtain ⟨rfl, hE⟩ := hR3
    refine lf (a_inv (b2 := (0, 0)) k3 rfl dX11_readNumber_3 yk_X11_looksNumber im_X11_looksNumber se_X11_looksNumber ml_X11_172 rfl (co_338 (by repeat (first | with_reducible exact hw | with_reducible exact hwc | with_reducible assumption | with_reducible apply Wf.sI | with_reducible apply Wf.sL | with_reducible apply Wf.cpI | with_reducible apply Wf.cpL | with_reducible apply Wf.cp2 | with_reducible apply Wf.sIs | with_reducible apply Wf.sLs | with_reducible apply Wf.cpU | with_reducible apply Wf.fillI | with_reducible apply Wf.clU | with_reducible apply Wf.dnF | with_reducible apply Wf.gbW))) (by decide) hc_X11 (by decide) (by decide) (Nat.le_of_ble_eq_true rfl)) ?_
    refine lf2 (a_if_eq (tgt := 20) dX11_readNumber_6 (by decide)) (fun h6 => ?_) (fun h6 => absurd h6 (by decide))
    refine lf (a_iconst (0 : Int32) dX11_readNumber_20 (by decide)) ?_
    refine ⟨_, _, (a_ireturn dX11_readNumber_21 rfl rfl), ?_⟩
    exact ⟨_, rfl, RdK.bad hX3 rfl hE⟩
  | inr a3 =>
    obtain ⟨rfl, hM, hH, hs, e22⟩ := hR3
    have hw3 := hM.wf
    have e21 := hH.e hs
    refine lf (a_inv (b2 := (0, 0)) k3 rfl dX11_readNumber_3 yk_X11_looksNumber im_X11_looksNumber se_X11_looksNumber ml_X11_172 rfl (co_338 (by repeat (first | with_reducible exact hw | with_reducible exact hwc | with_reducible assumption | with_reducible apply Wf.sI | with_reducible apply Wf.sL | with_reducible apply Wf.cpI | with_reducible apply Wf.cpL | with_reducible apply Wf.cp2 | with_reducible apply Wf.sIs | with_reducible apply Wf.sLs | with_reducible apply Wf.cpU | with_reducible apply Wf.fillI | with_reducible apply Wf.clU | with_reducible apply Wf.dnF | with_reducible apply Wf.gbW))) (by decide) hc_X11 (by decide) (by decide) (Nat.le_of_ble_eq_true rfl)) ?_
    refine lf2 (a_if_eq (tgt := 20) dX11_readNumber_6 (by decide)) (fun h6 => absurd h6 (by decide)) (fun h6 => ?_)
    refine lf (a_aload_n dX11_readNumber_9 rfl) ?_
    refine lf (a_inv (b2 := (0, 0)) (m_passes hw3) rfl dX11_readNumber_10 yk_X11_passes im_X11_passes se_X11_passes ml_X11_162 rfl (co_338 (by repeat (first | with_reducible exact hw | with_reducible exact hwc | with_reducible assumption | with_reducible apply Wf.sI | with_reducible apply Wf.sL | with_reducible apply Wf.cpI | with_reducible apply Wf.cpL | with_reducible apply Wf.cp2 | with_reducible apply Wf.sIs | with_reducible apply Wf.sLs | with_reducible apply Wf.cpU | with_reducible apply Wf.fillI | with_reducible apply Wf.clU | with_reducible apply Wf.dnF | with_reducible apply Wf.gbW))) (by decide) hc_X11 (by decide) (by decide) (Nat.le_of_ble_eq_true rfl)) ?_
    refine lf2 (a_if_eq (tgt := 20) dX11_readNumber_13 (by decide)) (fun h13 => absurd h13 (by decide)) (fun h13 => ?_)
    refine lf (a_iconst (1 : Int32) dX11_readNumber_16 (by decide)) ?_
    refine lf (a_goto (tgt := 21) dX11_readNumber_17 (by decide)) ?_
    refine ⟨_, _, (a_ireturn dX11_readNumber_21 rfl rfl), ?_⟩
    exact ⟨_, rfl, RdK.ok (hX3.set (by decide) _) rfl ⟨hM.pass e21, by rw [gI_sI, if_neg (by omega)]; exact e22⟩⟩
end MREAD
