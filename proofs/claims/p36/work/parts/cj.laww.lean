section LAWW
variable {μ W V : Wd} {p p0 N k u m bc bs : Nat} {q : PDt} {d d2 d0 : FDt} {H : Hst} {S : Nat → Option FDt} {X : Nat × (Nat → Int32)} {L0 B0 : Int64} {x19 : Int32}
abbrev Y_L_law : Yd := (yL_law, cL_law, 20, (some .boolean), [])
abbrev RLaw : Room := { frames := 2048, cells := 600086, slots := 7301442, locals := 84000 }
abbrev LA0 (m : Nat) : List (Nat × Value) := [(0, .ref 2000000), (1, .ref 0), (2, .ref 338), (3, .int 1), (4, .int (nI m))]
abbrev LB0 (m : Nat) (L0 B0 : Int64) (u : Nat) : List (Nat × Value) := [(0, .ref 2000000), (1, .ref 0), (2, .ref 338), (3, .int 1), (4, .int (nI m)), (5, .long L0), (7, .long B0), (9, .int (nI u))]
abbrev QLw : Oc → Wd → Prop := fun o _ => o = .inl (some (.int 1))
theorem law_turn1 (hI : LwK p p0 q d2 (pushH H d) S N X k W) (hgo : goD q d) (hL : dA d 0 = L0) (h12 : H.1 ≤ 12) (hgo2 : goD q d2) (hL2 : dA d2 0 = L0) (hk : k + 1 < 1000000) (kx : ∀ (W : Wd) (d : FDt) (H : Hst), LwK p p0 q d H S N X (k + 1) W → goD q d → dA d 0 = L0 → WP Y_L_law RLaw (bc, bs) W 123 (LB0 m L0 B0 (u + 1)) [] QLw) : WP Y_L_law RLaw (bc + 2, bs + 18) W 162 [(0, .ref 2000000), (1, .ref 0), (2, .ref 338), (3, .int 1), (4, .int (nI m)), (5, .long L0), (7, .long B0), (9, .int (nI u)), (10, .long (sumF q d)), (12, .int 1)] [] QLw := by
  have hw := hI.1.wf
  have hwo := hw
  obtain ⟨n9, hn9, ht9⟩ := push_top (d := d) h12
  have h13 := hI.1.h12
  refine lf (a_aload_n dL_law_162 rfl) ?_
  obtain ⟨v_, W163, k163, rfl, h163⟩ := t_L_trolleys hI.1
  refine lf (a_invS (b2 := (bc + 2, bs + 18)) k163 rfl dL_law_163 yk_L_trolleys sm_L_trolleys ml_L_189 rfl (by decide) ⟨Nat.le_of_eq (Nat.zero_add _), Nat.le_of_eq (Nat.zero_add _)⟩ (Nat.le_of_ble_eq_true rfl)) ?_
  have hI := hI.tr h163
  have hwo := hw
  have hw := hI.1.wf
  refine lf2 (a_if_eq (tgt := 227) dL_law_166 (by decide)) (fun h166 => absurd h166 (by decide)) (fun h166 => ?_)
  refine lf (a_aload_n dL_law_169 rfl) ?_
  obtain ⟨v_, W170, k170, rfl, h170⟩ := t_L_order hI.1
  refine lf (a_invS (b2 := (bc + 2, bs + 18)) k170 rfl dL_law_170 yk_L_order sm_L_order ml_L_193 rfl (by decide) ⟨Nat.le_of_eq (Nat.zero_add _), Nat.le_of_eq (Nat.zero_add _)⟩ (Nat.le_of_ble_eq_true rfl)) ?_
  have hI := hI.tr h170
  have hwo := hw
  have hw := hI.1.wf
  refine lf2 (a_if_eq (tgt := 227) dL_law_173 (by decide)) (fun h173 => absurd h173 (by decide)) (fun h173 => ?_)
  refine lf (a_aload_n dL_law_176 rfl) ?_
  obtain ⟨v_, W177, k177, n177, hn177, rfl, hI⟩ := w_nextK hI
  refine lf (a_invS (b2 := (bc + 2, bs + 18)) k177 rfl dL_law_177 yk_L_next sm_L_next ml_L_39 rfl (by decide) ⟨Nat.le_of_eq (Nat.zero_add _), Nat.le_of_eq (Nat.zero_add _)⟩ (Nat.le_of_ble_eq_true rfl)) ?_
  have hwo := hw
  have hw := hI.1.wf
  refine lf (a_iconst (3 : Int32) dL_law_180 (by decide)) ?_
  refine lf (a_irem dL_law_181 (by decide)) ?_
  rw [show nI n177 - nI n177 / 3 * 3 = nI (n177 % 3) from pk_rem (d := 3) (by omega) (by decide) (by decide)]
  refine lf2 (a_if_gt (tgt := 192) dL_law_182 (by decide)) (fun h182 => ?_) (fun h182 => ?_)
  · refine lf (a_room (b' := (bc + 1, bs + 6)) (by show bc + 1 ≤ bc + 2; omega) (by show bs + 6 ≤ bs + 18; omega)) ?_
    have hI := hI.mono (Nat.le_succ k)
    refine lf (a_aload_n dL_law_192 rfl) ?_
    refine lf (a_iconst (0 : Int32) dL_law_193 (by decide)) ?_
    refine lf (a_inv (b2 := (bc + 1, bs + 6)) (w_account hI.1 (k := 0) (by decide)) rfl dL_law_194 yk_X10_account im_X10_account se_X10_account ml_L_139 rfl (co_0 hw) (by decide) hc_X10 (by decide) ⟨Nat.le_of_eq (Nat.zero_add _), Nat.le_of_eq (Nat.zero_add _)⟩ (Nat.le_of_ble_eq_true rfl)) ?_
    refine lf (a_aload_n dL_law_197 rfl) ?_
    refine lf (a_iconst (1 : Int32) dL_law_198 (by decide)) ?_
    refine lf (a_inv (b2 := (bc + 1, bs + 6)) (w_account hI.1 (k := 1) (by decide)) rfl dL_law_199 yk_X10_account im_X10_account se_X10_account ml_L_139 rfl (co_0 hw) (by decide) hc_X10 (by decide) ⟨Nat.le_of_eq (Nat.zero_add _), Nat.le_of_eq (Nat.zero_add _)⟩ (Nat.le_of_ble_eq_true rfl)) ?_
    refine lf (a_aload_n dL_law_202 rfl) ?_
    refine lf (a_iconst (2 : Int32) dL_law_203 (by decide)) ?_
    refine lf (a_inv (b2 := (bc + 1, bs + 6)) (w_account hI.1 (k := 2) (by decide)) rfl dL_law_204 yk_X10_account im_X10_account se_X10_account ml_L_139 rfl (co_0 hw) (by decide) hc_X10 (by decide) ⟨Nat.le_of_eq (Nat.zero_add _), Nat.le_of_eq (Nat.zero_add _)⟩ (Nat.le_of_ble_eq_true rfl)) ?_
    refine lf (a_ladd dL_law_207) ?_
    refine lf (a_lcmp dL_law_208) ?_
    refine lfn (a_if_ne (tgt := 227) dL_law_209 (by decide)) (fun h209 => absurd h209 (fun z => z (lc_eq hI.1.2.2.1.2.2.2.2))) (fun h209 => ?_)
    refine lf (a_aload_n dL_law_212 rfl) ?_
    refine lf (a_iconst (0 : Int32) dL_law_213 (by decide)) ?_
    refine lf (a_inv (b2 := (bc + 1, bs + 6)) (w_account hI.1 (k := 0) (by decide)) rfl dL_law_214 yk_X10_account im_X10_account se_X10_account ml_L_139 rfl (co_0 hw) (by decide) hc_X10 (by decide) ⟨Nat.le_of_eq (Nat.zero_add _), Nat.le_of_eq (Nat.zero_add _)⟩ (Nat.le_of_ble_eq_true rfl)) ?_
    refine lf (a_lload dL_law_217 rfl) ?_
    refine lf (a_lcmp dL_law_219) ?_
    refine lfn (a_if_ne (tgt := 227) dL_law_220 (by decide)) (fun h220 => absurd h220 (fun z => z (lc_eq hL2))) (fun h220 => ?_)
    refine lf (a_iconst (1 : Int32) dL_law_223 (by decide)) ?_
    refine lf (a_goto (tgt := 228) dL_law_224 (by decide)) ?_
    refine lf (a_istore_n dL_law_228 (by decide)) ?_
    refine lf (a_iload_n dL_law_229 rfl) ?_
    refine lf2 (a_if_eq (tgt := 270) dL_law_230 (by decide)) (fun h230 => absurd h230 (by decide)) (fun h230 => ?_)
    refine lf (a_iload dL_law_233 rfl) ?_
    refine lf2 (a_if_eq (tgt := 270) dL_law_235 (by decide)) (fun h235 => absurd h235 (by decide)) (fun h235 => ?_)
    refine lf (a_aload_n dL_law_238 rfl) ?_
    obtain ⟨v_, W239, k239, n239, hn239, rfl, hI⟩ := w_nextK hI
    refine lf (a_invS (b2 := (bc + 1, bs + 6)) k239 rfl dL_law_239 yk_L_next sm_L_next ml_L_39 rfl (by decide) ⟨Nat.le_of_eq (Nat.zero_add _), Nat.le_of_eq (Nat.zero_add _)⟩ (Nat.le_of_ble_eq_true rfl)) ?_
    have hwo := hw
    have hw := hI.1.wf
    refine lf (a_iconst (4 : Int32) dL_law_242 (by decide)) ?_
    refine lf (a_irem dL_law_243 (by decide)) ?_
    rw [show nI n239 - nI n239 / 4 * 4 = nI (n239 % 4) from pk_rem (d := 4) (by omega) (by decide) (by decide)]
    refine lfn (a_if_ne (tgt := 270) dL_law_244 (by decide)) (fun h244 => ?_) (fun h244 => ?_)
    · refine lf (a_iincN dL_law_270 rfl (by decide)) ?_
      refine lf (a_goto (tgt := 123) dL_law_273 (by decide)) ?_
      first
      | exact lf (a_room (b' := (bc, bs)) (by show bc ≤ bc + 1; omega) (by show bs ≤ bs + 6; omega)) (lf (a_loc _ rfl) (kx _ _ _ hI hgo2 hL2))
      | exact lf (a_loc _ rfl) (kx _ _ _ hI hgo hL)
    · refine lf (a_aload_n dL_law_247 rfl) ?_
      obtain ⟨v_, W248, k248, rfl, hU, hO⟩ := w_undone hI.1 hn9
      rw [ht9] at hU
      refine lf (a_invSH (b2 := (bc, bs)) k248 rfl dL_law_248 yh_L_undone sm_L_undone ml_L_199 rfl (by decide) ⟨by show 1 + bc ≤ _; omega, by show 6 + bs ≤ _; omega⟩ (Nat.le_of_ble_eq_true rfl)) ?_
      have hI := hI.act hU hO
      have hw := hI.1.wf
      refine lf2 (a_if_lt (tgt := 268) dL_law_251 (by decide)) (fun h251 => absurd h251 (nI_pos (by omega))) (fun h251 => ?_)
      refine lf (a_aload_n dL_law_254 rfl) ?_
      obtain ⟨v_, W255, k255, rfl, h255⟩ := t_L_sum hI.1
      refine lf (a_invS (b2 := (bc, bs)) k255 rfl dL_law_255 yk_L_sum sm_L_sum ml_L_181 rfl (by decide) ⟨Nat.le_of_eq (Nat.zero_add _), Nat.le_of_eq (Nat.zero_add _)⟩ (Nat.le_of_ble_eq_true rfl)) ?_
      have hI := hI.tr h255
      have hwo := hw
      have hw := hI.1.wf
      refine lf (a_lload dL_law_258 rfl) ?_
      refine lf (a_lcmp dL_law_260) ?_
      refine lfn (a_if_ne (tgt := 268) dL_law_261 (by decide)) (fun h261 => absurd h261 (fun z => z (lc_eq rfl))) (fun h261 => ?_)
      refine lf (a_iconst (1 : Int32) dL_law_264 (by decide)) ?_
      refine lf (a_goto (tgt := 269) dL_law_265 (by decide)) ?_
      refine lf (a_istore_n dL_law_269 (by decide)) ?_
      refine lf (a_iincN dL_law_270 rfl (by decide)) ?_
      refine lf (a_goto (tgt := 123) dL_law_273 (by decide)) ?_
      first
      | exact lf (a_room (b' := (bc, bs)) (by show bc ≤ bc + 1; omega) (by show bs ≤ bs + 6; omega)) (lf (a_loc _ rfl) (kx _ _ _ hI hgo2 hL2))
      | exact lf (a_loc _ rfl) (kx _ _ _ hI hgo hL)
  · refine lf (a_aload_n dL_law_185 rfl) ?_
    obtain ⟨v_, W186, k186, rfl, h186⟩ := t_L_service hI.1 (by have := hI.2.1; omega)
    refine lf (a_invS (b2 := (bc + 1, bs + 6)) k186 rfl dL_law_186 yk_L_service sm_L_service ml_L_196 rfl (by decide) ⟨by show 1 + (bc + 1) ≤ _; omega, by show 12 + (bs + 6) ≤ _; omega⟩ (Nat.le_of_ble_eq_true rfl)) ?_
    have hI := hI.b h186
    have hwo := hw
    have hw := hI.1.wf
    refine lf2 (a_if_eq (tgt := 227) dL_law_189 (by decide)) (fun h189 => absurd h189 (by decide)) (fun h189 => ?_)
    refine lf (a_aload_n dL_law_192 rfl) ?_
    refine lf (a_iconst (0 : Int32) dL_law_193 (by decide)) ?_
    refine lf (a_inv (b2 := (bc + 1, bs + 6)) (w_account hI.1 (k := 0) (by decide)) rfl dL_law_194 yk_X10_account im_X10_account se_X10_account ml_L_139 rfl (co_0 hw) (by decide) hc_X10 (by decide) ⟨Nat.le_of_eq (Nat.zero_add _), Nat.le_of_eq (Nat.zero_add _)⟩ (Nat.le_of_ble_eq_true rfl)) ?_
    refine lf (a_aload_n dL_law_197 rfl) ?_
    refine lf (a_iconst (1 : Int32) dL_law_198 (by decide)) ?_
    refine lf (a_inv (b2 := (bc + 1, bs + 6)) (w_account hI.1 (k := 1) (by decide)) rfl dL_law_199 yk_X10_account im_X10_account se_X10_account ml_L_139 rfl (co_0 hw) (by decide) hc_X10 (by decide) ⟨Nat.le_of_eq (Nat.zero_add _), Nat.le_of_eq (Nat.zero_add _)⟩ (Nat.le_of_ble_eq_true rfl)) ?_
    refine lf (a_aload_n dL_law_202 rfl) ?_
    refine lf (a_iconst (2 : Int32) dL_law_203 (by decide)) ?_
    refine lf (a_inv (b2 := (bc + 1, bs + 6)) (w_account hI.1 (k := 2) (by decide)) rfl dL_law_204 yk_X10_account im_X10_account se_X10_account ml_L_139 rfl (co_0 hw) (by decide) hc_X10 (by decide) ⟨Nat.le_of_eq (Nat.zero_add _), Nat.le_of_eq (Nat.zero_add _)⟩ (Nat.le_of_ble_eq_true rfl)) ?_
    refine lf (a_ladd dL_law_207) ?_
    refine lf (a_lcmp dL_law_208) ?_
    refine lfn (a_if_ne (tgt := 227) dL_law_209 (by decide)) (fun h209 => absurd h209 (fun z => z (lc_eq hI.1.2.2.1.2.2.2.2))) (fun h209 => ?_)
    refine lf (a_aload_n dL_law_212 rfl) ?_
    refine lf (a_iconst (0 : Int32) dL_law_213 (by decide)) ?_
    refine lf (a_inv (b2 := (bc + 1, bs + 6)) (w_account hI.1 (k := 0) (by decide)) rfl dL_law_214 yk_X10_account im_X10_account se_X10_account ml_L_139 rfl (co_0 hw) (by decide) hc_X10 (by decide) ⟨Nat.le_of_eq (Nat.zero_add _), Nat.le_of_eq (Nat.zero_add _)⟩ (Nat.le_of_ble_eq_true rfl)) ?_
    refine lf (a_lload dL_law_217 rfl) ?_
    refine lf (a_lcmp dL_law_219) ?_
    refine lfn (a_if_ne (tgt := 227) dL_law_220 (by decide)) (fun h220 => absurd h220 (fun z => z (lc_eq hL2))) (fun h220 => ?_)
    refine lf (a_iconst (1 : Int32) dL_law_223 (by decide)) ?_
    refine lf (a_goto (tgt := 228) dL_law_224 (by decide)) ?_
    refine lf (a_istore_n dL_law_228 (by decide)) ?_
    refine lf (a_iload_n dL_law_229 rfl) ?_
    refine lf2 (a_if_eq (tgt := 270) dL_law_230 (by decide)) (fun h230 => absurd h230 (by decide)) (fun h230 => ?_)
    refine lf (a_iload dL_law_233 rfl) ?_
    refine lf2 (a_if_eq (tgt := 270) dL_law_235 (by decide)) (fun h235 => absurd h235 (by decide)) (fun h235 => ?_)
    refine lf (a_aload_n dL_law_238 rfl) ?_
    obtain ⟨v_, W239, k239, n239, hn239, rfl, hI⟩ := w_nextK hI
    refine lf (a_invS (b2 := (bc + 1, bs + 6)) k239 rfl dL_law_239 yk_L_next sm_L_next ml_L_39 rfl (by decide) ⟨Nat.le_of_eq (Nat.zero_add _), Nat.le_of_eq (Nat.zero_add _)⟩ (Nat.le_of_ble_eq_true rfl)) ?_
    have hwo := hw
    have hw := hI.1.wf
    refine lf (a_iconst (4 : Int32) dL_law_242 (by decide)) ?_
    refine lf (a_irem dL_law_243 (by decide)) ?_
    rw [show nI n239 - nI n239 / 4 * 4 = nI (n239 % 4) from pk_rem (d := 4) (by omega) (by decide) (by decide)]
    refine lfn (a_if_ne (tgt := 270) dL_law_244 (by decide)) (fun h244 => ?_) (fun h244 => ?_)
    · refine lf (a_iincN dL_law_270 rfl (by decide)) ?_
      refine lf (a_goto (tgt := 123) dL_law_273 (by decide)) ?_
      first
      | exact lf (a_room (b' := (bc, bs)) (by show bc ≤ bc + 1; omega) (by show bs ≤ bs + 6; omega)) (lf (a_loc _ rfl) (kx _ _ _ hI hgo2 hL2))
      | exact lf (a_loc _ rfl) (kx _ _ _ hI hgo hL)
    · refine lf (a_aload_n dL_law_247 rfl) ?_
      obtain ⟨v_, W248, k248, rfl, hU, hO⟩ := w_undone hI.1 hn9
      rw [ht9] at hU
      refine lf (a_invSH (b2 := (bc, bs)) k248 rfl dL_law_248 yh_L_undone sm_L_undone ml_L_199 rfl (by decide) ⟨by show 1 + bc ≤ _; omega, by show 6 + bs ≤ _; omega⟩ (Nat.le_of_ble_eq_true rfl)) ?_
      have hI := hI.act hU hO
      have hw := hI.1.wf
      refine lf2 (a_if_lt (tgt := 268) dL_law_251 (by decide)) (fun h251 => absurd h251 (nI_pos (by omega))) (fun h251 => ?_)
      refine lf (a_aload_n dL_law_254 rfl) ?_
      obtain ⟨v_, W255, k255, rfl, h255⟩ := t_L_sum hI.1
      refine lf (a_invS (b2 := (bc, bs)) k255 rfl dL_law_255 yk_L_sum sm_L_sum ml_L_181 rfl (by decide) ⟨Nat.le_of_eq (Nat.zero_add _), Nat.le_of_eq (Nat.zero_add _)⟩ (Nat.le_of_ble_eq_true rfl)) ?_
      have hI := hI.tr h255
      have hwo := hw
      have hw := hI.1.wf
      refine lf (a_lload dL_law_258 rfl) ?_
      refine lf (a_lcmp dL_law_260) ?_
      refine lfn (a_if_ne (tgt := 268) dL_law_261 (by decide)) (fun h261 => absurd h261 (fun z => z (lc_eq rfl))) (fun h261 => ?_)
      refine lf (a_iconst (1 : Int32) dL_law_264 (by decide)) ?_
      refine lf (a_goto (tgt := 269) dL_law_265 (by decide)) ?_
      refine lf (a_istore_n dL_law_269 (by decide)) ?_
      refine lf (a_iincN dL_law_270 rfl (by decide)) ?_
      refine lf (a_goto (tgt := 123) dL_law_273 (by decide)) ?_
      first
      | exact lf (a_room (b' := (bc, bs)) (by show bc ≤ bc + 1; omega) (by show bs ≤ bs + 6; omega)) (lf (a_loc _ rfl) (kx _ _ _ hI hgo2 hL2))
      | exact lf (a_loc _ rfl) (kx _ _ _ hI hgo hL)
theorem law_turn0 (hI : LwK p p0 q d H S N X k W) (hgo : goD q d) (hL : dA d 0 = L0) (hk : k + 1 < 1000000) (kx : ∀ (W : Wd) (d : FDt) (H : Hst), LwK p p0 q d H S N X (k + 1) W → goD q d → dA d 0 = L0 → WP Y_L_law RLaw (bc, bs) W 123 (LB0 m L0 B0 (u + 1)) [] QLw) : WP Y_L_law RLaw (bc + 2, bs + 18) W 162 [(0, .ref 2000000), (1, .ref 0), (2, .ref 338), (3, .int 1), (4, .int (nI m)), (5, .long L0), (7, .long B0), (9, .int (nI u)), (10, .long (sumF q d)), (12, .int 0)] [] QLw := by
  have hw := hI.1.wf
  have hwo := hw
  refine lf (a_aload_n dL_law_162 rfl) ?_
  obtain ⟨v_, W163, k163, rfl, h163⟩ := t_L_trolleys hI.1
  refine lf (a_invS (b2 := (bc + 2, bs + 18)) k163 rfl dL_law_163 yk_L_trolleys sm_L_trolleys ml_L_189 rfl (by decide) ⟨Nat.le_of_eq (Nat.zero_add _), Nat.le_of_eq (Nat.zero_add _)⟩ (Nat.le_of_ble_eq_true rfl)) ?_
  have hI := hI.tr h163
  have hwo := hw
  have hw := hI.1.wf
  refine lf2 (a_if_eq (tgt := 227) dL_law_166 (by decide)) (fun h166 => absurd h166 (by decide)) (fun h166 => ?_)
  refine lf (a_aload_n dL_law_169 rfl) ?_
  obtain ⟨v_, W170, k170, rfl, h170⟩ := t_L_order hI.1
  refine lf (a_invS (b2 := (bc + 2, bs + 18)) k170 rfl dL_law_170 yk_L_order sm_L_order ml_L_193 rfl (by decide) ⟨Nat.le_of_eq (Nat.zero_add _), Nat.le_of_eq (Nat.zero_add _)⟩ (Nat.le_of_ble_eq_true rfl)) ?_
  have hI := hI.tr h170
  have hwo := hw
  have hw := hI.1.wf
  refine lf2 (a_if_eq (tgt := 227) dL_law_173 (by decide)) (fun h173 => absurd h173 (by decide)) (fun h173 => ?_)
  refine lf (a_aload_n dL_law_176 rfl) ?_
  obtain ⟨v_, W177, k177, n177, hn177, rfl, hI⟩ := w_nextK hI
  refine lf (a_invS (b2 := (bc + 2, bs + 18)) k177 rfl dL_law_177 yk_L_next sm_L_next ml_L_39 rfl (by decide) ⟨Nat.le_of_eq (Nat.zero_add _), Nat.le_of_eq (Nat.zero_add _)⟩ (Nat.le_of_ble_eq_true rfl)) ?_
  have hwo := hw
  have hw := hI.1.wf
  refine lf (a_iconst (3 : Int32) dL_law_180 (by decide)) ?_
  refine lf (a_irem dL_law_181 (by decide)) ?_
  rw [show nI n177 - nI n177 / 3 * 3 = nI (n177 % 3) from pk_rem (d := 3) (by omega) (by decide) (by decide)]
  refine lf2 (a_if_gt (tgt := 192) dL_law_182 (by decide)) (fun h182 => ?_) (fun h182 => ?_)
  · refine lf (a_room (b' := (bc + 1, bs + 6)) (by show bc + 1 ≤ bc + 2; omega) (by show bs + 6 ≤ bs + 18; omega)) ?_
    have hI := hI.mono (Nat.le_succ k)
    refine lf (a_aload_n dL_law_192 rfl) ?_
    refine lf (a_iconst (0 : Int32) dL_law_193 (by decide)) ?_
    refine lf (a_inv (b2 := (bc + 1, bs + 6)) (w_account hI.1 (k := 0) (by decide)) rfl dL_law_194 yk_X10_account im_X10_account se_X10_account ml_L_139 rfl (co_0 hw) (by decide) hc_X10 (by decide) ⟨Nat.le_of_eq (Nat.zero_add _), Nat.le_of_eq (Nat.zero_add _)⟩ (Nat.le_of_ble_eq_true rfl)) ?_
    refine lf (a_aload_n dL_law_197 rfl) ?_
    refine lf (a_iconst (1 : Int32) dL_law_198 (by decide)) ?_
    refine lf (a_inv (b2 := (bc + 1, bs + 6)) (w_account hI.1 (k := 1) (by decide)) rfl dL_law_199 yk_X10_account im_X10_account se_X10_account ml_L_139 rfl (co_0 hw) (by decide) hc_X10 (by decide) ⟨Nat.le_of_eq (Nat.zero_add _), Nat.le_of_eq (Nat.zero_add _)⟩ (Nat.le_of_ble_eq_true rfl)) ?_
    refine lf (a_aload_n dL_law_202 rfl) ?_
    refine lf (a_iconst (2 : Int32) dL_law_203 (by decide)) ?_
    refine lf (a_inv (b2 := (bc + 1, bs + 6)) (w_account hI.1 (k := 2) (by decide)) rfl dL_law_204 yk_X10_account im_X10_account se_X10_account ml_L_139 rfl (co_0 hw) (by decide) hc_X10 (by decide) ⟨Nat.le_of_eq (Nat.zero_add _), Nat.le_of_eq (Nat.zero_add _)⟩ (Nat.le_of_ble_eq_true rfl)) ?_
    refine lf (a_ladd dL_law_207) ?_
    refine lf (a_lcmp dL_law_208) ?_
    refine lfn (a_if_ne (tgt := 227) dL_law_209 (by decide)) (fun h209 => absurd h209 (fun z => z (lc_eq hI.1.2.2.1.2.2.2.2))) (fun h209 => ?_)
    refine lf (a_aload_n dL_law_212 rfl) ?_
    refine lf (a_iconst (0 : Int32) dL_law_213 (by decide)) ?_
    refine lf (a_inv (b2 := (bc + 1, bs + 6)) (w_account hI.1 (k := 0) (by decide)) rfl dL_law_214 yk_X10_account im_X10_account se_X10_account ml_L_139 rfl (co_0 hw) (by decide) hc_X10 (by decide) ⟨Nat.le_of_eq (Nat.zero_add _), Nat.le_of_eq (Nat.zero_add _)⟩ (Nat.le_of_ble_eq_true rfl)) ?_
    refine lf (a_lload dL_law_217 rfl) ?_
    refine lf (a_lcmp dL_law_219) ?_
    refine lfn (a_if_ne (tgt := 227) dL_law_220 (by decide)) (fun h220 => absurd h220 (fun z => z (lc_eq hL))) (fun h220 => ?_)
    refine lf (a_iconst (1 : Int32) dL_law_223 (by decide)) ?_
    refine lf (a_goto (tgt := 228) dL_law_224 (by decide)) ?_
    refine lf (a_istore_n dL_law_228 (by decide)) ?_
    refine lf (a_iload_n dL_law_229 rfl) ?_
    refine lf2 (a_if_eq (tgt := 270) dL_law_230 (by decide)) (fun h230 => absurd h230 (by decide)) (fun h230 => ?_)
    refine lf (a_iload dL_law_233 rfl) ?_
    refine lf2 (a_if_eq (tgt := 270) dL_law_235 (by decide)) (fun h235 => ?_) (fun h235 => absurd h235 (by decide))
    refine lf (a_iincN dL_law_270 rfl (by decide)) ?_
    refine lf (a_goto (tgt := 123) dL_law_273 (by decide)) ?_
    exact lf (a_room (b' := (bc, bs)) (by show bc ≤ bc + 1; omega) (by show bs ≤ bs + 6; omega)) (lf (a_loc _ rfl) (kx _ _ _ hI hgo hL))
  · refine lf (a_aload_n dL_law_185 rfl) ?_
    obtain ⟨v_, W186, k186, rfl, h186⟩ := t_L_service hI.1 (by have := hI.2.1; omega)
    refine lf (a_invS (b2 := (bc + 1, bs + 6)) k186 rfl dL_law_186 yk_L_service sm_L_service ml_L_196 rfl (by decide) ⟨by show 1 + (bc + 1) ≤ _; omega, by show 12 + (bs + 6) ≤ _; omega⟩ (Nat.le_of_ble_eq_true rfl)) ?_
    have hI := hI.b h186
    have hwo := hw
    have hw := hI.1.wf
    refine lf2 (a_if_eq (tgt := 227) dL_law_189 (by decide)) (fun h189 => absurd h189 (by decide)) (fun h189 => ?_)
    refine lf (a_aload_n dL_law_192 rfl) ?_
    refine lf (a_iconst (0 : Int32) dL_law_193 (by decide)) ?_
    refine lf (a_inv (b2 := (bc + 1, bs + 6)) (w_account hI.1 (k := 0) (by decide)) rfl dL_law_194 yk_X10_account im_X10_account se_X10_account ml_L_139 rfl (co_0 hw) (by decide) hc_X10 (by decide) ⟨Nat.le_of_eq (Nat.zero_add _), Nat.le_of_eq (Nat.zero_add _)⟩ (Nat.le_of_ble_eq_true rfl)) ?_
    refine lf (a_aload_n dL_law_197 rfl) ?_
    refine lf (a_iconst (1 : Int32) dL_law_198 (by decide)) ?_
    refine lf (a_inv (b2 := (bc + 1, bs + 6)) (w_account hI.1 (k := 1) (by decide)) rfl dL_law_199 yk_X10_account im_X10_account se_X10_account ml_L_139 rfl (co_0 hw) (by decide) hc_X10 (by decide) ⟨Nat.le_of_eq (Nat.zero_add _), Nat.le_of_eq (Nat.zero_add _)⟩ (Nat.le_of_ble_eq_true rfl)) ?_
    refine lf (a_aload_n dL_law_202 rfl) ?_
    refine lf (a_iconst (2 : Int32) dL_law_203 (by decide)) ?_
    refine lf (a_inv (b2 := (bc + 1, bs + 6)) (w_account hI.1 (k := 2) (by decide)) rfl dL_law_204 yk_X10_account im_X10_account se_X10_account ml_L_139 rfl (co_0 hw) (by decide) hc_X10 (by decide) ⟨Nat.le_of_eq (Nat.zero_add _), Nat.le_of_eq (Nat.zero_add _)⟩ (Nat.le_of_ble_eq_true rfl)) ?_
    refine lf (a_ladd dL_law_207) ?_
    refine lf (a_lcmp dL_law_208) ?_
    refine lfn (a_if_ne (tgt := 227) dL_law_209 (by decide)) (fun h209 => absurd h209 (fun z => z (lc_eq hI.1.2.2.1.2.2.2.2))) (fun h209 => ?_)
    refine lf (a_aload_n dL_law_212 rfl) ?_
    refine lf (a_iconst (0 : Int32) dL_law_213 (by decide)) ?_
    refine lf (a_inv (b2 := (bc + 1, bs + 6)) (w_account hI.1 (k := 0) (by decide)) rfl dL_law_214 yk_X10_account im_X10_account se_X10_account ml_L_139 rfl (co_0 hw) (by decide) hc_X10 (by decide) ⟨Nat.le_of_eq (Nat.zero_add _), Nat.le_of_eq (Nat.zero_add _)⟩ (Nat.le_of_ble_eq_true rfl)) ?_
    refine lf (a_lload dL_law_217 rfl) ?_
    refine lf (a_lcmp dL_law_219) ?_
    refine lfn (a_if_ne (tgt := 227) dL_law_220 (by decide)) (fun h220 => absurd h220 (fun z => z (lc_eq hL))) (fun h220 => ?_)
    refine lf (a_iconst (1 : Int32) dL_law_223 (by decide)) ?_
    refine lf (a_goto (tgt := 228) dL_law_224 (by decide)) ?_
    refine lf (a_istore_n dL_law_228 (by decide)) ?_
    refine lf (a_iload_n dL_law_229 rfl) ?_
    refine lf2 (a_if_eq (tgt := 270) dL_law_230 (by decide)) (fun h230 => absurd h230 (by decide)) (fun h230 => ?_)
    refine lf (a_iload dL_law_233 rfl) ?_
    refine lf2 (a_if_eq (tgt := 270) dL_law_235 (by decide)) (fun h235 => ?_) (fun h235 => absurd h235 (by decide))
    refine lf (a_iincN dL_law_270 rfl (by decide)) ?_
    refine lf (a_goto (tgt := 123) dL_law_273 (by decide)) ?_
    exact lf (a_room (b' := (bc, bs)) (by show bc ≤ bc + 1; omega) (by show bs ≤ bs + 6; omega)) (lf (a_loc _ rfl) (kx _ _ _ hI hgo hL))
theorem law_acts {k0 : Nat} (hk : k0 + 20 < 1000000) (kx : ∀ (W : Wd) (d : FDt) (H : Hst), LwK p p0 q d H S N X (k0 + 14) W → goD q d → dA d 0 = L0 → WP Y_L_law RLaw (bc, bs) W 276 (LB0 m L0 B0 14) [] QLw) : ∀ (dd u : Nat) (d : FDt) (H : Hst) (W : Wd), u + dd = 14 → LwK p p0 q d H S N X (k0 + u) W → goD q d → dA d 0 = L0 → WP Y_L_law RLaw (bc + 3 * dd, bs + 24 * dd) W 123 (LB0 m L0 B0 u) [] QLw := by
  intro dd
  induction dd with
  | zero =>
    intro u d H W hu hI hgo hL
    obtain rfl : 14 = u := by omega
    have hw := hI.1.wf
    have hwo := hw
    refine lf (a_iload dL_law_123 rfl) ?_
    refine lf (a_bipush (14 : Int32) dL_law_125 (by decide)) ?_
    refine lf2 (a_icmp_ge (tgt := 276) dL_law_127 (by decide)) (fun h127 => ?_) (fun h127 => absurd h127 (fun z => z (Int32.le_refl _)))
    exact lf (a_loc _ rfl) (kx _ _ _ hI hgo hL)
  | succ dd ih =>
    intro u d H W hu hI hgo hL
    have hw := hI.1.wf
    have hwo := hw
    have h12 := hI.1.h12
    refine lf (a_iload dL_law_123 rfl) ?_
    refine lf (a_bipush (14 : Int32) dL_law_125 (by decide)) ?_
    refine lf2 (a_icmp_ge (tgt := 276) dL_law_127 (by decide)) (fun h127 => absurd h127 (nI_ge (a := u) (b := 14) (by omega) (by decide))) (fun h127 => ?_)
    refine lf (a_iload_n dL_law_130 rfl) ?_
    refine lf2 (a_if_eq (tgt := 276) dL_law_131 (by decide)) (fun h131 => absurd h131 (by decide)) (fun h131 => ?_)
    refine lf (a_aload_n dL_law_134 rfl) ?_
    obtain ⟨v_, W135, k135, rfl, h135⟩ := t_L_sum hI.1
    refine lf (a_invS (b2 := (bc + 3 * (dd + 1), bs + 24 * (dd + 1))) k135 rfl dL_law_135 yk_L_sum sm_L_sum ml_L_181 rfl (by decide) ⟨Nat.le_of_eq (Nat.zero_add _), Nat.le_of_eq (Nat.zero_add _)⟩ (Nat.le_of_ble_eq_true rfl)) ?_
    have hI := hI.tr h135
    have hwo := hw
    have hw := hI.1.wf
    refine lf (a_lstore dL_law_138 (by decide)) ?_
    refine lf (a_aload_n dL_law_140 rfl) ?_
    refine lf (a_aload_n dL_law_141 rfl) ?_
    obtain ⟨v_, W142, k142, ⟨hn, hg⟩, hA⟩ := t_L_act hI.1 hgo
    have hk9 := hI.2.1
    rcases hA with ⟨rfl, d2, hV, hgo2, hA2⟩ | ⟨rfl, hV⟩
    · have hI : LwK p p0 q d2 (pushH H d) S N X (k0 + u) W142 := ⟨hV, by omega, hg.trans hI.2.2⟩
      refine lf (a_invS (b2 := (bc + 3 * dd + 2, bs + 24 * dd + 18)) k142 rfl dL_law_142 yk_L_act sm_L_act ml_L_185 rfl (by decide) ⟨by show 1 + (bc + 3 * dd + 2) ≤ _; omega, by show 6 + (bs + 24 * dd + 18) ≤ _; omega⟩ (Nat.le_of_ble_eq_true rfl)) ?_
      have hw := hI.1.wf
      have hwo := hw
      refine lf (a_istore dL_law_145 (by decide)) ?_
      refine lf (a_iload dL_law_147 rfl) ?_
      refine lfn (a_if_ne (tgt := 162) dL_law_149 (by decide)) (fun h149 => ?_) (fun h149 => absurd h149 (by decide))
      exact lf (a_loc _ rfl) (law_turn1 (bc := bc + 3 * dd) (bs := bs + 24 * dd) hI hgo hL h12 hgo2 (by rw [hA2]; exact hL) (by omega) (fun W d H h1 h2 h3 => ih (u + 1) d H W (by omega) h1 h2 h3))
    · have hI : LwK p p0 q d H S N X (k0 + u) W142 := ⟨hV, by omega, hg.trans hI.2.2⟩
      refine lf (a_invS (b2 := (bc + 3 * dd + 2, bs + 24 * dd + 18)) k142 rfl dL_law_142 yk_L_act sm_L_act ml_L_185 rfl (by decide) ⟨by show 1 + (bc + 3 * dd + 2) ≤ _; omega, by show 6 + (bs + 24 * dd + 18) ≤ _; omega⟩ (Nat.le_of_ble_eq_true rfl)) ?_
      have hw := hI.1.wf
      have hwo := hw
      refine lf (a_istore dL_law_145 (by decide)) ?_
      refine lf (a_iload dL_law_147 rfl) ?_
      refine lfn (a_if_ne (tgt := 162) dL_law_149 (by decide)) (fun h149 => absurd h149 (by decide)) (fun h149 => ?_)
      refine lf (a_aload_n dL_law_152 rfl) ?_
      obtain ⟨v_, W153, k153, rfl, h153⟩ := t_L_sum hI.1
      refine lf (a_invS (b2 := (bc + 3 * dd + 2, bs + 24 * dd + 18)) k153 rfl dL_law_153 yk_L_sum sm_L_sum ml_L_181 rfl (by decide) ⟨Nat.le_of_eq (Nat.zero_add _), Nat.le_of_eq (Nat.zero_add _)⟩ (Nat.le_of_ble_eq_true rfl)) ?_
      have hI := hI.tr h153
      have hwo := hw
      have hw := hI.1.wf
      refine lf (a_lload dL_law_156 rfl) ?_
      refine lf (a_lcmp dL_law_158) ?_
      refine lfn (a_if_ne (tgt := 227) dL_law_159 (by decide)) (fun h159 => absurd h159 (fun z => z (lc_eq rfl))) (fun h159 => ?_)
      exact lf (a_loc _ rfl) (law_turn0 (bc := bc + 3 * dd) (bs := bs + 24 * dd) hI hgo hL (by omega) (fun W d H h1 h2 h3 => ih (u + 1) d H W (by omega) h1 h2 h3))
    
theorem law_serve (hI : LwK p p0 q d H S N X k W) (hgo : goD q d) (hL : dA d 0 = L0) (hS : S 0 = some d0) (hgo0 : goD q d0) (hk : k + 2 < 1000000) (hx19 : ∀ i, dP d = i + 1 → x19 = oI ((svR q d).1 i)) (kx : ∀ (W : Wd) (p p0 : Nat) (q : PDt) (d : FDt) (H : Hst) (S : Nat → Option FDt), LwS p p0 (N + 1) q d H S W → wn W ≤ k + 2 → gX W = X → WP Y_L_law RLaw (bc, bs) W 34 (LA0 (m + 1)) [] QLw) : WP Y_L_law RLaw (bc + 4, bs + 36) W 352 [(0, .ref 2000000), (1, .ref 0), (2, .ref 338), (3, .int 1), (4, .int (nI m)), (5, .long L0), (7, .long (sumF q d0)), (9, .int (olV q d 1)), (10, .int (olV q d 3)), (11, .int (olV q d 2)), (12, .int (olV q d 4)), (13, .long (dA d 3)), (15, .long (dA d 5)), (17, .long (alD q d).toInt64), (19, .int x19)] [] QLw := by
  have hw := hI.1.wf
  have hwo := hw
  have htold := hI.1.2.1.told
  have h12 := hI.1.h12
  have hP4 := hI.1.gd.P4
  obtain ⟨n9, hn9, ht9⟩ := push_top (d := d) h12
  have e0 : dA (srvD q d) 0 = L0 + (alD q d).toInt64 := by rw [← hL]; rfl
  have e3 : dA (srvD q d) 3 = dA d 3 + (olV q d 4).toInt64 := rfl
  have e5 : dA (srvD q d) 5 = dA d 5 + 1 := rfl
  have e7 : (alD q d).toInt64 = (olV q d 1 + olV q d 3).toInt64 := congrArg Int32.toInt64 (al_sum hI.1)
  have e8 : (alD q (srvD q d)).toInt64 = (alD q d).toInt64 := congrArg Int32.toInt64 al_srv
  refine lf (a_iload_n dL_law_352 rfl) ?_
  refine lf2 (a_if_eq (tgt := 504) dL_law_353 (by decide)) (fun h353 => absurd h353 (by decide)) (fun h353 => ?_)
  refine lf (a_aload_n dL_law_356 rfl) ?_
  obtain ⟨v_, W357, k357, rfl, h357⟩ := t_L_service hI.1 (by have := hI.2.1; omega)
  refine lf (a_invS (b2 := (bc + 3, bs + 24)) k357 rfl dL_law_357 yk_L_service sm_L_service ml_L_196 rfl (by decide) ⟨by show 1 + (bc + 3) ≤ _; omega, by show 12 + (bs + 24) ≤ _; omega⟩ (Nat.le_of_ble_eq_true rfl)) ?_
  have hI := hI.b h357
  have hwo := hw
  have hw := hI.1.wf
  refine lf2 (a_if_eq (tgt := 504) dL_law_360 (by decide)) (fun h360 => absurd h360 (by decide)) (fun h360 => ?_)
  refine lf (a_aload_n dL_law_363 rfl) ?_
  obtain ⟨v_, W364, k364, rfl, hV, hO⟩ := w_serve hI.1 hgo
  refine lf (a_inv (b2 := (bc + 3, bs + 24)) k364 rfl dL_law_364 yk_X10_serve im_X10_serve se_X10_serve ml_L_203 rfl (co_0 hw) (by decide) hc_X10 (by decide) ⟨Nat.le_of_eq (Nat.zero_add _), Nat.le_of_eq (Nat.zero_add _)⟩ (Nat.le_of_ble_eq_true rfl)) ?_
  have hI := hI.act hV hO
  have hw := hI.1.wf
  have h13 := hI.1.h12
  refine lf (a_iload dL_law_367 rfl) ?_
  refine lfn (a_icmp_ne (tgt := 504) dL_law_369 (by decide)) (fun h369 => absurd h369 (fun z => z rfl)) (fun h369 => ?_)
  refine lf (a_aload_n dL_law_372 rfl) ?_
  refine lf (a_iconst (0 : Int32) dL_law_373 (by decide)) ?_
  obtain ⟨v_, W374, k374, rfl, h374⟩ := (w_count hI.1 (k := 0) (by decide))
  have hwo := hw
  have hI := hI.tr h374
  have hw := hI.1.wf
  refine lf (a_inv (b2 := (bc + 3, bs + 24)) k374 rfl dL_law_374 yk_X10_count im_X10_count se_X10_count ml_L_131 rfl (co_0 hwo) (by decide) hc_X10 (by decide) ⟨Nat.le_of_eq (Nat.zero_add _), Nat.le_of_eq (Nat.zero_add _)⟩ (Nat.le_of_ble_eq_true rfl)) ?_
  refine lf (a_iconst (3 : Int32) dL_law_377 (by decide)) ?_
  refine lfn (a_icmp_ne (tgt := 504) dL_law_378 (by decide)) (fun h378 => absurd h378 (fun z => z (ph_srv htold))) (fun h378 => ?_)
  refine lf (a_aload_n dL_law_381 rfl) ?_
  refine lf (a_iconst (0 : Int32) dL_law_382 (by decide)) ?_
  refine lf (a_inv (b2 := (bc + 3, bs + 24)) (w_account hI.1 (k := 0) (by decide)) rfl dL_law_383 yk_X10_account im_X10_account se_X10_account ml_L_139 rfl (co_0 hw) (by decide) hc_X10 (by decide) ⟨Nat.le_of_eq (Nat.zero_add _), Nat.le_of_eq (Nat.zero_add _)⟩ (Nat.le_of_ble_eq_true rfl)) ?_
  refine lf (a_lload dL_law_386 rfl) ?_
  refine lf (a_lload dL_law_388 rfl) ?_
  refine lf (a_ladd dL_law_390) ?_
  refine lf (a_lcmp dL_law_391) ?_
  refine lfn (a_if_ne (tgt := 504) dL_law_392 (by decide)) (fun h392 => absurd h392 (fun z => z (lc_eq e0))) (fun h392 => ?_)
  refine lf (a_aload_n dL_law_395 rfl) ?_
  refine lf (a_iconst (3 : Int32) dL_law_396 (by decide)) ?_
  refine lf (a_inv (b2 := (bc + 3, bs + 24)) (w_account hI.1 (k := 3) (by decide)) rfl dL_law_397 yk_X10_account im_X10_account se_X10_account ml_L_139 rfl (co_0 hw) (by decide) hc_X10 (by decide) ⟨Nat.le_of_eq (Nat.zero_add _), Nat.le_of_eq (Nat.zero_add _)⟩ (Nat.le_of_ble_eq_true rfl)) ?_
  refine lf (a_lload dL_law_400 rfl) ?_
  refine lf (a_iload dL_law_402 rfl) ?_
  refine lf (a_i2l dL_law_404) ?_
  refine lf (a_ladd dL_law_405) ?_
  refine lf (a_lcmp dL_law_406) ?_
  refine lfn (a_if_ne (tgt := 504) dL_law_407 (by decide)) (fun h407 => absurd h407 (fun z => z (lc_eq e3))) (fun h407 => ?_)
  refine lf (a_aload_n dL_law_410 rfl) ?_
  refine lf (a_iconst (5 : Int32) dL_law_411 (by decide)) ?_
  refine lf (a_inv (b2 := (bc + 3, bs + 24)) (w_account hI.1 (k := 5) (by decide)) rfl dL_law_412 yk_X10_account im_X10_account se_X10_account ml_L_139 rfl (co_0 hw) (by decide) hc_X10 (by decide) ⟨Nat.le_of_eq (Nat.zero_add _), Nat.le_of_eq (Nat.zero_add _)⟩ (Nat.le_of_ble_eq_true rfl)) ?_
  refine lf (a_lload dL_law_415 rfl) ?_
  refine lf (a_lconst (1 : Int64) dL_law_417 (by decide)) ?_
  refine lf (a_ladd dL_law_418) ?_
  refine lf (a_lcmp dL_law_419) ?_
  refine lfn (a_if_ne (tgt := 504) dL_law_420 (by decide)) (fun h420 => absurd h420 (fun z => z (lc_eq e5))) (fun h420 => ?_)
  refine lf (a_aload_n dL_law_423 rfl) ?_
  refine lf (a_iconst (3 : Int32) dL_law_424 (by decide)) ?_
  obtain ⟨v_, W425, k425, rfl, h425⟩ := (w_outlook hI.1 (k := 3) (by decide))
  have hwo := hw
  have hI := hI.tr h425
  have hw := hI.1.wf
  refine lf (a_inv (b2 := (bc + 3, bs + 24)) k425 rfl dL_law_425 yk_X10_outlook im_X10_outlook se_X10_outlook ml_L_136 rfl (co_0 hwo) (by decide) hc_X10 (by decide) ⟨Nat.le_of_eq (Nat.zero_add _), Nat.le_of_eq (Nat.zero_add _)⟩ (Nat.le_of_ble_eq_true rfl)) ?_
  refine lf (a_iload dL_law_428 rfl) ?_
  refine lfn (a_icmp_ne (tgt := 504) dL_law_430 (by decide)) (fun h430 => absurd h430 (fun z => z ol_srv3)) (fun h430 => ?_)
  refine lf (a_aload_n dL_law_433 rfl) ?_
  refine lf (a_iconst (2 : Int32) dL_law_434 (by decide)) ?_
  obtain ⟨v_, W435, k435, rfl, h435⟩ := (w_outlook hI.1 (k := 2) (by decide))
  have hwo := hw
  have hI := hI.tr h435
  have hw := hI.1.wf
  refine lf (a_inv (b2 := (bc + 3, bs + 24)) k435 rfl dL_law_435 yk_X10_outlook im_X10_outlook se_X10_outlook ml_L_136 rfl (co_0 hwo) (by decide) hc_X10 (by decide) ⟨Nat.le_of_eq (Nat.zero_add _), Nat.le_of_eq (Nat.zero_add _)⟩ (Nat.le_of_ble_eq_true rfl)) ?_
  refine lf (a_iload dL_law_438 rfl) ?_
  refine lfn (a_icmp_ne (tgt := 504) dL_law_440 (by decide)) (fun h440 => absurd h440 (fun z => z ol_srv2)) (fun h440 => ?_)
  refine lf (a_aload_n dL_law_443 rfl) ?_
  obtain ⟨v_, W444, k444, rfl, h444⟩ := t_L_service hI.1 (by have := hI.2.1; omega)
  refine lf (a_invS (b2 := (bc + 2, bs + 12)) k444 rfl dL_law_444 yk_L_service sm_L_service ml_L_196 rfl (by decide) ⟨by show 1 + (bc + 2) ≤ _; omega, by show 12 + (bs + 12) ≤ _; omega⟩ (Nat.le_of_ble_eq_true rfl)) ?_
  have hI := hI.b h444
  have hwo := hw
  have hw := hI.1.wf
  refine lf2 (a_if_eq (tgt := 504) dL_law_447 (by decide)) (fun h447 => absurd h447 (by decide)) (fun h447 => ?_)
  refine lf (a_aload_n dL_law_450 rfl) ?_
  refine lf (a_iconst (3 : Int32) dL_law_451 (by decide)) ?_
  obtain ⟨v_, W452, k452, rfl, h452⟩ := (w_count hI.1 (k := 3) (by decide))
  have hwo := hw
  have hI := hI.tr h452
  have hw := hI.1.wf
  refine lf (a_inv (b2 := (bc + 2, bs + 12)) k452 rfl dL_law_452 yk_X10_count im_X10_count se_X10_count ml_L_131 rfl (co_0 hwo) (by decide) hc_X10 (by decide) ⟨Nat.le_of_eq (Nat.zero_add _), Nat.le_of_eq (Nat.zero_add _)⟩ (Nat.le_of_ble_eq_true rfl)) ?_
  rw [show cnV q (srvD q d) (pushH H d).1 3 = nI (dP d) from rfl]
  refine lf2 (a_if_eq (tgt := 475) dL_law_455 (by decide)) (fun h455 => ?_) (fun h455 => ?_)
  · refine lf (a_lload dL_law_475 rfl) ?_
    refine lf (a_iload dL_law_477 rfl) ?_
    refine lf (a_iload dL_law_479 rfl) ?_
    refine lf (a_iadd dL_law_481) ?_
    refine lf (a_i2l dL_law_482) ?_
    refine lf (a_lcmp dL_law_483) ?_
    refine lfn (a_if_ne (tgt := 504) dL_law_484 (by decide)) (fun h484 => absurd h484 (fun z => z (lc_eq e7))) (fun h484 => ?_)
    refine lf (a_aload_n dL_law_487 rfl) ?_
    refine lf (a_bipush (7 : Int32) dL_law_488 (by decide)) ?_
    obtain ⟨v_, W490, k490, rfl, h490⟩ := (w_count hI.1 (k := 7) (by decide))
    have hwo := hw
    have hI := hI.tr h490
    have hw := hI.1.wf
    refine lf (a_inv (b2 := (bc + 2, bs + 12)) k490 rfl dL_law_490 yk_X10_count im_X10_count se_X10_count ml_L_131 rfl (co_0 hwo) (by decide) hc_X10 (by decide) ⟨Nat.le_of_eq (Nat.zero_add _), Nat.le_of_eq (Nat.zero_add _)⟩ (Nat.le_of_ble_eq_true rfl)) ?_
    refine lf (a_i2l dL_law_493) ?_
    refine lf (a_lload dL_law_494 rfl) ?_
    refine lf (a_lcmp dL_law_496) ?_
    refine lfn (a_if_ne (tgt := 504) dL_law_497 (by decide)) (fun h497 => absurd h497 (fun z => z (lc_eq e8))) (fun h497 => ?_)
    refine lf (a_iconst (1 : Int32) dL_law_500 (by decide)) ?_
    refine lf (a_goto (tgt := 505) dL_law_501 (by decide)) ?_
    refine lf (a_istore_n dL_law_505 (by decide)) ?_
    refine lf (a_iload_n dL_law_506 rfl) ?_
    refine lf2 (a_if_eq (tgt := 579) dL_law_507 (by decide)) (fun h507 => absurd h507 (by decide)) (fun h507 => ?_)
    refine lf (a_aload_n dL_law_510 rfl) ?_
    obtain ⟨v_, W511, k511, n511, hn511, rfl, hI⟩ := w_nextK hI
    refine lf (a_invS (b2 := (bc + 2, bs + 12)) k511 rfl dL_law_511 yk_L_next sm_L_next ml_L_39 rfl (by decide) ⟨Nat.le_of_eq (Nat.zero_add _), Nat.le_of_eq (Nat.zero_add _)⟩ (Nat.le_of_ble_eq_true rfl)) ?_
    have hwo := hw
    have hw := hI.1.wf
    refine lf (a_iconst (2 : Int32) dL_law_514 (by decide)) ?_
    refine lf (a_irem dL_law_515 (by decide)) ?_
    rw [show nI n511 - nI n511 / 2 * 2 = nI (n511 % 2) from pk_rem (d := 2) (by omega) (by decide) (by decide)]
    refine lfn (a_if_ne (tgt := 579) dL_law_516 (by decide)) (fun h516 => ?_) (fun h516 => ?_)
    · refine lf (a_iincN dL_law_579 rfl (by decide)) ?_
      refine lf (a_goto (tgt := 34) dL_law_582 (by decide)) ?_
      first
      | exact lf (a_room (b' := (bc, bs)) (by show bc ≤ bc + 2; omega) (by show bs ≤ bs + 12; omega)) (lf (a_loc _ rfl) (kx _ _ _ _ _ _ _ hI.1.s hI.2.1 hI.2.2))
      | exact lf (a_loc _ rfl) (kx _ _ _ _ _ _ _ hI.1.s hI.2.1 hI.2.2)
    · refine lf (a_aload_n dL_law_519 rfl) ?_
      obtain ⟨v_, W520, k520, rfl, hU, hO2⟩ := w_undone hI.1 hn9
      rw [ht9] at hU
      refine lf (a_invSH (b2 := (bc + 1, bs + 6)) k520 rfl dL_law_520 yh_L_undone sm_L_undone ml_L_199 rfl (by decide) ⟨by show 1 + (bc + 1) ≤ _; omega, by show 6 + (bs + 6) ≤ _; omega⟩ (Nat.le_of_ble_eq_true rfl)) ?_
      have hI := hI.act hU hO2
      have hw := hI.1.wf
      refine lf2 (a_if_lt (tgt := 577) dL_law_523 (by decide)) (fun h523 => absurd h523 (nI_pos (by omega))) (fun h523 => ?_)
      refine lf (a_aload_n dL_law_526 rfl) ?_
      refine lf (a_iconst (0 : Int32) dL_law_527 (by decide)) ?_
      refine lf (a_inv (b2 := (bc + 1, bs + 6)) (w_account hI.1 (k := 0) (by decide)) rfl dL_law_528 yk_X10_account im_X10_account se_X10_account ml_L_139 rfl (co_0 hw) (by decide) hc_X10 (by decide) ⟨Nat.le_of_eq (Nat.zero_add _), Nat.le_of_eq (Nat.zero_add _)⟩ (Nat.le_of_ble_eq_true rfl)) ?_
      refine lf (a_lload dL_law_531 rfl) ?_
      refine lf (a_lcmp dL_law_533) ?_
      refine lfn (a_if_ne (tgt := 577) dL_law_534 (by decide)) (fun h534 => absurd h534 (fun z => z (lc_eq hL))) (fun h534 => ?_)
      refine lf (a_aload_n dL_law_537 rfl) ?_
      refine lf (a_iconst (0 : Int32) dL_law_538 (by decide)) ?_
      obtain ⟨v_, W539, k539, rfl, h539⟩ := (w_count hI.1 (k := 0) (by decide))
      have hwo := hw
      have hI := hI.tr h539
      have hw := hI.1.wf
      refine lf (a_inv (b2 := (bc + 1, bs + 6)) k539 rfl dL_law_539 yk_X10_count im_X10_count se_X10_count ml_L_131 rfl (co_0 hwo) (by decide) hc_X10 (by decide) ⟨Nat.le_of_eq (Nat.zero_add _), Nat.le_of_eq (Nat.zero_add _)⟩ (Nat.le_of_ble_eq_true rfl)) ?_
      refine lf (a_iconst (3 : Int32) dL_law_542 (by decide)) ?_
      refine lf2 (a_icmp_ge (tgt := 577) dL_law_543 (by decide)) (fun h543 => absurd h543 (go_lt hgo)) (fun h543 => ?_)
      refine lf (a_aload_n dL_law_546 rfl) ?_
      refine lf (a_iconst (0 : Int32) dL_law_547 (by decide)) ?_
      obtain ⟨v_, W548, k548, rfl, hR, hO3⟩ := w_restore hI.1 (j := 0) (by decide) hS
      refine lf (a_inv (b2 := (bc + 1, bs + 6)) k548 rfl dL_law_548 yk_X10_restore im_X10_restore se_X10_restore ml_L_206 rfl (co_0 hw) (by decide) hc_X10 (by decide) ⟨Nat.le_of_eq (Nat.zero_add _), Nat.le_of_eq (Nat.zero_add _)⟩ (Nat.le_of_ble_eq_true rfl)) ?_
      have hI := hI.act hR hO3
      have hwo := hw
      have hw := hI.1.wf
      refine lf2 (a_if_le (tgt := 577) dL_law_551 (by decide)) (fun h551 => absurd h551 (go_gt hgo0)) (fun h551 => ?_)
      refine lf (a_aload_n dL_law_554 rfl) ?_
      obtain ⟨v_, W555, k555, rfl, h555⟩ := t_L_sum hI.1
      refine lf (a_invS (b2 := (bc + 1, bs + 6)) k555 rfl dL_law_555 yk_L_sum sm_L_sum ml_L_181 rfl (by decide) ⟨Nat.le_of_eq (Nat.zero_add _), Nat.le_of_eq (Nat.zero_add _)⟩ (Nat.le_of_ble_eq_true rfl)) ?_
      have hI := hI.tr h555
      have hwo := hw
      have hw := hI.1.wf
      refine lf (a_lload dL_law_558 rfl) ?_
      refine lf (a_lcmp dL_law_560) ?_
      refine lfn (a_if_ne (tgt := 577) dL_law_561 (by decide)) (fun h561 => absurd h561 (fun z => z (lc_eq rfl))) (fun h561 => ?_)
      refine lf (a_aload_n dL_law_564 rfl) ?_
      refine lf (a_invSH (b2 := (bc, bs)) (w_undone0 hI.1 rfl) rfl dL_law_565 yh_L_undone sm_L_undone ml_L_199 rfl (by decide) ⟨by show 1 + bc ≤ _; omega, by show 6 + bs ≤ _; omega⟩ (Nat.le_of_ble_eq_true rfl)) ?_
      refine lf (a_bipush (-2 : Int32) dL_law_568 (by decide)) ?_
      refine lfn (a_icmp_ne (tgt := 577) dL_law_570 (by decide)) (fun h570 => absurd h570 (by decide)) (fun h570 => ?_)
      refine lf (a_iconst (1 : Int32) dL_law_573 (by decide)) ?_
      refine lf (a_goto (tgt := 578) dL_law_574 (by decide)) ?_
      refine lf (a_istore_n dL_law_578 (by decide)) ?_
      refine lf (a_iincN dL_law_579 rfl (by decide)) ?_
      refine lf (a_goto (tgt := 34) dL_law_582 (by decide)) ?_
      first
      | exact lf (a_room (b' := (bc, bs)) (by show bc ≤ bc + 2; omega) (by show bs ≤ bs + 12; omega)) (lf (a_loc _ rfl) (kx _ _ _ _ _ _ _ hI.1.s hI.2.1 hI.2.2))
      | exact lf (a_loc _ rfl) (kx _ _ _ _ _ _ _ hI.1.s hI.2.1 hI.2.2)
  · have hP0 : 0 < dP d := Nat.pos_of_ne_zero fun z => h455 (by rw [z]; rfl)
    have e472 : pgV q (srvD q d) (dP d - 1) 3 = x19 := (pg_srv htold _).trans (hx19 (dP d - 1) (by omega)).symm
    refine lf (a_aload_n dL_law_458 rfl) ?_
    refine lf (a_aload_n dL_law_459 rfl) ?_
    refine lf (a_iconst (3 : Int32) dL_law_460 (by decide)) ?_
    obtain ⟨v_, W461, k461, rfl, h461⟩ := (w_count hI.1 (k := 3) (by decide))
    have hwo := hw
    have hI := hI.tr h461
    have hw := hI.1.wf
    refine lf (a_inv (b2 := (bc + 2, bs + 12)) k461 rfl dL_law_461 yk_X10_count im_X10_count se_X10_count ml_L_131 rfl (co_0 hwo) (by decide) hc_X10 (by decide) ⟨Nat.le_of_eq (Nat.zero_add _), Nat.le_of_eq (Nat.zero_add _)⟩ (Nat.le_of_ble_eq_true rfl)) ?_
    rw [show cnV q (srvD q d) (pushH H d).1 3 = nI (dP d) from rfl]
    refine lf (a_iconst (1 : Int32) dL_law_464 (by decide)) ?_
    refine lf (a_isub dL_law_465) ?_
    rw [show nI (dP d) - (1 : Int32) = nI (dP d - 1) from nI_subI (b := 1) (by omega)]
    refine lf (a_iconst (3 : Int32) dL_law_466 (by decide)) ?_
    obtain ⟨v_, W467, k467, rfl, h467⟩ := (w_passenger hI.1 (i := dP d - 1) (k := 3) (show dP d - 1 < dP d by omega) (by decide))
    have hwo := hw
    have hI := hI.tr h467
    have hw := hI.1.wf
    refine lf (a_inv (b2 := (bc + 2, bs + 12)) k467 rfl dL_law_467 yk_X10_passenger im_X10_passenger se_X10_passenger ml_L_149 rfl (co_0 hwo) (by decide) hc_X10 (by decide) ⟨Nat.le_of_eq (Nat.zero_add _), Nat.le_of_eq (Nat.zero_add _)⟩ (Nat.le_of_ble_eq_true rfl)) ?_
    refine lf (a_iload dL_law_470 rfl) ?_
    refine lfn (a_icmp_ne (tgt := 504) dL_law_472 (by decide)) (fun h472 => absurd h472 (fun z => z e472)) (fun h472 => ?_)
    refine lf (a_lload dL_law_475 rfl) ?_
    refine lf (a_iload dL_law_477 rfl) ?_
    refine lf (a_iload dL_law_479 rfl) ?_
    refine lf (a_iadd dL_law_481) ?_
    refine lf (a_i2l dL_law_482) ?_
    refine lf (a_lcmp dL_law_483) ?_
    refine lfn (a_if_ne (tgt := 504) dL_law_484 (by decide)) (fun h484 => absurd h484 (fun z => z (lc_eq e7))) (fun h484 => ?_)
    refine lf (a_aload_n dL_law_487 rfl) ?_
    refine lf (a_bipush (7 : Int32) dL_law_488 (by decide)) ?_
    obtain ⟨v_, W490, k490, rfl, h490⟩ := (w_count hI.1 (k := 7) (by decide))
    have hwo := hw
    have hI := hI.tr h490
    have hw := hI.1.wf
    refine lf (a_inv (b2 := (bc + 2, bs + 12)) k490 rfl dL_law_490 yk_X10_count im_X10_count se_X10_count ml_L_131 rfl (co_0 hwo) (by decide) hc_X10 (by decide) ⟨Nat.le_of_eq (Nat.zero_add _), Nat.le_of_eq (Nat.zero_add _)⟩ (Nat.le_of_ble_eq_true rfl)) ?_
    refine lf (a_i2l dL_law_493) ?_
    refine lf (a_lload dL_law_494 rfl) ?_
    refine lf (a_lcmp dL_law_496) ?_
    refine lfn (a_if_ne (tgt := 504) dL_law_497 (by decide)) (fun h497 => absurd h497 (fun z => z (lc_eq e8))) (fun h497 => ?_)
    refine lf (a_iconst (1 : Int32) dL_law_500 (by decide)) ?_
    refine lf (a_goto (tgt := 505) dL_law_501 (by decide)) ?_
    refine lf (a_istore_n dL_law_505 (by decide)) ?_
    refine lf (a_iload_n dL_law_506 rfl) ?_
    refine lf2 (a_if_eq (tgt := 579) dL_law_507 (by decide)) (fun h507 => absurd h507 (by decide)) (fun h507 => ?_)
    refine lf (a_aload_n dL_law_510 rfl) ?_
    obtain ⟨v_, W511, k511, n511, hn511, rfl, hI⟩ := w_nextK hI
    refine lf (a_invS (b2 := (bc + 2, bs + 12)) k511 rfl dL_law_511 yk_L_next sm_L_next ml_L_39 rfl (by decide) ⟨Nat.le_of_eq (Nat.zero_add _), Nat.le_of_eq (Nat.zero_add _)⟩ (Nat.le_of_ble_eq_true rfl)) ?_
    have hwo := hw
    have hw := hI.1.wf
    refine lf (a_iconst (2 : Int32) dL_law_514 (by decide)) ?_
    refine lf (a_irem dL_law_515 (by decide)) ?_
    rw [show nI n511 - nI n511 / 2 * 2 = nI (n511 % 2) from pk_rem (d := 2) (by omega) (by decide) (by decide)]
    refine lfn (a_if_ne (tgt := 579) dL_law_516 (by decide)) (fun h516 => ?_) (fun h516 => ?_)
    · refine lf (a_iincN dL_law_579 rfl (by decide)) ?_
      refine lf (a_goto (tgt := 34) dL_law_582 (by decide)) ?_
      first
      | exact lf (a_room (b' := (bc, bs)) (by show bc ≤ bc + 2; omega) (by show bs ≤ bs + 12; omega)) (lf (a_loc _ rfl) (kx _ _ _ _ _ _ _ hI.1.s hI.2.1 hI.2.2))
      | exact lf (a_loc _ rfl) (kx _ _ _ _ _ _ _ hI.1.s hI.2.1 hI.2.2)
    · refine lf (a_aload_n dL_law_519 rfl) ?_
      obtain ⟨v_, W520, k520, rfl, hU, hO2⟩ := w_undone hI.1 hn9
      rw [ht9] at hU
      refine lf (a_invSH (b2 := (bc + 1, bs + 6)) k520 rfl dL_law_520 yh_L_undone sm_L_undone ml_L_199 rfl (by decide) ⟨by show 1 + (bc + 1) ≤ _; omega, by show 6 + (bs + 6) ≤ _; omega⟩ (Nat.le_of_ble_eq_true rfl)) ?_
      have hI := hI.act hU hO2
      have hw := hI.1.wf
      refine lf2 (a_if_lt (tgt := 577) dL_law_523 (by decide)) (fun h523 => absurd h523 (nI_pos (by omega))) (fun h523 => ?_)
      refine lf (a_aload_n dL_law_526 rfl) ?_
      refine lf (a_iconst (0 : Int32) dL_law_527 (by decide)) ?_
      refine lf (a_inv (b2 := (bc + 1, bs + 6)) (w_account hI.1 (k := 0) (by decide)) rfl dL_law_528 yk_X10_account im_X10_account se_X10_account ml_L_139 rfl (co_0 hw) (by decide) hc_X10 (by decide) ⟨Nat.le_of_eq (Nat.zero_add _), Nat.le_of_eq (Nat.zero_add _)⟩ (Nat.le_of_ble_eq_true rfl)) ?_
      refine lf (a_lload dL_law_531 rfl) ?_
      refine lf (a_lcmp dL_law_533) ?_
      refine lfn (a_if_ne (tgt := 577) dL_law_534 (by decide)) (fun h534 => absurd h534 (fun z => z (lc_eq hL))) (fun h534 => ?_)
      refine lf (a_aload_n dL_law_537 rfl) ?_
      refine lf (a_iconst (0 : Int32) dL_law_538 (by decide)) ?_
      obtain ⟨v_, W539, k539, rfl, h539⟩ := (w_count hI.1 (k := 0) (by decide))
      have hwo := hw
      have hI := hI.tr h539
      have hw := hI.1.wf
      refine lf (a_inv (b2 := (bc + 1, bs + 6)) k539 rfl dL_law_539 yk_X10_count im_X10_count se_X10_count ml_L_131 rfl (co_0 hwo) (by decide) hc_X10 (by decide) ⟨Nat.le_of_eq (Nat.zero_add _), Nat.le_of_eq (Nat.zero_add _)⟩ (Nat.le_of_ble_eq_true rfl)) ?_
      refine lf (a_iconst (3 : Int32) dL_law_542 (by decide)) ?_
      refine lf2 (a_icmp_ge (tgt := 577) dL_law_543 (by decide)) (fun h543 => absurd h543 (go_lt hgo)) (fun h543 => ?_)
      refine lf (a_aload_n dL_law_546 rfl) ?_
      refine lf (a_iconst (0 : Int32) dL_law_547 (by decide)) ?_
      obtain ⟨v_, W548, k548, rfl, hR, hO3⟩ := w_restore hI.1 (j := 0) (by decide) hS
      refine lf (a_inv (b2 := (bc + 1, bs + 6)) k548 rfl dL_law_548 yk_X10_restore im_X10_restore se_X10_restore ml_L_206 rfl (co_0 hw) (by decide) hc_X10 (by decide) ⟨Nat.le_of_eq (Nat.zero_add _), Nat.le_of_eq (Nat.zero_add _)⟩ (Nat.le_of_ble_eq_true rfl)) ?_
      have hI := hI.act hR hO3
      have hwo := hw
      have hw := hI.1.wf
      refine lf2 (a_if_le (tgt := 577) dL_law_551 (by decide)) (fun h551 => absurd h551 (go_gt hgo0)) (fun h551 => ?_)
      refine lf (a_aload_n dL_law_554 rfl) ?_
      obtain ⟨v_, W555, k555, rfl, h555⟩ := t_L_sum hI.1
      refine lf (a_invS (b2 := (bc + 1, bs + 6)) k555 rfl dL_law_555 yk_L_sum sm_L_sum ml_L_181 rfl (by decide) ⟨Nat.le_of_eq (Nat.zero_add _), Nat.le_of_eq (Nat.zero_add _)⟩ (Nat.le_of_ble_eq_true rfl)) ?_
      have hI := hI.tr h555
      have hwo := hw
      have hw := hI.1.wf
      refine lf (a_lload dL_law_558 rfl) ?_
      refine lf (a_lcmp dL_law_560) ?_
      refine lfn (a_if_ne (tgt := 577) dL_law_561 (by decide)) (fun h561 => absurd h561 (fun z => z (lc_eq rfl))) (fun h561 => ?_)
      refine lf (a_aload_n dL_law_564 rfl) ?_
      refine lf (a_invSH (b2 := (bc, bs)) (w_undone0 hI.1 rfl) rfl dL_law_565 yh_L_undone sm_L_undone ml_L_199 rfl (by decide) ⟨by show 1 + bc ≤ _; omega, by show 6 + bs ≤ _; omega⟩ (Nat.le_of_ble_eq_true rfl)) ?_
      refine lf (a_bipush (-2 : Int32) dL_law_568 (by decide)) ?_
      refine lfn (a_icmp_ne (tgt := 577) dL_law_570 (by decide)) (fun h570 => absurd h570 (by decide)) (fun h570 => ?_)
      refine lf (a_iconst (1 : Int32) dL_law_573 (by decide)) ?_
      refine lf (a_goto (tgt := 578) dL_law_574 (by decide)) ?_
      refine lf (a_istore_n dL_law_578 (by decide)) ?_
      refine lf (a_iincN dL_law_579 rfl (by decide)) ?_
      refine lf (a_goto (tgt := 34) dL_law_582 (by decide)) ?_
      first
      | exact lf (a_room (b' := (bc, bs)) (by show bc ≤ bc + 2; omega) (by show bs ≤ bs + 12; omega)) (lf (a_loc _ rfl) (kx _ _ _ _ _ _ _ hI.1.s hI.2.1 hI.2.2))
      | exact lf (a_loc _ rfl) (kx _ _ _ _ _ _ _ hI.1.s hI.2.1 hI.2.2)
theorem law_tail (hI : LwK p p0 q d H S N X k W) (hgo : goD q d) (hL : dA d 0 = L0) (hS : S 0 = some d0) (hgo0 : goD q d0) (hk : k + 2 < 1000000) (kx : ∀ (W : Wd) (p p0 : Nat) (q : PDt) (d : FDt) (H : Hst) (S : Nat → Option FDt), LwS p p0 (N + 1) q d H S W → wn W ≤ k + 2 → gX W = X → WP Y_L_law RLaw (bc, bs) W 34 (LA0 (m + 1)) [] QLw) : WP Y_L_law RLaw (bc + 4, bs + 36) W 276 (LB0 m L0 (sumF q d0) 14) [] QLw := by
  have hw := hI.1.wf
  have hwo := hw
  have hP4 := hI.1.gd.P4
  refine lf (a_aload_n dL_law_276 rfl) ?_
  refine lf (a_iconst (1 : Int32) dL_law_277 (by decide)) ?_
  obtain ⟨v_, W278, k278, rfl, h278⟩ := (w_outlook hI.1 (k := 1) (by decide))
  have hwo := hw
  have hI := hI.tr h278
  have hw := hI.1.wf
  refine lf (a_inv (b2 := (bc + 4, bs + 36)) k278 rfl dL_law_278 yk_X10_outlook im_X10_outlook se_X10_outlook ml_L_136 rfl (co_0 hwo) (by decide) hc_X10 (by decide) ⟨Nat.le_of_eq (Nat.zero_add _), Nat.le_of_eq (Nat.zero_add _)⟩ (Nat.le_of_ble_eq_true rfl)) ?_
  refine lf (a_istore dL_law_281 (by decide)) ?_
  refine lf (a_aload_n dL_law_283 rfl) ?_
  refine lf (a_iconst (3 : Int32) dL_law_284 (by decide)) ?_
  obtain ⟨v_, W285, k285, rfl, h285⟩ := (w_outlook hI.1 (k := 3) (by decide))
  have hwo := hw
  have hI := hI.tr h285
  have hw := hI.1.wf
  refine lf (a_inv (b2 := (bc + 4, bs + 36)) k285 rfl dL_law_285 yk_X10_outlook im_X10_outlook se_X10_outlook ml_L_136 rfl (co_0 hwo) (by decide) hc_X10 (by decide) ⟨Nat.le_of_eq (Nat.zero_add _), Nat.le_of_eq (Nat.zero_add _)⟩ (Nat.le_of_ble_eq_true rfl)) ?_
  refine lf (a_istore dL_law_288 (by decide)) ?_
  refine lf (a_aload_n dL_law_290 rfl) ?_
  refine lf (a_iconst (2 : Int32) dL_law_291 (by decide)) ?_
  obtain ⟨v_, W292, k292, rfl, h292⟩ := (w_outlook hI.1 (k := 2) (by decide))
  have hwo := hw
  have hI := hI.tr h292
  have hw := hI.1.wf
  refine lf (a_inv (b2 := (bc + 4, bs + 36)) k292 rfl dL_law_292 yk_X10_outlook im_X10_outlook se_X10_outlook ml_L_136 rfl (co_0 hwo) (by decide) hc_X10 (by decide) ⟨Nat.le_of_eq (Nat.zero_add _), Nat.le_of_eq (Nat.zero_add _)⟩ (Nat.le_of_ble_eq_true rfl)) ?_
  refine lf (a_istore dL_law_295 (by decide)) ?_
  refine lf (a_aload_n dL_law_297 rfl) ?_
  refine lf (a_iconst (4 : Int32) dL_law_298 (by decide)) ?_
  obtain ⟨v_, W299, k299, rfl, h299⟩ := (w_outlook hI.1 (k := 4) (by decide))
  have hwo := hw
  have hI := hI.tr h299
  have hw := hI.1.wf
  refine lf (a_inv (b2 := (bc + 4, bs + 36)) k299 rfl dL_law_299 yk_X10_outlook im_X10_outlook se_X10_outlook ml_L_136 rfl (co_0 hwo) (by decide) hc_X10 (by decide) ⟨Nat.le_of_eq (Nat.zero_add _), Nat.le_of_eq (Nat.zero_add _)⟩ (Nat.le_of_ble_eq_true rfl)) ?_
  refine lf (a_istore dL_law_302 (by decide)) ?_
  refine lf (a_aload_n dL_law_304 rfl) ?_
  refine lf (a_iconst (3 : Int32) dL_law_305 (by decide)) ?_
  refine lf (a_inv (b2 := (bc + 4, bs + 36)) (w_account hI.1 (k := 3) (by decide)) rfl dL_law_306 yk_X10_account im_X10_account se_X10_account ml_L_139 rfl (co_0 hw) (by decide) hc_X10 (by decide) ⟨Nat.le_of_eq (Nat.zero_add _), Nat.le_of_eq (Nat.zero_add _)⟩ (Nat.le_of_ble_eq_true rfl)) ?_
  refine lf (a_lstore dL_law_309 (by decide)) ?_
  refine lf (a_aload_n dL_law_311 rfl) ?_
  refine lf (a_iconst (5 : Int32) dL_law_312 (by decide)) ?_
  refine lf (a_inv (b2 := (bc + 4, bs + 36)) (w_account hI.1 (k := 5) (by decide)) rfl dL_law_313 yk_X10_account im_X10_account se_X10_account ml_L_139 rfl (co_0 hw) (by decide) hc_X10 (by decide) ⟨Nat.le_of_eq (Nat.zero_add _), Nat.le_of_eq (Nat.zero_add _)⟩ (Nat.le_of_ble_eq_true rfl)) ?_
  refine lf (a_lstore dL_law_316 (by decide)) ?_
  refine lf (a_aload_n dL_law_318 rfl) ?_
  refine lf (a_bipush (7 : Int32) dL_law_319 (by decide)) ?_
  obtain ⟨v_, W321, k321, rfl, h321⟩ := (w_count hI.1 (k := 7) (by decide))
  have hwo := hw
  have hI := hI.tr h321
  have hw := hI.1.wf
  refine lf (a_inv (b2 := (bc + 4, bs + 36)) k321 rfl dL_law_321 yk_X10_count im_X10_count se_X10_count ml_L_131 rfl (co_0 hwo) (by decide) hc_X10 (by decide) ⟨Nat.le_of_eq (Nat.zero_add _), Nat.le_of_eq (Nat.zero_add _)⟩ (Nat.le_of_ble_eq_true rfl)) ?_
  refine lf (a_i2l dL_law_324) ?_
  refine lf (a_lstore dL_law_325 (by decide)) ?_
  refine lf (a_aload_n dL_law_327 rfl) ?_
  refine lf (a_iconst (3 : Int32) dL_law_328 (by decide)) ?_
  obtain ⟨v_, W329, k329, rfl, h329⟩ := (w_count hI.1 (k := 3) (by decide))
  have hwo := hw
  have hI := hI.tr h329
  have hw := hI.1.wf
  refine lf (a_inv (b2 := (bc + 4, bs + 36)) k329 rfl dL_law_329 yk_X10_count im_X10_count se_X10_count ml_L_131 rfl (co_0 hwo) (by decide) hc_X10 (by decide) ⟨Nat.le_of_eq (Nat.zero_add _), Nat.le_of_eq (Nat.zero_add _)⟩ (Nat.le_of_ble_eq_true rfl)) ?_
  rw [show cnV q d H.1 3 = nI (dP d) from rfl]
  refine lfn (a_if_ne (tgt := 339) dL_law_332 (by decide)) (fun h332 => ?_) (fun h332 => ?_)
  · have hP0 : 0 < dP d := Nat.pos_of_ne_zero fun z => h332 (by rw [z]; rfl)
    have hx9 : ∀ i, dP d = i + 1 → oI ((svR q d).1 (dP d - 1)) = oI ((svR q d).1 i) := fun i hi => by rw [hi]; rfl
    refine lf (a_aload_n dL_law_339 rfl) ?_
    refine lf (a_aload_n dL_law_340 rfl) ?_
    refine lf (a_iconst (3 : Int32) dL_law_341 (by decide)) ?_
    obtain ⟨v_, W342, k342, rfl, h342⟩ := (w_count hI.1 (k := 3) (by decide))
    have hwo := hw
    have hI := hI.tr h342
    have hw := hI.1.wf
    refine lf (a_inv (b2 := (bc + 4, bs + 36)) k342 rfl dL_law_342 yk_X10_count im_X10_count se_X10_count ml_L_131 rfl (co_0 hwo) (by decide) hc_X10 (by decide) ⟨Nat.le_of_eq (Nat.zero_add _), Nat.le_of_eq (Nat.zero_add _)⟩ (Nat.le_of_ble_eq_true rfl)) ?_
    rw [show cnV q d H.1 3 = nI (dP d) from rfl]
    refine lf (a_iconst (1 : Int32) dL_law_345 (by decide)) ?_
    refine lf (a_isub dL_law_346) ?_
    rw [show nI (dP d) - (1 : Int32) = nI (dP d - 1) from nI_subI (b := 1) (by omega)]
    obtain ⟨v_, W347, k347, rfl, h347⟩ := (w_mealFor hI.1 (i := dP d - 1) (by omega))
    have hwo := hw
    have hI := hI.tr h347
    have hw := hI.1.wf
    refine lf (a_inv (b2 := (bc + 4, bs + 36)) k347 rfl dL_law_347 yk_X10_mealFor im_X10_mealFor se_X10_mealFor ml_L_168 rfl (co_0 hwo) (by decide) hc_X10 (by decide) ⟨Nat.le_of_eq (Nat.zero_add _), Nat.le_of_eq (Nat.zero_add _)⟩ (Nat.le_of_ble_eq_true rfl)) ?_
    refine lf (a_istore dL_law_350 (by decide)) ?_
    exact lf (a_loc _ rfl) (law_serve hI hgo hL hS hgo0 hk hx9 kx)
  · have hP0 : dP d = 0 := (nI_eqI (a := dP d) (b := 0) (by omega) (by decide)).mp h332
    have hx9 : ∀ i, dP d = i + 1 → (-1 : Int32) = oI ((svR q d).1 i) := fun i hi => by omega
    refine lf (a_iconst (-1 : Int32) dL_law_335 (by decide)) ?_
    refine lf (a_goto (tgt := 350) dL_law_336 (by decide)) ?_
    refine lf (a_istore dL_law_350 (by decide)) ?_
    exact lf (a_loc _ rfl) (law_serve hI hgo hL hS hgo0 hk hx9 kx)
end LAWW
