section STEPS
theorem s_feed {μ : Wd} {N i bb : Nat} {X : Nat × (Nat → Int32)} (h : RelV N μ) (hX : gX μ = X) (hi : i + 6 ≤ X.1) (hL : X.1 ≤ 3072) (kx : ∀ V, RelV (N + 1) V → gX V = X → WP Y_L_law RLaw (60 * bb, 300 * bb) V 1976 (LAw i) [] QLw) : WP Y_L_law RLaw (60 * (bb + 1), 300 * (bb + 1)) μ 188 (LAw i) [] QLw := by
  have hw := h.wf
  rcases o_feed h (X.2 (i + 1)) (X.2 (i + 2)) (X.2 (i + 3)) (X.2 (i + 4)) (X.2 (i + 5)) with ⟨v, W, tv, hW, hc, hg, hk⟩ | ⟨x, k, W, hxk, hW, hc, hg, hk⟩
  · obtain ⟨v, rfl⟩ := tv
    obtain ⟨V, km, k0, hr, hv, hx⟩ := hk (sL W 363 0 (v.toInt64)) ((Out.rfl' hW).sL (S := s363) (i := 363) rfl _ _)
    have hX1 : gX (sL W 363 0 (v.toInt64)) = X := hg.trans hX
    have hX2 : gX V = X := hx.trans hX1
    have hV := hr.wf
    have hv1 : gL V 363 0 = v.toInt64 := hv.trans ((gL_sL _ _ _ _ _ _).trans (if_pos ⟨rfl, rfl⟩))
    refine lf (a_aload_n dL_law_188 rfl) ?_
    refine lf (a_aload_n dL_law_189 rfl) ?_
    refine lf (a_iload dL_law_190 rfl) ?_
    refine lf (a_iconst (1 : Int32) dL_law_192 (by decide)) ?_
    refine lf (a_iadd dL_law_193) ?_
    refine lf (a_sld dL_law_194 hX (ix_s (k := 1) rfl (show i + 1 < X.1 by omega) (by omega))) ?_
    refine lf (a_aload_n dL_law_195 rfl) ?_
    refine lf (a_iload dL_law_196 rfl) ?_
    refine lf (a_iconst (2 : Int32) dL_law_198 (by decide)) ?_
    refine lf (a_iadd dL_law_199) ?_
    refine lf (a_sld dL_law_200 hX (ix_s (k := 2) rfl (show i + 2 < X.1 by omega) (by omega))) ?_
    refine lf (a_aload_n dL_law_201 rfl) ?_
    refine lf (a_iload dL_law_202 rfl) ?_
    refine lf (a_iconst (3 : Int32) dL_law_204 (by decide)) ?_
    refine lf (a_iadd dL_law_205) ?_
    refine lf (a_sld dL_law_206 hX (ix_s (k := 3) rfl (show i + 3 < X.1 by omega) (by omega))) ?_
    refine lf (a_aload_n dL_law_207 rfl) ?_
    refine lf (a_iload dL_law_208 rfl) ?_
    refine lf (a_iconst (4 : Int32) dL_law_210 (by decide)) ?_
    refine lf (a_iadd dL_law_211) ?_
    refine lf (a_sld dL_law_212 hX (ix_s (k := 4) rfl (show i + 4 < X.1 by omega) (by omega))) ?_
    refine lf (a_aload_n dL_law_213 rfl) ?_
    refine lf (a_iload dL_law_214 rfl) ?_
    refine lf (a_iconst (5 : Int32) dL_law_216 (by decide)) ?_
    refine lf (a_iadd dL_law_217) ?_
    refine lf (a_sld dL_law_218 hX (ix_s (k := 5) rfl (show i + 5 < X.1 by omega) (by omega))) ?_
    refine lf (a_aload_n dL_law_219 rfl) ?_
    refine lf (a_invSH (b2 := (60 * bb, 300 * bb)) (wv_feed (by repeat (first | with_reducible exact hw | with_reducible exact hwc | with_reducible assumption | with_reducible apply Wf.sI | with_reducible apply Wf.sL | with_reducible apply Wf.cpI | with_reducible apply Wf.cpL | with_reducible apply Wf.cp2 | with_reducible apply Wf.sIs | with_reducible apply Wf.sLs | with_reducible apply Wf.cpU | with_reducible apply Wf.fillI | with_reducible apply Wf.clU | with_reducible apply Wf.dnF | with_reducible apply Wf.gbW)) (X.2 (i + 1)) (X.2 (i + 2)) (X.2 (i + 3)) (X.2 (i + 4)) (X.2 (i + 5)) hW hc) rfl dL_law_220 yh_L_feed sm_L_feed ml_L_108 rfl (by decide) ⟨by show 1 + 60 * bb ≤ 60 * (bb + 1); omega, by show 6 + 300 * bb ≤ 300 * (bb + 1); omega⟩ (Nat.le_of_ble_eq_true rfl)) ?_
    refine lf (a_istore dL_law_223 (by decide)) ?_
    refine lf (a_aload_n dL_law_225 rfl) ?_
    refine lf (a_aload_n dL_law_226 rfl) ?_
    refine lf (a_iload dL_law_227 rfl) ?_
    refine lf (a_iconst (1 : Int32) dL_law_229 (by decide)) ?_
    refine lf (a_iadd dL_law_230) ?_
    refine lf (a_sld dL_law_231 hX1 (ix_s (k := 1) rfl (show i + 1 < X.1 by omega) (by omega))) ?_
    refine lf (a_aload_n dL_law_232 rfl) ?_
    refine lf (a_iload dL_law_233 rfl) ?_
    refine lf (a_iconst (2 : Int32) dL_law_235 (by decide)) ?_
    refine lf (a_iadd dL_law_236) ?_
    refine lf (a_sld dL_law_237 hX1 (ix_s (k := 2) rfl (show i + 2 < X.1 by omega) (by omega))) ?_
    refine lf (a_aload_n dL_law_238 rfl) ?_
    refine lf (a_iload dL_law_239 rfl) ?_
    refine lf (a_iconst (3 : Int32) dL_law_241 (by decide)) ?_
    refine lf (a_iadd dL_law_242) ?_
    refine lf (a_sld dL_law_243 hX1 (ix_s (k := 3) rfl (show i + 3 < X.1 by omega) (by omega))) ?_
    refine lf (a_aload_n dL_law_244 rfl) ?_
    refine lf (a_iload dL_law_245 rfl) ?_
    refine lf (a_iconst (4 : Int32) dL_law_247 (by decide)) ?_
    refine lf (a_iadd dL_law_248) ?_
    refine lf (a_sld dL_law_249 hX1 (ix_s (k := 4) rfl (show i + 4 < X.1 by omega) (by omega))) ?_
    refine lf (a_aload_n dL_law_250 rfl) ?_
    refine lf (a_iload dL_law_251 rfl) ?_
    refine lf (a_iconst (5 : Int32) dL_law_253 (by decide)) ?_
    refine lf (a_iadd dL_law_254) ?_
    refine lf (a_sld dL_law_255 hX1 (ix_s (k := 5) rfl (show i + 5 < X.1 by omega) (by omega))) ?_
    refine lf (a_inv (b2 := (60 * bb, 300 * bb)) km rfl dL_law_256 yk_X11_feed im_X11_feed se_X11_feed ml_L_113 rfl (co_338 (by repeat (first | with_reducible exact hw | with_reducible exact hwc | with_reducible assumption | with_reducible apply Wf.sI | with_reducible apply Wf.sL | with_reducible apply Wf.cpI | with_reducible apply Wf.cpL | with_reducible apply Wf.cp2 | with_reducible apply Wf.sIs | with_reducible apply Wf.sLs | with_reducible apply Wf.cpU | with_reducible apply Wf.fillI | with_reducible apply Wf.clU | with_reducible apply Wf.dnF | with_reducible apply Wf.gbW))) (by decide) hc_X11 (by decide) ⟨by show 0 + 60 * bb ≤ 60 * bb; omega, by show 0 + 300 * bb ≤ 300 * bb; omega⟩ (Nat.le_of_ble_eq_true rfl)) ?_
    refine lf (a_istore dL_law_259 (by decide)) ?_
    refine lf (a_aload_n dL_law_261 rfl) ?_
    refine lf (a_inv (b2 := (60 * bb, 300 * bb)) (m_thrown (by repeat (first | with_reducible exact hw | with_reducible exact hwc | with_reducible assumption | with_reducible apply Wf.sI | with_reducible apply Wf.sL | with_reducible apply Wf.cpI | with_reducible apply Wf.cpL | with_reducible apply Wf.cp2 | with_reducible apply Wf.sIs | with_reducible apply Wf.sLs | with_reducible apply Wf.cpU | with_reducible apply Wf.fillI | with_reducible apply Wf.clU | with_reducible apply Wf.dnF | with_reducible apply Wf.gbW))) rfl dL_law_262 yk_X11_thrown im_X11_thrown se_X11_thrown ml_L_114 rfl (co_338 (by repeat (first | with_reducible exact hw | with_reducible exact hwc | with_reducible assumption | with_reducible apply Wf.sI | with_reducible apply Wf.sL | with_reducible apply Wf.cpI | with_reducible apply Wf.cpL | with_reducible apply Wf.cp2 | with_reducible apply Wf.sIs | with_reducible apply Wf.sLs | with_reducible apply Wf.cpU | with_reducible apply Wf.fillI | with_reducible apply Wf.clU | with_reducible apply Wf.dnF | with_reducible apply Wf.gbW))) (by decide) hc_X11 (by decide) ⟨by show 0 + 60 * bb ≤ 60 * bb; omega, by show 0 + 300 * bb ≤ 300 * bb; omega⟩ (Nat.le_of_ble_eq_true rfl)) ?_
    refine lf (a_iload dL_law_265 rfl) ?_
    refine lf2 (a_icmp_eq (tgt := 272) dL_law_267 (by decide)) (fun h267 => ?_) (fun h267 => absurd h267 (fun z => z k0))
    refine lf (a_iload dL_law_272 rfl) ?_
    refine lfn (a_if_ne (tgt := 289) dL_law_274 (by decide)) (fun h274 => absurd h274 (by decide)) (fun h274 => ?_)
    refine lf (a_aload_n dL_law_277 rfl) ?_
    refine lf (a_iconst (0 : Int32) dL_law_278 (by decide)) ?_
    refine lf (a_lld dL_law_279 (ca_363 (by repeat (first | with_reducible exact hw | with_reducible exact hwc | with_reducible assumption | with_reducible apply Wf.sI | with_reducible apply Wf.sL | with_reducible apply Wf.cpI | with_reducible apply Wf.cpL | with_reducible apply Wf.cp2 | with_reducible apply Wf.sIs | with_reducible apply Wf.sLs | with_reducible apply Wf.cpU | with_reducible apply Wf.fillI | with_reducible apply Wf.clU | with_reducible apply Wf.dnF | with_reducible apply Wf.gbW))) (ixn (m := 0) (by decide) (by decide))) ?_
    rw [hv1]
    refine lf (a_iload dL_law_280 rfl) ?_
    refine lf (a_i2l dL_law_282) ?_
    refine lf (a_lcmp dL_law_283) ?_
    refine lf2 (a_if_eq (tgt := 289) dL_law_284 (by decide)) (fun h284 => ?_) (fun h284 => absurd h284 (fun z => z (lcmp_self _)))
    refine lf (a_goto (tgt := 1976) dL_law_289 (by decide)) ?_
    exact lf (a_loc (LAw i) rfl) (kx V hr hX2)
  · simp only [List.mem_cons, List.not_mem_nil, or_false, Prod.mk.injEq] at hxk
    obtain ⟨rfl, rfl⟩ := hxk
    obtain ⟨z, V, tz, km, k0, hr, hv, hx⟩ := hk W (Out.rfl' hW)
    obtain ⟨z, rfl⟩ := tz
    have hX1 : gX W = X := hg.trans hX
    have hX2 : gX V = X := hx.trans hX1
    have hV := hr.wf
    refine lf (a_aload_n dL_law_188 rfl) ?_
    refine lf (a_aload_n dL_law_189 rfl) ?_
    refine lf (a_iload dL_law_190 rfl) ?_
    refine lf (a_iconst (1 : Int32) dL_law_192 (by decide)) ?_
    refine lf (a_iadd dL_law_193) ?_
    refine lf (a_sld dL_law_194 hX (ix_s (k := 1) rfl (show i + 1 < X.1 by omega) (by omega))) ?_
    refine lf (a_aload_n dL_law_195 rfl) ?_
    refine lf (a_iload dL_law_196 rfl) ?_
    refine lf (a_iconst (2 : Int32) dL_law_198 (by decide)) ?_
    refine lf (a_iadd dL_law_199) ?_
    refine lf (a_sld dL_law_200 hX (ix_s (k := 2) rfl (show i + 2 < X.1 by omega) (by omega))) ?_
    refine lf (a_aload_n dL_law_201 rfl) ?_
    refine lf (a_iload dL_law_202 rfl) ?_
    refine lf (a_iconst (3 : Int32) dL_law_204 (by decide)) ?_
    refine lf (a_iadd dL_law_205) ?_
    refine lf (a_sld dL_law_206 hX (ix_s (k := 3) rfl (show i + 3 < X.1 by omega) (by omega))) ?_
    refine lf (a_aload_n dL_law_207 rfl) ?_
    refine lf (a_iload dL_law_208 rfl) ?_
    refine lf (a_iconst (4 : Int32) dL_law_210 (by decide)) ?_
    refine lf (a_iadd dL_law_211) ?_
    refine lf (a_sld dL_law_212 hX (ix_s (k := 4) rfl (show i + 4 < X.1 by omega) (by omega))) ?_
    refine lf (a_aload_n dL_law_213 rfl) ?_
    refine lf (a_iload dL_law_214 rfl) ?_
    refine lf (a_iconst (5 : Int32) dL_law_216 (by decide)) ?_
    refine lf (a_iadd dL_law_217) ?_
    refine lf (a_sld dL_law_218 hX (ix_s (k := 5) rfl (show i + 5 < X.1 by omega) (by omega))) ?_
    refine lf (a_aload_n dL_law_219 rfl) ?_
    refine lf (a_invSH (b2 := (60 * bb, 300 * bb)) (wx_feed_1 (by repeat (first | with_reducible exact hw | with_reducible exact hwc | with_reducible assumption | with_reducible apply Wf.sI | with_reducible apply Wf.sL | with_reducible apply Wf.cpI | with_reducible apply Wf.cpL | with_reducible apply Wf.cp2 | with_reducible apply Wf.sIs | with_reducible apply Wf.sLs | with_reducible apply Wf.cpU | with_reducible apply Wf.fillI | with_reducible apply Wf.clU | with_reducible apply Wf.dnF | with_reducible apply Wf.gbW)) (X.2 (i + 1)) (X.2 (i + 2)) (X.2 (i + 3)) (X.2 (i + 4)) (X.2 (i + 5)) hc) rfl dL_law_220 yh_L_feed sm_L_feed ml_L_108 rfl (by decide) ⟨by show 1 + 60 * bb ≤ 60 * (bb + 1); omega, by show 6 + 300 * bb ≤ 300 * (bb + 1); omega⟩ (Nat.le_of_ble_eq_true rfl)) ?_
    refine lf (a_istore dL_law_223 (by decide)) ?_
    refine lf (a_aload_n dL_law_225 rfl) ?_
    refine lf (a_aload_n dL_law_226 rfl) ?_
    refine lf (a_iload dL_law_227 rfl) ?_
    refine lf (a_iconst (1 : Int32) dL_law_229 (by decide)) ?_
    refine lf (a_iadd dL_law_230) ?_
    refine lf (a_sld dL_law_231 hX1 (ix_s (k := 1) rfl (show i + 1 < X.1 by omega) (by omega))) ?_
    refine lf (a_aload_n dL_law_232 rfl) ?_
    refine lf (a_iload dL_law_233 rfl) ?_
    refine lf (a_iconst (2 : Int32) dL_law_235 (by decide)) ?_
    refine lf (a_iadd dL_law_236) ?_
    refine lf (a_sld dL_law_237 hX1 (ix_s (k := 2) rfl (show i + 2 < X.1 by omega) (by omega))) ?_
    refine lf (a_aload_n dL_law_238 rfl) ?_
    refine lf (a_iload dL_law_239 rfl) ?_
    refine lf (a_iconst (3 : Int32) dL_law_241 (by decide)) ?_
    refine lf (a_iadd dL_law_242) ?_
    refine lf (a_sld dL_law_243 hX1 (ix_s (k := 3) rfl (show i + 3 < X.1 by omega) (by omega))) ?_
    refine lf (a_aload_n dL_law_244 rfl) ?_
    refine lf (a_iload dL_law_245 rfl) ?_
    refine lf (a_iconst (4 : Int32) dL_law_247 (by decide)) ?_
    refine lf (a_iadd dL_law_248) ?_
    refine lf (a_sld dL_law_249 hX1 (ix_s (k := 4) rfl (show i + 4 < X.1 by omega) (by omega))) ?_
    refine lf (a_aload_n dL_law_250 rfl) ?_
    refine lf (a_iload dL_law_251 rfl) ?_
    refine lf (a_iconst (5 : Int32) dL_law_253 (by decide)) ?_
    refine lf (a_iadd dL_law_254) ?_
    refine lf (a_sld dL_law_255 hX1 (ix_s (k := 5) rfl (show i + 5 < X.1 by omega) (by omega))) ?_
    refine lf (a_inv (b2 := (60 * bb, 300 * bb)) km rfl dL_law_256 yk_X11_feed im_X11_feed se_X11_feed ml_L_113 rfl (co_338 (by repeat (first | with_reducible exact hw | with_reducible exact hwc | with_reducible assumption | with_reducible apply Wf.sI | with_reducible apply Wf.sL | with_reducible apply Wf.cpI | with_reducible apply Wf.cpL | with_reducible apply Wf.cp2 | with_reducible apply Wf.sIs | with_reducible apply Wf.sLs | with_reducible apply Wf.cpU | with_reducible apply Wf.fillI | with_reducible apply Wf.clU | with_reducible apply Wf.dnF | with_reducible apply Wf.gbW))) (by decide) hc_X11 (by decide) ⟨by show 0 + 60 * bb ≤ 60 * bb; omega, by show 0 + 300 * bb ≤ 300 * bb; omega⟩ (Nat.le_of_ble_eq_true rfl)) ?_
    refine lf (a_istore dL_law_259 (by decide)) ?_
    refine lf (a_aload_n dL_law_261 rfl) ?_
    refine lf (a_inv (b2 := (60 * bb, 300 * bb)) (m_thrown (by repeat (first | with_reducible exact hw | with_reducible exact hwc | with_reducible assumption | with_reducible apply Wf.sI | with_reducible apply Wf.sL | with_reducible apply Wf.cpI | with_reducible apply Wf.cpL | with_reducible apply Wf.cp2 | with_reducible apply Wf.sIs | with_reducible apply Wf.sLs | with_reducible apply Wf.cpU | with_reducible apply Wf.fillI | with_reducible apply Wf.clU | with_reducible apply Wf.dnF | with_reducible apply Wf.gbW))) rfl dL_law_262 yk_X11_thrown im_X11_thrown se_X11_thrown ml_L_114 rfl (co_338 (by repeat (first | with_reducible exact hw | with_reducible exact hwc | with_reducible assumption | with_reducible apply Wf.sI | with_reducible apply Wf.sL | with_reducible apply Wf.cpI | with_reducible apply Wf.cpL | with_reducible apply Wf.cp2 | with_reducible apply Wf.sIs | with_reducible apply Wf.sLs | with_reducible apply Wf.cpU | with_reducible apply Wf.fillI | with_reducible apply Wf.clU | with_reducible apply Wf.dnF | with_reducible apply Wf.gbW))) (by decide) hc_X11 (by decide) ⟨by show 0 + 60 * bb ≤ 60 * bb; omega, by show 0 + 300 * bb ≤ 300 * bb; omega⟩ (Nat.le_of_ble_eq_true rfl)) ?_
    refine lf (a_iload dL_law_265 rfl) ?_
    refine lf2 (a_icmp_eq (tgt := 272) dL_law_267 (by decide)) (fun h267 => ?_) (fun h267 => absurd h267 (fun z => z k0))
    refine lf (a_iload dL_law_272 rfl) ?_
    refine lfn (a_if_ne (tgt := 289) dL_law_274 (by decide)) (fun h274 => ?_) (fun h274 => absurd h274 (by decide))
    refine lf (a_goto (tgt := 1976) dL_law_289 (by decide)) ?_
    exact lf (a_loc (LAw i) rfl) (kx V hr hX2)
theorem s_load {μ : Wd} {N i bb : Nat} {X : Nat × (Nat → Int32)} (h : RelV N μ) (hX : gX μ = X) (hi : i + 6 ≤ X.1) (hL : X.1 ≤ 3072) (kx : ∀ V, RelV (N + 1) V → gX V = X → WP Y_L_law RLaw (60 * bb, 300 * bb) V 1976 (LAw i) [] QLw) (hN : N ≤ 10000) : WP Y_L_law RLaw (60 * (bb + 1), 300 * (bb + 1)) μ 292 (LAw i) [] QLw := by
  have hw := h.wf
  rcases o_load h hN (X.2 (i + 1)) with (⟨v, W, tv, hW, hc, hg, hk⟩ | ⟨x, k, W, hxk, hW, hc, hg, hk⟩) | ⟨v, W, tv, hW, hc, hg, hk⟩ | ⟨x, k, W, hxk, hW, hc, hg, hk⟩
  · obtain ⟨v, rfl⟩ := tv
    obtain ⟨V, km, k0, hr, hv, hx⟩ := hk (sL W 363 0 (v.toInt64)) ((Out.rfl' hW).sL (S := s363) (i := 363) rfl _ _)
    have hX1 : gX (sL W 363 0 (v.toInt64)) = X := hg.trans hX
    have hX2 : gX V = X := hx.trans hX1
    have hV := hr.wf
    have hv1 : gL V 363 0 = v.toInt64 := hv.trans ((gL_sL _ _ _ _ _ _).trans (if_pos ⟨rfl, rfl⟩))
    refine lf (a_aload_n dL_law_292 rfl) ?_
    refine lf (a_aload_n dL_law_293 rfl) ?_
    refine lf (a_iload dL_law_294 rfl) ?_
    refine lf (a_iconst (1 : Int32) dL_law_296 (by decide)) ?_
    refine lf (a_iadd dL_law_297) ?_
    refine lf (a_sld dL_law_298 hX (ix_s (k := 1) rfl (show i + 1 < X.1 by omega) (by omega))) ?_
    refine lf (a_aload_n dL_law_299 rfl) ?_
    refine lf (a_invSH (b2 := (60 * bb, 300 * bb)) (wv_load (by repeat (first | with_reducible exact hw | with_reducible exact hwc | with_reducible assumption | with_reducible apply Wf.sI | with_reducible apply Wf.sL | with_reducible apply Wf.cpI | with_reducible apply Wf.cpL | with_reducible apply Wf.cp2 | with_reducible apply Wf.sIs | with_reducible apply Wf.sLs | with_reducible apply Wf.cpU | with_reducible apply Wf.fillI | with_reducible apply Wf.clU | with_reducible apply Wf.dnF | with_reducible apply Wf.gbW)) (X.2 (i + 1)) hW hc) rfl dL_law_300 yh_L_load sm_L_load ml_L_117 rfl (by decide) ⟨by show 49 + 60 * bb ≤ 60 * (bb + 1); omega, by show 262 + 300 * bb ≤ 300 * (bb + 1); omega⟩ (Nat.le_of_ble_eq_true rfl)) ?_
    refine lf (a_istore dL_law_303 (by decide)) ?_
    refine lf (a_aload_n dL_law_305 rfl) ?_
    refine lf (a_aload_n dL_law_306 rfl) ?_
    refine lf (a_iload dL_law_307 rfl) ?_
    refine lf (a_iconst (1 : Int32) dL_law_309 (by decide)) ?_
    refine lf (a_iadd dL_law_310) ?_
    refine lf (a_sld dL_law_311 hX1 (ix_s (k := 1) rfl (show i + 1 < X.1 by omega) (by omega))) ?_
    refine lf (a_inv (b2 := (60 * bb, 300 * bb)) km rfl dL_law_312 yk_X11_load im_X11_load se_X11_load ml_L_120 rfl (co_338 (by repeat (first | with_reducible exact hw | with_reducible exact hwc | with_reducible assumption | with_reducible apply Wf.sI | with_reducible apply Wf.sL | with_reducible apply Wf.cpI | with_reducible apply Wf.cpL | with_reducible apply Wf.cp2 | with_reducible apply Wf.sIs | with_reducible apply Wf.sLs | with_reducible apply Wf.cpU | with_reducible apply Wf.fillI | with_reducible apply Wf.clU | with_reducible apply Wf.dnF | with_reducible apply Wf.gbW))) (by decide) hc_X11 (by decide) ⟨by show 0 + 60 * bb ≤ 60 * bb; omega, by show 0 + 300 * bb ≤ 300 * bb; omega⟩ (Nat.le_of_ble_eq_true rfl)) ?_
    refine lf (a_istore dL_law_315 (by decide)) ?_
    refine lf (a_aload_n dL_law_317 rfl) ?_
    refine lf (a_inv (b2 := (60 * bb, 300 * bb)) (m_thrown (by repeat (first | with_reducible exact hw | with_reducible exact hwc | with_reducible assumption | with_reducible apply Wf.sI | with_reducible apply Wf.sL | with_reducible apply Wf.cpI | with_reducible apply Wf.cpL | with_reducible apply Wf.cp2 | with_reducible apply Wf.sIs | with_reducible apply Wf.sLs | with_reducible apply Wf.cpU | with_reducible apply Wf.fillI | with_reducible apply Wf.clU | with_reducible apply Wf.dnF | with_reducible apply Wf.gbW))) rfl dL_law_318 yk_X11_thrown im_X11_thrown se_X11_thrown ml_L_114 rfl (co_338 (by repeat (first | with_reducible exact hw | with_reducible exact hwc | with_reducible assumption | with_reducible apply Wf.sI | with_reducible apply Wf.sL | with_reducible apply Wf.cpI | with_reducible apply Wf.cpL | with_reducible apply Wf.cp2 | with_reducible apply Wf.sIs | with_reducible apply Wf.sLs | with_reducible apply Wf.cpU | with_reducible apply Wf.fillI | with_reducible apply Wf.clU | with_reducible apply Wf.dnF | with_reducible apply Wf.gbW))) (by decide) hc_X11 (by decide) ⟨by show 0 + 60 * bb ≤ 60 * bb; omega, by show 0 + 300 * bb ≤ 300 * bb; omega⟩ (Nat.le_of_ble_eq_true rfl)) ?_
    refine lf (a_iload dL_law_321 rfl) ?_
    refine lf2 (a_icmp_eq (tgt := 328) dL_law_323 (by decide)) (fun h323 => ?_) (fun h323 => absurd h323 (fun z => z k0))
    refine lf (a_iload dL_law_328 rfl) ?_
    refine lfn (a_if_ne (tgt := 345) dL_law_330 (by decide)) (fun h330 => absurd h330 (by decide)) (fun h330 => ?_)
    refine lf (a_aload_n dL_law_333 rfl) ?_
    refine lf (a_iconst (0 : Int32) dL_law_334 (by decide)) ?_
    refine lf (a_lld dL_law_335 (ca_363 (by repeat (first | with_reducible exact hw | with_reducible exact hwc | with_reducible assumption | with_reducible apply Wf.sI | with_reducible apply Wf.sL | with_reducible apply Wf.cpI | with_reducible apply Wf.cpL | with_reducible apply Wf.cp2 | with_reducible apply Wf.sIs | with_reducible apply Wf.sLs | with_reducible apply Wf.cpU | with_reducible apply Wf.fillI | with_reducible apply Wf.clU | with_reducible apply Wf.dnF | with_reducible apply Wf.gbW))) (ixn (m := 0) (by decide) (by decide))) ?_
    rw [hv1]
    refine lf (a_iload dL_law_336 rfl) ?_
    refine lf (a_i2l dL_law_338) ?_
    refine lf (a_lcmp dL_law_339) ?_
    refine lf2 (a_if_eq (tgt := 345) dL_law_340 (by decide)) (fun h340 => ?_) (fun h340 => absurd h340 (fun z => z (lcmp_self _)))
    refine lf (a_goto (tgt := 1976) dL_law_345 (by decide)) ?_
    exact lf (a_loc (LAw i) rfl) (kx V hr hX2)
  · simp only [List.mem_cons, List.not_mem_nil, or_false, Prod.mk.injEq] at hxk
    rcases hxk with ⟨rfl, rfl⟩ | ⟨rfl, rfl⟩
    · obtain ⟨z, V, tz, km, k0, hr, hv, hx⟩ := hk W (Out.rfl' hW)
      obtain ⟨z, rfl⟩ := tz
      have hX1 : gX W = X := hg.trans hX
      have hX2 : gX V = X := hx.trans hX1
      have hV := hr.wf
      refine lf (a_aload_n dL_law_292 rfl) ?_
      refine lf (a_aload_n dL_law_293 rfl) ?_
      refine lf (a_iload dL_law_294 rfl) ?_
      refine lf (a_iconst (1 : Int32) dL_law_296 (by decide)) ?_
      refine lf (a_iadd dL_law_297) ?_
      refine lf (a_sld dL_law_298 hX (ix_s (k := 1) rfl (show i + 1 < X.1 by omega) (by omega))) ?_
      refine lf (a_aload_n dL_law_299 rfl) ?_
      refine lf (a_invSH (b2 := (60 * bb, 300 * bb)) (wx_load_1 (by repeat (first | with_reducible exact hw | with_reducible exact hwc | with_reducible assumption | with_reducible apply Wf.sI | with_reducible apply Wf.sL | with_reducible apply Wf.cpI | with_reducible apply Wf.cpL | with_reducible apply Wf.cp2 | with_reducible apply Wf.sIs | with_reducible apply Wf.sLs | with_reducible apply Wf.cpU | with_reducible apply Wf.fillI | with_reducible apply Wf.clU | with_reducible apply Wf.dnF | with_reducible apply Wf.gbW)) (X.2 (i + 1)) hc) rfl dL_law_300 yh_L_load sm_L_load ml_L_117 rfl (by decide) ⟨by show 49 + 60 * bb ≤ 60 * (bb + 1); omega, by show 262 + 300 * bb ≤ 300 * (bb + 1); omega⟩ (Nat.le_of_ble_eq_true rfl)) ?_
      refine lf (a_istore dL_law_303 (by decide)) ?_
      refine lf (a_aload_n dL_law_305 rfl) ?_
      refine lf (a_aload_n dL_law_306 rfl) ?_
      refine lf (a_iload dL_law_307 rfl) ?_
      refine lf (a_iconst (1 : Int32) dL_law_309 (by decide)) ?_
      refine lf (a_iadd dL_law_310) ?_
      refine lf (a_sld dL_law_311 hX1 (ix_s (k := 1) rfl (show i + 1 < X.1 by omega) (by omega))) ?_
      refine lf (a_inv (b2 := (60 * bb, 300 * bb)) km rfl dL_law_312 yk_X11_load im_X11_load se_X11_load ml_L_120 rfl (co_338 (by repeat (first | with_reducible exact hw | with_reducible exact hwc | with_reducible assumption | with_reducible apply Wf.sI | with_reducible apply Wf.sL | with_reducible apply Wf.cpI | with_reducible apply Wf.cpL | with_reducible apply Wf.cp2 | with_reducible apply Wf.sIs | with_reducible apply Wf.sLs | with_reducible apply Wf.cpU | with_reducible apply Wf.fillI | with_reducible apply Wf.clU | with_reducible apply Wf.dnF | with_reducible apply Wf.gbW))) (by decide) hc_X11 (by decide) ⟨by show 0 + 60 * bb ≤ 60 * bb; omega, by show 0 + 300 * bb ≤ 300 * bb; omega⟩ (Nat.le_of_ble_eq_true rfl)) ?_
      refine lf (a_istore dL_law_315 (by decide)) ?_
      refine lf (a_aload_n dL_law_317 rfl) ?_
      refine lf (a_inv (b2 := (60 * bb, 300 * bb)) (m_thrown (by repeat (first | with_reducible exact hw | with_reducible exact hwc | with_reducible assumption | with_reducible apply Wf.sI | with_reducible apply Wf.sL | with_reducible apply Wf.cpI | with_reducible apply Wf.cpL | with_reducible apply Wf.cp2 | with_reducible apply Wf.sIs | with_reducible apply Wf.sLs | with_reducible apply Wf.cpU | with_reducible apply Wf.fillI | with_reducible apply Wf.clU | with_reducible apply Wf.dnF | with_reducible apply Wf.gbW))) rfl dL_law_318 yk_X11_thrown im_X11_thrown se_X11_thrown ml_L_114 rfl (co_338 (by repeat (first | with_reducible exact hw | with_reducible exact hwc | with_reducible assumption | with_reducible apply Wf.sI | with_reducible apply Wf.sL | with_reducible apply Wf.cpI | with_reducible apply Wf.cpL | with_reducible apply Wf.cp2 | with_reducible apply Wf.sIs | with_reducible apply Wf.sLs | with_reducible apply Wf.cpU | with_reducible apply Wf.fillI | with_reducible apply Wf.clU | with_reducible apply Wf.dnF | with_reducible apply Wf.gbW))) (by decide) hc_X11 (by decide) ⟨by show 0 + 60 * bb ≤ 60 * bb; omega, by show 0 + 300 * bb ≤ 300 * bb; omega⟩ (Nat.le_of_ble_eq_true rfl)) ?_
      refine lf (a_iload dL_law_321 rfl) ?_
      refine lf2 (a_icmp_eq (tgt := 328) dL_law_323 (by decide)) (fun h323 => ?_) (fun h323 => absurd h323 (fun z => z k0))
      refine lf (a_iload dL_law_328 rfl) ?_
      refine lfn (a_if_ne (tgt := 345) dL_law_330 (by decide)) (fun h330 => ?_) (fun h330 => absurd h330 (by decide))
      refine lf (a_goto (tgt := 1976) dL_law_345 (by decide)) ?_
      exact lf (a_loc (LAw i) rfl) (kx V hr hX2)
    · obtain ⟨z, V, tz, km, k0, hr, hv, hx⟩ := hk W (Out.rfl' hW)
      obtain ⟨z, rfl⟩ := tz
      have hX1 : gX W = X := hg.trans hX
      have hX2 : gX V = X := hx.trans hX1
      have hV := hr.wf
      refine lf (a_aload_n dL_law_292 rfl) ?_
      refine lf (a_aload_n dL_law_293 rfl) ?_
      refine lf (a_iload dL_law_294 rfl) ?_
      refine lf (a_iconst (1 : Int32) dL_law_296 (by decide)) ?_
      refine lf (a_iadd dL_law_297) ?_
      refine lf (a_sld dL_law_298 hX (ix_s (k := 1) rfl (show i + 1 < X.1 by omega) (by omega))) ?_
      refine lf (a_aload_n dL_law_299 rfl) ?_
      refine lf (a_invSH (b2 := (60 * bb, 300 * bb)) (wx_load_2 (by repeat (first | with_reducible exact hw | with_reducible exact hwc | with_reducible assumption | with_reducible apply Wf.sI | with_reducible apply Wf.sL | with_reducible apply Wf.cpI | with_reducible apply Wf.cpL | with_reducible apply Wf.cp2 | with_reducible apply Wf.sIs | with_reducible apply Wf.sLs | with_reducible apply Wf.cpU | with_reducible apply Wf.fillI | with_reducible apply Wf.clU | with_reducible apply Wf.dnF | with_reducible apply Wf.gbW)) (X.2 (i + 1)) hc) rfl dL_law_300 yh_L_load sm_L_load ml_L_117 rfl (by decide) ⟨by show 49 + 60 * bb ≤ 60 * (bb + 1); omega, by show 262 + 300 * bb ≤ 300 * (bb + 1); omega⟩ (Nat.le_of_ble_eq_true rfl)) ?_
      refine lf (a_istore dL_law_303 (by decide)) ?_
      refine lf (a_aload_n dL_law_305 rfl) ?_
      refine lf (a_aload_n dL_law_306 rfl) ?_
      refine lf (a_iload dL_law_307 rfl) ?_
      refine lf (a_iconst (1 : Int32) dL_law_309 (by decide)) ?_
      refine lf (a_iadd dL_law_310) ?_
      refine lf (a_sld dL_law_311 hX1 (ix_s (k := 1) rfl (show i + 1 < X.1 by omega) (by omega))) ?_
      refine lf (a_inv (b2 := (60 * bb, 300 * bb)) km rfl dL_law_312 yk_X11_load im_X11_load se_X11_load ml_L_120 rfl (co_338 (by repeat (first | with_reducible exact hw | with_reducible exact hwc | with_reducible assumption | with_reducible apply Wf.sI | with_reducible apply Wf.sL | with_reducible apply Wf.cpI | with_reducible apply Wf.cpL | with_reducible apply Wf.cp2 | with_reducible apply Wf.sIs | with_reducible apply Wf.sLs | with_reducible apply Wf.cpU | with_reducible apply Wf.fillI | with_reducible apply Wf.clU | with_reducible apply Wf.dnF | with_reducible apply Wf.gbW))) (by decide) hc_X11 (by decide) ⟨by show 0 + 60 * bb ≤ 60 * bb; omega, by show 0 + 300 * bb ≤ 300 * bb; omega⟩ (Nat.le_of_ble_eq_true rfl)) ?_
      refine lf (a_istore dL_law_315 (by decide)) ?_
      refine lf (a_aload_n dL_law_317 rfl) ?_
      refine lf (a_inv (b2 := (60 * bb, 300 * bb)) (m_thrown (by repeat (first | with_reducible exact hw | with_reducible exact hwc | with_reducible assumption | with_reducible apply Wf.sI | with_reducible apply Wf.sL | with_reducible apply Wf.cpI | with_reducible apply Wf.cpL | with_reducible apply Wf.cp2 | with_reducible apply Wf.sIs | with_reducible apply Wf.sLs | with_reducible apply Wf.cpU | with_reducible apply Wf.fillI | with_reducible apply Wf.clU | with_reducible apply Wf.dnF | with_reducible apply Wf.gbW))) rfl dL_law_318 yk_X11_thrown im_X11_thrown se_X11_thrown ml_L_114 rfl (co_338 (by repeat (first | with_reducible exact hw | with_reducible exact hwc | with_reducible assumption | with_reducible apply Wf.sI | with_reducible apply Wf.sL | with_reducible apply Wf.cpI | with_reducible apply Wf.cpL | with_reducible apply Wf.cp2 | with_reducible apply Wf.sIs | with_reducible apply Wf.sLs | with_reducible apply Wf.cpU | with_reducible apply Wf.fillI | with_reducible apply Wf.clU | with_reducible apply Wf.dnF | with_reducible apply Wf.gbW))) (by decide) hc_X11 (by decide) ⟨by show 0 + 60 * bb ≤ 60 * bb; omega, by show 0 + 300 * bb ≤ 300 * bb; omega⟩ (Nat.le_of_ble_eq_true rfl)) ?_
      refine lf (a_iload dL_law_321 rfl) ?_
      refine lf2 (a_icmp_eq (tgt := 328) dL_law_323 (by decide)) (fun h323 => ?_) (fun h323 => absurd h323 (fun z => z k0))
      refine lf (a_iload dL_law_328 rfl) ?_
      refine lfn (a_if_ne (tgt := 345) dL_law_330 (by decide)) (fun h330 => ?_) (fun h330 => absurd h330 (by decide))
      refine lf (a_goto (tgt := 1976) dL_law_345 (by decide)) ?_
      exact lf (a_loc (LAw i) rfl) (kx V hr hX2)
  · obtain ⟨v, rfl⟩ := tv
    obtain ⟨V, km, k0, hr, hv, hx⟩ := hk (sL W 363 0 (v.toInt64)) ((Out.rfl' hW).sL (S := s363) (i := 363) rfl _ _)
    have hX1 : gX (sL W 363 0 (v.toInt64)) = X := hg.trans hX
    have hX2 : gX V = X := hx.trans hX1
    have hV := hr.wf
    have hv1 : gL V 363 0 = v.toInt64 := hv.trans ((gL_sL _ _ _ _ _ _).trans (if_pos ⟨rfl, rfl⟩))
    refine lf (a_aload_n dL_law_292 rfl) ?_
    refine lf (a_aload_n dL_law_293 rfl) ?_
    refine lf (a_iload dL_law_294 rfl) ?_
    refine lf (a_iconst (1 : Int32) dL_law_296 (by decide)) ?_
    refine lf (a_iadd dL_law_297) ?_
    refine lf (a_sld dL_law_298 hX (ix_s (k := 1) rfl (show i + 1 < X.1 by omega) (by omega))) ?_
    refine lf (a_aload_n dL_law_299 rfl) ?_
    refine lf (a_invSH (b2 := (60 * bb, 300 * bb)) (wv_load (by repeat (first | with_reducible exact hw | with_reducible exact hwc | with_reducible assumption | with_reducible apply Wf.sI | with_reducible apply Wf.sL | with_reducible apply Wf.cpI | with_reducible apply Wf.cpL | with_reducible apply Wf.cp2 | with_reducible apply Wf.sIs | with_reducible apply Wf.sLs | with_reducible apply Wf.cpU | with_reducible apply Wf.fillI | with_reducible apply Wf.clU | with_reducible apply Wf.dnF | with_reducible apply Wf.gbW)) (X.2 (i + 1)) hW hc) rfl dL_law_300 yh_L_load sm_L_load ml_L_117 rfl (by decide) ⟨by show 49 + 60 * bb ≤ 60 * (bb + 1); omega, by show 262 + 300 * bb ≤ 300 * (bb + 1); omega⟩ (Nat.le_of_ble_eq_true rfl)) ?_
    refine lf (a_istore dL_law_303 (by decide)) ?_
    refine lf (a_aload_n dL_law_305 rfl) ?_
    refine lf (a_aload_n dL_law_306 rfl) ?_
    refine lf (a_iload dL_law_307 rfl) ?_
    refine lf (a_iconst (1 : Int32) dL_law_309 (by decide)) ?_
    refine lf (a_iadd dL_law_310) ?_
    refine lf (a_sld dL_law_311 hX1 (ix_s (k := 1) rfl (show i + 1 < X.1 by omega) (by omega))) ?_
    refine lf (a_inv (b2 := (60 * bb, 300 * bb)) km rfl dL_law_312 yk_X11_load im_X11_load se_X11_load ml_L_120 rfl (co_338 (by repeat (first | with_reducible exact hw | with_reducible exact hwc | with_reducible assumption | with_reducible apply Wf.sI | with_reducible apply Wf.sL | with_reducible apply Wf.cpI | with_reducible apply Wf.cpL | with_reducible apply Wf.cp2 | with_reducible apply Wf.sIs | with_reducible apply Wf.sLs | with_reducible apply Wf.cpU | with_reducible apply Wf.fillI | with_reducible apply Wf.clU | with_reducible apply Wf.dnF | with_reducible apply Wf.gbW))) (by decide) hc_X11 (by decide) ⟨by show 0 + 60 * bb ≤ 60 * bb; omega, by show 0 + 300 * bb ≤ 300 * bb; omega⟩ (Nat.le_of_ble_eq_true rfl)) ?_
    refine lf (a_istore dL_law_315 (by decide)) ?_
    refine lf (a_aload_n dL_law_317 rfl) ?_
    refine lf (a_inv (b2 := (60 * bb, 300 * bb)) (m_thrown (by repeat (first | with_reducible exact hw | with_reducible exact hwc | with_reducible assumption | with_reducible apply Wf.sI | with_reducible apply Wf.sL | with_reducible apply Wf.cpI | with_reducible apply Wf.cpL | with_reducible apply Wf.cp2 | with_reducible apply Wf.sIs | with_reducible apply Wf.sLs | with_reducible apply Wf.cpU | with_reducible apply Wf.fillI | with_reducible apply Wf.clU | with_reducible apply Wf.dnF | with_reducible apply Wf.gbW))) rfl dL_law_318 yk_X11_thrown im_X11_thrown se_X11_thrown ml_L_114 rfl (co_338 (by repeat (first | with_reducible exact hw | with_reducible exact hwc | with_reducible assumption | with_reducible apply Wf.sI | with_reducible apply Wf.sL | with_reducible apply Wf.cpI | with_reducible apply Wf.cpL | with_reducible apply Wf.cp2 | with_reducible apply Wf.sIs | with_reducible apply Wf.sLs | with_reducible apply Wf.cpU | with_reducible apply Wf.fillI | with_reducible apply Wf.clU | with_reducible apply Wf.dnF | with_reducible apply Wf.gbW))) (by decide) hc_X11 (by decide) ⟨by show 0 + 60 * bb ≤ 60 * bb; omega, by show 0 + 300 * bb ≤ 300 * bb; omega⟩ (Nat.le_of_ble_eq_true rfl)) ?_
    refine lf (a_iload dL_law_321 rfl) ?_
    refine lf2 (a_icmp_eq (tgt := 328) dL_law_323 (by decide)) (fun h323 => ?_) (fun h323 => absurd h323 (fun z => z k0))
    refine lf (a_iload dL_law_328 rfl) ?_
    refine lfn (a_if_ne (tgt := 345) dL_law_330 (by decide)) (fun h330 => absurd h330 (by decide)) (fun h330 => ?_)
    refine lf (a_aload_n dL_law_333 rfl) ?_
    refine lf (a_iconst (0 : Int32) dL_law_334 (by decide)) ?_
    refine lf (a_lld dL_law_335 (ca_363 (by repeat (first | with_reducible exact hw | with_reducible exact hwc | with_reducible assumption | with_reducible apply Wf.sI | with_reducible apply Wf.sL | with_reducible apply Wf.cpI | with_reducible apply Wf.cpL | with_reducible apply Wf.cp2 | with_reducible apply Wf.sIs | with_reducible apply Wf.sLs | with_reducible apply Wf.cpU | with_reducible apply Wf.fillI | with_reducible apply Wf.clU | with_reducible apply Wf.dnF | with_reducible apply Wf.gbW))) (ixn (m := 0) (by decide) (by decide))) ?_
    rw [hv1]
    refine lf (a_iload dL_law_336 rfl) ?_
    refine lf (a_i2l dL_law_338) ?_
    refine lf (a_lcmp dL_law_339) ?_
    refine lf2 (a_if_eq (tgt := 345) dL_law_340 (by decide)) (fun h340 => ?_) (fun h340 => absurd h340 (fun z => z (lcmp_self _)))
    refine lf (a_goto (tgt := 1976) dL_law_345 (by decide)) ?_
    exact lf (a_loc (LAw i) rfl) (kx V hr hX2)
  · simp only [List.mem_cons, List.not_mem_nil, or_false, Prod.mk.injEq] at hxk
    rcases hxk with ⟨rfl, rfl⟩ | ⟨rfl, rfl⟩
    · obtain ⟨z, V, tz, km, k0, hr, hv, hx⟩ := hk W (Out.rfl' hW)
      obtain ⟨z, rfl⟩ := tz
      have hX1 : gX W = X := hg.trans hX
      have hX2 : gX V = X := hx.trans hX1
      have hV := hr.wf
      refine lf (a_aload_n dL_law_292 rfl) ?_
      refine lf (a_aload_n dL_law_293 rfl) ?_
      refine lf (a_iload dL_law_294 rfl) ?_
      refine lf (a_iconst (1 : Int32) dL_law_296 (by decide)) ?_
      refine lf (a_iadd dL_law_297) ?_
      refine lf (a_sld dL_law_298 hX (ix_s (k := 1) rfl (show i + 1 < X.1 by omega) (by omega))) ?_
      refine lf (a_aload_n dL_law_299 rfl) ?_
      refine lf (a_invSH (b2 := (60 * bb, 300 * bb)) (wx_loadl_1 (by repeat (first | with_reducible exact hw | with_reducible exact hwc | with_reducible assumption | with_reducible apply Wf.sI | with_reducible apply Wf.sL | with_reducible apply Wf.cpI | with_reducible apply Wf.cpL | with_reducible apply Wf.cp2 | with_reducible apply Wf.sIs | with_reducible apply Wf.sLs | with_reducible apply Wf.cpU | with_reducible apply Wf.fillI | with_reducible apply Wf.clU | with_reducible apply Wf.dnF | with_reducible apply Wf.gbW)) (X.2 (i + 1)) hc) rfl dL_law_300 yh_L_load sm_L_load ml_L_117 rfl (by decide) ⟨by show 49 + 60 * bb ≤ 60 * (bb + 1); omega, by show 262 + 300 * bb ≤ 300 * (bb + 1); omega⟩ (Nat.le_of_ble_eq_true rfl)) ?_
      refine lf (a_istore dL_law_303 (by decide)) ?_
      refine lf (a_aload_n dL_law_305 rfl) ?_
      refine lf (a_aload_n dL_law_306 rfl) ?_
      refine lf (a_iload dL_law_307 rfl) ?_
      refine lf (a_iconst (1 : Int32) dL_law_309 (by decide)) ?_
      refine lf (a_iadd dL_law_310) ?_
      refine lf (a_sld dL_law_311 hX1 (ix_s (k := 1) rfl (show i + 1 < X.1 by omega) (by omega))) ?_
      refine lf (a_inv (b2 := (60 * bb, 300 * bb)) km rfl dL_law_312 yk_X11_load im_X11_load se_X11_load ml_L_120 rfl (co_338 (by repeat (first | with_reducible exact hw | with_reducible exact hwc | with_reducible assumption | with_reducible apply Wf.sI | with_reducible apply Wf.sL | with_reducible apply Wf.cpI | with_reducible apply Wf.cpL | with_reducible apply Wf.cp2 | with_reducible apply Wf.sIs | with_reducible apply Wf.sLs | with_reducible apply Wf.cpU | with_reducible apply Wf.fillI | with_reducible apply Wf.clU | with_reducible apply Wf.dnF | with_reducible apply Wf.gbW))) (by decide) hc_X11 (by decide) ⟨by show 0 + 60 * bb ≤ 60 * bb; omega, by show 0 + 300 * bb ≤ 300 * bb; omega⟩ (Nat.le_of_ble_eq_true rfl)) ?_
      refine lf (a_istore dL_law_315 (by decide)) ?_
      refine lf (a_aload_n dL_law_317 rfl) ?_
      refine lf (a_inv (b2 := (60 * bb, 300 * bb)) (m_thrown (by repeat (first | with_reducible exact hw | with_reducible exact hwc | with_reducible assumption | with_reducible apply Wf.sI | with_reducible apply Wf.sL | with_reducible apply Wf.cpI | with_reducible apply Wf.cpL | with_reducible apply Wf.cp2 | with_reducible apply Wf.sIs | with_reducible apply Wf.sLs | with_reducible apply Wf.cpU | with_reducible apply Wf.fillI | with_reducible apply Wf.clU | with_reducible apply Wf.dnF | with_reducible apply Wf.gbW))) rfl dL_law_318 yk_X11_thrown im_X11_thrown se_X11_thrown ml_L_114 rfl (co_338 (by repeat (first | with_reducible exact hw | with_reducible exact hwc | with_reducible assumption | with_reducible apply Wf.sI | with_reducible apply Wf.sL | with_reducible apply Wf.cpI | with_reducible apply Wf.cpL | with_reducible apply Wf.cp2 | with_reducible apply Wf.sIs | with_reducible apply Wf.sLs | with_reducible apply Wf.cpU | with_reducible apply Wf.fillI | with_reducible apply Wf.clU | with_reducible apply Wf.dnF | with_reducible apply Wf.gbW))) (by decide) hc_X11 (by decide) ⟨by show 0 + 60 * bb ≤ 60 * bb; omega, by show 0 + 300 * bb ≤ 300 * bb; omega⟩ (Nat.le_of_ble_eq_true rfl)) ?_
      refine lf (a_iload dL_law_321 rfl) ?_
      refine lf2 (a_icmp_eq (tgt := 328) dL_law_323 (by decide)) (fun h323 => ?_) (fun h323 => absurd h323 (fun z => z k0))
      refine lf (a_iload dL_law_328 rfl) ?_
      refine lfn (a_if_ne (tgt := 345) dL_law_330 (by decide)) (fun h330 => ?_) (fun h330 => absurd h330 (by decide))
      refine lf (a_goto (tgt := 1976) dL_law_345 (by decide)) ?_
      exact lf (a_loc (LAw i) rfl) (kx V hr hX2)
    · obtain ⟨z, V, tz, km, k0, hr, hv, hx⟩ := hk W (Out.rfl' hW)
      obtain ⟨z, rfl⟩ := tz
      have hX1 : gX W = X := hg.trans hX
      have hX2 : gX V = X := hx.trans hX1
      have hV := hr.wf
      refine lf (a_aload_n dL_law_292 rfl) ?_
      refine lf (a_aload_n dL_law_293 rfl) ?_
      refine lf (a_iload dL_law_294 rfl) ?_
      refine lf (a_iconst (1 : Int32) dL_law_296 (by decide)) ?_
      refine lf (a_iadd dL_law_297) ?_
      refine lf (a_sld dL_law_298 hX (ix_s (k := 1) rfl (show i + 1 < X.1 by omega) (by omega))) ?_
      refine lf (a_aload_n dL_law_299 rfl) ?_
      refine lf (a_invSH (b2 := (60 * bb, 300 * bb)) (wx_loadl_2 (by repeat (first | with_reducible exact hw | with_reducible exact hwc | with_reducible assumption | with_reducible apply Wf.sI | with_reducible apply Wf.sL | with_reducible apply Wf.cpI | with_reducible apply Wf.cpL | with_reducible apply Wf.cp2 | with_reducible apply Wf.sIs | with_reducible apply Wf.sLs | with_reducible apply Wf.cpU | with_reducible apply Wf.fillI | with_reducible apply Wf.clU | with_reducible apply Wf.dnF | with_reducible apply Wf.gbW)) (X.2 (i + 1)) hc) rfl dL_law_300 yh_L_load sm_L_load ml_L_117 rfl (by decide) ⟨by show 49 + 60 * bb ≤ 60 * (bb + 1); omega, by show 262 + 300 * bb ≤ 300 * (bb + 1); omega⟩ (Nat.le_of_ble_eq_true rfl)) ?_
      refine lf (a_istore dL_law_303 (by decide)) ?_
      refine lf (a_aload_n dL_law_305 rfl) ?_
      refine lf (a_aload_n dL_law_306 rfl) ?_
      refine lf (a_iload dL_law_307 rfl) ?_
      refine lf (a_iconst (1 : Int32) dL_law_309 (by decide)) ?_
      refine lf (a_iadd dL_law_310) ?_
      refine lf (a_sld dL_law_311 hX1 (ix_s (k := 1) rfl (show i + 1 < X.1 by omega) (by omega))) ?_
      refine lf (a_inv (b2 := (60 * bb, 300 * bb)) km rfl dL_law_312 yk_X11_load im_X11_load se_X11_load ml_L_120 rfl (co_338 (by repeat (first | with_reducible exact hw | with_reducible exact hwc | with_reducible assumption | with_reducible apply Wf.sI | with_reducible apply Wf.sL | with_reducible apply Wf.cpI | with_reducible apply Wf.cpL | with_reducible apply Wf.cp2 | with_reducible apply Wf.sIs | with_reducible apply Wf.sLs | with_reducible apply Wf.cpU | with_reducible apply Wf.fillI | with_reducible apply Wf.clU | with_reducible apply Wf.dnF | with_reducible apply Wf.gbW))) (by decide) hc_X11 (by decide) ⟨by show 0 + 60 * bb ≤ 60 * bb; omega, by show 0 + 300 * bb ≤ 300 * bb; omega⟩ (Nat.le_of_ble_eq_true rfl)) ?_
      refine lf (a_istore dL_law_315 (by decide)) ?_
      refine lf (a_aload_n dL_law_317 rfl) ?_
      refine lf (a_inv (b2 := (60 * bb, 300 * bb)) (m_thrown (by repeat (first | with_reducible exact hw | with_reducible exact hwc | with_reducible assumption | with_reducible apply Wf.sI | with_reducible apply Wf.sL | with_reducible apply Wf.cpI | with_reducible apply Wf.cpL | with_reducible apply Wf.cp2 | with_reducible apply Wf.sIs | with_reducible apply Wf.sLs | with_reducible apply Wf.cpU | with_reducible apply Wf.fillI | with_reducible apply Wf.clU | with_reducible apply Wf.dnF | with_reducible apply Wf.gbW))) rfl dL_law_318 yk_X11_thrown im_X11_thrown se_X11_thrown ml_L_114 rfl (co_338 (by repeat (first | with_reducible exact hw | with_reducible exact hwc | with_reducible assumption | with_reducible apply Wf.sI | with_reducible apply Wf.sL | with_reducible apply Wf.cpI | with_reducible apply Wf.cpL | with_reducible apply Wf.cp2 | with_reducible apply Wf.sIs | with_reducible apply Wf.sLs | with_reducible apply Wf.cpU | with_reducible apply Wf.fillI | with_reducible apply Wf.clU | with_reducible apply Wf.dnF | with_reducible apply Wf.gbW))) (by decide) hc_X11 (by decide) ⟨by show 0 + 60 * bb ≤ 60 * bb; omega, by show 0 + 300 * bb ≤ 300 * bb; omega⟩ (Nat.le_of_ble_eq_true rfl)) ?_
      refine lf (a_iload dL_law_321 rfl) ?_
      refine lf2 (a_icmp_eq (tgt := 328) dL_law_323 (by decide)) (fun h323 => ?_) (fun h323 => absurd h323 (fun z => z k0))
      refine lf (a_iload dL_law_328 rfl) ?_
      refine lfn (a_if_ne (tgt := 345) dL_law_330 (by decide)) (fun h330 => ?_) (fun h330 => absurd h330 (by decide))
      refine lf (a_goto (tgt := 1976) dL_law_345 (by decide)) ?_
      exact lf (a_loc (LAw i) rfl) (kx V hr hX2)
theorem s_errorCode {μ : Wd} {N i bb : Nat} {X : Nat × (Nat → Int32)} (h : RelV N μ) (hX : gX μ = X) (hi : i + 6 ≤ X.1) (hL : X.1 ≤ 3072) (kx : ∀ V, RelV (N + 1) V → gX V = X → WP Y_L_law RLaw (60 * bb, 300 * bb) V 1976 (LAw i) [] QLw) : WP Y_L_law RLaw (60 * (bb + 1), 300 * (bb + 1)) μ 348 (LAw i) [] QLw := by
  have hw := h.wf
  obtain ⟨v, V, tv, kc, km, hr, hv, hx⟩ := o_errorCode h
  obtain ⟨v, rfl⟩ := tv
  have hV := hr.wf
  have hX2 : gX V = X := hx.trans hX
  refine lf (a_aload_n dL_law_348 rfl) ?_
  refine lf (a_inv (b2 := (60 * (bb + 1), 300 * (bb + 1))) kc rfl dL_law_349 yk_X10_errorCode im_X10_errorCode se_X10_errorCode ml_L_121 rfl (co_0 (by repeat (first | with_reducible exact hw | with_reducible exact hwc | with_reducible assumption | with_reducible apply Wf.sI | with_reducible apply Wf.sL | with_reducible apply Wf.cpI | with_reducible apply Wf.cpL | with_reducible apply Wf.cp2 | with_reducible apply Wf.sIs | with_reducible apply Wf.sLs | with_reducible apply Wf.cpU | with_reducible apply Wf.fillI | with_reducible apply Wf.clU | with_reducible apply Wf.dnF | with_reducible apply Wf.gbW))) (by decide) hc_X10 (by decide) ⟨by show 0 + 60 * (bb + 1) ≤ 60 * (bb + 1); omega, by show 0 + 300 * (bb + 1) ≤ 300 * (bb + 1); omega⟩ (Nat.le_of_ble_eq_true rfl)) ?_
  refine lf (a_aload_n dL_law_352 rfl) ?_
  refine lf (a_inv (b2 := (60 * (bb + 1), 300 * (bb + 1))) km rfl dL_law_353 yk_X11_errorCode im_X11_errorCode se_X11_errorCode ml_L_124 rfl (co_338 (by repeat (first | with_reducible exact hw | with_reducible exact hwc | with_reducible assumption | with_reducible apply Wf.sI | with_reducible apply Wf.sL | with_reducible apply Wf.cpI | with_reducible apply Wf.cpL | with_reducible apply Wf.cp2 | with_reducible apply Wf.sIs | with_reducible apply Wf.sLs | with_reducible apply Wf.cpU | with_reducible apply Wf.fillI | with_reducible apply Wf.clU | with_reducible apply Wf.dnF | with_reducible apply Wf.gbW))) (by decide) hc_X11 (by decide) ⟨by show 0 + 60 * (bb + 1) ≤ 60 * (bb + 1); omega, by show 0 + 300 * (bb + 1) ≤ 300 * (bb + 1); omega⟩ (Nat.le_of_ble_eq_true rfl)) ?_
  refine lf2 (a_icmp_eq (tgt := 1976) dL_law_356 (by decide)) (fun h356 => ?_) (fun h356 => absurd h356 (fun z => z rfl))
  exact lf (a_room (b' := (60 * bb, 300 * bb)) (by show 60 * bb ≤ 60 * (bb + 1); omega) (by show 300 * bb ≤ 300 * (bb + 1); omega)) (lf (a_loc (LAw i) rfl) (kx V hr hX2))
theorem s_errorPosition {μ : Wd} {N i bb : Nat} {X : Nat × (Nat → Int32)} (h : RelV N μ) (hX : gX μ = X) (hi : i + 6 ≤ X.1) (hL : X.1 ≤ 3072) (kx : ∀ V, RelV (N + 1) V → gX V = X → WP Y_L_law RLaw (60 * bb, 300 * bb) V 1976 (LAw i) [] QLw) : WP Y_L_law RLaw (60 * (bb + 1), 300 * (bb + 1)) μ 361 (LAw i) [] QLw := by
  have hw := h.wf
  obtain ⟨v, V, tv, kc, km, hr, hv, hx⟩ := o_errorPosition h
  obtain ⟨v, rfl⟩ := tv
  have hV := hr.wf
  have hX2 : gX V = X := hx.trans hX
  refine lf (a_aload_n dL_law_361 rfl) ?_
  refine lf (a_inv (b2 := (60 * (bb + 1), 300 * (bb + 1))) kc rfl dL_law_362 yk_X10_errorPosition im_X10_errorPosition se_X10_errorPosition ml_L_125 rfl (co_0 (by repeat (first | with_reducible exact hw | with_reducible exact hwc | with_reducible assumption | with_reducible apply Wf.sI | with_reducible apply Wf.sL | with_reducible apply Wf.cpI | with_reducible apply Wf.cpL | with_reducible apply Wf.cp2 | with_reducible apply Wf.sIs | with_reducible apply Wf.sLs | with_reducible apply Wf.cpU | with_reducible apply Wf.fillI | with_reducible apply Wf.clU | with_reducible apply Wf.dnF | with_reducible apply Wf.gbW))) (by decide) hc_X10 (by decide) ⟨by show 0 + 60 * (bb + 1) ≤ 60 * (bb + 1); omega, by show 0 + 300 * (bb + 1) ≤ 300 * (bb + 1); omega⟩ (Nat.le_of_ble_eq_true rfl)) ?_
  refine lf (a_aload_n dL_law_365 rfl) ?_
  refine lf (a_inv (b2 := (60 * (bb + 1), 300 * (bb + 1))) km rfl dL_law_366 yk_X11_errorPosition im_X11_errorPosition se_X11_errorPosition ml_L_128 rfl (co_338 (by repeat (first | with_reducible exact hw | with_reducible exact hwc | with_reducible assumption | with_reducible apply Wf.sI | with_reducible apply Wf.sL | with_reducible apply Wf.cpI | with_reducible apply Wf.cpL | with_reducible apply Wf.cp2 | with_reducible apply Wf.sIs | with_reducible apply Wf.sLs | with_reducible apply Wf.cpU | with_reducible apply Wf.fillI | with_reducible apply Wf.clU | with_reducible apply Wf.dnF | with_reducible apply Wf.gbW))) (by decide) hc_X11 (by decide) ⟨by show 0 + 60 * (bb + 1) ≤ 60 * (bb + 1); omega, by show 0 + 300 * (bb + 1) ≤ 300 * (bb + 1); omega⟩ (Nat.le_of_ble_eq_true rfl)) ?_
  refine lf2 (a_icmp_eq (tgt := 1976) dL_law_369 (by decide)) (fun h369 => ?_) (fun h369 => absurd h369 (fun z => z rfl))
  exact lf (a_room (b' := (60 * bb, 300 * bb)) (by show 60 * bb ≤ 60 * (bb + 1); omega) (by show 300 * bb ≤ 300 * (bb + 1); omega)) (lf (a_loc (LAw i) rfl) (kx V hr hX2))
theorem s_count {μ : Wd} {N i bb : Nat} {X : Nat × (Nat → Int32)} (h : RelV N μ) (hX : gX μ = X) (hi : i + 6 ≤ X.1) (hL : X.1 ≤ 3072) (kx : ∀ V, RelV (N + 1) V → gX V = X → WP Y_L_law RLaw (60 * bb, 300 * bb) V 1976 (LAw i) [] QLw) : WP Y_L_law RLaw (60 * (bb + 1), 300 * (bb + 1)) μ 374 (LAw i) [] QLw := by
  have hw := h.wf
  rcases o_count h (X.2 (i + 1)) with ⟨v, W, tv, hW, hc, hg, hk⟩ | ⟨x, k, W, hxk, hW, hc, hg, hk⟩
  · obtain ⟨v, rfl⟩ := tv
    obtain ⟨V, km, k0, hr, hv, hx⟩ := hk (sL W 363 0 (v.toInt64)) ((Out.rfl' hW).sL (S := s363) (i := 363) rfl _ _)
    have hX1 : gX (sL W 363 0 (v.toInt64)) = X := hg.trans hX
    have hX2 : gX V = X := hx.trans hX1
    have hV := hr.wf
    have hv1 : gL V 363 0 = v.toInt64 := hv.trans ((gL_sL _ _ _ _ _ _).trans (if_pos ⟨rfl, rfl⟩))
    refine lf (a_aload_n dL_law_374 rfl) ?_
    refine lf (a_aload_n dL_law_375 rfl) ?_
    refine lf (a_iload dL_law_376 rfl) ?_
    refine lf (a_iconst (1 : Int32) dL_law_378 (by decide)) ?_
    refine lf (a_iadd dL_law_379) ?_
    refine lf (a_sld dL_law_380 hX (ix_s (k := 1) rfl (show i + 1 < X.1 by omega) (by omega))) ?_
    refine lf (a_aload_n dL_law_381 rfl) ?_
    refine lf (a_invSH (b2 := (60 * bb, 300 * bb)) (wv_count (by repeat (first | with_reducible exact hw | with_reducible exact hwc | with_reducible assumption | with_reducible apply Wf.sI | with_reducible apply Wf.sL | with_reducible apply Wf.cpI | with_reducible apply Wf.cpL | with_reducible apply Wf.cp2 | with_reducible apply Wf.sIs | with_reducible apply Wf.sLs | with_reducible apply Wf.cpU | with_reducible apply Wf.fillI | with_reducible apply Wf.clU | with_reducible apply Wf.dnF | with_reducible apply Wf.gbW)) (X.2 (i + 1)) hW hc) rfl dL_law_382 yh_L_count sm_L_count ml_L_129 rfl (by decide) ⟨by show 1 + 60 * bb ≤ 60 * (bb + 1); omega, by show 6 + 300 * bb ≤ 300 * (bb + 1); omega⟩ (Nat.le_of_ble_eq_true rfl)) ?_
    refine lf (a_istore dL_law_385 (by decide)) ?_
    refine lf (a_aload_n dL_law_387 rfl) ?_
    refine lf (a_aload_n dL_law_388 rfl) ?_
    refine lf (a_iload dL_law_389 rfl) ?_
    refine lf (a_iconst (1 : Int32) dL_law_391 (by decide)) ?_
    refine lf (a_iadd dL_law_392) ?_
    refine lf (a_sld dL_law_393 hX1 (ix_s (k := 1) rfl (show i + 1 < X.1 by omega) (by omega))) ?_
    refine lf (a_inv (b2 := (60 * bb, 300 * bb)) km rfl dL_law_394 yk_X11_count im_X11_count se_X11_count ml_L_131 rfl (co_338 (by repeat (first | with_reducible exact hw | with_reducible exact hwc | with_reducible assumption | with_reducible apply Wf.sI | with_reducible apply Wf.sL | with_reducible apply Wf.cpI | with_reducible apply Wf.cpL | with_reducible apply Wf.cp2 | with_reducible apply Wf.sIs | with_reducible apply Wf.sLs | with_reducible apply Wf.cpU | with_reducible apply Wf.fillI | with_reducible apply Wf.clU | with_reducible apply Wf.dnF | with_reducible apply Wf.gbW))) (by decide) hc_X11 (by decide) ⟨by show 0 + 60 * bb ≤ 60 * bb; omega, by show 0 + 300 * bb ≤ 300 * bb; omega⟩ (Nat.le_of_ble_eq_true rfl)) ?_
    refine lf (a_istore dL_law_397 (by decide)) ?_
    refine lf (a_aload_n dL_law_399 rfl) ?_
    refine lf (a_inv (b2 := (60 * bb, 300 * bb)) (m_thrown (by repeat (first | with_reducible exact hw | with_reducible exact hwc | with_reducible assumption | with_reducible apply Wf.sI | with_reducible apply Wf.sL | with_reducible apply Wf.cpI | with_reducible apply Wf.cpL | with_reducible apply Wf.cp2 | with_reducible apply Wf.sIs | with_reducible apply Wf.sLs | with_reducible apply Wf.cpU | with_reducible apply Wf.fillI | with_reducible apply Wf.clU | with_reducible apply Wf.dnF | with_reducible apply Wf.gbW))) rfl dL_law_400 yk_X11_thrown im_X11_thrown se_X11_thrown ml_L_114 rfl (co_338 (by repeat (first | with_reducible exact hw | with_reducible exact hwc | with_reducible assumption | with_reducible apply Wf.sI | with_reducible apply Wf.sL | with_reducible apply Wf.cpI | with_reducible apply Wf.cpL | with_reducible apply Wf.cp2 | with_reducible apply Wf.sIs | with_reducible apply Wf.sLs | with_reducible apply Wf.cpU | with_reducible apply Wf.fillI | with_reducible apply Wf.clU | with_reducible apply Wf.dnF | with_reducible apply Wf.gbW))) (by decide) hc_X11 (by decide) ⟨by show 0 + 60 * bb ≤ 60 * bb; omega, by show 0 + 300 * bb ≤ 300 * bb; omega⟩ (Nat.le_of_ble_eq_true rfl)) ?_
    refine lf (a_iload dL_law_403 rfl) ?_
    refine lf2 (a_icmp_eq (tgt := 410) dL_law_405 (by decide)) (fun h405 => ?_) (fun h405 => absurd h405 (fun z => z k0))
    refine lf (a_iload dL_law_410 rfl) ?_
    refine lfn (a_if_ne (tgt := 427) dL_law_412 (by decide)) (fun h412 => absurd h412 (by decide)) (fun h412 => ?_)
    refine lf (a_aload_n dL_law_415 rfl) ?_
    refine lf (a_iconst (0 : Int32) dL_law_416 (by decide)) ?_
    refine lf (a_lld dL_law_417 (ca_363 (by repeat (first | with_reducible exact hw | with_reducible exact hwc | with_reducible assumption | with_reducible apply Wf.sI | with_reducible apply Wf.sL | with_reducible apply Wf.cpI | with_reducible apply Wf.cpL | with_reducible apply Wf.cp2 | with_reducible apply Wf.sIs | with_reducible apply Wf.sLs | with_reducible apply Wf.cpU | with_reducible apply Wf.fillI | with_reducible apply Wf.clU | with_reducible apply Wf.dnF | with_reducible apply Wf.gbW))) (ixn (m := 0) (by decide) (by decide))) ?_
    rw [hv1]
    refine lf (a_iload dL_law_418 rfl) ?_
    refine lf (a_i2l dL_law_420) ?_
    refine lf (a_lcmp dL_law_421) ?_
    refine lf2 (a_if_eq (tgt := 427) dL_law_422 (by decide)) (fun h422 => ?_) (fun h422 => absurd h422 (fun z => z (lcmp_self _)))
    refine lf (a_goto (tgt := 1976) dL_law_427 (by decide)) ?_
    exact lf (a_loc (LAw i) rfl) (kx V hr hX2)
  · simp only [List.mem_cons, List.not_mem_nil, or_false, Prod.mk.injEq] at hxk
    obtain ⟨rfl, rfl⟩ := hxk
    obtain ⟨z, V, tz, km, k0, hr, hv, hx⟩ := hk W (Out.rfl' hW)
    obtain ⟨z, rfl⟩ := tz
    have hX1 : gX W = X := hg.trans hX
    have hX2 : gX V = X := hx.trans hX1
    have hV := hr.wf
    refine lf (a_aload_n dL_law_374 rfl) ?_
    refine lf (a_aload_n dL_law_375 rfl) ?_
    refine lf (a_iload dL_law_376 rfl) ?_
    refine lf (a_iconst (1 : Int32) dL_law_378 (by decide)) ?_
    refine lf (a_iadd dL_law_379) ?_
    refine lf (a_sld dL_law_380 hX (ix_s (k := 1) rfl (show i + 1 < X.1 by omega) (by omega))) ?_
    refine lf (a_aload_n dL_law_381 rfl) ?_
    refine lf (a_invSH (b2 := (60 * bb, 300 * bb)) (wx_count_1 (by repeat (first | with_reducible exact hw | with_reducible exact hwc | with_reducible assumption | with_reducible apply Wf.sI | with_reducible apply Wf.sL | with_reducible apply Wf.cpI | with_reducible apply Wf.cpL | with_reducible apply Wf.cp2 | with_reducible apply Wf.sIs | with_reducible apply Wf.sLs | with_reducible apply Wf.cpU | with_reducible apply Wf.fillI | with_reducible apply Wf.clU | with_reducible apply Wf.dnF | with_reducible apply Wf.gbW)) (X.2 (i + 1)) hc) rfl dL_law_382 yh_L_count sm_L_count ml_L_129 rfl (by decide) ⟨by show 1 + 60 * bb ≤ 60 * (bb + 1); omega, by show 6 + 300 * bb ≤ 300 * (bb + 1); omega⟩ (Nat.le_of_ble_eq_true rfl)) ?_
    refine lf (a_istore dL_law_385 (by decide)) ?_
    refine lf (a_aload_n dL_law_387 rfl) ?_
    refine lf (a_aload_n dL_law_388 rfl) ?_
    refine lf (a_iload dL_law_389 rfl) ?_
    refine lf (a_iconst (1 : Int32) dL_law_391 (by decide)) ?_
    refine lf (a_iadd dL_law_392) ?_
    refine lf (a_sld dL_law_393 hX1 (ix_s (k := 1) rfl (show i + 1 < X.1 by omega) (by omega))) ?_
    refine lf (a_inv (b2 := (60 * bb, 300 * bb)) km rfl dL_law_394 yk_X11_count im_X11_count se_X11_count ml_L_131 rfl (co_338 (by repeat (first | with_reducible exact hw | with_reducible exact hwc | with_reducible assumption | with_reducible apply Wf.sI | with_reducible apply Wf.sL | with_reducible apply Wf.cpI | with_reducible apply Wf.cpL | with_reducible apply Wf.cp2 | with_reducible apply Wf.sIs | with_reducible apply Wf.sLs | with_reducible apply Wf.cpU | with_reducible apply Wf.fillI | with_reducible apply Wf.clU | with_reducible apply Wf.dnF | with_reducible apply Wf.gbW))) (by decide) hc_X11 (by decide) ⟨by show 0 + 60 * bb ≤ 60 * bb; omega, by show 0 + 300 * bb ≤ 300 * bb; omega⟩ (Nat.le_of_ble_eq_true rfl)) ?_
    refine lf (a_istore dL_law_397 (by decide)) ?_
    refine lf (a_aload_n dL_law_399 rfl) ?_
    refine lf (a_inv (b2 := (60 * bb, 300 * bb)) (m_thrown (by repeat (first | with_reducible exact hw | with_reducible exact hwc | with_reducible assumption | with_reducible apply Wf.sI | with_reducible apply Wf.sL | with_reducible apply Wf.cpI | with_reducible apply Wf.cpL | with_reducible apply Wf.cp2 | with_reducible apply Wf.sIs | with_reducible apply Wf.sLs | with_reducible apply Wf.cpU | with_reducible apply Wf.fillI | with_reducible apply Wf.clU | with_reducible apply Wf.dnF | with_reducible apply Wf.gbW))) rfl dL_law_400 yk_X11_thrown im_X11_thrown se_X11_thrown ml_L_114 rfl (co_338 (by repeat (first | with_reducible exact hw | with_reducible exact hwc | with_reducible assumption | with_reducible apply Wf.sI | with_reducible apply Wf.sL | with_reducible apply Wf.cpI | with_reducible apply Wf.cpL | with_reducible apply Wf.cp2 | with_reducible apply Wf.sIs | with_reducible apply Wf.sLs | with_reducible apply Wf.cpU | with_reducible apply Wf.fillI | with_reducible apply Wf.clU | with_reducible apply Wf.dnF | with_reducible apply Wf.gbW))) (by decide) hc_X11 (by decide) ⟨by show 0 + 60 * bb ≤ 60 * bb; omega, by show 0 + 300 * bb ≤ 300 * bb; omega⟩ (Nat.le_of_ble_eq_true rfl)) ?_
    refine lf (a_iload dL_law_403 rfl) ?_
    refine lf2 (a_icmp_eq (tgt := 410) dL_law_405 (by decide)) (fun h405 => ?_) (fun h405 => absurd h405 (fun z => z k0))
    refine lf (a_iload dL_law_410 rfl) ?_
    refine lfn (a_if_ne (tgt := 427) dL_law_412 (by decide)) (fun h412 => ?_) (fun h412 => absurd h412 (by decide))
    refine lf (a_goto (tgt := 1976) dL_law_427 (by decide)) ?_
    exact lf (a_loc (LAw i) rfl) (kx V hr hX2)
theorem s_cabin {μ : Wd} {N i bb : Nat} {X : Nat × (Nat → Int32)} (h : RelV N μ) (hX : gX μ = X) (hi : i + 6 ≤ X.1) (hL : X.1 ≤ 3072) (kx : ∀ V, RelV (N + 1) V → gX V = X → WP Y_L_law RLaw (60 * bb, 300 * bb) V 1976 (LAw i) [] QLw) : WP Y_L_law RLaw (60 * (bb + 1), 300 * (bb + 1)) μ 430 (LAw i) [] QLw := by
  have hw := h.wf
  rcases o_cabin h (X.2 (i + 1)) (X.2 (i + 2)) with ⟨v, W, tv, hW, hc, hg, hk⟩ | ⟨x, k, W, hxk, hW, hc, hg, hk⟩
  · obtain ⟨v, rfl⟩ := tv
    obtain ⟨V, km, k0, hr, hv, hx⟩ := hk (sL W 363 0 (v.toInt64)) ((Out.rfl' hW).sL (S := s363) (i := 363) rfl _ _)
    have hX1 : gX (sL W 363 0 (v.toInt64)) = X := hg.trans hX
    have hX2 : gX V = X := hx.trans hX1
    have hV := hr.wf
    have hv1 : gL V 363 0 = v.toInt64 := hv.trans ((gL_sL _ _ _ _ _ _).trans (if_pos ⟨rfl, rfl⟩))
    refine lf (a_aload_n dL_law_430 rfl) ?_
    refine lf (a_aload_n dL_law_431 rfl) ?_
    refine lf (a_iload dL_law_432 rfl) ?_
    refine lf (a_iconst (1 : Int32) dL_law_434 (by decide)) ?_
    refine lf (a_iadd dL_law_435) ?_
    refine lf (a_sld dL_law_436 hX (ix_s (k := 1) rfl (show i + 1 < X.1 by omega) (by omega))) ?_
    refine lf (a_aload_n dL_law_437 rfl) ?_
    refine lf (a_iload dL_law_438 rfl) ?_
    refine lf (a_iconst (2 : Int32) dL_law_440 (by decide)) ?_
    refine lf (a_iadd dL_law_441) ?_
    refine lf (a_sld dL_law_442 hX (ix_s (k := 2) rfl (show i + 2 < X.1 by omega) (by omega))) ?_
    refine lf (a_aload_n dL_law_443 rfl) ?_
    refine lf (a_invSH (b2 := (60 * bb, 300 * bb)) (wv_cabin (by repeat (first | with_reducible exact hw | with_reducible exact hwc | with_reducible assumption | with_reducible apply Wf.sI | with_reducible apply Wf.sL | with_reducible apply Wf.cpI | with_reducible apply Wf.cpL | with_reducible apply Wf.cp2 | with_reducible apply Wf.sIs | with_reducible apply Wf.sLs | with_reducible apply Wf.cpU | with_reducible apply Wf.fillI | with_reducible apply Wf.clU | with_reducible apply Wf.dnF | with_reducible apply Wf.gbW)) (X.2 (i + 1)) (X.2 (i + 2)) hW hc) rfl dL_law_444 yh_L_cabin sm_L_cabin ml_L_132 rfl (by decide) ⟨by show 1 + 60 * bb ≤ 60 * (bb + 1); omega, by show 6 + 300 * bb ≤ 300 * (bb + 1); omega⟩ (Nat.le_of_ble_eq_true rfl)) ?_
    refine lf (a_istore dL_law_447 (by decide)) ?_
    refine lf (a_aload_n dL_law_449 rfl) ?_
    refine lf (a_aload_n dL_law_450 rfl) ?_
    refine lf (a_iload dL_law_451 rfl) ?_
    refine lf (a_iconst (1 : Int32) dL_law_453 (by decide)) ?_
    refine lf (a_iadd dL_law_454) ?_
    refine lf (a_sld dL_law_455 hX1 (ix_s (k := 1) rfl (show i + 1 < X.1 by omega) (by omega))) ?_
    refine lf (a_aload_n dL_law_456 rfl) ?_
    refine lf (a_iload dL_law_457 rfl) ?_
    refine lf (a_iconst (2 : Int32) dL_law_459 (by decide)) ?_
    refine lf (a_iadd dL_law_460) ?_
    refine lf (a_sld dL_law_461 hX1 (ix_s (k := 2) rfl (show i + 2 < X.1 by omega) (by omega))) ?_
    refine lf (a_inv (b2 := (60 * bb, 300 * bb)) km rfl dL_law_462 yk_X11_cabin im_X11_cabin se_X11_cabin ml_L_135 rfl (co_338 (by repeat (first | with_reducible exact hw | with_reducible exact hwc | with_reducible assumption | with_reducible apply Wf.sI | with_reducible apply Wf.sL | with_reducible apply Wf.cpI | with_reducible apply Wf.cpL | with_reducible apply Wf.cp2 | with_reducible apply Wf.sIs | with_reducible apply Wf.sLs | with_reducible apply Wf.cpU | with_reducible apply Wf.fillI | with_reducible apply Wf.clU | with_reducible apply Wf.dnF | with_reducible apply Wf.gbW))) (by decide) hc_X11 (by decide) ⟨by show 0 + 60 * bb ≤ 60 * bb; omega, by show 0 + 300 * bb ≤ 300 * bb; omega⟩ (Nat.le_of_ble_eq_true rfl)) ?_
    refine lf (a_istore dL_law_465 (by decide)) ?_
    refine lf (a_aload_n dL_law_467 rfl) ?_
    refine lf (a_inv (b2 := (60 * bb, 300 * bb)) (m_thrown (by repeat (first | with_reducible exact hw | with_reducible exact hwc | with_reducible assumption | with_reducible apply Wf.sI | with_reducible apply Wf.sL | with_reducible apply Wf.cpI | with_reducible apply Wf.cpL | with_reducible apply Wf.cp2 | with_reducible apply Wf.sIs | with_reducible apply Wf.sLs | with_reducible apply Wf.cpU | with_reducible apply Wf.fillI | with_reducible apply Wf.clU | with_reducible apply Wf.dnF | with_reducible apply Wf.gbW))) rfl dL_law_468 yk_X11_thrown im_X11_thrown se_X11_thrown ml_L_114 rfl (co_338 (by repeat (first | with_reducible exact hw | with_reducible exact hwc | with_reducible assumption | with_reducible apply Wf.sI | with_reducible apply Wf.sL | with_reducible apply Wf.cpI | with_reducible apply Wf.cpL | with_reducible apply Wf.cp2 | with_reducible apply Wf.sIs | with_reducible apply Wf.sLs | with_reducible apply Wf.cpU | with_reducible apply Wf.fillI | with_reducible apply Wf.clU | with_reducible apply Wf.dnF | with_reducible apply Wf.gbW))) (by decide) hc_X11 (by decide) ⟨by show 0 + 60 * bb ≤ 60 * bb; omega, by show 0 + 300 * bb ≤ 300 * bb; omega⟩ (Nat.le_of_ble_eq_true rfl)) ?_
    refine lf (a_iload dL_law_471 rfl) ?_
    refine lf2 (a_icmp_eq (tgt := 478) dL_law_473 (by decide)) (fun h473 => ?_) (fun h473 => absurd h473 (fun z => z k0))
    refine lf (a_iload dL_law_478 rfl) ?_
    refine lfn (a_if_ne (tgt := 495) dL_law_480 (by decide)) (fun h480 => absurd h480 (by decide)) (fun h480 => ?_)
    refine lf (a_aload_n dL_law_483 rfl) ?_
    refine lf (a_iconst (0 : Int32) dL_law_484 (by decide)) ?_
    refine lf (a_lld dL_law_485 (ca_363 (by repeat (first | with_reducible exact hw | with_reducible exact hwc | with_reducible assumption | with_reducible apply Wf.sI | with_reducible apply Wf.sL | with_reducible apply Wf.cpI | with_reducible apply Wf.cpL | with_reducible apply Wf.cp2 | with_reducible apply Wf.sIs | with_reducible apply Wf.sLs | with_reducible apply Wf.cpU | with_reducible apply Wf.fillI | with_reducible apply Wf.clU | with_reducible apply Wf.dnF | with_reducible apply Wf.gbW))) (ixn (m := 0) (by decide) (by decide))) ?_
    rw [hv1]
    refine lf (a_iload dL_law_486 rfl) ?_
    refine lf (a_i2l dL_law_488) ?_
    refine lf (a_lcmp dL_law_489) ?_
    refine lf2 (a_if_eq (tgt := 495) dL_law_490 (by decide)) (fun h490 => ?_) (fun h490 => absurd h490 (fun z => z (lcmp_self _)))
    refine lf (a_goto (tgt := 1976) dL_law_495 (by decide)) ?_
    exact lf (a_loc (LAw i) rfl) (kx V hr hX2)
  · simp only [List.mem_cons, List.not_mem_nil, or_false, Prod.mk.injEq] at hxk
    rcases hxk with ⟨rfl, rfl⟩ | ⟨rfl, rfl⟩
    · obtain ⟨z, V, tz, km, k0, hr, hv, hx⟩ := hk W (Out.rfl' hW)
      obtain ⟨z, rfl⟩ := tz
      have hX1 : gX W = X := hg.trans hX
      have hX2 : gX V = X := hx.trans hX1
      have hV := hr.wf
      refine lf (a_aload_n dL_law_430 rfl) ?_
      refine lf (a_aload_n dL_law_431 rfl) ?_
      refine lf (a_iload dL_law_432 rfl) ?_
      refine lf (a_iconst (1 : Int32) dL_law_434 (by decide)) ?_
      refine lf (a_iadd dL_law_435) ?_
      refine lf (a_sld dL_law_436 hX (ix_s (k := 1) rfl (show i + 1 < X.1 by omega) (by omega))) ?_
      refine lf (a_aload_n dL_law_437 rfl) ?_
      refine lf (a_iload dL_law_438 rfl) ?_
      refine lf (a_iconst (2 : Int32) dL_law_440 (by decide)) ?_
      refine lf (a_iadd dL_law_441) ?_
      refine lf (a_sld dL_law_442 hX (ix_s (k := 2) rfl (show i + 2 < X.1 by omega) (by omega))) ?_
      refine lf (a_aload_n dL_law_443 rfl) ?_
      refine lf (a_invSH (b2 := (60 * bb, 300 * bb)) (wx_cabin_1 (by repeat (first | with_reducible exact hw | with_reducible exact hwc | with_reducible assumption | with_reducible apply Wf.sI | with_reducible apply Wf.sL | with_reducible apply Wf.cpI | with_reducible apply Wf.cpL | with_reducible apply Wf.cp2 | with_reducible apply Wf.sIs | with_reducible apply Wf.sLs | with_reducible apply Wf.cpU | with_reducible apply Wf.fillI | with_reducible apply Wf.clU | with_reducible apply Wf.dnF | with_reducible apply Wf.gbW)) (X.2 (i + 1)) (X.2 (i + 2)) hc) rfl dL_law_444 yh_L_cabin sm_L_cabin ml_L_132 rfl (by decide) ⟨by show 1 + 60 * bb ≤ 60 * (bb + 1); omega, by show 6 + 300 * bb ≤ 300 * (bb + 1); omega⟩ (Nat.le_of_ble_eq_true rfl)) ?_
      refine lf (a_istore dL_law_447 (by decide)) ?_
      refine lf (a_aload_n dL_law_449 rfl) ?_
      refine lf (a_aload_n dL_law_450 rfl) ?_
      refine lf (a_iload dL_law_451 rfl) ?_
      refine lf (a_iconst (1 : Int32) dL_law_453 (by decide)) ?_
      refine lf (a_iadd dL_law_454) ?_
      refine lf (a_sld dL_law_455 hX1 (ix_s (k := 1) rfl (show i + 1 < X.1 by omega) (by omega))) ?_
      refine lf (a_aload_n dL_law_456 rfl) ?_
      refine lf (a_iload dL_law_457 rfl) ?_
      refine lf (a_iconst (2 : Int32) dL_law_459 (by decide)) ?_
      refine lf (a_iadd dL_law_460) ?_
      refine lf (a_sld dL_law_461 hX1 (ix_s (k := 2) rfl (show i + 2 < X.1 by omega) (by omega))) ?_
      refine lf (a_inv (b2 := (60 * bb, 300 * bb)) km rfl dL_law_462 yk_X11_cabin im_X11_cabin se_X11_cabin ml_L_135 rfl (co_338 (by repeat (first | with_reducible exact hw | with_reducible exact hwc | with_reducible assumption | with_reducible apply Wf.sI | with_reducible apply Wf.sL | with_reducible apply Wf.cpI | with_reducible apply Wf.cpL | with_reducible apply Wf.cp2 | with_reducible apply Wf.sIs | with_reducible apply Wf.sLs | with_reducible apply Wf.cpU | with_reducible apply Wf.fillI | with_reducible apply Wf.clU | with_reducible apply Wf.dnF | with_reducible apply Wf.gbW))) (by decide) hc_X11 (by decide) ⟨by show 0 + 60 * bb ≤ 60 * bb; omega, by show 0 + 300 * bb ≤ 300 * bb; omega⟩ (Nat.le_of_ble_eq_true rfl)) ?_
      refine lf (a_istore dL_law_465 (by decide)) ?_
      refine lf (a_aload_n dL_law_467 rfl) ?_
      refine lf (a_inv (b2 := (60 * bb, 300 * bb)) (m_thrown (by repeat (first | with_reducible exact hw | with_reducible exact hwc | with_reducible assumption | with_reducible apply Wf.sI | with_reducible apply Wf.sL | with_reducible apply Wf.cpI | with_reducible apply Wf.cpL | with_reducible apply Wf.cp2 | with_reducible apply Wf.sIs | with_reducible apply Wf.sLs | with_reducible apply Wf.cpU | with_reducible apply Wf.fillI | with_reducible apply Wf.clU | with_reducible apply Wf.dnF | with_reducible apply Wf.gbW))) rfl dL_law_468 yk_X11_thrown im_X11_thrown se_X11_thrown ml_L_114 rfl (co_338 (by repeat (first | with_reducible exact hw | with_reducible exact hwc | with_reducible assumption | with_reducible apply Wf.sI | with_reducible apply Wf.sL | with_reducible apply Wf.cpI | with_reducible apply Wf.cpL | with_reducible apply Wf.cp2 | with_reducible apply Wf.sIs | with_reducible apply Wf.sLs | with_reducible apply Wf.cpU | with_reducible apply Wf.fillI | with_reducible apply Wf.clU | with_reducible apply Wf.dnF | with_reducible apply Wf.gbW))) (by decide) hc_X11 (by decide) ⟨by show 0 + 60 * bb ≤ 60 * bb; omega, by show 0 + 300 * bb ≤ 300 * bb; omega⟩ (Nat.le_of_ble_eq_true rfl)) ?_
      refine lf (a_iload dL_law_471 rfl) ?_
      refine lf2 (a_icmp_eq (tgt := 478) dL_law_473 (by decide)) (fun h473 => ?_) (fun h473 => absurd h473 (fun z => z k0))
      refine lf (a_iload dL_law_478 rfl) ?_
      refine lfn (a_if_ne (tgt := 495) dL_law_480 (by decide)) (fun h480 => ?_) (fun h480 => absurd h480 (by decide))
      refine lf (a_goto (tgt := 1976) dL_law_495 (by decide)) ?_
      exact lf (a_loc (LAw i) rfl) (kx V hr hX2)
    · obtain ⟨z, V, tz, km, k0, hr, hv, hx⟩ := hk W (Out.rfl' hW)
      obtain ⟨z, rfl⟩ := tz
      have hX1 : gX W = X := hg.trans hX
      have hX2 : gX V = X := hx.trans hX1
      have hV := hr.wf
      refine lf (a_aload_n dL_law_430 rfl) ?_
      refine lf (a_aload_n dL_law_431 rfl) ?_
      refine lf (a_iload dL_law_432 rfl) ?_
      refine lf (a_iconst (1 : Int32) dL_law_434 (by decide)) ?_
      refine lf (a_iadd dL_law_435) ?_
      refine lf (a_sld dL_law_436 hX (ix_s (k := 1) rfl (show i + 1 < X.1 by omega) (by omega))) ?_
      refine lf (a_aload_n dL_law_437 rfl) ?_
      refine lf (a_iload dL_law_438 rfl) ?_
      refine lf (a_iconst (2 : Int32) dL_law_440 (by decide)) ?_
      refine lf (a_iadd dL_law_441) ?_
      refine lf (a_sld dL_law_442 hX (ix_s (k := 2) rfl (show i + 2 < X.1 by omega) (by omega))) ?_
      refine lf (a_aload_n dL_law_443 rfl) ?_
      refine lf (a_invSH (b2 := (60 * bb, 300 * bb)) (wx_cabin_2 (by repeat (first | with_reducible exact hw | with_reducible exact hwc | with_reducible assumption | with_reducible apply Wf.sI | with_reducible apply Wf.sL | with_reducible apply Wf.cpI | with_reducible apply Wf.cpL | with_reducible apply Wf.cp2 | with_reducible apply Wf.sIs | with_reducible apply Wf.sLs | with_reducible apply Wf.cpU | with_reducible apply Wf.fillI | with_reducible apply Wf.clU | with_reducible apply Wf.dnF | with_reducible apply Wf.gbW)) (X.2 (i + 1)) (X.2 (i + 2)) hc) rfl dL_law_444 yh_L_cabin sm_L_cabin ml_L_132 rfl (by decide) ⟨by show 1 + 60 * bb ≤ 60 * (bb + 1); omega, by show 6 + 300 * bb ≤ 300 * (bb + 1); omega⟩ (Nat.le_of_ble_eq_true rfl)) ?_
      refine lf (a_istore dL_law_447 (by decide)) ?_
      refine lf (a_aload_n dL_law_449 rfl) ?_
      refine lf (a_aload_n dL_law_450 rfl) ?_
      refine lf (a_iload dL_law_451 rfl) ?_
      refine lf (a_iconst (1 : Int32) dL_law_453 (by decide)) ?_
      refine lf (a_iadd dL_law_454) ?_
      refine lf (a_sld dL_law_455 hX1 (ix_s (k := 1) rfl (show i + 1 < X.1 by omega) (by omega))) ?_
      refine lf (a_aload_n dL_law_456 rfl) ?_
      refine lf (a_iload dL_law_457 rfl) ?_
      refine lf (a_iconst (2 : Int32) dL_law_459 (by decide)) ?_
      refine lf (a_iadd dL_law_460) ?_
      refine lf (a_sld dL_law_461 hX1 (ix_s (k := 2) rfl (show i + 2 < X.1 by omega) (by omega))) ?_
      refine lf (a_inv (b2 := (60 * bb, 300 * bb)) km rfl dL_law_462 yk_X11_cabin im_X11_cabin se_X11_cabin ml_L_135 rfl (co_338 (by repeat (first | with_reducible exact hw | with_reducible exact hwc | with_reducible assumption | with_reducible apply Wf.sI | with_reducible apply Wf.sL | with_reducible apply Wf.cpI | with_reducible apply Wf.cpL | with_reducible apply Wf.cp2 | with_reducible apply Wf.sIs | with_reducible apply Wf.sLs | with_reducible apply Wf.cpU | with_reducible apply Wf.fillI | with_reducible apply Wf.clU | with_reducible apply Wf.dnF | with_reducible apply Wf.gbW))) (by decide) hc_X11 (by decide) ⟨by show 0 + 60 * bb ≤ 60 * bb; omega, by show 0 + 300 * bb ≤ 300 * bb; omega⟩ (Nat.le_of_ble_eq_true rfl)) ?_
      refine lf (a_istore dL_law_465 (by decide)) ?_
      refine lf (a_aload_n dL_law_467 rfl) ?_
      refine lf (a_inv (b2 := (60 * bb, 300 * bb)) (m_thrown (by repeat (first | with_reducible exact hw | with_reducible exact hwc | with_reducible assumption | with_reducible apply Wf.sI | with_reducible apply Wf.sL | with_reducible apply Wf.cpI | with_reducible apply Wf.cpL | with_reducible apply Wf.cp2 | with_reducible apply Wf.sIs | with_reducible apply Wf.sLs | with_reducible apply Wf.cpU | with_reducible apply Wf.fillI | with_reducible apply Wf.clU | with_reducible apply Wf.dnF | with_reducible apply Wf.gbW))) rfl dL_law_468 yk_X11_thrown im_X11_thrown se_X11_thrown ml_L_114 rfl (co_338 (by repeat (first | with_reducible exact hw | with_reducible exact hwc | with_reducible assumption | with_reducible apply Wf.sI | with_reducible apply Wf.sL | with_reducible apply Wf.cpI | with_reducible apply Wf.cpL | with_reducible apply Wf.cp2 | with_reducible apply Wf.sIs | with_reducible apply Wf.sLs | with_reducible apply Wf.cpU | with_reducible apply Wf.fillI | with_reducible apply Wf.clU | with_reducible apply Wf.dnF | with_reducible apply Wf.gbW))) (by decide) hc_X11 (by decide) ⟨by show 0 + 60 * bb ≤ 60 * bb; omega, by show 0 + 300 * bb ≤ 300 * bb; omega⟩ (Nat.le_of_ble_eq_true rfl)) ?_
      refine lf (a_iload dL_law_471 rfl) ?_
      refine lf2 (a_icmp_eq (tgt := 478) dL_law_473 (by decide)) (fun h473 => ?_) (fun h473 => absurd h473 (fun z => z k0))
      refine lf (a_iload dL_law_478 rfl) ?_
      refine lfn (a_if_ne (tgt := 495) dL_law_480 (by decide)) (fun h480 => ?_) (fun h480 => absurd h480 (by decide))
      refine lf (a_goto (tgt := 1976) dL_law_495 (by decide)) ?_
      exact lf (a_loc (LAw i) rfl) (kx V hr hX2)
theorem s_meal {μ : Wd} {N i bb : Nat} {X : Nat × (Nat → Int32)} (h : RelV N μ) (hX : gX μ = X) (hi : i + 6 ≤ X.1) (hL : X.1 ≤ 3072) (kx : ∀ V, RelV (N + 1) V → gX V = X → WP Y_L_law RLaw (60 * bb, 300 * bb) V 1976 (LAw i) [] QLw) : WP Y_L_law RLaw (60 * (bb + 1), 300 * (bb + 1)) μ 498 (LAw i) [] QLw := by
  have hw := h.wf
  rcases o_meal h (X.2 (i + 1)) (X.2 (i + 2)) with ⟨v, W, tv, hW, hc, hg, hk⟩ | ⟨x, k, W, hxk, hW, hc, hg, hk⟩
  · obtain ⟨v, rfl⟩ := tv
    obtain ⟨V, km, k0, hr, hv, hx⟩ := hk (sL W 363 0 (v.toInt64)) ((Out.rfl' hW).sL (S := s363) (i := 363) rfl _ _)
    have hX1 : gX (sL W 363 0 (v.toInt64)) = X := hg.trans hX
    have hX2 : gX V = X := hx.trans hX1
    have hV := hr.wf
    have hv1 : gL V 363 0 = v.toInt64 := hv.trans ((gL_sL _ _ _ _ _ _).trans (if_pos ⟨rfl, rfl⟩))
    refine lf (a_aload_n dL_law_498 rfl) ?_
    refine lf (a_aload_n dL_law_499 rfl) ?_
    refine lf (a_iload dL_law_500 rfl) ?_
    refine lf (a_iconst (1 : Int32) dL_law_502 (by decide)) ?_
    refine lf (a_iadd dL_law_503) ?_
    refine lf (a_sld dL_law_504 hX (ix_s (k := 1) rfl (show i + 1 < X.1 by omega) (by omega))) ?_
    refine lf (a_aload_n dL_law_505 rfl) ?_
    refine lf (a_iload dL_law_506 rfl) ?_
    refine lf (a_iconst (2 : Int32) dL_law_508 (by decide)) ?_
    refine lf (a_iadd dL_law_509) ?_
    refine lf (a_sld dL_law_510 hX (ix_s (k := 2) rfl (show i + 2 < X.1 by omega) (by omega))) ?_
    refine lf (a_aload_n dL_law_511 rfl) ?_
    refine lf (a_invSH (b2 := (60 * bb, 300 * bb)) (wv_meal (by repeat (first | with_reducible exact hw | with_reducible exact hwc | with_reducible assumption | with_reducible apply Wf.sI | with_reducible apply Wf.sL | with_reducible apply Wf.cpI | with_reducible apply Wf.cpL | with_reducible apply Wf.cp2 | with_reducible apply Wf.sIs | with_reducible apply Wf.sLs | with_reducible apply Wf.cpU | with_reducible apply Wf.fillI | with_reducible apply Wf.clU | with_reducible apply Wf.dnF | with_reducible apply Wf.gbW)) (X.2 (i + 1)) (X.2 (i + 2)) hW hc) rfl dL_law_512 yh_L_meal sm_L_meal ml_L_136 rfl (by decide) ⟨by show 1 + 60 * bb ≤ 60 * (bb + 1); omega, by show 6 + 300 * bb ≤ 300 * (bb + 1); omega⟩ (Nat.le_of_ble_eq_true rfl)) ?_
    refine lf (a_istore dL_law_515 (by decide)) ?_
    refine lf (a_aload_n dL_law_517 rfl) ?_
    refine lf (a_aload_n dL_law_518 rfl) ?_
    refine lf (a_iload dL_law_519 rfl) ?_
    refine lf (a_iconst (1 : Int32) dL_law_521 (by decide)) ?_
    refine lf (a_iadd dL_law_522) ?_
    refine lf (a_sld dL_law_523 hX1 (ix_s (k := 1) rfl (show i + 1 < X.1 by omega) (by omega))) ?_
    refine lf (a_aload_n dL_law_524 rfl) ?_
    refine lf (a_iload dL_law_525 rfl) ?_
    refine lf (a_iconst (2 : Int32) dL_law_527 (by decide)) ?_
    refine lf (a_iadd dL_law_528) ?_
    refine lf (a_sld dL_law_529 hX1 (ix_s (k := 2) rfl (show i + 2 < X.1 by omega) (by omega))) ?_
    refine lf (a_inv (b2 := (60 * bb, 300 * bb)) km rfl dL_law_530 yk_X11_meal im_X11_meal se_X11_meal ml_L_138 rfl (co_338 (by repeat (first | with_reducible exact hw | with_reducible exact hwc | with_reducible assumption | with_reducible apply Wf.sI | with_reducible apply Wf.sL | with_reducible apply Wf.cpI | with_reducible apply Wf.cpL | with_reducible apply Wf.cp2 | with_reducible apply Wf.sIs | with_reducible apply Wf.sLs | with_reducible apply Wf.cpU | with_reducible apply Wf.fillI | with_reducible apply Wf.clU | with_reducible apply Wf.dnF | with_reducible apply Wf.gbW))) (by decide) hc_X11 (by decide) ⟨by show 0 + 60 * bb ≤ 60 * bb; omega, by show 0 + 300 * bb ≤ 300 * bb; omega⟩ (Nat.le_of_ble_eq_true rfl)) ?_
    refine lf (a_istore dL_law_533 (by decide)) ?_
    refine lf (a_aload_n dL_law_535 rfl) ?_
    refine lf (a_inv (b2 := (60 * bb, 300 * bb)) (m_thrown (by repeat (first | with_reducible exact hw | with_reducible exact hwc | with_reducible assumption | with_reducible apply Wf.sI | with_reducible apply Wf.sL | with_reducible apply Wf.cpI | with_reducible apply Wf.cpL | with_reducible apply Wf.cp2 | with_reducible apply Wf.sIs | with_reducible apply Wf.sLs | with_reducible apply Wf.cpU | with_reducible apply Wf.fillI | with_reducible apply Wf.clU | with_reducible apply Wf.dnF | with_reducible apply Wf.gbW))) rfl dL_law_536 yk_X11_thrown im_X11_thrown se_X11_thrown ml_L_114 rfl (co_338 (by repeat (first | with_reducible exact hw | with_reducible exact hwc | with_reducible assumption | with_reducible apply Wf.sI | with_reducible apply Wf.sL | with_reducible apply Wf.cpI | with_reducible apply Wf.cpL | with_reducible apply Wf.cp2 | with_reducible apply Wf.sIs | with_reducible apply Wf.sLs | with_reducible apply Wf.cpU | with_reducible apply Wf.fillI | with_reducible apply Wf.clU | with_reducible apply Wf.dnF | with_reducible apply Wf.gbW))) (by decide) hc_X11 (by decide) ⟨by show 0 + 60 * bb ≤ 60 * bb; omega, by show 0 + 300 * bb ≤ 300 * bb; omega⟩ (Nat.le_of_ble_eq_true rfl)) ?_
    refine lf (a_iload dL_law_539 rfl) ?_
    refine lf2 (a_icmp_eq (tgt := 546) dL_law_541 (by decide)) (fun h541 => ?_) (fun h541 => absurd h541 (fun z => z k0))
    refine lf (a_iload dL_law_546 rfl) ?_
    refine lfn (a_if_ne (tgt := 563) dL_law_548 (by decide)) (fun h548 => absurd h548 (by decide)) (fun h548 => ?_)
    refine lf (a_aload_n dL_law_551 rfl) ?_
    refine lf (a_iconst (0 : Int32) dL_law_552 (by decide)) ?_
    refine lf (a_lld dL_law_553 (ca_363 (by repeat (first | with_reducible exact hw | with_reducible exact hwc | with_reducible assumption | with_reducible apply Wf.sI | with_reducible apply Wf.sL | with_reducible apply Wf.cpI | with_reducible apply Wf.cpL | with_reducible apply Wf.cp2 | with_reducible apply Wf.sIs | with_reducible apply Wf.sLs | with_reducible apply Wf.cpU | with_reducible apply Wf.fillI | with_reducible apply Wf.clU | with_reducible apply Wf.dnF | with_reducible apply Wf.gbW))) (ixn (m := 0) (by decide) (by decide))) ?_
    rw [hv1]
    refine lf (a_iload dL_law_554 rfl) ?_
    refine lf (a_i2l dL_law_556) ?_
    refine lf (a_lcmp dL_law_557) ?_
    refine lf2 (a_if_eq (tgt := 563) dL_law_558 (by decide)) (fun h558 => ?_) (fun h558 => absurd h558 (fun z => z (lcmp_self _)))
    refine lf (a_goto (tgt := 1976) dL_law_563 (by decide)) ?_
    exact lf (a_loc (LAw i) rfl) (kx V hr hX2)
  · simp only [List.mem_cons, List.not_mem_nil, or_false, Prod.mk.injEq] at hxk
    rcases hxk with ⟨rfl, rfl⟩ | ⟨rfl, rfl⟩
    · obtain ⟨z, V, tz, km, k0, hr, hv, hx⟩ := hk W (Out.rfl' hW)
      obtain ⟨z, rfl⟩ := tz
      have hX1 : gX W = X := hg.trans hX
      have hX2 : gX V = X := hx.trans hX1
      have hV := hr.wf
      refine lf (a_aload_n dL_law_498 rfl) ?_
      refine lf (a_aload_n dL_law_499 rfl) ?_
      refine lf (a_iload dL_law_500 rfl) ?_
      refine lf (a_iconst (1 : Int32) dL_law_502 (by decide)) ?_
      refine lf (a_iadd dL_law_503) ?_
      refine lf (a_sld dL_law_504 hX (ix_s (k := 1) rfl (show i + 1 < X.1 by omega) (by omega))) ?_
      refine lf (a_aload_n dL_law_505 rfl) ?_
      refine lf (a_iload dL_law_506 rfl) ?_
      refine lf (a_iconst (2 : Int32) dL_law_508 (by decide)) ?_
      refine lf (a_iadd dL_law_509) ?_
      refine lf (a_sld dL_law_510 hX (ix_s (k := 2) rfl (show i + 2 < X.1 by omega) (by omega))) ?_
      refine lf (a_aload_n dL_law_511 rfl) ?_
      refine lf (a_invSH (b2 := (60 * bb, 300 * bb)) (wx_meal_1 (by repeat (first | with_reducible exact hw | with_reducible exact hwc | with_reducible assumption | with_reducible apply Wf.sI | with_reducible apply Wf.sL | with_reducible apply Wf.cpI | with_reducible apply Wf.cpL | with_reducible apply Wf.cp2 | with_reducible apply Wf.sIs | with_reducible apply Wf.sLs | with_reducible apply Wf.cpU | with_reducible apply Wf.fillI | with_reducible apply Wf.clU | with_reducible apply Wf.dnF | with_reducible apply Wf.gbW)) (X.2 (i + 1)) (X.2 (i + 2)) hc) rfl dL_law_512 yh_L_meal sm_L_meal ml_L_136 rfl (by decide) ⟨by show 1 + 60 * bb ≤ 60 * (bb + 1); omega, by show 6 + 300 * bb ≤ 300 * (bb + 1); omega⟩ (Nat.le_of_ble_eq_true rfl)) ?_
      refine lf (a_istore dL_law_515 (by decide)) ?_
      refine lf (a_aload_n dL_law_517 rfl) ?_
      refine lf (a_aload_n dL_law_518 rfl) ?_
      refine lf (a_iload dL_law_519 rfl) ?_
      refine lf (a_iconst (1 : Int32) dL_law_521 (by decide)) ?_
      refine lf (a_iadd dL_law_522) ?_
      refine lf (a_sld dL_law_523 hX1 (ix_s (k := 1) rfl (show i + 1 < X.1 by omega) (by omega))) ?_
      refine lf (a_aload_n dL_law_524 rfl) ?_
      refine lf (a_iload dL_law_525 rfl) ?_
      refine lf (a_iconst (2 : Int32) dL_law_527 (by decide)) ?_
      refine lf (a_iadd dL_law_528) ?_
      refine lf (a_sld dL_law_529 hX1 (ix_s (k := 2) rfl (show i + 2 < X.1 by omega) (by omega))) ?_
      refine lf (a_inv (b2 := (60 * bb, 300 * bb)) km rfl dL_law_530 yk_X11_meal im_X11_meal se_X11_meal ml_L_138 rfl (co_338 (by repeat (first | with_reducible exact hw | with_reducible exact hwc | with_reducible assumption | with_reducible apply Wf.sI | with_reducible apply Wf.sL | with_reducible apply Wf.cpI | with_reducible apply Wf.cpL | with_reducible apply Wf.cp2 | with_reducible apply Wf.sIs | with_reducible apply Wf.sLs | with_reducible apply Wf.cpU | with_reducible apply Wf.fillI | with_reducible apply Wf.clU | with_reducible apply Wf.dnF | with_reducible apply Wf.gbW))) (by decide) hc_X11 (by decide) ⟨by show 0 + 60 * bb ≤ 60 * bb; omega, by show 0 + 300 * bb ≤ 300 * bb; omega⟩ (Nat.le_of_ble_eq_true rfl)) ?_
      refine lf (a_istore dL_law_533 (by decide)) ?_
      refine lf (a_aload_n dL_law_535 rfl) ?_
      refine lf (a_inv (b2 := (60 * bb, 300 * bb)) (m_thrown (by repeat (first | with_reducible exact hw | with_reducible exact hwc | with_reducible assumption | with_reducible apply Wf.sI | with_reducible apply Wf.sL | with_reducible apply Wf.cpI | with_reducible apply Wf.cpL | with_reducible apply Wf.cp2 | with_reducible apply Wf.sIs | with_reducible apply Wf.sLs | with_reducible apply Wf.cpU | with_reducible apply Wf.fillI | with_reducible apply Wf.clU | with_reducible apply Wf.dnF | with_reducible apply Wf.gbW))) rfl dL_law_536 yk_X11_thrown im_X11_thrown se_X11_thrown ml_L_114 rfl (co_338 (by repeat (first | with_reducible exact hw | with_reducible exact hwc | with_reducible assumption | with_reducible apply Wf.sI | with_reducible apply Wf.sL | with_reducible apply Wf.cpI | with_reducible apply Wf.cpL | with_reducible apply Wf.cp2 | with_reducible apply Wf.sIs | with_reducible apply Wf.sLs | with_reducible apply Wf.cpU | with_reducible apply Wf.fillI | with_reducible apply Wf.clU | with_reducible apply Wf.dnF | with_reducible apply Wf.gbW))) (by decide) hc_X11 (by decide) ⟨by show 0 + 60 * bb ≤ 60 * bb; omega, by show 0 + 300 * bb ≤ 300 * bb; omega⟩ (Nat.le_of_ble_eq_true rfl)) ?_
      refine lf (a_iload dL_law_539 rfl) ?_
      refine lf2 (a_icmp_eq (tgt := 546) dL_law_541 (by decide)) (fun h541 => ?_) (fun h541 => absurd h541 (fun z => z k0))
      refine lf (a_iload dL_law_546 rfl) ?_
      refine lfn (a_if_ne (tgt := 563) dL_law_548 (by decide)) (fun h548 => ?_) (fun h548 => absurd h548 (by decide))
      refine lf (a_goto (tgt := 1976) dL_law_563 (by decide)) ?_
      exact lf (a_loc (LAw i) rfl) (kx V hr hX2)
    · obtain ⟨z, V, tz, km, k0, hr, hv, hx⟩ := hk W (Out.rfl' hW)
      obtain ⟨z, rfl⟩ := tz
      have hX1 : gX W = X := hg.trans hX
      have hX2 : gX V = X := hx.trans hX1
      have hV := hr.wf
      refine lf (a_aload_n dL_law_498 rfl) ?_
      refine lf (a_aload_n dL_law_499 rfl) ?_
      refine lf (a_iload dL_law_500 rfl) ?_
      refine lf (a_iconst (1 : Int32) dL_law_502 (by decide)) ?_
      refine lf (a_iadd dL_law_503) ?_
      refine lf (a_sld dL_law_504 hX (ix_s (k := 1) rfl (show i + 1 < X.1 by omega) (by omega))) ?_
      refine lf (a_aload_n dL_law_505 rfl) ?_
      refine lf (a_iload dL_law_506 rfl) ?_
      refine lf (a_iconst (2 : Int32) dL_law_508 (by decide)) ?_
      refine lf (a_iadd dL_law_509) ?_
      refine lf (a_sld dL_law_510 hX (ix_s (k := 2) rfl (show i + 2 < X.1 by omega) (by omega))) ?_
      refine lf (a_aload_n dL_law_511 rfl) ?_
      refine lf (a_invSH (b2 := (60 * bb, 300 * bb)) (wx_meal_2 (by repeat (first | with_reducible exact hw | with_reducible exact hwc | with_reducible assumption | with_reducible apply Wf.sI | with_reducible apply Wf.sL | with_reducible apply Wf.cpI | with_reducible apply Wf.cpL | with_reducible apply Wf.cp2 | with_reducible apply Wf.sIs | with_reducible apply Wf.sLs | with_reducible apply Wf.cpU | with_reducible apply Wf.fillI | with_reducible apply Wf.clU | with_reducible apply Wf.dnF | with_reducible apply Wf.gbW)) (X.2 (i + 1)) (X.2 (i + 2)) hc) rfl dL_law_512 yh_L_meal sm_L_meal ml_L_136 rfl (by decide) ⟨by show 1 + 60 * bb ≤ 60 * (bb + 1); omega, by show 6 + 300 * bb ≤ 300 * (bb + 1); omega⟩ (Nat.le_of_ble_eq_true rfl)) ?_
      refine lf (a_istore dL_law_515 (by decide)) ?_
      refine lf (a_aload_n dL_law_517 rfl) ?_
      refine lf (a_aload_n dL_law_518 rfl) ?_
      refine lf (a_iload dL_law_519 rfl) ?_
      refine lf (a_iconst (1 : Int32) dL_law_521 (by decide)) ?_
      refine lf (a_iadd dL_law_522) ?_
      refine lf (a_sld dL_law_523 hX1 (ix_s (k := 1) rfl (show i + 1 < X.1 by omega) (by omega))) ?_
      refine lf (a_aload_n dL_law_524 rfl) ?_
      refine lf (a_iload dL_law_525 rfl) ?_
      refine lf (a_iconst (2 : Int32) dL_law_527 (by decide)) ?_
      refine lf (a_iadd dL_law_528) ?_
      refine lf (a_sld dL_law_529 hX1 (ix_s (k := 2) rfl (show i + 2 < X.1 by omega) (by omega))) ?_
      refine lf (a_inv (b2 := (60 * bb, 300 * bb)) km rfl dL_law_530 yk_X11_meal im_X11_meal se_X11_meal ml_L_138 rfl (co_338 (by repeat (first | with_reducible exact hw | with_reducible exact hwc | with_reducible assumption | with_reducible apply Wf.sI | with_reducible apply Wf.sL | with_reducible apply Wf.cpI | with_reducible apply Wf.cpL | with_reducible apply Wf.cp2 | with_reducible apply Wf.sIs | with_reducible apply Wf.sLs | with_reducible apply Wf.cpU | with_reducible apply Wf.fillI | with_reducible apply Wf.clU | with_reducible apply Wf.dnF | with_reducible apply Wf.gbW))) (by decide) hc_X11 (by decide) ⟨by show 0 + 60 * bb ≤ 60 * bb; omega, by show 0 + 300 * bb ≤ 300 * bb; omega⟩ (Nat.le_of_ble_eq_true rfl)) ?_
      refine lf (a_istore dL_law_533 (by decide)) ?_
      refine lf (a_aload_n dL_law_535 rfl) ?_
      refine lf (a_inv (b2 := (60 * bb, 300 * bb)) (m_thrown (by repeat (first | with_reducible exact hw | with_reducible exact hwc | with_reducible assumption | with_reducible apply Wf.sI | with_reducible apply Wf.sL | with_reducible apply Wf.cpI | with_reducible apply Wf.cpL | with_reducible apply Wf.cp2 | with_reducible apply Wf.sIs | with_reducible apply Wf.sLs | with_reducible apply Wf.cpU | with_reducible apply Wf.fillI | with_reducible apply Wf.clU | with_reducible apply Wf.dnF | with_reducible apply Wf.gbW))) rfl dL_law_536 yk_X11_thrown im_X11_thrown se_X11_thrown ml_L_114 rfl (co_338 (by repeat (first | with_reducible exact hw | with_reducible exact hwc | with_reducible assumption | with_reducible apply Wf.sI | with_reducible apply Wf.sL | with_reducible apply Wf.cpI | with_reducible apply Wf.cpL | with_reducible apply Wf.cp2 | with_reducible apply Wf.sIs | with_reducible apply Wf.sLs | with_reducible apply Wf.cpU | with_reducible apply Wf.fillI | with_reducible apply Wf.clU | with_reducible apply Wf.dnF | with_reducible apply Wf.gbW))) (by decide) hc_X11 (by decide) ⟨by show 0 + 60 * bb ≤ 60 * bb; omega, by show 0 + 300 * bb ≤ 300 * bb; omega⟩ (Nat.le_of_ble_eq_true rfl)) ?_
      refine lf (a_iload dL_law_539 rfl) ?_
      refine lf2 (a_icmp_eq (tgt := 546) dL_law_541 (by decide)) (fun h541 => ?_) (fun h541 => absurd h541 (fun z => z k0))
      refine lf (a_iload dL_law_546 rfl) ?_
      refine lfn (a_if_ne (tgt := 563) dL_law_548 (by decide)) (fun h548 => ?_) (fun h548 => absurd h548 (by decide))
      refine lf (a_goto (tgt := 1976) dL_law_563 (by decide)) ?_
      exact lf (a_loc (LAw i) rfl) (kx V hr hX2)
theorem s_passenger {μ : Wd} {N i bb : Nat} {X : Nat × (Nat → Int32)} (h : RelV N μ) (hX : gX μ = X) (hi : i + 6 ≤ X.1) (hL : X.1 ≤ 3072) (kx : ∀ V, RelV (N + 1) V → gX V = X → WP Y_L_law RLaw (60 * bb, 300 * bb) V 1976 (LAw i) [] QLw) : WP Y_L_law RLaw (60 * (bb + 1), 300 * (bb + 1)) μ 566 (LAw i) [] QLw := by
  have hw := h.wf
  rcases o_passenger h (X.2 (i + 1)) (X.2 (i + 2)) with ⟨v, W, tv, hW, hc, hg, hk⟩ | ⟨x, k, W, hxk, hW, hc, hg, hk⟩
  · obtain ⟨v, rfl⟩ := tv
    obtain ⟨V, km, k0, hr, hv, hx⟩ := hk (sL W 363 0 (v.toInt64)) ((Out.rfl' hW).sL (S := s363) (i := 363) rfl _ _)
    have hX1 : gX (sL W 363 0 (v.toInt64)) = X := hg.trans hX
    have hX2 : gX V = X := hx.trans hX1
    have hV := hr.wf
    have hv1 : gL V 363 0 = v.toInt64 := hv.trans ((gL_sL _ _ _ _ _ _).trans (if_pos ⟨rfl, rfl⟩))
    refine lf (a_aload_n dL_law_566 rfl) ?_
    refine lf (a_aload_n dL_law_567 rfl) ?_
    refine lf (a_iload dL_law_568 rfl) ?_
    refine lf (a_iconst (1 : Int32) dL_law_570 (by decide)) ?_
    refine lf (a_iadd dL_law_571) ?_
    refine lf (a_sld dL_law_572 hX (ix_s (k := 1) rfl (show i + 1 < X.1 by omega) (by omega))) ?_
    refine lf (a_aload_n dL_law_573 rfl) ?_
    refine lf (a_iload dL_law_574 rfl) ?_
    refine lf (a_iconst (2 : Int32) dL_law_576 (by decide)) ?_
    refine lf (a_iadd dL_law_577) ?_
    refine lf (a_sld dL_law_578 hX (ix_s (k := 2) rfl (show i + 2 < X.1 by omega) (by omega))) ?_
    refine lf (a_aload_n dL_law_579 rfl) ?_
    refine lf (a_invSH (b2 := (60 * bb, 300 * bb)) (wv_passenger (by repeat (first | with_reducible exact hw | with_reducible exact hwc | with_reducible assumption | with_reducible apply Wf.sI | with_reducible apply Wf.sL | with_reducible apply Wf.cpI | with_reducible apply Wf.cpL | with_reducible apply Wf.cp2 | with_reducible apply Wf.sIs | with_reducible apply Wf.sLs | with_reducible apply Wf.cpU | with_reducible apply Wf.fillI | with_reducible apply Wf.clU | with_reducible apply Wf.dnF | with_reducible apply Wf.gbW)) (X.2 (i + 1)) (X.2 (i + 2)) hW hc) rfl dL_law_580 yh_L_passenger sm_L_passenger ml_L_139 rfl (by decide) ⟨by show 1 + 60 * bb ≤ 60 * (bb + 1); omega, by show 6 + 300 * bb ≤ 300 * (bb + 1); omega⟩ (Nat.le_of_ble_eq_true rfl)) ?_
    refine lf (a_istore dL_law_583 (by decide)) ?_
    refine lf (a_aload_n dL_law_585 rfl) ?_
    refine lf (a_aload_n dL_law_586 rfl) ?_
    refine lf (a_iload dL_law_587 rfl) ?_
    refine lf (a_iconst (1 : Int32) dL_law_589 (by decide)) ?_
    refine lf (a_iadd dL_law_590) ?_
    refine lf (a_sld dL_law_591 hX1 (ix_s (k := 1) rfl (show i + 1 < X.1 by omega) (by omega))) ?_
    refine lf (a_aload_n dL_law_592 rfl) ?_
    refine lf (a_iload dL_law_593 rfl) ?_
    refine lf (a_iconst (2 : Int32) dL_law_595 (by decide)) ?_
    refine lf (a_iadd dL_law_596) ?_
    refine lf (a_sld dL_law_597 hX1 (ix_s (k := 2) rfl (show i + 2 < X.1 by omega) (by omega))) ?_
    refine lf (a_inv (b2 := (60 * bb, 300 * bb)) km rfl dL_law_598 yk_X11_passenger im_X11_passenger se_X11_passenger ml_L_141 rfl (co_338 (by repeat (first | with_reducible exact hw | with_reducible exact hwc | with_reducible assumption | with_reducible apply Wf.sI | with_reducible apply Wf.sL | with_reducible apply Wf.cpI | with_reducible apply Wf.cpL | with_reducible apply Wf.cp2 | with_reducible apply Wf.sIs | with_reducible apply Wf.sLs | with_reducible apply Wf.cpU | with_reducible apply Wf.fillI | with_reducible apply Wf.clU | with_reducible apply Wf.dnF | with_reducible apply Wf.gbW))) (by decide) hc_X11 (by decide) ⟨by show 0 + 60 * bb ≤ 60 * bb; omega, by show 0 + 300 * bb ≤ 300 * bb; omega⟩ (Nat.le_of_ble_eq_true rfl)) ?_
    refine lf (a_istore dL_law_601 (by decide)) ?_
    refine lf (a_aload_n dL_law_603 rfl) ?_
    refine lf (a_inv (b2 := (60 * bb, 300 * bb)) (m_thrown (by repeat (first | with_reducible exact hw | with_reducible exact hwc | with_reducible assumption | with_reducible apply Wf.sI | with_reducible apply Wf.sL | with_reducible apply Wf.cpI | with_reducible apply Wf.cpL | with_reducible apply Wf.cp2 | with_reducible apply Wf.sIs | with_reducible apply Wf.sLs | with_reducible apply Wf.cpU | with_reducible apply Wf.fillI | with_reducible apply Wf.clU | with_reducible apply Wf.dnF | with_reducible apply Wf.gbW))) rfl dL_law_604 yk_X11_thrown im_X11_thrown se_X11_thrown ml_L_114 rfl (co_338 (by repeat (first | with_reducible exact hw | with_reducible exact hwc | with_reducible assumption | with_reducible apply Wf.sI | with_reducible apply Wf.sL | with_reducible apply Wf.cpI | with_reducible apply Wf.cpL | with_reducible apply Wf.cp2 | with_reducible apply Wf.sIs | with_reducible apply Wf.sLs | with_reducible apply Wf.cpU | with_reducible apply Wf.fillI | with_reducible apply Wf.clU | with_reducible apply Wf.dnF | with_reducible apply Wf.gbW))) (by decide) hc_X11 (by decide) ⟨by show 0 + 60 * bb ≤ 60 * bb; omega, by show 0 + 300 * bb ≤ 300 * bb; omega⟩ (Nat.le_of_ble_eq_true rfl)) ?_
    refine lf (a_iload dL_law_607 rfl) ?_
    refine lf2 (a_icmp_eq (tgt := 614) dL_law_609 (by decide)) (fun h609 => ?_) (fun h609 => absurd h609 (fun z => z k0))
    refine lf (a_iload dL_law_614 rfl) ?_
    refine lfn (a_if_ne (tgt := 631) dL_law_616 (by decide)) (fun h616 => absurd h616 (by decide)) (fun h616 => ?_)
    refine lf (a_aload_n dL_law_619 rfl) ?_
    refine lf (a_iconst (0 : Int32) dL_law_620 (by decide)) ?_
    refine lf (a_lld dL_law_621 (ca_363 (by repeat (first | with_reducible exact hw | with_reducible exact hwc | with_reducible assumption | with_reducible apply Wf.sI | with_reducible apply Wf.sL | with_reducible apply Wf.cpI | with_reducible apply Wf.cpL | with_reducible apply Wf.cp2 | with_reducible apply Wf.sIs | with_reducible apply Wf.sLs | with_reducible apply Wf.cpU | with_reducible apply Wf.fillI | with_reducible apply Wf.clU | with_reducible apply Wf.dnF | with_reducible apply Wf.gbW))) (ixn (m := 0) (by decide) (by decide))) ?_
    rw [hv1]
    refine lf (a_iload dL_law_622 rfl) ?_
    refine lf (a_i2l dL_law_624) ?_
    refine lf (a_lcmp dL_law_625) ?_
    refine lf2 (a_if_eq (tgt := 631) dL_law_626 (by decide)) (fun h626 => ?_) (fun h626 => absurd h626 (fun z => z (lcmp_self _)))
    refine lf (a_goto (tgt := 1976) dL_law_631 (by decide)) ?_
    exact lf (a_loc (LAw i) rfl) (kx V hr hX2)
  · simp only [List.mem_cons, List.not_mem_nil, or_false, Prod.mk.injEq] at hxk
    rcases hxk with ⟨rfl, rfl⟩ | ⟨rfl, rfl⟩
    · obtain ⟨z, V, tz, km, k0, hr, hv, hx⟩ := hk W (Out.rfl' hW)
      obtain ⟨z, rfl⟩ := tz
      have hX1 : gX W = X := hg.trans hX
      have hX2 : gX V = X := hx.trans hX1
      have hV := hr.wf
      refine lf (a_aload_n dL_law_566 rfl) ?_
      refine lf (a_aload_n dL_law_567 rfl) ?_
      refine lf (a_iload dL_law_568 rfl) ?_
      refine lf (a_iconst (1 : Int32) dL_law_570 (by decide)) ?_
      refine lf (a_iadd dL_law_571) ?_
      refine lf (a_sld dL_law_572 hX (ix_s (k := 1) rfl (show i + 1 < X.1 by omega) (by omega))) ?_
      refine lf (a_aload_n dL_law_573 rfl) ?_
      refine lf (a_iload dL_law_574 rfl) ?_
      refine lf (a_iconst (2 : Int32) dL_law_576 (by decide)) ?_
      refine lf (a_iadd dL_law_577) ?_
      refine lf (a_sld dL_law_578 hX (ix_s (k := 2) rfl (show i + 2 < X.1 by omega) (by omega))) ?_
      refine lf (a_aload_n dL_law_579 rfl) ?_
      refine lf (a_invSH (b2 := (60 * bb, 300 * bb)) (wx_passenger_1 (by repeat (first | with_reducible exact hw | with_reducible exact hwc | with_reducible assumption | with_reducible apply Wf.sI | with_reducible apply Wf.sL | with_reducible apply Wf.cpI | with_reducible apply Wf.cpL | with_reducible apply Wf.cp2 | with_reducible apply Wf.sIs | with_reducible apply Wf.sLs | with_reducible apply Wf.cpU | with_reducible apply Wf.fillI | with_reducible apply Wf.clU | with_reducible apply Wf.dnF | with_reducible apply Wf.gbW)) (X.2 (i + 1)) (X.2 (i + 2)) hc) rfl dL_law_580 yh_L_passenger sm_L_passenger ml_L_139 rfl (by decide) ⟨by show 1 + 60 * bb ≤ 60 * (bb + 1); omega, by show 6 + 300 * bb ≤ 300 * (bb + 1); omega⟩ (Nat.le_of_ble_eq_true rfl)) ?_
      refine lf (a_istore dL_law_583 (by decide)) ?_
      refine lf (a_aload_n dL_law_585 rfl) ?_
      refine lf (a_aload_n dL_law_586 rfl) ?_
      refine lf (a_iload dL_law_587 rfl) ?_
      refine lf (a_iconst (1 : Int32) dL_law_589 (by decide)) ?_
      refine lf (a_iadd dL_law_590) ?_
      refine lf (a_sld dL_law_591 hX1 (ix_s (k := 1) rfl (show i + 1 < X.1 by omega) (by omega))) ?_
      refine lf (a_aload_n dL_law_592 rfl) ?_
      refine lf (a_iload dL_law_593 rfl) ?_
      refine lf (a_iconst (2 : Int32) dL_law_595 (by decide)) ?_
      refine lf (a_iadd dL_law_596) ?_
      refine lf (a_sld dL_law_597 hX1 (ix_s (k := 2) rfl (show i + 2 < X.1 by omega) (by omega))) ?_
      refine lf (a_inv (b2 := (60 * bb, 300 * bb)) km rfl dL_law_598 yk_X11_passenger im_X11_passenger se_X11_passenger ml_L_141 rfl (co_338 (by repeat (first | with_reducible exact hw | with_reducible exact hwc | with_reducible assumption | with_reducible apply Wf.sI | with_reducible apply Wf.sL | with_reducible apply Wf.cpI | with_reducible apply Wf.cpL | with_reducible apply Wf.cp2 | with_reducible apply Wf.sIs | with_reducible apply Wf.sLs | with_reducible apply Wf.cpU | with_reducible apply Wf.fillI | with_reducible apply Wf.clU | with_reducible apply Wf.dnF | with_reducible apply Wf.gbW))) (by decide) hc_X11 (by decide) ⟨by show 0 + 60 * bb ≤ 60 * bb; omega, by show 0 + 300 * bb ≤ 300 * bb; omega⟩ (Nat.le_of_ble_eq_true rfl)) ?_
      refine lf (a_istore dL_law_601 (by decide)) ?_
      refine lf (a_aload_n dL_law_603 rfl) ?_
      refine lf (a_inv (b2 := (60 * bb, 300 * bb)) (m_thrown (by repeat (first | with_reducible exact hw | with_reducible exact hwc | with_reducible assumption | with_reducible apply Wf.sI | with_reducible apply Wf.sL | with_reducible apply Wf.cpI | with_reducible apply Wf.cpL | with_reducible apply Wf.cp2 | with_reducible apply Wf.sIs | with_reducible apply Wf.sLs | with_reducible apply Wf.cpU | with_reducible apply Wf.fillI | with_reducible apply Wf.clU | with_reducible apply Wf.dnF | with_reducible apply Wf.gbW))) rfl dL_law_604 yk_X11_thrown im_X11_thrown se_X11_thrown ml_L_114 rfl (co_338 (by repeat (first | with_reducible exact hw | with_reducible exact hwc | with_reducible assumption | with_reducible apply Wf.sI | with_reducible apply Wf.sL | with_reducible apply Wf.cpI | with_reducible apply Wf.cpL | with_reducible apply Wf.cp2 | with_reducible apply Wf.sIs | with_reducible apply Wf.sLs | with_reducible apply Wf.cpU | with_reducible apply Wf.fillI | with_reducible apply Wf.clU | with_reducible apply Wf.dnF | with_reducible apply Wf.gbW))) (by decide) hc_X11 (by decide) ⟨by show 0 + 60 * bb ≤ 60 * bb; omega, by show 0 + 300 * bb ≤ 300 * bb; omega⟩ (Nat.le_of_ble_eq_true rfl)) ?_
      refine lf (a_iload dL_law_607 rfl) ?_
      refine lf2 (a_icmp_eq (tgt := 614) dL_law_609 (by decide)) (fun h609 => ?_) (fun h609 => absurd h609 (fun z => z k0))
      refine lf (a_iload dL_law_614 rfl) ?_
      refine lfn (a_if_ne (tgt := 631) dL_law_616 (by decide)) (fun h616 => ?_) (fun h616 => absurd h616 (by decide))
      refine lf (a_goto (tgt := 1976) dL_law_631 (by decide)) ?_
      exact lf (a_loc (LAw i) rfl) (kx V hr hX2)
    · obtain ⟨z, V, tz, km, k0, hr, hv, hx⟩ := hk W (Out.rfl' hW)
      obtain ⟨z, rfl⟩ := tz
      have hX1 : gX W = X := hg.trans hX
      have hX2 : gX V = X := hx.trans hX1
      have hV := hr.wf
      refine lf (a_aload_n dL_law_566 rfl) ?_
      refine lf (a_aload_n dL_law_567 rfl) ?_
      refine lf (a_iload dL_law_568 rfl) ?_
      refine lf (a_iconst (1 : Int32) dL_law_570 (by decide)) ?_
      refine lf (a_iadd dL_law_571) ?_
      refine lf (a_sld dL_law_572 hX (ix_s (k := 1) rfl (show i + 1 < X.1 by omega) (by omega))) ?_
      refine lf (a_aload_n dL_law_573 rfl) ?_
      refine lf (a_iload dL_law_574 rfl) ?_
      refine lf (a_iconst (2 : Int32) dL_law_576 (by decide)) ?_
      refine lf (a_iadd dL_law_577) ?_
      refine lf (a_sld dL_law_578 hX (ix_s (k := 2) rfl (show i + 2 < X.1 by omega) (by omega))) ?_
      refine lf (a_aload_n dL_law_579 rfl) ?_
      refine lf (a_invSH (b2 := (60 * bb, 300 * bb)) (wx_passenger_2 (by repeat (first | with_reducible exact hw | with_reducible exact hwc | with_reducible assumption | with_reducible apply Wf.sI | with_reducible apply Wf.sL | with_reducible apply Wf.cpI | with_reducible apply Wf.cpL | with_reducible apply Wf.cp2 | with_reducible apply Wf.sIs | with_reducible apply Wf.sLs | with_reducible apply Wf.cpU | with_reducible apply Wf.fillI | with_reducible apply Wf.clU | with_reducible apply Wf.dnF | with_reducible apply Wf.gbW)) (X.2 (i + 1)) (X.2 (i + 2)) hc) rfl dL_law_580 yh_L_passenger sm_L_passenger ml_L_139 rfl (by decide) ⟨by show 1 + 60 * bb ≤ 60 * (bb + 1); omega, by show 6 + 300 * bb ≤ 300 * (bb + 1); omega⟩ (Nat.le_of_ble_eq_true rfl)) ?_
      refine lf (a_istore dL_law_583 (by decide)) ?_
      refine lf (a_aload_n dL_law_585 rfl) ?_
      refine lf (a_aload_n dL_law_586 rfl) ?_
      refine lf (a_iload dL_law_587 rfl) ?_
      refine lf (a_iconst (1 : Int32) dL_law_589 (by decide)) ?_
      refine lf (a_iadd dL_law_590) ?_
      refine lf (a_sld dL_law_591 hX1 (ix_s (k := 1) rfl (show i + 1 < X.1 by omega) (by omega))) ?_
      refine lf (a_aload_n dL_law_592 rfl) ?_
      refine lf (a_iload dL_law_593 rfl) ?_
      refine lf (a_iconst (2 : Int32) dL_law_595 (by decide)) ?_
      refine lf (a_iadd dL_law_596) ?_
      refine lf (a_sld dL_law_597 hX1 (ix_s (k := 2) rfl (show i + 2 < X.1 by omega) (by omega))) ?_
      refine lf (a_inv (b2 := (60 * bb, 300 * bb)) km rfl dL_law_598 yk_X11_passenger im_X11_passenger se_X11_passenger ml_L_141 rfl (co_338 (by repeat (first | with_reducible exact hw | with_reducible exact hwc | with_reducible assumption | with_reducible apply Wf.sI | with_reducible apply Wf.sL | with_reducible apply Wf.cpI | with_reducible apply Wf.cpL | with_reducible apply Wf.cp2 | with_reducible apply Wf.sIs | with_reducible apply Wf.sLs | with_reducible apply Wf.cpU | with_reducible apply Wf.fillI | with_reducible apply Wf.clU | with_reducible apply Wf.dnF | with_reducible apply Wf.gbW))) (by decide) hc_X11 (by decide) ⟨by show 0 + 60 * bb ≤ 60 * bb; omega, by show 0 + 300 * bb ≤ 300 * bb; omega⟩ (Nat.le_of_ble_eq_true rfl)) ?_
      refine lf (a_istore dL_law_601 (by decide)) ?_
      refine lf (a_aload_n dL_law_603 rfl) ?_
      refine lf (a_inv (b2 := (60 * bb, 300 * bb)) (m_thrown (by repeat (first | with_reducible exact hw | with_reducible exact hwc | with_reducible assumption | with_reducible apply Wf.sI | with_reducible apply Wf.sL | with_reducible apply Wf.cpI | with_reducible apply Wf.cpL | with_reducible apply Wf.cp2 | with_reducible apply Wf.sIs | with_reducible apply Wf.sLs | with_reducible apply Wf.cpU | with_reducible apply Wf.fillI | with_reducible apply Wf.clU | with_reducible apply Wf.dnF | with_reducible apply Wf.gbW))) rfl dL_law_604 yk_X11_thrown im_X11_thrown se_X11_thrown ml_L_114 rfl (co_338 (by repeat (first | with_reducible exact hw | with_reducible exact hwc | with_reducible assumption | with_reducible apply Wf.sI | with_reducible apply Wf.sL | with_reducible apply Wf.cpI | with_reducible apply Wf.cpL | with_reducible apply Wf.cp2 | with_reducible apply Wf.sIs | with_reducible apply Wf.sLs | with_reducible apply Wf.cpU | with_reducible apply Wf.fillI | with_reducible apply Wf.clU | with_reducible apply Wf.dnF | with_reducible apply Wf.gbW))) (by decide) hc_X11 (by decide) ⟨by show 0 + 60 * bb ≤ 60 * bb; omega, by show 0 + 300 * bb ≤ 300 * bb; omega⟩ (Nat.le_of_ble_eq_true rfl)) ?_
      refine lf (a_iload dL_law_607 rfl) ?_
      refine lf2 (a_icmp_eq (tgt := 614) dL_law_609 (by decide)) (fun h609 => ?_) (fun h609 => absurd h609 (fun z => z k0))
      refine lf (a_iload dL_law_614 rfl) ?_
      refine lfn (a_if_ne (tgt := 631) dL_law_616 (by decide)) (fun h616 => ?_) (fun h616 => absurd h616 (by decide))
      refine lf (a_goto (tgt := 1976) dL_law_631 (by decide)) ?_
      exact lf (a_loc (LAw i) rfl) (kx V hr hX2)
theorem s_trolley {μ : Wd} {N i bb : Nat} {X : Nat × (Nat → Int32)} (h : RelV N μ) (hX : gX μ = X) (hi : i + 6 ≤ X.1) (hL : X.1 ≤ 3072) (kx : ∀ V, RelV (N + 1) V → gX V = X → WP Y_L_law RLaw (60 * bb, 300 * bb) V 1976 (LAw i) [] QLw) : WP Y_L_law RLaw (60 * (bb + 1), 300 * (bb + 1)) μ 634 (LAw i) [] QLw := by
  have hw := h.wf
  rcases o_trolley h (X.2 (i + 1)) (X.2 (i + 2)) with ⟨v, W, tv, hW, hc, hg, hk⟩ | ⟨x, k, W, hxk, hW, hc, hg, hk⟩
  · obtain ⟨v, rfl⟩ := tv
    obtain ⟨V, km, k0, hr, hv, hx⟩ := hk (sL W 363 0 (v.toInt64)) ((Out.rfl' hW).sL (S := s363) (i := 363) rfl _ _)
    have hX1 : gX (sL W 363 0 (v.toInt64)) = X := hg.trans hX
    have hX2 : gX V = X := hx.trans hX1
    have hV := hr.wf
    have hv1 : gL V 363 0 = v.toInt64 := hv.trans ((gL_sL _ _ _ _ _ _).trans (if_pos ⟨rfl, rfl⟩))
    refine lf (a_aload_n dL_law_634 rfl) ?_
    refine lf (a_aload_n dL_law_635 rfl) ?_
    refine lf (a_iload dL_law_636 rfl) ?_
    refine lf (a_iconst (1 : Int32) dL_law_638 (by decide)) ?_
    refine lf (a_iadd dL_law_639) ?_
    refine lf (a_sld dL_law_640 hX (ix_s (k := 1) rfl (show i + 1 < X.1 by omega) (by omega))) ?_
    refine lf (a_aload_n dL_law_641 rfl) ?_
    refine lf (a_iload dL_law_642 rfl) ?_
    refine lf (a_iconst (2 : Int32) dL_law_644 (by decide)) ?_
    refine lf (a_iadd dL_law_645) ?_
    refine lf (a_sld dL_law_646 hX (ix_s (k := 2) rfl (show i + 2 < X.1 by omega) (by omega))) ?_
    refine lf (a_aload_n dL_law_647 rfl) ?_
    refine lf (a_invSH (b2 := (60 * bb, 300 * bb)) (wv_trolley (by repeat (first | with_reducible exact hw | with_reducible exact hwc | with_reducible assumption | with_reducible apply Wf.sI | with_reducible apply Wf.sL | with_reducible apply Wf.cpI | with_reducible apply Wf.cpL | with_reducible apply Wf.cp2 | with_reducible apply Wf.sIs | with_reducible apply Wf.sLs | with_reducible apply Wf.cpU | with_reducible apply Wf.fillI | with_reducible apply Wf.clU | with_reducible apply Wf.dnF | with_reducible apply Wf.gbW)) (X.2 (i + 1)) (X.2 (i + 2)) hW hc) rfl dL_law_648 yh_L_trolley sm_L_trolley ml_L_142 rfl (by decide) ⟨by show 1 + 60 * bb ≤ 60 * (bb + 1); omega, by show 6 + 300 * bb ≤ 300 * (bb + 1); omega⟩ (Nat.le_of_ble_eq_true rfl)) ?_
    refine lf (a_istore dL_law_651 (by decide)) ?_
    refine lf (a_aload_n dL_law_653 rfl) ?_
    refine lf (a_aload_n dL_law_654 rfl) ?_
    refine lf (a_iload dL_law_655 rfl) ?_
    refine lf (a_iconst (1 : Int32) dL_law_657 (by decide)) ?_
    refine lf (a_iadd dL_law_658) ?_
    refine lf (a_sld dL_law_659 hX1 (ix_s (k := 1) rfl (show i + 1 < X.1 by omega) (by omega))) ?_
    refine lf (a_aload_n dL_law_660 rfl) ?_
    refine lf (a_iload dL_law_661 rfl) ?_
    refine lf (a_iconst (2 : Int32) dL_law_663 (by decide)) ?_
    refine lf (a_iadd dL_law_664) ?_
    refine lf (a_sld dL_law_665 hX1 (ix_s (k := 2) rfl (show i + 2 < X.1 by omega) (by omega))) ?_
    refine lf (a_inv (b2 := (60 * bb, 300 * bb)) km rfl dL_law_666 yk_X11_trolley im_X11_trolley se_X11_trolley ml_L_144 rfl (co_338 (by repeat (first | with_reducible exact hw | with_reducible exact hwc | with_reducible assumption | with_reducible apply Wf.sI | with_reducible apply Wf.sL | with_reducible apply Wf.cpI | with_reducible apply Wf.cpL | with_reducible apply Wf.cp2 | with_reducible apply Wf.sIs | with_reducible apply Wf.sLs | with_reducible apply Wf.cpU | with_reducible apply Wf.fillI | with_reducible apply Wf.clU | with_reducible apply Wf.dnF | with_reducible apply Wf.gbW))) (by decide) hc_X11 (by decide) ⟨by show 0 + 60 * bb ≤ 60 * bb; omega, by show 0 + 300 * bb ≤ 300 * bb; omega⟩ (Nat.le_of_ble_eq_true rfl)) ?_
    refine lf (a_istore dL_law_669 (by decide)) ?_
    refine lf (a_aload_n dL_law_671 rfl) ?_
    refine lf (a_inv (b2 := (60 * bb, 300 * bb)) (m_thrown (by repeat (first | with_reducible exact hw | with_reducible exact hwc | with_reducible assumption | with_reducible apply Wf.sI | with_reducible apply Wf.sL | with_reducible apply Wf.cpI | with_reducible apply Wf.cpL | with_reducible apply Wf.cp2 | with_reducible apply Wf.sIs | with_reducible apply Wf.sLs | with_reducible apply Wf.cpU | with_reducible apply Wf.fillI | with_reducible apply Wf.clU | with_reducible apply Wf.dnF | with_reducible apply Wf.gbW))) rfl dL_law_672 yk_X11_thrown im_X11_thrown se_X11_thrown ml_L_114 rfl (co_338 (by repeat (first | with_reducible exact hw | with_reducible exact hwc | with_reducible assumption | with_reducible apply Wf.sI | with_reducible apply Wf.sL | with_reducible apply Wf.cpI | with_reducible apply Wf.cpL | with_reducible apply Wf.cp2 | with_reducible apply Wf.sIs | with_reducible apply Wf.sLs | with_reducible apply Wf.cpU | with_reducible apply Wf.fillI | with_reducible apply Wf.clU | with_reducible apply Wf.dnF | with_reducible apply Wf.gbW))) (by decide) hc_X11 (by decide) ⟨by show 0 + 60 * bb ≤ 60 * bb; omega, by show 0 + 300 * bb ≤ 300 * bb; omega⟩ (Nat.le_of_ble_eq_true rfl)) ?_
    refine lf (a_iload dL_law_675 rfl) ?_
    refine lf2 (a_icmp_eq (tgt := 682) dL_law_677 (by decide)) (fun h677 => ?_) (fun h677 => absurd h677 (fun z => z k0))
    refine lf (a_iload dL_law_682 rfl) ?_
    refine lfn (a_if_ne (tgt := 699) dL_law_684 (by decide)) (fun h684 => absurd h684 (by decide)) (fun h684 => ?_)
    refine lf (a_aload_n dL_law_687 rfl) ?_
    refine lf (a_iconst (0 : Int32) dL_law_688 (by decide)) ?_
    refine lf (a_lld dL_law_689 (ca_363 (by repeat (first | with_reducible exact hw | with_reducible exact hwc | with_reducible assumption | with_reducible apply Wf.sI | with_reducible apply Wf.sL | with_reducible apply Wf.cpI | with_reducible apply Wf.cpL | with_reducible apply Wf.cp2 | with_reducible apply Wf.sIs | with_reducible apply Wf.sLs | with_reducible apply Wf.cpU | with_reducible apply Wf.fillI | with_reducible apply Wf.clU | with_reducible apply Wf.dnF | with_reducible apply Wf.gbW))) (ixn (m := 0) (by decide) (by decide))) ?_
    rw [hv1]
    refine lf (a_iload dL_law_690 rfl) ?_
    refine lf (a_i2l dL_law_692) ?_
    refine lf (a_lcmp dL_law_693) ?_
    refine lf2 (a_if_eq (tgt := 699) dL_law_694 (by decide)) (fun h694 => ?_) (fun h694 => absurd h694 (fun z => z (lcmp_self _)))
    refine lf (a_goto (tgt := 1976) dL_law_699 (by decide)) ?_
    exact lf (a_loc (LAw i) rfl) (kx V hr hX2)
  · simp only [List.mem_cons, List.not_mem_nil, or_false, Prod.mk.injEq] at hxk
    rcases hxk with ⟨rfl, rfl⟩ | ⟨rfl, rfl⟩
    · obtain ⟨z, V, tz, km, k0, hr, hv, hx⟩ := hk W (Out.rfl' hW)
      obtain ⟨z, rfl⟩ := tz
      have hX1 : gX W = X := hg.trans hX
      have hX2 : gX V = X := hx.trans hX1
      have hV := hr.wf
      refine lf (a_aload_n dL_law_634 rfl) ?_
      refine lf (a_aload_n dL_law_635 rfl) ?_
      refine lf (a_iload dL_law_636 rfl) ?_
      refine lf (a_iconst (1 : Int32) dL_law_638 (by decide)) ?_
      refine lf (a_iadd dL_law_639) ?_
      refine lf (a_sld dL_law_640 hX (ix_s (k := 1) rfl (show i + 1 < X.1 by omega) (by omega))) ?_
      refine lf (a_aload_n dL_law_641 rfl) ?_
      refine lf (a_iload dL_law_642 rfl) ?_
      refine lf (a_iconst (2 : Int32) dL_law_644 (by decide)) ?_
      refine lf (a_iadd dL_law_645) ?_
      refine lf (a_sld dL_law_646 hX (ix_s (k := 2) rfl (show i + 2 < X.1 by omega) (by omega))) ?_
      refine lf (a_aload_n dL_law_647 rfl) ?_
      refine lf (a_invSH (b2 := (60 * bb, 300 * bb)) (wx_trolley_1 (by repeat (first | with_reducible exact hw | with_reducible exact hwc | with_reducible assumption | with_reducible apply Wf.sI | with_reducible apply Wf.sL | with_reducible apply Wf.cpI | with_reducible apply Wf.cpL | with_reducible apply Wf.cp2 | with_reducible apply Wf.sIs | with_reducible apply Wf.sLs | with_reducible apply Wf.cpU | with_reducible apply Wf.fillI | with_reducible apply Wf.clU | with_reducible apply Wf.dnF | with_reducible apply Wf.gbW)) (X.2 (i + 1)) (X.2 (i + 2)) hc) rfl dL_law_648 yh_L_trolley sm_L_trolley ml_L_142 rfl (by decide) ⟨by show 1 + 60 * bb ≤ 60 * (bb + 1); omega, by show 6 + 300 * bb ≤ 300 * (bb + 1); omega⟩ (Nat.le_of_ble_eq_true rfl)) ?_
      refine lf (a_istore dL_law_651 (by decide)) ?_
      refine lf (a_aload_n dL_law_653 rfl) ?_
      refine lf (a_aload_n dL_law_654 rfl) ?_
      refine lf (a_iload dL_law_655 rfl) ?_
      refine lf (a_iconst (1 : Int32) dL_law_657 (by decide)) ?_
      refine lf (a_iadd dL_law_658) ?_
      refine lf (a_sld dL_law_659 hX1 (ix_s (k := 1) rfl (show i + 1 < X.1 by omega) (by omega))) ?_
      refine lf (a_aload_n dL_law_660 rfl) ?_
      refine lf (a_iload dL_law_661 rfl) ?_
      refine lf (a_iconst (2 : Int32) dL_law_663 (by decide)) ?_
      refine lf (a_iadd dL_law_664) ?_
      refine lf (a_sld dL_law_665 hX1 (ix_s (k := 2) rfl (show i + 2 < X.1 by omega) (by omega))) ?_
      refine lf (a_inv (b2 := (60 * bb, 300 * bb)) km rfl dL_law_666 yk_X11_trolley im_X11_trolley se_X11_trolley ml_L_144 rfl (co_338 (by repeat (first | with_reducible exact hw | with_reducible exact hwc | with_reducible assumption | with_reducible apply Wf.sI | with_reducible apply Wf.sL | with_reducible apply Wf.cpI | with_reducible apply Wf.cpL | with_reducible apply Wf.cp2 | with_reducible apply Wf.sIs | with_reducible apply Wf.sLs | with_reducible apply Wf.cpU | with_reducible apply Wf.fillI | with_reducible apply Wf.clU | with_reducible apply Wf.dnF | with_reducible apply Wf.gbW))) (by decide) hc_X11 (by decide) ⟨by show 0 + 60 * bb ≤ 60 * bb; omega, by show 0 + 300 * bb ≤ 300 * bb; omega⟩ (Nat.le_of_ble_eq_true rfl)) ?_
      refine lf (a_istore dL_law_669 (by decide)) ?_
      refine lf (a_aload_n dL_law_671 rfl) ?_
      refine lf (a_inv (b2 := (60 * bb, 300 * bb)) (m_thrown (by repeat (first | with_reducible exact hw | with_reducible exact hwc | with_reducible assumption | with_reducible apply Wf.sI | with_reducible apply Wf.sL | with_reducible apply Wf.cpI | with_reducible apply Wf.cpL | with_reducible apply Wf.cp2 | with_reducible apply Wf.sIs | with_reducible apply Wf.sLs | with_reducible apply Wf.cpU | with_reducible apply Wf.fillI | with_reducible apply Wf.clU | with_reducible apply Wf.dnF | with_reducible apply Wf.gbW))) rfl dL_law_672 yk_X11_thrown im_X11_thrown se_X11_thrown ml_L_114 rfl (co_338 (by repeat (first | with_reducible exact hw | with_reducible exact hwc | with_reducible assumption | with_reducible apply Wf.sI | with_reducible apply Wf.sL | with_reducible apply Wf.cpI | with_reducible apply Wf.cpL | with_reducible apply Wf.cp2 | with_reducible apply Wf.sIs | with_reducible apply Wf.sLs | with_reducible apply Wf.cpU | with_reducible apply Wf.fillI | with_reducible apply Wf.clU | with_reducible apply Wf.dnF | with_reducible apply Wf.gbW))) (by decide) hc_X11 (by decide) ⟨by show 0 + 60 * bb ≤ 60 * bb; omega, by show 0 + 300 * bb ≤ 300 * bb; omega⟩ (Nat.le_of_ble_eq_true rfl)) ?_
      refine lf (a_iload dL_law_675 rfl) ?_
      refine lf2 (a_icmp_eq (tgt := 682) dL_law_677 (by decide)) (fun h677 => ?_) (fun h677 => absurd h677 (fun z => z k0))
      refine lf (a_iload dL_law_682 rfl) ?_
      refine lfn (a_if_ne (tgt := 699) dL_law_684 (by decide)) (fun h684 => ?_) (fun h684 => absurd h684 (by decide))
      refine lf (a_goto (tgt := 1976) dL_law_699 (by decide)) ?_
      exact lf (a_loc (LAw i) rfl) (kx V hr hX2)
    · obtain ⟨z, V, tz, km, k0, hr, hv, hx⟩ := hk W (Out.rfl' hW)
      obtain ⟨z, rfl⟩ := tz
      have hX1 : gX W = X := hg.trans hX
      have hX2 : gX V = X := hx.trans hX1
      have hV := hr.wf
      refine lf (a_aload_n dL_law_634 rfl) ?_
      refine lf (a_aload_n dL_law_635 rfl) ?_
      refine lf (a_iload dL_law_636 rfl) ?_
      refine lf (a_iconst (1 : Int32) dL_law_638 (by decide)) ?_
      refine lf (a_iadd dL_law_639) ?_
      refine lf (a_sld dL_law_640 hX (ix_s (k := 1) rfl (show i + 1 < X.1 by omega) (by omega))) ?_
      refine lf (a_aload_n dL_law_641 rfl) ?_
      refine lf (a_iload dL_law_642 rfl) ?_
      refine lf (a_iconst (2 : Int32) dL_law_644 (by decide)) ?_
      refine lf (a_iadd dL_law_645) ?_
      refine lf (a_sld dL_law_646 hX (ix_s (k := 2) rfl (show i + 2 < X.1 by omega) (by omega))) ?_
      refine lf (a_aload_n dL_law_647 rfl) ?_
      refine lf (a_invSH (b2 := (60 * bb, 300 * bb)) (wx_trolley_2 (by repeat (first | with_reducible exact hw | with_reducible exact hwc | with_reducible assumption | with_reducible apply Wf.sI | with_reducible apply Wf.sL | with_reducible apply Wf.cpI | with_reducible apply Wf.cpL | with_reducible apply Wf.cp2 | with_reducible apply Wf.sIs | with_reducible apply Wf.sLs | with_reducible apply Wf.cpU | with_reducible apply Wf.fillI | with_reducible apply Wf.clU | with_reducible apply Wf.dnF | with_reducible apply Wf.gbW)) (X.2 (i + 1)) (X.2 (i + 2)) hc) rfl dL_law_648 yh_L_trolley sm_L_trolley ml_L_142 rfl (by decide) ⟨by show 1 + 60 * bb ≤ 60 * (bb + 1); omega, by show 6 + 300 * bb ≤ 300 * (bb + 1); omega⟩ (Nat.le_of_ble_eq_true rfl)) ?_
      refine lf (a_istore dL_law_651 (by decide)) ?_
      refine lf (a_aload_n dL_law_653 rfl) ?_
      refine lf (a_aload_n dL_law_654 rfl) ?_
      refine lf (a_iload dL_law_655 rfl) ?_
      refine lf (a_iconst (1 : Int32) dL_law_657 (by decide)) ?_
      refine lf (a_iadd dL_law_658) ?_
      refine lf (a_sld dL_law_659 hX1 (ix_s (k := 1) rfl (show i + 1 < X.1 by omega) (by omega))) ?_
      refine lf (a_aload_n dL_law_660 rfl) ?_
      refine lf (a_iload dL_law_661 rfl) ?_
      refine lf (a_iconst (2 : Int32) dL_law_663 (by decide)) ?_
      refine lf (a_iadd dL_law_664) ?_
      refine lf (a_sld dL_law_665 hX1 (ix_s (k := 2) rfl (show i + 2 < X.1 by omega) (by omega))) ?_
      refine lf (a_inv (b2 := (60 * bb, 300 * bb)) km rfl dL_law_666 yk_X11_trolley im_X11_trolley se_X11_trolley ml_L_144 rfl (co_338 (by repeat (first | with_reducible exact hw | with_reducible exact hwc | with_reducible assumption | with_reducible apply Wf.sI | with_reducible apply Wf.sL | with_reducible apply Wf.cpI | with_reducible apply Wf.cpL | with_reducible apply Wf.cp2 | with_reducible apply Wf.sIs | with_reducible apply Wf.sLs | with_reducible apply Wf.cpU | with_reducible apply Wf.fillI | with_reducible apply Wf.clU | with_reducible apply Wf.dnF | with_reducible apply Wf.gbW))) (by decide) hc_X11 (by decide) ⟨by show 0 + 60 * bb ≤ 60 * bb; omega, by show 0 + 300 * bb ≤ 300 * bb; omega⟩ (Nat.le_of_ble_eq_true rfl)) ?_
      refine lf (a_istore dL_law_669 (by decide)) ?_
      refine lf (a_aload_n dL_law_671 rfl) ?_
      refine lf (a_inv (b2 := (60 * bb, 300 * bb)) (m_thrown (by repeat (first | with_reducible exact hw | with_reducible exact hwc | with_reducible assumption | with_reducible apply Wf.sI | with_reducible apply Wf.sL | with_reducible apply Wf.cpI | with_reducible apply Wf.cpL | with_reducible apply Wf.cp2 | with_reducible apply Wf.sIs | with_reducible apply Wf.sLs | with_reducible apply Wf.cpU | with_reducible apply Wf.fillI | with_reducible apply Wf.clU | with_reducible apply Wf.dnF | with_reducible apply Wf.gbW))) rfl dL_law_672 yk_X11_thrown im_X11_thrown se_X11_thrown ml_L_114 rfl (co_338 (by repeat (first | with_reducible exact hw | with_reducible exact hwc | with_reducible assumption | with_reducible apply Wf.sI | with_reducible apply Wf.sL | with_reducible apply Wf.cpI | with_reducible apply Wf.cpL | with_reducible apply Wf.cp2 | with_reducible apply Wf.sIs | with_reducible apply Wf.sLs | with_reducible apply Wf.cpU | with_reducible apply Wf.fillI | with_reducible apply Wf.clU | with_reducible apply Wf.dnF | with_reducible apply Wf.gbW))) (by decide) hc_X11 (by decide) ⟨by show 0 + 60 * bb ≤ 60 * bb; omega, by show 0 + 300 * bb ≤ 300 * bb; omega⟩ (Nat.le_of_ble_eq_true rfl)) ?_
      refine lf (a_iload dL_law_675 rfl) ?_
      refine lf2 (a_icmp_eq (tgt := 682) dL_law_677 (by decide)) (fun h677 => ?_) (fun h677 => absurd h677 (fun z => z k0))
      refine lf (a_iload dL_law_682 rfl) ?_
      refine lfn (a_if_ne (tgt := 699) dL_law_684 (by decide)) (fun h684 => ?_) (fun h684 => absurd h684 (by decide))
      refine lf (a_goto (tgt := 1976) dL_law_699 (by decide)) ?_
      exact lf (a_loc (LAw i) rfl) (kx V hr hX2)
theorem s_held {μ : Wd} {N i bb : Nat} {X : Nat × (Nat → Int32)} (h : RelV N μ) (hX : gX μ = X) (hi : i + 6 ≤ X.1) (hL : X.1 ≤ 3072) (kx : ∀ V, RelV (N + 1) V → gX V = X → WP Y_L_law RLaw (60 * bb, 300 * bb) V 1976 (LAw i) [] QLw) : WP Y_L_law RLaw (60 * (bb + 1), 300 * (bb + 1)) μ 702 (LAw i) [] QLw := by
  have hw := h.wf
  rcases o_held h (X.2 (i + 1)) (X.2 (i + 2)) with ⟨v, W, tv, hW, hc, hg, hk⟩ | ⟨x, k, W, hxk, hW, hc, hg, hk⟩
  · obtain ⟨v, rfl⟩ := tv
    obtain ⟨V, km, k0, hr, hv, hx⟩ := hk (sL W 363 0 (v.toInt64)) ((Out.rfl' hW).sL (S := s363) (i := 363) rfl _ _)
    have hX1 : gX (sL W 363 0 (v.toInt64)) = X := hg.trans hX
    have hX2 : gX V = X := hx.trans hX1
    have hV := hr.wf
    have hv1 : gL V 363 0 = v.toInt64 := hv.trans ((gL_sL _ _ _ _ _ _).trans (if_pos ⟨rfl, rfl⟩))
    refine lf (a_aload_n dL_law_702 rfl) ?_
    refine lf (a_aload_n dL_law_703 rfl) ?_
    refine lf (a_iload dL_law_704 rfl) ?_
    refine lf (a_iconst (1 : Int32) dL_law_706 (by decide)) ?_
    refine lf (a_iadd dL_law_707) ?_
    refine lf (a_sld dL_law_708 hX (ix_s (k := 1) rfl (show i + 1 < X.1 by omega) (by omega))) ?_
    refine lf (a_aload_n dL_law_709 rfl) ?_
    refine lf (a_iload dL_law_710 rfl) ?_
    refine lf (a_iconst (2 : Int32) dL_law_712 (by decide)) ?_
    refine lf (a_iadd dL_law_713) ?_
    refine lf (a_sld dL_law_714 hX (ix_s (k := 2) rfl (show i + 2 < X.1 by omega) (by omega))) ?_
    refine lf (a_aload_n dL_law_715 rfl) ?_
    refine lf (a_invSH (b2 := (60 * bb, 300 * bb)) (wv_held (by repeat (first | with_reducible exact hw | with_reducible exact hwc | with_reducible assumption | with_reducible apply Wf.sI | with_reducible apply Wf.sL | with_reducible apply Wf.cpI | with_reducible apply Wf.cpL | with_reducible apply Wf.cp2 | with_reducible apply Wf.sIs | with_reducible apply Wf.sLs | with_reducible apply Wf.cpU | with_reducible apply Wf.fillI | with_reducible apply Wf.clU | with_reducible apply Wf.dnF | with_reducible apply Wf.gbW)) (X.2 (i + 1)) (X.2 (i + 2)) hW hc) rfl dL_law_716 yh_L_held sm_L_held ml_L_145 rfl (by decide) ⟨by show 1 + 60 * bb ≤ 60 * (bb + 1); omega, by show 6 + 300 * bb ≤ 300 * (bb + 1); omega⟩ (Nat.le_of_ble_eq_true rfl)) ?_
    refine lf (a_istore dL_law_719 (by decide)) ?_
    refine lf (a_aload_n dL_law_721 rfl) ?_
    refine lf (a_aload_n dL_law_722 rfl) ?_
    refine lf (a_iload dL_law_723 rfl) ?_
    refine lf (a_iconst (1 : Int32) dL_law_725 (by decide)) ?_
    refine lf (a_iadd dL_law_726) ?_
    refine lf (a_sld dL_law_727 hX1 (ix_s (k := 1) rfl (show i + 1 < X.1 by omega) (by omega))) ?_
    refine lf (a_aload_n dL_law_728 rfl) ?_
    refine lf (a_iload dL_law_729 rfl) ?_
    refine lf (a_iconst (2 : Int32) dL_law_731 (by decide)) ?_
    refine lf (a_iadd dL_law_732) ?_
    refine lf (a_sld dL_law_733 hX1 (ix_s (k := 2) rfl (show i + 2 < X.1 by omega) (by omega))) ?_
    refine lf (a_inv (b2 := (60 * bb, 300 * bb)) km rfl dL_law_734 yk_X11_held im_X11_held se_X11_held ml_L_147 rfl (co_338 (by repeat (first | with_reducible exact hw | with_reducible exact hwc | with_reducible assumption | with_reducible apply Wf.sI | with_reducible apply Wf.sL | with_reducible apply Wf.cpI | with_reducible apply Wf.cpL | with_reducible apply Wf.cp2 | with_reducible apply Wf.sIs | with_reducible apply Wf.sLs | with_reducible apply Wf.cpU | with_reducible apply Wf.fillI | with_reducible apply Wf.clU | with_reducible apply Wf.dnF | with_reducible apply Wf.gbW))) (by decide) hc_X11 (by decide) ⟨by show 0 + 60 * bb ≤ 60 * bb; omega, by show 0 + 300 * bb ≤ 300 * bb; omega⟩ (Nat.le_of_ble_eq_true rfl)) ?_
    refine lf (a_istore dL_law_737 (by decide)) ?_
    refine lf (a_aload_n dL_law_739 rfl) ?_
    refine lf (a_inv (b2 := (60 * bb, 300 * bb)) (m_thrown (by repeat (first | with_reducible exact hw | with_reducible exact hwc | with_reducible assumption | with_reducible apply Wf.sI | with_reducible apply Wf.sL | with_reducible apply Wf.cpI | with_reducible apply Wf.cpL | with_reducible apply Wf.cp2 | with_reducible apply Wf.sIs | with_reducible apply Wf.sLs | with_reducible apply Wf.cpU | with_reducible apply Wf.fillI | with_reducible apply Wf.clU | with_reducible apply Wf.dnF | with_reducible apply Wf.gbW))) rfl dL_law_740 yk_X11_thrown im_X11_thrown se_X11_thrown ml_L_114 rfl (co_338 (by repeat (first | with_reducible exact hw | with_reducible exact hwc | with_reducible assumption | with_reducible apply Wf.sI | with_reducible apply Wf.sL | with_reducible apply Wf.cpI | with_reducible apply Wf.cpL | with_reducible apply Wf.cp2 | with_reducible apply Wf.sIs | with_reducible apply Wf.sLs | with_reducible apply Wf.cpU | with_reducible apply Wf.fillI | with_reducible apply Wf.clU | with_reducible apply Wf.dnF | with_reducible apply Wf.gbW))) (by decide) hc_X11 (by decide) ⟨by show 0 + 60 * bb ≤ 60 * bb; omega, by show 0 + 300 * bb ≤ 300 * bb; omega⟩ (Nat.le_of_ble_eq_true rfl)) ?_
    refine lf (a_iload dL_law_743 rfl) ?_
    refine lf2 (a_icmp_eq (tgt := 750) dL_law_745 (by decide)) (fun h745 => ?_) (fun h745 => absurd h745 (fun z => z k0))
    refine lf (a_iload dL_law_750 rfl) ?_
    refine lfn (a_if_ne (tgt := 767) dL_law_752 (by decide)) (fun h752 => absurd h752 (by decide)) (fun h752 => ?_)
    refine lf (a_aload_n dL_law_755 rfl) ?_
    refine lf (a_iconst (0 : Int32) dL_law_756 (by decide)) ?_
    refine lf (a_lld dL_law_757 (ca_363 (by repeat (first | with_reducible exact hw | with_reducible exact hwc | with_reducible assumption | with_reducible apply Wf.sI | with_reducible apply Wf.sL | with_reducible apply Wf.cpI | with_reducible apply Wf.cpL | with_reducible apply Wf.cp2 | with_reducible apply Wf.sIs | with_reducible apply Wf.sLs | with_reducible apply Wf.cpU | with_reducible apply Wf.fillI | with_reducible apply Wf.clU | with_reducible apply Wf.dnF | with_reducible apply Wf.gbW))) (ixn (m := 0) (by decide) (by decide))) ?_
    rw [hv1]
    refine lf (a_iload dL_law_758 rfl) ?_
    refine lf (a_i2l dL_law_760) ?_
    refine lf (a_lcmp dL_law_761) ?_
    refine lf2 (a_if_eq (tgt := 767) dL_law_762 (by decide)) (fun h762 => ?_) (fun h762 => absurd h762 (fun z => z (lcmp_self _)))
    refine lf (a_goto (tgt := 1976) dL_law_767 (by decide)) ?_
    exact lf (a_loc (LAw i) rfl) (kx V hr hX2)
  · simp only [List.mem_cons, List.not_mem_nil, or_false, Prod.mk.injEq] at hxk
    obtain ⟨rfl, rfl⟩ := hxk
    obtain ⟨z, V, tz, km, k0, hr, hv, hx⟩ := hk W (Out.rfl' hW)
    obtain ⟨z, rfl⟩ := tz
    have hX1 : gX W = X := hg.trans hX
    have hX2 : gX V = X := hx.trans hX1
    have hV := hr.wf
    refine lf (a_aload_n dL_law_702 rfl) ?_
    refine lf (a_aload_n dL_law_703 rfl) ?_
    refine lf (a_iload dL_law_704 rfl) ?_
    refine lf (a_iconst (1 : Int32) dL_law_706 (by decide)) ?_
    refine lf (a_iadd dL_law_707) ?_
    refine lf (a_sld dL_law_708 hX (ix_s (k := 1) rfl (show i + 1 < X.1 by omega) (by omega))) ?_
    refine lf (a_aload_n dL_law_709 rfl) ?_
    refine lf (a_iload dL_law_710 rfl) ?_
    refine lf (a_iconst (2 : Int32) dL_law_712 (by decide)) ?_
    refine lf (a_iadd dL_law_713) ?_
    refine lf (a_sld dL_law_714 hX (ix_s (k := 2) rfl (show i + 2 < X.1 by omega) (by omega))) ?_
    refine lf (a_aload_n dL_law_715 rfl) ?_
    refine lf (a_invSH (b2 := (60 * bb, 300 * bb)) (wx_held_1 (by repeat (first | with_reducible exact hw | with_reducible exact hwc | with_reducible assumption | with_reducible apply Wf.sI | with_reducible apply Wf.sL | with_reducible apply Wf.cpI | with_reducible apply Wf.cpL | with_reducible apply Wf.cp2 | with_reducible apply Wf.sIs | with_reducible apply Wf.sLs | with_reducible apply Wf.cpU | with_reducible apply Wf.fillI | with_reducible apply Wf.clU | with_reducible apply Wf.dnF | with_reducible apply Wf.gbW)) (X.2 (i + 1)) (X.2 (i + 2)) hc) rfl dL_law_716 yh_L_held sm_L_held ml_L_145 rfl (by decide) ⟨by show 1 + 60 * bb ≤ 60 * (bb + 1); omega, by show 6 + 300 * bb ≤ 300 * (bb + 1); omega⟩ (Nat.le_of_ble_eq_true rfl)) ?_
    refine lf (a_istore dL_law_719 (by decide)) ?_
    refine lf (a_aload_n dL_law_721 rfl) ?_
    refine lf (a_aload_n dL_law_722 rfl) ?_
    refine lf (a_iload dL_law_723 rfl) ?_
    refine lf (a_iconst (1 : Int32) dL_law_725 (by decide)) ?_
    refine lf (a_iadd dL_law_726) ?_
    refine lf (a_sld dL_law_727 hX1 (ix_s (k := 1) rfl (show i + 1 < X.1 by omega) (by omega))) ?_
    refine lf (a_aload_n dL_law_728 rfl) ?_
    refine lf (a_iload dL_law_729 rfl) ?_
    refine lf (a_iconst (2 : Int32) dL_law_731 (by decide)) ?_
    refine lf (a_iadd dL_law_732) ?_
    refine lf (a_sld dL_law_733 hX1 (ix_s (k := 2) rfl (show i + 2 < X.1 by omega) (by omega))) ?_
    refine lf (a_inv (b2 := (60 * bb, 300 * bb)) km rfl dL_law_734 yk_X11_held im_X11_held se_X11_held ml_L_147 rfl (co_338 (by repeat (first | with_reducible exact hw | with_reducible exact hwc | with_reducible assumption | with_reducible apply Wf.sI | with_reducible apply Wf.sL | with_reducible apply Wf.cpI | with_reducible apply Wf.cpL | with_reducible apply Wf.cp2 | with_reducible apply Wf.sIs | with_reducible apply Wf.sLs | with_reducible apply Wf.cpU | with_reducible apply Wf.fillI | with_reducible apply Wf.clU | with_reducible apply Wf.dnF | with_reducible apply Wf.gbW))) (by decide) hc_X11 (by decide) ⟨by show 0 + 60 * bb ≤ 60 * bb; omega, by show 0 + 300 * bb ≤ 300 * bb; omega⟩ (Nat.le_of_ble_eq_true rfl)) ?_
    refine lf (a_istore dL_law_737 (by decide)) ?_
    refine lf (a_aload_n dL_law_739 rfl) ?_
    refine lf (a_inv (b2 := (60 * bb, 300 * bb)) (m_thrown (by repeat (first | with_reducible exact hw | with_reducible exact hwc | with_reducible assumption | with_reducible apply Wf.sI | with_reducible apply Wf.sL | with_reducible apply Wf.cpI | with_reducible apply Wf.cpL | with_reducible apply Wf.cp2 | with_reducible apply Wf.sIs | with_reducible apply Wf.sLs | with_reducible apply Wf.cpU | with_reducible apply Wf.fillI | with_reducible apply Wf.clU | with_reducible apply Wf.dnF | with_reducible apply Wf.gbW))) rfl dL_law_740 yk_X11_thrown im_X11_thrown se_X11_thrown ml_L_114 rfl (co_338 (by repeat (first | with_reducible exact hw | with_reducible exact hwc | with_reducible assumption | with_reducible apply Wf.sI | with_reducible apply Wf.sL | with_reducible apply Wf.cpI | with_reducible apply Wf.cpL | with_reducible apply Wf.cp2 | with_reducible apply Wf.sIs | with_reducible apply Wf.sLs | with_reducible apply Wf.cpU | with_reducible apply Wf.fillI | with_reducible apply Wf.clU | with_reducible apply Wf.dnF | with_reducible apply Wf.gbW))) (by decide) hc_X11 (by decide) ⟨by show 0 + 60 * bb ≤ 60 * bb; omega, by show 0 + 300 * bb ≤ 300 * bb; omega⟩ (Nat.le_of_ble_eq_true rfl)) ?_
    refine lf (a_iload dL_law_743 rfl) ?_
    refine lf2 (a_icmp_eq (tgt := 750) dL_law_745 (by decide)) (fun h745 => ?_) (fun h745 => absurd h745 (fun z => z k0))
    refine lf (a_iload dL_law_750 rfl) ?_
    refine lfn (a_if_ne (tgt := 767) dL_law_752 (by decide)) (fun h752 => ?_) (fun h752 => absurd h752 (by decide))
    refine lf (a_goto (tgt := 1976) dL_law_767 (by decide)) ?_
    exact lf (a_loc (LAw i) rfl) (kx V hr hX2)
theorem s_topUpAt {μ : Wd} {N i bb : Nat} {X : Nat × (Nat → Int32)} (h : RelV N μ) (hX : gX μ = X) (hi : i + 6 ≤ X.1) (hL : X.1 ≤ 3072) (kx : ∀ V, RelV (N + 1) V → gX V = X → WP Y_L_law RLaw (60 * bb, 300 * bb) V 1976 (LAw i) [] QLw) : WP Y_L_law RLaw (60 * (bb + 1), 300 * (bb + 1)) μ 770 (LAw i) [] QLw := by
  have hw := h.wf
  rcases o_topUpAt h (X.2 (i + 1)) (X.2 (i + 2)) with ⟨v, W, tv, hW, hc, hg, hk⟩ | ⟨x, k, W, hxk, hW, hc, hg, hk⟩
  · obtain ⟨v, rfl⟩ := tv
    obtain ⟨V, km, k0, hr, hv, hx⟩ := hk (sL W 363 0 (v.toInt64)) ((Out.rfl' hW).sL (S := s363) (i := 363) rfl _ _)
    have hX1 : gX (sL W 363 0 (v.toInt64)) = X := hg.trans hX
    have hX2 : gX V = X := hx.trans hX1
    have hV := hr.wf
    have hv1 : gL V 363 0 = v.toInt64 := hv.trans ((gL_sL _ _ _ _ _ _).trans (if_pos ⟨rfl, rfl⟩))
    refine lf (a_aload_n dL_law_770 rfl) ?_
    refine lf (a_aload_n dL_law_771 rfl) ?_
    refine lf (a_iload dL_law_772 rfl) ?_
    refine lf (a_iconst (1 : Int32) dL_law_774 (by decide)) ?_
    refine lf (a_iadd dL_law_775) ?_
    refine lf (a_sld dL_law_776 hX (ix_s (k := 1) rfl (show i + 1 < X.1 by omega) (by omega))) ?_
    refine lf (a_aload_n dL_law_777 rfl) ?_
    refine lf (a_iload dL_law_778 rfl) ?_
    refine lf (a_iconst (2 : Int32) dL_law_780 (by decide)) ?_
    refine lf (a_iadd dL_law_781) ?_
    refine lf (a_sld dL_law_782 hX (ix_s (k := 2) rfl (show i + 2 < X.1 by omega) (by omega))) ?_
    refine lf (a_aload_n dL_law_783 rfl) ?_
    refine lf (a_invSH (b2 := (60 * bb, 300 * bb)) (wv_topUpAt (by repeat (first | with_reducible exact hw | with_reducible exact hwc | with_reducible assumption | with_reducible apply Wf.sI | with_reducible apply Wf.sL | with_reducible apply Wf.cpI | with_reducible apply Wf.cpL | with_reducible apply Wf.cp2 | with_reducible apply Wf.sIs | with_reducible apply Wf.sLs | with_reducible apply Wf.cpU | with_reducible apply Wf.fillI | with_reducible apply Wf.clU | with_reducible apply Wf.dnF | with_reducible apply Wf.gbW)) (X.2 (i + 1)) (X.2 (i + 2)) hW hc) rfl dL_law_784 yh_L_topUpAt sm_L_topUpAt ml_L_148 rfl (by decide) ⟨by show 1 + 60 * bb ≤ 60 * (bb + 1); omega, by show 6 + 300 * bb ≤ 300 * (bb + 1); omega⟩ (Nat.le_of_ble_eq_true rfl)) ?_
    refine lf (a_istore dL_law_787 (by decide)) ?_
    refine lf (a_aload_n dL_law_789 rfl) ?_
    refine lf (a_aload_n dL_law_790 rfl) ?_
    refine lf (a_iload dL_law_791 rfl) ?_
    refine lf (a_iconst (1 : Int32) dL_law_793 (by decide)) ?_
    refine lf (a_iadd dL_law_794) ?_
    refine lf (a_sld dL_law_795 hX1 (ix_s (k := 1) rfl (show i + 1 < X.1 by omega) (by omega))) ?_
    refine lf (a_aload_n dL_law_796 rfl) ?_
    refine lf (a_iload dL_law_797 rfl) ?_
    refine lf (a_iconst (2 : Int32) dL_law_799 (by decide)) ?_
    refine lf (a_iadd dL_law_800) ?_
    refine lf (a_sld dL_law_801 hX1 (ix_s (k := 2) rfl (show i + 2 < X.1 by omega) (by omega))) ?_
    refine lf (a_inv (b2 := (60 * bb, 300 * bb)) km rfl dL_law_802 yk_X11_topUpAt im_X11_topUpAt se_X11_topUpAt ml_L_150 rfl (co_338 (by repeat (first | with_reducible exact hw | with_reducible exact hwc | with_reducible assumption | with_reducible apply Wf.sI | with_reducible apply Wf.sL | with_reducible apply Wf.cpI | with_reducible apply Wf.cpL | with_reducible apply Wf.cp2 | with_reducible apply Wf.sIs | with_reducible apply Wf.sLs | with_reducible apply Wf.cpU | with_reducible apply Wf.fillI | with_reducible apply Wf.clU | with_reducible apply Wf.dnF | with_reducible apply Wf.gbW))) (by decide) hc_X11 (by decide) ⟨by show 0 + 60 * bb ≤ 60 * bb; omega, by show 0 + 300 * bb ≤ 300 * bb; omega⟩ (Nat.le_of_ble_eq_true rfl)) ?_
    refine lf (a_istore dL_law_805 (by decide)) ?_
    refine lf (a_aload_n dL_law_807 rfl) ?_
    refine lf (a_inv (b2 := (60 * bb, 300 * bb)) (m_thrown (by repeat (first | with_reducible exact hw | with_reducible exact hwc | with_reducible assumption | with_reducible apply Wf.sI | with_reducible apply Wf.sL | with_reducible apply Wf.cpI | with_reducible apply Wf.cpL | with_reducible apply Wf.cp2 | with_reducible apply Wf.sIs | with_reducible apply Wf.sLs | with_reducible apply Wf.cpU | with_reducible apply Wf.fillI | with_reducible apply Wf.clU | with_reducible apply Wf.dnF | with_reducible apply Wf.gbW))) rfl dL_law_808 yk_X11_thrown im_X11_thrown se_X11_thrown ml_L_114 rfl (co_338 (by repeat (first | with_reducible exact hw | with_reducible exact hwc | with_reducible assumption | with_reducible apply Wf.sI | with_reducible apply Wf.sL | with_reducible apply Wf.cpI | with_reducible apply Wf.cpL | with_reducible apply Wf.cp2 | with_reducible apply Wf.sIs | with_reducible apply Wf.sLs | with_reducible apply Wf.cpU | with_reducible apply Wf.fillI | with_reducible apply Wf.clU | with_reducible apply Wf.dnF | with_reducible apply Wf.gbW))) (by decide) hc_X11 (by decide) ⟨by show 0 + 60 * bb ≤ 60 * bb; omega, by show 0 + 300 * bb ≤ 300 * bb; omega⟩ (Nat.le_of_ble_eq_true rfl)) ?_
    refine lf (a_iload dL_law_811 rfl) ?_
    refine lf2 (a_icmp_eq (tgt := 818) dL_law_813 (by decide)) (fun h813 => ?_) (fun h813 => absurd h813 (fun z => z k0))
    refine lf (a_iload dL_law_818 rfl) ?_
    refine lfn (a_if_ne (tgt := 835) dL_law_820 (by decide)) (fun h820 => absurd h820 (by decide)) (fun h820 => ?_)
    refine lf (a_aload_n dL_law_823 rfl) ?_
    refine lf (a_iconst (0 : Int32) dL_law_824 (by decide)) ?_
    refine lf (a_lld dL_law_825 (ca_363 (by repeat (first | with_reducible exact hw | with_reducible exact hwc | with_reducible assumption | with_reducible apply Wf.sI | with_reducible apply Wf.sL | with_reducible apply Wf.cpI | with_reducible apply Wf.cpL | with_reducible apply Wf.cp2 | with_reducible apply Wf.sIs | with_reducible apply Wf.sLs | with_reducible apply Wf.cpU | with_reducible apply Wf.fillI | with_reducible apply Wf.clU | with_reducible apply Wf.dnF | with_reducible apply Wf.gbW))) (ixn (m := 0) (by decide) (by decide))) ?_
    rw [hv1]
    refine lf (a_iload dL_law_826 rfl) ?_
    refine lf (a_i2l dL_law_828) ?_
    refine lf (a_lcmp dL_law_829) ?_
    refine lf2 (a_if_eq (tgt := 835) dL_law_830 (by decide)) (fun h830 => ?_) (fun h830 => absurd h830 (fun z => z (lcmp_self _)))
    refine lf (a_goto (tgt := 1976) dL_law_835 (by decide)) ?_
    exact lf (a_loc (LAw i) rfl) (kx V hr hX2)
  · simp only [List.mem_cons, List.not_mem_nil, or_false, Prod.mk.injEq] at hxk
    rcases hxk with ⟨rfl, rfl⟩ | ⟨rfl, rfl⟩
    · obtain ⟨z, V, tz, km, k0, hr, hv, hx⟩ := hk W (Out.rfl' hW)
      obtain ⟨z, rfl⟩ := tz
      have hX1 : gX W = X := hg.trans hX
      have hX2 : gX V = X := hx.trans hX1
      have hV := hr.wf
      refine lf (a_aload_n dL_law_770 rfl) ?_
      refine lf (a_aload_n dL_law_771 rfl) ?_
      refine lf (a_iload dL_law_772 rfl) ?_
      refine lf (a_iconst (1 : Int32) dL_law_774 (by decide)) ?_
      refine lf (a_iadd dL_law_775) ?_
      refine lf (a_sld dL_law_776 hX (ix_s (k := 1) rfl (show i + 1 < X.1 by omega) (by omega))) ?_
      refine lf (a_aload_n dL_law_777 rfl) ?_
      refine lf (a_iload dL_law_778 rfl) ?_
      refine lf (a_iconst (2 : Int32) dL_law_780 (by decide)) ?_
      refine lf (a_iadd dL_law_781) ?_
      refine lf (a_sld dL_law_782 hX (ix_s (k := 2) rfl (show i + 2 < X.1 by omega) (by omega))) ?_
      refine lf (a_aload_n dL_law_783 rfl) ?_
      refine lf (a_invSH (b2 := (60 * bb, 300 * bb)) (wx_topUpAt_1 (by repeat (first | with_reducible exact hw | with_reducible exact hwc | with_reducible assumption | with_reducible apply Wf.sI | with_reducible apply Wf.sL | with_reducible apply Wf.cpI | with_reducible apply Wf.cpL | with_reducible apply Wf.cp2 | with_reducible apply Wf.sIs | with_reducible apply Wf.sLs | with_reducible apply Wf.cpU | with_reducible apply Wf.fillI | with_reducible apply Wf.clU | with_reducible apply Wf.dnF | with_reducible apply Wf.gbW)) (X.2 (i + 1)) (X.2 (i + 2)) hc) rfl dL_law_784 yh_L_topUpAt sm_L_topUpAt ml_L_148 rfl (by decide) ⟨by show 1 + 60 * bb ≤ 60 * (bb + 1); omega, by show 6 + 300 * bb ≤ 300 * (bb + 1); omega⟩ (Nat.le_of_ble_eq_true rfl)) ?_
      refine lf (a_istore dL_law_787 (by decide)) ?_
      refine lf (a_aload_n dL_law_789 rfl) ?_
      refine lf (a_aload_n dL_law_790 rfl) ?_
      refine lf (a_iload dL_law_791 rfl) ?_
      refine lf (a_iconst (1 : Int32) dL_law_793 (by decide)) ?_
      refine lf (a_iadd dL_law_794) ?_
      refine lf (a_sld dL_law_795 hX1 (ix_s (k := 1) rfl (show i + 1 < X.1 by omega) (by omega))) ?_
      refine lf (a_aload_n dL_law_796 rfl) ?_
      refine lf (a_iload dL_law_797 rfl) ?_
      refine lf (a_iconst (2 : Int32) dL_law_799 (by decide)) ?_
      refine lf (a_iadd dL_law_800) ?_
      refine lf (a_sld dL_law_801 hX1 (ix_s (k := 2) rfl (show i + 2 < X.1 by omega) (by omega))) ?_
      refine lf (a_inv (b2 := (60 * bb, 300 * bb)) km rfl dL_law_802 yk_X11_topUpAt im_X11_topUpAt se_X11_topUpAt ml_L_150 rfl (co_338 (by repeat (first | with_reducible exact hw | with_reducible exact hwc | with_reducible assumption | with_reducible apply Wf.sI | with_reducible apply Wf.sL | with_reducible apply Wf.cpI | with_reducible apply Wf.cpL | with_reducible apply Wf.cp2 | with_reducible apply Wf.sIs | with_reducible apply Wf.sLs | with_reducible apply Wf.cpU | with_reducible apply Wf.fillI | with_reducible apply Wf.clU | with_reducible apply Wf.dnF | with_reducible apply Wf.gbW))) (by decide) hc_X11 (by decide) ⟨by show 0 + 60 * bb ≤ 60 * bb; omega, by show 0 + 300 * bb ≤ 300 * bb; omega⟩ (Nat.le_of_ble_eq_true rfl)) ?_
      refine lf (a_istore dL_law_805 (by decide)) ?_
      refine lf (a_aload_n dL_law_807 rfl) ?_
      refine lf (a_inv (b2 := (60 * bb, 300 * bb)) (m_thrown (by repeat (first | with_reducible exact hw | with_reducible exact hwc | with_reducible assumption | with_reducible apply Wf.sI | with_reducible apply Wf.sL | with_reducible apply Wf.cpI | with_reducible apply Wf.cpL | with_reducible apply Wf.cp2 | with_reducible apply Wf.sIs | with_reducible apply Wf.sLs | with_reducible apply Wf.cpU | with_reducible apply Wf.fillI | with_reducible apply Wf.clU | with_reducible apply Wf.dnF | with_reducible apply Wf.gbW))) rfl dL_law_808 yk_X11_thrown im_X11_thrown se_X11_thrown ml_L_114 rfl (co_338 (by repeat (first | with_reducible exact hw | with_reducible exact hwc | with_reducible assumption | with_reducible apply Wf.sI | with_reducible apply Wf.sL | with_reducible apply Wf.cpI | with_reducible apply Wf.cpL | with_reducible apply Wf.cp2 | with_reducible apply Wf.sIs | with_reducible apply Wf.sLs | with_reducible apply Wf.cpU | with_reducible apply Wf.fillI | with_reducible apply Wf.clU | with_reducible apply Wf.dnF | with_reducible apply Wf.gbW))) (by decide) hc_X11 (by decide) ⟨by show 0 + 60 * bb ≤ 60 * bb; omega, by show 0 + 300 * bb ≤ 300 * bb; omega⟩ (Nat.le_of_ble_eq_true rfl)) ?_
      refine lf (a_iload dL_law_811 rfl) ?_
      refine lf2 (a_icmp_eq (tgt := 818) dL_law_813 (by decide)) (fun h813 => ?_) (fun h813 => absurd h813 (fun z => z k0))
      refine lf (a_iload dL_law_818 rfl) ?_
      refine lfn (a_if_ne (tgt := 835) dL_law_820 (by decide)) (fun h820 => ?_) (fun h820 => absurd h820 (by decide))
      refine lf (a_goto (tgt := 1976) dL_law_835 (by decide)) ?_
      exact lf (a_loc (LAw i) rfl) (kx V hr hX2)
    · obtain ⟨z, V, tz, km, k0, hr, hv, hx⟩ := hk W (Out.rfl' hW)
      obtain ⟨z, rfl⟩ := tz
      have hX1 : gX W = X := hg.trans hX
      have hX2 : gX V = X := hx.trans hX1
      have hV := hr.wf
      refine lf (a_aload_n dL_law_770 rfl) ?_
      refine lf (a_aload_n dL_law_771 rfl) ?_
      refine lf (a_iload dL_law_772 rfl) ?_
      refine lf (a_iconst (1 : Int32) dL_law_774 (by decide)) ?_
      refine lf (a_iadd dL_law_775) ?_
      refine lf (a_sld dL_law_776 hX (ix_s (k := 1) rfl (show i + 1 < X.1 by omega) (by omega))) ?_
      refine lf (a_aload_n dL_law_777 rfl) ?_
      refine lf (a_iload dL_law_778 rfl) ?_
      refine lf (a_iconst (2 : Int32) dL_law_780 (by decide)) ?_
      refine lf (a_iadd dL_law_781) ?_
      refine lf (a_sld dL_law_782 hX (ix_s (k := 2) rfl (show i + 2 < X.1 by omega) (by omega))) ?_
      refine lf (a_aload_n dL_law_783 rfl) ?_
      refine lf (a_invSH (b2 := (60 * bb, 300 * bb)) (wx_topUpAt_2 (by repeat (first | with_reducible exact hw | with_reducible exact hwc | with_reducible assumption | with_reducible apply Wf.sI | with_reducible apply Wf.sL | with_reducible apply Wf.cpI | with_reducible apply Wf.cpL | with_reducible apply Wf.cp2 | with_reducible apply Wf.sIs | with_reducible apply Wf.sLs | with_reducible apply Wf.cpU | with_reducible apply Wf.fillI | with_reducible apply Wf.clU | with_reducible apply Wf.dnF | with_reducible apply Wf.gbW)) (X.2 (i + 1)) (X.2 (i + 2)) hc) rfl dL_law_784 yh_L_topUpAt sm_L_topUpAt ml_L_148 rfl (by decide) ⟨by show 1 + 60 * bb ≤ 60 * (bb + 1); omega, by show 6 + 300 * bb ≤ 300 * (bb + 1); omega⟩ (Nat.le_of_ble_eq_true rfl)) ?_
      refine lf (a_istore dL_law_787 (by decide)) ?_
      refine lf (a_aload_n dL_law_789 rfl) ?_
      refine lf (a_aload_n dL_law_790 rfl) ?_
      refine lf (a_iload dL_law_791 rfl) ?_
      refine lf (a_iconst (1 : Int32) dL_law_793 (by decide)) ?_
      refine lf (a_iadd dL_law_794) ?_
      refine lf (a_sld dL_law_795 hX1 (ix_s (k := 1) rfl (show i + 1 < X.1 by omega) (by omega))) ?_
      refine lf (a_aload_n dL_law_796 rfl) ?_
      refine lf (a_iload dL_law_797 rfl) ?_
      refine lf (a_iconst (2 : Int32) dL_law_799 (by decide)) ?_
      refine lf (a_iadd dL_law_800) ?_
      refine lf (a_sld dL_law_801 hX1 (ix_s (k := 2) rfl (show i + 2 < X.1 by omega) (by omega))) ?_
      refine lf (a_inv (b2 := (60 * bb, 300 * bb)) km rfl dL_law_802 yk_X11_topUpAt im_X11_topUpAt se_X11_topUpAt ml_L_150 rfl (co_338 (by repeat (first | with_reducible exact hw | with_reducible exact hwc | with_reducible assumption | with_reducible apply Wf.sI | with_reducible apply Wf.sL | with_reducible apply Wf.cpI | with_reducible apply Wf.cpL | with_reducible apply Wf.cp2 | with_reducible apply Wf.sIs | with_reducible apply Wf.sLs | with_reducible apply Wf.cpU | with_reducible apply Wf.fillI | with_reducible apply Wf.clU | with_reducible apply Wf.dnF | with_reducible apply Wf.gbW))) (by decide) hc_X11 (by decide) ⟨by show 0 + 60 * bb ≤ 60 * bb; omega, by show 0 + 300 * bb ≤ 300 * bb; omega⟩ (Nat.le_of_ble_eq_true rfl)) ?_
      refine lf (a_istore dL_law_805 (by decide)) ?_
      refine lf (a_aload_n dL_law_807 rfl) ?_
      refine lf (a_inv (b2 := (60 * bb, 300 * bb)) (m_thrown (by repeat (first | with_reducible exact hw | with_reducible exact hwc | with_reducible assumption | with_reducible apply Wf.sI | with_reducible apply Wf.sL | with_reducible apply Wf.cpI | with_reducible apply Wf.cpL | with_reducible apply Wf.cp2 | with_reducible apply Wf.sIs | with_reducible apply Wf.sLs | with_reducible apply Wf.cpU | with_reducible apply Wf.fillI | with_reducible apply Wf.clU | with_reducible apply Wf.dnF | with_reducible apply Wf.gbW))) rfl dL_law_808 yk_X11_thrown im_X11_thrown se_X11_thrown ml_L_114 rfl (co_338 (by repeat (first | with_reducible exact hw | with_reducible exact hwc | with_reducible assumption | with_reducible apply Wf.sI | with_reducible apply Wf.sL | with_reducible apply Wf.cpI | with_reducible apply Wf.cpL | with_reducible apply Wf.cp2 | with_reducible apply Wf.sIs | with_reducible apply Wf.sLs | with_reducible apply Wf.cpU | with_reducible apply Wf.fillI | with_reducible apply Wf.clU | with_reducible apply Wf.dnF | with_reducible apply Wf.gbW))) (by decide) hc_X11 (by decide) ⟨by show 0 + 60 * bb ≤ 60 * bb; omega, by show 0 + 300 * bb ≤ 300 * bb; omega⟩ (Nat.le_of_ble_eq_true rfl)) ?_
      refine lf (a_iload dL_law_811 rfl) ?_
      refine lf2 (a_icmp_eq (tgt := 818) dL_law_813 (by decide)) (fun h813 => ?_) (fun h813 => absurd h813 (fun z => z k0))
      refine lf (a_iload dL_law_818 rfl) ?_
      refine lfn (a_if_ne (tgt := 835) dL_law_820 (by decide)) (fun h820 => ?_) (fun h820 => absurd h820 (by decide))
      refine lf (a_goto (tgt := 1976) dL_law_835 (by decide)) ?_
      exact lf (a_loc (LAw i) rfl) (kx V hr hX2)
theorem s_board {μ : Wd} {N i bb : Nat} {X : Nat × (Nat → Int32)} (h : RelV N μ) (hX : gX μ = X) (hi : i + 6 ≤ X.1) (hL : X.1 ≤ 3072) (kx : ∀ V, RelV (N + 1) V → gX V = X → WP Y_L_law RLaw (60 * bb, 300 * bb) V 1976 (LAw i) [] QLw) : WP Y_L_law RLaw (60 * (bb + 1), 300 * (bb + 1)) μ 838 (LAw i) [] QLw := by
  have hw := h.wf
  rcases o_board h (X.2 (i + 1)) (X.2 (i + 2)) (X.2 (i + 3)) with ⟨v, W, tv, hW, hc, hg, hk⟩ | ⟨x, k, W, hxk, hW, hc, hg, hk⟩
  · obtain ⟨v, rfl⟩ := tv
    obtain ⟨V, km, k0, hr, hv, hx⟩ := hk (sL W 363 0 (v.toInt64)) ((Out.rfl' hW).sL (S := s363) (i := 363) rfl _ _)
    have hX1 : gX (sL W 363 0 (v.toInt64)) = X := hg.trans hX
    have hX2 : gX V = X := hx.trans hX1
    have hV := hr.wf
    have hv1 : gL V 363 0 = v.toInt64 := hv.trans ((gL_sL _ _ _ _ _ _).trans (if_pos ⟨rfl, rfl⟩))
    refine lf (a_aload_n dL_law_838 rfl) ?_
    refine lf (a_aload_n dL_law_839 rfl) ?_
    refine lf (a_iload dL_law_840 rfl) ?_
    refine lf (a_iconst (1 : Int32) dL_law_842 (by decide)) ?_
    refine lf (a_iadd dL_law_843) ?_
    refine lf (a_sld dL_law_844 hX (ix_s (k := 1) rfl (show i + 1 < X.1 by omega) (by omega))) ?_
    refine lf (a_aload_n dL_law_845 rfl) ?_
    refine lf (a_iload dL_law_846 rfl) ?_
    refine lf (a_iconst (2 : Int32) dL_law_848 (by decide)) ?_
    refine lf (a_iadd dL_law_849) ?_
    refine lf (a_sld dL_law_850 hX (ix_s (k := 2) rfl (show i + 2 < X.1 by omega) (by omega))) ?_
    refine lf (a_aload_n dL_law_851 rfl) ?_
    refine lf (a_iload dL_law_852 rfl) ?_
    refine lf (a_iconst (3 : Int32) dL_law_854 (by decide)) ?_
    refine lf (a_iadd dL_law_855) ?_
    refine lf (a_sld dL_law_856 hX (ix_s (k := 3) rfl (show i + 3 < X.1 by omega) (by omega))) ?_
    refine lf (a_aload_n dL_law_857 rfl) ?_
    refine lf (a_invSH (b2 := (60 * bb, 300 * bb)) (wv_board (by repeat (first | with_reducible exact hw | with_reducible exact hwc | with_reducible assumption | with_reducible apply Wf.sI | with_reducible apply Wf.sL | with_reducible apply Wf.cpI | with_reducible apply Wf.cpL | with_reducible apply Wf.cp2 | with_reducible apply Wf.sIs | with_reducible apply Wf.sLs | with_reducible apply Wf.cpU | with_reducible apply Wf.fillI | with_reducible apply Wf.clU | with_reducible apply Wf.dnF | with_reducible apply Wf.gbW)) (X.2 (i + 1)) (X.2 (i + 2)) (X.2 (i + 3)) hW hc) rfl dL_law_858 yh_L_board sm_L_board ml_L_151 rfl (by decide) ⟨by show 1 + 60 * bb ≤ 60 * (bb + 1); omega, by show 6 + 300 * bb ≤ 300 * (bb + 1); omega⟩ (Nat.le_of_ble_eq_true rfl)) ?_
    refine lf (a_istore dL_law_861 (by decide)) ?_
    refine lf (a_aload_n dL_law_863 rfl) ?_
    refine lf (a_aload_n dL_law_864 rfl) ?_
    refine lf (a_iload dL_law_865 rfl) ?_
    refine lf (a_iconst (1 : Int32) dL_law_867 (by decide)) ?_
    refine lf (a_iadd dL_law_868) ?_
    refine lf (a_sld dL_law_869 hX1 (ix_s (k := 1) rfl (show i + 1 < X.1 by omega) (by omega))) ?_
    refine lf (a_aload_n dL_law_870 rfl) ?_
    refine lf (a_iload dL_law_871 rfl) ?_
    refine lf (a_iconst (2 : Int32) dL_law_873 (by decide)) ?_
    refine lf (a_iadd dL_law_874) ?_
    refine lf (a_sld dL_law_875 hX1 (ix_s (k := 2) rfl (show i + 2 < X.1 by omega) (by omega))) ?_
    refine lf (a_aload_n dL_law_876 rfl) ?_
    refine lf (a_iload dL_law_877 rfl) ?_
    refine lf (a_iconst (3 : Int32) dL_law_879 (by decide)) ?_
    refine lf (a_iadd dL_law_880) ?_
    refine lf (a_sld dL_law_881 hX1 (ix_s (k := 3) rfl (show i + 3 < X.1 by omega) (by omega))) ?_
    refine lf (a_inv (b2 := (60 * bb, 300 * bb)) km rfl dL_law_882 yk_X11_board im_X11_board se_X11_board ml_L_154 rfl (co_338 (by repeat (first | with_reducible exact hw | with_reducible exact hwc | with_reducible assumption | with_reducible apply Wf.sI | with_reducible apply Wf.sL | with_reducible apply Wf.cpI | with_reducible apply Wf.cpL | with_reducible apply Wf.cp2 | with_reducible apply Wf.sIs | with_reducible apply Wf.sLs | with_reducible apply Wf.cpU | with_reducible apply Wf.fillI | with_reducible apply Wf.clU | with_reducible apply Wf.dnF | with_reducible apply Wf.gbW))) (by decide) hc_X11 (by decide) ⟨by show 0 + 60 * bb ≤ 60 * bb; omega, by show 0 + 300 * bb ≤ 300 * bb; omega⟩ (Nat.le_of_ble_eq_true rfl)) ?_
    refine lf (a_istore dL_law_885 (by decide)) ?_
    refine lf (a_aload_n dL_law_887 rfl) ?_
    refine lf (a_inv (b2 := (60 * bb, 300 * bb)) (m_thrown (by repeat (first | with_reducible exact hw | with_reducible exact hwc | with_reducible assumption | with_reducible apply Wf.sI | with_reducible apply Wf.sL | with_reducible apply Wf.cpI | with_reducible apply Wf.cpL | with_reducible apply Wf.cp2 | with_reducible apply Wf.sIs | with_reducible apply Wf.sLs | with_reducible apply Wf.cpU | with_reducible apply Wf.fillI | with_reducible apply Wf.clU | with_reducible apply Wf.dnF | with_reducible apply Wf.gbW))) rfl dL_law_888 yk_X11_thrown im_X11_thrown se_X11_thrown ml_L_114 rfl (co_338 (by repeat (first | with_reducible exact hw | with_reducible exact hwc | with_reducible assumption | with_reducible apply Wf.sI | with_reducible apply Wf.sL | with_reducible apply Wf.cpI | with_reducible apply Wf.cpL | with_reducible apply Wf.cp2 | with_reducible apply Wf.sIs | with_reducible apply Wf.sLs | with_reducible apply Wf.cpU | with_reducible apply Wf.fillI | with_reducible apply Wf.clU | with_reducible apply Wf.dnF | with_reducible apply Wf.gbW))) (by decide) hc_X11 (by decide) ⟨by show 0 + 60 * bb ≤ 60 * bb; omega, by show 0 + 300 * bb ≤ 300 * bb; omega⟩ (Nat.le_of_ble_eq_true rfl)) ?_
    refine lf (a_iload dL_law_891 rfl) ?_
    refine lf2 (a_icmp_eq (tgt := 898) dL_law_893 (by decide)) (fun h893 => ?_) (fun h893 => absurd h893 (fun z => z k0))
    refine lf (a_iload dL_law_898 rfl) ?_
    refine lfn (a_if_ne (tgt := 915) dL_law_900 (by decide)) (fun h900 => absurd h900 (by decide)) (fun h900 => ?_)
    refine lf (a_aload_n dL_law_903 rfl) ?_
    refine lf (a_iconst (0 : Int32) dL_law_904 (by decide)) ?_
    refine lf (a_lld dL_law_905 (ca_363 (by repeat (first | with_reducible exact hw | with_reducible exact hwc | with_reducible assumption | with_reducible apply Wf.sI | with_reducible apply Wf.sL | with_reducible apply Wf.cpI | with_reducible apply Wf.cpL | with_reducible apply Wf.cp2 | with_reducible apply Wf.sIs | with_reducible apply Wf.sLs | with_reducible apply Wf.cpU | with_reducible apply Wf.fillI | with_reducible apply Wf.clU | with_reducible apply Wf.dnF | with_reducible apply Wf.gbW))) (ixn (m := 0) (by decide) (by decide))) ?_
    rw [hv1]
    refine lf (a_iload dL_law_906 rfl) ?_
    refine lf (a_i2l dL_law_908) ?_
    refine lf (a_lcmp dL_law_909) ?_
    refine lf2 (a_if_eq (tgt := 915) dL_law_910 (by decide)) (fun h910 => ?_) (fun h910 => absurd h910 (fun z => z (lcmp_self _)))
    refine lf (a_goto (tgt := 1976) dL_law_915 (by decide)) ?_
    exact lf (a_loc (LAw i) rfl) (kx V hr hX2)
  · simp only [List.mem_cons, List.not_mem_nil, or_false, Prod.mk.injEq] at hxk
    rcases hxk with ⟨rfl, rfl⟩ | ⟨rfl, rfl⟩ | ⟨rfl, rfl⟩
    · obtain ⟨z, V, tz, km, k0, hr, hv, hx⟩ := hk W (Out.rfl' hW)
      obtain ⟨z, rfl⟩ := tz
      have hX1 : gX W = X := hg.trans hX
      have hX2 : gX V = X := hx.trans hX1
      have hV := hr.wf
      refine lf (a_aload_n dL_law_838 rfl) ?_
      refine lf (a_aload_n dL_law_839 rfl) ?_
      refine lf (a_iload dL_law_840 rfl) ?_
      refine lf (a_iconst (1 : Int32) dL_law_842 (by decide)) ?_
      refine lf (a_iadd dL_law_843) ?_
      refine lf (a_sld dL_law_844 hX (ix_s (k := 1) rfl (show i + 1 < X.1 by omega) (by omega))) ?_
      refine lf (a_aload_n dL_law_845 rfl) ?_
      refine lf (a_iload dL_law_846 rfl) ?_
      refine lf (a_iconst (2 : Int32) dL_law_848 (by decide)) ?_
      refine lf (a_iadd dL_law_849) ?_
      refine lf (a_sld dL_law_850 hX (ix_s (k := 2) rfl (show i + 2 < X.1 by omega) (by omega))) ?_
      refine lf (a_aload_n dL_law_851 rfl) ?_
      refine lf (a_iload dL_law_852 rfl) ?_
      refine lf (a_iconst (3 : Int32) dL_law_854 (by decide)) ?_
      refine lf (a_iadd dL_law_855) ?_
      refine lf (a_sld dL_law_856 hX (ix_s (k := 3) rfl (show i + 3 < X.1 by omega) (by omega))) ?_
      refine lf (a_aload_n dL_law_857 rfl) ?_
      refine lf (a_invSH (b2 := (60 * bb, 300 * bb)) (wx_board_1 (by repeat (first | with_reducible exact hw | with_reducible exact hwc | with_reducible assumption | with_reducible apply Wf.sI | with_reducible apply Wf.sL | with_reducible apply Wf.cpI | with_reducible apply Wf.cpL | with_reducible apply Wf.cp2 | with_reducible apply Wf.sIs | with_reducible apply Wf.sLs | with_reducible apply Wf.cpU | with_reducible apply Wf.fillI | with_reducible apply Wf.clU | with_reducible apply Wf.dnF | with_reducible apply Wf.gbW)) (X.2 (i + 1)) (X.2 (i + 2)) (X.2 (i + 3)) hc) rfl dL_law_858 yh_L_board sm_L_board ml_L_151 rfl (by decide) ⟨by show 1 + 60 * bb ≤ 60 * (bb + 1); omega, by show 6 + 300 * bb ≤ 300 * (bb + 1); omega⟩ (Nat.le_of_ble_eq_true rfl)) ?_
      refine lf (a_istore dL_law_861 (by decide)) ?_
      refine lf (a_aload_n dL_law_863 rfl) ?_
      refine lf (a_aload_n dL_law_864 rfl) ?_
      refine lf (a_iload dL_law_865 rfl) ?_
      refine lf (a_iconst (1 : Int32) dL_law_867 (by decide)) ?_
      refine lf (a_iadd dL_law_868) ?_
      refine lf (a_sld dL_law_869 hX1 (ix_s (k := 1) rfl (show i + 1 < X.1 by omega) (by omega))) ?_
      refine lf (a_aload_n dL_law_870 rfl) ?_
      refine lf (a_iload dL_law_871 rfl) ?_
      refine lf (a_iconst (2 : Int32) dL_law_873 (by decide)) ?_
      refine lf (a_iadd dL_law_874) ?_
      refine lf (a_sld dL_law_875 hX1 (ix_s (k := 2) rfl (show i + 2 < X.1 by omega) (by omega))) ?_
      refine lf (a_aload_n dL_law_876 rfl) ?_
      refine lf (a_iload dL_law_877 rfl) ?_
      refine lf (a_iconst (3 : Int32) dL_law_879 (by decide)) ?_
      refine lf (a_iadd dL_law_880) ?_
      refine lf (a_sld dL_law_881 hX1 (ix_s (k := 3) rfl (show i + 3 < X.1 by omega) (by omega))) ?_
      refine lf (a_inv (b2 := (60 * bb, 300 * bb)) km rfl dL_law_882 yk_X11_board im_X11_board se_X11_board ml_L_154 rfl (co_338 (by repeat (first | with_reducible exact hw | with_reducible exact hwc | with_reducible assumption | with_reducible apply Wf.sI | with_reducible apply Wf.sL | with_reducible apply Wf.cpI | with_reducible apply Wf.cpL | with_reducible apply Wf.cp2 | with_reducible apply Wf.sIs | with_reducible apply Wf.sLs | with_reducible apply Wf.cpU | with_reducible apply Wf.fillI | with_reducible apply Wf.clU | with_reducible apply Wf.dnF | with_reducible apply Wf.gbW))) (by decide) hc_X11 (by decide) ⟨by show 0 + 60 * bb ≤ 60 * bb; omega, by show 0 + 300 * bb ≤ 300 * bb; omega⟩ (Nat.le_of_ble_eq_true rfl)) ?_
      refine lf (a_istore dL_law_885 (by decide)) ?_
      refine lf (a_aload_n dL_law_887 rfl) ?_
      refine lf (a_inv (b2 := (60 * bb, 300 * bb)) (m_thrown (by repeat (first | with_reducible exact hw | with_reducible exact hwc | with_reducible assumption | with_reducible apply Wf.sI | with_reducible apply Wf.sL | with_reducible apply Wf.cpI | with_reducible apply Wf.cpL | with_reducible apply Wf.cp2 | with_reducible apply Wf.sIs | with_reducible apply Wf.sLs | with_reducible apply Wf.cpU | with_reducible apply Wf.fillI | with_reducible apply Wf.clU | with_reducible apply Wf.dnF | with_reducible apply Wf.gbW))) rfl dL_law_888 yk_X11_thrown im_X11_thrown se_X11_thrown ml_L_114 rfl (co_338 (by repeat (first | with_reducible exact hw | with_reducible exact hwc | with_reducible assumption | with_reducible apply Wf.sI | with_reducible apply Wf.sL | with_reducible apply Wf.cpI | with_reducible apply Wf.cpL | with_reducible apply Wf.cp2 | with_reducible apply Wf.sIs | with_reducible apply Wf.sLs | with_reducible apply Wf.cpU | with_reducible apply Wf.fillI | with_reducible apply Wf.clU | with_reducible apply Wf.dnF | with_reducible apply Wf.gbW))) (by decide) hc_X11 (by decide) ⟨by show 0 + 60 * bb ≤ 60 * bb; omega, by show 0 + 300 * bb ≤ 300 * bb; omega⟩ (Nat.le_of_ble_eq_true rfl)) ?_
      refine lf (a_iload dL_law_891 rfl) ?_
      refine lf2 (a_icmp_eq (tgt := 898) dL_law_893 (by decide)) (fun h893 => ?_) (fun h893 => absurd h893 (fun z => z k0))
      refine lf (a_iload dL_law_898 rfl) ?_
      refine lfn (a_if_ne (tgt := 915) dL_law_900 (by decide)) (fun h900 => ?_) (fun h900 => absurd h900 (by decide))
      refine lf (a_goto (tgt := 1976) dL_law_915 (by decide)) ?_
      exact lf (a_loc (LAw i) rfl) (kx V hr hX2)
    · obtain ⟨z, V, tz, km, k0, hr, hv, hx⟩ := hk W (Out.rfl' hW)
      obtain ⟨z, rfl⟩ := tz
      have hX1 : gX W = X := hg.trans hX
      have hX2 : gX V = X := hx.trans hX1
      have hV := hr.wf
      refine lf (a_aload_n dL_law_838 rfl) ?_
      refine lf (a_aload_n dL_law_839 rfl) ?_
      refine lf (a_iload dL_law_840 rfl) ?_
      refine lf (a_iconst (1 : Int32) dL_law_842 (by decide)) ?_
      refine lf (a_iadd dL_law_843) ?_
      refine lf (a_sld dL_law_844 hX (ix_s (k := 1) rfl (show i + 1 < X.1 by omega) (by omega))) ?_
      refine lf (a_aload_n dL_law_845 rfl) ?_
      refine lf (a_iload dL_law_846 rfl) ?_
      refine lf (a_iconst (2 : Int32) dL_law_848 (by decide)) ?_
      refine lf (a_iadd dL_law_849) ?_
      refine lf (a_sld dL_law_850 hX (ix_s (k := 2) rfl (show i + 2 < X.1 by omega) (by omega))) ?_
      refine lf (a_aload_n dL_law_851 rfl) ?_
      refine lf (a_iload dL_law_852 rfl) ?_
      refine lf (a_iconst (3 : Int32) dL_law_854 (by decide)) ?_
      refine lf (a_iadd dL_law_855) ?_
      refine lf (a_sld dL_law_856 hX (ix_s (k := 3) rfl (show i + 3 < X.1 by omega) (by omega))) ?_
      refine lf (a_aload_n dL_law_857 rfl) ?_
      refine lf (a_invSH (b2 := (60 * bb, 300 * bb)) (wx_board_2 (by repeat (first | with_reducible exact hw | with_reducible exact hwc | with_reducible assumption | with_reducible apply Wf.sI | with_reducible apply Wf.sL | with_reducible apply Wf.cpI | with_reducible apply Wf.cpL | with_reducible apply Wf.cp2 | with_reducible apply Wf.sIs | with_reducible apply Wf.sLs | with_reducible apply Wf.cpU | with_reducible apply Wf.fillI | with_reducible apply Wf.clU | with_reducible apply Wf.dnF | with_reducible apply Wf.gbW)) (X.2 (i + 1)) (X.2 (i + 2)) (X.2 (i + 3)) hc) rfl dL_law_858 yh_L_board sm_L_board ml_L_151 rfl (by decide) ⟨by show 1 + 60 * bb ≤ 60 * (bb + 1); omega, by show 6 + 300 * bb ≤ 300 * (bb + 1); omega⟩ (Nat.le_of_ble_eq_true rfl)) ?_
      refine lf (a_istore dL_law_861 (by decide)) ?_
      refine lf (a_aload_n dL_law_863 rfl) ?_
      refine lf (a_aload_n dL_law_864 rfl) ?_
      refine lf (a_iload dL_law_865 rfl) ?_
      refine lf (a_iconst (1 : Int32) dL_law_867 (by decide)) ?_
      refine lf (a_iadd dL_law_868) ?_
      refine lf (a_sld dL_law_869 hX1 (ix_s (k := 1) rfl (show i + 1 < X.1 by omega) (by omega))) ?_
      refine lf (a_aload_n dL_law_870 rfl) ?_
      refine lf (a_iload dL_law_871 rfl) ?_
      refine lf (a_iconst (2 : Int32) dL_law_873 (by decide)) ?_
      refine lf (a_iadd dL_law_874) ?_
      refine lf (a_sld dL_law_875 hX1 (ix_s (k := 2) rfl (show i + 2 < X.1 by omega) (by omega))) ?_
      refine lf (a_aload_n dL_law_876 rfl) ?_
      refine lf (a_iload dL_law_877 rfl) ?_
      refine lf (a_iconst (3 : Int32) dL_law_879 (by decide)) ?_
      refine lf (a_iadd dL_law_880) ?_
      refine lf (a_sld dL_law_881 hX1 (ix_s (k := 3) rfl (show i + 3 < X.1 by omega) (by omega))) ?_
      refine lf (a_inv (b2 := (60 * bb, 300 * bb)) km rfl dL_law_882 yk_X11_board im_X11_board se_X11_board ml_L_154 rfl (co_338 (by repeat (first | with_reducible exact hw | with_reducible exact hwc | with_reducible assumption | with_reducible apply Wf.sI | with_reducible apply Wf.sL | with_reducible apply Wf.cpI | with_reducible apply Wf.cpL | with_reducible apply Wf.cp2 | with_reducible apply Wf.sIs | with_reducible apply Wf.sLs | with_reducible apply Wf.cpU | with_reducible apply Wf.fillI | with_reducible apply Wf.clU | with_reducible apply Wf.dnF | with_reducible apply Wf.gbW))) (by decide) hc_X11 (by decide) ⟨by show 0 + 60 * bb ≤ 60 * bb; omega, by show 0 + 300 * bb ≤ 300 * bb; omega⟩ (Nat.le_of_ble_eq_true rfl)) ?_
      refine lf (a_istore dL_law_885 (by decide)) ?_
      refine lf (a_aload_n dL_law_887 rfl) ?_
      refine lf (a_inv (b2 := (60 * bb, 300 * bb)) (m_thrown (by repeat (first | with_reducible exact hw | with_reducible exact hwc | with_reducible assumption | with_reducible apply Wf.sI | with_reducible apply Wf.sL | with_reducible apply Wf.cpI | with_reducible apply Wf.cpL | with_reducible apply Wf.cp2 | with_reducible apply Wf.sIs | with_reducible apply Wf.sLs | with_reducible apply Wf.cpU | with_reducible apply Wf.fillI | with_reducible apply Wf.clU | with_reducible apply Wf.dnF | with_reducible apply Wf.gbW))) rfl dL_law_888 yk_X11_thrown im_X11_thrown se_X11_thrown ml_L_114 rfl (co_338 (by repeat (first | with_reducible exact hw | with_reducible exact hwc | with_reducible assumption | with_reducible apply Wf.sI | with_reducible apply Wf.sL | with_reducible apply Wf.cpI | with_reducible apply Wf.cpL | with_reducible apply Wf.cp2 | with_reducible apply Wf.sIs | with_reducible apply Wf.sLs | with_reducible apply Wf.cpU | with_reducible apply Wf.fillI | with_reducible apply Wf.clU | with_reducible apply Wf.dnF | with_reducible apply Wf.gbW))) (by decide) hc_X11 (by decide) ⟨by show 0 + 60 * bb ≤ 60 * bb; omega, by show 0 + 300 * bb ≤ 300 * bb; omega⟩ (Nat.le_of_ble_eq_true rfl)) ?_
      refine lf (a_iload dL_law_891 rfl) ?_
      refine lf2 (a_icmp_eq (tgt := 898) dL_law_893 (by decide)) (fun h893 => ?_) (fun h893 => absurd h893 (fun z => z k0))
      refine lf (a_iload dL_law_898 rfl) ?_
      refine lfn (a_if_ne (tgt := 915) dL_law_900 (by decide)) (fun h900 => ?_) (fun h900 => absurd h900 (by decide))
      refine lf (a_goto (tgt := 1976) dL_law_915 (by decide)) ?_
      exact lf (a_loc (LAw i) rfl) (kx V hr hX2)
    · obtain ⟨z, V, tz, km, k0, hr, hv, hx⟩ := hk W (Out.rfl' hW)
      obtain ⟨z, rfl⟩ := tz
      have hX1 : gX W = X := hg.trans hX
      have hX2 : gX V = X := hx.trans hX1
      have hV := hr.wf
      refine lf (a_aload_n dL_law_838 rfl) ?_
      refine lf (a_aload_n dL_law_839 rfl) ?_
      refine lf (a_iload dL_law_840 rfl) ?_
      refine lf (a_iconst (1 : Int32) dL_law_842 (by decide)) ?_
      refine lf (a_iadd dL_law_843) ?_
      refine lf (a_sld dL_law_844 hX (ix_s (k := 1) rfl (show i + 1 < X.1 by omega) (by omega))) ?_
      refine lf (a_aload_n dL_law_845 rfl) ?_
      refine lf (a_iload dL_law_846 rfl) ?_
      refine lf (a_iconst (2 : Int32) dL_law_848 (by decide)) ?_
      refine lf (a_iadd dL_law_849) ?_
      refine lf (a_sld dL_law_850 hX (ix_s (k := 2) rfl (show i + 2 < X.1 by omega) (by omega))) ?_
      refine lf (a_aload_n dL_law_851 rfl) ?_
      refine lf (a_iload dL_law_852 rfl) ?_
      refine lf (a_iconst (3 : Int32) dL_law_854 (by decide)) ?_
      refine lf (a_iadd dL_law_855) ?_
      refine lf (a_sld dL_law_856 hX (ix_s (k := 3) rfl (show i + 3 < X.1 by omega) (by omega))) ?_
      refine lf (a_aload_n dL_law_857 rfl) ?_
      refine lf (a_invSH (b2 := (60 * bb, 300 * bb)) (wx_board_3 (by repeat (first | with_reducible exact hw | with_reducible exact hwc | with_reducible assumption | with_reducible apply Wf.sI | with_reducible apply Wf.sL | with_reducible apply Wf.cpI | with_reducible apply Wf.cpL | with_reducible apply Wf.cp2 | with_reducible apply Wf.sIs | with_reducible apply Wf.sLs | with_reducible apply Wf.cpU | with_reducible apply Wf.fillI | with_reducible apply Wf.clU | with_reducible apply Wf.dnF | with_reducible apply Wf.gbW)) (X.2 (i + 1)) (X.2 (i + 2)) (X.2 (i + 3)) hc) rfl dL_law_858 yh_L_board sm_L_board ml_L_151 rfl (by decide) ⟨by show 1 + 60 * bb ≤ 60 * (bb + 1); omega, by show 6 + 300 * bb ≤ 300 * (bb + 1); omega⟩ (Nat.le_of_ble_eq_true rfl)) ?_
      refine lf (a_istore dL_law_861 (by decide)) ?_
      refine lf (a_aload_n dL_law_863 rfl) ?_
      refine lf (a_aload_n dL_law_864 rfl) ?_
      refine lf (a_iload dL_law_865 rfl) ?_
      refine lf (a_iconst (1 : Int32) dL_law_867 (by decide)) ?_
      refine lf (a_iadd dL_law_868) ?_
      refine lf (a_sld dL_law_869 hX1 (ix_s (k := 1) rfl (show i + 1 < X.1 by omega) (by omega))) ?_
      refine lf (a_aload_n dL_law_870 rfl) ?_
      refine lf (a_iload dL_law_871 rfl) ?_
      refine lf (a_iconst (2 : Int32) dL_law_873 (by decide)) ?_
      refine lf (a_iadd dL_law_874) ?_
      refine lf (a_sld dL_law_875 hX1 (ix_s (k := 2) rfl (show i + 2 < X.1 by omega) (by omega))) ?_
      refine lf (a_aload_n dL_law_876 rfl) ?_
      refine lf (a_iload dL_law_877 rfl) ?_
      refine lf (a_iconst (3 : Int32) dL_law_879 (by decide)) ?_
      refine lf (a_iadd dL_law_880) ?_
      refine lf (a_sld dL_law_881 hX1 (ix_s (k := 3) rfl (show i + 3 < X.1 by omega) (by omega))) ?_
      refine lf (a_inv (b2 := (60 * bb, 300 * bb)) km rfl dL_law_882 yk_X11_board im_X11_board se_X11_board ml_L_154 rfl (co_338 (by repeat (first | with_reducible exact hw | with_reducible exact hwc | with_reducible assumption | with_reducible apply Wf.sI | with_reducible apply Wf.sL | with_reducible apply Wf.cpI | with_reducible apply Wf.cpL | with_reducible apply Wf.cp2 | with_reducible apply Wf.sIs | with_reducible apply Wf.sLs | with_reducible apply Wf.cpU | with_reducible apply Wf.fillI | with_reducible apply Wf.clU | with_reducible apply Wf.dnF | with_reducible apply Wf.gbW))) (by decide) hc_X11 (by decide) ⟨by show 0 + 60 * bb ≤ 60 * bb; omega, by show 0 + 300 * bb ≤ 300 * bb; omega⟩ (Nat.le_of_ble_eq_true rfl)) ?_
      refine lf (a_istore dL_law_885 (by decide)) ?_
      refine lf (a_aload_n dL_law_887 rfl) ?_
      refine lf (a_inv (b2 := (60 * bb, 300 * bb)) (m_thrown (by repeat (first | with_reducible exact hw | with_reducible exact hwc | with_reducible assumption | with_reducible apply Wf.sI | with_reducible apply Wf.sL | with_reducible apply Wf.cpI | with_reducible apply Wf.cpL | with_reducible apply Wf.cp2 | with_reducible apply Wf.sIs | with_reducible apply Wf.sLs | with_reducible apply Wf.cpU | with_reducible apply Wf.fillI | with_reducible apply Wf.clU | with_reducible apply Wf.dnF | with_reducible apply Wf.gbW))) rfl dL_law_888 yk_X11_thrown im_X11_thrown se_X11_thrown ml_L_114 rfl (co_338 (by repeat (first | with_reducible exact hw | with_reducible exact hwc | with_reducible assumption | with_reducible apply Wf.sI | with_reducible apply Wf.sL | with_reducible apply Wf.cpI | with_reducible apply Wf.cpL | with_reducible apply Wf.cp2 | with_reducible apply Wf.sIs | with_reducible apply Wf.sLs | with_reducible apply Wf.cpU | with_reducible apply Wf.fillI | with_reducible apply Wf.clU | with_reducible apply Wf.dnF | with_reducible apply Wf.gbW))) (by decide) hc_X11 (by decide) ⟨by show 0 + 60 * bb ≤ 60 * bb; omega, by show 0 + 300 * bb ≤ 300 * bb; omega⟩ (Nat.le_of_ble_eq_true rfl)) ?_
      refine lf (a_iload dL_law_891 rfl) ?_
      refine lf2 (a_icmp_eq (tgt := 898) dL_law_893 (by decide)) (fun h893 => ?_) (fun h893 => absurd h893 (fun z => z k0))
      refine lf (a_iload dL_law_898 rfl) ?_
      refine lfn (a_if_ne (tgt := 915) dL_law_900 (by decide)) (fun h900 => ?_) (fun h900 => absurd h900 (by decide))
      refine lf (a_goto (tgt := 1976) dL_law_915 (by decide)) ?_
      exact lf (a_loc (LAw i) rfl) (kx V hr hX2)
end STEPS
