/-! the law: call by call -/
theorem y_scr {g : xG} {nm : String} {d k n i j : Nat} {Q : Option Value → xS → Prop} {pc : Nat} {ls : List (Option Value)} {st : List Value} {σ : xS} {c : Int32} (hd : decode cL_law pc = .ok (.iaload, 1)) (hL : g.2.2.2.2.2.2.1 ≤ 3072) (hc : c = nI j) (hin : i + j < g.2.2.2.2.2.2.1) (kk : xX g (Y_law nm) d k n Q (pc + 1) ls (.int (g.2.2.2.2.2.2.2 (i + j)) :: st) σ) : xX g (Y_law nm) d k n Q pc ls (.int (nI i + c) :: .ref 2 :: st) σ := by
  have e : nI i + c = nI (i + j) := by rw [hc, nI_add]
  rw [e]
  refine x_oaload hd xOa_S (vi (j := i + j) rfl hin (by omega)) ?_
  rw [nI_clamp (by omega)]
  exact kk
theorem lcmp_e {x : Int64} : lg_cmp x x = 0 := by unfold lg_cmp; simp
theorem img_fin {nx : Nat} {sh : Nat → Nat × Nat} {P P1 : Nat → Nat → Option Nat} {I I1 I2 : Nat → Nat → Int32} (h : xIv nx sh P I) (hx1 : xFx sh P1) (hF1 : xFrm [64, 81, 82, 83, 84, 85, 86, 87, 88, 89, 90, 91, 92, 93, 94, 95] I I1) (c2 : I1 64 2 = 1) (hW1 : xWN nx sh P1 I1 (I 128)) (hK1 : xWK nx sh P1 I1 (I 128)) (q9 : ∀ j, j < 932 → I2 129 j = I1 128 j) (q3 : I2 127 3 = 1) (hF2 : xFrm [127, 129] I1 I2) (qj : ∀ j, j ≠ 3 → I2 127 j = I1 127 j) : xIv nx sh P1 I2 := by
  have hr := h.ri
  have hn := h.nx
  obtain ⟨n, n1, n2, n3, n4⟩ := h.2.2.2.2.2.2.2
  have e8 : I1 128 = I 128 := hF1 128 (by decide)
  have f8 : I2 128 = I 128 := (hF2 128 (by decide)).trans e8
  have c9 : ∀ j, j < 932 → I2 129 j = I 128 j := fun j hj => (q9 j hj).trans (by rw [e8])
  have e : ∀ b, 96 ≤ b → ¬ b = 127 → ¬ b = 129 → I2 b = I b := fun b b1 b2 b3 => (hF2 b (fun z => by simp at z; omega)).trans (hF1 b (fun z => by simp at z; omega))
  refine ⟨hn, hx1, by rw [f8]; exact hr, by rw [f8]; exact hW1.fl hF2, (xKE.of hK1).fr (fun b b1 b2 => hF2 b (fun z => by simp at z; omega)), ?_, fun _ => ⟨hr.cg c9, (hK1.fr (fun a ha => hF2 a (fun z => by simp at z; omega))).cg hr c9⟩, n, n1, ?_, ?_, ?_⟩
  · rw [hF2 64 (by decide), c2, q3]
  · rw [e 125 (by omega) (by omega) (by omega)]; exact n2
  · rw [qj 30 (by decide), hF1 127 (by decide)]; exact n3
  · rw [e 126 (by omega) (by omega) (by omega), e 143 (by omega) (by omega) (by omega)]; exact n4
theorem und_fin {nx : Nat} {sh : Nat → Nat × Nat} {P P1 : Nat → Nat → Option Nat} {I I1 I2 : Nat → Nat → Int32} (h : xIv nx sh P I) (hb : ¬ I 127 3 = 0) (hx1 : xFx sh P1) (hF1 : xFrm [65, 66, 67, 68, 69, 70, 71, 72, 73, 74, 75, 76, 77, 78, 79] I I1) (hW1 : xWN nx sh P1 I1 (I 129)) (hK1 : xWK nx sh P1 I1 (I 129)) (q8 : ∀ j, j < 932 → I2 128 j = I1 129 j) (hF2 : xFrm [128] I1 I2) : xIv nx sh P1 I2 := by
  have hn := h.nx
  obtain ⟨n, n1, n2, n3, n4⟩ := h.2.2.2.2.2.2.2
  have hk := h.2.2.2.2.2.2.1 hb
  have hr := hk.1
  have h6 := h.2.2.2.2.2.1
  have e9 : I1 129 = I 129 := hF1 129 (by decide)
  have e : ∀ b, 80 ≤ b ∨ b = 64 → ¬ b = 128 → I2 b = I b := fun b b1 b2 => (hF2 b (fun z => by simp at z; omega)).trans (hF1 b (fun z => by simp at z; omega))
  have c8 : ∀ j, j < 932 → I2 128 j = I 129 j := fun j hj => (q8 j hj).trans (by rw [e9])
  refine ⟨hn, hx1, hr.cg c8, (hW1.fl hF2).cg hr c8, (xKE.of hK1).fr (fun b b1 b2 => hF2 b (fun z => by simp at z; omega)), ?_, fun _ => ?_, n, n1, ?_, ?_, ?_⟩
  · rw [e 64 (by omega) (by omega), e 127 (by omega) (by omega)]; exact h6
  · rw [e 129 (by omega) (by omega)]
    exact ⟨hr, hK1.fr (fun a ha => hF2 a (fun z => by simp at z; omega))⟩
  · rw [e 125 (by omega) (by omega)]; exact n2
  · rw [e 127 (by omega) (by omega)]; exact n3
  · rw [e 126 (by omega) (by omega), e 143 (by omega) (by omega)]; exact n4
set_option maxHeartbeats 4000000 in
set_option maxRecDepth 100000 in
theorem lw_c_feed {g : xG} {nx : Nat} {sh : Nat → Nat × Nat} {P : Nat → Nat → Option Nat} {I : Nat → Nat → Int32} {nm : String} {Q : Option Value → xS → Prop} {i k n : Nat} (h : xIv nx sh P I) (hL : g.2.2.2.2.2.2.1 ≤ 3072) (hi : i + 6 ≤ g.2.2.2.2.2.2.1) (kk : xLp g nm Q i k n) : xX g (Y_law nm) 30 (k + 22) (n + 1042) Q 208 (lwL i) [] (nx, sh, P, I) := by
  refine x_aload_n dL_law_208 rfl ?_
  refine x_aload_n dL_law_209 rfl ?_
  refine x_iload_n dL_law_210 rfl ?_
  refine x_iconst (v := 1) dL_law_211 (by decide) ?_
  refine x_iadd dL_law_212 ?_
  refine y_scr (j := 1) dL_law_213 hL rfl (by omega) ?_
  refine x_callV (k2 := (k + 22)) (n2 := (n + 1042)) dL_law_214 LV_Law_13 (m_C_feed h.fx h.wn h.ri) rfl rfl (fxo_64 h.fx) rfl (Nat.le_of_ble_eq_true rfl) (Nat.le_of_ble_eq_true rfl) (by omega) (by omega) ?_
  rintro _ _ ⟨I1, rfl, rfl, hW1, hF1⟩
  have e8 : I1 128 = I 128 := hF1 128 (by decide)
  refine x_aload_n dL_law_217 rfl ?_
  refine x_aload_n dL_law_218 rfl ?_
  refine x_iload_n dL_law_219 rfl ?_
  refine x_iconst (v := 1) dL_law_220 (by decide) ?_
  refine x_iadd dL_law_221 ?_
  refine y_scr (j := 1) dL_law_222 hL rfl (by omega) ?_
  refine x_callV (k2 := (k + 22)) (n2 := (n + 1042)) dL_law_223 LV_Law_17 (r_feed (I := I1) h.fx (by rw [e8]; exact h.ri)) rfl rfl (fxo_127 h.fx) rfl (Nat.le_of_ble_eq_true rfl) (Nat.le_of_ble_eq_true rfl) (by omega) (by omega) ?_
  rintro _ _ ⟨I2, rfl, rfl, e2, hF2⟩
  rw [e8] at e2
  rw [e8]
  refine x_icmp_eq (tgt := 1322) dL_law_226 rfl (fun _ => ?_) (fun c => absurd rfl c)
  exact (kk _ _ _ _ (h.tl hW1 hF1 e2 hF2 h.ri.feed)).more
set_option maxHeartbeats 4000000 in
set_option maxRecDepth 100000 in
theorem lw_c_land {g : xG} {nx : Nat} {sh : Nat → Nat × Nat} {P : Nat → Nat → Option Nat} {I : Nat → Nat → Int32} {nm : String} {Q : Option Value → xS → Prop} {i k n : Nat} (h : xIv nx sh P I) (hL : g.2.2.2.2.2.2.1 ≤ 3072) (hi : i + 6 ≤ g.2.2.2.2.2.2.1) (kk : xLp g nm Q i k n) : xX g (Y_law nm) 30 (k + 22) (n + 1042) Q 231 (lwL i) [] (nx, sh, P, I) := by
  refine x_aload_n dL_law_231 rfl ?_
  refine x_callV (k2 := k) (n2 := n) dL_law_232 LV_Law_18 (m_C_land h.fx h.wn h.ri h.nx) rfl rfl (fxo_64 h.fx) rfl (Nat.le_of_ble_eq_true rfl) (Nat.le_of_ble_eq_true rfl) (by omega) (by omega) ?_
  rintro _ _ ⟨nx1, sh1, P1, I1, a, rfl, rfl, hle, hS, hP, hJ, hor⟩
  have e8 : I1 128 = I 128 := hJ 128 (by have := h.nx; omega) (by decide)
  have hx1 := fx_gr h.fx h.nx hS hP
  refine x_aload_n dL_law_235 rfl ?_
  refine x_callV (k2 := k) (n2 := n) dL_law_236 LV_Law_22 (r_land (I := I1) hx1 (by rw [e8]; exact h.ri)) rfl rfl (fxo_127 hx1) rfl (Nat.le_of_ble_eq_true rfl) (Nat.le_of_ble_eq_true rfl) (by omega) (by omega) ?_
  rintro _ _ ⟨I2, a2, rfl, rfl, hF2, hD2, hor2⟩
  rw [e8] at hor2
  obtain ⟨hea, hv⟩ := lnd_fin h rfl hle hS hP hJ hor hF2 hD2 hor2
  subst hea
  refine x_icmp_eq (tgt := 1322) dL_law_239 rfl (fun _ => ?_) (fun c => absurd rfl c)
  exact kk _ _ _ _ hv
set_option maxHeartbeats 4000000 in
set_option maxRecDepth 100000 in
theorem lw_c_coin {g : xG} {nx : Nat} {sh : Nat → Nat × Nat} {P : Nat → Nat → Option Nat} {I : Nat → Nat → Int32} {nm : String} {Q : Option Value → xS → Prop} {i k n : Nat} (h : xIv nx sh P I) (hL : g.2.2.2.2.2.2.1 ≤ 3072) (hi : i + 6 ≤ g.2.2.2.2.2.2.1) (kk : xLp g nm Q i k n) : xX g (Y_law nm) 30 (k + 22) (n + 1042) Q 244 (lwL i) [] (nx, sh, P, I) := by
  refine x_aload_n dL_law_244 rfl ?_
  refine x_aload_n dL_law_245 rfl ?_
  refine x_iload_n dL_law_246 rfl ?_
  refine x_iconst (v := 1) dL_law_247 (by decide) ?_
  refine x_iadd dL_law_248 ?_
  refine y_scr (j := 1) dL_law_249 hL rfl (by omega) ?_
  refine x_aload_n dL_law_250 rfl ?_
  refine x_iload_n dL_law_251 rfl ?_
  refine x_iconst (v := 2) dL_law_252 (by decide) ?_
  refine x_iadd dL_law_253 ?_
  refine y_scr (j := 2) dL_law_254 hL rfl (by omega) ?_
  refine x_aload_n dL_law_255 rfl ?_
  refine x_iload_n dL_law_256 rfl ?_
  refine x_iconst (v := 3) dL_law_257 (by decide) ?_
  refine x_iadd dL_law_258 ?_
  refine y_scr (j := 3) dL_law_259 hL rfl (by omega) ?_
  refine x_aload_n dL_law_260 rfl ?_
  refine x_iload_n dL_law_261 rfl ?_
  refine x_iconst (v := 4) dL_law_262 (by decide) ?_
  refine x_iadd dL_law_263 ?_
  refine y_scr (j := 4) dL_law_264 hL rfl (by omega) ?_
  refine x_callV (k2 := (k + 22)) (n2 := (n + 1042)) dL_law_265 LV_Law_23 (m_C_coin h.fx h.wn h.ri) rfl rfl (fxo_64 h.fx) rfl (Nat.le_of_ble_eq_true rfl) (Nat.le_of_ble_eq_true rfl) (by omega) (by omega) ?_
  rintro _ _ ⟨I1, rfl, rfl, hW1, hF1⟩
  have e8 : I1 128 = I 128 := hF1 128 (by decide)
  refine x_aload_n dL_law_268 rfl ?_
  refine x_aload_n dL_law_269 rfl ?_
  refine x_iload_n dL_law_270 rfl ?_
  refine x_iconst (v := 1) dL_law_271 (by decide) ?_
  refine x_iadd dL_law_272 ?_
  refine y_scr (j := 1) dL_law_273 hL rfl (by omega) ?_
  refine x_aload_n dL_law_274 rfl ?_
  refine x_iload_n dL_law_275 rfl ?_
  refine x_iconst (v := 2) dL_law_276 (by decide) ?_
  refine x_iadd dL_law_277 ?_
  refine y_scr (j := 2) dL_law_278 hL rfl (by omega) ?_
  refine x_aload_n dL_law_279 rfl ?_
  refine x_iload_n dL_law_280 rfl ?_
  refine x_iconst (v := 3) dL_law_281 (by decide) ?_
  refine x_iadd dL_law_282 ?_
  refine y_scr (j := 3) dL_law_283 hL rfl (by omega) ?_
  refine x_aload_n dL_law_284 rfl ?_
  refine x_iload_n dL_law_285 rfl ?_
  refine x_iconst (v := 4) dL_law_286 (by decide) ?_
  refine x_iadd dL_law_287 ?_
  refine y_scr (j := 4) dL_law_288 hL rfl (by omega) ?_
  refine x_callV (k2 := (k + 22)) (n2 := (n + 1042)) dL_law_289 LV_Law_27 (r_coin (I := I1) h.fx (by rw [e8]; exact h.ri)) rfl rfl (fxo_127 h.fx) rfl (Nat.le_of_ble_eq_true rfl) (Nat.le_of_ble_eq_true rfl) (by omega) (by omega) ?_
  rintro _ _ ⟨I2, rfl, rfl, e2, hF2⟩
  rw [e8] at e2
  rw [e8]
  refine x_icmp_eq (tgt := 1322) dL_law_292 rfl (fun _ => ?_) (fun c => absurd rfl c)
  exact (kk _ _ _ _ (h.tl hW1 hF1 e2 hF2 h.ri.coin)).more
set_option maxHeartbeats 4000000 in
set_option maxRecDepth 100000 in
theorem lw_c_of {g : xG} {nx : Nat} {sh : Nat → Nat × Nat} {P : Nat → Nat → Option Nat} {I : Nat → Nat → Int32} {nm : String} {Q : Option Value → xS → Prop} {i k n : Nat} (h : xIv nx sh P I) (hL : g.2.2.2.2.2.2.1 ≤ 3072) (hi : i + 6 ≤ g.2.2.2.2.2.2.1) (kk : xLp g nm Q i k n) : xX g (Y_law nm) 30 (k + 22) (n + 1042) Q 297 (lwL i) [] (nx, sh, P, I) := by
  refine x_aload_n dL_law_297 rfl ?_
  refine x_aload_n dL_law_298 rfl ?_
  refine x_iload_n dL_law_299 rfl ?_
  refine x_iconst (v := 1) dL_law_300 (by decide) ?_
  refine x_iadd dL_law_301 ?_
  refine y_scr (j := 1) dL_law_302 hL rfl (by omega) ?_
  refine x_aload_n dL_law_303 rfl ?_
  refine x_iload_n dL_law_304 rfl ?_
  refine x_iconst (v := 2) dL_law_305 (by decide) ?_
  refine x_iadd dL_law_306 ?_
  refine y_scr (j := 2) dL_law_307 hL rfl (by omega) ?_
  refine x_callV (k2 := (k + 22)) (n2 := (n + 1042)) dL_law_308 LV_Law_28 (m_C_of h.fx h.wn h.ri) rfl rfl (fxo_64 h.fx) rfl (Nat.le_of_ble_eq_true rfl) (Nat.le_of_ble_eq_true rfl) (by omega) (by omega) ?_
  rintro _ _ ⟨I1, rfl, rfl, hF1⟩
  have e8 : I1 128 = I 128 := hF1 128 (by decide)
  have h1 := h.cq hF1
  refine x_aload_n dL_law_311 rfl ?_
  refine x_aload_n dL_law_312 rfl ?_
  refine x_iload_n dL_law_313 rfl ?_
  refine x_iconst (v := 1) dL_law_314 (by decide) ?_
  refine x_iadd dL_law_315 ?_
  refine y_scr (j := 1) dL_law_316 hL rfl (by omega) ?_
  refine x_aload_n dL_law_317 rfl ?_
  refine x_iload_n dL_law_318 rfl ?_
  refine x_iconst (v := 2) dL_law_319 (by decide) ?_
  refine x_iadd dL_law_320 ?_
  refine y_scr (j := 2) dL_law_321 hL rfl (by omega) ?_
  refine x_callV (k2 := (k + 22)) (n2 := (n + 1042)) dL_law_322 LV_Law_32 (r_of (I := I1) h1.fx h1.ri) rfl rfl (fxo_127 h1.fx) rfl (Nat.le_of_ble_eq_true rfl) (Nat.le_of_ble_eq_true rfl) (by omega) (by omega) ?_
  rintro _ _ ⟨I2, rfl, rfl, hF2⟩
  rw [e8]
  refine x_icmp_eq (tgt := 1322) dL_law_325 rfl (fun _ => ?_) (fun c => absurd rfl c)
  exact (kk _ _ _ _ (h1.rq hF2 (hF2 128 (by decide)) (congrFun (hF2 127 (by decide)) 3) (congrFun (hF2 127 (by decide)) 30))).more
set_option maxHeartbeats 4000000 in
set_option maxRecDepth 100000 in
theorem lw_c_row {g : xG} {nx : Nat} {sh : Nat → Nat × Nat} {P : Nat → Nat → Option Nat} {I : Nat → Nat → Int32} {nm : String} {Q : Option Value → xS → Prop} {i k n : Nat} (h : xIv nx sh P I) (hL : g.2.2.2.2.2.2.1 ≤ 3072) (hi : i + 6 ≤ g.2.2.2.2.2.2.1) (kk : xLp g nm Q i k n) : xX g (Y_law nm) 30 (k + 22) (n + 1042) Q 330 (lwL i) [] (nx, sh, P, I) := by
  refine x_aload_n dL_law_330 rfl ?_
  refine x_aload_n dL_law_331 rfl ?_
  refine x_iload_n dL_law_332 rfl ?_
  refine x_iconst (v := 1) dL_law_333 (by decide) ?_
  refine x_iadd dL_law_334 ?_
  refine y_scr (j := 1) dL_law_335 hL rfl (by omega) ?_
  refine x_aload_n dL_law_336 rfl ?_
  refine x_iload_n dL_law_337 rfl ?_
  refine x_iconst (v := 2) dL_law_338 (by decide) ?_
  refine x_iadd dL_law_339 ?_
  refine y_scr (j := 2) dL_law_340 hL rfl (by omega) ?_
  refine x_aload_n dL_law_341 rfl ?_
  refine x_iload_n dL_law_342 rfl ?_
  refine x_iconst (v := 3) dL_law_343 (by decide) ?_
  refine x_iadd dL_law_344 ?_
  refine y_scr (j := 3) dL_law_345 hL rfl (by omega) ?_
  refine x_callV (k2 := (k + 22)) (n2 := (n + 1042)) dL_law_346 LV_Law_33 (m_C_row h.fx h.wn h.ri) rfl rfl (fxo_64 h.fx) rfl (Nat.le_of_ble_eq_true rfl) (Nat.le_of_ble_eq_true rfl) (by omega) (by omega) ?_
  rintro _ _ ⟨I1, rfl, rfl, hW1, hF1⟩
  have e8 : I1 128 = I 128 := hF1 128 (by decide)
  refine x_aload_n dL_law_349 rfl ?_
  refine x_aload_n dL_law_350 rfl ?_
  refine x_iload_n dL_law_351 rfl ?_
  refine x_iconst (v := 1) dL_law_352 (by decide) ?_
  refine x_iadd dL_law_353 ?_
  refine y_scr (j := 1) dL_law_354 hL rfl (by omega) ?_
  refine x_aload_n dL_law_355 rfl ?_
  refine x_iload_n dL_law_356 rfl ?_
  refine x_iconst (v := 2) dL_law_357 (by decide) ?_
  refine x_iadd dL_law_358 ?_
  refine y_scr (j := 2) dL_law_359 hL rfl (by omega) ?_
  refine x_aload_n dL_law_360 rfl ?_
  refine x_iload_n dL_law_361 rfl ?_
  refine x_iconst (v := 3) dL_law_362 (by decide) ?_
  refine x_iadd dL_law_363 ?_
  refine y_scr (j := 3) dL_law_364 hL rfl (by omega) ?_
  refine x_callV (k2 := (k + 22)) (n2 := (n + 1042)) dL_law_365 LV_Law_37 (r_row (I := I1) h.fx (by rw [e8]; exact h.ri)) rfl rfl (fxo_127 h.fx) rfl (Nat.le_of_ble_eq_true rfl) (Nat.le_of_ble_eq_true rfl) (by omega) (by omega) ?_
  rintro _ _ ⟨I2, rfl, rfl, e2, hF2⟩
  rw [e8] at e2
  rw [e8]
  refine x_icmp_eq (tgt := 1322) dL_law_368 rfl (fun _ => ?_) (fun c => absurd rfl c)
  exact (kk _ _ _ _ (h.tl hW1 hF1 e2 hF2 h.ri.row)).more
set_option maxHeartbeats 4000000 in
set_option maxRecDepth 100000 in
theorem lw_c_set {g : xG} {nx : Nat} {sh : Nat → Nat × Nat} {P : Nat → Nat → Option Nat} {I : Nat → Nat → Int32} {nm : String} {Q : Option Value → xS → Prop} {i k n : Nat} (h : xIv nx sh P I) (hL : g.2.2.2.2.2.2.1 ≤ 3072) (hi : i + 6 ≤ g.2.2.2.2.2.2.1) (kk : xLp g nm Q i k n) : xX g (Y_law nm) 30 (k + 22) (n + 1042) Q 373 (lwL i) [] (nx, sh, P, I) := by
  refine x_aload_n dL_law_373 rfl ?_
  refine x_aload_n dL_law_374 rfl ?_
  refine x_iload_n dL_law_375 rfl ?_
  refine x_iconst (v := 1) dL_law_376 (by decide) ?_
  refine x_iadd dL_law_377 ?_
  refine y_scr (j := 1) dL_law_378 hL rfl (by omega) ?_
  refine x_aload_n dL_law_379 rfl ?_
  refine x_iload_n dL_law_380 rfl ?_
  refine x_iconst (v := 2) dL_law_381 (by decide) ?_
  refine x_iadd dL_law_382 ?_
  refine y_scr (j := 2) dL_law_383 hL rfl (by omega) ?_
  refine x_aload_n dL_law_384 rfl ?_
  refine x_iload_n dL_law_385 rfl ?_
  refine x_iconst (v := 3) dL_law_386 (by decide) ?_
  refine x_iadd dL_law_387 ?_
  refine y_scr (j := 3) dL_law_388 hL rfl (by omega) ?_
  refine x_callV (k2 := (k + 22)) (n2 := (n + 1042)) dL_law_389 LV_Law_38 (m_C_set h.fx h.wn h.ri) rfl rfl (fxo_64 h.fx) rfl (Nat.le_of_ble_eq_true rfl) (Nat.le_of_ble_eq_true rfl) (by omega) (by omega) ?_
  rintro _ _ ⟨I1, rfl, rfl, hW1, hF1⟩
  have e8 : I1 128 = I 128 := hF1 128 (by decide)
  refine x_aload_n dL_law_392 rfl ?_
  refine x_aload_n dL_law_393 rfl ?_
  refine x_iload_n dL_law_394 rfl ?_
  refine x_iconst (v := 1) dL_law_395 (by decide) ?_
  refine x_iadd dL_law_396 ?_
  refine y_scr (j := 1) dL_law_397 hL rfl (by omega) ?_
  refine x_aload_n dL_law_398 rfl ?_
  refine x_iload_n dL_law_399 rfl ?_
  refine x_iconst (v := 2) dL_law_400 (by decide) ?_
  refine x_iadd dL_law_401 ?_
  refine y_scr (j := 2) dL_law_402 hL rfl (by omega) ?_
  refine x_aload_n dL_law_403 rfl ?_
  refine x_iload_n dL_law_404 rfl ?_
  refine x_iconst (v := 3) dL_law_405 (by decide) ?_
  refine x_iadd dL_law_406 ?_
  refine y_scr (j := 3) dL_law_407 hL rfl (by omega) ?_
  refine x_callV (k2 := (k + 22)) (n2 := (n + 1042)) dL_law_408 LV_Law_41 (r_set (I := I1) h.fx (by rw [e8]; exact h.ri)) rfl rfl (fxo_127 h.fx) rfl (Nat.le_of_ble_eq_true rfl) (Nat.le_of_ble_eq_true rfl) (by omega) (by omega) ?_
  rintro _ _ ⟨I2, rfl, rfl, e2, hF2⟩
  rw [e8] at e2
  rw [e8]
  refine x_icmp_eq (tgt := 1322) dL_law_411 rfl (fun _ => ?_) (fun c => absurd rfl c)
  exact (kk _ _ _ _ (h.tl hW1 hF1 e2 hF2 h.ri.set)).more
set_option maxHeartbeats 4000000 in
set_option maxRecDepth 100000 in
theorem lw_c_ware {g : xG} {nx : Nat} {sh : Nat → Nat × Nat} {P : Nat → Nat → Option Nat} {I : Nat → Nat → Int32} {nm : String} {Q : Option Value → xS → Prop} {i k n : Nat} (h : xIv nx sh P I) (hL : g.2.2.2.2.2.2.1 ≤ 3072) (hi : i + 6 ≤ g.2.2.2.2.2.2.1) (kk : xLp g nm Q i k n) : xX g (Y_law nm) 30 (k + 22) (n + 1042) Q 416 (lwL i) [] (nx, sh, P, I) := by
  refine x_aload_n dL_law_416 rfl ?_
  refine x_aload_n dL_law_417 rfl ?_
  refine x_iload_n dL_law_418 rfl ?_
  refine x_iconst (v := 1) dL_law_419 (by decide) ?_
  refine x_iadd dL_law_420 ?_
  refine y_scr (j := 1) dL_law_421 hL rfl (by omega) ?_
  refine x_callV (k2 := (k + 22)) (n2 := (n + 1042)) dL_law_422 LV_Law_42 (m_C_ware h.fx h.wn h.ri) rfl rfl (fxo_64 h.fx) rfl (Nat.le_of_ble_eq_true rfl) (Nat.le_of_ble_eq_true rfl) (by omega) (by omega) ?_
  rintro _ _ ⟨I1, rfl, rfl, hW1, hF1⟩
  have e8 : I1 128 = I 128 := hF1 128 (by decide)
  refine x_aload_n dL_law_425 rfl ?_
  refine x_aload_n dL_law_426 rfl ?_
  refine x_iload_n dL_law_427 rfl ?_
  refine x_iconst (v := 1) dL_law_428 (by decide) ?_
  refine x_iadd dL_law_429 ?_
  refine y_scr (j := 1) dL_law_430 hL rfl (by omega) ?_
  refine x_callV (k2 := (k + 22)) (n2 := (n + 1042)) dL_law_431 LV_Law_45 (r_ware (I := I1) h.fx (by rw [e8]; exact h.ri)) rfl rfl (fxo_127 h.fx) rfl (Nat.le_of_ble_eq_true rfl) (Nat.le_of_ble_eq_true rfl) (by omega) (by omega) ?_
  rintro _ _ ⟨I2, rfl, rfl, e2, hF2⟩
  rw [e8] at e2
  rw [e8]
  refine x_icmp_eq (tgt := 1322) dL_law_434 rfl (fun _ => ?_) (fun c => absurd rfl c)
  exact (kk _ _ _ _ (h.tl hW1 hF1 e2 hF2 h.ri.ware)).more
set_option maxHeartbeats 4000000 in
set_option maxRecDepth 100000 in
theorem lw_c_pass {g : xG} {nx : Nat} {sh : Nat → Nat × Nat} {P : Nat → Nat → Option Nat} {I : Nat → Nat → Int32} {nm : String} {Q : Option Value → xS → Prop} {i k n : Nat} (h : xIv nx sh P I) (hL : g.2.2.2.2.2.2.1 ≤ 3072) (hi : i + 6 ≤ g.2.2.2.2.2.2.1) (kk : xLp g nm Q i k n) : xX g (Y_law nm) 30 (k + 22) (n + 1042) Q 439 (lwL i) [] (nx, sh, P, I) := by
  refine x_aload_n dL_law_439 rfl ?_
  refine x_aload_n dL_law_440 rfl ?_
  refine x_iload_n dL_law_441 rfl ?_
  refine x_iconst (v := 1) dL_law_442 (by decide) ?_
  refine x_iadd dL_law_443 ?_
  refine y_scr (j := 1) dL_law_444 hL rfl (by omega) ?_
  refine x_callV (k2 := (k + 22)) (n2 := (n + 1042)) dL_law_445 LV_Law_46 (m_C_pass h.fx h.wn h.ri) rfl rfl (fxo_64 h.fx) rfl (Nat.le_of_ble_eq_true rfl) (Nat.le_of_ble_eq_true rfl) (by omega) (by omega) ?_
  rintro _ _ ⟨I1, rfl, rfl, hW1, hF1⟩
  have e8 : I1 128 = I 128 := hF1 128 (by decide)
  refine x_aload_n dL_law_448 rfl ?_
  refine x_aload_n dL_law_449 rfl ?_
  refine x_iload_n dL_law_450 rfl ?_
  refine x_iconst (v := 1) dL_law_451 (by decide) ?_
  refine x_iadd dL_law_452 ?_
  refine y_scr (j := 1) dL_law_453 hL rfl (by omega) ?_
  refine x_callV (k2 := (k + 22)) (n2 := (n + 1042)) dL_law_454 LV_Law_49 (r_pass (I := I1) h.fx (by rw [e8]; exact h.ri)) rfl rfl (fxo_127 h.fx) rfl (Nat.le_of_ble_eq_true rfl) (Nat.le_of_ble_eq_true rfl) (by omega) (by omega) ?_
  rintro _ _ ⟨I2, rfl, rfl, e2, hF2⟩
  rw [e8] at e2
  rw [e8]
  refine x_icmp_eq (tgt := 1322) dL_law_457 rfl (fun _ => ?_) (fun c => absurd rfl c)
  exact (kk _ _ _ _ (h.tl hW1 hF1 e2 hF2 h.ri.pass)).more
set_option maxHeartbeats 4000000 in
set_option maxRecDepth 100000 in
theorem lw_c_told {g : xG} {nx : Nat} {sh : Nat → Nat × Nat} {P : Nat → Nat → Option Nat} {I : Nat → Nat → Int32} {nm : String} {Q : Option Value → xS → Prop} {i k n : Nat} (h : xIv nx sh P I) (hL : g.2.2.2.2.2.2.1 ≤ 3072) (hi : i + 6 ≤ g.2.2.2.2.2.2.1) (kk : xLp g nm Q i k n) : xX g (Y_law nm) 30 (k + 22) (n + 1042) Q 462 (lwL i) [] (nx, sh, P, I) := by
  refine x_aload_n dL_law_462 rfl ?_
  refine x_aload_n dL_law_463 rfl ?_
  refine x_iload_n dL_law_464 rfl ?_
  refine x_iconst (v := 1) dL_law_465 (by decide) ?_
  refine x_iadd dL_law_466 ?_
  refine y_scr (j := 1) dL_law_467 hL rfl (by omega) ?_
  refine x_callV (k2 := (k + 22)) (n2 := (n + 1042)) dL_law_468 LV_Law_50 (m_C_told h.fx h.wn h.ri) rfl rfl (fxo_64 h.fx) rfl (Nat.le_of_ble_eq_true rfl) (Nat.le_of_ble_eq_true rfl) (by omega) (by omega) ?_
  rintro _ _ ⟨I1, rfl, rfl, hF1⟩
  have e8 : I1 128 = I 128 := hF1 128 (by decide)
  have h1 := h.cq hF1
  refine x_aload_n dL_law_471 rfl ?_
  refine x_aload_n dL_law_472 rfl ?_
  refine x_iload_n dL_law_473 rfl ?_
  refine x_iconst (v := 1) dL_law_474 (by decide) ?_
  refine x_iadd dL_law_475 ?_
  refine y_scr (j := 1) dL_law_476 hL rfl (by omega) ?_
  refine x_callV (k2 := (k + 22)) (n2 := (n + 1042)) dL_law_477 LV_Law_53 (r_told (I := I1) h1.fx h1.ri) rfl rfl (fxo_127 h1.fx) rfl (Nat.le_of_ble_eq_true rfl) (Nat.le_of_ble_eq_true rfl) (by omega) (by omega) ?_
  rintro _ _ ⟨I2, rfl, rfl, hF2⟩
  rw [e8]
  refine x_icmp_eq (tgt := 1322) dL_law_480 rfl (fun _ => ?_) (fun c => absurd rfl c)
  exact (kk _ _ _ _ (h1.rq hF2 (hF2 128 (by decide)) (congrFun (hF2 127 (by decide)) 3) (congrFun (hF2 127 (by decide)) 30))).more
set_option maxHeartbeats 4000000 in
set_option maxRecDepth 100000 in
theorem lw_c_buy {g : xG} {nx : Nat} {sh : Nat → Nat × Nat} {P : Nat → Nat → Option Nat} {I : Nat → Nat → Int32} {nm : String} {Q : Option Value → xS → Prop} {i k n : Nat} (h : xIv nx sh P I) (hL : g.2.2.2.2.2.2.1 ≤ 3072) (hi : i + 6 ≤ g.2.2.2.2.2.2.1) (kk : xLp g nm Q i k n) : xX g (Y_law nm) 30 (k + 22) (n + 1042) Q 485 (lwL i) [] (nx, sh, P, I) := by
  refine x_aload_n dL_law_485 rfl ?_
  refine x_aload_n dL_law_486 rfl ?_
  refine x_iload_n dL_law_487 rfl ?_
  refine x_iconst (v := 1) dL_law_488 (by decide) ?_
  refine x_iadd dL_law_489 ?_
  refine y_scr (j := 1) dL_law_490 hL rfl (by omega) ?_
  refine x_aload_n dL_law_491 rfl ?_
  refine x_iload_n dL_law_492 rfl ?_
  refine x_iconst (v := 2) dL_law_493 (by decide) ?_
  refine x_iadd dL_law_494 ?_
  refine y_scr (j := 2) dL_law_495 hL rfl (by omega) ?_
  refine x_aload_n dL_law_496 rfl ?_
  refine x_iload_n dL_law_497 rfl ?_
  refine x_iconst (v := 3) dL_law_498 (by decide) ?_
  refine x_iadd dL_law_499 ?_
  refine y_scr (j := 3) dL_law_500 hL rfl (by omega) ?_
  refine x_aload_n dL_law_501 rfl ?_
  refine x_iload_n dL_law_502 rfl ?_
  refine x_iconst (v := 4) dL_law_503 (by decide) ?_
  refine x_iadd dL_law_504 ?_
  refine y_scr (j := 4) dL_law_505 hL rfl (by omega) ?_
  refine x_aload_n dL_law_506 rfl ?_
  refine x_iload_n dL_law_507 rfl ?_
  refine x_iconst (v := 5) dL_law_508 (by decide) ?_
  refine x_iadd dL_law_509 ?_
  refine y_scr (j := 5) dL_law_510 hL rfl (by omega) ?_
  refine x_callV (k2 := (k + 22)) (n2 := (n + 1042)) dL_law_511 LV_Law_54 (m_C_buy h.fx h.wn h.ri) rfl rfl (fxo_64 h.fx) rfl (Nat.le_of_ble_eq_true rfl) (Nat.le_of_ble_eq_true rfl) (by omega) (by omega) ?_
  rintro _ _ ⟨I1, rfl, rfl, hW1, hF1⟩
  have e8 : I1 128 = I 128 := hF1 128 (by decide)
  refine x_aload_n dL_law_514 rfl ?_
  refine x_aload_n dL_law_515 rfl ?_
  refine x_iload_n dL_law_516 rfl ?_
  refine x_iconst (v := 1) dL_law_517 (by decide) ?_
  refine x_iadd dL_law_518 ?_
  refine y_scr (j := 1) dL_law_519 hL rfl (by omega) ?_
  refine x_aload_n dL_law_520 rfl ?_
  refine x_iload_n dL_law_521 rfl ?_
  refine x_iconst (v := 2) dL_law_522 (by decide) ?_
  refine x_iadd dL_law_523 ?_
  refine y_scr (j := 2) dL_law_524 hL rfl (by omega) ?_
  refine x_aload_n dL_law_525 rfl ?_
  refine x_iload_n dL_law_526 rfl ?_
  refine x_iconst (v := 3) dL_law_527 (by decide) ?_
  refine x_iadd dL_law_528 ?_
  refine y_scr (j := 3) dL_law_529 hL rfl (by omega) ?_
  refine x_aload_n dL_law_530 rfl ?_
  refine x_iload_n dL_law_531 rfl ?_
  refine x_iconst (v := 4) dL_law_532 (by decide) ?_
  refine x_iadd dL_law_533 ?_
  refine y_scr (j := 4) dL_law_534 hL rfl (by omega) ?_
  refine x_aload_n dL_law_535 rfl ?_
  refine x_iload_n dL_law_536 rfl ?_
  refine x_iconst (v := 5) dL_law_537 (by decide) ?_
  refine x_iadd dL_law_538 ?_
  refine y_scr (j := 5) dL_law_539 hL rfl (by omega) ?_
  refine x_callV (k2 := (k + 22)) (n2 := (n + 1042)) dL_law_540 LV_Law_58 (r_buy (I := I1) h.fx (by rw [e8]; exact h.ri)) rfl rfl (fxo_127 h.fx) rfl (Nat.le_of_ble_eq_true rfl) (Nat.le_of_ble_eq_true rfl) (by omega) (by omega) ?_
  rintro _ _ ⟨I2, rfl, rfl, e2, hF2⟩
  rw [e8] at e2
  rw [e8]
  refine x_icmp_eq (tgt := 1322) dL_law_543 rfl (fun _ => ?_) (fun c => absurd rfl c)
  exact (kk _ _ _ _ (h.tl hW1 hF1 e2 hF2 h.ri.buy)).more
set_option maxHeartbeats 4000000 in
set_option maxRecDepth 100000 in
theorem lw_c_left {g : xG} {nx : Nat} {sh : Nat → Nat × Nat} {P : Nat → Nat → Option Nat} {I : Nat → Nat → Int32} {nm : String} {Q : Option Value → xS → Prop} {i k n : Nat} (h : xIv nx sh P I) (hL : g.2.2.2.2.2.2.1 ≤ 3072) (hi : i + 6 ≤ g.2.2.2.2.2.2.1) (kk : xLp g nm Q i k n) : xX g (Y_law nm) 30 (k + 22) (n + 1042) Q 548 (lwL i) [] (nx, sh, P, I) := by
  refine x_aload_n dL_law_548 rfl ?_
  refine x_callV (k2 := (k + 22)) (n2 := (n + 1042)) dL_law_549 LV_Law_59 (m_C_left h.fx h.wn h.ri) rfl rfl (fxo_64 h.fx) rfl (Nat.le_of_ble_eq_true rfl) (Nat.le_of_ble_eq_true rfl) (by omega) (by omega) ?_
  rintro _ _ ⟨I1, rfl, rfl, hF1⟩
  have e8 : I1 128 = I 128 := hF1 128 (by decide)
  have h1 := h.cq hF1
  refine x_aload_n dL_law_552 rfl ?_
  refine x_callV (k2 := (k + 22)) (n2 := (n + 1042)) dL_law_553 LV_Law_62 (r_left (I := I1) h1.fx h1.ri) rfl rfl (fxo_127 h1.fx) rfl (Nat.le_of_ble_eq_true rfl) (Nat.le_of_ble_eq_true rfl) (by omega) (by omega) ?_
  rintro _ _ ⟨I2, rfl, rfl, hF2, hD2⟩
  rw [e8]
  refine x_icmp_eq (tgt := 1322) dL_law_556 rfl (fun _ => ?_) (fun c => absurd rfl c)
  exact (kk _ _ _ _ (h1.rq hF2 (hF2 128 (by decide)) (hD2 3 (by decide)) (hD2 30 (by decide)))).more
set_option maxHeartbeats 4000000 in
set_option maxRecDepth 100000 in
theorem lw_c_range {g : xG} {nx : Nat} {sh : Nat → Nat × Nat} {P : Nat → Nat → Option Nat} {I : Nat → Nat → Int32} {nm : String} {Q : Option Value → xS → Prop} {i k n : Nat} (h : xIv nx sh P I) (hL : g.2.2.2.2.2.2.1 ≤ 3072) (hi : i + 6 ≤ g.2.2.2.2.2.2.1) (kk : xLp g nm Q i k n) : xX g (Y_law nm) 30 (k + 22) (n + 1042) Q 561 (lwL i) [] (nx, sh, P, I) := by
  refine x_aload_n dL_law_561 rfl ?_
  refine x_aload_n dL_law_562 rfl ?_
  refine x_iload_n dL_law_563 rfl ?_
  refine x_iconst (v := 1) dL_law_564 (by decide) ?_
  refine x_iadd dL_law_565 ?_
  refine y_scr (j := 1) dL_law_566 hL rfl (by omega) ?_
  refine x_aload_n dL_law_567 rfl ?_
  refine x_iload_n dL_law_568 rfl ?_
  refine x_iconst (v := 2) dL_law_569 (by decide) ?_
  refine x_iadd dL_law_570 ?_
  refine y_scr (j := 2) dL_law_571 hL rfl (by omega) ?_
  refine x_callV (k2 := (k + 22)) (n2 := (n + 1042)) dL_law_572 LV_Law_63 (m_C_range h.fx h.wn h.ri) rfl rfl (fxo_64 h.fx) rfl (Nat.le_of_ble_eq_true rfl) (Nat.le_of_ble_eq_true rfl) (by omega) (by omega) ?_
  rintro _ _ ⟨I1, rfl, rfl, hF1⟩
  have e8 : I1 128 = I 128 := hF1 128 (by decide)
  have h1 := h.cq hF1
  refine x_aload_n dL_law_575 rfl ?_
  refine x_aload_n dL_law_576 rfl ?_
  refine x_iload_n dL_law_577 rfl ?_
  refine x_iconst (v := 1) dL_law_578 (by decide) ?_
  refine x_iadd dL_law_579 ?_
  refine y_scr (j := 1) dL_law_580 hL rfl (by omega) ?_
  refine x_aload_n dL_law_581 rfl ?_
  refine x_iload_n dL_law_582 rfl ?_
  refine x_iconst (v := 2) dL_law_583 (by decide) ?_
  refine x_iadd dL_law_584 ?_
  refine y_scr (j := 2) dL_law_585 hL rfl (by omega) ?_
  refine x_callV (k2 := (k + 22)) (n2 := (n + 1042)) dL_law_586 LV_Law_66 (r_range (I := I1) h1.fx h1.ri) rfl rfl (fxo_127 h1.fx) rfl (Nat.le_of_ble_eq_true rfl) (Nat.le_of_ble_eq_true rfl) (by omega) (by omega) ?_
  rintro _ _ ⟨I2, rfl, rfl, hF2, hD2⟩
  rw [e8]
  refine x_icmp_eq (tgt := 1322) dL_law_589 rfl (fun _ => ?_) (fun c => absurd rfl c)
  exact (kk _ _ _ _ (h1.rq hF2 (hF2 128 (by decide)) (hD2 3 (by decide)) (hD2 30 (by decide)))).more
set_option maxHeartbeats 4000000 in
set_option maxRecDepth 100000 in
theorem lw_c_known {g : xG} {nx : Nat} {sh : Nat → Nat × Nat} {P : Nat → Nat → Option Nat} {I : Nat → Nat → Int32} {nm : String} {Q : Option Value → xS → Prop} {i k n : Nat} (h : xIv nx sh P I) (hL : g.2.2.2.2.2.2.1 ≤ 3072) (hi : i + 6 ≤ g.2.2.2.2.2.2.1) (kk : xLp g nm Q i k n) : xX g (Y_law nm) 30 (k + 22) (n + 1042) Q 594 (lwL i) [] (nx, sh, P, I) := by
  refine x_aload_n dL_law_594 rfl ?_
  refine x_callV (k2 := (k + 22)) (n2 := (n + 1042)) dL_law_595 LV_Law_67 (m_C_known h.fx h.wn h.ri) rfl rfl (fxo_64 h.fx) rfl (Nat.le_of_ble_eq_true rfl) (Nat.le_of_ble_eq_true rfl) (by omega) (by omega) ?_
  rintro _ _ ⟨I1, rfl, rfl, hF1⟩
  have e8 : I1 128 = I 128 := hF1 128 (by decide)
  have h1 := h.cq hF1
  refine x_aload_n dL_law_598 rfl ?_
  refine x_callV (k2 := (k + 22)) (n2 := (n + 1042)) dL_law_599 LV_Law_70 (r_known (I := I1) h1.fx h1.ri) rfl rfl (fxo_127 h1.fx) rfl (Nat.le_of_ble_eq_true rfl) (Nat.le_of_ble_eq_true rfl) (by omega) (by omega) ?_
  rintro _ _ ⟨I2, rfl, rfl, hF2, hD2⟩
  rw [e8]
  refine x_icmp_eq (tgt := 1322) dL_law_602 rfl (fun _ => ?_) (fun c => absurd rfl c)
  exact (kk _ _ _ _ (h1.rq hF2 (hF2 128 (by decide)) (hD2 3 (by decide)) (hD2 30 (by decide)))).more
set_option maxHeartbeats 4000000 in
set_option maxRecDepth 100000 in
theorem lw_c_likely {g : xG} {nx : Nat} {sh : Nat → Nat × Nat} {P : Nat → Nat → Option Nat} {I : Nat → Nat → Int32} {nm : String} {Q : Option Value → xS → Prop} {i k n : Nat} (h : xIv nx sh P I) (hL : g.2.2.2.2.2.2.1 ≤ 3072) (hi : i + 6 ≤ g.2.2.2.2.2.2.1) (kk : xLp g nm Q i k n) : xX g (Y_law nm) 30 (k + 22) (n + 1042) Q 607 (lwL i) [] (nx, sh, P, I) := by
  refine x_aload_n dL_law_607 rfl ?_
  refine x_aload_n dL_law_608 rfl ?_
  refine x_iload_n dL_law_609 rfl ?_
  refine x_iconst (v := 1) dL_law_610 (by decide) ?_
  refine x_iadd dL_law_611 ?_
  refine y_scr (j := 1) dL_law_612 hL rfl (by omega) ?_
  refine x_aload_n dL_law_613 rfl ?_
  refine x_iload_n dL_law_614 rfl ?_
  refine x_iconst (v := 2) dL_law_615 (by decide) ?_
  refine x_iadd dL_law_616 ?_
  refine y_scr (j := 2) dL_law_617 hL rfl (by omega) ?_
  refine x_aload_n dL_law_618 rfl ?_
  refine x_iload_n dL_law_619 rfl ?_
  refine x_iconst (v := 3) dL_law_620 (by decide) ?_
  refine x_iadd dL_law_621 ?_
  refine y_scr (j := 3) dL_law_622 hL rfl (by omega) ?_
  refine x_callV (k2 := (k + 22)) (n2 := (n + 1042)) dL_law_623 LV_Law_71 (m_C_likely h.fx h.wn h.ri) rfl rfl (fxo_64 h.fx) rfl (Nat.le_of_ble_eq_true rfl) (Nat.le_of_ble_eq_true rfl) (by omega) (by omega) ?_
  rintro _ _ ⟨I1, rfl, rfl, hF1⟩
  have e8 : I1 128 = I 128 := hF1 128 (by decide)
  have h1 := h.cq hF1
  refine x_aload_n dL_law_626 rfl ?_
  refine x_aload_n dL_law_627 rfl ?_
  refine x_iload_n dL_law_628 rfl ?_
  refine x_iconst (v := 1) dL_law_629 (by decide) ?_
  refine x_iadd dL_law_630 ?_
  refine y_scr (j := 1) dL_law_631 hL rfl (by omega) ?_
  refine x_aload_n dL_law_632 rfl ?_
  refine x_iload_n dL_law_633 rfl ?_
  refine x_iconst (v := 2) dL_law_634 (by decide) ?_
  refine x_iadd dL_law_635 ?_
  refine y_scr (j := 2) dL_law_636 hL rfl (by omega) ?_
  refine x_aload_n dL_law_637 rfl ?_
  refine x_iload_n dL_law_638 rfl ?_
  refine x_iconst (v := 3) dL_law_639 (by decide) ?_
  refine x_iadd dL_law_640 ?_
  refine y_scr (j := 3) dL_law_641 hL rfl (by omega) ?_
  refine x_callV (k2 := (k + 22)) (n2 := (n + 1042)) dL_law_642 LV_Law_75 (r_likely (I := I1) h1.fx h1.ri) rfl rfl (fxo_127 h1.fx) rfl (Nat.le_of_ble_eq_true rfl) (Nat.le_of_ble_eq_true rfl) (by omega) (by omega) ?_
  rintro _ _ ⟨I2, rfl, rfl, hF2, hD2⟩
  rw [e8]
  refine x_lcmp dL_law_645 ?_
  rw [lcmp_e]
  refine x_if_eq (tgt := 1322) dL_law_646 rfl (fun _ => ?_) (fun c => absurd rfl c)
  exact (kk _ _ _ _ (h1.rq hF2 (hF2 128 (by decide)) (hD2 3 (by decide)) (hD2 30 (by decide)))).more
set_option maxHeartbeats 4000000 in
set_option maxRecDepth 100000 in
theorem lw_c_alike {g : xG} {nx : Nat} {sh : Nat → Nat × Nat} {P : Nat → Nat → Option Nat} {I : Nat → Nat → Int32} {nm : String} {Q : Option Value → xS → Prop} {i k n : Nat} (h : xIv nx sh P I) (hL : g.2.2.2.2.2.2.1 ≤ 3072) (hi : i + 6 ≤ g.2.2.2.2.2.2.1) (kk : xLp g nm Q i k n) : xX g (Y_law nm) 30 (k + 22) (n + 1042) Q 651 (lwL i) [] (nx, sh, P, I) := by
  refine x_aload_n dL_law_651 rfl ?_
  refine x_aload_n dL_law_652 rfl ?_
  refine x_iload_n dL_law_653 rfl ?_
  refine x_iconst (v := 1) dL_law_654 (by decide) ?_
  refine x_iadd dL_law_655 ?_
  refine y_scr (j := 1) dL_law_656 hL rfl (by omega) ?_
  refine x_aload_n dL_law_657 rfl ?_
  refine x_iload_n dL_law_658 rfl ?_
  refine x_iconst (v := 2) dL_law_659 (by decide) ?_
  refine x_iadd dL_law_660 ?_
  refine y_scr (j := 2) dL_law_661 hL rfl (by omega) ?_
  refine x_callV (k2 := (k + 22)) (n2 := (n + 1042)) dL_law_662 LV_Law_76 (m_C_alike h.fx h.wn h.ri) rfl rfl (fxo_64 h.fx) rfl (Nat.le_of_ble_eq_true rfl) (Nat.le_of_ble_eq_true rfl) (by omega) (by omega) ?_
  rintro _ _ ⟨I1, rfl, rfl, hF1⟩
  have e8 : I1 128 = I 128 := hF1 128 (by decide)
  have h1 := h.cq hF1
  refine x_aload_n dL_law_665 rfl ?_
  refine x_aload_n dL_law_666 rfl ?_
  refine x_iload_n dL_law_667 rfl ?_
  refine x_iconst (v := 1) dL_law_668 (by decide) ?_
  refine x_iadd dL_law_669 ?_
  refine y_scr (j := 1) dL_law_670 hL rfl (by omega) ?_
  refine x_aload_n dL_law_671 rfl ?_
  refine x_iload_n dL_law_672 rfl ?_
  refine x_iconst (v := 2) dL_law_673 (by decide) ?_
  refine x_iadd dL_law_674 ?_
  refine y_scr (j := 2) dL_law_675 hL rfl (by omega) ?_
  refine x_callV (k2 := (k + 22)) (n2 := (n + 1042)) dL_law_676 LV_Law_79 (r_alike (I := I1) h1.fx h1.ri) rfl rfl (fxo_127 h1.fx) rfl (Nat.le_of_ble_eq_true rfl) (Nat.le_of_ble_eq_true rfl) (by omega) (by omega) ?_
  rintro _ _ ⟨I2, rfl, rfl, hF2, hD2⟩
  rw [e8]
  refine x_icmp_eq (tgt := 1322) dL_law_679 rfl (fun _ => ?_) (fun c => absurd rfl c)
  exact (kk _ _ _ _ (h1.rq hF2 (hF2 128 (by decide)) (hD2 3 (by decide)) (hD2 30 (by decide)))).more
set_option maxHeartbeats 4000000 in
set_option maxRecDepth 100000 in
theorem lw_c_wrong {g : xG} {nx : Nat} {sh : Nat → Nat × Nat} {P : Nat → Nat → Option Nat} {I : Nat → Nat → Int32} {nm : String} {Q : Option Value → xS → Prop} {i k n : Nat} (h : xIv nx sh P I) (hL : g.2.2.2.2.2.2.1 ≤ 3072) (hi : i + 6 ≤ g.2.2.2.2.2.2.1) (kk : xLp g nm Q i k n) : xX g (Y_law nm) 30 (k + 22) (n + 1042) Q 684 (lwL i) [] (nx, sh, P, I) := by
  refine x_aload_n dL_law_684 rfl ?_
  refine x_callV (k2 := (k + 22)) (n2 := (n + 1042)) dL_law_685 LV_Law_80 (m_C_wrong h.fx h.wn h.ri) rfl rfl (fxo_64 h.fx) rfl (Nat.le_of_ble_eq_true rfl) (Nat.le_of_ble_eq_true rfl) (by omega) (by omega) ?_
  rintro _ _ ⟨I1, rfl, rfl, hF1⟩
  have e8 : I1 128 = I 128 := hF1 128 (by decide)
  have h1 := h.cq hF1
  refine x_aload_n dL_law_688 rfl ?_
  refine x_callV (k2 := (k + 22)) (n2 := (n + 1042)) dL_law_689 LV_Law_83 (r_wrong (I := I1) h1.fx h1.ri) rfl rfl (fxo_127 h1.fx) rfl (Nat.le_of_ble_eq_true rfl) (Nat.le_of_ble_eq_true rfl) (by omega) (by omega) ?_
  rintro _ _ ⟨I2, rfl, rfl, hF2, hD2⟩
  rw [e8]
  refine x_icmp_eq (tgt := 1322) dL_law_692 rfl (fun _ => ?_) (fun c => absurd rfl c)
  exact (kk _ _ _ _ (h1.rq hF2 (hF2 128 (by decide)) (hD2 3 (by decide)) (hD2 30 (by decide)))).more
set_option maxHeartbeats 4000000 in
set_option maxRecDepth 100000 in
theorem lw_c_cheated {g : xG} {nx : Nat} {sh : Nat → Nat × Nat} {P : Nat → Nat → Option Nat} {I : Nat → Nat → Int32} {nm : String} {Q : Option Value → xS → Prop} {i k n : Nat} (h : xIv nx sh P I) (hL : g.2.2.2.2.2.2.1 ≤ 3072) (hi : i + 6 ≤ g.2.2.2.2.2.2.1) (kk : xLp g nm Q i k n) : xX g (Y_law nm) 30 (k + 22) (n + 1042) Q 697 (lwL i) [] (nx, sh, P, I) := by
  refine x_aload_n dL_law_697 rfl ?_
  refine x_callV (k2 := (k + 22)) (n2 := (n + 1042)) dL_law_698 LV_Law_84 (m_C_cheated h.fx h.wn h.ri) rfl rfl (fxo_64 h.fx) rfl (Nat.le_of_ble_eq_true rfl) (Nat.le_of_ble_eq_true rfl) (by omega) (by omega) ?_
  rintro _ _ ⟨I1, rfl, rfl, hF1⟩
  have e8 : I1 128 = I 128 := hF1 128 (by decide)
  have h1 := h.cq hF1
  refine x_aload_n dL_law_701 rfl ?_
  refine x_callV (k2 := (k + 22)) (n2 := (n + 1042)) dL_law_702 LV_Law_87 (r_cheated (I := I1) h1.fx h1.ri) rfl rfl (fxo_127 h1.fx) rfl (Nat.le_of_ble_eq_true rfl) (Nat.le_of_ble_eq_true rfl) (by omega) (by omega) ?_
  rintro _ _ ⟨I2, rfl, rfl, hF2, hD2⟩
  rw [e8]
  refine x_icmp_eq (tgt := 1322) dL_law_705 rfl (fun _ => ?_) (fun c => absurd rfl c)
  exact (kk _ _ _ _ (h1.rq hF2 (hF2 128 (by decide)) (hD2 3 (by decide)) (hD2 30 (by decide)))).more
set_option maxHeartbeats 4000000 in
set_option maxRecDepth 100000 in
theorem lw_c_hold {g : xG} {nx : Nat} {sh : Nat → Nat × Nat} {P : Nat → Nat → Option Nat} {I : Nat → Nat → Int32} {nm : String} {Q : Option Value → xS → Prop} {i k n : Nat} (h : xIv nx sh P I) (hL : g.2.2.2.2.2.2.1 ≤ 3072) (hi : i + 6 ≤ g.2.2.2.2.2.2.1) (kk : xLp g nm Q i k n) : xX g (Y_law nm) 30 (k + 22) (n + 1042) Q 710 (lwL i) [] (nx, sh, P, I) := by
  refine x_aload_n dL_law_710 rfl ?_
  refine x_aload_n dL_law_711 rfl ?_
  refine x_iload_n dL_law_712 rfl ?_
  refine x_iconst (v := 1) dL_law_713 (by decide) ?_
  refine x_iadd dL_law_714 ?_
  refine y_scr (j := 1) dL_law_715 hL rfl (by omega) ?_
  refine x_callV (k2 := (k + 22)) (n2 := (n + 1042)) dL_law_716 LV_Law_88 (m_C_hold h.fx h.wn h.ri) rfl rfl (fxo_64 h.fx) rfl (Nat.le_of_ble_eq_true rfl) (Nat.le_of_ble_eq_true rfl) (by omega) (by omega) ?_
  rintro _ _ ⟨I1, rfl, rfl, hF1⟩
  have e8 : I1 128 = I 128 := hF1 128 (by decide)
  have h1 := h.cq hF1
  refine x_aload_n dL_law_719 rfl ?_
  refine x_aload_n dL_law_720 rfl ?_
  refine x_iload_n dL_law_721 rfl ?_
  refine x_iconst (v := 1) dL_law_722 (by decide) ?_
  refine x_iadd dL_law_723 ?_
  refine y_scr (j := 1) dL_law_724 hL rfl (by omega) ?_
  refine x_callV (k2 := (k + 22)) (n2 := (n + 1042)) dL_law_725 LV_Law_91 (r_hold (I := I1) h1.fx h1.ri) rfl rfl (fxo_127 h1.fx) rfl (Nat.le_of_ble_eq_true rfl) (Nat.le_of_ble_eq_true rfl) (by omega) (by omega) ?_
  rintro _ _ ⟨I2, rfl, rfl, hF2, hD2⟩
  rw [e8]
  refine x_icmp_eq (tgt := 1322) dL_law_728 rfl (fun _ => ?_) (fun c => absurd rfl c)
  exact (kk _ _ _ _ (h1.rq hF2 (hF2 128 (by decide)) (hD2 3 (by decide)) (hD2 30 (by decide)))).more
set_option maxHeartbeats 4000000 in
set_option maxRecDepth 100000 in
theorem lw_c_pay {g : xG} {nx : Nat} {sh : Nat → Nat × Nat} {P : Nat → Nat → Option Nat} {I : Nat → Nat → Int32} {nm : String} {Q : Option Value → xS → Prop} {i k n : Nat} (h : xIv nx sh P I) (hL : g.2.2.2.2.2.2.1 ≤ 3072) (hi : i + 6 ≤ g.2.2.2.2.2.2.1) (kk : xLp g nm Q i k n) : xX g (Y_law nm) 30 (k + 22) (n + 1042) Q 733 (lwL i) [] (nx, sh, P, I) := by
  refine x_aload_n dL_law_733 rfl ?_
  refine x_aload_n dL_law_734 rfl ?_
  refine x_iload_n dL_law_735 rfl ?_
  refine x_iconst (v := 1) dL_law_736 (by decide) ?_
  refine x_iadd dL_law_737 ?_
  refine y_scr (j := 1) dL_law_738 hL rfl (by omega) ?_
  refine x_aload_n dL_law_739 rfl ?_
  refine x_iload_n dL_law_740 rfl ?_
  refine x_iconst (v := 2) dL_law_741 (by decide) ?_
  refine x_iadd dL_law_742 ?_
  refine y_scr (j := 2) dL_law_743 hL rfl (by omega) ?_
  refine x_callV (k2 := (k + 22)) (n2 := (n + 1042)) dL_law_744 LV_Law_92 (m_C_pay h.fx h.wn h.ri) rfl rfl (fxo_64 h.fx) rfl (Nat.le_of_ble_eq_true rfl) (Nat.le_of_ble_eq_true rfl) (by omega) (by omega) ?_
  rintro _ _ ⟨I1, rfl, rfl, hF1⟩
  have e8 : I1 128 = I 128 := hF1 128 (by decide)
  have h1 := h.cq hF1
  refine x_aload_n dL_law_747 rfl ?_
  refine x_aload_n dL_law_748 rfl ?_
  refine x_iload_n dL_law_749 rfl ?_
  refine x_iconst (v := 1) dL_law_750 (by decide) ?_
  refine x_iadd dL_law_751 ?_
  refine y_scr (j := 1) dL_law_752 hL rfl (by omega) ?_
  refine x_aload_n dL_law_753 rfl ?_
  refine x_iload_n dL_law_754 rfl ?_
  refine x_iconst (v := 2) dL_law_755 (by decide) ?_
  refine x_iadd dL_law_756 ?_
  refine y_scr (j := 2) dL_law_757 hL rfl (by omega) ?_
  refine x_callV (k2 := (k + 22)) (n2 := (n + 1042)) dL_law_758 LV_Law_95 (r_pay (I := I1) h1.fx h1.ri) rfl rfl (fxo_127 h1.fx) rfl (Nat.le_of_ble_eq_true rfl) (Nat.le_of_ble_eq_true rfl) (by omega) (by omega) ?_
  rintro _ _ ⟨I2, rfl, rfl, hF2, hD2⟩
  rw [e8]
  refine x_icmp_eq (tgt := 1322) dL_law_761 rfl (fun _ => ?_) (fun c => absurd rfl c)
  exact (kk _ _ _ _ (h1.rq hF2 (hF2 128 (by decide)) (hD2 3 (by decide)) (hD2 30 (by decide)))).more
set_option maxHeartbeats 4000000 in
set_option maxRecDepth 100000 in
theorem lw_c_ways {g : xG} {nx : Nat} {sh : Nat → Nat × Nat} {P : Nat → Nat → Option Nat} {I : Nat → Nat → Int32} {nm : String} {Q : Option Value → xS → Prop} {i k n : Nat} (h : xIv nx sh P I) (hL : g.2.2.2.2.2.2.1 ≤ 3072) (hi : i + 6 ≤ g.2.2.2.2.2.2.1) (kk : xLp g nm Q i k n) : xX g (Y_law nm) 30 (k + 22) (n + 1042) Q 766 (lwL i) [] (nx, sh, P, I) := by
  refine x_aload_n dL_law_766 rfl ?_
  refine x_aload_n dL_law_767 rfl ?_
  refine x_iload_n dL_law_768 rfl ?_
  refine x_iconst (v := 1) dL_law_769 (by decide) ?_
  refine x_iadd dL_law_770 ?_
  refine y_scr (j := 1) dL_law_771 hL rfl (by omega) ?_
  refine x_callV (k2 := (k + 22)) (n2 := (n + 1042)) dL_law_772 LV_Law_96 (m_C_ways h.fx h.wn h.ri) rfl rfl (fxo_64 h.fx) rfl (Nat.le_of_ble_eq_true rfl) (Nat.le_of_ble_eq_true rfl) (by omega) (by omega) ?_
  rintro _ _ ⟨I1, rfl, rfl, hF1⟩
  have e8 : I1 128 = I 128 := hF1 128 (by decide)
  have h1 := h.cq hF1
  refine x_aload_n dL_law_775 rfl ?_
  refine x_aload_n dL_law_776 rfl ?_
  refine x_iload_n dL_law_777 rfl ?_
  refine x_iconst (v := 1) dL_law_778 (by decide) ?_
  refine x_iadd dL_law_779 ?_
  refine y_scr (j := 1) dL_law_780 hL rfl (by omega) ?_
  refine x_callV (k2 := (k + 22)) (n2 := (n + 1042)) dL_law_781 LV_Law_99 (r_ways (I := I1) h1.fx h1.ri) rfl rfl (fxo_127 h1.fx) rfl (Nat.le_of_ble_eq_true rfl) (Nat.le_of_ble_eq_true rfl) (by omega) (by omega) ?_
  rintro _ _ ⟨I2, rfl, rfl, hF2, hD2⟩
  rw [e8]
  refine x_icmp_eq (tgt := 1322) dL_law_784 rfl (fun _ => ?_) (fun c => absurd rfl c)
  exact (kk _ _ _ _ (h1.rq hF2 (hF2 128 (by decide)) (hD2 3 (by decide)) (hD2 30 (by decide)))).more
set_option maxHeartbeats 4000000 in
set_option maxRecDepth 100000 in
theorem lw_c_change {g : xG} {nx : Nat} {sh : Nat → Nat × Nat} {P : Nat → Nat → Option Nat} {I : Nat → Nat → Int32} {nm : String} {Q : Option Value → xS → Prop} {i k n : Nat} (h : xIv nx sh P I) (hL : g.2.2.2.2.2.2.1 ≤ 3072) (hi : i + 6 ≤ g.2.2.2.2.2.2.1) (kk : xLp g nm Q i k n) : xX g (Y_law nm) 30 (k + 22) (n + 1042) Q 789 (lwL i) [] (nx, sh, P, I) := by
  refine x_aload_n dL_law_789 rfl ?_
  refine x_aload_n dL_law_790 rfl ?_
  refine x_iload_n dL_law_791 rfl ?_
  refine x_iconst (v := 1) dL_law_792 (by decide) ?_
  refine x_iadd dL_law_793 ?_
  refine y_scr (j := 1) dL_law_794 hL rfl (by omega) ?_
  refine x_callV (k2 := (k + 22)) (n2 := (n + 1042)) dL_law_795 LV_Law_100 (m_C_change h.fx h.wn h.ri) rfl rfl (fxo_64 h.fx) rfl (Nat.le_of_ble_eq_true rfl) (Nat.le_of_ble_eq_true rfl) (by omega) (by omega) ?_
  rintro _ _ ⟨I1, rfl, rfl, hF1⟩
  have e8 : I1 128 = I 128 := hF1 128 (by decide)
  have h1 := h.cq hF1
  refine x_aload_n dL_law_798 rfl ?_
  refine x_aload_n dL_law_799 rfl ?_
  refine x_iload_n dL_law_800 rfl ?_
  refine x_iconst (v := 1) dL_law_801 (by decide) ?_
  refine x_iadd dL_law_802 ?_
  refine y_scr (j := 1) dL_law_803 hL rfl (by omega) ?_
  refine x_callV (k2 := (k + 22)) (n2 := (n + 1042)) dL_law_804 LV_Law_103 (r_change (I := I1) h1.fx h1.ri) rfl rfl (fxo_127 h1.fx) rfl (Nat.le_of_ble_eq_true rfl) (Nat.le_of_ble_eq_true rfl) (by omega) (by omega) ?_
  rintro _ _ ⟨I2, rfl, rfl, hF2, hD2⟩
  rw [e8]
  refine x_icmp_eq (tgt := 1322) dL_law_807 rfl (fun _ => ?_) (fun c => absurd rfl c)
  exact (kk _ _ _ _ (h1.rq hF2 (hF2 128 (by decide)) (hD2 3 (by decide)) (hD2 30 (by decide)))).more
set_option maxHeartbeats 4000000 in
set_option maxRecDepth 100000 in
theorem lw_c_never {g : xG} {nx : Nat} {sh : Nat → Nat × Nat} {P : Nat → Nat → Option Nat} {I : Nat → Nat → Int32} {nm : String} {Q : Option Value → xS → Prop} {i k n : Nat} (h : xIv nx sh P I) (hL : g.2.2.2.2.2.2.1 ≤ 3072) (hi : i + 6 ≤ g.2.2.2.2.2.2.1) (kk : xLp g nm Q i k n) : xX g (Y_law nm) 30 (k + 22) (n + 1042) Q 812 (lwL i) [] (nx, sh, P, I) := by
  refine x_aload_n dL_law_812 rfl ?_
  refine x_callV (k2 := (k + 22)) (n2 := (n + 1042)) dL_law_813 LV_Law_104 (m_C_never h.fx h.wn h.ri) rfl rfl (fxo_64 h.fx) rfl (Nat.le_of_ble_eq_true rfl) (Nat.le_of_ble_eq_true rfl) (by omega) (by omega) ?_
  rintro _ _ ⟨I1, rfl, rfl, hF1⟩
  have e8 : I1 128 = I 128 := hF1 128 (by decide)
  have h1 := h.cq hF1
  refine x_aload_n dL_law_816 rfl ?_
  refine x_callV (k2 := (k + 22)) (n2 := (n + 1042)) dL_law_817 LV_Law_107 (r_never (I := I1) h1.fx h1.ri) rfl rfl (fxo_127 h1.fx) rfl (Nat.le_of_ble_eq_true rfl) (Nat.le_of_ble_eq_true rfl) (by omega) (by omega) ?_
  rintro _ _ ⟨I2, rfl, rfl, hF2⟩
  rw [e8]
  refine x_icmp_eq (tgt := 1322) dL_law_820 rfl (fun _ => ?_) (fun c => absurd rfl c)
  exact (kk _ _ _ _ (h1.rq hF2 (hF2 128 (by decide)) (congrFun (hF2 127 (by decide)) 3) (congrFun (hF2 127 (by decide)) 30))).more
set_option maxHeartbeats 4000000 in
set_option maxRecDepth 100000 in
theorem lw_c_carry {g : xG} {nx : Nat} {sh : Nat → Nat × Nat} {P : Nat → Nat → Option Nat} {I : Nat → Nat → Int32} {nm : String} {Q : Option Value → xS → Prop} {i k n : Nat} (h : xIv nx sh P I) (hL : g.2.2.2.2.2.2.1 ≤ 3072) (hi : i + 6 ≤ g.2.2.2.2.2.2.1) (kk : xLp g nm Q i k n) : xX g (Y_law nm) 30 (k + 22) (n + 1042) Q 825 (lwL i) [] (nx, sh, P, I) := by
  refine x_aload_n dL_law_825 rfl ?_
  refine x_aload_n dL_law_826 rfl ?_
  refine x_iload_n dL_law_827 rfl ?_
  refine x_iconst (v := 1) dL_law_828 (by decide) ?_
  refine x_iadd dL_law_829 ?_
  refine y_scr (j := 1) dL_law_830 hL rfl (by omega) ?_
  refine x_aload_n dL_law_831 rfl ?_
  refine x_iload_n dL_law_832 rfl ?_
  refine x_iconst (v := 2) dL_law_833 (by decide) ?_
  refine x_iadd dL_law_834 ?_
  refine y_scr (j := 2) dL_law_835 hL rfl (by omega) ?_
  refine x_callV (k2 := (k + 22)) (n2 := (n + 1042)) dL_law_836 LV_Law_108 (m_C_carry h.fx h.wn h.ri) rfl rfl (fxo_64 h.fx) rfl (Nat.le_of_ble_eq_true rfl) (Nat.le_of_ble_eq_true rfl) (by omega) (by omega) ?_
  rintro _ _ ⟨I1, rfl, rfl, hF1⟩
  have e8 : I1 128 = I 128 := hF1 128 (by decide)
  have h1 := h.cq hF1
  refine x_aload_n dL_law_839 rfl ?_
  refine x_aload_n dL_law_840 rfl ?_
  refine x_iload_n dL_law_841 rfl ?_
  refine x_iconst (v := 1) dL_law_842 (by decide) ?_
  refine x_iadd dL_law_843 ?_
  refine y_scr (j := 1) dL_law_844 hL rfl (by omega) ?_
  refine x_aload_n dL_law_845 rfl ?_
  refine x_iload_n dL_law_846 rfl ?_
  refine x_iconst (v := 2) dL_law_847 (by decide) ?_
  refine x_iadd dL_law_848 ?_
  refine y_scr (j := 2) dL_law_849 hL rfl (by omega) ?_
  refine x_callV (k2 := (k + 22)) (n2 := (n + 1042)) dL_law_850 LV_Law_111 (r_carry (I := I1) h1.fx h1.ri) rfl rfl (fxo_127 h1.fx) rfl (Nat.le_of_ble_eq_true rfl) (Nat.le_of_ble_eq_true rfl) (by omega) (by omega) ?_
  rintro _ _ ⟨I2, rfl, rfl, hF2, hD2⟩
  rw [e8]
  refine x_icmp_eq (tgt := 1322) dL_law_853 rfl (fun _ => ?_) (fun c => absurd rfl c)
  exact (kk _ _ _ _ (h1.rq hF2 (hF2 128 (by decide)) (hD2 3 (by decide)) (hD2 30 (by decide)))).more
set_option maxHeartbeats 4000000 in
set_option maxRecDepth 100000 in
theorem lw_c_rate {g : xG} {nx : Nat} {sh : Nat → Nat × Nat} {P : Nat → Nat → Option Nat} {I : Nat → Nat → Int32} {nm : String} {Q : Option Value → xS → Prop} {i k n : Nat} (h : xIv nx sh P I) (hL : g.2.2.2.2.2.2.1 ≤ 3072) (hi : i + 6 ≤ g.2.2.2.2.2.2.1) (kk : xLp g nm Q i k n) : xX g (Y_law nm) 30 (k + 22) (n + 1042) Q 858 (lwL i) [] (nx, sh, P, I) := by
  refine x_aload_n dL_law_858 rfl ?_
  refine x_aload_n dL_law_859 rfl ?_
  refine x_iload_n dL_law_860 rfl ?_
  refine x_iconst (v := 1) dL_law_861 (by decide) ?_
  refine x_iadd dL_law_862 ?_
  refine y_scr (j := 1) dL_law_863 hL rfl (by omega) ?_
  refine x_aload_n dL_law_864 rfl ?_
  refine x_iload_n dL_law_865 rfl ?_
  refine x_iconst (v := 2) dL_law_866 (by decide) ?_
  refine x_iadd dL_law_867 ?_
  refine y_scr (j := 2) dL_law_868 hL rfl (by omega) ?_
  refine x_aload_n dL_law_869 rfl ?_
  refine x_iload_n dL_law_870 rfl ?_
  refine x_iconst (v := 3) dL_law_871 (by decide) ?_
  refine x_iadd dL_law_872 ?_
  refine y_scr (j := 3) dL_law_873 hL rfl (by omega) ?_
  refine x_callV (k2 := (k + 22)) (n2 := (n + 1042)) dL_law_874 LV_Law_112 (m_C_rate h.fx h.wn h.ri) rfl rfl (fxo_64 h.fx) rfl (Nat.le_of_ble_eq_true rfl) (Nat.le_of_ble_eq_true rfl) (by omega) (by omega) ?_
  rintro _ _ ⟨I1, rfl, rfl, hF1⟩
  have e8 : I1 128 = I 128 := hF1 128 (by decide)
  have h1 := h.cq hF1
  refine x_aload_n dL_law_877 rfl ?_
  refine x_aload_n dL_law_878 rfl ?_
  refine x_iload_n dL_law_879 rfl ?_
  refine x_iconst (v := 1) dL_law_880 (by decide) ?_
  refine x_iadd dL_law_881 ?_
  refine y_scr (j := 1) dL_law_882 hL rfl (by omega) ?_
  refine x_aload_n dL_law_883 rfl ?_
  refine x_iload_n dL_law_884 rfl ?_
  refine x_iconst (v := 2) dL_law_885 (by decide) ?_
  refine x_iadd dL_law_886 ?_
  refine y_scr (j := 2) dL_law_887 hL rfl (by omega) ?_
  refine x_aload_n dL_law_888 rfl ?_
  refine x_iload_n dL_law_889 rfl ?_
  refine x_iconst (v := 3) dL_law_890 (by decide) ?_
  refine x_iadd dL_law_891 ?_
  refine y_scr (j := 3) dL_law_892 hL rfl (by omega) ?_
  refine x_callV (k2 := (k + 22)) (n2 := (n + 1042)) dL_law_893 LV_Law_115 (r_rate (I := I1) h1.fx h1.ri) rfl rfl (fxo_127 h1.fx) rfl (Nat.le_of_ble_eq_true rfl) (Nat.le_of_ble_eq_true rfl) (by omega) (by omega) ?_
  rintro _ _ ⟨I2, rfl, rfl, hF2⟩
  rw [e8]
  refine x_lcmp dL_law_896 ?_
  rw [lcmp_e]
  refine x_if_eq (tgt := 1322) dL_law_897 rfl (fun _ => ?_) (fun c => absurd rfl c)
  exact (kk _ _ _ _ (h1.rq hF2 (hF2 128 (by decide)) (congrFun (hF2 127 (by decide)) 3) (congrFun (hF2 127 (by decide)) 30))).more
set_option maxHeartbeats 4000000 in
set_option maxRecDepth 100000 in
theorem lw_c_bought {g : xG} {nx : Nat} {sh : Nat → Nat × Nat} {P : Nat → Nat → Option Nat} {I : Nat → Nat → Int32} {nm : String} {Q : Option Value → xS → Prop} {i k n : Nat} (h : xIv nx sh P I) (hL : g.2.2.2.2.2.2.1 ≤ 3072) (hi : i + 6 ≤ g.2.2.2.2.2.2.1) (kk : xLp g nm Q i k n) : xX g (Y_law nm) 30 (k + 22) (n + 1042) Q 902 (lwL i) [] (nx, sh, P, I) := by
  refine x_aload_n dL_law_902 rfl ?_
  refine x_aload_n dL_law_903 rfl ?_
  refine x_iload_n dL_law_904 rfl ?_
  refine x_iconst (v := 1) dL_law_905 (by decide) ?_
  refine x_iadd dL_law_906 ?_
  refine y_scr (j := 1) dL_law_907 hL rfl (by omega) ?_
  refine x_aload_n dL_law_908 rfl ?_
  refine x_iload_n dL_law_909 rfl ?_
  refine x_iconst (v := 2) dL_law_910 (by decide) ?_
  refine x_iadd dL_law_911 ?_
  refine y_scr (j := 2) dL_law_912 hL rfl (by omega) ?_
  refine x_callV (k2 := (k + 22)) (n2 := (n + 1042)) dL_law_913 LV_Law_116 (m_C_bought h.fx h.wn h.ri) rfl rfl (fxo_64 h.fx) rfl (Nat.le_of_ble_eq_true rfl) (Nat.le_of_ble_eq_true rfl) (by omega) (by omega) ?_
  rintro _ _ ⟨I1, rfl, rfl, hF1⟩
  have e8 : I1 128 = I 128 := hF1 128 (by decide)
  have h1 := h.cq hF1
  refine x_aload_n dL_law_916 rfl ?_
  refine x_aload_n dL_law_917 rfl ?_
  refine x_iload_n dL_law_918 rfl ?_
  refine x_iconst (v := 1) dL_law_919 (by decide) ?_
  refine x_iadd dL_law_920 ?_
  refine y_scr (j := 1) dL_law_921 hL rfl (by omega) ?_
  refine x_aload_n dL_law_922 rfl ?_
  refine x_iload_n dL_law_923 rfl ?_
  refine x_iconst (v := 2) dL_law_924 (by decide) ?_
  refine x_iadd dL_law_925 ?_
  refine y_scr (j := 2) dL_law_926 hL rfl (by omega) ?_
  refine x_callV (k2 := (k + 22)) (n2 := (n + 1042)) dL_law_927 LV_Law_119 (r_bought (I := I1) h1.fx h1.ri) rfl rfl (fxo_127 h1.fx) rfl (Nat.le_of_ble_eq_true rfl) (Nat.le_of_ble_eq_true rfl) (by omega) (by omega) ?_
  rintro _ _ ⟨I2, rfl, rfl, hF2, hD2⟩
  rw [e8]
  refine x_icmp_eq (tgt := 1322) dL_law_930 rfl (fun _ => ?_) (fun c => absurd rfl c)
  exact (kk _ _ _ _ (h1.rq hF2 (hF2 128 (by decide)) (hD2 3 (by decide)) (hD2 30 (by decide)))).more
set_option maxHeartbeats 4000000 in
set_option maxRecDepth 100000 in
theorem lw_c_slate {g : xG} {nx : Nat} {sh : Nat → Nat × Nat} {P : Nat → Nat → Option Nat} {I : Nat → Nat → Int32} {nm : String} {Q : Option Value → xS → Prop} {i k n : Nat} (h : xIv nx sh P I) (hL : g.2.2.2.2.2.2.1 ≤ 3072) (hi : i + 6 ≤ g.2.2.2.2.2.2.1) (kk : xLp g nm Q i k n) : xX g (Y_law nm) 30 (k + 22) (n + 1042) Q 935 (lwL i) [] (nx, sh, P, I) := by
  refine x_aload_n dL_law_935 rfl ?_
  refine x_aload_n dL_law_936 rfl ?_
  refine x_iload_n dL_law_937 rfl ?_
  refine x_iconst (v := 1) dL_law_938 (by decide) ?_
  refine x_iadd dL_law_939 ?_
  refine y_scr (j := 1) dL_law_940 hL rfl (by omega) ?_
  refine x_aload_n dL_law_941 rfl ?_
  refine x_iload_n dL_law_942 rfl ?_
  refine x_iconst (v := 2) dL_law_943 (by decide) ?_
  refine x_iadd dL_law_944 ?_
  refine y_scr (j := 2) dL_law_945 hL rfl (by omega) ?_
  refine x_aload_n dL_law_946 rfl ?_
  refine x_iload_n dL_law_947 rfl ?_
  refine x_iconst (v := 3) dL_law_948 (by decide) ?_
  refine x_iadd dL_law_949 ?_
  refine y_scr (j := 3) dL_law_950 hL rfl (by omega) ?_
  refine x_callV (k2 := (k + 22)) (n2 := (n + 1042)) dL_law_951 LV_Law_120 (m_C_slate h.fx h.wn h.ri) rfl rfl (fxo_64 h.fx) rfl (Nat.le_of_ble_eq_true rfl) (Nat.le_of_ble_eq_true rfl) (by omega) (by omega) ?_
  rintro _ _ ⟨I1, rfl, rfl, hW1, hF1⟩
  have e8 : I1 128 = I 128 := hF1 128 (by decide)
  refine x_aload_n dL_law_954 rfl ?_
  refine x_aload_n dL_law_955 rfl ?_
  refine x_iload_n dL_law_956 rfl ?_
  refine x_iconst (v := 1) dL_law_957 (by decide) ?_
  refine x_iadd dL_law_958 ?_
  refine y_scr (j := 1) dL_law_959 hL rfl (by omega) ?_
  refine x_aload_n dL_law_960 rfl ?_
  refine x_iload_n dL_law_961 rfl ?_
  refine x_iconst (v := 2) dL_law_962 (by decide) ?_
  refine x_iadd dL_law_963 ?_
  refine y_scr (j := 2) dL_law_964 hL rfl (by omega) ?_
  refine x_aload_n dL_law_965 rfl ?_
  refine x_iload_n dL_law_966 rfl ?_
  refine x_iconst (v := 3) dL_law_967 (by decide) ?_
  refine x_iadd dL_law_968 ?_
  refine y_scr (j := 3) dL_law_969 hL rfl (by omega) ?_
  refine x_callV (k2 := (k + 22)) (n2 := (n + 1042)) dL_law_970 LV_Law_123 (r_slate (I := I1) h.fx (by rw [e8]; exact h.ri)) rfl rfl (fxo_127 h.fx) rfl (Nat.le_of_ble_eq_true rfl) (Nat.le_of_ble_eq_true rfl) (by omega) (by omega) ?_
  rintro _ _ ⟨I2, rfl, rfl, e2, hF2⟩
  rw [e8] at e2
  rw [e8]
  refine x_icmp_eq (tgt := 1322) dL_law_973 rfl (fun _ => ?_) (fun c => absurd rfl c)
  exact (kk _ _ _ _ (h.tl hW1 hF1 e2 hF2 h.ri.slate)).more
set_option maxHeartbeats 4000000 in
set_option maxRecDepth 100000 in
theorem lw_c_counts {g : xG} {nx : Nat} {sh : Nat → Nat × Nat} {P : Nat → Nat → Option Nat} {I : Nat → Nat → Int32} {nm : String} {Q : Option Value → xS → Prop} {i k n : Nat} (h : xIv nx sh P I) (hL : g.2.2.2.2.2.2.1 ≤ 3072) (hi : i + 6 ≤ g.2.2.2.2.2.2.1) (kk : xLp g nm Q i k n) : xX g (Y_law nm) 30 (k + 22) (n + 1042) Q 978 (lwL i) [] (nx, sh, P, I) := by
  refine x_aload_n dL_law_978 rfl ?_
  refine x_aload_n dL_law_979 rfl ?_
  refine x_iload_n dL_law_980 rfl ?_
  refine x_iconst (v := 1) dL_law_981 (by decide) ?_
  refine x_iadd dL_law_982 ?_
  refine y_scr (j := 1) dL_law_983 hL rfl (by omega) ?_
  refine x_callV (k2 := (k + 22)) (n2 := (n + 1042)) dL_law_984 LV_Law_124 (m_C_counts h.fx h.wn h.ri) rfl rfl (fxo_64 h.fx) rfl (Nat.le_of_ble_eq_true rfl) (Nat.le_of_ble_eq_true rfl) (by omega) (by omega) ?_
  rintro _ _ ⟨rfl, rfl⟩
  refine x_aload_n dL_law_987 rfl ?_
  refine x_aload_n dL_law_988 rfl ?_
  refine x_iload_n dL_law_989 rfl ?_
  refine x_iconst (v := 1) dL_law_990 (by decide) ?_
  refine x_iadd dL_law_991 ?_
  refine y_scr (j := 1) dL_law_992 hL rfl (by omega) ?_
  refine x_callV (k2 := (k + 22)) (n2 := (n + 1042)) dL_law_993 LV_Law_127 (r_counts (I := I) h.fx h.ri) rfl rfl (fxo_127 h.fx) rfl (Nat.le_of_ble_eq_true rfl) (Nat.le_of_ble_eq_true rfl) (by omega) (by omega) ?_
  rintro _ _ ⟨rfl, rfl⟩
  refine x_icmp_eq (tgt := 1322) dL_law_996 rfl (fun _ => ?_) (fun c => absurd rfl c)
  exact (kk _ _ _ _ h).more
set_option maxHeartbeats 4000000 in
set_option maxRecDepth 100000 in
theorem lw_c_odds {g : xG} {nx : Nat} {sh : Nat → Nat × Nat} {P : Nat → Nat → Option Nat} {I : Nat → Nat → Int32} {nm : String} {Q : Option Value → xS → Prop} {i k n : Nat} (h : xIv nx sh P I) (hL : g.2.2.2.2.2.2.1 ≤ 3072) (hi : i + 6 ≤ g.2.2.2.2.2.2.1) (kk : xLp g nm Q i k n) : xX g (Y_law nm) 30 (k + 22) (n + 1042) Q 1001 (lwL i) [] (nx, sh, P, I) := by
  refine x_aload_n dL_law_1001 rfl ?_
  refine x_aload_n dL_law_1002 rfl ?_
  refine x_iload_n dL_law_1003 rfl ?_
  refine x_iconst (v := 1) dL_law_1004 (by decide) ?_
  refine x_iadd dL_law_1005 ?_
  refine y_scr (j := 1) dL_law_1006 hL rfl (by omega) ?_
  refine x_aload_n dL_law_1007 rfl ?_
  refine x_iload_n dL_law_1008 rfl ?_
  refine x_iconst (v := 2) dL_law_1009 (by decide) ?_
  refine x_iadd dL_law_1010 ?_
  refine y_scr (j := 2) dL_law_1011 hL rfl (by omega) ?_
  refine x_callV (k2 := (k + 22)) (n2 := (n + 1042)) dL_law_1012 LV_Law_128 (m_C_odds h.fx h.wn h.ri) rfl rfl (fxo_64 h.fx) rfl (Nat.le_of_ble_eq_true rfl) (Nat.le_of_ble_eq_true rfl) (by omega) (by omega) ?_
  rintro _ _ ⟨I1, rfl, rfl, hF1⟩
  have e8 : I1 128 = I 128 := hF1 128 (by decide)
  have h1 := h.cq hF1
  refine x_aload_n dL_law_1015 rfl ?_
  refine x_aload_n dL_law_1016 rfl ?_
  refine x_iload_n dL_law_1017 rfl ?_
  refine x_iconst (v := 1) dL_law_1018 (by decide) ?_
  refine x_iadd dL_law_1019 ?_
  refine y_scr (j := 1) dL_law_1020 hL rfl (by omega) ?_
  refine x_aload_n dL_law_1021 rfl ?_
  refine x_iload_n dL_law_1022 rfl ?_
  refine x_iconst (v := 2) dL_law_1023 (by decide) ?_
  refine x_iadd dL_law_1024 ?_
  refine y_scr (j := 2) dL_law_1025 hL rfl (by omega) ?_
  refine x_callV (k2 := (k + 22)) (n2 := (n + 1042)) dL_law_1026 LV_Law_132 (r_odds (I := I1) h1.fx h1.ri) rfl rfl (fxo_127 h1.fx) rfl (Nat.le_of_ble_eq_true rfl) (Nat.le_of_ble_eq_true rfl) (by omega) (by omega) ?_
  rintro _ _ ⟨I2, rfl, rfl, hF2⟩
  rw [e8]
  refine x_lcmp dL_law_1029 ?_
  rw [lcmp_e]
  refine x_if_eq (tgt := 1322) dL_law_1030 rfl (fun _ => ?_) (fun c => absurd rfl c)
  exact (kk _ _ _ _ (h1.rq hF2 (hF2 128 (by decide)) (congrFun (hF2 127 (by decide)) 3) (congrFun (hF2 127 (by decide)) 30))).more
set_option maxHeartbeats 4000000 in
set_option maxRecDepth 100000 in
theorem lw_c_mean {g : xG} {nx : Nat} {sh : Nat → Nat × Nat} {P : Nat → Nat → Option Nat} {I : Nat → Nat → Int32} {nm : String} {Q : Option Value → xS → Prop} {i k n : Nat} (h : xIv nx sh P I) (hL : g.2.2.2.2.2.2.1 ≤ 3072) (hi : i + 6 ≤ g.2.2.2.2.2.2.1) (kk : xLp g nm Q i k n) : xX g (Y_law nm) 30 (k + 22) (n + 1042) Q 1035 (lwL i) [] (nx, sh, P, I) := by
  refine x_aload_n dL_law_1035 rfl ?_
  refine x_aload_n dL_law_1036 rfl ?_
  refine x_iload_n dL_law_1037 rfl ?_
  refine x_iconst (v := 1) dL_law_1038 (by decide) ?_
  refine x_iadd dL_law_1039 ?_
  refine y_scr (j := 1) dL_law_1040 hL rfl (by omega) ?_
  refine x_callV (k2 := (k + 22)) (n2 := (n + 1042)) dL_law_1041 LV_Law_133 (m_C_mean h.fx h.wn h.ri) rfl rfl (fxo_64 h.fx) rfl (Nat.le_of_ble_eq_true rfl) (Nat.le_of_ble_eq_true rfl) (by omega) (by omega) ?_
  rintro _ _ ⟨I1, rfl, rfl, hF1⟩
  have e8 : I1 128 = I 128 := hF1 128 (by decide)
  have h1 := h.cq hF1
  refine x_aload_n dL_law_1044 rfl ?_
  refine x_aload_n dL_law_1045 rfl ?_
  refine x_iload_n dL_law_1046 rfl ?_
  refine x_iconst (v := 1) dL_law_1047 (by decide) ?_
  refine x_iadd dL_law_1048 ?_
  refine y_scr (j := 1) dL_law_1049 hL rfl (by omega) ?_
  refine x_callV (k2 := (k + 22)) (n2 := (n + 1042)) dL_law_1050 LV_Law_137 (r_mean (I := I1) h1.fx h1.ri) rfl rfl (fxo_127 h1.fx) rfl (Nat.le_of_ble_eq_true rfl) (Nat.le_of_ble_eq_true rfl) (by omega) (by omega) ?_
  rintro _ _ ⟨I2, rfl, rfl, hF2⟩
  rw [e8]
  refine x_lcmp dL_law_1053 ?_
  rw [lcmp_e]
  refine x_if_eq (tgt := 1322) dL_law_1054 rfl (fun _ => ?_) (fun c => absurd rfl c)
  exact (kk _ _ _ _ (h1.rq hF2 (hF2 128 (by decide)) (congrFun (hF2 127 (by decide)) 3) (congrFun (hF2 127 (by decide)) 30))).more
set_option maxHeartbeats 4000000 in
set_option maxRecDepth 100000 in
theorem lw_c_lasting {g : xG} {nx : Nat} {sh : Nat → Nat × Nat} {P : Nat → Nat → Option Nat} {I : Nat → Nat → Int32} {nm : String} {Q : Option Value → xS → Prop} {i k n : Nat} (h : xIv nx sh P I) (hL : g.2.2.2.2.2.2.1 ≤ 3072) (hi : i + 6 ≤ g.2.2.2.2.2.2.1) (kk : xLp g nm Q i k n) : xX g (Y_law nm) 30 (k + 22) (n + 1042) Q 1059 (lwL i) [] (nx, sh, P, I) := by
  refine x_aload_n dL_law_1059 rfl ?_
  refine x_aload_n dL_law_1060 rfl ?_
  refine x_iload_n dL_law_1061 rfl ?_
  refine x_iconst (v := 1) dL_law_1062 (by decide) ?_
  refine x_iadd dL_law_1063 ?_
  refine y_scr (j := 1) dL_law_1064 hL rfl (by omega) ?_
  refine x_callV (k2 := (k + 22)) (n2 := (n + 1042)) dL_law_1065 LV_Law_138 (m_C_lasting h.fx h.wn h.ri) rfl rfl (fxo_64 h.fx) rfl (Nat.le_of_ble_eq_true rfl) (Nat.le_of_ble_eq_true rfl) (by omega) (by omega) ?_
  rintro _ _ ⟨I1, rfl, rfl, hF1⟩
  have e8 : I1 128 = I 128 := hF1 128 (by decide)
  have h1 := h.cq hF1
  refine x_aload_n dL_law_1068 rfl ?_
  refine x_aload_n dL_law_1069 rfl ?_
  refine x_iload_n dL_law_1070 rfl ?_
  refine x_iconst (v := 1) dL_law_1071 (by decide) ?_
  refine x_iadd dL_law_1072 ?_
  refine y_scr (j := 1) dL_law_1073 hL rfl (by omega) ?_
  refine x_callV (k2 := (k + 22)) (n2 := (n + 1042)) dL_law_1074 LV_Law_141 (r_lasting (I := I1) h1.fx h1.ri) rfl rfl (fxo_127 h1.fx) rfl (Nat.le_of_ble_eq_true rfl) (Nat.le_of_ble_eq_true rfl) (by omega) (by omega) ?_
  rintro _ _ ⟨I2, rfl, rfl, f8, hF2⟩
  rw [e8]
  refine x_icmp_eq (tgt := 1322) dL_law_1077 rfl (fun _ => ?_) (fun c => absurd rfl c)
  exact (kk _ _ _ _ (h1.rq hF2 f8 (congrFun (hF2 127 (by decide)) 3) (congrFun (hF2 127 (by decide)) 30))).more
set_option maxHeartbeats 4000000 in
set_option maxRecDepth 100000 in
theorem lw_c_plan {g : xG} {nx : Nat} {sh : Nat → Nat × Nat} {P : Nat → Nat → Option Nat} {I : Nat → Nat → Int32} {nm : String} {Q : Option Value → xS → Prop} {i k n : Nat} (h : xIv nx sh P I) (hL : g.2.2.2.2.2.2.1 ≤ 3072) (hi : i + 6 ≤ g.2.2.2.2.2.2.1) (kk : xLp g nm Q i k n) : xX g (Y_law nm) 30 (k + 22) (n + 1042) Q 1082 (lwL i) [] (nx, sh, P, I) := by
  refine x_aload_n dL_law_1082 rfl ?_
  refine x_aload_n dL_law_1083 rfl ?_
  refine x_iload_n dL_law_1084 rfl ?_
  refine x_iconst (v := 1) dL_law_1085 (by decide) ?_
  refine x_iadd dL_law_1086 ?_
  refine y_scr (j := 1) dL_law_1087 hL rfl (by omega) ?_
  refine x_callV (k2 := (k + 22)) (n2 := (n + 1042)) dL_law_1088 LV_Law_142 (m_C_plan h.fx h.wn h.ri) rfl rfl (fxo_64 h.fx) rfl (Nat.le_of_ble_eq_true rfl) (Nat.le_of_ble_eq_true rfl) (by omega) (by omega) ?_
  rintro _ _ ⟨I1, rfl, rfl, hW1, hF1⟩
  have e8 : I1 128 = I 128 := hF1 128 (by decide)
  refine x_aload_n dL_law_1091 rfl ?_
  refine x_aload_n dL_law_1092 rfl ?_
  refine x_iload_n dL_law_1093 rfl ?_
  refine x_iconst (v := 1) dL_law_1094 (by decide) ?_
  refine x_iadd dL_law_1095 ?_
  refine y_scr (j := 1) dL_law_1096 hL rfl (by omega) ?_
  refine x_callV (k2 := (k + 22)) (n2 := (n + 1042)) dL_law_1097 LV_Law_145 (r_plan (I := I1) h.fx (by rw [e8]; exact h.ri)) rfl rfl (fxo_127 h.fx) rfl (Nat.le_of_ble_eq_true rfl) (Nat.le_of_ble_eq_true rfl) (by omega) (by omega) ?_
  rintro _ _ ⟨I2, rfl, rfl, e2, hF2⟩
  rw [e8] at e2
  rw [e8]
  refine x_icmp_eq (tgt := 1322) dL_law_1100 rfl (fun _ => ?_) (fun c => absurd rfl c)
  exact (kk _ _ _ _ (h.tl hW1 hF1 e2 hF2 h.ri.plan)).more
set_option maxHeartbeats 4000000 in
set_option maxRecDepth 100000 in
theorem lw_c_made {g : xG} {nx : Nat} {sh : Nat → Nat × Nat} {P : Nat → Nat → Option Nat} {I : Nat → Nat → Int32} {nm : String} {Q : Option Value → xS → Prop} {i k n : Nat} (h : xIv nx sh P I) (hL : g.2.2.2.2.2.2.1 ≤ 3072) (hi : i + 6 ≤ g.2.2.2.2.2.2.1) (kk : xLp g nm Q i k n) : xX g (Y_law nm) 30 (k + 22) (n + 1042) Q 1105 (lwL i) [] (nx, sh, P, I) := by
  refine x_aload_n dL_law_1105 rfl ?_
  refine x_aload_n dL_law_1106 rfl ?_
  refine x_iload_n dL_law_1107 rfl ?_
  refine x_iconst (v := 1) dL_law_1108 (by decide) ?_
  refine x_iadd dL_law_1109 ?_
  refine y_scr (j := 1) dL_law_1110 hL rfl (by omega) ?_
  refine x_callV (k2 := (k + 22)) (n2 := (n + 1042)) dL_law_1111 LV_Law_146 (m_C_made h.fx h.wn h.ri) rfl rfl (fxo_64 h.fx) rfl (Nat.le_of_ble_eq_true rfl) (Nat.le_of_ble_eq_true rfl) (by omega) (by omega) ?_
  rintro _ _ ⟨I1, rfl, rfl, hF1⟩
  have e8 : I1 128 = I 128 := hF1 128 (by decide)
  have h1 := h.cq hF1
  refine x_aload_n dL_law_1114 rfl ?_
  refine x_aload_n dL_law_1115 rfl ?_
  refine x_iload_n dL_law_1116 rfl ?_
  refine x_iconst (v := 1) dL_law_1117 (by decide) ?_
  refine x_iadd dL_law_1118 ?_
  refine y_scr (j := 1) dL_law_1119 hL rfl (by omega) ?_
  refine x_callV (k2 := (k + 22)) (n2 := (n + 1042)) dL_law_1120 LV_Law_149 (r_made (I := I1) h1.fx h1.ri) rfl rfl (fxo_127 h1.fx) rfl (Nat.le_of_ble_eq_true rfl) (Nat.le_of_ble_eq_true rfl) (by omega) (by omega) ?_
  rintro _ _ ⟨I2, rfl, rfl, f8, hF2, hD2⟩
  rw [e8]
  refine x_icmp_eq (tgt := 1322) dL_law_1123 rfl (fun _ => ?_) (fun c => absurd rfl c)
  exact (kk _ _ _ _ (h1.rq hF2 f8 (hD2 3 (by decide)) (hD2 30 (by decide)))).more
set_option maxHeartbeats 4000000 in
set_option maxRecDepth 100000 in
theorem lw_c_book {g : xG} {nx : Nat} {sh : Nat → Nat × Nat} {P : Nat → Nat → Option Nat} {I : Nat → Nat → Int32} {nm : String} {Q : Option Value → xS → Prop} {i k n : Nat} (h : xIv nx sh P I) (hL : g.2.2.2.2.2.2.1 ≤ 3072) (hi : i + 6 ≤ g.2.2.2.2.2.2.1) (kk : xLp g nm Q i k n) : xX g (Y_law nm) 30 (k + 22) (n + 1042) Q 1128 (lwL i) [] (nx, sh, P, I) := by
  refine x_aload_n dL_law_1128 rfl ?_
  refine x_aload_n dL_law_1129 rfl ?_
  refine x_iload_n dL_law_1130 rfl ?_
  refine x_iconst (v := 1) dL_law_1131 (by decide) ?_
  refine x_iadd dL_law_1132 ?_
  refine y_scr (j := 1) dL_law_1133 hL rfl (by omega) ?_
  refine x_aload_n dL_law_1134 rfl ?_
  refine x_iload_n dL_law_1135 rfl ?_
  refine x_iconst (v := 2) dL_law_1136 (by decide) ?_
  refine x_iadd dL_law_1137 ?_
  refine y_scr (j := 2) dL_law_1138 hL rfl (by omega) ?_
  refine x_callV (k2 := (k + 22)) (n2 := (n + 1042)) dL_law_1139 LV_Law_150 (m_C_book h.fx h.wn h.ri) rfl rfl (fxo_64 h.fx) rfl (Nat.le_of_ble_eq_true rfl) (Nat.le_of_ble_eq_true rfl) (by omega) (by omega) ?_
  rintro _ _ ⟨I1, rfl, rfl, hW1, hF1⟩
  have e8 : I1 128 = I 128 := hF1 128 (by decide)
  refine x_aload_n dL_law_1142 rfl ?_
  refine x_aload_n dL_law_1143 rfl ?_
  refine x_iload_n dL_law_1144 rfl ?_
  refine x_iconst (v := 1) dL_law_1145 (by decide) ?_
  refine x_iadd dL_law_1146 ?_
  refine y_scr (j := 1) dL_law_1147 hL rfl (by omega) ?_
  refine x_aload_n dL_law_1148 rfl ?_
  refine x_iload_n dL_law_1149 rfl ?_
  refine x_iconst (v := 2) dL_law_1150 (by decide) ?_
  refine x_iadd dL_law_1151 ?_
  refine y_scr (j := 2) dL_law_1152 hL rfl (by omega) ?_
  refine x_callV (k2 := (k + 22)) (n2 := (n + 1042)) dL_law_1153 LV_Law_153 (r_book (I := I1) h.fx (by rw [e8]; exact h.ri)) rfl rfl (fxo_127 h.fx) rfl (Nat.le_of_ble_eq_true rfl) (Nat.le_of_ble_eq_true rfl) (by omega) (by omega) ?_
  rintro _ _ ⟨I2, rfl, rfl, e2, hF2⟩
  rw [e8] at e2
  rw [e8]
  refine x_icmp_eq (tgt := 1322) dL_law_1156 rfl (fun _ => ?_) (fun c => absurd rfl c)
  exact (kk _ _ _ _ (h.tl hW1 hF1 e2 hF2 h.ri.book)).more
set_option maxHeartbeats 4000000 in
set_option maxRecDepth 100000 in
theorem lw_c_looked {g : xG} {nx : Nat} {sh : Nat → Nat × Nat} {P : Nat → Nat → Option Nat} {I : Nat → Nat → Int32} {nm : String} {Q : Option Value → xS → Prop} {i k n : Nat} (h : xIv nx sh P I) (hL : g.2.2.2.2.2.2.1 ≤ 3072) (hi : i + 6 ≤ g.2.2.2.2.2.2.1) (kk : xLp g nm Q i k n) : xX g (Y_law nm) 30 (k + 22) (n + 1042) Q 1161 (lwL i) [] (nx, sh, P, I) := by
  refine x_aload_n dL_law_1161 rfl ?_
  refine x_callV (k2 := (k + 22)) (n2 := (n + 1042)) dL_law_1162 LV_Law_154 (m_C_looked h.fx h.wn h.ri) rfl rfl (fxo_64 h.fx) rfl (Nat.le_of_ble_eq_true rfl) (Nat.le_of_ble_eq_true rfl) (by omega) (by omega) ?_
  rintro _ _ ⟨I1, rfl, rfl, hF1⟩
  have e8 : I1 128 = I 128 := hF1 128 (by decide)
  have h1 := h.cq hF1
  refine x_aload_n dL_law_1165 rfl ?_
  refine x_callV (k2 := (k + 22)) (n2 := (n + 1042)) dL_law_1166 LV_Law_157 (r_looked (I := I1) h1.fx h1.ri) rfl rfl (fxo_127 h1.fx) rfl (Nat.le_of_ble_eq_true rfl) (Nat.le_of_ble_eq_true rfl) (by omega) (by omega) ?_
  rintro _ _ ⟨I2, rfl, rfl, hF2⟩
  rw [e8]
  refine x_icmp_eq (tgt := 1322) dL_law_1169 rfl (fun _ => ?_) (fun c => absurd rfl c)
  exact (kk _ _ _ _ (h1.rq hF2 (hF2 128 (by decide)) (congrFun (hF2 127 (by decide)) 3) (congrFun (hF2 127 (by decide)) 30))).more
set_option maxHeartbeats 4000000 in
set_option maxRecDepth 100000 in
theorem lw_c_act {g : xG} {nx : Nat} {sh : Nat → Nat × Nat} {P : Nat → Nat → Option Nat} {I : Nat → Nat → Int32} {nm : String} {Q : Option Value → xS → Prop} {i k n : Nat} (h : xIv nx sh P I) (hL : g.2.2.2.2.2.2.1 ≤ 3072) (hi : i + 6 ≤ g.2.2.2.2.2.2.1) (kk : xLp g nm Q i k n) : xX g (Y_law nm) 30 (k + 22) (n + 1042) Q 1174 (lwL i) [] (nx, sh, P, I) := by
  refine x_aload_n dL_law_1174 rfl ?_
  refine x_aload_n dL_law_1175 rfl ?_
  refine x_iload_n dL_law_1176 rfl ?_
  refine x_iconst (v := 1) dL_law_1177 (by decide) ?_
  refine x_iadd dL_law_1178 ?_
  refine y_scr (j := 1) dL_law_1179 hL rfl (by omega) ?_
  refine x_aload_n dL_law_1180 rfl ?_
  refine x_iload_n dL_law_1181 rfl ?_
  refine x_iconst (v := 2) dL_law_1182 (by decide) ?_
  refine x_iadd dL_law_1183 ?_
  refine y_scr (j := 2) dL_law_1184 hL rfl (by omega) ?_
  refine x_aload_n dL_law_1185 rfl ?_
  refine x_iload_n dL_law_1186 rfl ?_
  refine x_iconst (v := 3) dL_law_1187 (by decide) ?_
  refine x_iadd dL_law_1188 ?_
  refine y_scr (j := 3) dL_law_1189 hL rfl (by omega) ?_
  refine x_callV (k2 := (k + 22)) (n2 := (n + 1042)) dL_law_1190 LV_Law_158 (m_C_act h.fx h.wn h.ri) rfl rfl (fxo_64 h.fx) rfl (Nat.le_of_ble_eq_true rfl) (Nat.le_of_ble_eq_true rfl) (by omega) (by omega) ?_
  rintro _ _ ⟨I1, rfl, rfl, ⟨a1, a2, a3⟩, hF1⟩
  have e8 : I1 128 = I 128 := hF1 128 (by decide)
  refine x_aload_n dL_law_1193 rfl ?_
  refine x_aload_n dL_law_1194 rfl ?_
  refine x_iload_n dL_law_1195 rfl ?_
  refine x_iconst (v := 1) dL_law_1196 (by decide) ?_
  refine x_iadd dL_law_1197 ?_
  refine y_scr (j := 1) dL_law_1198 hL rfl (by omega) ?_
  refine x_aload_n dL_law_1199 rfl ?_
  refine x_iload_n dL_law_1200 rfl ?_
  refine x_iconst (v := 2) dL_law_1201 (by decide) ?_
  refine x_iadd dL_law_1202 ?_
  refine y_scr (j := 2) dL_law_1203 hL rfl (by omega) ?_
  refine x_aload_n dL_law_1204 rfl ?_
  refine x_iload_n dL_law_1205 rfl ?_
  refine x_iconst (v := 3) dL_law_1206 (by decide) ?_
  refine x_iadd dL_law_1207 ?_
  refine y_scr (j := 3) dL_law_1208 hL rfl (by omega) ?_
  refine x_callV (k2 := (k + 22)) (n2 := (n + 1042)) dL_law_1209 LV_Law_161 (r_act (I := I1) h.fx (by rw [e8]; exact h.ri)) rfl rfl (fxo_127 h.fx) rfl (Nat.le_of_ble_eq_true rfl) (Nat.le_of_ble_eq_true rfl) (by omega) (by omega) ?_
  rintro _ _ ⟨I2, rfl, rfl, ⟨b1, b2⟩, hF2, b3⟩
  rw [e8] at b1 b2
  rw [e8]
  refine x_icmp_eq (tgt := 1322) dL_law_1212 rfl (fun _ => ?_) (fun c => absurd rfl c)
  refine (kk _ _ _ _ (h.ac (fun b hb => (hF2 b (fun z => by simp at z; omega)).trans (hF1 b (fun z => by simp at z; omega))) (b3.trans (by rw [hF1 127 (by decide)])) ⟨_, a2, by rw [hF2 125 (by decide)]; exact a1, b1, fun j hj => ?_⟩)).more
  rw [hF2 126 (by decide), a3 j hj, b2 j hj]
set_option maxHeartbeats 4000000 in
set_option maxRecDepth 100000 in
theorem lw_c_trace {g : xG} {nx : Nat} {sh : Nat → Nat × Nat} {P : Nat → Nat → Option Nat} {I : Nat → Nat → Int32} {nm : String} {Q : Option Value → xS → Prop} {i k n : Nat} (h : xIv nx sh P I) (hL : g.2.2.2.2.2.2.1 ≤ 3072) (hi : i + 6 ≤ g.2.2.2.2.2.2.1) (kk : xLp g nm Q i k n) : xX g (Y_law nm) 30 (k + 22) (n + 1042) Q 1217 (lwL i) [] (nx, sh, P, I) := by
  obtain ⟨n0, n1, n2, n3, n4⟩ := h.2.2.2.2.2.2.2
  refine x_aload_n dL_law_1217 rfl ?_
  refine x_aload_n dL_law_1218 rfl ?_
  refine x_iload_n dL_law_1219 rfl ?_
  refine x_iconst (v := 1) dL_law_1220 (by decide) ?_
  refine x_iadd dL_law_1221 ?_
  refine y_scr (j := 1) dL_law_1222 hL rfl (by omega) ?_
  refine x_callV (k2 := (k + 22)) (n2 := (n + 1042)) dL_law_1223 LV_Law_162 (m_C_trace h.fx n2 n1) rfl rfl (fxo_64 h.fx) rfl (Nat.le_of_ble_eq_true rfl) (Nat.le_of_ble_eq_true rfl) (by omega) (by omega) ?_
  rintro _ _ ⟨rfl, rfl⟩
  refine x_aload_n dL_law_1226 rfl ?_
  refine x_aload_n dL_law_1227 rfl ?_
  refine x_iload_n dL_law_1228 rfl ?_
  refine x_iconst (v := 1) dL_law_1229 (by decide) ?_
  refine x_iadd dL_law_1230 ?_
  refine y_scr (j := 1) dL_law_1231 hL rfl (by omega) ?_
  refine x_callV (k2 := (k + 22)) (n2 := (n + 1042)) dL_law_1232 LV_Law_165 (r_trace (I := I) h.fx n3.symm (nI_0le (by omega))) rfl rfl (fxo_127 h.fx) rfl (Nat.le_of_ble_eq_true rfl) (Nat.le_of_ble_eq_true rfl) (by omega) (by omega) ?_
  rintro _ _ ⟨rfl, rfl⟩
  rw [a_trace_c n1 n4]
  refine x_icmp_eq (tgt := 1322) dL_law_1235 rfl (fun _ => ?_) (fun c => absurd rfl c)
  exact (kk _ _ _ _ h).more
set_option maxHeartbeats 4000000 in
set_option maxRecDepth 100000 in
theorem lw_c_as {g : xG} {nx : Nat} {sh : Nat → Nat × Nat} {P : Nat → Nat → Option Nat} {I : Nat → Nat → Int32} {nm : String} {Q : Option Value → xS → Prop} {i k n : Nat} (h : xIv nx sh P I) (hL : g.2.2.2.2.2.2.1 ≤ 3072) (hi : i + 6 ≤ g.2.2.2.2.2.2.1) (kk : xLp g nm Q i k n) : xX g (Y_law nm) 30 (k + 22) (n + 1042) Q 1240 (lwL i) [] (nx, sh, P, I) := by
  refine x_aload_n dL_law_1240 rfl ?_
  refine x_aload_n dL_law_1241 rfl ?_
  refine x_iload_n dL_law_1242 rfl ?_
  refine x_iconst (v := 1) dL_law_1243 (by decide) ?_
  refine x_iadd dL_law_1244 ?_
  refine y_scr (j := 1) dL_law_1245 hL rfl (by omega) ?_
  refine x_aload_n dL_law_1246 rfl ?_
  refine x_iload_n dL_law_1247 rfl ?_
  refine x_iconst (v := 2) dL_law_1248 (by decide) ?_
  refine x_iadd dL_law_1249 ?_
  refine y_scr (j := 2) dL_law_1250 hL rfl (by omega) ?_
  refine x_callV (k2 := (k + 22)) (n2 := (n + 1042)) dL_law_1251 LV_Law_166 (m_C_as h.fx h.wn h.ri) rfl rfl (fxo_64 h.fx) rfl (Nat.le_of_ble_eq_true rfl) (Nat.le_of_ble_eq_true rfl) (by omega) (by omega) ?_
  rintro _ _ ⟨rfl, rfl⟩
  refine x_aload_n dL_law_1254 rfl ?_
  refine x_aload_n dL_law_1255 rfl ?_
  refine x_iload_n dL_law_1256 rfl ?_
  refine x_iconst (v := 1) dL_law_1257 (by decide) ?_
  refine x_iadd dL_law_1258 ?_
  refine y_scr (j := 1) dL_law_1259 hL rfl (by omega) ?_
  refine x_aload_n dL_law_1260 rfl ?_
  refine x_iload_n dL_law_1261 rfl ?_
  refine x_iconst (v := 2) dL_law_1262 (by decide) ?_
  refine x_iadd dL_law_1263 ?_
  refine y_scr (j := 2) dL_law_1264 hL rfl (by omega) ?_
  refine x_callV (k2 := (k + 22)) (n2 := (n + 1042)) dL_law_1265 LV_Law_169 (r_as (I := I) h.fx h.ri) rfl rfl (fxo_127 h.fx) rfl (Nat.le_of_ble_eq_true rfl) (Nat.le_of_ble_eq_true rfl) (by omega) (by omega) ?_
  rintro _ _ ⟨rfl, rfl⟩
  refine x_icmp_eq (tgt := 1322) dL_law_1268 rfl (fun _ => ?_) (fun c => absurd rfl c)
  exact (kk _ _ _ _ h).more
set_option maxHeartbeats 4000000 in
set_option maxRecDepth 100000 in
theorem lw_c_image {g : xG} {nx : Nat} {sh : Nat → Nat × Nat} {P : Nat → Nat → Option Nat} {I : Nat → Nat → Int32} {nm : String} {Q : Option Value → xS → Prop} {i k n : Nat} (h : xIv nx sh P I) (hL : g.2.2.2.2.2.2.1 ≤ 3072) (hi : i + 6 ≤ g.2.2.2.2.2.2.1) (kk : xLp g nm Q i k n) : xX g (Y_law nm) 30 (k + 22) (n + 1042) Q 1273 (lwL i) [] (nx, sh, P, I) := by
  refine x_aload_n dL_law_1273 rfl ?_
  refine x_callV (k2 := (k + 22)) (n2 := (n + 1042)) dL_law_1274 LV_Law_170 (m_C_image h.fx h.wn h.ri h.ke) rfl rfl (fxo_64 h.fx) rfl (Nat.le_of_ble_eq_true rfl) (Nat.le_of_ble_eq_true rfl) (by omega) (by omega) ?_
  rintro _ _ ⟨P1, I1, rfl, rfl, hx1, hP1, hF1, c2, cj, hW1, hK1⟩
  have e8 : I1 128 = I 128 := hF1 128 (by decide)
  refine x_aload_n dL_law_1277 rfl ?_
  refine x_callV (k2 := (k + 22)) (n2 := (n + 1042)) dL_law_1278 LV_Law_173 (r_image (I := I1) hx1) rfl rfl (fxo_127 hx1) rfl (Nat.le_of_ble_eq_true rfl) (Nat.le_of_ble_eq_true rfl) (by omega) (by omega) ?_
  rintro _ _ ⟨I2, rfl, rfl, q9, q3, hF2, qj⟩
  rw [e8]
  refine x_icmp_eq (tgt := 1322) dL_law_1281 rfl (fun _ => ?_) (fun c => absurd rfl c)
  exact (kk _ _ _ _ (img_fin h hx1 hF1 c2 hW1 hK1 q9 q3 hF2 qj)).more
set_option maxHeartbeats 4000000 in
set_option maxRecDepth 100000 in
theorem lw_c_undo {g : xG} {nx : Nat} {sh : Nat → Nat × Nat} {P : Nat → Nat → Option Nat} {I : Nat → Nat → Int32} {nm : String} {Q : Option Value → xS → Prop} {i k n : Nat} (h : xIv nx sh P I) (hL : g.2.2.2.2.2.2.1 ≤ 3072) (hi : i + 6 ≤ g.2.2.2.2.2.2.1) (kk : xLp g nm Q i k n) : xX g (Y_law nm) 30 (k + 22) (n + 1042) Q 1286 (lwL i) [] (nx, sh, P, I) := by
  refine x_aload_n dL_law_1286 rfl ?_
  refine x_callV (k2 := (k + 22)) (n2 := (n + 1042)) dL_law_1287 LV_Law_174 (m_C_undo (b := I 127 3) (u := I 129) h.fx h.wn h.ri h.2.2.2.2.2.1 (fun z => ⟨(h.2.2.2.2.2.2.1 z).2, (h.2.2.2.2.2.2.1 z).1⟩)) rfl rfl (fxo_64 h.fx) rfl (Nat.le_of_ble_eq_true rfl) (Nat.le_of_ble_eq_true rfl) (by omega) (by omega) ?_
  rintro _ _ (⟨hb, rfl, rfl⟩ | ⟨hb, P1, I1, rfl, rfl, hx1, hP1, hF1, hW1, hK1⟩)
  · refine x_aload_n dL_law_1290 rfl ?_
    refine x_callV (k2 := (k + 22)) (n2 := (n + 1042)) dL_law_1291 LV_Law_177 (r_undo (I := I) (b := I 127 3) h.fx rfl) rfl rfl (fxo_127 h.fx) rfl (Nat.le_of_ble_eq_true rfl) (Nat.le_of_ble_eq_true rfl) (by omega) (by omega) ?_
    rintro _ _ (⟨-, rfl, rfl⟩ | ⟨hb2, -⟩)
    · skip
      refine x_icmp_eq (tgt := 1322) dL_law_1294 rfl (fun _ => ?_) (fun c => absurd rfl c)
      exact (kk _ _ _ _ h).more
    · exact absurd hb hb2
  · refine x_aload_n dL_law_1290 rfl ?_
    have e7 : I1 127 = I 127 := hF1 127 (by decide)
    have e9 : I1 129 = I 129 := hF1 129 (by decide)
    refine x_callV (k2 := (k + 22)) (n2 := (n + 1042)) dL_law_1291 LV_Law_177 (r_undo (I := I1) (b := I1 127 3) hx1 rfl) rfl rfl (fxo_127 hx1) rfl (Nat.le_of_ble_eq_true rfl) (Nat.le_of_ble_eq_true rfl) (by omega) (by omega) ?_
    rintro _ _ (⟨hb2, -⟩ | ⟨-, I2, rfl, rfl, q8, hF2⟩)
    · rw [e7] at hb2; exact absurd hb2 hb
    · rw [e9]
      refine x_icmp_eq (tgt := 1322) dL_law_1294 rfl (fun _ => ?_) (fun c => absurd rfl c)
      exact (kk _ _ _ _ (und_fin h hb hx1 hF1 hW1 hK1 q8 hF2)).more
set_option maxHeartbeats 4000000 in
set_option maxRecDepth 100000 in
theorem lw_c_count {g : xG} {nx : Nat} {sh : Nat → Nat × Nat} {P : Nat → Nat → Option Nat} {I : Nat → Nat → Int32} {nm : String} {Q : Option Value → xS → Prop} {i k n : Nat} (h : xIv nx sh P I) (hL : g.2.2.2.2.2.2.1 ≤ 3072) (hi : i + 6 ≤ g.2.2.2.2.2.2.1) (kk : xLp g nm Q i k n) : xX g (Y_law nm) 30 (k + 22) (n + 1042) Q 1299 (lwL i) [] (nx, sh, P, I) := by
  obtain ⟨n0, n1, n2, n3, n4⟩ := h.2.2.2.2.2.2.2
  refine x_aload_n dL_law_1299 rfl ?_
  refine x_aload_n dL_law_1300 rfl ?_
  refine x_iload_n dL_law_1301 rfl ?_
  refine x_iconst (v := 1) dL_law_1302 (by decide) ?_
  refine x_iadd dL_law_1303 ?_
  refine y_scr (j := 1) dL_law_1304 hL rfl (by omega) ?_
  refine x_callV (k2 := (k + 22)) (n2 := (n + 1042)) dL_law_1305 LV_Law_178 (m_C_count h.fx h.wn h.ri) rfl rfl (fxo_64 h.fx) rfl (Nat.le_of_ble_eq_true rfl) (Nat.le_of_ble_eq_true rfl) (by omega) (by omega) ?_
  rintro _ _ ⟨rfl, rfl⟩
  refine x_aload_n dL_law_1308 rfl ?_
  refine x_aload_n dL_law_1309 rfl ?_
  refine x_iload_n dL_law_1310 rfl ?_
  refine x_iconst (v := 1) dL_law_1311 (by decide) ?_
  refine x_iadd dL_law_1312 ?_
  refine y_scr (j := 1) dL_law_1313 hL rfl (by omega) ?_
  refine x_callV (k2 := (k + 22)) (n2 := (n + 1042)) dL_law_1314 LV_Law_181 (r_count (I := I) h.fx) rfl rfl (fxo_127 h.fx) rfl (Nat.le_of_ble_eq_true rfl) (Nat.le_of_ble_eq_true rfl) (by omega) (by omega) ?_
  rintro _ _ ⟨rfl, rfl⟩
  rw [n2, n3]
  refine x_icmp_eq (tgt := 1322) dL_law_1317 rfl (fun _ => ?_) (fun c => absurd rfl c)
  exact (kk _ _ _ _ h).more
