/-! THE LAW: its calls, its loop -/
theorem and31 (y : Int32) : ∃ r, r < 32 ∧ y &&& nI 31 = nI r := by
  refine ⟨(y &&& nI 31).toBitVec.toNat, ?_, Int32.toBitVec_inj.mp (by show _ = BitVec.ofNat 32 _; simp)⟩
  show (y &&& nI 31).toBitVec.toNat < 2 ^ 5
  apply Nat.lt_pow_two_of_testBit
  intro j hj
  rw [BitVec.testBit_toNat]
  show bt (y &&& nI 31) j = false
  rcases Nat.lt_or_ge j 32 with q | q
  · rw [b_and, bt_nI q, tb_hi (n := 5) (show 31 < 2 ^ 5 by decide) hj, Bool.and_false]
  · exact b_big q
theorem r25 {r : Nat} (h : r < 32) : 25 ≤ r ∨ r = 0 ∨ r = 1 ∨ r = 2 ∨ r = 3 ∨ r = 4 ∨ r = 5 ∨ r = 6 ∨ r = 7 ∨ r = 8 ∨ r = 9 ∨ r = 10 ∨ r = 11 ∨ r = 12 ∨ r = 13 ∨ r = 14 ∨ r = 15 ∨ r = 16 ∨ r = 17 ∨ r = 18 ∨ r = 19 ∨ r = 20 ∨ r = 21 ∨ r = 22 ∨ r = 23 ∨ r = 24 := by omega
section LW
variable {G : xGl} {d k n t : Nat} {Q : Option Value → List xSh → xMem → Prop} {M : xMem} {w : aX}
theorem law_0 (hlen : G.2.2.1 ≤ 2048) (ht : 4 * t + 4 ≤ G.2.2.1) (hC : repC w M) (hM : repM w M) (hO : okX t w) (K : ∀ w1 M1, repC w1 M1 → repM w1 M1 → okX (t + 1) w1 → xW G mL (d + 14) k n Q 753 [some (.ref G.2.1), some (.ref (G.1 + 0)), some (.ref (G.1 + 156)), some (.int (nI (4 * t)))] [] SF M1) : xW G mL (d + 14) k n Q 148 [some (.ref G.2.1), some (.ref (G.1 + 0)), some (.ref (G.1 + 156)), some (.int (nI (4 * t)))] [] SF M := by
  have s0 := sh0
  have s1 := sh156
  refine xs_aload eL_148 rfl ?_
  refine xs_aload eL_149 rfl ?_
  refine xs_iload eL_150 rfl ?_
  refine xs_K eL_151 ?_
  refine xs_iadd eL_152 ?_
  refine xs_eq1 (nI_add _ 1) ?_
  refine xs_sld eL_153 (by omega) (by omega) ?_
  refine xs_callV1i eL_154 (by assumption) (Nat.le_of_ble_eq_true rfl) (c_X9_write (w := w) (N := t) hC hO (fun M1 e1 e2 => ⟨_, rfl, ?_⟩))
  refine xs_aload eL_157 rfl ?_
  refine xs_aload eL_158 rfl ?_
  refine xs_iload eL_159 rfl ?_
  refine xs_K eL_160 ?_
  refine xs_iadd eL_161 ?_
  refine xs_eq1 (nI_add _ 1) ?_
  refine xs_sld eL_162 (by omega) (by omega) ?_
  refine xs_callV1i eL_163 (by assumption) (Nat.le_of_ble_eq_true rfl) (c_X10_write (w := w) (N := t) (repM_hi hM e1) hO (fun M2 f1 f2 => ⟨_, rfl, ?_⟩))
  refine xs_icmp_eq eL_166 (fun h166 => ?_) (fun h => absurd (rfl) h)
  exact K _ M2 (repC_lo e2 f1) f2 (okX_write hO)
theorem law_1 (hlen : G.2.2.1 ≤ 2048) (ht : 4 * t + 4 ≤ G.2.2.1) (hC : repC w M) (hM : repM w M) (hO : okX t w) (K : ∀ w1 M1, repC w1 M1 → repM w1 M1 → okX (t + 1) w1 → xW G mL (d + 14) k n Q 753 [some (.ref G.2.1), some (.ref (G.1 + 0)), some (.ref (G.1 + 156)), some (.int (nI (4 * t)))] [] SF M1) : xW G mL (d + 14) k n Q 171 [some (.ref G.2.1), some (.ref (G.1 + 0)), some (.ref (G.1 + 156)), some (.int (nI (4 * t)))] [] SF M := by
  have s0 := sh0
  have s1 := sh156
  refine xs_aload eL_171 rfl ?_
  refine xs_callV0i eL_172 (by assumption) (Nat.le_of_ble_eq_true rfl) (c_X9_wipe (w := w) hC (fun M1 e1 e2 => ⟨_, rfl, ?_⟩))
  refine xs_aload eL_175 rfl ?_
  refine xs_callV0i eL_176 (by assumption) (Nat.le_of_ble_eq_true rfl) (c_X10_wipe (w := w) (repM_hi hM e1) (fun M2 f1 f2 => ⟨_, rfl, ?_⟩))
  refine xs_icmp_eq eL_179 (fun h179 => ?_) (fun h => absurd (rfl) h)
  exact K _ M2 (repC_lo e2 f1) f2 (okX_wipe hO)
theorem law_2 (hlen : G.2.2.1 ≤ 2048) (ht : 4 * t + 4 ≤ G.2.2.1) (hC : repC w M) (hM : repM w M) (hO : okX t w) (K : ∀ w1 M1, repC w1 M1 → repM w1 M1 → okX (t + 1) w1 → xW G mL (d + 14) k n Q 753 [some (.ref G.2.1), some (.ref (G.1 + 0)), some (.ref (G.1 + 156)), some (.int (nI (4 * t)))] [] SF M1) : xW G mL (d + 14) k n Q 184 [some (.ref G.2.1), some (.ref (G.1 + 0)), some (.ref (G.1 + 156)), some (.int (nI (4 * t)))] [] SF M := by
  have s0 := sh0
  have s1 := sh156
  refine xs_aload eL_184 rfl ?_
  refine xs_callV0i eL_185 (by assumption) (Nat.le_of_ble_eq_true rfl) (c_X9_fault (w := w) (N := t) hC hO (fun M1 e1 e2 => ⟨_, rfl, ?_⟩))
  refine xs_aload eL_188 rfl ?_
  refine xs_callV0i eL_189 (by assumption) (Nat.le_of_ble_eq_true rfl) (c_X10_fault (w := w) (N := t) (repM_hi hM e1) hO (fun M2 f1 f2 => ⟨_, rfl, ?_⟩))
  refine xs_icmp_eq eL_192 (fun h192 => ?_) (fun h => absurd (rfl) h)
  exact K _ M2 (repC_lo e2 f1) f2 (okX_more hO)
theorem law_3 (hlen : G.2.2.1 ≤ 2048) (ht : 4 * t + 4 ≤ G.2.2.1) (hC : repC w M) (hM : repM w M) (hO : okX t w) (K : ∀ w1 M1, repC w1 M1 → repM w1 M1 → okX (t + 1) w1 → xW G mL (d + 14) k n Q 753 [some (.ref G.2.1), some (.ref (G.1 + 0)), some (.ref (G.1 + 156)), some (.int (nI (4 * t)))] [] SF M1) : xW G mL (d + 14) k n Q 197 [some (.ref G.2.1), some (.ref (G.1 + 0)), some (.ref (G.1 + 156)), some (.int (nI (4 * t)))] [] SF M := by
  have s0 := sh0
  have s1 := sh156
  refine xs_aload eL_197 rfl ?_
  refine xs_callV0i eL_198 (by assumption) (Nat.le_of_ble_eq_true rfl) (c_X9_lay (w := w) (N := t) hC hO (fun M1 e1 e2 => ⟨_, rfl, ?_⟩))
  refine xs_aload eL_201 rfl ?_
  refine xs_callV0i eL_202 (by assumption) (Nat.le_of_ble_eq_true rfl) (c_X10_lay (w := w) (N := t) (repM_hi hM e1) hO (fun M2 f1 f2 => ⟨_, rfl, ?_⟩))
  refine xs_icmp_eq eL_205 (fun h205 => ?_) (fun h => absurd (rfl) h)
  exact K _ M2 (repC_lo e2 f1) f2 (okX_more (okX_lay hO))
theorem law_4 (hlen : G.2.2.1 ≤ 2048) (ht : 4 * t + 4 ≤ G.2.2.1) (hC : repC w M) (hM : repM w M) (hO : okX t w) (K : ∀ w1 M1, repC w1 M1 → repM w1 M1 → okX (t + 1) w1 → xW G mL (d + 14) k n Q 753 [some (.ref G.2.1), some (.ref (G.1 + 0)), some (.ref (G.1 + 156)), some (.int (nI (4 * t)))] [] SF M1) : xW G mL (d + 14) k n Q 210 [some (.ref G.2.1), some (.ref (G.1 + 0)), some (.ref (G.1 + 156)), some (.int (nI (4 * t)))] [] SF M := by
  have s0 := sh0
  have s1 := sh156
  refine xs_aload eL_210 rfl ?_
  refine xs_aload eL_211 rfl ?_
  refine xs_iload eL_212 rfl ?_
  refine xs_K eL_213 ?_
  refine xs_iadd eL_214 ?_
  refine xs_eq1 (nI_add _ 1) ?_
  refine xs_sld eL_215 (by omega) (by omega) ?_
  refine xs_aload eL_216 rfl ?_
  refine xs_iload eL_217 rfl ?_
  refine xs_K eL_218 ?_
  refine xs_iadd eL_219 ?_
  refine xs_eq1 (nI_add _ 2) ?_
  refine xs_sld eL_220 (by omega) (by omega) ?_
  refine xs_callV2i eL_221 (by assumption) (Nat.le_of_ble_eq_true rfl) (c_X9_village (w := w) (N := t) hC hO ⟨_, rfl, ?_⟩)
  refine xs_aload eL_224 rfl ?_
  refine xs_aload eL_225 rfl ?_
  refine xs_iload eL_226 rfl ?_
  refine xs_K eL_227 ?_
  refine xs_iadd eL_228 ?_
  refine xs_eq1 (nI_add _ 1) ?_
  refine xs_sld eL_229 (by omega) (by omega) ?_
  refine xs_aload eL_230 rfl ?_
  refine xs_iload eL_231 rfl ?_
  refine xs_K eL_232 ?_
  refine xs_iadd eL_233 ?_
  refine xs_eq1 (nI_add _ 2) ?_
  refine xs_sld eL_234 (by omega) (by omega) ?_
  refine xs_callV2i eL_235 (by assumption) (Nat.le_of_ble_eq_true rfl) (c_X10_village (w := w) (N := t) hM hO ⟨_, rfl, ?_⟩)
  refine xs_icmp_eq eL_238 (fun h238 => ?_) (fun h => absurd (rfl) h)
  exact K w M hC hM (okX_more hO)
theorem law_5 (hlen : G.2.2.1 ≤ 2048) (ht : 4 * t + 4 ≤ G.2.2.1) (hC : repC w M) (hM : repM w M) (hO : okX t w) (K : ∀ w1 M1, repC w1 M1 → repM w1 M1 → okX (t + 1) w1 → xW G mL (d + 14) k n Q 753 [some (.ref G.2.1), some (.ref (G.1 + 0)), some (.ref (G.1 + 156)), some (.int (nI (4 * t)))] [] SF M1) : xW G mL (d + 14) k n Q 243 [some (.ref G.2.1), some (.ref (G.1 + 0)), some (.ref (G.1 + 156)), some (.int (nI (4 * t)))] [] SF M := by
  have s0 := sh0
  have s1 := sh156
  refine xs_aload eL_243 rfl ?_
  refine xs_aload eL_244 rfl ?_
  refine xs_iload eL_245 rfl ?_
  refine xs_K eL_246 ?_
  refine xs_iadd eL_247 ?_
  refine xs_eq1 (nI_add _ 1) ?_
  refine xs_sld eL_248 (by omega) (by omega) ?_
  refine xs_aload eL_249 rfl ?_
  refine xs_iload eL_250 rfl ?_
  refine xs_K eL_251 ?_
  refine xs_iadd eL_252 ?_
  refine xs_eq1 (nI_add _ 2) ?_
  refine xs_sld eL_253 (by omega) (by omega) ?_
  refine xs_callV2i eL_254 (by assumption) (Nat.le_of_ble_eq_true rfl) (c_X9_party (w := w) (N := t) hC hO ⟨_, rfl, ?_⟩)
  refine xs_aload eL_257 rfl ?_
  refine xs_aload eL_258 rfl ?_
  refine xs_iload eL_259 rfl ?_
  refine xs_K eL_260 ?_
  refine xs_iadd eL_261 ?_
  refine xs_eq1 (nI_add _ 1) ?_
  refine xs_sld eL_262 (by omega) (by omega) ?_
  refine xs_aload eL_263 rfl ?_
  refine xs_iload eL_264 rfl ?_
  refine xs_K eL_265 ?_
  refine xs_iadd eL_266 ?_
  refine xs_eq1 (nI_add _ 2) ?_
  refine xs_sld eL_267 (by omega) (by omega) ?_
  refine xs_callV2i eL_268 (by assumption) (Nat.le_of_ble_eq_true rfl) (c_X10_party (w := w) (N := t) hM hO ⟨_, rfl, ?_⟩)
  refine xs_icmp_eq eL_271 (fun h271 => ?_) (fun h => absurd (rfl) h)
  exact K w M hC hM (okX_more hO)
theorem law_6 (hlen : G.2.2.1 ≤ 2048) (ht : 4 * t + 4 ≤ G.2.2.1) (hC : repC w M) (hM : repM w M) (hO : okX t w) (K : ∀ w1 M1, repC w1 M1 → repM w1 M1 → okX (t + 1) w1 → xW G mL (d + 14) k n Q 753 [some (.ref G.2.1), some (.ref (G.1 + 0)), some (.ref (G.1 + 156)), some (.int (nI (4 * t)))] [] SF M1) : xW G mL (d + 14) k n Q 276 [some (.ref G.2.1), some (.ref (G.1 + 0)), some (.ref (G.1 + 156)), some (.int (nI (4 * t)))] [] SF M := by
  have s0 := sh0
  have s1 := sh156
  refine xs_aload eL_276 rfl ?_
  refine xs_aload eL_277 rfl ?_
  refine xs_iload eL_278 rfl ?_
  refine xs_K eL_279 ?_
  refine xs_iadd eL_280 ?_
  refine xs_eq1 (nI_add _ 1) ?_
  refine xs_sld eL_281 (by omega) (by omega) ?_
  refine xs_aload eL_282 rfl ?_
  refine xs_iload eL_283 rfl ?_
  refine xs_K eL_284 ?_
  refine xs_iadd eL_285 ?_
  refine xs_eq1 (nI_add _ 2) ?_
  refine xs_sld eL_286 (by omega) (by omega) ?_
  refine xs_callV2i eL_287 (by assumption) (Nat.le_of_ble_eq_true rfl) (c_X9_far (w := w) (N := t) hC hO ⟨_, rfl, ?_⟩)
  refine xs_aload eL_290 rfl ?_
  refine xs_aload eL_291 rfl ?_
  refine xs_iload eL_292 rfl ?_
  refine xs_K eL_293 ?_
  refine xs_iadd eL_294 ?_
  refine xs_eq1 (nI_add _ 1) ?_
  refine xs_sld eL_295 (by omega) (by omega) ?_
  refine xs_aload eL_296 rfl ?_
  refine xs_iload eL_297 rfl ?_
  refine xs_K eL_298 ?_
  refine xs_iadd eL_299 ?_
  refine xs_eq1 (nI_add _ 2) ?_
  refine xs_sld eL_300 (by omega) (by omega) ?_
  refine xs_callV2i eL_301 (by assumption) (Nat.le_of_ble_eq_true rfl) (c_X10_far (w := w) (N := t) hM hO ⟨_, rfl, ?_⟩)
  refine xs_icmp_eq eL_304 (fun h304 => ?_) (fun h => absurd (rfl) h)
  exact K w M hC hM (okX_more hO)
theorem law_7 (hlen : G.2.2.1 ≤ 2048) (ht : 4 * t + 4 ≤ G.2.2.1) (hC : repC w M) (hM : repM w M) (hO : okX t w) (K : ∀ w1 M1, repC w1 M1 → repM w1 M1 → okX (t + 1) w1 → xW G mL (d + 14) k n Q 753 [some (.ref G.2.1), some (.ref (G.1 + 0)), some (.ref (G.1 + 156)), some (.int (nI (4 * t)))] [] SF M1) : xW G mL (d + 14) k n Q 309 [some (.ref G.2.1), some (.ref (G.1 + 0)), some (.ref (G.1 + 156)), some (.int (nI (4 * t)))] [] SF M := by
  have s0 := sh0
  have s1 := sh156
  refine xs_aload eL_309 rfl ?_
  refine xs_aload eL_310 rfl ?_
  refine xs_iload eL_311 rfl ?_
  refine xs_K eL_312 ?_
  refine xs_iadd eL_313 ?_
  refine xs_eq1 (nI_add _ 1) ?_
  refine xs_sld eL_314 (by omega) (by omega) ?_
  refine xs_aload eL_315 rfl ?_
  refine xs_iload eL_316 rfl ?_
  refine xs_K eL_317 ?_
  refine xs_iadd eL_318 ?_
  refine xs_eq1 (nI_add _ 2) ?_
  refine xs_sld eL_319 (by omega) (by omega) ?_
  refine xs_callV2i eL_320 (by assumption) (Nat.le_of_ble_eq_true rfl) (c_X9_ask (w := w) (N := t) hC hO (fun M1 e1 e2 => ⟨_, rfl, ?_⟩))
  refine xs_aload eL_323 rfl ?_
  refine xs_aload eL_324 rfl ?_
  refine xs_iload eL_325 rfl ?_
  refine xs_K eL_326 ?_
  refine xs_iadd eL_327 ?_
  refine xs_eq1 (nI_add _ 1) ?_
  refine xs_sld eL_328 (by omega) (by omega) ?_
  refine xs_aload eL_329 rfl ?_
  refine xs_iload eL_330 rfl ?_
  refine xs_K eL_331 ?_
  refine xs_iadd eL_332 ?_
  refine xs_eq1 (nI_add _ 2) ?_
  refine xs_sld eL_333 (by omega) (by omega) ?_
  refine xs_callV2i eL_334 (by assumption) (Nat.le_of_ble_eq_true rfl) (c_X10_ask (w := w) (N := t) (repM_hi hM e1) hO (by omega) (fun M2 f1 f2 => ⟨_, rfl, ?_⟩))
  refine xs_icmp_eq eL_337 (fun h337 => ?_) (fun h => absurd (rfl) h)
  exact K _ M2 (repC_lo e2 f1) f2 (okX_ask hO)
theorem law_8 (hlen : G.2.2.1 ≤ 2048) (ht : 4 * t + 4 ≤ G.2.2.1) (hC : repC w M) (hM : repM w M) (hO : okX t w) (K : ∀ w1 M1, repC w1 M1 → repM w1 M1 → okX (t + 1) w1 → xW G mL (d + 14) k n Q 753 [some (.ref G.2.1), some (.ref (G.1 + 0)), some (.ref (G.1 + 156)), some (.int (nI (4 * t)))] [] SF M1) : xW G mL (d + 14) k n Q 342 [some (.ref G.2.1), some (.ref (G.1 + 0)), some (.ref (G.1 + 156)), some (.int (nI (4 * t)))] [] SF M := by
  have s0 := sh0
  have s1 := sh156
  refine xs_aload eL_342 rfl ?_
  refine xs_aload eL_343 rfl ?_
  refine xs_iload eL_344 rfl ?_
  refine xs_K eL_345 ?_
  refine xs_iadd eL_346 ?_
  refine xs_eq1 (nI_add _ 1) ?_
  refine xs_sld eL_347 (by omega) (by omega) ?_
  refine xs_callV1i eL_348 (by assumption) (Nat.le_of_ble_eq_true rfl) (c_X9_check (w := w) (N := t) hC hO (fun M1 e1 e2 => ⟨_, rfl, ?_⟩))
  refine xs_aload eL_351 rfl ?_
  refine xs_aload eL_352 rfl ?_
  refine xs_iload eL_353 rfl ?_
  refine xs_K eL_354 ?_
  refine xs_iadd eL_355 ?_
  refine xs_eq1 (nI_add _ 1) ?_
  refine xs_sld eL_356 (by omega) (by omega) ?_
  refine xs_callV1i eL_357 (by assumption) (Nat.le_of_ble_eq_true rfl) (c_X10_check (w := w) (N := t) (repM_hi hM e1) hO (fun M2 f1 f2 => ⟨_, rfl, ?_⟩))
  refine xs_icmp_eq eL_360 (fun h360 => ?_) (fun h => absurd (rfl) h)
  exact K _ M2 (repC_lo e2 f1) f2 (okX_check hO)
theorem law_9 (hlen : G.2.2.1 ≤ 2048) (ht : 4 * t + 4 ≤ G.2.2.1) (hC : repC w M) (hM : repM w M) (hO : okX t w) (K : ∀ w1 M1, repC w1 M1 → repM w1 M1 → okX (t + 1) w1 → xW G mL (d + 14) k n Q 753 [some (.ref G.2.1), some (.ref (G.1 + 0)), some (.ref (G.1 + 156)), some (.int (nI (4 * t)))] [] SF M1) : xW G mL (d + 14) k n Q 365 [some (.ref G.2.1), some (.ref (G.1 + 0)), some (.ref (G.1 + 156)), some (.int (nI (4 * t)))] [] SF M := by
  have s0 := sh0
  have s1 := sh156
  refine xs_aload eL_365 rfl ?_
  refine xs_aload eL_366 rfl ?_
  refine xs_iload eL_367 rfl ?_
  refine xs_K eL_368 ?_
  refine xs_iadd eL_369 ?_
  refine xs_eq1 (nI_add _ 1) ?_
  refine xs_sld eL_370 (by omega) (by omega) ?_
  refine xs_callV1i eL_371 (by assumption) (Nat.le_of_ble_eq_true rfl) (c_X9_strike (w := w) (N := t) hC hO (fun M1 e1 e2 => ⟨_, rfl, ?_⟩))
  refine xs_aload eL_374 rfl ?_
  refine xs_aload eL_375 rfl ?_
  refine xs_iload eL_376 rfl ?_
  refine xs_K eL_377 ?_
  refine xs_iadd eL_378 ?_
  refine xs_eq1 (nI_add _ 1) ?_
  refine xs_sld eL_379 (by omega) (by omega) ?_
  refine xs_callV1i eL_380 (by assumption) (Nat.le_of_ble_eq_true rfl) (c_X10_strike (w := w) (N := t) (repM_hi hM e1) hO (fun M2 f1 f2 => ⟨_, rfl, ?_⟩))
  refine xs_icmp_eq eL_383 (fun h383 => ?_) (fun h => absurd (rfl) h)
  exact K _ M2 (repC_lo e2 f1) f2 (okX_strike hO)
theorem law_10 (hlen : G.2.2.1 ≤ 2048) (ht : 4 * t + 4 ≤ G.2.2.1) (hC : repC w M) (hM : repM w M) (hO : okX t w) (K : ∀ w1 M1, repC w1 M1 → repM w1 M1 → okX (t + 1) w1 → xW G mL (d + 14) k n Q 753 [some (.ref G.2.1), some (.ref (G.1 + 0)), some (.ref (G.1 + 156)), some (.int (nI (4 * t)))] [] SF M1) : xW G mL (d + 14) k n Q 388 [some (.ref G.2.1), some (.ref (G.1 + 0)), some (.ref (G.1 + 156)), some (.int (nI (4 * t)))] [] SF M := by
  have s0 := sh0
  have s1 := sh156
  refine xs_aload eL_388 rfl ?_
  refine xs_callV0i eL_389 (by assumption) (Nat.le_of_ble_eq_true rfl) (c_X9_undo (w := w) (N := t) hC hO (fun M1 e1 e2 => ⟨_, rfl, ?_⟩))
  refine xs_aload eL_392 rfl ?_
  refine xs_callV0i eL_393 (by assumption) (Nat.le_of_ble_eq_true rfl) (c_X10_undo (w := w) (N := t) (repM_hi hM e1) hO (fun M2 f1 f2 => ⟨_, rfl, ?_⟩))
  refine xs_icmp_eq eL_396 (fun h396 => ?_) (fun h => absurd (rfl) h)
  exact K _ M2 (repC_lo e2 f1) f2 (okX_undo hO)
theorem law_11 (hlen : G.2.2.1 ≤ 2048) (ht : 4 * t + 4 ≤ G.2.2.1) (hC : repC w M) (hM : repM w M) (hO : okX t w) (K : ∀ w1 M1, repC w1 M1 → repM w1 M1 → okX (t + 1) w1 → xW G mL (d + 14) k n Q 753 [some (.ref G.2.1), some (.ref (G.1 + 0)), some (.ref (G.1 + 156)), some (.int (nI (4 * t)))] [] SF M1) : xW G mL (d + 14) k n Q 401 [some (.ref G.2.1), some (.ref (G.1 + 0)), some (.ref (G.1 + 156)), some (.int (nI (4 * t)))] [] SF M := by
  have s0 := sh0
  have s1 := sh156
  refine xs_aload eL_401 rfl ?_
  refine xs_aload eL_402 rfl ?_
  refine xs_iload eL_403 rfl ?_
  refine xs_K eL_404 ?_
  refine xs_iadd eL_405 ?_
  refine xs_eq1 (nI_add _ 1) ?_
  refine xs_sld eL_406 (by omega) (by omega) ?_
  refine xs_callV1i eL_407 (by assumption) (Nat.le_of_ble_eq_true rfl) (c_X9_soonest (w := w) (N := t) (by omega) hC hO (fun M1 e1 e2 => ⟨_, rfl, ?_⟩))
  refine xs_aload eL_410 rfl ?_
  refine xs_aload eL_411 rfl ?_
  refine xs_iload eL_412 rfl ?_
  refine xs_K eL_413 ?_
  refine xs_iadd eL_414 ?_
  refine xs_eq1 (nI_add _ 1) ?_
  refine xs_sld eL_415 (by omega) (by omega) ?_
  refine xs_callV1i eL_416 (by assumption) (Nat.le_of_ble_eq_true rfl) (c_X10_soonest (w := w) (N := t) (by omega) (repM_hi hM e1) hO (fun M2 f1 f2 => ⟨_, rfl, ?_⟩))
  refine xs_icmp_eq eL_419 (fun h419 => ?_) (fun h => absurd (rfl) h)
  exact K _ M2 (repC_lo e2 f1) f2 (okX_more hO)
theorem law_12 (hlen : G.2.2.1 ≤ 2048) (ht : 4 * t + 4 ≤ G.2.2.1) (hC : repC w M) (hM : repM w M) (hO : okX t w) (K : ∀ w1 M1, repC w1 M1 → repM w1 M1 → okX (t + 1) w1 → xW G mL (d + 14) k n Q 753 [some (.ref G.2.1), some (.ref (G.1 + 0)), some (.ref (G.1 + 156)), some (.int (nI (4 * t)))] [] SF M1) : xW G mL (d + 14) k n Q 424 [some (.ref G.2.1), some (.ref (G.1 + 0)), some (.ref (G.1 + 156)), some (.int (nI (4 * t)))] [] SF M := by
  have s0 := sh0
  have s1 := sh156
  refine xs_aload eL_424 rfl ?_
  refine xs_aload eL_425 rfl ?_
  refine xs_iload eL_426 rfl ?_
  refine xs_K eL_427 ?_
  refine xs_iadd eL_428 ?_
  refine xs_eq1 (nI_add _ 1) ?_
  refine xs_sld eL_429 (by omega) (by omega) ?_
  refine xs_callV1i eL_430 (by assumption) (Nat.le_of_ble_eq_true rfl) (c_X9_most (w := w) (N := t) hC hO (fun M1 e1 e2 => ⟨_, rfl, ?_⟩))
  refine xs_aload eL_433 rfl ?_
  refine xs_aload eL_434 rfl ?_
  refine xs_iload eL_435 rfl ?_
  refine xs_K eL_436 ?_
  refine xs_iadd eL_437 ?_
  refine xs_eq1 (nI_add _ 1) ?_
  refine xs_sld eL_438 (by omega) (by omega) ?_
  refine xs_callV1i eL_439 (by assumption) (Nat.le_of_ble_eq_true rfl) (c_X10_most (w := w) (N := t) (repM_hi hM e1) hO (fun M2 f1 f2 => ⟨_, rfl, ?_⟩))
  refine xs_icmp_eq eL_442 (fun h442 => ?_) (fun h => absurd (rfl) h)
  exact K _ M2 (repC_lo e2 f1) f2 (okX_more hO)
theorem law_13 (hlen : G.2.2.1 ≤ 2048) (ht : 4 * t + 4 ≤ G.2.2.1) (hC : repC w M) (hM : repM w M) (hO : okX t w) (K : ∀ w1 M1, repC w1 M1 → repM w1 M1 → okX (t + 1) w1 → xW G mL (d + 14) k n Q 753 [some (.ref G.2.1), some (.ref (G.1 + 0)), some (.ref (G.1 + 156)), some (.int (nI (4 * t)))] [] SF M1) : xW G mL (d + 14) k n Q 447 [some (.ref G.2.1), some (.ref (G.1 + 0)), some (.ref (G.1 + 156)), some (.int (nI (4 * t)))] [] SF M := by
  have s0 := sh0
  have s1 := sh156
  refine xs_aload eL_447 rfl ?_
  refine xs_aload eL_448 rfl ?_
  refine xs_iload eL_449 rfl ?_
  refine xs_K eL_450 ?_
  refine xs_iadd eL_451 ?_
  refine xs_eq1 (nI_add _ 1) ?_
  refine xs_sld eL_452 (by omega) (by omega) ?_
  refine xs_callV1i eL_453 (by assumption) (Nat.le_of_ble_eq_true rfl) (c_X9_least (w := w) (N := t) hC hO (fun M1 e1 e2 => ⟨_, rfl, ?_⟩))
  refine xs_aload eL_456 rfl ?_
  refine xs_aload eL_457 rfl ?_
  refine xs_iload eL_458 rfl ?_
  refine xs_K eL_459 ?_
  refine xs_iadd eL_460 ?_
  refine xs_eq1 (nI_add _ 1) ?_
  refine xs_sld eL_461 (by omega) (by omega) ?_
  refine xs_callV1i eL_462 (by assumption) (Nat.le_of_ble_eq_true rfl) (c_X10_least (w := w) (N := t) (repM_hi hM e1) hO (fun M2 f1 f2 => ⟨_, rfl, ?_⟩))
  refine xs_icmp_eq eL_465 (fun h465 => ?_) (fun h => absurd (rfl) h)
  exact K _ M2 (repC_lo e2 f1) f2 (okX_more hO)
theorem law_14 (hlen : G.2.2.1 ≤ 2048) (ht : 4 * t + 4 ≤ G.2.2.1) (hC : repC w M) (hM : repM w M) (hO : okX t w) (K : ∀ w1 M1, repC w1 M1 → repM w1 M1 → okX (t + 1) w1 → xW G mL (d + 14) k n Q 753 [some (.ref G.2.1), some (.ref (G.1 + 0)), some (.ref (G.1 + 156)), some (.int (nI (4 * t)))] [] SF M1) : xW G mL (d + 14) k n Q 470 [some (.ref G.2.1), some (.ref (G.1 + 0)), some (.ref (G.1 + 156)), some (.int (nI (4 * t)))] [] SF M := by
  have s0 := sh0
  have s1 := sh156
  refine xs_aload eL_470 rfl ?_
  refine xs_aload eL_471 rfl ?_
  refine xs_iload eL_472 rfl ?_
  refine xs_K eL_473 ?_
  refine xs_iadd eL_474 ?_
  refine xs_eq1 (nI_add _ 1) ?_
  refine xs_sld eL_475 (by omega) (by omega) ?_
  refine xs_aload eL_476 rfl ?_
  refine xs_iload eL_477 rfl ?_
  refine xs_K eL_478 ?_
  refine xs_iadd eL_479 ?_
  refine xs_eq1 (nI_add _ 2) ?_
  refine xs_sld eL_480 (by omega) (by omega) ?_
  refine xs_callV2i eL_481 (by assumption) (Nat.le_of_ble_eq_true rfl) (c_X9_checks (w := w) (N := t) hC hO ⟨_, rfl, ?_⟩)
  refine xs_aload eL_484 rfl ?_
  refine xs_aload eL_485 rfl ?_
  refine xs_iload eL_486 rfl ?_
  refine xs_K eL_487 ?_
  refine xs_iadd eL_488 ?_
  refine xs_eq1 (nI_add _ 1) ?_
  refine xs_sld eL_489 (by omega) (by omega) ?_
  refine xs_aload eL_490 rfl ?_
  refine xs_iload eL_491 rfl ?_
  refine xs_K eL_492 ?_
  refine xs_iadd eL_493 ?_
  refine xs_eq1 (nI_add _ 2) ?_
  refine xs_sld eL_494 (by omega) (by omega) ?_
  refine xs_callV2i eL_495 (by assumption) (Nat.le_of_ble_eq_true rfl) (c_X10_checks (w := w) (N := t) hM hO ⟨_, rfl, ?_⟩)
  refine xs_icmp_eq eL_498 (fun h498 => ?_) (fun h => absurd (rfl) h)
  exact K w M hC hM (okX_more hO)
theorem law_15 (hlen : G.2.2.1 ≤ 2048) (ht : 4 * t + 4 ≤ G.2.2.1) (hC : repC w M) (hM : repM w M) (hO : okX t w) (K : ∀ w1 M1, repC w1 M1 → repM w1 M1 → okX (t + 1) w1 → xW G mL (d + 14) k n Q 753 [some (.ref G.2.1), some (.ref (G.1 + 0)), some (.ref (G.1 + 156)), some (.int (nI (4 * t)))] [] SF M1) : xW G mL (d + 14) k n Q 503 [some (.ref G.2.1), some (.ref (G.1 + 0)), some (.ref (G.1 + 156)), some (.int (nI (4 * t)))] [] SF M := by
  have s0 := sh0
  have s1 := sh156
  refine xs_aload eL_503 rfl ?_
  refine xs_aload eL_504 rfl ?_
  refine xs_iload eL_505 rfl ?_
  refine xs_K eL_506 ?_
  refine xs_iadd eL_507 ?_
  refine xs_eq1 (nI_add _ 1) ?_
  refine xs_sld eL_508 (by omega) (by omega) ?_
  refine xs_aload eL_509 rfl ?_
  refine xs_iload eL_510 rfl ?_
  refine xs_K eL_511 ?_
  refine xs_iadd eL_512 ?_
  refine xs_eq1 (nI_add _ 2) ?_
  refine xs_sld eL_513 (by omega) (by omega) ?_
  refine xs_callV2i eL_514 (by assumption) (Nat.le_of_ble_eq_true rfl) (c_X9_see (w := w) (N := t) hC hO (fun M1 e1 e2 => ⟨_, rfl, ?_⟩))
  refine xs_aload eL_517 rfl ?_
  refine xs_aload eL_518 rfl ?_
  refine xs_iload eL_519 rfl ?_
  refine xs_K eL_520 ?_
  refine xs_iadd eL_521 ?_
  refine xs_eq1 (nI_add _ 1) ?_
  refine xs_sld eL_522 (by omega) (by omega) ?_
  refine xs_aload eL_523 rfl ?_
  refine xs_iload eL_524 rfl ?_
  refine xs_K eL_525 ?_
  refine xs_iadd eL_526 ?_
  refine xs_eq1 (nI_add _ 2) ?_
  refine xs_sld eL_527 (by omega) (by omega) ?_
  refine xs_callV2i eL_528 (by assumption) (Nat.le_of_ble_eq_true rfl) (c_X10_see (w := w) (N := t) (repM_hi hM e1) hO (fun M2 f1 f2 => ⟨_, rfl, ?_⟩))
  refine xs_icmp_eq eL_531 (fun h531 => ?_) (fun h => absurd (rfl) h)
  exact K _ M2 (repC_lo e2 f1) f2 (okX_see hO)
theorem law_16 (hlen : G.2.2.1 ≤ 2048) (ht : 4 * t + 4 ≤ G.2.2.1) (hC : repC w M) (hM : repM w M) (hO : okX t w) (K : ∀ w1 M1, repC w1 M1 → repM w1 M1 → okX (t + 1) w1 → xW G mL (d + 14) k n Q 753 [some (.ref G.2.1), some (.ref (G.1 + 0)), some (.ref (G.1 + 156)), some (.int (nI (4 * t)))] [] SF M1) : xW G mL (d + 14) k n Q 536 [some (.ref G.2.1), some (.ref (G.1 + 0)), some (.ref (G.1 + 156)), some (.int (nI (4 * t)))] [] SF M := by
  have s0 := sh0
  have s1 := sh156
  refine xs_aload eL_536 rfl ?_
  refine xs_callV0i eL_537 (by assumption) (Nat.le_of_ble_eq_true rfl) (c_X9_forget (w := w) hC (fun M1 e1 e2 => ⟨_, rfl, ?_⟩))
  refine xs_aload eL_540 rfl ?_
  refine xs_callV0i eL_541 (by assumption) (Nat.le_of_ble_eq_true rfl) (c_X10_forget (w := w) (repM_hi hM e1) (fun M2 f1 f2 => ⟨_, rfl, ?_⟩))
  refine xs_icmp_eq eL_544 (fun h544 => ?_) (fun h => absurd (rfl) h)
  exact K _ M2 (repC_lo e2 f1) f2 (okX_forget hO)
theorem law_17 (hlen : G.2.2.1 ≤ 2048) (ht : 4 * t + 4 ≤ G.2.2.1) (hC : repC w M) (hM : repM w M) (hO : okX t w) (K : ∀ w1 M1, repC w1 M1 → repM w1 M1 → okX (t + 1) w1 → xW G mL (d + 14) k n Q 753 [some (.ref G.2.1), some (.ref (G.1 + 0)), some (.ref (G.1 + 156)), some (.int (nI (4 * t)))] [] SF M1) : xW G mL (d + 14) k n Q 549 [some (.ref G.2.1), some (.ref (G.1 + 0)), some (.ref (G.1 + 156)), some (.int (nI (4 * t)))] [] SF M := by
  have s0 := sh0
  have s1 := sh156
  refine xs_aload eL_549 rfl ?_
  refine xs_aload eL_550 rfl ?_
  refine xs_iload eL_551 rfl ?_
  refine xs_K eL_552 ?_
  refine xs_iadd eL_553 ?_
  refine xs_eq1 (nI_add _ 1) ?_
  refine xs_sld eL_554 (by omega) (by omega) ?_
  refine xs_callV1i eL_555 (by assumption) (Nat.le_of_ble_eq_true rfl) (c_X9_kinds (w := w) (N := t) hC hO ⟨_, rfl, ?_⟩)
  refine xs_aload eL_558 rfl ?_
  refine xs_aload eL_559 rfl ?_
  refine xs_iload eL_560 rfl ?_
  refine xs_K eL_561 ?_
  refine xs_iadd eL_562 ?_
  refine xs_eq1 (nI_add _ 1) ?_
  refine xs_sld eL_563 (by omega) (by omega) ?_
  refine xs_callV1i eL_564 (by assumption) (Nat.le_of_ble_eq_true rfl) (c_X10_kinds (w := w) (N := t) hM hO ⟨_, rfl, ?_⟩)
  refine xs_icmp_eq eL_567 (fun h567 => ?_) (fun h => absurd (rfl) h)
  exact K w M hC hM (okX_more hO)
theorem law_18 (hlen : G.2.2.1 ≤ 2048) (ht : 4 * t + 4 ≤ G.2.2.1) (hC : repC w M) (hM : repM w M) (hO : okX t w) (K : ∀ w1 M1, repC w1 M1 → repM w1 M1 → okX (t + 1) w1 → xW G mL (d + 14) k n Q 753 [some (.ref G.2.1), some (.ref (G.1 + 0)), some (.ref (G.1 + 156)), some (.int (nI (4 * t)))] [] SF M1) : xW G mL (d + 14) k n Q 572 [some (.ref G.2.1), some (.ref (G.1 + 0)), some (.ref (G.1 + 156)), some (.int (nI (4 * t)))] [] SF M := by
  have s0 := sh0
  have s1 := sh156
  refine xs_aload eL_572 rfl ?_
  refine xs_callV0i eL_573 (by assumption) (Nat.le_of_ble_eq_true rfl) (c_X9_copies (w := w) (N := t) hC hO ⟨_, rfl, ?_⟩)
  refine xs_aload eL_576 rfl ?_
  refine xs_callV0i eL_577 (by assumption) (Nat.le_of_ble_eq_true rfl) (c_X10_copies (w := w) (N := t) hM hO ⟨_, rfl, ?_⟩)
  refine xs_icmp_eq eL_580 (fun h580 => ?_) (fun h => absurd (rfl) h)
  exact K w M hC hM (okX_more hO)
theorem law_19 (hlen : G.2.2.1 ≤ 2048) (ht : 4 * t + 4 ≤ G.2.2.1) (hC : repC w M) (hM : repM w M) (hO : okX t w) (K : ∀ w1 M1, repC w1 M1 → repM w1 M1 → okX (t + 1) w1 → xW G mL (d + 14) k n Q 753 [some (.ref G.2.1), some (.ref (G.1 + 0)), some (.ref (G.1 + 156)), some (.int (nI (4 * t)))] [] SF M1) : xW G mL (d + 14) k n Q 585 [some (.ref G.2.1), some (.ref (G.1 + 0)), some (.ref (G.1 + 156)), some (.int (nI (4 * t)))] [] SF M := by
  have s0 := sh0
  have s1 := sh156
  refine xs_aload eL_585 rfl ?_
  refine xs_aload eL_586 rfl ?_
  refine xs_iload eL_587 rfl ?_
  refine xs_K eL_588 ?_
  refine xs_iadd eL_589 ?_
  refine xs_eq1 (nI_add _ 1) ?_
  refine xs_sld eL_590 (by omega) (by omega) ?_
  refine xs_aload eL_591 rfl ?_
  refine xs_iload eL_592 rfl ?_
  refine xs_K eL_593 ?_
  refine xs_iadd eL_594 ?_
  refine xs_eq1 (nI_add _ 2) ?_
  refine xs_sld eL_595 (by omega) (by omega) ?_
  refine xs_callV2i eL_596 (by assumption) (Nat.le_of_ble_eq_true rfl) (c_X9_agree (w := w) (N := t) hC hO ⟨_, rfl, ?_⟩)
  refine xs_aload eL_599 rfl ?_
  refine xs_aload eL_600 rfl ?_
  refine xs_iload eL_601 rfl ?_
  refine xs_K eL_602 ?_
  refine xs_iadd eL_603 ?_
  refine xs_eq1 (nI_add _ 1) ?_
  refine xs_sld eL_604 (by omega) (by omega) ?_
  refine xs_aload eL_605 rfl ?_
  refine xs_iload eL_606 rfl ?_
  refine xs_K eL_607 ?_
  refine xs_iadd eL_608 ?_
  refine xs_eq1 (nI_add _ 2) ?_
  refine xs_sld eL_609 (by omega) (by omega) ?_
  refine xs_callV2i eL_610 (by assumption) (Nat.le_of_ble_eq_true rfl) (c_X10_agree (w := w) (N := t) hM hO ⟨_, rfl, ?_⟩)
  refine xs_icmp_eq eL_613 (fun h613 => ?_) (fun h => absurd (rfl) h)
  exact K w M hC hM (okX_more hO)
theorem law_20 (hlen : G.2.2.1 ≤ 2048) (ht : 4 * t + 4 ≤ G.2.2.1) (hC : repC w M) (hM : repM w M) (hO : okX t w) (K : ∀ w1 M1, repC w1 M1 → repM w1 M1 → okX (t + 1) w1 → xW G mL (d + 14) k n Q 753 [some (.ref G.2.1), some (.ref (G.1 + 0)), some (.ref (G.1 + 156)), some (.int (nI (4 * t)))] [] SF M1) : xW G mL (d + 14) k n Q 618 [some (.ref G.2.1), some (.ref (G.1 + 0)), some (.ref (G.1 + 156)), some (.int (nI (4 * t)))] [] SF M := by
  have s0 := sh0
  have s1 := sh156
  refine xs_aload eL_618 rfl ?_
  refine xs_aload eL_619 rfl ?_
  refine xs_iload eL_620 rfl ?_
  refine xs_K eL_621 ?_
  refine xs_iadd eL_622 ?_
  refine xs_eq1 (nI_add _ 1) ?_
  refine xs_sld eL_623 (by omega) (by omega) ?_
  refine xs_aload eL_624 rfl ?_
  refine xs_iload eL_625 rfl ?_
  refine xs_K eL_626 ?_
  refine xs_iadd eL_627 ?_
  refine xs_eq1 (nI_add _ 2) ?_
  refine xs_sld eL_628 (by omega) (by omega) ?_
  refine xs_aload eL_629 rfl ?_
  refine xs_iload eL_630 rfl ?_
  refine xs_K eL_631 ?_
  refine xs_iadd eL_632 ?_
  refine xs_eq1 (nI_add _ 3) ?_
  refine xs_sld eL_633 (by omega) (by omega) ?_
  refine xs_callV3i eL_634 (by assumption) (Nat.le_of_ble_eq_true rfl) (c_X9_honest (w := w) (N := t) hC hO (fun M1 e1 e2 => ⟨_, rfl, ?_⟩))
  refine xs_aload eL_637 rfl ?_
  refine xs_aload eL_638 rfl ?_
  refine xs_iload eL_639 rfl ?_
  refine xs_K eL_640 ?_
  refine xs_iadd eL_641 ?_
  refine xs_eq1 (nI_add _ 1) ?_
  refine xs_sld eL_642 (by omega) (by omega) ?_
  refine xs_aload eL_643 rfl ?_
  refine xs_iload eL_644 rfl ?_
  refine xs_K eL_645 ?_
  refine xs_iadd eL_646 ?_
  refine xs_eq1 (nI_add _ 2) ?_
  refine xs_sld eL_647 (by omega) (by omega) ?_
  refine xs_aload eL_648 rfl ?_
  refine xs_iload eL_649 rfl ?_
  refine xs_K eL_650 ?_
  refine xs_iadd eL_651 ?_
  refine xs_eq1 (nI_add _ 3) ?_
  refine xs_sld eL_652 (by omega) (by omega) ?_
  refine xs_callV3i eL_653 (by assumption) (Nat.le_of_ble_eq_true rfl) (c_X10_honest (w := w) (N := t) (repM_hi hM e1) hO (fun M2 f1 f2 => ⟨_, rfl, ?_⟩))
  refine xs_icmp_eq eL_656 (fun h656 => ?_) (fun h => absurd (rfl) h)
  exact K _ M2 (repC_lo e2 f1) f2 (okX_more hO)
theorem law_21 (hlen : G.2.2.1 ≤ 2048) (ht : 4 * t + 4 ≤ G.2.2.1) (hC : repC w M) (hM : repM w M) (hO : okX t w) (K : ∀ w1 M1, repC w1 M1 → repM w1 M1 → okX (t + 1) w1 → xW G mL (d + 14) k n Q 753 [some (.ref G.2.1), some (.ref (G.1 + 0)), some (.ref (G.1 + 156)), some (.int (nI (4 * t)))] [] SF M1) : xW G mL (d + 14) k n Q 661 [some (.ref G.2.1), some (.ref (G.1 + 0)), some (.ref (G.1 + 156)), some (.int (nI (4 * t)))] [] SF M := by
  have s0 := sh0
  have s1 := sh156
  refine xs_aload eL_661 rfl ?_
  refine xs_aload eL_662 rfl ?_
  refine xs_iload eL_663 rfl ?_
  refine xs_K eL_664 ?_
  refine xs_iadd eL_665 ?_
  refine xs_eq1 (nI_add _ 1) ?_
  refine xs_sld eL_666 (by omega) (by omega) ?_
  refine xs_aload eL_667 rfl ?_
  refine xs_iload eL_668 rfl ?_
  refine xs_K eL_669 ?_
  refine xs_iadd eL_670 ?_
  refine xs_eq1 (nI_add _ 2) ?_
  refine xs_sld eL_671 (by omega) (by omega) ?_
  refine xs_aload eL_672 rfl ?_
  refine xs_iload eL_673 rfl ?_
  refine xs_K eL_674 ?_
  refine xs_iadd eL_675 ?_
  refine xs_eq1 (nI_add _ 3) ?_
  refine xs_sld eL_676 (by omega) (by omega) ?_
  refine xs_callV3i eL_677 (by assumption) (Nat.le_of_ble_eq_true rfl) (c_X9_shire (w := w) (N := t) (by omega) hC hO (fun M1 e1 e2 => ⟨_, rfl, ?_⟩))
  refine xs_aload eL_680 rfl ?_
  refine xs_aload eL_681 rfl ?_
  refine xs_iload eL_682 rfl ?_
  refine xs_K eL_683 ?_
  refine xs_iadd eL_684 ?_
  refine xs_eq1 (nI_add _ 1) ?_
  refine xs_sld eL_685 (by omega) (by omega) ?_
  refine xs_aload eL_686 rfl ?_
  refine xs_iload eL_687 rfl ?_
  refine xs_K eL_688 ?_
  refine xs_iadd eL_689 ?_
  refine xs_eq1 (nI_add _ 2) ?_
  refine xs_sld eL_690 (by omega) (by omega) ?_
  refine xs_aload eL_691 rfl ?_
  refine xs_iload eL_692 rfl ?_
  refine xs_K eL_693 ?_
  refine xs_iadd eL_694 ?_
  refine xs_eq1 (nI_add _ 3) ?_
  refine xs_sld eL_695 (by omega) (by omega) ?_
  refine xs_callV3i eL_696 (by assumption) (Nat.le_of_ble_eq_true rfl) (c_X10_shire (w := w) (N := t) (by omega) (repM_hi hM e1) hO (fun M2 f1 f2 => ⟨_, rfl, ?_⟩))
  refine xs_icmp_eq eL_699 (fun h699 => ?_) (fun h => absurd (rfl) h)
  exact K _ M2 (repC_lo e2 f1) f2 (okX_more hO)
theorem law_22 (hlen : G.2.2.1 ≤ 2048) (ht : 4 * t + 4 ≤ G.2.2.1) (hC : repC w M) (hM : repM w M) (hO : okX t w) (K : ∀ w1 M1, repC w1 M1 → repM w1 M1 → okX (t + 1) w1 → xW G mL (d + 14) k n Q 753 [some (.ref G.2.1), some (.ref (G.1 + 0)), some (.ref (G.1 + 156)), some (.int (nI (4 * t)))] [] SF M1) : xW G mL (d + 14) k n Q 704 [some (.ref G.2.1), some (.ref (G.1 + 0)), some (.ref (G.1 + 156)), some (.int (nI (4 * t)))] [] SF M := by
  have s0 := sh0
  have s1 := sh156
  refine xs_aload eL_704 rfl ?_
  refine xs_callV0i eL_705 (by assumption) (Nat.le_of_ble_eq_true rfl) (c_X9_keep (w := w) (N := t) hC hO (fun M1 e1 e2 => ⟨_, rfl, ?_⟩))
  refine xs_aload eL_708 rfl ?_
  refine xs_callV0i eL_709 (by assumption) (Nat.le_of_ble_eq_true rfl) (c_X10_keep (w := w) (N := t) (repM_hi hM e1) hO (fun M2 f1 f2 => ⟨_, rfl, ?_⟩))
  refine xs_icmp_eq eL_712 (fun h712 => ?_) (fun h => absurd (rfl) h)
  exact K _ M2 (repC_lo e2 f1) f2 (okX_keep hO)
theorem law_23 (hlen : G.2.2.1 ≤ 2048) (ht : 4 * t + 4 ≤ G.2.2.1) (hC : repC w M) (hM : repM w M) (hO : okX t w) (K : ∀ w1 M1, repC w1 M1 → repM w1 M1 → okX (t + 1) w1 → xW G mL (d + 14) k n Q 753 [some (.ref G.2.1), some (.ref (G.1 + 0)), some (.ref (G.1 + 156)), some (.int (nI (4 * t)))] [] SF M1) : xW G mL (d + 14) k n Q 717 [some (.ref G.2.1), some (.ref (G.1 + 0)), some (.ref (G.1 + 156)), some (.int (nI (4 * t)))] [] SF M := by
  have s0 := sh0
  have s1 := sh156
  refine xs_aload eL_717 rfl ?_
  refine xs_callV0i eL_718 (by assumption) (Nat.le_of_ble_eq_true rfl) (c_X9_back (w := w) (N := t) hC hO (fun M1 e1 e2 => ⟨_, rfl, ?_⟩))
  refine xs_aload eL_721 rfl ?_
  refine xs_callV0i eL_722 (by assumption) (Nat.le_of_ble_eq_true rfl) (c_X10_back (w := w) (N := t) (repM_hi hM e1) hO (fun M2 f1 f2 => ⟨_, rfl, ?_⟩))
  refine xs_icmp_eq eL_725 (fun h725 => ?_) (fun h => absurd (rfl) h)
  exact K _ M2 (repC_lo e2 f1) f2 (okX_back hO)
theorem law_24 (hlen : G.2.2.1 ≤ 2048) (ht : 4 * t + 4 ≤ G.2.2.1) (hC : repC w M) (hM : repM w M) (hO : okX t w) (K : ∀ w1 M1, repC w1 M1 → repM w1 M1 → okX (t + 1) w1 → xW G mL (d + 14) k n Q 753 [some (.ref G.2.1), some (.ref (G.1 + 0)), some (.ref (G.1 + 156)), some (.int (nI (4 * t)))] [] SF M1) : xW G mL (d + 14) k n Q 730 [some (.ref G.2.1), some (.ref (G.1 + 0)), some (.ref (G.1 + 156)), some (.int (nI (4 * t)))] [] SF M := by
  have s0 := sh0
  have s1 := sh156
  refine xs_aload eL_730 rfl ?_
  refine xs_aload eL_731 rfl ?_
  refine xs_iload eL_732 rfl ?_
  refine xs_K eL_733 ?_
  refine xs_iadd eL_734 ?_
  refine xs_eq1 (nI_add _ 1) ?_
  refine xs_sld eL_735 (by omega) (by omega) ?_
  refine xs_callV1i eL_736 (by assumption) (Nat.le_of_ble_eq_true rfl) (c_X9_count (w := w) (N := t) (by omega) hC hO ⟨_, rfl, ?_⟩)
  refine xs_aload eL_739 rfl ?_
  refine xs_aload eL_740 rfl ?_
  refine xs_iload eL_741 rfl ?_
  refine xs_K eL_742 ?_
  refine xs_iadd eL_743 ?_
  refine xs_eq1 (nI_add _ 1) ?_
  refine xs_sld eL_744 (by omega) (by omega) ?_
  refine xs_callV1i eL_745 (by assumption) (Nat.le_of_ble_eq_true rfl) (c_X10_count (w := w) (N := t) (by omega) hM hO ⟨_, rfl, ?_⟩)
  refine xs_icmp_eq eL_748 (fun h748 => ?_) (fun h => absurd (rfl) h)
  exact K w M hC hM (okX_more hO)
theorem law_loop (hlen : G.2.2.1 ≤ 2048) (hQ : ∀ M1, Q (some (.int (nI 1))) SF M1) (hC : repC w M) (hM : repM w M) (hO : okX 0 w) : xW G mL (d + 14) k n Q 18 [some (.ref G.2.1), some (.ref (G.1 + 0)), some (.ref (G.1 + 156)), some (.int (nI 0))] [] SF M := by
  have hcmp : ∀ t, t ≤ 512 → ((nI G.2.2.1 - nI 4 < nI (4 * t)) ↔ G.2.2.1 < 4 * t + 4) := by
    intro t ht
    rw [Int32.lt_iff_toInt_lt, pk_sub_toInt (by omega) (by decide), nI_toInt (by omega)]
    omega
  refine dn (P := fun t => ∀ (w : aX) (M1 : xMem), repC w M1 → repM w M1 → okX t w → xW G mL (d + 14) k n Q 18 [some (.ref G.2.1), some (.ref (G.1 + 0)), some (.ref (G.1 + 156)), some (.int (nI (4 * t)))] [] SF M1) 512 ?_ ?_ 0 (by omega) w M hC hM hO
  · intro w M1 hC hM hO
    have hx := (hcmp 512 (Nat.le_refl _)).mpr (by omega)
    refine xs_iload eL_18 rfl ?_
    refine xs_aload eL_19 rfl ?_
    refine xs_slen eL_20 ?_
    refine xs_K eL_21 ?_
    refine xs_isub eL_22 ?_
    refine xs_icmp_gt eL_23 (fun h23 => ?_) (fun h => absurd h (fun h => h hx))
    refine xs_K eL_759 ?_
    exact xs_iret eL_760 rfl (by first | exact bI_nar _ | rfl) (hQ M1)
  · intro t ht512 ih w M1 hC hM hO
    have K : ∀ w1 M1, repC w1 M1 → repM w1 M1 → okX (t + 1) w1 → xW G mL (d + 14) k n Q 753 [some (.ref G.2.1), some (.ref (G.1 + 0)), some (.ref (G.1 + 156)), some (.int (nI (4 * t)))] [] SF M1 := by
      intro w1 M1 h1 h2 h3
      refine xs_iinc (v := nI (4 * (t + 1))) eL_753 rfl (by rw [show Int32.ofInt 4 = nI 4 by decide, nI_add, show 4 * (t + 1) = 4 * t + 4 by omega]) rfl rfl ?_
      refine xs_goto eL_756 ?_
      exact ih _ _ h1 h2 h3
    have KB : ¬ (nI G.2.2.1 - nI 4 < nI (4 * t)) → xW G mL (d + 14) k n Q 26 [some (.ref G.2.1), some (.ref (G.1 + 0)), some (.ref (G.1 + 156)), some (.int (nI (4 * t)))] [] SF M1 := by
      intro h
      have ht : 4 * t + 4 ≤ G.2.2.1 := by
        have : ¬ G.2.2.1 < 4 * t + 4 := fun q => h ((hcmp t (by omega)).mpr q)
        omega
      obtain ⟨r, hr, er⟩ := and31 (G.2.2.2.1 (4 * t))
      refine xs_aload eL_26 rfl ?_
      refine xs_iload eL_27 rfl ?_
      refine xs_sld eL_28 (by omega) (by omega) ?_
      refine xs_K eL_29 ?_
      refine xs_iand eL_31 ?_
      refine xs_eq1 er ?_
      rcases r25 hr with h25 | rfl | rfl | rfl | rfl | rfl | rfl | rfl | rfl | rfl | rfl | rfl | rfl | rfl | rfl | rfl | rfl | rfl | rfl | rfl | rfl | rfl | rfl | rfl | rfl | rfl
      · refine xs_tsOut eL_32 (Or.inr (by rw [nI_toInt (by omega)]; omega)) ?_
        exact K w M1 hC hM (okX_more hO)
      · refine xs_tsIn eL_32 0 (by decide) (by decide) (by decide) rfl ?_
        exact law_0 hlen ht hC hM hO K
      · refine xs_tsIn eL_32 1 (by decide) (by decide) (by decide) rfl ?_
        exact law_1 hlen ht hC hM hO K
      · refine xs_tsIn eL_32 2 (by decide) (by decide) (by decide) rfl ?_
        exact law_2 hlen ht hC hM hO K
      · refine xs_tsIn eL_32 3 (by decide) (by decide) (by decide) rfl ?_
        exact law_3 hlen ht hC hM hO K
      · refine xs_tsIn eL_32 4 (by decide) (by decide) (by decide) rfl ?_
        exact law_4 hlen ht hC hM hO K
      · refine xs_tsIn eL_32 5 (by decide) (by decide) (by decide) rfl ?_
        exact law_5 hlen ht hC hM hO K
      · refine xs_tsIn eL_32 6 (by decide) (by decide) (by decide) rfl ?_
        exact law_6 hlen ht hC hM hO K
      · refine xs_tsIn eL_32 7 (by decide) (by decide) (by decide) rfl ?_
        exact law_7 hlen ht hC hM hO K
      · refine xs_tsIn eL_32 8 (by decide) (by decide) (by decide) rfl ?_
        exact law_8 hlen ht hC hM hO K
      · refine xs_tsIn eL_32 9 (by decide) (by decide) (by decide) rfl ?_
        exact law_9 hlen ht hC hM hO K
      · refine xs_tsIn eL_32 10 (by decide) (by decide) (by decide) rfl ?_
        exact law_10 hlen ht hC hM hO K
      · refine xs_tsIn eL_32 11 (by decide) (by decide) (by decide) rfl ?_
        exact law_11 hlen ht hC hM hO K
      · refine xs_tsIn eL_32 12 (by decide) (by decide) (by decide) rfl ?_
        exact law_12 hlen ht hC hM hO K
      · refine xs_tsIn eL_32 13 (by decide) (by decide) (by decide) rfl ?_
        exact law_13 hlen ht hC hM hO K
      · refine xs_tsIn eL_32 14 (by decide) (by decide) (by decide) rfl ?_
        exact law_14 hlen ht hC hM hO K
      · refine xs_tsIn eL_32 15 (by decide) (by decide) (by decide) rfl ?_
        exact law_15 hlen ht hC hM hO K
      · refine xs_tsIn eL_32 16 (by decide) (by decide) (by decide) rfl ?_
        exact law_16 hlen ht hC hM hO K
      · refine xs_tsIn eL_32 17 (by decide) (by decide) (by decide) rfl ?_
        exact law_17 hlen ht hC hM hO K
      · refine xs_tsIn eL_32 18 (by decide) (by decide) (by decide) rfl ?_
        exact law_18 hlen ht hC hM hO K
      · refine xs_tsIn eL_32 19 (by decide) (by decide) (by decide) rfl ?_
        exact law_19 hlen ht hC hM hO K
      · refine xs_tsIn eL_32 20 (by decide) (by decide) (by decide) rfl ?_
        exact law_20 hlen ht hC hM hO K
      · refine xs_tsIn eL_32 21 (by decide) (by decide) (by decide) rfl ?_
        exact law_21 hlen ht hC hM hO K
      · refine xs_tsIn eL_32 22 (by decide) (by decide) (by decide) rfl ?_
        exact law_22 hlen ht hC hM hO K
      · refine xs_tsIn eL_32 23 (by decide) (by decide) (by decide) rfl ?_
        exact law_23 hlen ht hC hM hO K
      · refine xs_tsIn eL_32 24 (by decide) (by decide) (by decide) rfl ?_
        exact law_24 hlen ht hC hM hO K
    refine xs_iload eL_18 rfl ?_
    refine xs_aload eL_19 rfl ?_
    refine xs_slen eL_20 ?_
    refine xs_K eL_21 ?_
    refine xs_isub eL_22 ?_
    refine xs_icmp_gt eL_23 (fun h23 => ?_) (fun h23 => ?_)
    · refine xs_K eL_759 ?_
      exact xs_iret eL_760 rfl (by first | exact bI_nar _ | rfl) (hQ M1)
    · exact KB h23
theorem law_walk (hlen : G.2.2.1 ≤ 2048) (hz : ∀ a j, M a j = 0) (hQ : ∀ M1, Q (some (.int (nI 1))) SF M1) : xW G mL (d + 14) 170 5000 Q 0 [some (.ref G.2.1), none, none, none] [] [] M := by
  refine xz_new (S := []) (fs := bf9) (c := 0) eL_0 rfl rfl tyX9 tyX9_ok bf9_ok (fun j => hz _ j) (by decide) (by decide) ?_
  refine xs_dup eL_3 rfl ?_
  refine xs_callI (As := []) (kc := 155) (nc := 2310) rfl eL_4 rfl rfl (Nat.le_of_ble_eq_true rfl) (by decide) (by decide) (c_X9_init hz (fun M1 e1 e2 => ?_))
  refine xs_astore eL_7 (Nat.le_of_ble_eq_true rfl) rfl rfl ?_
  refine xz_new (S := SI) (fs := bf10) (c := 156) eL_8 rfl rfl tyX10 tyX10_ok bf10_ok (fun j => by rw [e1 156 (by decide)]; exact hz _ j) (by decide) (by decide) ?_
  refine xs_dup eL_11 rfl ?_
  refine xs_callI (As := []) (kc := 13) (nc := 2000) rfl eL_12 rfl rfl (Nat.le_of_ble_eq_true rfl) (by decide) (by decide) (c_X10_init (fun a ha j => by rw [e1 a ha]; exact hz a j) (fun M2 f1 f2 => ?_))
  refine xs_astore eL_15 (Nat.le_of_ble_eq_true rfl) rfl rfl ?_
  refine xs_K eL_16 ?_
  refine xs_istore eL_17 (Nat.le_of_ble_eq_true rfl) rfl rfl ?_
  exact law_loop hlen hQ (repC_lo e2 f1) f2 okX_wS
end LW
