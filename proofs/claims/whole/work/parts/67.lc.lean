section LC
variable {κ : Kx} {g : XG} {Q : State → Prop} {sc L i : Nat} {xs : Nat → Int32} {a b : Nat → Nat} {wX wM : va_W}
set_option maxRecDepth 100000 in
set_option maxHeartbeats 4000000 in
theorem lw_c0 (hX : va_X sc L xs (ks κ) (ks κ).heap) (hsz : sc < (ks κ).heap.size) (hA : ¬ kA κ sc) (hL : L ≤ 384) (hi : i + 6 ≤ L) (hR : Rel g a b wX wM) (hgo : ∀ w1 w2, Rel g a b w1 w2 → Xs κ g 1312 600000 7302250 cL_law yL_law ret Q 72 23970 1278 [some (.ref sc), some (.ref (a 0)), some (.ref (b 0)), some (.int (nI i))] [] (w1 ++ w2)) : Xs κ g 1312 600000 7302250 cL_law yL_law ret Q 72 23970 212 [some (.ref sc), some (.ref (a 0)), some (.ref (b 0)), some (.int (nI i))] [] (wX ++ wM) := by
  obtain ⟨fx, hx0⟩ := rel_x0 hR
  obtain ⟨fm, hm0⟩ := rel_n0 hR
  obtain ⟨v, kx, kn, PX, PM, hkx, hkn, hv, cX, cM, hj⟩ := pm_place κ.2.1 g a b hR (xs (i + 1))
  refine x_aload_n dL_law_212 rfl ?_
  refine x_aload_n dL_law_213 rfl ?_
  refine x_iload_n dL_law_214 rfl ?_
  refine x_iconst 1 dL_law_215 (by decide) ?_
  refine x_iadd dL_law_216 ?_
  refine x_rei (nI (i + 1)) (nI_addc i 1 rfl) ?_
  refine x_sald dL_law_217 hX hsz hA (i + 1) rfl (by omega) (by omega) ?_
  refine x_callJ (As := [.int (xs (i + 1))]) (st := []) (wa := wX) (wb := wM) dL_law_218 ml_L_13 mX8_place cX rfl hx0 rfl rfl (by decide) (by omega) (Nat.le_of_ble_eq_true rfl) (Nat.le_of_ble_eq_true rfl) (fun v1 w1 h1 => ?_)
  refine x_aload_n dL_law_221 rfl ?_
  refine x_aload_n dL_law_222 rfl ?_
  refine x_iload_n dL_law_223 rfl ?_
  refine x_iconst 1 dL_law_224 (by decide) ?_
  refine x_iadd dL_law_225 ?_
  refine x_rei (nI (i + 1)) (nI_addc i 1 rfl) ?_
  refine x_sald dL_law_226 hX hsz hA (i + 1) rfl (by omega) (by omega) ?_
  refine x_callJ (As := [.int (xs (i + 1))]) (st := v1.toList ++ []) (wa := wM) (wb := w1) dL_law_227 ml_L_17 mX9_place cM rfl hm0 rfl rfl (cat8 v1) (by omega) (Nat.le_of_ble_eq_true rfl) (Nat.le_of_ble_eq_true rfl) (fun v2 w2 h2 => ?_)
  obtain ⟨rfl, rfl, hR2⟩ := hj v1 w1 v2 w2 h1 h2
  obtain ⟨r, rfl⟩ : ∃ r, v = .int r := hv.elim (fun q => q.2) (fun q => absurd q.1 (by decide))
  refine x_icmp_eq dL_law_230 (fun _ => ?_) (fun c => absurd rfl c)
  exact hgo w1 w2 hR2

set_option maxRecDepth 100000 in
set_option maxHeartbeats 4000000 in
theorem lw_c1 (hX : va_X sc L xs (ks κ) (ks κ).heap) (hsz : sc < (ks κ).heap.size) (hA : ¬ kA κ sc) (hL : L ≤ 384) (hi : i + 6 ≤ L) (hR : Rel g a b wX wM) (hgo : ∀ w1 w2, Rel g a b w1 w2 → Xs κ g 1312 600000 7302250 cL_law yL_law ret Q 72 23970 1278 [some (.ref sc), some (.ref (a 0)), some (.ref (b 0)), some (.int (nI i))] [] (w1 ++ w2)) : Xs κ g 1312 600000 7302250 cL_law yL_law ret Q 72 23970 235 [some (.ref sc), some (.ref (a 0)), some (.ref (b 0)), some (.int (nI i))] [] (wX ++ wM) := by
  obtain ⟨fx, hx0⟩ := rel_x0 hR
  obtain ⟨fm, hm0⟩ := rel_n0 hR
  obtain ⟨v, kx, kn, PX, PM, hkx, hkn, hv, cX, cM, hj⟩ := pm_row κ.2.1 g a b hR (xs (i + 1))
  refine x_aload_n dL_law_235 rfl ?_
  refine x_aload_n dL_law_236 rfl ?_
  refine x_iload_n dL_law_237 rfl ?_
  refine x_iconst 1 dL_law_238 (by decide) ?_
  refine x_iadd dL_law_239 ?_
  refine x_rei (nI (i + 1)) (nI_addc i 1 rfl) ?_
  refine x_sald dL_law_240 hX hsz hA (i + 1) rfl (by omega) (by omega) ?_
  refine x_callJ (As := [.int (xs (i + 1))]) (st := []) (wa := wX) (wb := wM) dL_law_241 ml_L_18 mX8_row cX rfl hx0 rfl rfl (by decide) (by omega) (Nat.le_of_ble_eq_true rfl) (Nat.le_of_ble_eq_true rfl) (fun v1 w1 h1 => ?_)
  refine x_aload_n dL_law_244 rfl ?_
  refine x_aload_n dL_law_245 rfl ?_
  refine x_iload_n dL_law_246 rfl ?_
  refine x_iconst 1 dL_law_247 (by decide) ?_
  refine x_iadd dL_law_248 ?_
  refine x_rei (nI (i + 1)) (nI_addc i 1 rfl) ?_
  refine x_sald dL_law_249 hX hsz hA (i + 1) rfl (by omega) (by omega) ?_
  refine x_callJ (As := [.int (xs (i + 1))]) (st := v1.toList ++ []) (wa := wM) (wb := w1) dL_law_250 ml_L_21 mX9_row cM rfl hm0 rfl rfl (cat8 v1) (by omega) (Nat.le_of_ble_eq_true rfl) (Nat.le_of_ble_eq_true rfl) (fun v2 w2 h2 => ?_)
  obtain ⟨rfl, rfl, hR2⟩ := hj v1 w1 v2 w2 h1 h2
  obtain ⟨r, rfl⟩ : ∃ r, v = .int r := hv.elim (fun q => q.2) (fun q => absurd q.1 (by decide))
  refine x_icmp_eq dL_law_253 (fun _ => ?_) (fun c => absurd rfl c)
  exact hgo w1 w2 hR2

set_option maxRecDepth 100000 in
set_option maxHeartbeats 4000000 in
theorem lw_c2 (hX : va_X sc L xs (ks κ) (ks κ).heap) (hsz : sc < (ks κ).heap.size) (hA : ¬ kA κ sc) (hL : L ≤ 384) (hi : i + 6 ≤ L) (hR : Rel g a b wX wM) (hgo : ∀ w1 w2, Rel g a b w1 w2 → Xs κ g 1312 600000 7302250 cL_law yL_law ret Q 72 23970 1278 [some (.ref sc), some (.ref (a 0)), some (.ref (b 0)), some (.int (nI i))] [] (w1 ++ w2)) : Xs κ g 1312 600000 7302250 cL_law yL_law ret Q 72 23970 258 [some (.ref sc), some (.ref (a 0)), some (.ref (b 0)), some (.int (nI i))] [] (wX ++ wM) := by
  obtain ⟨fx, hx0⟩ := rel_x0 hR
  obtain ⟨fm, hm0⟩ := rel_n0 hR
  obtain ⟨v, kx, kn, PX, PM, hkx, hkn, hv, cX, cM, hj⟩ := pm_people κ.2.1 g a b hR (xs (i + 1)) (xs (i + 2))
  refine x_aload_n dL_law_258 rfl ?_
  refine x_aload_n dL_law_259 rfl ?_
  refine x_iload_n dL_law_260 rfl ?_
  refine x_iconst 1 dL_law_261 (by decide) ?_
  refine x_iadd dL_law_262 ?_
  refine x_rei (nI (i + 1)) (nI_addc i 1 rfl) ?_
  refine x_sald dL_law_263 hX hsz hA (i + 1) rfl (by omega) (by omega) ?_
  refine x_aload_n dL_law_264 rfl ?_
  refine x_iload_n dL_law_265 rfl ?_
  refine x_iconst 2 dL_law_266 (by decide) ?_
  refine x_iadd dL_law_267 ?_
  refine x_rei (nI (i + 2)) (nI_addc i 2 rfl) ?_
  refine x_sald dL_law_268 hX hsz hA (i + 2) rfl (by omega) (by omega) ?_
  refine x_callJ (As := [.int (xs (i + 1)), .int (xs (i + 2))]) (st := []) (wa := wX) (wb := wM) dL_law_269 ml_L_22 mX8_people cX rfl hx0 rfl rfl (by decide) (by omega) (Nat.le_of_ble_eq_true rfl) (Nat.le_of_ble_eq_true rfl) (fun v1 w1 h1 => ?_)
  refine x_aload_n dL_law_272 rfl ?_
  refine x_aload_n dL_law_273 rfl ?_
  refine x_iload_n dL_law_274 rfl ?_
  refine x_iconst 1 dL_law_275 (by decide) ?_
  refine x_iadd dL_law_276 ?_
  refine x_rei (nI (i + 1)) (nI_addc i 1 rfl) ?_
  refine x_sald dL_law_277 hX hsz hA (i + 1) rfl (by omega) (by omega) ?_
  refine x_aload_n dL_law_278 rfl ?_
  refine x_iload_n dL_law_279 rfl ?_
  refine x_iconst 2 dL_law_280 (by decide) ?_
  refine x_iadd dL_law_281 ?_
  refine x_rei (nI (i + 2)) (nI_addc i 2 rfl) ?_
  refine x_sald dL_law_282 hX hsz hA (i + 2) rfl (by omega) (by omega) ?_
  refine x_callJ (As := [.int (xs (i + 1)), .int (xs (i + 2))]) (st := v1.toList ++ []) (wa := wM) (wb := w1) dL_law_283 ml_L_26 mX9_people cM rfl hm0 rfl rfl (cat8 v1) (by omega) (Nat.le_of_ble_eq_true rfl) (Nat.le_of_ble_eq_true rfl) (fun v2 w2 h2 => ?_)
  obtain ⟨rfl, rfl, hR2⟩ := hj v1 w1 v2 w2 h1 h2
  obtain ⟨r, rfl⟩ : ∃ r, v = .int r := hv.elim (fun q => q.2) (fun q => absurd q.1 (by decide))
  refine x_icmp_eq dL_law_286 (fun _ => ?_) (fun c => absurd rfl c)
  exact hgo w1 w2 hR2

set_option maxRecDepth 100000 in
set_option maxHeartbeats 4000000 in
theorem lw_c3 (hX : va_X sc L xs (ks κ) (ks κ).heap) (hsz : sc < (ks κ).heap.size) (hA : ¬ kA κ sc) (hL : L ≤ 384) (hi : i + 6 ≤ L) (hR : Rel g a b wX wM) (hgo : ∀ w1 w2, Rel g a b w1 w2 → Xs κ g 1312 600000 7302250 cL_law yL_law ret Q 72 23970 1278 [some (.ref sc), some (.ref (a 0)), some (.ref (b 0)), some (.int (nI i))] [] (w1 ++ w2)) : Xs κ g 1312 600000 7302250 cL_law yL_law ret Q 72 23970 291 [some (.ref sc), some (.ref (a 0)), some (.ref (b 0)), some (.int (nI i))] [] (wX ++ wM) := by
  obtain ⟨fx, hx0⟩ := rel_x0 hR
  obtain ⟨fm, hm0⟩ := rel_n0 hR
  obtain ⟨v, kx, kn, PX, PM, hkx, hkn, hv, cX, cM, hj⟩ := pm_of κ.2.1 g a b hR (xs (i + 1)) (xs (i + 2))
  refine x_aload_n dL_law_291 rfl ?_
  refine x_aload_n dL_law_292 rfl ?_
  refine x_iload_n dL_law_293 rfl ?_
  refine x_iconst 1 dL_law_294 (by decide) ?_
  refine x_iadd dL_law_295 ?_
  refine x_rei (nI (i + 1)) (nI_addc i 1 rfl) ?_
  refine x_sald dL_law_296 hX hsz hA (i + 1) rfl (by omega) (by omega) ?_
  refine x_aload_n dL_law_297 rfl ?_
  refine x_iload_n dL_law_298 rfl ?_
  refine x_iconst 2 dL_law_299 (by decide) ?_
  refine x_iadd dL_law_300 ?_
  refine x_rei (nI (i + 2)) (nI_addc i 2 rfl) ?_
  refine x_sald dL_law_301 hX hsz hA (i + 2) rfl (by omega) (by omega) ?_
  refine x_callJ (As := [.int (xs (i + 1)), .int (xs (i + 2))]) (st := []) (wa := wX) (wb := wM) dL_law_302 ml_L_27 mX8_of cX rfl hx0 rfl rfl (by decide) (by omega) (Nat.le_of_ble_eq_true rfl) (Nat.le_of_ble_eq_true rfl) (fun v1 w1 h1 => ?_)
  refine x_aload_n dL_law_305 rfl ?_
  refine x_aload_n dL_law_306 rfl ?_
  refine x_iload_n dL_law_307 rfl ?_
  refine x_iconst 1 dL_law_308 (by decide) ?_
  refine x_iadd dL_law_309 ?_
  refine x_rei (nI (i + 1)) (nI_addc i 1 rfl) ?_
  refine x_sald dL_law_310 hX hsz hA (i + 1) rfl (by omega) (by omega) ?_
  refine x_aload_n dL_law_311 rfl ?_
  refine x_iload_n dL_law_312 rfl ?_
  refine x_iconst 2 dL_law_313 (by decide) ?_
  refine x_iadd dL_law_314 ?_
  refine x_rei (nI (i + 2)) (nI_addc i 2 rfl) ?_
  refine x_sald dL_law_315 hX hsz hA (i + 2) rfl (by omega) (by omega) ?_
  refine x_callJ (As := [.int (xs (i + 1)), .int (xs (i + 2))]) (st := v1.toList ++ []) (wa := wM) (wb := w1) dL_law_316 ml_L_30 mX9_of cM rfl hm0 rfl rfl (cat8 v1) (by omega) (Nat.le_of_ble_eq_true rfl) (Nat.le_of_ble_eq_true rfl) (fun v2 w2 h2 => ?_)
  obtain ⟨rfl, rfl, hR2⟩ := hj v1 w1 v2 w2 h1 h2
  obtain ⟨r, rfl⟩ : ∃ r, v = .int r := hv.elim (fun q => q.2) (fun q => absurd q.1 (by decide))
  refine x_icmp_eq dL_law_319 (fun _ => ?_) (fun c => absurd rfl c)
  exact hgo w1 w2 hR2

set_option maxRecDepth 100000 in
set_option maxHeartbeats 4000000 in
theorem lw_c4 (hX : va_X sc L xs (ks κ) (ks κ).heap) (hsz : sc < (ks κ).heap.size) (hA : ¬ kA κ sc) (hL : L ≤ 384) (hi : i + 6 ≤ L) (hR : Rel g a b wX wM) (hgo : ∀ w1 w2, Rel g a b w1 w2 → Xs κ g 1312 600000 7302250 cL_law yL_law ret Q 72 23970 1278 [some (.ref sc), some (.ref (a 0)), some (.ref (b 0)), some (.int (nI i))] [] (w1 ++ w2)) : Xs κ g 1312 600000 7302250 cL_law yL_law ret Q 72 23970 324 [some (.ref sc), some (.ref (a 0)), some (.ref (b 0)), some (.int (nI i))] [] (wX ++ wM) := by
  obtain ⟨fx, hx0⟩ := rel_x0 hR
  obtain ⟨fm, hm0⟩ := rel_n0 hR
  obtain ⟨v, kx, kn, PX, PM, hkx, hkn, hv, cX, cM, hj⟩ := pm_many κ.2.1 g a b hR (xs (i + 1)) (xs (i + 2))
  refine x_aload_n dL_law_324 rfl ?_
  refine x_aload_n dL_law_325 rfl ?_
  refine x_iload_n dL_law_326 rfl ?_
  refine x_iconst 1 dL_law_327 (by decide) ?_
  refine x_iadd dL_law_328 ?_
  refine x_rei (nI (i + 1)) (nI_addc i 1 rfl) ?_
  refine x_sald dL_law_329 hX hsz hA (i + 1) rfl (by omega) (by omega) ?_
  refine x_aload_n dL_law_330 rfl ?_
  refine x_iload_n dL_law_331 rfl ?_
  refine x_iconst 2 dL_law_332 (by decide) ?_
  refine x_iadd dL_law_333 ?_
  refine x_rei (nI (i + 2)) (nI_addc i 2 rfl) ?_
  refine x_sald dL_law_334 hX hsz hA (i + 2) rfl (by omega) (by omega) ?_
  refine x_callJ (As := [.int (xs (i + 1)), .int (xs (i + 2))]) (st := []) (wa := wX) (wb := wM) dL_law_335 ml_L_31 mX8_many cX rfl hx0 rfl rfl (by decide) (by omega) (Nat.le_of_ble_eq_true rfl) (Nat.le_of_ble_eq_true rfl) (fun v1 w1 h1 => ?_)
  refine x_aload_n dL_law_338 rfl ?_
  refine x_aload_n dL_law_339 rfl ?_
  refine x_iload_n dL_law_340 rfl ?_
  refine x_iconst 1 dL_law_341 (by decide) ?_
  refine x_iadd dL_law_342 ?_
  refine x_rei (nI (i + 1)) (nI_addc i 1 rfl) ?_
  refine x_sald dL_law_343 hX hsz hA (i + 1) rfl (by omega) (by omega) ?_
  refine x_aload_n dL_law_344 rfl ?_
  refine x_iload_n dL_law_345 rfl ?_
  refine x_iconst 2 dL_law_346 (by decide) ?_
  refine x_iadd dL_law_347 ?_
  refine x_rei (nI (i + 2)) (nI_addc i 2 rfl) ?_
  refine x_sald dL_law_348 hX hsz hA (i + 2) rfl (by omega) (by omega) ?_
  refine x_callJ (As := [.int (xs (i + 1)), .int (xs (i + 2))]) (st := v1.toList ++ []) (wa := wM) (wb := w1) dL_law_349 ml_L_34 mX9_many cM rfl hm0 rfl rfl (cat8 v1) (by omega) (Nat.le_of_ble_eq_true rfl) (Nat.le_of_ble_eq_true rfl) (fun v2 w2 h2 => ?_)
  obtain ⟨rfl, rfl, hR2⟩ := hj v1 w1 v2 w2 h1 h2
  obtain ⟨r, rfl⟩ : ∃ r, v = .int r := hv.elim (fun q => q.2) (fun q => absurd q.1 (by decide))
  refine x_icmp_eq dL_law_352 (fun _ => ?_) (fun c => absurd rfl c)
  exact hgo w1 w2 hR2

set_option maxRecDepth 100000 in
set_option maxHeartbeats 4000000 in
theorem lw_c5 (hX : va_X sc L xs (ks κ) (ks κ).heap) (hsz : sc < (ks κ).heap.size) (hA : ¬ kA κ sc) (hL : L ≤ 384) (hi : i + 6 ≤ L) (hR : Rel g a b wX wM) (hgo : ∀ w1 w2, Rel g a b w1 w2 → Xs κ g 1312 600000 7302250 cL_law yL_law ret Q 72 23970 1278 [some (.ref sc), some (.ref (a 0)), some (.ref (b 0)), some (.int (nI i))] [] (w1 ++ w2)) : Xs κ g 1312 600000 7302250 cL_law yL_law ret Q 72 23970 357 [some (.ref sc), some (.ref (a 0)), some (.ref (b 0)), some (.int (nI i))] [] (wX ++ wM) := by
  obtain ⟨fx, hx0⟩ := rel_x0 hR
  obtain ⟨fm, hm0⟩ := rel_n0 hR
  obtain ⟨v, kx, kn, PX, PM, hkx, hkn, hv, cX, cM, hj⟩ := pm_as κ.2.1 g a b hR (xs (i + 1)) (xs (i + 2))
  refine x_aload_n dL_law_357 rfl ?_
  refine x_aload_n dL_law_358 rfl ?_
  refine x_iload_n dL_law_359 rfl ?_
  refine x_iconst 1 dL_law_360 (by decide) ?_
  refine x_iadd dL_law_361 ?_
  refine x_rei (nI (i + 1)) (nI_addc i 1 rfl) ?_
  refine x_sald dL_law_362 hX hsz hA (i + 1) rfl (by omega) (by omega) ?_
  refine x_aload_n dL_law_363 rfl ?_
  refine x_iload_n dL_law_364 rfl ?_
  refine x_iconst 2 dL_law_365 (by decide) ?_
  refine x_iadd dL_law_366 ?_
  refine x_rei (nI (i + 2)) (nI_addc i 2 rfl) ?_
  refine x_sald dL_law_367 hX hsz hA (i + 2) rfl (by omega) (by omega) ?_
  refine x_callJ (As := [.int (xs (i + 1)), .int (xs (i + 2))]) (st := []) (wa := wX) (wb := wM) dL_law_368 ml_L_35 mX8_as cX rfl hx0 rfl rfl (by decide) (by omega) (Nat.le_of_ble_eq_true rfl) (Nat.le_of_ble_eq_true rfl) (fun v1 w1 h1 => ?_)
  refine x_aload_n dL_law_371 rfl ?_
  refine x_aload_n dL_law_372 rfl ?_
  refine x_iload_n dL_law_373 rfl ?_
  refine x_iconst 1 dL_law_374 (by decide) ?_
  refine x_iadd dL_law_375 ?_
  refine x_rei (nI (i + 1)) (nI_addc i 1 rfl) ?_
  refine x_sald dL_law_376 hX hsz hA (i + 1) rfl (by omega) (by omega) ?_
  refine x_aload_n dL_law_377 rfl ?_
  refine x_iload_n dL_law_378 rfl ?_
  refine x_iconst 2 dL_law_379 (by decide) ?_
  refine x_iadd dL_law_380 ?_
  refine x_rei (nI (i + 2)) (nI_addc i 2 rfl) ?_
  refine x_sald dL_law_381 hX hsz hA (i + 2) rfl (by omega) (by omega) ?_
  refine x_callJ (As := [.int (xs (i + 1)), .int (xs (i + 2))]) (st := v1.toList ++ []) (wa := wM) (wb := w1) dL_law_382 ml_L_38 mX9_as cM rfl hm0 rfl rfl (cat8 v1) (by omega) (Nat.le_of_ble_eq_true rfl) (Nat.le_of_ble_eq_true rfl) (fun v2 w2 h2 => ?_)
  obtain ⟨rfl, rfl, hR2⟩ := hj v1 w1 v2 w2 h1 h2
  obtain ⟨r, rfl⟩ : ∃ r, v = .int r := hv.elim (fun q => q.2) (fun q => absurd q.1 (by decide))
  refine x_icmp_eq dL_law_385 (fun _ => ?_) (fun c => absurd rfl c)
  exact hgo w1 w2 hR2

set_option maxRecDepth 100000 in
set_option maxHeartbeats 4000000 in
theorem lw_c6 (hX : va_X sc L xs (ks κ) (ks κ).heap) (hsz : sc < (ks κ).heap.size) (hA : ¬ kA κ sc) (hL : L ≤ 384) (hi : i + 6 ≤ L) (hR : Rel g a b wX wM) (hgo : ∀ w1 w2, Rel g a b w1 w2 → Xs κ g 1312 600000 7302250 cL_law yL_law ret Q 72 23970 1278 [some (.ref sc), some (.ref (a 0)), some (.ref (b 0)), some (.int (nI i))] [] (w1 ++ w2)) : Xs κ g 1312 600000 7302250 cL_law yL_law ret Q 72 23970 390 [some (.ref sc), some (.ref (a 0)), some (.ref (b 0)), some (.int (nI i))] [] (wX ++ wM) := by
  obtain ⟨fx, hx0⟩ := rel_x0 hR
  obtain ⟨fm, hm0⟩ := rel_n0 hR
  obtain ⟨v, kx, kn, PX, PM, hkx, hkn, hv, cX, cM, hj⟩ := pm_likes κ.2.1 g a b hR (xs (i + 1)) (xs (i + 2))
  refine x_aload_n dL_law_390 rfl ?_
  refine x_aload_n dL_law_391 rfl ?_
  refine x_iload_n dL_law_392 rfl ?_
  refine x_iconst 1 dL_law_393 (by decide) ?_
  refine x_iadd dL_law_394 ?_
  refine x_rei (nI (i + 1)) (nI_addc i 1 rfl) ?_
  refine x_sald dL_law_395 hX hsz hA (i + 1) rfl (by omega) (by omega) ?_
  refine x_aload_n dL_law_396 rfl ?_
  refine x_iload_n dL_law_397 rfl ?_
  refine x_iconst 2 dL_law_398 (by decide) ?_
  refine x_iadd dL_law_399 ?_
  refine x_rei (nI (i + 2)) (nI_addc i 2 rfl) ?_
  refine x_sald dL_law_400 hX hsz hA (i + 2) rfl (by omega) (by omega) ?_
  refine x_callJ (As := [.int (xs (i + 1)), .int (xs (i + 2))]) (st := []) (wa := wX) (wb := wM) dL_law_401 ml_L_39 mX8_likes cX rfl hx0 rfl rfl (by decide) (by omega) (Nat.le_of_ble_eq_true rfl) (Nat.le_of_ble_eq_true rfl) (fun v1 w1 h1 => ?_)
  refine x_aload_n dL_law_404 rfl ?_
  refine x_aload_n dL_law_405 rfl ?_
  refine x_iload_n dL_law_406 rfl ?_
  refine x_iconst 1 dL_law_407 (by decide) ?_
  refine x_iadd dL_law_408 ?_
  refine x_rei (nI (i + 1)) (nI_addc i 1 rfl) ?_
  refine x_sald dL_law_409 hX hsz hA (i + 1) rfl (by omega) (by omega) ?_
  refine x_aload_n dL_law_410 rfl ?_
  refine x_iload_n dL_law_411 rfl ?_
  refine x_iconst 2 dL_law_412 (by decide) ?_
  refine x_iadd dL_law_413 ?_
  refine x_rei (nI (i + 2)) (nI_addc i 2 rfl) ?_
  refine x_sald dL_law_414 hX hsz hA (i + 2) rfl (by omega) (by omega) ?_
  refine x_callJ (As := [.int (xs (i + 1)), .int (xs (i + 2))]) (st := v1.toList ++ []) (wa := wM) (wb := w1) dL_law_415 ml_L_42 mX9_likes cM rfl hm0 rfl rfl (cat8 v1) (by omega) (Nat.le_of_ble_eq_true rfl) (Nat.le_of_ble_eq_true rfl) (fun v2 w2 h2 => ?_)
  obtain ⟨rfl, rfl, hR2⟩ := hj v1 w1 v2 w2 h1 h2
  obtain ⟨r, rfl⟩ : ∃ r, v = .int r := hv.elim (fun q => q.2) (fun q => absurd q.1 (by decide))
  refine x_icmp_eq dL_law_418 (fun _ => ?_) (fun c => absurd rfl c)
  exact hgo w1 w2 hR2

set_option maxRecDepth 100000 in
set_option maxHeartbeats 4000000 in
theorem lw_c7 (hX : va_X sc L xs (ks κ) (ks κ).heap) (hsz : sc < (ks κ).heap.size) (hA : ¬ kA κ sc) (hL : L ≤ 384) (hi : i + 6 ≤ L) (hR : Rel g a b wX wM) (hgo : ∀ w1 w2, Rel g a b w1 w2 → Xs κ g 1312 600000 7302250 cL_law yL_law ret Q 72 23970 1278 [some (.ref sc), some (.ref (a 0)), some (.ref (b 0)), some (.int (nI i))] [] (w1 ++ w2)) : Xs κ g 1312 600000 7302250 cL_law yL_law ret Q 72 23970 423 [some (.ref sc), some (.ref (a 0)), some (.ref (b 0)), some (.int (nI i))] [] (wX ++ wM) := by
  obtain ⟨fx, hx0⟩ := rel_x0 hR
  obtain ⟨fm, hm0⟩ := rel_n0 hR
  obtain ⟨v, kx, kn, PX, PM, hkx, hkn, hv, cX, cM, hj⟩ := pm_crossed κ.2.1 g a b hR (xs (i + 1)) (xs (i + 2))
  refine x_aload_n dL_law_423 rfl ?_
  refine x_aload_n dL_law_424 rfl ?_
  refine x_iload_n dL_law_425 rfl ?_
  refine x_iconst 1 dL_law_426 (by decide) ?_
  refine x_iadd dL_law_427 ?_
  refine x_rei (nI (i + 1)) (nI_addc i 1 rfl) ?_
  refine x_sald dL_law_428 hX hsz hA (i + 1) rfl (by omega) (by omega) ?_
  refine x_aload_n dL_law_429 rfl ?_
  refine x_iload_n dL_law_430 rfl ?_
  refine x_iconst 2 dL_law_431 (by decide) ?_
  refine x_iadd dL_law_432 ?_
  refine x_rei (nI (i + 2)) (nI_addc i 2 rfl) ?_
  refine x_sald dL_law_433 hX hsz hA (i + 2) rfl (by omega) (by omega) ?_
  refine x_callJ (As := [.int (xs (i + 1)), .int (xs (i + 2))]) (st := []) (wa := wX) (wb := wM) dL_law_434 ml_L_43 mX8_crossed cX rfl hx0 rfl rfl (by decide) (by omega) (Nat.le_of_ble_eq_true rfl) (Nat.le_of_ble_eq_true rfl) (fun v1 w1 h1 => ?_)
  refine x_aload_n dL_law_437 rfl ?_
  refine x_aload_n dL_law_438 rfl ?_
  refine x_iload_n dL_law_439 rfl ?_
  refine x_iconst 1 dL_law_440 (by decide) ?_
  refine x_iadd dL_law_441 ?_
  refine x_rei (nI (i + 1)) (nI_addc i 1 rfl) ?_
  refine x_sald dL_law_442 hX hsz hA (i + 1) rfl (by omega) (by omega) ?_
  refine x_aload_n dL_law_443 rfl ?_
  refine x_iload_n dL_law_444 rfl ?_
  refine x_iconst 2 dL_law_445 (by decide) ?_
  refine x_iadd dL_law_446 ?_
  refine x_rei (nI (i + 2)) (nI_addc i 2 rfl) ?_
  refine x_sald dL_law_447 hX hsz hA (i + 2) rfl (by omega) (by omega) ?_
  refine x_callJ (As := [.int (xs (i + 1)), .int (xs (i + 2))]) (st := v1.toList ++ []) (wa := wM) (wb := w1) dL_law_448 ml_L_46 mX9_crossed cM rfl hm0 rfl rfl (cat8 v1) (by omega) (Nat.le_of_ble_eq_true rfl) (Nat.le_of_ble_eq_true rfl) (fun v2 w2 h2 => ?_)
  obtain ⟨rfl, rfl, hR2⟩ := hj v1 w1 v2 w2 h1 h2
  obtain ⟨r, rfl⟩ : ∃ r, v = .int r := hv.elim (fun q => q.2) (fun q => absurd q.1 (by decide))
  refine x_icmp_eq dL_law_451 (fun _ => ?_) (fun c => absurd rfl c)
  exact hgo w1 w2 hR2

set_option maxRecDepth 100000 in
set_option maxHeartbeats 4000000 in
theorem lw_c8 (hX : va_X sc L xs (ks κ) (ks κ).heap) (hsz : sc < (ks κ).heap.size) (hA : ¬ kA κ sc) (hL : L ≤ 384) (hi : i + 6 ≤ L) (hR : Rel g a b wX wM) (hgo : ∀ w1 w2, Rel g a b w1 w2 → Xs κ g 1312 600000 7302250 cL_law yL_law ret Q 72 23970 1278 [some (.ref sc), some (.ref (a 0)), some (.ref (b 0)), some (.int (nI i))] [] (w1 ++ w2)) : Xs κ g 1312 600000 7302250 cL_law yL_law ret Q 72 23970 456 [some (.ref sc), some (.ref (a 0)), some (.ref (b 0)), some (.int (nI i))] [] (wX ++ wM) := by
  obtain ⟨fx, hx0⟩ := rel_x0 hR
  obtain ⟨fm, hm0⟩ := rel_n0 hR
  obtain ⟨v, kx, kn, PX, PM, hkx, hkn, hv, cX, cM, hj⟩ := pm_buys κ.2.1 g a b hR (xs (i + 1)) (xs (i + 2))
  refine x_aload_n dL_law_456 rfl ?_
  refine x_aload_n dL_law_457 rfl ?_
  refine x_iload_n dL_law_458 rfl ?_
  refine x_iconst 1 dL_law_459 (by decide) ?_
  refine x_iadd dL_law_460 ?_
  refine x_rei (nI (i + 1)) (nI_addc i 1 rfl) ?_
  refine x_sald dL_law_461 hX hsz hA (i + 1) rfl (by omega) (by omega) ?_
  refine x_aload_n dL_law_462 rfl ?_
  refine x_iload_n dL_law_463 rfl ?_
  refine x_iconst 2 dL_law_464 (by decide) ?_
  refine x_iadd dL_law_465 ?_
  refine x_rei (nI (i + 2)) (nI_addc i 2 rfl) ?_
  refine x_sald dL_law_466 hX hsz hA (i + 2) rfl (by omega) (by omega) ?_
  refine x_callJ (As := [.int (xs (i + 1)), .int (xs (i + 2))]) (st := []) (wa := wX) (wb := wM) dL_law_467 ml_L_47 mX8_buys cX rfl hx0 rfl rfl (by decide) (by omega) (Nat.le_of_ble_eq_true rfl) (Nat.le_of_ble_eq_true rfl) (fun v1 w1 h1 => ?_)
  refine x_aload_n dL_law_470 rfl ?_
  refine x_aload_n dL_law_471 rfl ?_
  refine x_iload_n dL_law_472 rfl ?_
  refine x_iconst 1 dL_law_473 (by decide) ?_
  refine x_iadd dL_law_474 ?_
  refine x_rei (nI (i + 1)) (nI_addc i 1 rfl) ?_
  refine x_sald dL_law_475 hX hsz hA (i + 1) rfl (by omega) (by omega) ?_
  refine x_aload_n dL_law_476 rfl ?_
  refine x_iload_n dL_law_477 rfl ?_
  refine x_iconst 2 dL_law_478 (by decide) ?_
  refine x_iadd dL_law_479 ?_
  refine x_rei (nI (i + 2)) (nI_addc i 2 rfl) ?_
  refine x_sald dL_law_480 hX hsz hA (i + 2) rfl (by omega) (by omega) ?_
  refine x_callJ (As := [.int (xs (i + 1)), .int (xs (i + 2))]) (st := v1.toList ++ []) (wa := wM) (wb := w1) dL_law_481 ml_L_50 mX9_buys cM rfl hm0 rfl rfl (cat8 v1) (by omega) (Nat.le_of_ble_eq_true rfl) (Nat.le_of_ble_eq_true rfl) (fun v2 w2 h2 => ?_)
  obtain ⟨rfl, rfl, hR2⟩ := hj v1 w1 v2 w2 h1 h2
  obtain ⟨r, rfl⟩ : ∃ r, v = .int r := hv.elim (fun q => q.2) (fun q => absurd q.1 (by decide))
  refine x_icmp_eq dL_law_484 (fun _ => ?_) (fun c => absurd rfl c)
  exact hgo w1 w2 hR2

set_option maxRecDepth 100000 in
set_option maxHeartbeats 4000000 in
theorem lw_c9 (hX : va_X sc L xs (ks κ) (ks κ).heap) (hsz : sc < (ks κ).heap.size) (hA : ¬ kA κ sc) (hL : L ≤ 384) (hi : i + 6 ≤ L) (hR : Rel g a b wX wM) (hgo : ∀ w1 w2, Rel g a b w1 w2 → Xs κ g 1312 600000 7302250 cL_law yL_law ret Q 72 23970 1278 [some (.ref sc), some (.ref (a 0)), some (.ref (b 0)), some (.int (nI i))] [] (w1 ++ w2)) : Xs κ g 1312 600000 7302250 cL_law yL_law ret Q 72 23970 489 [some (.ref sc), some (.ref (a 0)), some (.ref (b 0)), some (.int (nI i))] [] (wX ++ wM) := by
  obtain ⟨fx, hx0⟩ := rel_x0 hR
  obtain ⟨fm, hm0⟩ := rel_n0 hR
  obtain ⟨v, kx, kn, PX, PM, hkx, hkn, hv, cX, cM, hj⟩ := pm_returned κ.2.1 g a b hR 
  refine x_aload_n dL_law_489 rfl ?_
  refine x_callJ (As := []) (st := []) (wa := wX) (wb := wM) dL_law_490 ml_L_51 mX8_returned cX rfl hx0 rfl rfl (by decide) (by omega) (Nat.le_of_ble_eq_true rfl) (Nat.le_of_ble_eq_true rfl) (fun v1 w1 h1 => ?_)
  refine x_aload_n dL_law_493 rfl ?_
  refine x_callJ (As := []) (st := v1.toList ++ []) (wa := wM) (wb := w1) dL_law_494 ml_L_55 mX9_returned cM rfl hm0 rfl rfl (cat8 v1) (by omega) (Nat.le_of_ble_eq_true rfl) (Nat.le_of_ble_eq_true rfl) (fun v2 w2 h2 => ?_)
  obtain ⟨rfl, rfl, hR2⟩ := hj v1 w1 v2 w2 h1 h2
  obtain ⟨r, rfl⟩ : ∃ r, v = .int r := hv.elim (fun q => q.2) (fun q => absurd q.1 (by decide))
  refine x_icmp_eq dL_law_497 (fun _ => ?_) (fun c => absurd rfl c)
  exact hgo w1 w2 hR2

set_option maxRecDepth 100000 in
set_option maxHeartbeats 4000000 in
theorem lw_c10 (hX : va_X sc L xs (ks κ) (ks κ).heap) (hsz : sc < (ks κ).heap.size) (hA : ¬ kA κ sc) (hL : L ≤ 384) (hi : i + 6 ≤ L) (hR : Rel g a b wX wM) (hgo : ∀ w1 w2, Rel g a b w1 w2 → Xs κ g 1312 600000 7302250 cL_law yL_law ret Q 72 23970 1278 [some (.ref sc), some (.ref (a 0)), some (.ref (b 0)), some (.int (nI i))] [] (w1 ++ w2)) : Xs κ g 1312 600000 7302250 cL_law yL_law ret Q 72 23970 502 [some (.ref sc), some (.ref (a 0)), some (.ref (b 0)), some (.int (nI i))] [] (wX ++ wM) := by
  obtain ⟨fx, hx0⟩ := rel_x0 hR
  obtain ⟨fm, hm0⟩ := rel_n0 hR
  obtain ⟨v, kx, kn, PX, PM, hkx, hkn, hv, cX, cM, hj⟩ := pm_feed κ.2.1 g a b hR (xs (i + 1)) (xs (i + 2))
  refine x_aload_n dL_law_502 rfl ?_
  refine x_aload_n dL_law_503 rfl ?_
  refine x_iload_n dL_law_504 rfl ?_
  refine x_iconst 1 dL_law_505 (by decide) ?_
  refine x_iadd dL_law_506 ?_
  refine x_rei (nI (i + 1)) (nI_addc i 1 rfl) ?_
  refine x_sald dL_law_507 hX hsz hA (i + 1) rfl (by omega) (by omega) ?_
  refine x_aload_n dL_law_508 rfl ?_
  refine x_iload_n dL_law_509 rfl ?_
  refine x_iconst 2 dL_law_510 (by decide) ?_
  refine x_iadd dL_law_511 ?_
  refine x_rei (nI (i + 2)) (nI_addc i 2 rfl) ?_
  refine x_sald dL_law_512 hX hsz hA (i + 2) rfl (by omega) (by omega) ?_
  refine x_callJ (As := [.int (xs (i + 1)), .int (xs (i + 2))]) (st := []) (wa := wX) (wb := wM) dL_law_513 ml_L_56 mX8_feed cX rfl hx0 rfl rfl (by decide) (by omega) (Nat.le_of_ble_eq_true rfl) (Nat.le_of_ble_eq_true rfl) (fun v1 w1 h1 => ?_)
  refine x_aload_n dL_law_516 rfl ?_
  refine x_aload_n dL_law_517 rfl ?_
  refine x_iload_n dL_law_518 rfl ?_
  refine x_iconst 1 dL_law_519 (by decide) ?_
  refine x_iadd dL_law_520 ?_
  refine x_rei (nI (i + 1)) (nI_addc i 1 rfl) ?_
  refine x_sald dL_law_521 hX hsz hA (i + 1) rfl (by omega) (by omega) ?_
  refine x_aload_n dL_law_522 rfl ?_
  refine x_iload_n dL_law_523 rfl ?_
  refine x_iconst 2 dL_law_524 (by decide) ?_
  refine x_iadd dL_law_525 ?_
  refine x_rei (nI (i + 2)) (nI_addc i 2 rfl) ?_
  refine x_sald dL_law_526 hX hsz hA (i + 2) rfl (by omega) (by omega) ?_
  refine x_callJ (As := [.int (xs (i + 1)), .int (xs (i + 2))]) (st := v1.toList ++ []) (wa := wM) (wb := w1) dL_law_527 ml_L_59 mX9_feed cM rfl hm0 rfl rfl (cat8 v1) (by omega) (Nat.le_of_ble_eq_true rfl) (Nat.le_of_ble_eq_true rfl) (fun v2 w2 h2 => ?_)
  obtain ⟨rfl, rfl, hR2⟩ := hj v1 w1 v2 w2 h1 h2
  obtain ⟨r, rfl⟩ : ∃ r, v = .int r := hv.elim (fun q => q.2) (fun q => absurd q.1 (by decide))
  refine x_icmp_eq dL_law_530 (fun _ => ?_) (fun c => absurd rfl c)
  exact hgo w1 w2 hR2

set_option maxRecDepth 100000 in
set_option maxHeartbeats 4000000 in
theorem lw_c11 (hX : va_X sc L xs (ks κ) (ks κ).heap) (hsz : sc < (ks κ).heap.size) (hA : ¬ kA κ sc) (hL : L ≤ 384) (hi : i + 6 ≤ L) (hR : Rel g a b wX wM) (hgo : ∀ w1 w2, Rel g a b w1 w2 → Xs κ g 1312 600000 7302250 cL_law yL_law ret Q 72 23970 1278 [some (.ref sc), some (.ref (a 0)), some (.ref (b 0)), some (.int (nI i))] [] (w1 ++ w2)) : Xs κ g 1312 600000 7302250 cL_law yL_law ret Q 72 23970 535 [some (.ref sc), some (.ref (a 0)), some (.ref (b 0)), some (.int (nI i))] [] (wX ++ wM) := by
  obtain ⟨fx, hx0⟩ := rel_x0 hR
  obtain ⟨fm, hm0⟩ := rel_n0 hR
  obtain ⟨v, kx, kn, PX, PM, hkx, hkn, hv, cX, cM, hj⟩ := pm_wipe κ.2.1 g a b hR 
  refine x_aload_n dL_law_535 rfl ?_
  refine x_callJ (As := []) (st := []) (wa := wX) (wb := wM) dL_law_536 ml_L_60 mX8_wipe cX rfl hx0 rfl rfl (by decide) (by omega) (Nat.le_of_ble_eq_true rfl) (Nat.le_of_ble_eq_true rfl) (fun v1 w1 h1 => ?_)
  refine x_aload_n dL_law_539 rfl ?_
  refine x_callJ (As := []) (st := v1.toList ++ []) (wa := wM) (wb := w1) dL_law_540 ml_L_63 mX9_wipe cM rfl hm0 rfl rfl (cat8 v1) (by omega) (Nat.le_of_ble_eq_true rfl) (Nat.le_of_ble_eq_true rfl) (fun v2 w2 h2 => ?_)
  obtain ⟨rfl, rfl, hR2⟩ := hj v1 w1 v2 w2 h1 h2
  obtain ⟨r, rfl⟩ : ∃ r, v = .int r := hv.elim (fun q => q.2) (fun q => absurd q.1 (by decide))
  refine x_icmp_eq dL_law_543 (fun _ => ?_) (fun c => absurd rfl c)
  exact hgo w1 w2 hR2

set_option maxRecDepth 100000 in
set_option maxHeartbeats 4000000 in
theorem lw_c12 (hX : va_X sc L xs (ks κ) (ks κ).heap) (hsz : sc < (ks κ).heap.size) (hA : ¬ kA κ sc) (hL : L ≤ 384) (hi : i + 6 ≤ L) (hR : Rel g a b wX wM) (hgo : ∀ w1 w2, Rel g a b w1 w2 → Xs κ g 1312 600000 7302250 cL_law yL_law ret Q 72 23970 1278 [some (.ref sc), some (.ref (a 0)), some (.ref (b 0)), some (.int (nI i))] [] (w1 ++ w2)) : Xs κ g 1312 600000 7302250 cL_law yL_law ret Q 72 23970 548 [some (.ref sc), some (.ref (a 0)), some (.ref (b 0)), some (.int (nI i))] [] (wX ++ wM) := by
  obtain ⟨fx, hx0⟩ := rel_x0 hR
  obtain ⟨fm, hm0⟩ := rel_n0 hR
  obtain ⟨v, kx, kn, PX, PM, hkx, hkn, hv, cX, cM, hj⟩ := pm_liking κ.2.1 g a b hR 
  refine x_aload_n dL_law_548 rfl ?_
  refine x_callJ (As := []) (st := []) (wa := wX) (wb := wM) dL_law_549 ml_L_64 mX8_liking cX rfl hx0 rfl rfl (by decide) (by omega) (Nat.le_of_ble_eq_true rfl) (Nat.le_of_ble_eq_true rfl) (fun v1 w1 h1 => ?_)
  refine x_aload_n dL_law_552 rfl ?_
  refine x_callJ (As := []) (st := v1.toList ++ []) (wa := wM) (wb := w1) dL_law_553 ml_L_67 mX9_liking cM rfl hm0 rfl rfl (cat8 v1) (by omega) (Nat.le_of_ble_eq_true rfl) (Nat.le_of_ble_eq_true rfl) (fun v2 w2 h2 => ?_)
  obtain ⟨rfl, rfl, hR2⟩ := hj v1 w1 v2 w2 h1 h2
  obtain ⟨r, rfl⟩ : ∃ r, v = .int r := hv.elim (fun q => q.2) (fun q => absurd q.1 (by decide))
  refine x_icmp_eq dL_law_556 (fun _ => ?_) (fun c => absurd rfl c)
  exact hgo w1 w2 hR2

set_option maxRecDepth 100000 in
set_option maxHeartbeats 4000000 in
theorem lw_c13 (hX : va_X sc L xs (ks κ) (ks κ).heap) (hsz : sc < (ks κ).heap.size) (hA : ¬ kA κ sc) (hL : L ≤ 384) (hi : i + 6 ≤ L) (hR : Rel g a b wX wM) (hgo : ∀ w1 w2, Rel g a b w1 w2 → Xs κ g 1312 600000 7302250 cL_law yL_law ret Q 72 23970 1278 [some (.ref sc), some (.ref (a 0)), some (.ref (b 0)), some (.int (nI i))] [] (w1 ++ w2)) : Xs κ g 1312 600000 7302250 cL_law yL_law ret Q 72 23970 561 [some (.ref sc), some (.ref (a 0)), some (.ref (b 0)), some (.int (nI i))] [] (wX ++ wM) := by
  obtain ⟨fx, hx0⟩ := rel_x0 hR
  obtain ⟨fm, hm0⟩ := rel_n0 hR
  obtain ⟨v, kx, kn, PX, PM, hkx, hkn, hv, cX, cM, hj⟩ := pm_even κ.2.1 g a b hR 
  refine x_aload_n dL_law_561 rfl ?_
  refine x_callJ (As := []) (st := []) (wa := wX) (wb := wM) dL_law_562 ml_L_68 mX8_even cX rfl hx0 rfl rfl (by decide) (by omega) (Nat.le_of_ble_eq_true rfl) (Nat.le_of_ble_eq_true rfl) (fun v1 w1 h1 => ?_)
  refine x_aload_n dL_law_565 rfl ?_
  refine x_callJ (As := []) (st := v1.toList ++ []) (wa := wM) (wb := w1) dL_law_566 ml_L_71 mX9_even cM rfl hm0 rfl rfl (cat8 v1) (by omega) (Nat.le_of_ble_eq_true rfl) (Nat.le_of_ble_eq_true rfl) (fun v2 w2 h2 => ?_)
  obtain ⟨rfl, rfl, hR2⟩ := hj v1 w1 v2 w2 h1 h2
  obtain ⟨r, rfl⟩ : ∃ r, v = .int r := hv.elim (fun q => q.2) (fun q => absurd q.1 (by decide))
  refine x_icmp_eq dL_law_569 (fun _ => ?_) (fun c => absurd rfl c)
  exact hgo w1 w2 hR2

set_option maxRecDepth 100000 in
set_option maxHeartbeats 4000000 in
theorem lw_c14 (hX : va_X sc L xs (ks κ) (ks κ).heap) (hsz : sc < (ks κ).heap.size) (hA : ¬ kA κ sc) (hL : L ≤ 384) (hi : i + 6 ≤ L) (hR : Rel g a b wX wM) (hgo : ∀ w1 w2, Rel g a b w1 w2 → Xs κ g 1312 600000 7302250 cL_law yL_law ret Q 72 23970 1278 [some (.ref sc), some (.ref (a 0)), some (.ref (b 0)), some (.int (nI i))] [] (w1 ++ w2)) : Xs κ g 1312 600000 7302250 cL_law yL_law ret Q 72 23970 574 [some (.ref sc), some (.ref (a 0)), some (.ref (b 0)), some (.int (nI i))] [] (wX ++ wM) := by
  obtain ⟨fx, hx0⟩ := rel_x0 hR
  obtain ⟨fm, hm0⟩ := rel_n0 hR
  obtain ⟨v, kx, kn, PX, PM, hkx, hkn, hv, cX, cM, hj⟩ := pm_rule κ.2.1 g a b hR (xs (i + 1)) (xs (i + 2))
  refine x_aload_n dL_law_574 rfl ?_
  refine x_aload_n dL_law_575 rfl ?_
  refine x_iload_n dL_law_576 rfl ?_
  refine x_iconst 1 dL_law_577 (by decide) ?_
  refine x_iadd dL_law_578 ?_
  refine x_rei (nI (i + 1)) (nI_addc i 1 rfl) ?_
  refine x_sald dL_law_579 hX hsz hA (i + 1) rfl (by omega) (by omega) ?_
  refine x_aload_n dL_law_580 rfl ?_
  refine x_iload_n dL_law_581 rfl ?_
  refine x_iconst 2 dL_law_582 (by decide) ?_
  refine x_iadd dL_law_583 ?_
  refine x_rei (nI (i + 2)) (nI_addc i 2 rfl) ?_
  refine x_sald dL_law_584 hX hsz hA (i + 2) rfl (by omega) (by omega) ?_
  refine x_callJ (As := [.int (xs (i + 1)), .int (xs (i + 2))]) (st := []) (wa := wX) (wb := wM) dL_law_585 ml_L_72 mX8_rule cX rfl hx0 rfl rfl (by decide) (by omega) (Nat.le_of_ble_eq_true rfl) (Nat.le_of_ble_eq_true rfl) (fun v1 w1 h1 => ?_)
  refine x_aload_n dL_law_588 rfl ?_
  refine x_aload_n dL_law_589 rfl ?_
  refine x_iload_n dL_law_590 rfl ?_
  refine x_iconst 1 dL_law_591 (by decide) ?_
  refine x_iadd dL_law_592 ?_
  refine x_rei (nI (i + 1)) (nI_addc i 1 rfl) ?_
  refine x_sald dL_law_593 hX hsz hA (i + 1) rfl (by omega) (by omega) ?_
  refine x_aload_n dL_law_594 rfl ?_
  refine x_iload_n dL_law_595 rfl ?_
  refine x_iconst 2 dL_law_596 (by decide) ?_
  refine x_iadd dL_law_597 ?_
  refine x_rei (nI (i + 2)) (nI_addc i 2 rfl) ?_
  refine x_sald dL_law_598 hX hsz hA (i + 2) rfl (by omega) (by omega) ?_
  refine x_callJ (As := [.int (xs (i + 1)), .int (xs (i + 2))]) (st := v1.toList ++ []) (wa := wM) (wb := w1) dL_law_599 ml_L_75 mX9_rule cM rfl hm0 rfl rfl (cat8 v1) (by omega) (Nat.le_of_ble_eq_true rfl) (Nat.le_of_ble_eq_true rfl) (fun v2 w2 h2 => ?_)
  obtain ⟨rfl, rfl, hR2⟩ := hj v1 w1 v2 w2 h1 h2
  obtain ⟨r, rfl⟩ : ∃ r, v = .int r := hv.elim (fun q => q.2) (fun q => absurd q.1 (by decide))
  refine x_icmp_eq dL_law_602 (fun _ => ?_) (fun c => absurd rfl c)
  exact hgo w1 w2 hR2

set_option maxRecDepth 100000 in
set_option maxHeartbeats 4000000 in
theorem lw_c15 (hX : va_X sc L xs (ks κ) (ks κ).heap) (hsz : sc < (ks κ).heap.size) (hA : ¬ kA κ sc) (hL : L ≤ 384) (hi : i + 6 ≤ L) (hR : Rel g a b wX wM) (hgo : ∀ w1 w2, Rel g a b w1 w2 → Xs κ g 1312 600000 7302250 cL_law yL_law ret Q 72 23970 1278 [some (.ref sc), some (.ref (a 0)), some (.ref (b 0)), some (.int (nI i))] [] (w1 ++ w2)) : Xs κ g 1312 600000 7302250 cL_law yL_law ret Q 72 23970 607 [some (.ref sc), some (.ref (a 0)), some (.ref (b 0)), some (.int (nI i))] [] (wX ++ wM) := by
  obtain ⟨fx, hx0⟩ := rel_x0 hR
  obtain ⟨fm, hm0⟩ := rel_n0 hR
  obtain ⟨v, kx, kn, PX, PM, hkx, hkn, hv, cX, cM, hj⟩ := pm_seed κ.2.1 g a b hR (xs (i + 1))
  refine x_aload_n dL_law_607 rfl ?_
  refine x_aload_n dL_law_608 rfl ?_
  refine x_iload_n dL_law_609 rfl ?_
  refine x_iconst 1 dL_law_610 (by decide) ?_
  refine x_iadd dL_law_611 ?_
  refine x_rei (nI (i + 1)) (nI_addc i 1 rfl) ?_
  refine x_sald dL_law_612 hX hsz hA (i + 1) rfl (by omega) (by omega) ?_
  refine x_callJ (As := [.int (xs (i + 1))]) (st := []) (wa := wX) (wb := wM) dL_law_613 ml_L_76 mX8_seed cX rfl hx0 rfl rfl (by decide) (by omega) (Nat.le_of_ble_eq_true rfl) (Nat.le_of_ble_eq_true rfl) (fun v1 w1 h1 => ?_)
  refine x_aload_n dL_law_616 rfl ?_
  refine x_aload_n dL_law_617 rfl ?_
  refine x_iload_n dL_law_618 rfl ?_
  refine x_iconst 1 dL_law_619 (by decide) ?_
  refine x_iadd dL_law_620 ?_
  refine x_rei (nI (i + 1)) (nI_addc i 1 rfl) ?_
  refine x_sald dL_law_621 hX hsz hA (i + 1) rfl (by omega) (by omega) ?_
  refine x_callJ (As := [.int (xs (i + 1))]) (st := v1.toList ++ []) (wa := wM) (wb := w1) dL_law_622 ml_L_79 mX9_seed cM rfl hm0 rfl rfl (cat8 v1) (by omega) (Nat.le_of_ble_eq_true rfl) (Nat.le_of_ble_eq_true rfl) (fun v2 w2 h2 => ?_)
  obtain ⟨rfl, rfl, hR2⟩ := hj v1 w1 v2 w2 h1 h2
  obtain ⟨r, rfl⟩ : ∃ r, v = .int r := hv.elim (fun q => q.2) (fun q => absurd q.1 (by decide))
  refine x_icmp_eq dL_law_625 (fun _ => ?_) (fun c => absurd rfl c)
  exact hgo w1 w2 hR2

set_option maxRecDepth 100000 in
set_option maxHeartbeats 4000000 in
theorem lw_c16 (hX : va_X sc L xs (ks κ) (ks κ).heap) (hsz : sc < (ks κ).heap.size) (hA : ¬ kA κ sc) (hL : L ≤ 384) (hi : i + 6 ≤ L) (hR : Rel g a b wX wM) (hgo : ∀ w1 w2, Rel g a b w1 w2 → Xs κ g 1312 600000 7302250 cL_law yL_law ret Q 72 23970 1278 [some (.ref sc), some (.ref (a 0)), some (.ref (b 0)), some (.int (nI i))] [] (w1 ++ w2)) : Xs κ g 1312 600000 7302250 cL_law yL_law ret Q 72 23970 630 [some (.ref sc), some (.ref (a 0)), some (.ref (b 0)), some (.int (nI i))] [] (wX ++ wM) := by
  obtain ⟨fx, hx0⟩ := rel_x0 hR
  obtain ⟨fm, hm0⟩ := rel_n0 hR
  obtain ⟨v, kx, kn, PX, PM, hkx, hkn, hv, cX, cM, hj⟩ := pm_week κ.2.1 g a b hR 
  refine x_aload_n dL_law_630 rfl ?_
  refine x_callJ (As := []) (st := []) (wa := wX) (wb := wM) dL_law_631 ml_L_80 mX8_week cX rfl hx0 rfl rfl (by decide) (by omega) (Nat.le_of_ble_eq_true rfl) (Nat.le_of_ble_eq_true rfl) (fun v1 w1 h1 => ?_)
  refine x_aload_n dL_law_634 rfl ?_
  refine x_callJ (As := []) (st := v1.toList ++ []) (wa := wM) (wb := w1) dL_law_635 ml_L_83 mX9_week cM rfl hm0 rfl rfl (cat8 v1) (by omega) (Nat.le_of_ble_eq_true rfl) (Nat.le_of_ble_eq_true rfl) (fun v2 w2 h2 => ?_)
  obtain ⟨rfl, rfl, hR2⟩ := hj v1 w1 v2 w2 h1 h2
  obtain ⟨r, rfl⟩ : ∃ r, v = .int r := hv.elim (fun q => q.2) (fun q => absurd q.1 (by decide))
  refine x_icmp_eq dL_law_638 (fun _ => ?_) (fun c => absurd rfl c)
  exact hgo w1 w2 hR2

set_option maxRecDepth 100000 in
set_option maxHeartbeats 4000000 in
theorem lw_c17 (hX : va_X sc L xs (ks κ) (ks κ).heap) (hsz : sc < (ks κ).heap.size) (hA : ¬ kA κ sc) (hL : L ≤ 384) (hi : i + 6 ≤ L) (hR : Rel g a b wX wM) (hgo : ∀ w1 w2, Rel g a b w1 w2 → Xs κ g 1312 600000 7302250 cL_law yL_law ret Q 72 23970 1278 [some (.ref sc), some (.ref (a 0)), some (.ref (b 0)), some (.int (nI i))] [] (w1 ++ w2)) : Xs κ g 1312 600000 7302250 cL_law yL_law ret Q 72 23970 643 [some (.ref sc), some (.ref (a 0)), some (.ref (b 0)), some (.int (nI i))] [] (wX ++ wM) := by
  obtain ⟨fx, hx0⟩ := rel_x0 hR
  obtain ⟨fm, hm0⟩ := rel_n0 hR
  obtain ⟨v, kx, kn, PX, PM, hkx, hkn, hv, cX, cM, hj⟩ := pm_told κ.2.1 g a b hR (xs (i + 1))
  refine x_aload_n dL_law_643 rfl ?_
  refine x_aload_n dL_law_644 rfl ?_
  refine x_iload_n dL_law_645 rfl ?_
  refine x_iconst 1 dL_law_646 (by decide) ?_
  refine x_iadd dL_law_647 ?_
  refine x_rei (nI (i + 1)) (nI_addc i 1 rfl) ?_
  refine x_sald dL_law_648 hX hsz hA (i + 1) rfl (by omega) (by omega) ?_
  refine x_callJ (As := [.int (xs (i + 1))]) (st := []) (wa := wX) (wb := wM) dL_law_649 ml_L_84 mX8_told cX rfl hx0 rfl rfl (by decide) (by omega) (Nat.le_of_ble_eq_true rfl) (Nat.le_of_ble_eq_true rfl) (fun v1 w1 h1 => ?_)
  refine x_aload_n dL_law_652 rfl ?_
  refine x_aload_n dL_law_653 rfl ?_
  refine x_iload_n dL_law_654 rfl ?_
  refine x_iconst 1 dL_law_655 (by decide) ?_
  refine x_iadd dL_law_656 ?_
  refine x_rei (nI (i + 1)) (nI_addc i 1 rfl) ?_
  refine x_sald dL_law_657 hX hsz hA (i + 1) rfl (by omega) (by omega) ?_
  refine x_callJ (As := [.int (xs (i + 1))]) (st := v1.toList ++ []) (wa := wM) (wb := w1) dL_law_658 ml_L_87 mX9_told cM rfl hm0 rfl rfl (cat8 v1) (by omega) (Nat.le_of_ble_eq_true rfl) (Nat.le_of_ble_eq_true rfl) (fun v2 w2 h2 => ?_)
  obtain ⟨rfl, rfl, hR2⟩ := hj v1 w1 v2 w2 h1 h2
  obtain ⟨r, rfl⟩ : ∃ r, v = .int r := hv.elim (fun q => q.2) (fun q => absurd q.1 (by decide))
  refine x_icmp_eq dL_law_661 (fun _ => ?_) (fun c => absurd rfl c)
  exact hgo w1 w2 hR2

set_option maxRecDepth 100000 in
set_option maxHeartbeats 4000000 in
theorem lw_c18 (hX : va_X sc L xs (ks κ) (ks κ).heap) (hsz : sc < (ks κ).heap.size) (hA : ¬ kA κ sc) (hL : L ≤ 384) (hi : i + 6 ≤ L) (hR : Rel g a b wX wM) (hgo : ∀ w1 w2, Rel g a b w1 w2 → Xs κ g 1312 600000 7302250 cL_law yL_law ret Q 72 23970 1278 [some (.ref sc), some (.ref (a 0)), some (.ref (b 0)), some (.int (nI i))] [] (w1 ++ w2)) : Xs κ g 1312 600000 7302250 cL_law yL_law ret Q 72 23970 666 [some (.ref sc), some (.ref (a 0)), some (.ref (b 0)), some (.int (nI i))] [] (wX ++ wM) := by
  obtain ⟨fx, hx0⟩ := rel_x0 hR
  obtain ⟨fm, hm0⟩ := rel_n0 hR
  obtain ⟨v, kx, kn, PX, PM, hkx, hkn, hv, cX, cM, hj⟩ := pm_book κ.2.1 g a b hR (xs (i + 1)) (xs (i + 2))
  refine x_aload_n dL_law_666 rfl ?_
  refine x_aload_n dL_law_667 rfl ?_
  refine x_iload_n dL_law_668 rfl ?_
  refine x_iconst 1 dL_law_669 (by decide) ?_
  refine x_iadd dL_law_670 ?_
  refine x_rei (nI (i + 1)) (nI_addc i 1 rfl) ?_
  refine x_sald dL_law_671 hX hsz hA (i + 1) rfl (by omega) (by omega) ?_
  refine x_aload_n dL_law_672 rfl ?_
  refine x_iload_n dL_law_673 rfl ?_
  refine x_iconst 2 dL_law_674 (by decide) ?_
  refine x_iadd dL_law_675 ?_
  refine x_rei (nI (i + 2)) (nI_addc i 2 rfl) ?_
  refine x_sald dL_law_676 hX hsz hA (i + 2) rfl (by omega) (by omega) ?_
  refine x_callJ (As := [.int (xs (i + 1)), .int (xs (i + 2))]) (st := []) (wa := wX) (wb := wM) dL_law_677 ml_L_88 mX8_book cX rfl hx0 rfl rfl (by decide) (by omega) (Nat.le_of_ble_eq_true rfl) (Nat.le_of_ble_eq_true rfl) (fun v1 w1 h1 => ?_)
  refine x_aload_n dL_law_680 rfl ?_
  refine x_aload_n dL_law_681 rfl ?_
  refine x_iload_n dL_law_682 rfl ?_
  refine x_iconst 1 dL_law_683 (by decide) ?_
  refine x_iadd dL_law_684 ?_
  refine x_rei (nI (i + 1)) (nI_addc i 1 rfl) ?_
  refine x_sald dL_law_685 hX hsz hA (i + 1) rfl (by omega) (by omega) ?_
  refine x_aload_n dL_law_686 rfl ?_
  refine x_iload_n dL_law_687 rfl ?_
  refine x_iconst 2 dL_law_688 (by decide) ?_
  refine x_iadd dL_law_689 ?_
  refine x_rei (nI (i + 2)) (nI_addc i 2 rfl) ?_
  refine x_sald dL_law_690 hX hsz hA (i + 2) rfl (by omega) (by omega) ?_
  refine x_callJ (As := [.int (xs (i + 1)), .int (xs (i + 2))]) (st := v1.toList ++ []) (wa := wM) (wb := w1) dL_law_691 ml_L_91 mX9_book cM rfl hm0 rfl rfl (cat8 v1) (by omega) (Nat.le_of_ble_eq_true rfl) (Nat.le_of_ble_eq_true rfl) (fun v2 w2 h2 => ?_)
  obtain ⟨rfl, rfl, hR2⟩ := hj v1 w1 v2 w2 h1 h2
  obtain ⟨r, rfl⟩ : ∃ r, v = .int r := hv.elim (fun q => q.2) (fun q => absurd q.1 (by decide))
  refine x_icmp_eq dL_law_694 (fun _ => ?_) (fun c => absurd rfl c)
  exact hgo w1 w2 hR2

set_option maxRecDepth 100000 in
set_option maxHeartbeats 4000000 in
theorem lw_c19 (hX : va_X sc L xs (ks κ) (ks κ).heap) (hsz : sc < (ks κ).heap.size) (hA : ¬ kA κ sc) (hL : L ≤ 384) (hi : i + 6 ≤ L) (hR : Rel g a b wX wM) (hgo : ∀ w1 w2, Rel g a b w1 w2 → Xs κ g 1312 600000 7302250 cL_law yL_law ret Q 72 23970 1278 [some (.ref sc), some (.ref (a 0)), some (.ref (b 0)), some (.int (nI i))] [] (w1 ++ w2)) : Xs κ g 1312 600000 7302250 cL_law yL_law ret Q 72 23970 699 [some (.ref sc), some (.ref (a 0)), some (.ref (b 0)), some (.int (nI i))] [] (wX ++ wM) := by
  obtain ⟨fx, hx0⟩ := rel_x0 hR
  obtain ⟨fm, hm0⟩ := rel_n0 hR
  obtain ⟨v, kx, kn, PX, PM, hkx, hkn, hv, cX, cM, hj⟩ := pm_now κ.2.1 g a b hR 
  refine x_aload_n dL_law_699 rfl ?_
  refine x_callJ (As := []) (st := []) (wa := wX) (wb := wM) dL_law_700 ml_L_92 mX8_now cX rfl hx0 rfl rfl (by decide) (by omega) (Nat.le_of_ble_eq_true rfl) (Nat.le_of_ble_eq_true rfl) (fun v1 w1 h1 => ?_)
  refine x_aload_n dL_law_703 rfl ?_
  refine x_callJ (As := []) (st := v1.toList ++ []) (wa := wM) (wb := w1) dL_law_704 ml_L_95 mX9_now cM rfl hm0 rfl rfl (cat8 v1) (by omega) (Nat.le_of_ble_eq_true rfl) (Nat.le_of_ble_eq_true rfl) (fun v2 w2 h2 => ?_)
  obtain ⟨rfl, rfl, hR2⟩ := hj v1 w1 v2 w2 h1 h2
  obtain ⟨r, rfl⟩ : ∃ r, v = .int r := hv.elim (fun q => q.2) (fun q => absurd q.1 (by decide))
  refine x_icmp_eq dL_law_707 (fun _ => ?_) (fun c => absurd rfl c)
  exact hgo w1 w2 hR2

set_option maxRecDepth 100000 in
set_option maxHeartbeats 4000000 in
theorem lw_c20 (hX : va_X sc L xs (ks κ) (ks κ).heap) (hsz : sc < (ks κ).heap.size) (hA : ¬ kA κ sc) (hL : L ≤ 384) (hi : i + 6 ≤ L) (hR : Rel g a b wX wM) (hgo : ∀ w1 w2, Rel g a b w1 w2 → Xs κ g 1312 600000 7302250 cL_law yL_law ret Q 72 23970 1278 [some (.ref sc), some (.ref (a 0)), some (.ref (b 0)), some (.int (nI i))] [] (w1 ++ w2)) : Xs κ g 1312 600000 7302250 cL_law yL_law ret Q 72 23970 712 [some (.ref sc), some (.ref (a 0)), some (.ref (b 0)), some (.int (nI i))] [] (wX ++ wM) := by
  obtain ⟨fx, hx0⟩ := rel_x0 hR
  obtain ⟨fm, hm0⟩ := rel_n0 hR
  obtain ⟨v, kx, kn, PX, PM, hkx, hkn, hv, cX, cM, hj⟩ := pm_worth κ.2.1 g a b hR (xs (i + 1))
  refine x_aload_n dL_law_712 rfl ?_
  refine x_aload_n dL_law_713 rfl ?_
  refine x_iload_n dL_law_714 rfl ?_
  refine x_iconst 1 dL_law_715 (by decide) ?_
  refine x_iadd dL_law_716 ?_
  refine x_rei (nI (i + 1)) (nI_addc i 1 rfl) ?_
  refine x_sald dL_law_717 hX hsz hA (i + 1) rfl (by omega) (by omega) ?_
  refine x_callJ (As := [.int (xs (i + 1))]) (st := []) (wa := wX) (wb := wM) dL_law_718 ml_L_96 mX8_worth cX rfl hx0 rfl rfl (by decide) (by omega) (Nat.le_of_ble_eq_true rfl) (Nat.le_of_ble_eq_true rfl) (fun v1 w1 h1 => ?_)
  refine x_aload_n dL_law_721 rfl ?_
  refine x_aload_n dL_law_722 rfl ?_
  refine x_iload_n dL_law_723 rfl ?_
  refine x_iconst 1 dL_law_724 (by decide) ?_
  refine x_iadd dL_law_725 ?_
  refine x_rei (nI (i + 1)) (nI_addc i 1 rfl) ?_
  refine x_sald dL_law_726 hX hsz hA (i + 1) rfl (by omega) (by omega) ?_
  refine x_callJ (As := [.int (xs (i + 1))]) (st := v1.toList ++ []) (wa := wM) (wb := w1) dL_law_727 ml_L_99 mX9_worth cM rfl hm0 rfl rfl (cat8 v1) (by omega) (Nat.le_of_ble_eq_true rfl) (Nat.le_of_ble_eq_true rfl) (fun v2 w2 h2 => ?_)
  obtain ⟨rfl, rfl, hR2⟩ := hj v1 w1 v2 w2 h1 h2
  obtain ⟨r, rfl⟩ : ∃ r, v = .int r := hv.elim (fun q => q.2) (fun q => absurd q.1 (by decide))
  refine x_icmp_eq dL_law_730 (fun _ => ?_) (fun c => absurd rfl c)
  exact hgo w1 w2 hR2
end LC
