/-! THE LAW: its walk -/
abbrev kL (nm : String) : MI := (⟨k_L_law.1.cls, nm, k_L_law.1.desc⟩, k_L_law.2)
theorem lt6 {N i : Nat} (hN : N ≤ 3072) (hi : i ≤ 5000) : (nI N - nI 6 < nI i) ↔ N < i + 6 := by
  by_cases c : 6 ≤ N
  · rw [pk_sub (by omega), nI_ltI (by omega) (by omega)]; omega
  · refine ⟨fun _ => by omega, fun _ => ?_⟩
    rw [Int32.lt_iff_toInt_lt, nI_toInt (by omega)]
    have : ∀ n, n < 6 → (nI n - nI 6).toInt < 0 := by decide +kernel
    have := this N (by omega)
    omega
section LAW
variable {E : EnvT} {h : Hp} {X b N : Nat} {xs : Nat → Int32} {mc ms : Nat} {nm : String}
theorem L_feed (hN : N ≤ 3072) {i : Nat} (hi : i + 5 < N) (z : LSt E h X) (kk : ∀ h2, LSt E h2 X → WX (XS b N xs E.2.2.2) E (kL nm) 68 mc ms 1295 [some (.ref b), some (.ref X), some (.ref (X + 1830)), some (.int (nI i))] [] h2 (fun v _ => v = some (.int (nI 1)))) : WX (XS b N xs E.2.2.2) E (kL nm) 68 mc ms 212 [some (.ref b), some (.ref X), some (.ref (X + 1830)), some (.int (nI i))] [] h (fun v _ => v = some (.int (nI 1))) := by
  obtain ⟨d, hd, hs⟩ := both_feed z (xs (i + 1)) (xs (i + 2)) (xs (i + 3)) (xs (i + 4)) (xs (i + 5))
  obtain ⟨rd, q, ds, im, md, tp, ph, fk, fp, x, y, ok⟩ := z
  refine RX_aload_n dL_law_212 rfl ?_
  refine RX_aload_n dL_law_213 rfl ?_
  refine RX_iload_n dL_law_214 rfl ?_
  refine RX_iconst (v := nI 1) dL_law_215 (by decide) ?_
  refine RX_iadd_N dL_law_216 ?_
  refine RX_sld dL_law_217 (by omega) (by omega) ?_
  refine RX_aload_n dL_law_218 rfl ?_
  refine RX_iload_n dL_law_219 rfl ?_
  refine RX_iconst (v := nI 2) dL_law_220 (by decide) ?_
  refine RX_iadd_N dL_law_221 ?_
  refine RX_sld dL_law_222 (by omega) (by omega) ?_
  refine RX_aload_n dL_law_223 rfl ?_
  refine RX_iload_n dL_law_224 rfl ?_
  refine RX_iconst (v := nI 3) dL_law_225 (by decide) ?_
  refine RX_iadd_N dL_law_226 ?_
  refine RX_sld dL_law_227 (by omega) (by omega) ?_
  refine RX_aload_n dL_law_228 rfl ?_
  refine RX_iload_n dL_law_229 rfl ?_
  refine RX_iconst (v := nI 4) dL_law_230 (by decide) ?_
  refine RX_iadd_N dL_law_231 ?_
  refine RX_sld dL_law_232 (by omega) (by omega) ?_
  refine RX_aload_n dL_law_233 rfl ?_
  refine RX_iload_n dL_law_234 rfl ?_
  refine RX_iconst (v := nI 5) dL_law_235 (by decide) ?_
  refine RX_iadd_N dL_law_236 ?_
  refine RX_sld dL_law_237 (by omega) (by omega) ?_
  refine RX_callV v_X9_feed (hs) dL_law_238 l_RL_13 rfl rfl x.1 (Nat.le_of_ble_eq_true rfl) (by omega) rfl rfl (fun v h1 hq => ?_)
  obtain ⟨r, rfl, ⟨fs, hM⟩, d2, hd2, hs2⟩ := hq
  refine RX_aload_n dL_law_241 rfl ?_
  refine RX_aload_n dL_law_242 rfl ?_
  refine RX_iload_n dL_law_243 rfl ?_
  refine RX_iconst (v := nI 1) dL_law_244 (by decide) ?_
  refine RX_iadd_N dL_law_245 ?_
  refine RX_sld dL_law_246 (by omega) (by omega) ?_
  refine RX_aload_n dL_law_247 rfl ?_
  refine RX_iload_n dL_law_248 rfl ?_
  refine RX_iconst (v := nI 2) dL_law_249 (by decide) ?_
  refine RX_iadd_N dL_law_250 ?_
  refine RX_sld dL_law_251 (by omega) (by omega) ?_
  refine RX_aload_n dL_law_252 rfl ?_
  refine RX_iload_n dL_law_253 rfl ?_
  refine RX_iconst (v := nI 3) dL_law_254 (by decide) ?_
  refine RX_iadd_N dL_law_255 ?_
  refine RX_sld dL_law_256 (by omega) (by omega) ?_
  refine RX_aload_n dL_law_257 rfl ?_
  refine RX_iload_n dL_law_258 rfl ?_
  refine RX_iconst (v := nI 4) dL_law_259 (by decide) ?_
  refine RX_iadd_N dL_law_260 ?_
  refine RX_sld dL_law_261 (by omega) (by omega) ?_
  refine RX_aload_n dL_law_262 rfl ?_
  refine RX_iload_n dL_law_263 rfl ?_
  refine RX_iconst (v := nI 5) dL_law_264 (by decide) ?_
  refine RX_iadd_N dL_law_265 ?_
  refine RX_sld dL_law_266 (by omega) (by omega) ?_
  refine RX_callV v_X10_feed (hs2) dL_law_267 l_RL_17 rfl rfl hM (Nat.le_of_ble_eq_true rfl) (by omega) rfl rfl (fun v h2 hq => ?_)
  obtain ⟨rfl, z2⟩ := hq
  refine RX_icmp_eq (tgt := 1295) dL_law_270 (by decide) (fun c270 => ?_) (fun c270 => ?_)
  · exact kk h2 z2
  · exact absurd rfl c270
theorem L_text (hN : N ≤ 3072) {i : Nat} (hi : i + 5 < N) (z : LSt E h X) (kk : ∀ h2, LSt E h2 X → WX (XS b N xs E.2.2.2) E (kL nm) 68 mc ms 1295 [some (.ref b), some (.ref X), some (.ref (X + 1830)), some (.int (nI i))] [] h2 (fun v _ => v = some (.int (nI 1)))) : WX (XS b N xs E.2.2.2) E (kL nm) 68 mc ms 275 [some (.ref b), some (.ref X), some (.ref (X + 1830)), some (.int (nI i))] [] h (fun v _ => v = some (.int (nI 1))) := by
  obtain ⟨d, hd, hs⟩ := both_text z (xs (i + 1))
  obtain ⟨rd, q, ds, im, md, tp, ph, fk, fp, x, y, ok⟩ := z
  refine RX_aload_n dL_law_275 rfl ?_
  refine RX_aload_n dL_law_276 rfl ?_
  refine RX_iload_n dL_law_277 rfl ?_
  refine RX_iconst (v := nI 1) dL_law_278 (by decide) ?_
  refine RX_iadd_N dL_law_279 ?_
  refine RX_sld dL_law_280 (by omega) (by omega) ?_
  refine RX_callV v_X9_text (hs) dL_law_281 l_RL_18 rfl rfl x.1 (Nat.le_of_ble_eq_true rfl) (by omega) rfl rfl (fun v h1 hq => ?_)
  obtain ⟨r, rfl, ⟨fs, hM⟩, d2, hd2, hs2⟩ := hq
  refine RX_aload_n dL_law_284 rfl ?_
  refine RX_aload_n dL_law_285 rfl ?_
  refine RX_iload_n dL_law_286 rfl ?_
  refine RX_iconst (v := nI 1) dL_law_287 (by decide) ?_
  refine RX_iadd_N dL_law_288 ?_
  refine RX_sld dL_law_289 (by omega) (by omega) ?_
  refine RX_callV v_X10_text (hs2) dL_law_290 l_RL_22 rfl rfl hM (Nat.le_of_ble_eq_true rfl) (by omega) rfl rfl (fun v h2 hq => ?_)
  obtain ⟨rfl, z2⟩ := hq
  refine RX_icmp_eq (tgt := 1295) dL_law_293 (by decide) (fun c293 => ?_) (fun c293 => ?_)
  · exact kk h2 z2
  · exact absurd rfl c293
theorem L_phrase (hN : N ≤ 3072) {i : Nat} (hi : i + 5 < N) (z : LSt E h X) (kk : ∀ h2, LSt E h2 X → WX (XS b N xs E.2.2.2) E (kL nm) 68 mc ms 1295 [some (.ref b), some (.ref X), some (.ref (X + 1830)), some (.int (nI i))] [] h2 (fun v _ => v = some (.int (nI 1)))) : WX (XS b N xs E.2.2.2) E (kL nm) 68 mc ms 298 [some (.ref b), some (.ref X), some (.ref (X + 1830)), some (.int (nI i))] [] h (fun v _ => v = some (.int (nI 1))) := by
  obtain ⟨d, hd, hs⟩ := both_phrase z (xs (i + 1))
  obtain ⟨rd, q, ds, im, md, tp, ph, fk, fp, x, y, ok⟩ := z
  refine RX_aload_n dL_law_298 rfl ?_
  refine RX_aload_n dL_law_299 rfl ?_
  refine RX_iload_n dL_law_300 rfl ?_
  refine RX_iconst (v := nI 1) dL_law_301 (by decide) ?_
  refine RX_iadd_N dL_law_302 ?_
  refine RX_sld dL_law_303 (by omega) (by omega) ?_
  refine RX_callV v_X9_phrase (hs) dL_law_304 l_RL_23 rfl rfl x.1 (Nat.le_of_ble_eq_true rfl) (by omega) rfl rfl (fun v h1 hq => ?_)
  obtain ⟨r, rfl, ⟨fs, hM⟩, d2, hd2, hs2⟩ := hq
  refine RX_aload_n dL_law_307 rfl ?_
  refine RX_aload_n dL_law_308 rfl ?_
  refine RX_iload_n dL_law_309 rfl ?_
  refine RX_iconst (v := nI 1) dL_law_310 (by decide) ?_
  refine RX_iadd_N dL_law_311 ?_
  refine RX_sld dL_law_312 (by omega) (by omega) ?_
  refine RX_callV v_X10_phrase (hs2) dL_law_313 l_RL_26 rfl rfl hM (Nat.le_of_ble_eq_true rfl) (by omega) rfl rfl (fun v h2 hq => ?_)
  obtain ⟨rfl, z2⟩ := hq
  refine RX_icmp_eq (tgt := 1295) dL_law_316 (by decide) (fun c316 => ?_) (fun c316 => ?_)
  · exact kk h2 z2
  · exact absurd rfl c316
theorem L_load (hN : N ≤ 3072) {i : Nat} (hi : i + 5 < N) (z : LSt E h X) (kk : ∀ h2, LSt E h2 X → WX (XS b N xs E.2.2.2) E (kL nm) 68 mc ms 1295 [some (.ref b), some (.ref X), some (.ref (X + 1830)), some (.int (nI i))] [] h2 (fun v _ => v = some (.int (nI 1)))) : WX (XS b N xs E.2.2.2) E (kL nm) 68 mc ms 321 [some (.ref b), some (.ref X), some (.ref (X + 1830)), some (.int (nI i))] [] h (fun v _ => v = some (.int (nI 1))) := by
  obtain ⟨d, hd, hs⟩ := both_load z (xs (i + 1))
  obtain ⟨rd, q, ds, im, md, tp, ph, fk, fp, x, y, ok⟩ := z
  refine RX_aload_n dL_law_321 rfl ?_
  refine RX_aload_n dL_law_322 rfl ?_
  refine RX_iload_n dL_law_323 rfl ?_
  refine RX_iconst (v := nI 1) dL_law_324 (by decide) ?_
  refine RX_iadd_N dL_law_325 ?_
  refine RX_sld dL_law_326 (by omega) (by omega) ?_
  refine RX_callV v_X9_load (hs) dL_law_327 l_RL_27 rfl rfl x.1 (Nat.le_of_ble_eq_true rfl) (by omega) rfl rfl (fun v h1 hq => ?_)
  obtain ⟨r, rfl, ⟨fs, hM⟩, d2, hd2, hs2⟩ := hq
  refine RX_aload_n dL_law_330 rfl ?_
  refine RX_aload_n dL_law_331 rfl ?_
  refine RX_iload_n dL_law_332 rfl ?_
  refine RX_iconst (v := nI 1) dL_law_333 (by decide) ?_
  refine RX_iadd_N dL_law_334 ?_
  refine RX_sld dL_law_335 (by omega) (by omega) ?_
  refine RX_callV v_X10_load (hs2) dL_law_336 l_RL_30 rfl rfl hM (Nat.le_of_ble_eq_true rfl) (by omega) rfl rfl (fun v h2 hq => ?_)
  obtain ⟨rfl, z2⟩ := hq
  refine RX_icmp_eq (tgt := 1295) dL_law_339 (by decide) (fun c339 => ?_) (fun c339 => ?_)
  · exact kk h2 z2
  · exact absurd rfl c339
theorem L_fault (hN : N ≤ 3072) {i : Nat} (hi : i + 5 < N) (z : LSt E h X) (kk : ∀ h2, LSt E h2 X → WX (XS b N xs E.2.2.2) E (kL nm) 68 mc ms 1295 [some (.ref b), some (.ref X), some (.ref (X + 1830)), some (.int (nI i))] [] h2 (fun v _ => v = some (.int (nI 1)))) : WX (XS b N xs E.2.2.2) E (kL nm) 68 mc ms 344 [some (.ref b), some (.ref X), some (.ref (X + 1830)), some (.int (nI i))] [] h (fun v _ => v = some (.int (nI 1))) := by
  obtain ⟨d, hd, hs⟩ := both_fault z (xs (i + 1))
  obtain ⟨rd, q, ds, im, md, tp, ph, fk, fp, x, y, ok⟩ := z
  refine RX_aload_n dL_law_344 rfl ?_
  refine RX_aload_n dL_law_345 rfl ?_
  refine RX_iload_n dL_law_346 rfl ?_
  refine RX_iconst (v := nI 1) dL_law_347 (by decide) ?_
  refine RX_iadd_N dL_law_348 ?_
  refine RX_sld dL_law_349 (by omega) (by omega) ?_
  refine RX_callV v_X9_fault (hs) dL_law_350 l_RL_31 rfl rfl x.1 (Nat.le_of_ble_eq_true rfl) (by omega) rfl rfl (fun v h1 hq => ?_)
  obtain ⟨r, rfl, ⟨fs, hM⟩, d2, hd2, hs2⟩ := hq
  refine RX_aload_n dL_law_353 rfl ?_
  refine RX_aload_n dL_law_354 rfl ?_
  refine RX_iload_n dL_law_355 rfl ?_
  refine RX_iconst (v := nI 1) dL_law_356 (by decide) ?_
  refine RX_iadd_N dL_law_357 ?_
  refine RX_sld dL_law_358 (by omega) (by omega) ?_
  refine RX_callV v_X10_fault (hs2) dL_law_359 l_RL_34 rfl rfl hM (Nat.le_of_ble_eq_true rfl) (by omega) rfl rfl (fun v h2 hq => ?_)
  obtain ⟨rfl, z2⟩ := hq
  refine RX_icmp_eq (tgt := 1295) dL_law_362 (by decide) (fun c362 => ?_) (fun c362 => ?_)
  · exact kk h2 z2
  · exact absurd rfl c362
theorem L_step (hN : N ≤ 3072) {i : Nat} (hi : i + 5 < N) (z : LSt E h X) (kk : ∀ h2, LSt E h2 X → WX (XS b N xs E.2.2.2) E (kL nm) 68 mc ms 1295 [some (.ref b), some (.ref X), some (.ref (X + 1830)), some (.int (nI i))] [] h2 (fun v _ => v = some (.int (nI 1)))) : WX (XS b N xs E.2.2.2) E (kL nm) 68 mc ms 367 [some (.ref b), some (.ref X), some (.ref (X + 1830)), some (.int (nI i))] [] h (fun v _ => v = some (.int (nI 1))) := by
  obtain ⟨d, hd, hs⟩ := both_step z
  obtain ⟨rd, q, ds, im, md, tp, ph, fk, fp, x, y, ok⟩ := z
  refine RX_aload_n dL_law_367 rfl ?_
  refine RX_callV v_X9_step (hs) dL_law_368 l_RL_35 rfl rfl x.1 (Nat.le_of_ble_eq_true rfl) (by omega) rfl rfl (fun v h1 hq => ?_)
  obtain ⟨r, rfl, ⟨fs, hM⟩, d2, hd2, hs2⟩ := hq
  refine RX_aload_n dL_law_371 rfl ?_
  refine RX_callV v_X10_step (hs2) dL_law_372 l_RL_39 rfl rfl hM (Nat.le_of_ble_eq_true rfl) (by omega) rfl rfl (fun v h2 hq => ?_)
  obtain ⟨rfl, z2⟩ := hq
  refine RX_icmp_eq (tgt := 1295) dL_law_375 (by decide) (fun c375 => ?_) (fun c375 => ?_)
  · exact kk h2 z2
  · exact absurd rfl c375
theorem L_pack (hN : N ≤ 3072) {i : Nat} (hi : i + 5 < N) (z : LSt E h X) (kk : ∀ h2, LSt E h2 X → WX (XS b N xs E.2.2.2) E (kL nm) 68 mc ms 1295 [some (.ref b), some (.ref X), some (.ref (X + 1830)), some (.int (nI i))] [] h2 (fun v _ => v = some (.int (nI 1)))) : WX (XS b N xs E.2.2.2) E (kL nm) 68 mc ms 380 [some (.ref b), some (.ref X), some (.ref (X + 1830)), some (.int (nI i))] [] h (fun v _ => v = some (.int (nI 1))) := by
  obtain ⟨d, hd, hs⟩ := both_pack z
  obtain ⟨rd, q, ds, im, md, tp, ph, fk, fp, x, y, ok⟩ := z
  refine RX_aload_n dL_law_380 rfl ?_
  refine RX_callV v_X9_pack (hs) dL_law_381 l_RL_40 rfl rfl x.1 (Nat.le_of_ble_eq_true rfl) (by omega) rfl rfl (fun v h1 hq => ?_)
  obtain ⟨r, rfl, ⟨fs, hM⟩, d2, hd2, hs2⟩ := hq
  refine RX_aload_n dL_law_384 rfl ?_
  refine RX_callV v_X10_pack (hs2) dL_law_385 l_RL_43 rfl rfl hM (Nat.le_of_ble_eq_true rfl) (by omega) rfl rfl (fun v h2 hq => ?_)
  obtain ⟨rfl, z2⟩ := hq
  refine RX_icmp_eq (tgt := 1295) dL_law_388 (by decide) (fun c388 => ?_) (fun c388 => ?_)
  · exact kk h2 z2
  · exact absurd rfl c388
theorem L_replace (hN : N ≤ 3072) {i : Nat} (hi : i + 5 < N) (z : LSt E h X) (kk : ∀ h2, LSt E h2 X → WX (XS b N xs E.2.2.2) E (kL nm) 68 mc ms 1295 [some (.ref b), some (.ref X), some (.ref (X + 1830)), some (.int (nI i))] [] h2 (fun v _ => v = some (.int (nI 1)))) : WX (XS b N xs E.2.2.2) E (kL nm) 68 mc ms 393 [some (.ref b), some (.ref X), some (.ref (X + 1830)), some (.int (nI i))] [] h (fun v _ => v = some (.int (nI 1))) := by
  obtain ⟨d, hd, hs⟩ := both_replace z (xs (i + 1)) (xs (i + 2))
  obtain ⟨rd, q, ds, im, md, tp, ph, fk, fp, x, y, ok⟩ := z
  refine RX_aload_n dL_law_393 rfl ?_
  refine RX_aload_n dL_law_394 rfl ?_
  refine RX_iload_n dL_law_395 rfl ?_
  refine RX_iconst (v := nI 1) dL_law_396 (by decide) ?_
  refine RX_iadd_N dL_law_397 ?_
  refine RX_sld dL_law_398 (by omega) (by omega) ?_
  refine RX_aload_n dL_law_399 rfl ?_
  refine RX_iload_n dL_law_400 rfl ?_
  refine RX_iconst (v := nI 2) dL_law_401 (by decide) ?_
  refine RX_iadd_N dL_law_402 ?_
  refine RX_sld dL_law_403 (by omega) (by omega) ?_
  refine RX_callV v_X9_replace (hs) dL_law_404 l_RL_44 rfl rfl x.1 (Nat.le_of_ble_eq_true rfl) (by omega) rfl rfl (fun v h1 hq => ?_)
  obtain ⟨r, rfl, ⟨fs, hM⟩, d2, hd2, hs2⟩ := hq
  refine RX_aload_n dL_law_407 rfl ?_
  refine RX_aload_n dL_law_408 rfl ?_
  refine RX_iload_n dL_law_409 rfl ?_
  refine RX_iconst (v := nI 1) dL_law_410 (by decide) ?_
  refine RX_iadd_N dL_law_411 ?_
  refine RX_sld dL_law_412 (by omega) (by omega) ?_
  refine RX_aload_n dL_law_413 rfl ?_
  refine RX_iload_n dL_law_414 rfl ?_
  refine RX_iconst (v := nI 2) dL_law_415 (by decide) ?_
  refine RX_iadd_N dL_law_416 ?_
  refine RX_sld dL_law_417 (by omega) (by omega) ?_
  refine RX_callV v_X10_replace (hs2) dL_law_418 l_RL_48 rfl rfl hM (Nat.le_of_ble_eq_true rfl) (by omega) rfl rfl (fun v h2 hq => ?_)
  obtain ⟨rfl, z2⟩ := hq
  refine RX_icmp_eq (tgt := 1295) dL_law_421 (by decide) (fun c421 => ?_) (fun c421 => ?_)
  · exact kk h2 z2
  · exact absurd rfl c421
theorem L_drop (hN : N ≤ 3072) {i : Nat} (hi : i + 5 < N) (z : LSt E h X) (kk : ∀ h2, LSt E h2 X → WX (XS b N xs E.2.2.2) E (kL nm) 68 mc ms 1295 [some (.ref b), some (.ref X), some (.ref (X + 1830)), some (.int (nI i))] [] h2 (fun v _ => v = some (.int (nI 1)))) : WX (XS b N xs E.2.2.2) E (kL nm) 68 mc ms 426 [some (.ref b), some (.ref X), some (.ref (X + 1830)), some (.int (nI i))] [] h (fun v _ => v = some (.int (nI 1))) := by
  obtain ⟨d, hd, hs⟩ := both_drop z (xs (i + 1))
  obtain ⟨rd, q, ds, im, md, tp, ph, fk, fp, x, y, ok⟩ := z
  refine RX_aload_n dL_law_426 rfl ?_
  refine RX_aload_n dL_law_427 rfl ?_
  refine RX_iload_n dL_law_428 rfl ?_
  refine RX_iconst (v := nI 1) dL_law_429 (by decide) ?_
  refine RX_iadd_N dL_law_430 ?_
  refine RX_sld dL_law_431 (by omega) (by omega) ?_
  refine RX_callV v_X9_drop (hs) dL_law_432 l_RL_49 rfl rfl x.1 (Nat.le_of_ble_eq_true rfl) (by omega) rfl rfl (fun v h1 hq => ?_)
  obtain ⟨r, rfl, ⟨fs, hM⟩, d2, hd2, hs2⟩ := hq
  refine RX_aload_n dL_law_435 rfl ?_
  refine RX_aload_n dL_law_436 rfl ?_
  refine RX_iload_n dL_law_437 rfl ?_
  refine RX_iconst (v := nI 1) dL_law_438 (by decide) ?_
  refine RX_iadd_N dL_law_439 ?_
  refine RX_sld dL_law_440 (by omega) (by omega) ?_
  refine RX_callV v_X10_drop (hs2) dL_law_441 l_RL_52 rfl rfl hM (Nat.le_of_ble_eq_true rfl) (by omega) rfl rfl (fun v h2 hq => ?_)
  obtain ⟨rfl, z2⟩ := hq
  refine RX_icmp_eq (tgt := 1295) dL_law_444 (by decide) (fun c444 => ?_) (fun c444 => ?_)
  · exact kk h2 z2
  · exact absurd rfl c444
theorem L_trim (hN : N ≤ 3072) {i : Nat} (hi : i + 5 < N) (z : LSt E h X) (kk : ∀ h2, LSt E h2 X → WX (XS b N xs E.2.2.2) E (kL nm) 68 mc ms 1295 [some (.ref b), some (.ref X), some (.ref (X + 1830)), some (.int (nI i))] [] h2 (fun v _ => v = some (.int (nI 1)))) : WX (XS b N xs E.2.2.2) E (kL nm) 68 mc ms 449 [some (.ref b), some (.ref X), some (.ref (X + 1830)), some (.int (nI i))] [] h (fun v _ => v = some (.int (nI 1))) := by
  obtain ⟨d, hd, hs⟩ := both_trim z
  obtain ⟨rd, q, ds, im, md, tp, ph, fk, fp, x, y, ok⟩ := z
  refine RX_aload_n dL_law_449 rfl ?_
  refine RX_callV v_X9_trim (hs) dL_law_450 l_RL_53 rfl rfl x.1 (Nat.le_of_ble_eq_true rfl) (by omega) rfl rfl (fun v h1 hq => ?_)
  obtain ⟨r, rfl, ⟨fs, hM⟩, d2, hd2, hs2⟩ := hq
  refine RX_aload_n dL_law_453 rfl ?_
  refine RX_callV v_X10_trim (hs2) dL_law_454 l_RL_56 rfl rfl hM (Nat.le_of_ble_eq_true rfl) (by omega) rfl rfl (fun v h2 hq => ?_)
  obtain ⟨rfl, z2⟩ := hq
  refine RX_icmp_eq (tgt := 1295) dL_law_457 (by decide) (fun c457 => ?_) (fun c457 => ?_)
  · exact kk h2 z2
  · exact absurd rfl c457
theorem L_unpack (hN : N ≤ 3072) {i : Nat} (hi : i + 5 < N) (z : LSt E h X) (kk : ∀ h2, LSt E h2 X → WX (XS b N xs E.2.2.2) E (kL nm) 68 mc ms 1295 [some (.ref b), some (.ref X), some (.ref (X + 1830)), some (.int (nI i))] [] h2 (fun v _ => v = some (.int (nI 1)))) : WX (XS b N xs E.2.2.2) E (kL nm) 68 mc ms 462 [some (.ref b), some (.ref X), some (.ref (X + 1830)), some (.int (nI i))] [] h (fun v _ => v = some (.int (nI 1))) := by
  obtain ⟨d, hd, hs⟩ := both_unpack z
  obtain ⟨rd, q, ds, im, md, tp, ph, fk, fp, x, y, ok⟩ := z
  refine RX_aload_n dL_law_462 rfl ?_
  refine RX_callV v_X9_unpack (hs) dL_law_463 l_RL_57 rfl rfl x.1 (Nat.le_of_ble_eq_true rfl) (by omega) rfl rfl (fun v h1 hq => ?_)
  obtain ⟨r, rfl, ⟨fs, hM⟩, d2, hd2, hs2⟩ := hq
  refine RX_aload_n dL_law_466 rfl ?_
  refine RX_callV v_X10_unpack (hs2) dL_law_467 l_RL_60 rfl rfl hM (Nat.le_of_ble_eq_true rfl) (by omega) rfl rfl (fun v h2 hq => ?_)
  obtain ⟨rfl, z2⟩ := hq
  refine RX_icmp_eq (tgt := 1295) dL_law_470 (by decide) (fun c470 => ?_) (fun c470 => ?_)
  · exact kk h2 z2
  · exact absurd rfl c470
theorem L_put (hN : N ≤ 3072) {i : Nat} (hi : i + 5 < N) (z : LSt E h X) (kk : ∀ h2, LSt E h2 X → WX (XS b N xs E.2.2.2) E (kL nm) 68 mc ms 1295 [some (.ref b), some (.ref X), some (.ref (X + 1830)), some (.int (nI i))] [] h2 (fun v _ => v = some (.int (nI 1)))) : WX (XS b N xs E.2.2.2) E (kL nm) 68 mc ms 475 [some (.ref b), some (.ref X), some (.ref (X + 1830)), some (.int (nI i))] [] h (fun v _ => v = some (.int (nI 1))) := by
  obtain ⟨d, hd, hs⟩ := both_put z (xs (i + 1)) (xs (i + 2))
  obtain ⟨rd, q, ds, im, md, tp, ph, fk, fp, x, y, ok⟩ := z
  refine RX_aload_n dL_law_475 rfl ?_
  refine RX_aload_n dL_law_476 rfl ?_
  refine RX_iload_n dL_law_477 rfl ?_
  refine RX_iconst (v := nI 1) dL_law_478 (by decide) ?_
  refine RX_iadd_N dL_law_479 ?_
  refine RX_sld dL_law_480 (by omega) (by omega) ?_
  refine RX_aload_n dL_law_481 rfl ?_
  refine RX_iload_n dL_law_482 rfl ?_
  refine RX_iconst (v := nI 2) dL_law_483 (by decide) ?_
  refine RX_iadd_N dL_law_484 ?_
  refine RX_sld dL_law_485 (by omega) (by omega) ?_
  refine RX_callV v_X9_put (hs) dL_law_486 l_RL_61 rfl rfl x.1 (Nat.le_of_ble_eq_true rfl) (by omega) rfl rfl (fun v h1 hq => ?_)
  obtain ⟨r, rfl, ⟨fs, hM⟩, d2, hd2, hs2⟩ := hq
  refine RX_aload_n dL_law_489 rfl ?_
  refine RX_aload_n dL_law_490 rfl ?_
  refine RX_iload_n dL_law_491 rfl ?_
  refine RX_iconst (v := nI 1) dL_law_492 (by decide) ?_
  refine RX_iadd_N dL_law_493 ?_
  refine RX_sld dL_law_494 (by omega) (by omega) ?_
  refine RX_aload_n dL_law_495 rfl ?_
  refine RX_iload_n dL_law_496 rfl ?_
  refine RX_iconst (v := nI 2) dL_law_497 (by decide) ?_
  refine RX_iadd_N dL_law_498 ?_
  refine RX_sld dL_law_499 (by omega) (by omega) ?_
  refine RX_callV v_X10_put (hs2) dL_law_500 l_RL_64 rfl rfl hM (Nat.le_of_ble_eq_true rfl) (by omega) rfl rfl (fun v h2 hq => ?_)
  obtain ⟨rfl, z2⟩ := hq
  refine RX_icmp_eq (tgt := 1295) dL_law_503 (by decide) (fun c503 => ?_) (fun c503 => ?_)
  · exact kk h2 z2
  · exact absurd rfl c503
theorem L_cut (hN : N ≤ 3072) {i : Nat} (hi : i + 5 < N) (z : LSt E h X) (kk : ∀ h2, LSt E h2 X → WX (XS b N xs E.2.2.2) E (kL nm) 68 mc ms 1295 [some (.ref b), some (.ref X), some (.ref (X + 1830)), some (.int (nI i))] [] h2 (fun v _ => v = some (.int (nI 1)))) : WX (XS b N xs E.2.2.2) E (kL nm) 68 mc ms 508 [some (.ref b), some (.ref X), some (.ref (X + 1830)), some (.int (nI i))] [] h (fun v _ => v = some (.int (nI 1))) := by
  obtain ⟨d, hd, hs⟩ := both_cut z (xs (i + 1)) (xs (i + 2))
  obtain ⟨rd, q, ds, im, md, tp, ph, fk, fp, x, y, ok⟩ := z
  refine RX_aload_n dL_law_508 rfl ?_
  refine RX_aload_n dL_law_509 rfl ?_
  refine RX_iload_n dL_law_510 rfl ?_
  refine RX_iconst (v := nI 1) dL_law_511 (by decide) ?_
  refine RX_iadd_N dL_law_512 ?_
  refine RX_sld dL_law_513 (by omega) (by omega) ?_
  refine RX_aload_n dL_law_514 rfl ?_
  refine RX_iload_n dL_law_515 rfl ?_
  refine RX_iconst (v := nI 2) dL_law_516 (by decide) ?_
  refine RX_iadd_N dL_law_517 ?_
  refine RX_sld dL_law_518 (by omega) (by omega) ?_
  refine RX_callV v_X9_cut (hs) dL_law_519 l_RL_65 rfl rfl x.1 (Nat.le_of_ble_eq_true rfl) (by omega) rfl rfl (fun v h1 hq => ?_)
  obtain ⟨r, rfl, ⟨fs, hM⟩, d2, hd2, hs2⟩ := hq
  refine RX_aload_n dL_law_522 rfl ?_
  refine RX_aload_n dL_law_523 rfl ?_
  refine RX_iload_n dL_law_524 rfl ?_
  refine RX_iconst (v := nI 1) dL_law_525 (by decide) ?_
  refine RX_iadd_N dL_law_526 ?_
  refine RX_sld dL_law_527 (by omega) (by omega) ?_
  refine RX_aload_n dL_law_528 rfl ?_
  refine RX_iload_n dL_law_529 rfl ?_
  refine RX_iconst (v := nI 2) dL_law_530 (by decide) ?_
  refine RX_iadd_N dL_law_531 ?_
  refine RX_sld dL_law_532 (by omega) (by omega) ?_
  refine RX_callV v_X10_cut (hs2) dL_law_533 l_RL_68 rfl rfl hM (Nat.le_of_ble_eq_true rfl) (by omega) rfl rfl (fun v h2 hq => ?_)
  obtain ⟨rfl, z2⟩ := hq
  refine RX_icmp_eq (tgt := 1295) dL_law_536 (by decide) (fun c536 => ?_) (fun c536 => ?_)
  · exact kk h2 z2
  · exact absurd rfl c536
theorem L_insert (hN : N ≤ 3072) {i : Nat} (hi : i + 5 < N) (z : LSt E h X) (kk : ∀ h2, LSt E h2 X → WX (XS b N xs E.2.2.2) E (kL nm) 68 mc ms 1295 [some (.ref b), some (.ref X), some (.ref (X + 1830)), some (.int (nI i))] [] h2 (fun v _ => v = some (.int (nI 1)))) : WX (XS b N xs E.2.2.2) E (kL nm) 68 mc ms 541 [some (.ref b), some (.ref X), some (.ref (X + 1830)), some (.int (nI i))] [] h (fun v _ => v = some (.int (nI 1))) := by
  obtain ⟨d, hd, hs⟩ := both_insert z (xs (i + 1)) (xs (i + 2))
  obtain ⟨rd, q, ds, im, md, tp, ph, fk, fp, x, y, ok⟩ := z
  refine RX_aload_n dL_law_541 rfl ?_
  refine RX_aload_n dL_law_542 rfl ?_
  refine RX_iload_n dL_law_543 rfl ?_
  refine RX_iconst (v := nI 1) dL_law_544 (by decide) ?_
  refine RX_iadd_N dL_law_545 ?_
  refine RX_sld dL_law_546 (by omega) (by omega) ?_
  refine RX_aload_n dL_law_547 rfl ?_
  refine RX_iload_n dL_law_548 rfl ?_
  refine RX_iconst (v := nI 2) dL_law_549 (by decide) ?_
  refine RX_iadd_N dL_law_550 ?_
  refine RX_sld dL_law_551 (by omega) (by omega) ?_
  refine RX_callV v_X9_insert (hs) dL_law_552 l_RL_69 rfl rfl x.1 (Nat.le_of_ble_eq_true rfl) (by omega) rfl rfl (fun v h1 hq => ?_)
  obtain ⟨r, rfl, ⟨fs, hM⟩, d2, hd2, hs2⟩ := hq
  refine RX_aload_n dL_law_555 rfl ?_
  refine RX_aload_n dL_law_556 rfl ?_
  refine RX_iload_n dL_law_557 rfl ?_
  refine RX_iconst (v := nI 1) dL_law_558 (by decide) ?_
  refine RX_iadd_N dL_law_559 ?_
  refine RX_sld dL_law_560 (by omega) (by omega) ?_
  refine RX_aload_n dL_law_561 rfl ?_
  refine RX_iload_n dL_law_562 rfl ?_
  refine RX_iconst (v := nI 2) dL_law_563 (by decide) ?_
  refine RX_iadd_N dL_law_564 ?_
  refine RX_sld dL_law_565 (by omega) (by omega) ?_
  refine RX_callV v_X10_insert (hs2) dL_law_566 l_RL_72 rfl rfl hM (Nat.le_of_ble_eq_true rfl) (by omega) rfl rfl (fun v h2 hq => ?_)
  obtain ⟨rfl, z2⟩ := hq
  refine RX_icmp_eq (tgt := 1295) dL_law_569 (by decide) (fun c569 => ?_) (fun c569 => ?_)
  · exact kk h2 z2
  · exact absurd rfl c569
theorem L_sign (hN : N ≤ 3072) {i : Nat} (hi : i + 5 < N) (z : LSt E h X) (kk : ∀ h2, LSt E h2 X → WX (XS b N xs E.2.2.2) E (kL nm) 68 mc ms 1295 [some (.ref b), some (.ref X), some (.ref (X + 1830)), some (.int (nI i))] [] h2 (fun v _ => v = some (.int (nI 1)))) : WX (XS b N xs E.2.2.2) E (kL nm) 68 mc ms 574 [some (.ref b), some (.ref X), some (.ref (X + 1830)), some (.int (nI i))] [] h (fun v _ => v = some (.int (nI 1))) := by
  obtain ⟨d, hd, hs⟩ := both_sign z (xs (i + 1))
  obtain ⟨rd, q, ds, im, md, tp, ph, fk, fp, x, y, ok⟩ := z
  refine RX_aload_n dL_law_574 rfl ?_
  refine RX_aload_n dL_law_575 rfl ?_
  refine RX_iload_n dL_law_576 rfl ?_
  refine RX_iconst (v := nI 1) dL_law_577 (by decide) ?_
  refine RX_iadd_N dL_law_578 ?_
  refine RX_sld dL_law_579 (by omega) (by omega) ?_
  refine RX_callV v_X9_sign (hs) dL_law_580 l_RL_73 rfl rfl x.1 (Nat.le_of_ble_eq_true rfl) (by omega) rfl rfl (fun v h1 hq => ?_)
  obtain ⟨r, rfl, ⟨fs, hM⟩, d2, hd2, hs2⟩ := hq
  refine RX_aload_n dL_law_583 rfl ?_
  refine RX_aload_n dL_law_584 rfl ?_
  refine RX_iload_n dL_law_585 rfl ?_
  refine RX_iconst (v := nI 1) dL_law_586 (by decide) ?_
  refine RX_iadd_N dL_law_587 ?_
  refine RX_sld dL_law_588 (by omega) (by omega) ?_
  refine RX_callV v_X10_sign (hs2) dL_law_589 l_RL_76 rfl rfl hM (Nat.le_of_ble_eq_true rfl) (by omega) rfl rfl (fun v h2 hq => ?_)
  obtain ⟨rfl, z2⟩ := hq
  refine RX_icmp_eq (tgt := 1295) dL_law_592 (by decide) (fun c592 => ?_) (fun c592 => ?_)
  · exact kk h2 z2
  · exact absurd rfl c592
theorem L_rule (hN : N ≤ 3072) {i : Nat} (hi : i + 5 < N) (z : LSt E h X) (kk : ∀ h2, LSt E h2 X → WX (XS b N xs E.2.2.2) E (kL nm) 68 mc ms 1295 [some (.ref b), some (.ref X), some (.ref (X + 1830)), some (.int (nI i))] [] h2 (fun v _ => v = some (.int (nI 1)))) : WX (XS b N xs E.2.2.2) E (kL nm) 68 mc ms 597 [some (.ref b), some (.ref X), some (.ref (X + 1830)), some (.int (nI i))] [] h (fun v _ => v = some (.int (nI 1))) := by
  obtain ⟨d, hd, hs⟩ := both_rule z (xs (i + 1)) (xs (i + 2))
  obtain ⟨rd, q, ds, im, md, tp, ph, fk, fp, x, y, ok⟩ := z
  refine RX_aload_n dL_law_597 rfl ?_
  refine RX_aload_n dL_law_598 rfl ?_
  refine RX_iload_n dL_law_599 rfl ?_
  refine RX_iconst (v := nI 1) dL_law_600 (by decide) ?_
  refine RX_iadd_N dL_law_601 ?_
  refine RX_sld dL_law_602 (by omega) (by omega) ?_
  refine RX_aload_n dL_law_603 rfl ?_
  refine RX_iload_n dL_law_604 rfl ?_
  refine RX_iconst (v := nI 2) dL_law_605 (by decide) ?_
  refine RX_iadd_N dL_law_606 ?_
  refine RX_sld dL_law_607 (by omega) (by omega) ?_
  refine RX_callV v_X9_rule (hs) dL_law_608 l_RL_77 rfl rfl x.1 (Nat.le_of_ble_eq_true rfl) (by omega) rfl rfl (fun v h1 hq => ?_)
  obtain ⟨r, rfl, ⟨fs, hM⟩, d2, hd2, hs2⟩ := hq
  refine RX_aload_n dL_law_611 rfl ?_
  refine RX_aload_n dL_law_612 rfl ?_
  refine RX_iload_n dL_law_613 rfl ?_
  refine RX_iconst (v := nI 1) dL_law_614 (by decide) ?_
  refine RX_iadd_N dL_law_615 ?_
  refine RX_sld dL_law_616 (by omega) (by omega) ?_
  refine RX_aload_n dL_law_617 rfl ?_
  refine RX_iload_n dL_law_618 rfl ?_
  refine RX_iconst (v := nI 2) dL_law_619 (by decide) ?_
  refine RX_iadd_N dL_law_620 ?_
  refine RX_sld dL_law_621 (by omega) (by omega) ?_
  refine RX_callV v_X10_rule (hs2) dL_law_622 l_RL_80 rfl rfl hM (Nat.le_of_ble_eq_true rfl) (by omega) rfl rfl (fun v h2 hq => ?_)
  obtain ⟨rfl, z2⟩ := hq
  refine RX_icmp_eq (tgt := 1295) dL_law_625 (by decide) (fun c625 => ?_) (fun c625 => ?_)
  · exact kk h2 z2
  · exact absurd rfl c625
theorem L_word (hN : N ≤ 3072) {i : Nat} (hi : i + 5 < N) (z : LSt E h X) (kk : ∀ h2, LSt E h2 X → WX (XS b N xs E.2.2.2) E (kL nm) 68 mc ms 1295 [some (.ref b), some (.ref X), some (.ref (X + 1830)), some (.int (nI i))] [] h2 (fun v _ => v = some (.int (nI 1)))) : WX (XS b N xs E.2.2.2) E (kL nm) 68 mc ms 630 [some (.ref b), some (.ref X), some (.ref (X + 1830)), some (.int (nI i))] [] h (fun v _ => v = some (.int (nI 1))) := by
  obtain ⟨d, hd, hs⟩ := both_word z (xs (i + 1)) (xs (i + 2))
  obtain ⟨rd, q, ds, im, md, tp, ph, fk, fp, x, y, ok⟩ := z
  refine RX_aload_n dL_law_630 rfl ?_
  refine RX_aload_n dL_law_631 rfl ?_
  refine RX_iload_n dL_law_632 rfl ?_
  refine RX_iconst (v := nI 1) dL_law_633 (by decide) ?_
  refine RX_iadd_N dL_law_634 ?_
  refine RX_sld dL_law_635 (by omega) (by omega) ?_
  refine RX_aload_n dL_law_636 rfl ?_
  refine RX_iload_n dL_law_637 rfl ?_
  refine RX_iconst (v := nI 2) dL_law_638 (by decide) ?_
  refine RX_iadd_N dL_law_639 ?_
  refine RX_sld dL_law_640 (by omega) (by omega) ?_
  refine RX_callV v_X9_word (hs) dL_law_641 l_RL_81 rfl rfl x.1 (Nat.le_of_ble_eq_true rfl) (by omega) rfl rfl (fun v h1 hq => ?_)
  obtain ⟨r, rfl, ⟨fs, hM⟩, d2, hd2, hs2⟩ := hq
  refine RX_aload_n dL_law_644 rfl ?_
  refine RX_aload_n dL_law_645 rfl ?_
  refine RX_iload_n dL_law_646 rfl ?_
  refine RX_iconst (v := nI 1) dL_law_647 (by decide) ?_
  refine RX_iadd_N dL_law_648 ?_
  refine RX_sld dL_law_649 (by omega) (by omega) ?_
  refine RX_aload_n dL_law_650 rfl ?_
  refine RX_iload_n dL_law_651 rfl ?_
  refine RX_iconst (v := nI 2) dL_law_652 (by decide) ?_
  refine RX_iadd_N dL_law_653 ?_
  refine RX_sld dL_law_654 (by omega) (by omega) ?_
  refine RX_callV v_X10_word (hs2) dL_law_655 l_RL_84 rfl rfl hM (Nat.le_of_ble_eq_true rfl) (by omega) rfl rfl (fun v h2 hq => ?_)
  obtain ⟨rfl, z2⟩ := hq
  refine RX_icmp_eq (tgt := 1295) dL_law_658 (by decide) (fun c658 => ?_) (fun c658 => ?_)
  · exact kk h2 z2
  · exact absurd rfl c658
theorem L_pairs (hN : N ≤ 3072) {i : Nat} (hi : i + 5 < N) (z : LSt E h X) (kk : ∀ h2, LSt E h2 X → WX (XS b N xs E.2.2.2) E (kL nm) 68 mc ms 1295 [some (.ref b), some (.ref X), some (.ref (X + 1830)), some (.int (nI i))] [] h2 (fun v _ => v = some (.int (nI 1)))) : WX (XS b N xs E.2.2.2) E (kL nm) 68 mc ms 663 [some (.ref b), some (.ref X), some (.ref (X + 1830)), some (.int (nI i))] [] h (fun v _ => v = some (.int (nI 1))) := by
  obtain ⟨d, hd, hs⟩ := both_pairs z (xs (i + 1)) (xs (i + 2))
  obtain ⟨rd, q, ds, im, md, tp, ph, fk, fp, x, y, ok⟩ := z
  refine RX_aload_n dL_law_663 rfl ?_
  refine RX_aload_n dL_law_664 rfl ?_
  refine RX_iload_n dL_law_665 rfl ?_
  refine RX_iconst (v := nI 1) dL_law_666 (by decide) ?_
  refine RX_iadd_N dL_law_667 ?_
  refine RX_sld dL_law_668 (by omega) (by omega) ?_
  refine RX_aload_n dL_law_669 rfl ?_
  refine RX_iload_n dL_law_670 rfl ?_
  refine RX_iconst (v := nI 2) dL_law_671 (by decide) ?_
  refine RX_iadd_N dL_law_672 ?_
  refine RX_sld dL_law_673 (by omega) (by omega) ?_
  refine RX_callV v_X9_pairs (hs) dL_law_674 l_RL_85 rfl rfl x.1 (Nat.le_of_ble_eq_true rfl) (by omega) rfl rfl (fun v h1 hq => ?_)
  obtain ⟨r, rfl, ⟨fs, hM⟩, d2, hd2, hs2⟩ := hq
  refine RX_aload_n dL_law_677 rfl ?_
  refine RX_aload_n dL_law_678 rfl ?_
  refine RX_iload_n dL_law_679 rfl ?_
  refine RX_iconst (v := nI 1) dL_law_680 (by decide) ?_
  refine RX_iadd_N dL_law_681 ?_
  refine RX_sld dL_law_682 (by omega) (by omega) ?_
  refine RX_aload_n dL_law_683 rfl ?_
  refine RX_iload_n dL_law_684 rfl ?_
  refine RX_iconst (v := nI 2) dL_law_685 (by decide) ?_
  refine RX_iadd_N dL_law_686 ?_
  refine RX_sld dL_law_687 (by omega) (by omega) ?_
  refine RX_callV v_X10_pairs (hs2) dL_law_688 l_RL_88 rfl rfl hM (Nat.le_of_ble_eq_true rfl) (by omega) rfl rfl (fun v h2 hq => ?_)
  obtain ⟨rfl, z2⟩ := hq
  refine RX_icmp_eq (tgt := 1295) dL_law_691 (by decide) (fun c691 => ?_) (fun c691 => ?_)
  · exact kk h2 z2
  · exact absurd rfl c691
theorem L_pick (hN : N ≤ 3072) {i : Nat} (hi : i + 5 < N) (z : LSt E h X) (kk : ∀ h2, LSt E h2 X → WX (XS b N xs E.2.2.2) E (kL nm) 68 mc ms 1295 [some (.ref b), some (.ref X), some (.ref (X + 1830)), some (.int (nI i))] [] h2 (fun v _ => v = some (.int (nI 1)))) : WX (XS b N xs E.2.2.2) E (kL nm) 68 mc ms 696 [some (.ref b), some (.ref X), some (.ref (X + 1830)), some (.int (nI i))] [] h (fun v _ => v = some (.int (nI 1))) := by
  obtain ⟨d, hd, hs⟩ := both_pick z (xs (i + 1))
  obtain ⟨rd, q, ds, im, md, tp, ph, fk, fp, x, y, ok⟩ := z
  refine RX_aload_n dL_law_696 rfl ?_
  refine RX_aload_n dL_law_697 rfl ?_
  refine RX_iload_n dL_law_698 rfl ?_
  refine RX_iconst (v := nI 1) dL_law_699 (by decide) ?_
  refine RX_iadd_N dL_law_700 ?_
  refine RX_sld dL_law_701 (by omega) (by omega) ?_
  refine RX_callV v_X9_pick (hs) dL_law_702 l_RL_89 rfl rfl x.1 (Nat.le_of_ble_eq_true rfl) (by omega) rfl rfl (fun v h1 hq => ?_)
  obtain ⟨r, rfl, ⟨fs, hM⟩, d2, hd2, hs2⟩ := hq
  refine RX_aload_n dL_law_705 rfl ?_
  refine RX_aload_n dL_law_706 rfl ?_
  refine RX_iload_n dL_law_707 rfl ?_
  refine RX_iconst (v := nI 1) dL_law_708 (by decide) ?_
  refine RX_iadd_N dL_law_709 ?_
  refine RX_sld dL_law_710 (by omega) (by omega) ?_
  refine RX_callV v_X10_pick (hs2) dL_law_711 l_RL_92 rfl rfl hM (Nat.le_of_ble_eq_true rfl) (by omega) rfl rfl (fun v h2 hq => ?_)
  obtain ⟨rfl, z2⟩ := hq
  refine RX_icmp_eq (tgt := 1295) dL_law_714 (by decide) (fun c714 => ?_) (fun c714 => ?_)
  · exact kk h2 z2
  · exact absurd rfl c714
theorem L_at (hN : N ≤ 3072) {i : Nat} (hi : i + 5 < N) (z : LSt E h X) (kk : ∀ h2, LSt E h2 X → WX (XS b N xs E.2.2.2) E (kL nm) 68 mc ms 1295 [some (.ref b), some (.ref X), some (.ref (X + 1830)), some (.int (nI i))] [] h2 (fun v _ => v = some (.int (nI 1)))) : WX (XS b N xs E.2.2.2) E (kL nm) 68 mc ms 719 [some (.ref b), some (.ref X), some (.ref (X + 1830)), some (.int (nI i))] [] h (fun v _ => v = some (.int (nI 1))) := by
  obtain ⟨d, hd, hs⟩ := both_at z (xs (i + 1))
  obtain ⟨rd, q, ds, im, md, tp, ph, fk, fp, x, y, ok⟩ := z
  refine RX_aload_n dL_law_719 rfl ?_
  refine RX_aload_n dL_law_720 rfl ?_
  refine RX_iload_n dL_law_721 rfl ?_
  refine RX_iconst (v := nI 1) dL_law_722 (by decide) ?_
  refine RX_iadd_N dL_law_723 ?_
  refine RX_sld dL_law_724 (by omega) (by omega) ?_
  refine RX_callV v_X9_at (hs) dL_law_725 l_RL_93 rfl rfl x.1 (Nat.le_of_ble_eq_true rfl) (by omega) rfl rfl (fun v h1 hq => ?_)
  obtain ⟨r, rfl, ⟨fs, hM⟩, d2, hd2, hs2⟩ := hq
  refine RX_aload_n dL_law_728 rfl ?_
  refine RX_aload_n dL_law_729 rfl ?_
  refine RX_iload_n dL_law_730 rfl ?_
  refine RX_iconst (v := nI 1) dL_law_731 (by decide) ?_
  refine RX_iadd_N dL_law_732 ?_
  refine RX_sld dL_law_733 (by omega) (by omega) ?_
  refine RX_callV v_X10_at (hs2) dL_law_734 l_RL_96 rfl rfl hM (Nat.le_of_ble_eq_true rfl) (by omega) rfl rfl (fun v h2 hq => ?_)
  obtain ⟨rfl, z2⟩ := hq
  refine RX_icmp_eq (tgt := 1295) dL_law_737 (by decide) (fun c737 => ?_) (fun c737 => ?_)
  · exact kk h2 z2
  · exact absurd rfl c737
theorem L_within (hN : N ≤ 3072) {i : Nat} (hi : i + 5 < N) (z : LSt E h X) (kk : ∀ h2, LSt E h2 X → WX (XS b N xs E.2.2.2) E (kL nm) 68 mc ms 1295 [some (.ref b), some (.ref X), some (.ref (X + 1830)), some (.int (nI i))] [] h2 (fun v _ => v = some (.int (nI 1)))) : WX (XS b N xs E.2.2.2) E (kL nm) 68 mc ms 742 [some (.ref b), some (.ref X), some (.ref (X + 1830)), some (.int (nI i))] [] h (fun v _ => v = some (.int (nI 1))) := by
  obtain ⟨d, hd, hs⟩ := both_within z (xs (i + 1)) (xs (i + 2))
  obtain ⟨rd, q, ds, im, md, tp, ph, fk, fp, x, y, ok⟩ := z
  refine RX_aload_n dL_law_742 rfl ?_
  refine RX_aload_n dL_law_743 rfl ?_
  refine RX_iload_n dL_law_744 rfl ?_
  refine RX_iconst (v := nI 1) dL_law_745 (by decide) ?_
  refine RX_iadd_N dL_law_746 ?_
  refine RX_sld dL_law_747 (by omega) (by omega) ?_
  refine RX_aload_n dL_law_748 rfl ?_
  refine RX_iload_n dL_law_749 rfl ?_
  refine RX_iconst (v := nI 2) dL_law_750 (by decide) ?_
  refine RX_iadd_N dL_law_751 ?_
  refine RX_sld dL_law_752 (by omega) (by omega) ?_
  refine RX_callV v_X9_within (hs) dL_law_753 l_RL_97 rfl rfl x.1 (Nat.le_of_ble_eq_true rfl) (by omega) rfl rfl (fun v h1 hq => ?_)
  obtain ⟨r, rfl, ⟨fs, hM⟩, d2, hd2, hs2⟩ := hq
  refine RX_aload_n dL_law_756 rfl ?_
  refine RX_aload_n dL_law_757 rfl ?_
  refine RX_iload_n dL_law_758 rfl ?_
  refine RX_iconst (v := nI 1) dL_law_759 (by decide) ?_
  refine RX_iadd_N dL_law_760 ?_
  refine RX_sld dL_law_761 (by omega) (by omega) ?_
  refine RX_aload_n dL_law_762 rfl ?_
  refine RX_iload_n dL_law_763 rfl ?_
  refine RX_iconst (v := nI 2) dL_law_764 (by decide) ?_
  refine RX_iadd_N dL_law_765 ?_
  refine RX_sld dL_law_766 (by omega) (by omega) ?_
  refine RX_callV v_X10_within (hs2) dL_law_767 l_RL_100 rfl rfl hM (Nat.le_of_ble_eq_true rfl) (by omega) rfl rfl (fun v h2 hq => ?_)
  obtain ⟨rfl, z2⟩ := hq
  refine RX_icmp_eq (tgt := 1295) dL_law_770 (by decide) (fun c770 => ?_) (fun c770 => ?_)
  · exact kk h2 z2
  · exact absurd rfl c770
theorem L_way (hN : N ≤ 3072) {i : Nat} (hi : i + 5 < N) (z : LSt E h X) (kk : ∀ h2, LSt E h2 X → WX (XS b N xs E.2.2.2) E (kL nm) 68 mc ms 1295 [some (.ref b), some (.ref X), some (.ref (X + 1830)), some (.int (nI i))] [] h2 (fun v _ => v = some (.int (nI 1)))) : WX (XS b N xs E.2.2.2) E (kL nm) 68 mc ms 775 [some (.ref b), some (.ref X), some (.ref (X + 1830)), some (.int (nI i))] [] h (fun v _ => v = some (.int (nI 1))) := by
  obtain ⟨d, hd, hs⟩ := both_way z (xs (i + 1)) (xs (i + 2))
  obtain ⟨rd, q, ds, im, md, tp, ph, fk, fp, x, y, ok⟩ := z
  refine RX_aload_n dL_law_775 rfl ?_
  refine RX_aload_n dL_law_776 rfl ?_
  refine RX_iload_n dL_law_777 rfl ?_
  refine RX_iconst (v := nI 1) dL_law_778 (by decide) ?_
  refine RX_iadd_N dL_law_779 ?_
  refine RX_sld dL_law_780 (by omega) (by omega) ?_
  refine RX_aload_n dL_law_781 rfl ?_
  refine RX_iload_n dL_law_782 rfl ?_
  refine RX_iconst (v := nI 2) dL_law_783 (by decide) ?_
  refine RX_iadd_N dL_law_784 ?_
  refine RX_sld dL_law_785 (by omega) (by omega) ?_
  refine RX_callV v_X9_way (hs) dL_law_786 l_RL_101 rfl rfl x.1 (Nat.le_of_ble_eq_true rfl) (by omega) rfl rfl (fun v h1 hq => ?_)
  obtain ⟨r, rfl, ⟨fs, hM⟩, d2, hd2, hs2⟩ := hq
  refine RX_aload_n dL_law_789 rfl ?_
  refine RX_aload_n dL_law_790 rfl ?_
  refine RX_iload_n dL_law_791 rfl ?_
  refine RX_iconst (v := nI 1) dL_law_792 (by decide) ?_
  refine RX_iadd_N dL_law_793 ?_
  refine RX_sld dL_law_794 (by omega) (by omega) ?_
  refine RX_aload_n dL_law_795 rfl ?_
  refine RX_iload_n dL_law_796 rfl ?_
  refine RX_iconst (v := nI 2) dL_law_797 (by decide) ?_
  refine RX_iadd_N dL_law_798 ?_
  refine RX_sld dL_law_799 (by omega) (by omega) ?_
  refine RX_callV v_X10_way (hs2) dL_law_800 l_RL_104 rfl rfl hM (Nat.le_of_ble_eq_true rfl) (by omega) rfl rfl (fun v h2 hq => ?_)
  obtain ⟨rfl, z2⟩ := hq
  refine RX_icmp_eq (tgt := 1295) dL_law_803 (by decide) (fun c803 => ?_) (fun c803 => ?_)
  · exact kk h2 z2
  · exact absurd rfl c803
theorem L_ahead (hN : N ≤ 3072) {i : Nat} (hi : i + 5 < N) (z : LSt E h X) (kk : ∀ h2, LSt E h2 X → WX (XS b N xs E.2.2.2) E (kL nm) 68 mc ms 1295 [some (.ref b), some (.ref X), some (.ref (X + 1830)), some (.int (nI i))] [] h2 (fun v _ => v = some (.int (nI 1)))) : WX (XS b N xs E.2.2.2) E (kL nm) 68 mc ms 808 [some (.ref b), some (.ref X), some (.ref (X + 1830)), some (.int (nI i))] [] h (fun v _ => v = some (.int (nI 1))) := by
  obtain ⟨d, hd, hs⟩ := both_ahead z (xs (i + 1)) (xs (i + 2))
  obtain ⟨rd, q, ds, im, md, tp, ph, fk, fp, x, y, ok⟩ := z
  refine RX_aload_n dL_law_808 rfl ?_
  refine RX_aload_n dL_law_809 rfl ?_
  refine RX_iload_n dL_law_810 rfl ?_
  refine RX_iconst (v := nI 1) dL_law_811 (by decide) ?_
  refine RX_iadd_N dL_law_812 ?_
  refine RX_sld dL_law_813 (by omega) (by omega) ?_
  refine RX_aload_n dL_law_814 rfl ?_
  refine RX_iload_n dL_law_815 rfl ?_
  refine RX_iconst (v := nI 2) dL_law_816 (by decide) ?_
  refine RX_iadd_N dL_law_817 ?_
  refine RX_sld dL_law_818 (by omega) (by omega) ?_
  refine RX_callV v_X9_ahead (hs) dL_law_819 l_RL_105 rfl rfl x.1 (Nat.le_of_ble_eq_true rfl) (by omega) rfl rfl (fun v h1 hq => ?_)
  obtain ⟨r, rfl, ⟨fs, hM⟩, d2, hd2, hs2⟩ := hq
  refine RX_aload_n dL_law_822 rfl ?_
  refine RX_aload_n dL_law_823 rfl ?_
  refine RX_iload_n dL_law_824 rfl ?_
  refine RX_iconst (v := nI 1) dL_law_825 (by decide) ?_
  refine RX_iadd_N dL_law_826 ?_
  refine RX_sld dL_law_827 (by omega) (by omega) ?_
  refine RX_aload_n dL_law_828 rfl ?_
  refine RX_iload_n dL_law_829 rfl ?_
  refine RX_iconst (v := nI 2) dL_law_830 (by decide) ?_
  refine RX_iadd_N dL_law_831 ?_
  refine RX_sld dL_law_832 (by omega) (by omega) ?_
  refine RX_callV v_X10_ahead (hs2) dL_law_833 l_RL_108 rfl rfl hM (Nat.le_of_ble_eq_true rfl) (by omega) rfl rfl (fun v h2 hq => ?_)
  obtain ⟨rfl, z2⟩ := hq
  refine RX_icmp_eq (tgt := 1295) dL_law_836 (by decide) (fun c836 => ?_) (fun c836 => ?_)
  · exact kk h2 z2
  · exact absurd rfl c836
theorem L_where (hN : N ≤ 3072) {i : Nat} (hi : i + 5 < N) (z : LSt E h X) (kk : ∀ h2, LSt E h2 X → WX (XS b N xs E.2.2.2) E (kL nm) 68 mc ms 1295 [some (.ref b), some (.ref X), some (.ref (X + 1830)), some (.int (nI i))] [] h2 (fun v _ => v = some (.int (nI 1)))) : WX (XS b N xs E.2.2.2) E (kL nm) 68 mc ms 841 [some (.ref b), some (.ref X), some (.ref (X + 1830)), some (.int (nI i))] [] h (fun v _ => v = some (.int (nI 1))) := by
  obtain ⟨d, hd, hs⟩ := both_where z (xs (i + 1)) (xs (i + 2))
  obtain ⟨rd, q, ds, im, md, tp, ph, fk, fp, x, y, ok⟩ := z
  refine RX_aload_n dL_law_841 rfl ?_
  refine RX_aload_n dL_law_842 rfl ?_
  refine RX_iload_n dL_law_843 rfl ?_
  refine RX_iconst (v := nI 1) dL_law_844 (by decide) ?_
  refine RX_iadd_N dL_law_845 ?_
  refine RX_sld dL_law_846 (by omega) (by omega) ?_
  refine RX_aload_n dL_law_847 rfl ?_
  refine RX_iload_n dL_law_848 rfl ?_
  refine RX_iconst (v := nI 2) dL_law_849 (by decide) ?_
  refine RX_iadd_N dL_law_850 ?_
  refine RX_sld dL_law_851 (by omega) (by omega) ?_
  refine RX_callV v_X9_where (hs) dL_law_852 l_RL_109 rfl rfl x.1 (Nat.le_of_ble_eq_true rfl) (by omega) rfl rfl (fun v h1 hq => ?_)
  obtain ⟨r, rfl, ⟨fs, hM⟩, d2, hd2, hs2⟩ := hq
  refine RX_aload_n dL_law_855 rfl ?_
  refine RX_aload_n dL_law_856 rfl ?_
  refine RX_iload_n dL_law_857 rfl ?_
  refine RX_iconst (v := nI 1) dL_law_858 (by decide) ?_
  refine RX_iadd_N dL_law_859 ?_
  refine RX_sld dL_law_860 (by omega) (by omega) ?_
  refine RX_aload_n dL_law_861 rfl ?_
  refine RX_iload_n dL_law_862 rfl ?_
  refine RX_iconst (v := nI 2) dL_law_863 (by decide) ?_
  refine RX_iadd_N dL_law_864 ?_
  refine RX_sld dL_law_865 (by omega) (by omega) ?_
  refine RX_callV v_X10_where (hs2) dL_law_866 l_RL_112 rfl rfl hM (Nat.le_of_ble_eq_true rfl) (by omega) rfl rfl (fun v h2 hq => ?_)
  obtain ⟨rfl, z2⟩ := hq
  refine RX_icmp_eq (tgt := 1295) dL_law_869 (by decide) (fun c869 => ?_) (fun c869 => ?_)
  · exact kk h2 z2
  · exact absurd rfl c869
theorem L_common (hN : N ≤ 3072) {i : Nat} (hi : i + 5 < N) (z : LSt E h X) (kk : ∀ h2, LSt E h2 X → WX (XS b N xs E.2.2.2) E (kL nm) 68 mc ms 1295 [some (.ref b), some (.ref X), some (.ref (X + 1830)), some (.int (nI i))] [] h2 (fun v _ => v = some (.int (nI 1)))) : WX (XS b N xs E.2.2.2) E (kL nm) 68 mc ms 874 [some (.ref b), some (.ref X), some (.ref (X + 1830)), some (.int (nI i))] [] h (fun v _ => v = some (.int (nI 1))) := by
  obtain ⟨d, hd, hs⟩ := both_common z (xs (i + 1)) (xs (i + 2))
  obtain ⟨rd, q, ds, im, md, tp, ph, fk, fp, x, y, ok⟩ := z
  refine RX_aload_n dL_law_874 rfl ?_
  refine RX_aload_n dL_law_875 rfl ?_
  refine RX_iload_n dL_law_876 rfl ?_
  refine RX_iconst (v := nI 1) dL_law_877 (by decide) ?_
  refine RX_iadd_N dL_law_878 ?_
  refine RX_sld dL_law_879 (by omega) (by omega) ?_
  refine RX_aload_n dL_law_880 rfl ?_
  refine RX_iload_n dL_law_881 rfl ?_
  refine RX_iconst (v := nI 2) dL_law_882 (by decide) ?_
  refine RX_iadd_N dL_law_883 ?_
  refine RX_sld dL_law_884 (by omega) (by omega) ?_
  refine RX_callV v_X9_common (hs) dL_law_885 l_RL_113 rfl rfl x.1 (Nat.le_of_ble_eq_true rfl) (by omega) rfl rfl (fun v h1 hq => ?_)
  obtain ⟨r, rfl, ⟨fs, hM⟩, d2, hd2, hs2⟩ := hq
  refine RX_aload_n dL_law_888 rfl ?_
  refine RX_aload_n dL_law_889 rfl ?_
  refine RX_iload_n dL_law_890 rfl ?_
  refine RX_iconst (v := nI 1) dL_law_891 (by decide) ?_
  refine RX_iadd_N dL_law_892 ?_
  refine RX_sld dL_law_893 (by omega) (by omega) ?_
  refine RX_aload_n dL_law_894 rfl ?_
  refine RX_iload_n dL_law_895 rfl ?_
  refine RX_iconst (v := nI 2) dL_law_896 (by decide) ?_
  refine RX_iadd_N dL_law_897 ?_
  refine RX_sld dL_law_898 (by omega) (by omega) ?_
  refine RX_callV v_X10_common (hs2) dL_law_899 l_RL_116 rfl rfl hM (Nat.le_of_ble_eq_true rfl) (by omega) rfl rfl (fun v h2 hq => ?_)
  obtain ⟨rfl, z2⟩ := hq
  refine RX_icmp_eq (tgt := 1295) dL_law_902 (by decide) (fun c902 => ?_) (fun c902 => ?_)
  · exact kk h2 z2
  · exact absurd rfl c902
theorem L_compare (hN : N ≤ 3072) {i : Nat} (hi : i + 5 < N) (z : LSt E h X) (kk : ∀ h2, LSt E h2 X → WX (XS b N xs E.2.2.2) E (kL nm) 68 mc ms 1295 [some (.ref b), some (.ref X), some (.ref (X + 1830)), some (.int (nI i))] [] h2 (fun v _ => v = some (.int (nI 1)))) : WX (XS b N xs E.2.2.2) E (kL nm) 68 mc ms 907 [some (.ref b), some (.ref X), some (.ref (X + 1830)), some (.int (nI i))] [] h (fun v _ => v = some (.int (nI 1))) := by
  obtain ⟨d, hd, hs⟩ := both_compare z (xs (i + 1)) (xs (i + 2))
  obtain ⟨rd, q, ds, im, md, tp, ph, fk, fp, x, y, ok⟩ := z
  refine RX_aload_n dL_law_907 rfl ?_
  refine RX_aload_n dL_law_908 rfl ?_
  refine RX_iload_n dL_law_909 rfl ?_
  refine RX_iconst (v := nI 1) dL_law_910 (by decide) ?_
  refine RX_iadd_N dL_law_911 ?_
  refine RX_sld dL_law_912 (by omega) (by omega) ?_
  refine RX_aload_n dL_law_913 rfl ?_
  refine RX_iload_n dL_law_914 rfl ?_
  refine RX_iconst (v := nI 2) dL_law_915 (by decide) ?_
  refine RX_iadd_N dL_law_916 ?_
  refine RX_sld dL_law_917 (by omega) (by omega) ?_
  refine RX_callV v_X9_compare (hs) dL_law_918 l_RL_117 rfl rfl x.1 (Nat.le_of_ble_eq_true rfl) (by omega) rfl rfl (fun v h1 hq => ?_)
  obtain ⟨r, rfl, ⟨fs, hM⟩, d2, hd2, hs2⟩ := hq
  refine RX_aload_n dL_law_921 rfl ?_
  refine RX_aload_n dL_law_922 rfl ?_
  refine RX_iload_n dL_law_923 rfl ?_
  refine RX_iconst (v := nI 1) dL_law_924 (by decide) ?_
  refine RX_iadd_N dL_law_925 ?_
  refine RX_sld dL_law_926 (by omega) (by omega) ?_
  refine RX_aload_n dL_law_927 rfl ?_
  refine RX_iload_n dL_law_928 rfl ?_
  refine RX_iconst (v := nI 2) dL_law_929 (by decide) ?_
  refine RX_iadd_N dL_law_930 ?_
  refine RX_sld dL_law_931 (by omega) (by omega) ?_
  refine RX_callV v_X10_compare (hs2) dL_law_932 l_RL_120 rfl rfl hM (Nat.le_of_ble_eq_true rfl) (by omega) rfl rfl (fun v h2 hq => ?_)
  obtain ⟨rfl, z2⟩ := hq
  refine RX_icmp_eq (tgt := 1295) dL_law_935 (by decide) (fun c935 => ?_) (fun c935 => ?_)
  · exact kk h2 z2
  · exact absurd rfl c935
theorem L_print (hN : N ≤ 3072) {i : Nat} (hi : i + 5 < N) (z : LSt E h X) (kk : ∀ h2, LSt E h2 X → WX (XS b N xs E.2.2.2) E (kL nm) 68 mc ms 1295 [some (.ref b), some (.ref X), some (.ref (X + 1830)), some (.int (nI i))] [] h2 (fun v _ => v = some (.int (nI 1)))) : WX (XS b N xs E.2.2.2) E (kL nm) 68 mc ms 940 [some (.ref b), some (.ref X), some (.ref (X + 1830)), some (.int (nI i))] [] h (fun v _ => v = some (.int (nI 1))) := by
  obtain ⟨d, hd, hs⟩ := both_print z (xs (i + 1)) (xs (i + 2))
  obtain ⟨rd, q, ds, im, md, tp, ph, fk, fp, x, y, ok⟩ := z
  refine RX_aload_n dL_law_940 rfl ?_
  refine RX_aload_n dL_law_941 rfl ?_
  refine RX_iload_n dL_law_942 rfl ?_
  refine RX_iconst (v := nI 1) dL_law_943 (by decide) ?_
  refine RX_iadd_N dL_law_944 ?_
  refine RX_sld dL_law_945 (by omega) (by omega) ?_
  refine RX_aload_n dL_law_946 rfl ?_
  refine RX_iload_n dL_law_947 rfl ?_
  refine RX_iconst (v := nI 2) dL_law_948 (by decide) ?_
  refine RX_iadd_N dL_law_949 ?_
  refine RX_sld dL_law_950 (by omega) (by omega) ?_
  refine RX_callV v_X9_print (hs) dL_law_951 l_RL_121 rfl rfl x.1 (Nat.le_of_ble_eq_true rfl) (by omega) rfl rfl (fun v h1 hq => ?_)
  obtain ⟨r, rfl, ⟨fs, hM⟩, d2, hd2, hs2⟩ := hq
  refine RX_aload_n dL_law_954 rfl ?_
  refine RX_aload_n dL_law_955 rfl ?_
  refine RX_iload_n dL_law_956 rfl ?_
  refine RX_iconst (v := nI 1) dL_law_957 (by decide) ?_
  refine RX_iadd_N dL_law_958 ?_
  refine RX_sld dL_law_959 (by omega) (by omega) ?_
  refine RX_aload_n dL_law_960 rfl ?_
  refine RX_iload_n dL_law_961 rfl ?_
  refine RX_iconst (v := nI 2) dL_law_962 (by decide) ?_
  refine RX_iadd_N dL_law_963 ?_
  refine RX_sld dL_law_964 (by omega) (by omega) ?_
  refine RX_callV v_X10_print (hs2) dL_law_965 l_RL_124 rfl rfl hM (Nat.le_of_ble_eq_true rfl) (by omega) rfl rfl (fun v h2 hq => ?_)
  obtain ⟨rfl, z2⟩ := hq
  refine RX_icmp_eq (tgt := 1295) dL_law_968 (by decide) (fun c968 => ?_) (fun c968 => ?_)
  · exact kk h2 z2
  · exact absurd rfl c968
theorem L_repeat (hN : N ≤ 3072) {i : Nat} (hi : i + 5 < N) (z : LSt E h X) (kk : ∀ h2, LSt E h2 X → WX (XS b N xs E.2.2.2) E (kL nm) 68 mc ms 1295 [some (.ref b), some (.ref X), some (.ref (X + 1830)), some (.int (nI i))] [] h2 (fun v _ => v = some (.int (nI 1)))) : WX (XS b N xs E.2.2.2) E (kL nm) 68 mc ms 973 [some (.ref b), some (.ref X), some (.ref (X + 1830)), some (.int (nI i))] [] h (fun v _ => v = some (.int (nI 1))) := by
  obtain ⟨d, hd, hs⟩ := both_repeat z
  obtain ⟨rd, q, ds, im, md, tp, ph, fk, fp, x, y, ok⟩ := z
  refine RX_aload_n dL_law_973 rfl ?_
  refine RX_callV v_X9_repeat (hs) dL_law_974 l_RL_125 rfl rfl x.1 (Nat.le_of_ble_eq_true rfl) (by omega) rfl rfl (fun v h1 hq => ?_)
  obtain ⟨r, rfl, ⟨fs, hM⟩, d2, hd2, hs2⟩ := hq
  refine RX_aload_n dL_law_977 rfl ?_
  refine RX_callV v_X10_repeat (hs2) dL_law_978 l_RL_128 rfl rfl hM (Nat.le_of_ble_eq_true rfl) (by omega) rfl rfl (fun v h2 hq => ?_)
  obtain ⟨rfl, z2⟩ := hq
  refine RX_icmp_eq (tgt := 1295) dL_law_981 (by decide) (fun c981 => ?_) (fun c981 => ?_)
  · exact kk h2 z2
  · exact absurd rfl c981
theorem L_repeatAt (hN : N ≤ 3072) {i : Nat} (hi : i + 5 < N) (z : LSt E h X) (kk : ∀ h2, LSt E h2 X → WX (XS b N xs E.2.2.2) E (kL nm) 68 mc ms 1295 [some (.ref b), some (.ref X), some (.ref (X + 1830)), some (.int (nI i))] [] h2 (fun v _ => v = some (.int (nI 1)))) : WX (XS b N xs E.2.2.2) E (kL nm) 68 mc ms 986 [some (.ref b), some (.ref X), some (.ref (X + 1830)), some (.int (nI i))] [] h (fun v _ => v = some (.int (nI 1))) := by
  obtain ⟨d, hd, hs⟩ := both_repeatAt z
  obtain ⟨rd, q, ds, im, md, tp, ph, fk, fp, x, y, ok⟩ := z
  refine RX_aload_n dL_law_986 rfl ?_
  refine RX_callV v_X9_repeatAt (hs) dL_law_987 l_RL_129 rfl rfl x.1 (Nat.le_of_ble_eq_true rfl) (by omega) rfl rfl (fun v h1 hq => ?_)
  obtain ⟨r, rfl, ⟨fs, hM⟩, d2, hd2, hs2⟩ := hq
  refine RX_aload_n dL_law_990 rfl ?_
  refine RX_callV v_X10_repeatAt (hs2) dL_law_991 l_RL_132 rfl rfl hM (Nat.le_of_ble_eq_true rfl) (by omega) rfl rfl (fun v h2 hq => ?_)
  obtain ⟨rfl, z2⟩ := hq
  refine RX_icmp_eq (tgt := 1295) dL_law_994 (by decide) (fun c994 => ?_) (fun c994 => ?_)
  · exact kk h2 z2
  · exact absurd rfl c994
theorem L_hit (hN : N ≤ 3072) {i : Nat} (hi : i + 5 < N) (z : LSt E h X) (kk : ∀ h2, LSt E h2 X → WX (XS b N xs E.2.2.2) E (kL nm) 68 mc ms 1295 [some (.ref b), some (.ref X), some (.ref (X + 1830)), some (.int (nI i))] [] h2 (fun v _ => v = some (.int (nI 1)))) : WX (XS b N xs E.2.2.2) E (kL nm) 68 mc ms 999 [some (.ref b), some (.ref X), some (.ref (X + 1830)), some (.int (nI i))] [] h (fun v _ => v = some (.int (nI 1))) := by
  obtain ⟨d, hd, hs⟩ := both_hit z (xs (i + 1))
  obtain ⟨rd, q, ds, im, md, tp, ph, fk, fp, x, y, ok⟩ := z
  refine RX_aload_n dL_law_999 rfl ?_
  refine RX_aload_n dL_law_1000 rfl ?_
  refine RX_iload_n dL_law_1001 rfl ?_
  refine RX_iconst (v := nI 1) dL_law_1002 (by decide) ?_
  refine RX_iadd_N dL_law_1003 ?_
  refine RX_sld dL_law_1004 (by omega) (by omega) ?_
  refine RX_callV v_X9_hit (hs) dL_law_1005 l_RL_133 rfl rfl x.1 (Nat.le_of_ble_eq_true rfl) (by omega) rfl rfl (fun v h1 hq => ?_)
  obtain ⟨r, rfl, ⟨fs, hM⟩, d2, hd2, hs2⟩ := hq
  refine RX_aload_n dL_law_1008 rfl ?_
  refine RX_aload_n dL_law_1009 rfl ?_
  refine RX_iload_n dL_law_1010 rfl ?_
  refine RX_iconst (v := nI 1) dL_law_1011 (by decide) ?_
  refine RX_iadd_N dL_law_1012 ?_
  refine RX_sld dL_law_1013 (by omega) (by omega) ?_
  refine RX_callV v_X10_hit (hs2) dL_law_1014 l_RL_136 rfl rfl hM (Nat.le_of_ble_eq_true rfl) (by omega) rfl rfl (fun v h2 hq => ?_)
  obtain ⟨rfl, z2⟩ := hq
  refine RX_icmp_eq (tgt := 1295) dL_law_1017 (by decide) (fun c1017 => ?_) (fun c1017 => ?_)
  · exact kk h2 z2
  · exact absurd rfl c1017
theorem L_hits (hN : N ≤ 3072) {i : Nat} (hi : i + 5 < N) (z : LSt E h X) (kk : ∀ h2, LSt E h2 X → WX (XS b N xs E.2.2.2) E (kL nm) 68 mc ms 1295 [some (.ref b), some (.ref X), some (.ref (X + 1830)), some (.int (nI i))] [] h2 (fun v _ => v = some (.int (nI 1)))) : WX (XS b N xs E.2.2.2) E (kL nm) 68 mc ms 1022 [some (.ref b), some (.ref X), some (.ref (X + 1830)), some (.int (nI i))] [] h (fun v _ => v = some (.int (nI 1))) := by
  obtain ⟨d, hd, hs⟩ := both_hits z (xs (i + 1))
  obtain ⟨rd, q, ds, im, md, tp, ph, fk, fp, x, y, ok⟩ := z
  refine RX_aload_n dL_law_1022 rfl ?_
  refine RX_aload_n dL_law_1023 rfl ?_
  refine RX_iload_n dL_law_1024 rfl ?_
  refine RX_iconst (v := nI 1) dL_law_1025 (by decide) ?_
  refine RX_iadd_N dL_law_1026 ?_
  refine RX_sld dL_law_1027 (by omega) (by omega) ?_
  refine RX_callV v_X9_hits (hs) dL_law_1028 l_RL_137 rfl rfl x.1 (Nat.le_of_ble_eq_true rfl) (by omega) rfl rfl (fun v h1 hq => ?_)
  obtain ⟨r, rfl, ⟨fs, hM⟩, d2, hd2, hs2⟩ := hq
  refine RX_aload_n dL_law_1031 rfl ?_
  refine RX_aload_n dL_law_1032 rfl ?_
  refine RX_iload_n dL_law_1033 rfl ?_
  refine RX_iconst (v := nI 1) dL_law_1034 (by decide) ?_
  refine RX_iadd_N dL_law_1035 ?_
  refine RX_sld dL_law_1036 (by omega) (by omega) ?_
  refine RX_callV v_X10_hits (hs2) dL_law_1037 l_RL_140 rfl rfl hM (Nat.le_of_ble_eq_true rfl) (by omega) rfl rfl (fun v h2 hq => ?_)
  obtain ⟨rfl, z2⟩ := hq
  refine RX_icmp_eq (tgt := 1295) dL_law_1040 (by decide) (fun c1040 => ?_) (fun c1040 => ?_)
  · exact kk h2 z2
  · exact absurd rfl c1040
theorem L_gain (hN : N ≤ 3072) {i : Nat} (hi : i + 5 < N) (z : LSt E h X) (kk : ∀ h2, LSt E h2 X → WX (XS b N xs E.2.2.2) E (kL nm) 68 mc ms 1295 [some (.ref b), some (.ref X), some (.ref (X + 1830)), some (.int (nI i))] [] h2 (fun v _ => v = some (.int (nI 1)))) : WX (XS b N xs E.2.2.2) E (kL nm) 68 mc ms 1045 [some (.ref b), some (.ref X), some (.ref (X + 1830)), some (.int (nI i))] [] h (fun v _ => v = some (.int (nI 1))) := by
  obtain ⟨d, hd, hs⟩ := both_gain z (xs (i + 1)) (xs (i + 2))
  obtain ⟨rd, q, ds, im, md, tp, ph, fk, fp, x, y, ok⟩ := z
  refine RX_aload_n dL_law_1045 rfl ?_
  refine RX_aload_n dL_law_1046 rfl ?_
  refine RX_iload_n dL_law_1047 rfl ?_
  refine RX_iconst (v := nI 1) dL_law_1048 (by decide) ?_
  refine RX_iadd_N dL_law_1049 ?_
  refine RX_sld dL_law_1050 (by omega) (by omega) ?_
  refine RX_aload_n dL_law_1051 rfl ?_
  refine RX_iload_n dL_law_1052 rfl ?_
  refine RX_iconst (v := nI 2) dL_law_1053 (by decide) ?_
  refine RX_iadd_N dL_law_1054 ?_
  refine RX_sld dL_law_1055 (by omega) (by omega) ?_
  refine RX_callV v_X9_gain (hs) dL_law_1056 l_RL_141 rfl rfl x.1 (Nat.le_of_ble_eq_true rfl) (by omega) rfl rfl (fun v h1 hq => ?_)
  obtain ⟨r, rfl, ⟨fs, hM⟩, d2, hd2, hs2⟩ := hq
  refine RX_aload_n dL_law_1059 rfl ?_
  refine RX_aload_n dL_law_1060 rfl ?_
  refine RX_iload_n dL_law_1061 rfl ?_
  refine RX_iconst (v := nI 1) dL_law_1062 (by decide) ?_
  refine RX_iadd_N dL_law_1063 ?_
  refine RX_sld dL_law_1064 (by omega) (by omega) ?_
  refine RX_aload_n dL_law_1065 rfl ?_
  refine RX_iload_n dL_law_1066 rfl ?_
  refine RX_iconst (v := nI 2) dL_law_1067 (by decide) ?_
  refine RX_iadd_N dL_law_1068 ?_
  refine RX_sld dL_law_1069 (by omega) (by omega) ?_
  refine RX_callV v_X10_gain (hs2) dL_law_1070 l_RL_144 rfl rfl hM (Nat.le_of_ble_eq_true rfl) (by omega) rfl rfl (fun v h2 hq => ?_)
  obtain ⟨rfl, z2⟩ := hq
  refine RX_icmp_eq (tgt := 1295) dL_law_1073 (by decide) (fun c1073 => ?_) (fun c1073 => ?_)
  · exact kk h2 z2
  · exact absurd rfl c1073
theorem L_best (hN : N ≤ 3072) {i : Nat} (hi : i + 5 < N) (z : LSt E h X) (kk : ∀ h2, LSt E h2 X → WX (XS b N xs E.2.2.2) E (kL nm) 68 mc ms 1295 [some (.ref b), some (.ref X), some (.ref (X + 1830)), some (.int (nI i))] [] h2 (fun v _ => v = some (.int (nI 1)))) : WX (XS b N xs E.2.2.2) E (kL nm) 68 mc ms 1078 [some (.ref b), some (.ref X), some (.ref (X + 1830)), some (.int (nI i))] [] h (fun v _ => v = some (.int (nI 1))) := by
  obtain ⟨d, hd, hs⟩ := both_best z (xs (i + 1))
  obtain ⟨rd, q, ds, im, md, tp, ph, fk, fp, x, y, ok⟩ := z
  refine RX_aload_n dL_law_1078 rfl ?_
  refine RX_aload_n dL_law_1079 rfl ?_
  refine RX_iload_n dL_law_1080 rfl ?_
  refine RX_iconst (v := nI 1) dL_law_1081 (by decide) ?_
  refine RX_iadd_N dL_law_1082 ?_
  refine RX_sld dL_law_1083 (by omega) (by omega) ?_
  refine RX_callV v_X9_best (hs) dL_law_1084 l_RL_145 rfl rfl x.1 (Nat.le_of_ble_eq_true rfl) (by omega) rfl rfl (fun v h1 hq => ?_)
  obtain ⟨r, rfl, ⟨fs, hM⟩, d2, hd2, hs2⟩ := hq
  refine RX_aload_n dL_law_1087 rfl ?_
  refine RX_aload_n dL_law_1088 rfl ?_
  refine RX_iload_n dL_law_1089 rfl ?_
  refine RX_iconst (v := nI 1) dL_law_1090 (by decide) ?_
  refine RX_iadd_N dL_law_1091 ?_
  refine RX_sld dL_law_1092 (by omega) (by omega) ?_
  refine RX_callV v_X10_best (hs2) dL_law_1093 l_RL_148 rfl rfl hM (Nat.le_of_ble_eq_true rfl) (by omega) rfl rfl (fun v h2 hq => ?_)
  obtain ⟨rfl, z2⟩ := hq
  refine RX_icmp_eq (tgt := 1295) dL_law_1096 (by decide) (fun c1096 => ?_) (fun c1096 => ?_)
  · exact kk h2 z2
  · exact absurd rfl c1096
theorem L_bits (hN : N ≤ 3072) {i : Nat} (hi : i + 5 < N) (z : LSt E h X) (kk : ∀ h2, LSt E h2 X → WX (XS b N xs E.2.2.2) E (kL nm) 68 mc ms 1295 [some (.ref b), some (.ref X), some (.ref (X + 1830)), some (.int (nI i))] [] h2 (fun v _ => v = some (.int (nI 1)))) : WX (XS b N xs E.2.2.2) E (kL nm) 68 mc ms 1101 [some (.ref b), some (.ref X), some (.ref (X + 1830)), some (.int (nI i))] [] h (fun v _ => v = some (.int (nI 1))) := by
  obtain ⟨d, hd, hs⟩ := both_bits z (xs (i + 1))
  obtain ⟨rd, q, ds, im, md, tp, ph, fk, fp, x, y, ok⟩ := z
  refine RX_aload_n dL_law_1101 rfl ?_
  refine RX_aload_n dL_law_1102 rfl ?_
  refine RX_iload_n dL_law_1103 rfl ?_
  refine RX_iconst (v := nI 1) dL_law_1104 (by decide) ?_
  refine RX_iadd_N dL_law_1105 ?_
  refine RX_sld dL_law_1106 (by omega) (by omega) ?_
  refine RX_callV v_X9_bits (hs) dL_law_1107 l_RL_149 rfl rfl x.1 (Nat.le_of_ble_eq_true rfl) (by omega) rfl rfl (fun v h1 hq => ?_)
  obtain ⟨r, rfl, ⟨fs, hM⟩, d2, hd2, hs2⟩ := hq
  refine RX_aload_n dL_law_1110 rfl ?_
  refine RX_aload_n dL_law_1111 rfl ?_
  refine RX_iload_n dL_law_1112 rfl ?_
  refine RX_iconst (v := nI 1) dL_law_1113 (by decide) ?_
  refine RX_iadd_N dL_law_1114 ?_
  refine RX_sld dL_law_1115 (by omega) (by omega) ?_
  refine RX_callV v_X10_bits (hs2) dL_law_1116 l_RL_152 rfl rfl hM (Nat.le_of_ble_eq_true rfl) (by omega) rfl rfl (fun v h2 hq => ?_)
  obtain ⟨rfl, z2⟩ := hq
  refine RX_icmp_eq (tgt := 1295) dL_law_1119 (by decide) (fun c1119 => ?_) (fun c1119 => ?_)
  · exact kk h2 z2
  · exact absurd rfl c1119
theorem L_form (hN : N ≤ 3072) {i : Nat} (hi : i + 5 < N) (z : LSt E h X) (kk : ∀ h2, LSt E h2 X → WX (XS b N xs E.2.2.2) E (kL nm) 68 mc ms 1295 [some (.ref b), some (.ref X), some (.ref (X + 1830)), some (.int (nI i))] [] h2 (fun v _ => v = some (.int (nI 1)))) : WX (XS b N xs E.2.2.2) E (kL nm) 68 mc ms 1124 [some (.ref b), some (.ref X), some (.ref (X + 1830)), some (.int (nI i))] [] h (fun v _ => v = some (.int (nI 1))) := by
  obtain ⟨d, hd, hs⟩ := both_form z (xs (i + 1))
  obtain ⟨rd, q, ds, im, md, tp, ph, fk, fp, x, y, ok⟩ := z
  refine RX_aload_n dL_law_1124 rfl ?_
  refine RX_aload_n dL_law_1125 rfl ?_
  refine RX_iload_n dL_law_1126 rfl ?_
  refine RX_iconst (v := nI 1) dL_law_1127 (by decide) ?_
  refine RX_iadd_N dL_law_1128 ?_
  refine RX_sld dL_law_1129 (by omega) (by omega) ?_
  refine RX_callV v_X9_form (hs) dL_law_1130 l_RL_153 rfl rfl x.1 (Nat.le_of_ble_eq_true rfl) (by omega) rfl rfl (fun v h1 hq => ?_)
  obtain ⟨r, rfl, ⟨fs, hM⟩, d2, hd2, hs2⟩ := hq
  refine RX_aload_n dL_law_1133 rfl ?_
  refine RX_aload_n dL_law_1134 rfl ?_
  refine RX_iload_n dL_law_1135 rfl ?_
  refine RX_iconst (v := nI 1) dL_law_1136 (by decide) ?_
  refine RX_iadd_N dL_law_1137 ?_
  refine RX_sld dL_law_1138 (by omega) (by omega) ?_
  refine RX_callV v_X10_form (hs2) dL_law_1139 l_RL_156 rfl rfl hM (Nat.le_of_ble_eq_true rfl) (by omega) rfl rfl (fun v h2 hq => ?_)
  obtain ⟨rfl, z2⟩ := hq
  refine RX_icmp_eq (tgt := 1295) dL_law_1142 (by decide) (fun c1142 => ?_) (fun c1142 => ?_)
  · exact kk h2 z2
  · exact absurd rfl c1142
theorem L_code (hN : N ≤ 3072) {i : Nat} (hi : i + 5 < N) (z : LSt E h X) (kk : ∀ h2, LSt E h2 X → WX (XS b N xs E.2.2.2) E (kL nm) 68 mc ms 1295 [some (.ref b), some (.ref X), some (.ref (X + 1830)), some (.int (nI i))] [] h2 (fun v _ => v = some (.int (nI 1)))) : WX (XS b N xs E.2.2.2) E (kL nm) 68 mc ms 1147 [some (.ref b), some (.ref X), some (.ref (X + 1830)), some (.int (nI i))] [] h (fun v _ => v = some (.int (nI 1))) := by
  obtain ⟨d, hd, hs⟩ := both_code z (xs (i + 1)) (xs (i + 2))
  obtain ⟨rd, q, ds, im, md, tp, ph, fk, fp, x, y, ok⟩ := z
  refine RX_aload_n dL_law_1147 rfl ?_
  refine RX_aload_n dL_law_1148 rfl ?_
  refine RX_iload_n dL_law_1149 rfl ?_
  refine RX_iconst (v := nI 1) dL_law_1150 (by decide) ?_
  refine RX_iadd_N dL_law_1151 ?_
  refine RX_sld dL_law_1152 (by omega) (by omega) ?_
  refine RX_aload_n dL_law_1153 rfl ?_
  refine RX_iload_n dL_law_1154 rfl ?_
  refine RX_iconst (v := nI 2) dL_law_1155 (by decide) ?_
  refine RX_iadd_N dL_law_1156 ?_
  refine RX_sld dL_law_1157 (by omega) (by omega) ?_
  refine RX_callV v_X9_code (hs) dL_law_1158 l_RL_157 rfl rfl x.1 (Nat.le_of_ble_eq_true rfl) (by omega) rfl rfl (fun v h1 hq => ?_)
  obtain ⟨r, rfl, ⟨fs, hM⟩, d2, hd2, hs2⟩ := hq
  refine RX_aload_n dL_law_1161 rfl ?_
  refine RX_aload_n dL_law_1162 rfl ?_
  refine RX_iload_n dL_law_1163 rfl ?_
  refine RX_iconst (v := nI 1) dL_law_1164 (by decide) ?_
  refine RX_iadd_N dL_law_1165 ?_
  refine RX_sld dL_law_1166 (by omega) (by omega) ?_
  refine RX_aload_n dL_law_1167 rfl ?_
  refine RX_iload_n dL_law_1168 rfl ?_
  refine RX_iconst (v := nI 2) dL_law_1169 (by decide) ?_
  refine RX_iadd_N dL_law_1170 ?_
  refine RX_sld dL_law_1171 (by omega) (by omega) ?_
  refine RX_callV v_X10_code (hs2) dL_law_1172 l_RL_160 rfl rfl hM (Nat.le_of_ble_eq_true rfl) (by omega) rfl rfl (fun v h2 hq => ?_)
  obtain ⟨rfl, z2⟩ := hq
  refine RX_icmp_eq (tgt := 1295) dL_law_1175 (by decide) (fun c1175 => ?_) (fun c1175 => ?_)
  · exact kk h2 z2
  · exact absurd rfl c1175
theorem L_coded (hN : N ≤ 3072) {i : Nat} (hi : i + 5 < N) (z : LSt E h X) (kk : ∀ h2, LSt E h2 X → WX (XS b N xs E.2.2.2) E (kL nm) 68 mc ms 1295 [some (.ref b), some (.ref X), some (.ref (X + 1830)), some (.int (nI i))] [] h2 (fun v _ => v = some (.int (nI 1)))) : WX (XS b N xs E.2.2.2) E (kL nm) 68 mc ms 1180 [some (.ref b), some (.ref X), some (.ref (X + 1830)), some (.int (nI i))] [] h (fun v _ => v = some (.int (nI 1))) := by
  obtain ⟨d, hd, hs⟩ := both_coded z (xs (i + 1))
  obtain ⟨rd, q, ds, im, md, tp, ph, fk, fp, x, y, ok⟩ := z
  refine RX_aload_n dL_law_1180 rfl ?_
  refine RX_aload_n dL_law_1181 rfl ?_
  refine RX_iload_n dL_law_1182 rfl ?_
  refine RX_iconst (v := nI 1) dL_law_1183 (by decide) ?_
  refine RX_iadd_N dL_law_1184 ?_
  refine RX_sld dL_law_1185 (by omega) (by omega) ?_
  refine RX_callV v_X9_coded (hs) dL_law_1186 l_RL_161 rfl rfl x.1 (Nat.le_of_ble_eq_true rfl) (by omega) rfl rfl (fun v h1 hq => ?_)
  obtain ⟨r, rfl, ⟨fs, hM⟩, d2, hd2, hs2⟩ := hq
  refine RX_aload_n dL_law_1189 rfl ?_
  refine RX_aload_n dL_law_1190 rfl ?_
  refine RX_iload_n dL_law_1191 rfl ?_
  refine RX_iconst (v := nI 1) dL_law_1192 (by decide) ?_
  refine RX_iadd_N dL_law_1193 ?_
  refine RX_sld dL_law_1194 (by omega) (by omega) ?_
  refine RX_callV v_X10_coded (hs2) dL_law_1195 l_RL_164 rfl rfl hM (Nat.le_of_ble_eq_true rfl) (by omega) rfl rfl (fun v h2 hq => ?_)
  obtain ⟨rfl, z2⟩ := hq
  refine RX_icmp_eq (tgt := 1295) dL_law_1198 (by decide) (fun c1198 => ?_) (fun c1198 => ?_)
  · exact kk h2 z2
  · exact absurd rfl c1198
theorem L_undo (hN : N ≤ 3072) {i : Nat} (hi : i + 5 < N) (z : LSt E h X) (kk : ∀ h2, LSt E h2 X → WX (XS b N xs E.2.2.2) E (kL nm) 68 mc ms 1295 [some (.ref b), some (.ref X), some (.ref (X + 1830)), some (.int (nI i))] [] h2 (fun v _ => v = some (.int (nI 1)))) : WX (XS b N xs E.2.2.2) E (kL nm) 68 mc ms 1203 [some (.ref b), some (.ref X), some (.ref (X + 1830)), some (.int (nI i))] [] h (fun v _ => v = some (.int (nI 1))) := by
  obtain ⟨d, hd, hs⟩ := both_undo z (xs (i + 1))
  obtain ⟨rd, q, ds, im, md, tp, ph, fk, fp, x, y, ok⟩ := z
  refine RX_aload_n dL_law_1203 rfl ?_
  refine RX_aload_n dL_law_1204 rfl ?_
  refine RX_iload_n dL_law_1205 rfl ?_
  refine RX_iconst (v := nI 1) dL_law_1206 (by decide) ?_
  refine RX_iadd_N dL_law_1207 ?_
  refine RX_sld dL_law_1208 (by omega) (by omega) ?_
  refine RX_callV v_X9_undo (hs) dL_law_1209 l_RL_165 rfl rfl x.1 (Nat.le_of_ble_eq_true rfl) (by omega) rfl rfl (fun v h1 hq => ?_)
  obtain ⟨r, rfl, ⟨fs, hM⟩, d2, hd2, hs2⟩ := hq
  refine RX_aload_n dL_law_1212 rfl ?_
  refine RX_aload_n dL_law_1213 rfl ?_
  refine RX_iload_n dL_law_1214 rfl ?_
  refine RX_iconst (v := nI 1) dL_law_1215 (by decide) ?_
  refine RX_iadd_N dL_law_1216 ?_
  refine RX_sld dL_law_1217 (by omega) (by omega) ?_
  refine RX_callV v_X10_undo (hs2) dL_law_1218 l_RL_168 rfl rfl hM (Nat.le_of_ble_eq_true rfl) (by omega) rfl rfl (fun v h2 hq => ?_)
  obtain ⟨rfl, z2⟩ := hq
  refine RX_icmp_eq (tgt := 1295) dL_law_1221 (by decide) (fun c1221 => ?_) (fun c1221 => ?_)
  · exact kk h2 z2
  · exact absurd rfl c1221
theorem L_image (hN : N ≤ 3072) {i : Nat} (hi : i + 5 < N) (z : LSt E h X) (kk : ∀ h2, LSt E h2 X → WX (XS b N xs E.2.2.2) E (kL nm) 68 mc ms 1295 [some (.ref b), some (.ref X), some (.ref (X + 1830)), some (.int (nI i))] [] h2 (fun v _ => v = some (.int (nI 1)))) : WX (XS b N xs E.2.2.2) E (kL nm) 68 mc ms 1226 [some (.ref b), some (.ref X), some (.ref (X + 1830)), some (.int (nI i))] [] h (fun v _ => v = some (.int (nI 1))) := by
  obtain ⟨d, hd, hs⟩ := both_image z (xs (i + 1))
  obtain ⟨rd, q, ds, im, md, tp, ph, fk, fp, x, y, ok⟩ := z
  refine RX_aload_n dL_law_1226 rfl ?_
  refine RX_aload_n dL_law_1227 rfl ?_
  refine RX_iload_n dL_law_1228 rfl ?_
  refine RX_iconst (v := nI 1) dL_law_1229 (by decide) ?_
  refine RX_iadd_N dL_law_1230 ?_
  refine RX_sld dL_law_1231 (by omega) (by omega) ?_
  refine RX_callV v_X9_image (hs) dL_law_1232 l_RL_169 rfl rfl x.1 (Nat.le_of_ble_eq_true rfl) (by omega) rfl rfl (fun v h1 hq => ?_)
  obtain ⟨r, rfl, ⟨fs, hM⟩, d2, hd2, hs2⟩ := hq
  refine RX_aload_n dL_law_1235 rfl ?_
  refine RX_aload_n dL_law_1236 rfl ?_
  refine RX_iload_n dL_law_1237 rfl ?_
  refine RX_iconst (v := nI 1) dL_law_1238 (by decide) ?_
  refine RX_iadd_N dL_law_1239 ?_
  refine RX_sld dL_law_1240 (by omega) (by omega) ?_
  refine RX_callV v_X10_image (hs2) dL_law_1241 l_RL_172 rfl rfl hM (Nat.le_of_ble_eq_true rfl) (by omega) rfl rfl (fun v h2 hq => ?_)
  obtain ⟨rfl, z2⟩ := hq
  refine RX_icmp_eq (tgt := 1295) dL_law_1244 (by decide) (fun c1244 => ?_) (fun c1244 => ?_)
  · exact kk h2 z2
  · exact absurd rfl c1244
theorem L_restore (hN : N ≤ 3072) {i : Nat} (hi : i + 5 < N) (z : LSt E h X) (kk : ∀ h2, LSt E h2 X → WX (XS b N xs E.2.2.2) E (kL nm) 68 mc ms 1295 [some (.ref b), some (.ref X), some (.ref (X + 1830)), some (.int (nI i))] [] h2 (fun v _ => v = some (.int (nI 1)))) : WX (XS b N xs E.2.2.2) E (kL nm) 68 mc ms 1249 [some (.ref b), some (.ref X), some (.ref (X + 1830)), some (.int (nI i))] [] h (fun v _ => v = some (.int (nI 1))) := by
  obtain ⟨d, hd, hs⟩ := both_restore z (xs (i + 1))
  obtain ⟨rd, q, ds, im, md, tp, ph, fk, fp, x, y, ok⟩ := z
  refine RX_aload_n dL_law_1249 rfl ?_
  refine RX_aload_n dL_law_1250 rfl ?_
  refine RX_iload_n dL_law_1251 rfl ?_
  refine RX_iconst (v := nI 1) dL_law_1252 (by decide) ?_
  refine RX_iadd_N dL_law_1253 ?_
  refine RX_sld dL_law_1254 (by omega) (by omega) ?_
  refine RX_callV v_X9_restore (hs) dL_law_1255 l_RL_173 rfl rfl x.1 (Nat.le_of_ble_eq_true rfl) (by omega) rfl rfl (fun v h1 hq => ?_)
  obtain ⟨r, rfl, ⟨fs, hM⟩, d2, hd2, hs2⟩ := hq
  refine RX_aload_n dL_law_1258 rfl ?_
  refine RX_aload_n dL_law_1259 rfl ?_
  refine RX_iload_n dL_law_1260 rfl ?_
  refine RX_iconst (v := nI 1) dL_law_1261 (by decide) ?_
  refine RX_iadd_N dL_law_1262 ?_
  refine RX_sld dL_law_1263 (by omega) (by omega) ?_
  refine RX_callV v_X10_restore (hs2) dL_law_1264 l_RL_176 rfl rfl hM (Nat.le_of_ble_eq_true rfl) (by omega) rfl rfl (fun v h2 hq => ?_)
  obtain ⟨rfl, z2⟩ := hq
  refine RX_icmp_eq (tgt := 1295) dL_law_1267 (by decide) (fun c1267 => ?_) (fun c1267 => ?_)
  · exact kk h2 z2
  · exact absurd rfl c1267
theorem L_count (hN : N ≤ 3072) {i : Nat} (hi : i + 5 < N) (z : LSt E h X) (kk : ∀ h2, LSt E h2 X → WX (XS b N xs E.2.2.2) E (kL nm) 68 mc ms 1295 [some (.ref b), some (.ref X), some (.ref (X + 1830)), some (.int (nI i))] [] h2 (fun v _ => v = some (.int (nI 1)))) : WX (XS b N xs E.2.2.2) E (kL nm) 68 mc ms 1272 [some (.ref b), some (.ref X), some (.ref (X + 1830)), some (.int (nI i))] [] h (fun v _ => v = some (.int (nI 1))) := by
  obtain ⟨d, hd, hs⟩ := both_count z (xs (i + 1))
  obtain ⟨rd, q, ds, im, md, tp, ph, fk, fp, x, y, ok⟩ := z
  refine RX_aload_n dL_law_1272 rfl ?_
  refine RX_aload_n dL_law_1273 rfl ?_
  refine RX_iload_n dL_law_1274 rfl ?_
  refine RX_iconst (v := nI 1) dL_law_1275 (by decide) ?_
  refine RX_iadd_N dL_law_1276 ?_
  refine RX_sld dL_law_1277 (by omega) (by omega) ?_
  refine RX_callV v_X9_count (hs) dL_law_1278 l_RL_177 rfl rfl x.1 (Nat.le_of_ble_eq_true rfl) (by omega) rfl rfl (fun v h1 hq => ?_)
  obtain ⟨r, rfl, ⟨fs, hM⟩, d2, hd2, hs2⟩ := hq
  refine RX_aload_n dL_law_1281 rfl ?_
  refine RX_aload_n dL_law_1282 rfl ?_
  refine RX_iload_n dL_law_1283 rfl ?_
  refine RX_iconst (v := nI 1) dL_law_1284 (by decide) ?_
  refine RX_iadd_N dL_law_1285 ?_
  refine RX_sld dL_law_1286 (by omega) (by omega) ?_
  refine RX_callV v_X10_count (hs2) dL_law_1287 l_RL_180 rfl rfl hM (Nat.le_of_ble_eq_true rfl) (by omega) rfl rfl (fun v h2 hq => ?_)
  obtain ⟨rfl, z2⟩ := hq
  refine RX_icmp_eq (tgt := 1295) dL_law_1290 (by decide) (fun c1290 => ?_) (fun c1290 => ?_)
  · exact kk h2 z2
  · exact absurd rfl c1290
theorem L_loop (hN : N ≤ 3072) : ∀ m i h, N ≤ i + m → i ≤ 4000 → LSt E h X → WX (XS b N xs E.2.2.2) E (kL nm) 68 mc ms 18 [some (.ref b), some (.ref X), some (.ref (X + 1830)), some (.int (nI i))] [] h (fun v _ => v = some (.int (nI 1))) := by
  intro m
  induction m with
  | zero =>
    intro i h hm hi z
    refine RX_iload_n dL_law_18 rfl ?_
    refine RX_aload_n dL_law_19 rfl ?_
    refine RX_slen dL_law_20 ?_
    refine RX_bipush (v := nI 6) dL_law_21 (by decide) ?_
    refine RX_isub dL_law_23 ?_
    refine RX_icmp_gt (tgt := 1301) dL_law_24 (by decide) (fun c24 => ?_) (fun c24 => ?_)
    · skip
      refine RX_iconst (v := nI 1) dL_law_1301 (by decide) ?_
      refine RX_ireturn dL_law_1302 rfl (by rfl) ?_
      rfl
    · exact absurd ((lt6 hN (by omega)).mpr (by omega)) c24
  | succ m ih =>
    intro i h hm hi z
    refine RX_iload_n dL_law_18 rfl ?_
    refine RX_aload_n dL_law_19 rfl ?_
    refine RX_slen dL_law_20 ?_
    refine RX_bipush (v := nI 6) dL_law_21 (by decide) ?_
    refine RX_isub dL_law_23 ?_
    refine RX_icmp_gt (tgt := 1301) dL_law_24 (by decide) (fun c24 => ?_) (fun c24 => ?_)
    · skip
      refine RX_iconst (v := nI 1) dL_law_1301 (by decide) ?_
      refine RX_ireturn dL_law_1302 rfl (by rfl) ?_
      rfl
    · have hi5 : i + 5 < N := by
        by_cases y : N < i + 6
        · exact absurd ((lt6 hN (by omega)).mpr y) c24
        · omega
      have kk : ∀ h2, LSt E h2 X → WX (XS b N xs E.2.2.2) E (kL nm) 68 mc ms 1295 [some (.ref b), some (.ref X), some (.ref (X + 1830)), some (.int (nI i))] [] h2 (fun v _ => v = some (.int (nI 1))) := by
        intro h2 z2
        refine RX_iinc3 dL_law_1295 (Nat.le_of_ble_eq_true rfl) (nI_inc _ 6) ?_
        refine RX_goto (tgt := 18) dL_law_1298 (by decide) ?_
        exact ih (i + 6) h2 (by omega) (by omega) z2
      refine RX_aload_n dL_law_27 rfl ?_
      refine RX_iload_n dL_law_28 rfl ?_
      refine RX_sld dL_law_29 (by omega) (by omega) ?_
      refine RX_bipush (v := nI 63) dL_law_30 (by decide) ?_
      refine RX_iand dL_law_32 ?_
      generalize xs i &&& nI 63 = w
      by_cases hw : ¬ w.toInt < 0 ∧ ¬ ((40 : Nat) : Int) < w.toInt
      · obtain ⟨k, hk, rfl⟩ := I32_small hw.1 hw.2
        have cs : k = 0 ∨ k = 1 ∨ k = 2 ∨ k = 3 ∨ k = 4 ∨ k = 5 ∨ k = 6 ∨ k = 7 ∨ k = 8 ∨ k = 9 ∨ k = 10 ∨ k = 11 ∨ k = 12 ∨ k = 13 ∨ k = 14 ∨ k = 15 ∨ k = 16 ∨ k = 17 ∨ k = 18 ∨ k = 19 ∨ k = 20 ∨ k = 21 ∨ k = 22 ∨ k = 23 ∨ k = 24 ∨ k = 25 ∨ k = 26 ∨ k = 27 ∨ k = 28 ∨ k = 29 ∨ k = 30 ∨ k = 31 ∨ k = 32 ∨ k = 33 ∨ k = 34 ∨ k = 35 ∨ k = 36 ∨ k = 37 ∨ k = 38 ∨ k = 39 ∨ k = 40 := by omega
        rcases cs with rfl | rfl | rfl | rfl | rfl | rfl | rfl | rfl | rfl | rfl | rfl | rfl | rfl | rfl | rfl | rfl | rfl | rfl | rfl | rfl | rfl | rfl | rfl | rfl | rfl | rfl | rfl | rfl | rfl | rfl | rfl | rfl | rfl | rfl | rfl | rfl | rfl | rfl | rfl | rfl | rfl
        · exact RX_tableIn (off := 179) (tgt := 212) dL_law_33 (by decide) (by decide) rfl (by decide) (L_feed hN hi5 z kk)
        · exact RX_tableIn (off := 242) (tgt := 275) dL_law_33 (by decide) (by decide) rfl (by decide) (L_text hN hi5 z kk)
        · exact RX_tableIn (off := 265) (tgt := 298) dL_law_33 (by decide) (by decide) rfl (by decide) (L_phrase hN hi5 z kk)
        · exact RX_tableIn (off := 288) (tgt := 321) dL_law_33 (by decide) (by decide) rfl (by decide) (L_load hN hi5 z kk)
        · exact RX_tableIn (off := 311) (tgt := 344) dL_law_33 (by decide) (by decide) rfl (by decide) (L_fault hN hi5 z kk)
        · exact RX_tableIn (off := 334) (tgt := 367) dL_law_33 (by decide) (by decide) rfl (by decide) (L_step hN hi5 z kk)
        · exact RX_tableIn (off := 347) (tgt := 380) dL_law_33 (by decide) (by decide) rfl (by decide) (L_pack hN hi5 z kk)
        · exact RX_tableIn (off := 360) (tgt := 393) dL_law_33 (by decide) (by decide) rfl (by decide) (L_replace hN hi5 z kk)
        · exact RX_tableIn (off := 393) (tgt := 426) dL_law_33 (by decide) (by decide) rfl (by decide) (L_drop hN hi5 z kk)
        · exact RX_tableIn (off := 416) (tgt := 449) dL_law_33 (by decide) (by decide) rfl (by decide) (L_trim hN hi5 z kk)
        · exact RX_tableIn (off := 429) (tgt := 462) dL_law_33 (by decide) (by decide) rfl (by decide) (L_unpack hN hi5 z kk)
        · exact RX_tableIn (off := 442) (tgt := 475) dL_law_33 (by decide) (by decide) rfl (by decide) (L_put hN hi5 z kk)
        · exact RX_tableIn (off := 475) (tgt := 508) dL_law_33 (by decide) (by decide) rfl (by decide) (L_cut hN hi5 z kk)
        · exact RX_tableIn (off := 508) (tgt := 541) dL_law_33 (by decide) (by decide) rfl (by decide) (L_insert hN hi5 z kk)
        · exact RX_tableIn (off := 541) (tgt := 574) dL_law_33 (by decide) (by decide) rfl (by decide) (L_sign hN hi5 z kk)
        · exact RX_tableIn (off := 564) (tgt := 597) dL_law_33 (by decide) (by decide) rfl (by decide) (L_rule hN hi5 z kk)
        · exact RX_tableIn (off := 597) (tgt := 630) dL_law_33 (by decide) (by decide) rfl (by decide) (L_word hN hi5 z kk)
        · exact RX_tableIn (off := 630) (tgt := 663) dL_law_33 (by decide) (by decide) rfl (by decide) (L_pairs hN hi5 z kk)
        · exact RX_tableIn (off := 663) (tgt := 696) dL_law_33 (by decide) (by decide) rfl (by decide) (L_pick hN hi5 z kk)
        · exact RX_tableIn (off := 686) (tgt := 719) dL_law_33 (by decide) (by decide) rfl (by decide) (L_at hN hi5 z kk)
        · exact RX_tableIn (off := 709) (tgt := 742) dL_law_33 (by decide) (by decide) rfl (by decide) (L_within hN hi5 z kk)
        · exact RX_tableIn (off := 742) (tgt := 775) dL_law_33 (by decide) (by decide) rfl (by decide) (L_way hN hi5 z kk)
        · exact RX_tableIn (off := 775) (tgt := 808) dL_law_33 (by decide) (by decide) rfl (by decide) (L_ahead hN hi5 z kk)
        · exact RX_tableIn (off := 808) (tgt := 841) dL_law_33 (by decide) (by decide) rfl (by decide) (L_where hN hi5 z kk)
        · exact RX_tableIn (off := 841) (tgt := 874) dL_law_33 (by decide) (by decide) rfl (by decide) (L_common hN hi5 z kk)
        · exact RX_tableIn (off := 874) (tgt := 907) dL_law_33 (by decide) (by decide) rfl (by decide) (L_compare hN hi5 z kk)
        · exact RX_tableIn (off := 907) (tgt := 940) dL_law_33 (by decide) (by decide) rfl (by decide) (L_print hN hi5 z kk)
        · exact RX_tableIn (off := 940) (tgt := 973) dL_law_33 (by decide) (by decide) rfl (by decide) (L_repeat hN hi5 z kk)
        · exact RX_tableIn (off := 953) (tgt := 986) dL_law_33 (by decide) (by decide) rfl (by decide) (L_repeatAt hN hi5 z kk)
        · exact RX_tableIn (off := 966) (tgt := 999) dL_law_33 (by decide) (by decide) rfl (by decide) (L_hit hN hi5 z kk)
        · exact RX_tableIn (off := 989) (tgt := 1022) dL_law_33 (by decide) (by decide) rfl (by decide) (L_hits hN hi5 z kk)
        · exact RX_tableIn (off := 1012) (tgt := 1045) dL_law_33 (by decide) (by decide) rfl (by decide) (L_gain hN hi5 z kk)
        · exact RX_tableIn (off := 1045) (tgt := 1078) dL_law_33 (by decide) (by decide) rfl (by decide) (L_best hN hi5 z kk)
        · exact RX_tableIn (off := 1068) (tgt := 1101) dL_law_33 (by decide) (by decide) rfl (by decide) (L_bits hN hi5 z kk)
        · exact RX_tableIn (off := 1091) (tgt := 1124) dL_law_33 (by decide) (by decide) rfl (by decide) (L_form hN hi5 z kk)
        · exact RX_tableIn (off := 1114) (tgt := 1147) dL_law_33 (by decide) (by decide) rfl (by decide) (L_code hN hi5 z kk)
        · exact RX_tableIn (off := 1147) (tgt := 1180) dL_law_33 (by decide) (by decide) rfl (by decide) (L_coded hN hi5 z kk)
        · exact RX_tableIn (off := 1170) (tgt := 1203) dL_law_33 (by decide) (by decide) rfl (by decide) (L_undo hN hi5 z kk)
        · exact RX_tableIn (off := 1193) (tgt := 1226) dL_law_33 (by decide) (by decide) rfl (by decide) (L_image hN hi5 z kk)
        · exact RX_tableIn (off := 1216) (tgt := 1249) dL_law_33 (by decide) (by decide) rfl (by decide) (L_restore hN hi5 z kk)
        · exact RX_tableIn (off := 1239) (tgt := 1272) dL_law_33 (by decide) (by decide) rfl (by decide) (L_count hN hi5 z kk)
      · have hw2 : w.toInt < 0 ∨ (40 : Int) < w.toInt := by
          by_cases y : w.toInt < 0
          · exact Or.inl y
          · exact Or.inr (by have := Classical.not_not.mp (fun u => hw ⟨y, u⟩); omega)
        exact RX_tableOut (tgt := 1295) dL_law_33 hw2 (by decide) (kk h z)
theorem L_start (hN : N ≤ 3072) (hs : h.1 = X) : WX (XS b N xs E.2.2.2) E (kL nm) 68 600000 7302250 0 [some (.ref b), none, none, none] [] h (fun v _ => v = some (.int (nI 1))) := by
  refine RX_new_A (ci := 9) K_9 dL_law_0 c_RL_7 n_RX9 ini_RX9 b_9 (hs : h.1 = X) rfl rfl ?_
  intro h1 u1
  refine RX_dup dL_law_3 rfl ?_
  refine RX_callI i_X9_init (PP_init (P := X) u1.1 u1.2.1) dL_law_4 l_RL_9 rfl rfl (Nat.le_of_ble_eq_true rfl) (by omega) rfl rfl (fun v h2 hq => ?_)
  obtain ⟨rfl, x2, e2, l2⟩ := hq
  refine RX_astore1 dL_law_7 (Nat.le_of_ble_eq_true rfl) ?_
  refine RX_new_A (ci := 10) K_10 dL_law_8 c_RL_10 n_RX10 ini_RX10 b_10 (e2 : h2.1 = X + 1830) rfl rfl ?_
  intro h3 u3
  refine RX_dup dL_law_11 rfl ?_
  refine RX_callI i_X10_init (MP_init (M := X + 1830) u3.1 u3.2.1) dL_law_12 l_RL_12 rfl rfl (Nat.le_of_ble_eq_true rfl) (by omega) rfl rfl (fun v h4 hq => ?_)
  obtain ⟨rfl, y4, e4, l4⟩ := hq
  refine RX_astore2 dL_law_15 (Nat.le_of_ble_eq_true rfl) ?_
  refine RX_iconst (v := nI 0) dL_law_16 (by decide) ?_
  refine RX_istore3 dL_law_17 (Nat.le_of_ble_eq_true rfl) ?_
  have x3 := x2.ag (u3.ag (by omega))
  have x4 := x3.ag (Low.ag l4 (by omega))
  exact L_loop hN N 0 h4 (by omega) (by omega) ⟨0, _, _, _, _, _, _, _, _, x4, y4, PkOk.lets (fun y hy => absurd hy List.not_mem_nil) (Nat.zero_le _), fun d hd => absurd hd List.not_mem_nil, fun i _ hm => absurd hm (by show ¬ 0 = 1; decide)⟩
end LAW
