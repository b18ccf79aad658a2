/-! ===== the law, case by case ===== -/
theorem lc_sign {G : zG} {b9 L9 : Nat} {xs9 : Nat → Int32} {i : Nat} {o5 o6 : Option Value} {J : Nat → Int64} {g : Nat → va_E} {cu su : Nat} (hL : L9 ≤ 2560) (hi : i + 4 < L9) (hI : INVS G J g) (hcu : cu ≤ 601024) (hsu : su ≤ 7293034) (K : ∀ (J' : Nat → Int64) (g' : Nat → va_E) (o5' o6' : Option Value), INVS G J' g' → ZL G b9 L9 xs9 919 (lvL G b9 i o5' o6') [] (zN, g') cu su) : ZL G b9 L9 xs9 136 (lvL G b9 i o5 o6) [] (zN, g) cu su := by
  obtain ⟨h, hg, ⟨fs, h0⟩, v, g1, g2, cC, cR, e0, ⟨fs1, e76⟩, hI2⟩ := stp_sign G hI (xs9 (i + 1))
  refine zs_agree (nn := zN) hg ?_
  refine zs_aload_n (k := 1) dL_law_136 rfl rfl ?_
  refine zs_arg (j := 1) dL_law_137 dL_law_138 dL_law_140 dL_law_141 dL_law_142 rfl (by decide) hL (by omega) ?_
  refine zs_callVi cC gL_law_X6_sign rfl dL_law_143 rfl rfl rfl okk_X6_sign (Nat.le_of_ble_eq_true rfl) h0 rfl ⟨Nat.le_of_ble_eq_true rfl, Nat.le_of_ble_eq_true rfl⟩ ⟨hcu, hsu⟩ (Nat.le_of_ble_eq_true rfl) ?_
  refine zs_aload_n (k := 2) dL_law_146 rfl rfl ?_
  refine zs_arg (j := 1) dL_law_147 dL_law_148 dL_law_150 dL_law_151 dL_law_152 rfl (by decide) hL (by omega) ?_
  refine zs_callVi cR gL_law_X7_sign rfl dL_law_153 rfl rfl rfl okk_X7_sign (Nat.le_of_ble_eq_true rfl) e76 rfl ⟨Nat.le_of_ble_eq_true rfl, Nat.le_of_ble_eq_true rfl⟩ ⟨hcu, hsu⟩ (Nat.le_of_ble_eq_true rfl) ?_
  exact zs_icmp_eq (tgt := 919) dL_law_156 rfl (by decide) (fun _ => K _ _ _ _ hI2) (fun q => absurd rfl q)
theorem lc_read {G : zG} {b9 L9 : Nat} {xs9 : Nat → Int32} {i : Nat} {o5 o6 : Option Value} {J : Nat → Int64} {g : Nat → va_E} {cu su : Nat} (hL : L9 ≤ 2560) (hi : i + 4 < L9) (hI : INVS G J g) (hcu : cu ≤ 601024) (hsu : su ≤ 7293034) (K : ∀ (J' : Nat → Int64) (g' : Nat → va_E) (o5' o6' : Option Value), INVS G J' g' → ZL G b9 L9 xs9 919 (lvL G b9 i o5' o6') [] (zN, g') cu su) : ZL G b9 L9 xs9 161 (lvL G b9 i o5 o6) [] (zN, g) cu su := by
  obtain ⟨h, hg, ⟨fs, h0⟩, hS⟩ := stp_read G hI
  refine zs_agree (nn := zN) hg ?_
  rcases hS with ⟨v, g1, g2, cC, cR, e0, ⟨fs1, e76⟩, hI2⟩ | ⟨v, g1, g2, cC, cR, e0, ⟨fs1, e76⟩, hI2⟩
  · refine zs_aload_n (k := 1) dL_law_161 rfl rfl ?_
    refine zs_callVi cC gL_law_X6_read rfl dL_law_162 rfl rfl rfl okk_X6_read (Nat.le_of_ble_eq_true rfl) h0 rfl ⟨Nat.le_of_ble_eq_true rfl, Nat.le_of_ble_eq_true rfl⟩ ⟨hcu, hsu⟩ (Nat.le_of_ble_eq_true rfl) ?_
    refine zs_aload_n (k := 2) dL_law_165 rfl rfl ?_
    refine zs_callVi cR gL_law_X7_read rfl dL_law_166 rfl rfl rfl okk_X7_read (Nat.le_of_ble_eq_true rfl) e76 rfl ⟨Nat.le_of_ble_eq_true rfl, Nat.le_of_ble_eq_true rfl⟩ ⟨hcu, hsu⟩ (Nat.le_of_ble_eq_true rfl) ?_
    exact zs_icmp_eq (tgt := 919) dL_law_169 rfl (by decide) (fun _ => K _ _ _ _ hI2) (fun q => absurd rfl q)
  · refine zs_aload_n (k := 1) dL_law_161 rfl rfl ?_
    refine zs_callVi cC gL_law_X6_read rfl dL_law_162 rfl rfl rfl okk_X6_read (Nat.le_of_ble_eq_true rfl) h0 rfl ⟨Nat.le_of_ble_eq_true rfl, Nat.le_of_ble_eq_true rfl⟩ ⟨hcu, hsu⟩ (Nat.le_of_ble_eq_true rfl) ?_
    refine zs_aload_n (k := 2) dL_law_165 rfl rfl ?_
    refine zs_callVi cR gL_law_X7_read rfl dL_law_166 rfl rfl rfl okk_X7_read (Nat.le_of_ble_eq_true rfl) e76 rfl ⟨Nat.le_of_ble_eq_true rfl, Nat.le_of_ble_eq_true rfl⟩ ⟨hcu, hsu⟩ (Nat.le_of_ble_eq_true rfl) ?_
    exact zs_icmp_eq (tgt := 919) dL_law_169 rfl (by decide) (fun _ => K _ _ _ _ hI2) (fun q => absurd rfl q)
theorem lc_count {G : zG} {b9 L9 : Nat} {xs9 : Nat → Int32} {i : Nat} {o5 o6 : Option Value} {J : Nat → Int64} {g : Nat → va_E} {cu su : Nat} (hL : L9 ≤ 2560) (hi : i + 4 < L9) (hI : INVS G J g) (hcu : cu ≤ 601024) (hsu : su ≤ 7293034) (K : ∀ (J' : Nat → Int64) (g' : Nat → va_E) (o5' o6' : Option Value), INVS G J' g' → ZL G b9 L9 xs9 919 (lvL G b9 i o5' o6') [] (zN, g') cu su) : ZL G b9 L9 xs9 174 (lvL G b9 i o5 o6) [] (zN, g) cu su := by
  obtain ⟨h, hg, ⟨fs, h0⟩, v, g1, g2, cC, cR, e0, ⟨fs1, e76⟩, hI2⟩ := stp_count G hI (xs9 (i + 1))
  refine zs_agree (nn := zN) hg ?_
  refine zs_aload_n (k := 1) dL_law_174 rfl rfl ?_
  refine zs_arg (j := 1) dL_law_175 dL_law_176 dL_law_178 dL_law_179 dL_law_180 rfl (by decide) hL (by omega) ?_
  refine zs_callVi cC gL_law_X6_count rfl dL_law_181 rfl rfl rfl okk_X6_count (Nat.le_of_ble_eq_true rfl) h0 rfl ⟨Nat.le_of_ble_eq_true rfl, Nat.le_of_ble_eq_true rfl⟩ ⟨hcu, hsu⟩ (Nat.le_of_ble_eq_true rfl) ?_
  refine zs_aload_n (k := 2) dL_law_184 rfl rfl ?_
  refine zs_arg (j := 1) dL_law_185 dL_law_186 dL_law_188 dL_law_189 dL_law_190 rfl (by decide) hL (by omega) ?_
  refine zs_callVi cR gL_law_X7_count rfl dL_law_191 rfl rfl rfl okk_X7_count (Nat.le_of_ble_eq_true rfl) e76 rfl ⟨Nat.le_of_ble_eq_true rfl, Nat.le_of_ble_eq_true rfl⟩ ⟨hcu, hsu⟩ (Nat.le_of_ble_eq_true rfl) ?_
  exact zs_icmp_eq (tgt := 919) dL_law_194 rfl (by decide) (fun _ => K _ _ _ _ hI2) (fun q => absurd rfl q)
theorem lc_line {G : zG} {b9 L9 : Nat} {xs9 : Nat → Int32} {i : Nat} {o5 o6 : Option Value} {J : Nat → Int64} {g : Nat → va_E} {cu su : Nat} (hL : L9 ≤ 2560) (hi : i + 4 < L9) (hI : INVS G J g) (hcu : cu ≤ 601024) (hsu : su ≤ 7293034) (K : ∀ (J' : Nat → Int64) (g' : Nat → va_E) (o5' o6' : Option Value), INVS G J' g' → ZL G b9 L9 xs9 919 (lvL G b9 i o5' o6') [] (zN, g') cu su) : ZL G b9 L9 xs9 199 (lvL G b9 i o5 o6) [] (zN, g) cu su := by
  obtain ⟨h, hg, ⟨fs, h0⟩, v, g1, g2, cC, cR, e0, ⟨fs1, e76⟩, hI2⟩ := stp_line G hI (xs9 (i + 1)) (xs9 (i + 2)) (if xs9 (i + 3) = 0 then nI 0 else nI 1)
  refine zs_agree (nn := zN) hg ?_
  refine zs_aload_n (k := 1) dL_law_199 rfl rfl ?_
  refine zs_arg (j := 1) dL_law_200 dL_law_201 dL_law_203 dL_law_204 dL_law_205 rfl (by decide) hL (by omega) ?_
  refine zs_arg (j := 2) dL_law_206 dL_law_207 dL_law_209 dL_law_210 dL_law_211 rfl (by decide) hL (by omega) ?_
  refine zs_arg (j := 3) dL_law_212 dL_law_213 dL_law_215 dL_law_216 dL_law_217 rfl (by decide) hL (by omega) ?_
  refine zs_bl dL_law_218 dL_law_221 dL_law_222 dL_law_225 rfl ?_
  refine zs_callVi cC gL_law_X6_line rfl dL_law_226 rfl rfl rfl okk_X6_line (Nat.le_of_ble_eq_true rfl) h0 rfl ⟨Nat.le_of_ble_eq_true rfl, Nat.le_of_ble_eq_true rfl⟩ ⟨hcu, hsu⟩ (Nat.le_of_ble_eq_true rfl) ?_
  refine zs_aload_n (k := 2) dL_law_229 rfl rfl ?_
  refine zs_arg (j := 1) dL_law_230 dL_law_231 dL_law_233 dL_law_234 dL_law_235 rfl (by decide) hL (by omega) ?_
  refine zs_arg (j := 2) dL_law_236 dL_law_237 dL_law_239 dL_law_240 dL_law_241 rfl (by decide) hL (by omega) ?_
  refine zs_arg (j := 3) dL_law_242 dL_law_243 dL_law_245 dL_law_246 dL_law_247 rfl (by decide) hL (by omega) ?_
  refine zs_bl dL_law_248 dL_law_251 dL_law_252 dL_law_255 rfl ?_
  refine zs_callVi cR gL_law_X7_line rfl dL_law_256 rfl rfl rfl okk_X7_line (Nat.le_of_ble_eq_true rfl) e76 rfl ⟨Nat.le_of_ble_eq_true rfl, Nat.le_of_ble_eq_true rfl⟩ ⟨hcu, hsu⟩ (Nat.le_of_ble_eq_true rfl) ?_
  exact zs_icmp_eq (tgt := 919) dL_law_259 rfl (by decide) (fun _ => K _ _ _ _ hI2) (fun q => absurd rfl q)
theorem lc_bar {G : zG} {b9 L9 : Nat} {xs9 : Nat → Int32} {i : Nat} {o5 o6 : Option Value} {J : Nat → Int64} {g : Nat → va_E} {cu su : Nat} (hL : L9 ≤ 2560) (hi : i + 4 < L9) (hI : INVS G J g) (hcu : cu ≤ 601024) (hsu : su ≤ 7293034) (K : ∀ (J' : Nat → Int64) (g' : Nat → va_E) (o5' o6' : Option Value), INVS G J' g' → ZL G b9 L9 xs9 919 (lvL G b9 i o5' o6') [] (zN, g') cu su) : ZL G b9 L9 xs9 264 (lvL G b9 i o5 o6) [] (zN, g) cu su := by
  obtain ⟨h, hg, ⟨fs, h0⟩, v, g1, g2, cC, cR, e0, ⟨fs1, e76⟩, hI2⟩ := stp_bar G hI (xs9 (i + 1)) (xs9 (i + 2)) (xs9 (i + 3))
  refine zs_agree (nn := zN) hg ?_
  refine zs_aload_n (k := 1) dL_law_264 rfl rfl ?_
  refine zs_arg (j := 1) dL_law_265 dL_law_266 dL_law_268 dL_law_269 dL_law_270 rfl (by decide) hL (by omega) ?_
  refine zs_arg (j := 2) dL_law_271 dL_law_272 dL_law_274 dL_law_275 dL_law_276 rfl (by decide) hL (by omega) ?_
  refine zs_arg (j := 3) dL_law_277 dL_law_278 dL_law_280 dL_law_281 dL_law_282 rfl (by decide) hL (by omega) ?_
  refine zs_callVi cC gL_law_X6_bar rfl dL_law_283 rfl rfl rfl okk_X6_bar (Nat.le_of_ble_eq_true rfl) h0 rfl ⟨Nat.le_of_ble_eq_true rfl, Nat.le_of_ble_eq_true rfl⟩ ⟨hcu, hsu⟩ (Nat.le_of_ble_eq_true rfl) ?_
  refine zs_aload_n (k := 2) dL_law_286 rfl rfl ?_
  refine zs_arg (j := 1) dL_law_287 dL_law_288 dL_law_290 dL_law_291 dL_law_292 rfl (by decide) hL (by omega) ?_
  refine zs_arg (j := 2) dL_law_293 dL_law_294 dL_law_296 dL_law_297 dL_law_298 rfl (by decide) hL (by omega) ?_
  refine zs_arg (j := 3) dL_law_299 dL_law_300 dL_law_302 dL_law_303 dL_law_304 rfl (by decide) hL (by omega) ?_
  refine zs_callVi cR gL_law_X7_bar rfl dL_law_305 rfl rfl rfl okk_X7_bar (Nat.le_of_ble_eq_true rfl) e76 rfl ⟨Nat.le_of_ble_eq_true rfl, Nat.le_of_ble_eq_true rfl⟩ ⟨hcu, hsu⟩ (Nat.le_of_ble_eq_true rfl) ?_
  exact zs_icmp_eq (tgt := 919) dL_law_308 rfl (by decide) (fun _ => K _ _ _ _ hI2) (fun q => absurd rfl q)
theorem lc_orient {G : zG} {b9 L9 : Nat} {xs9 : Nat → Int32} {i : Nat} {o5 o6 : Option Value} {J : Nat → Int64} {g : Nat → va_E} {cu su : Nat} (hL : L9 ≤ 2560) (hi : i + 4 < L9) (hI : INVS G J g) (hcu : cu ≤ 601024) (hsu : su ≤ 7293034) (K : ∀ (J' : Nat → Int64) (g' : Nat → va_E) (o5' o6' : Option Value), INVS G J' g' → ZL G b9 L9 xs9 919 (lvL G b9 i o5' o6') [] (zN, g') cu su) : ZL G b9 L9 xs9 313 (lvL G b9 i o5 o6) [] (zN, g) cu su := by
  obtain ⟨h, hg, ⟨fs, h0⟩, v, g1, g2, cC, cR, e0, ⟨fs1, e76⟩, hI2⟩ := stp_orient G hI (xs9 (i + 1)) (xs9 (i + 2)) (xs9 (i + 3)) (xs9 (i + 4))
  refine zs_agree (nn := zN) hg ?_
  refine zs_aload_n (k := 1) dL_law_313 rfl rfl ?_
  refine zs_arg (j := 1) dL_law_314 dL_law_315 dL_law_317 dL_law_318 dL_law_319 rfl (by decide) hL (by omega) ?_
  refine zs_arg (j := 2) dL_law_320 dL_law_321 dL_law_323 dL_law_324 dL_law_325 rfl (by decide) hL (by omega) ?_
  refine zs_arg (j := 3) dL_law_326 dL_law_327 dL_law_329 dL_law_330 dL_law_331 rfl (by decide) hL (by omega) ?_
  refine zs_arg (j := 4) dL_law_332 dL_law_333 dL_law_335 dL_law_336 dL_law_337 rfl (by decide) hL (by omega) ?_
  refine zs_callVi cC gL_law_X6_orient rfl dL_law_338 rfl rfl rfl okk_X6_orient (Nat.le_of_ble_eq_true rfl) h0 rfl ⟨Nat.le_of_ble_eq_true rfl, Nat.le_of_ble_eq_true rfl⟩ ⟨hcu, hsu⟩ (Nat.le_of_ble_eq_true rfl) ?_
  refine zs_aload_n (k := 2) dL_law_341 rfl rfl ?_
  refine zs_arg (j := 1) dL_law_342 dL_law_343 dL_law_345 dL_law_346 dL_law_347 rfl (by decide) hL (by omega) ?_
  refine zs_arg (j := 2) dL_law_348 dL_law_349 dL_law_351 dL_law_352 dL_law_353 rfl (by decide) hL (by omega) ?_
  refine zs_arg (j := 3) dL_law_354 dL_law_355 dL_law_357 dL_law_358 dL_law_359 rfl (by decide) hL (by omega) ?_
  refine zs_arg (j := 4) dL_law_360 dL_law_361 dL_law_363 dL_law_364 dL_law_365 rfl (by decide) hL (by omega) ?_
  refine zs_callVi cR gL_law_X7_orient rfl dL_law_366 rfl rfl rfl okk_X7_orient (Nat.le_of_ble_eq_true rfl) e76 rfl ⟨Nat.le_of_ble_eq_true rfl, Nat.le_of_ble_eq_true rfl⟩ ⟨hcu, hsu⟩ (Nat.le_of_ble_eq_true rfl) ?_
  exact zs_icmp_eq (tgt := 919) dL_law_369 rfl (by decide) (fun _ => K _ _ _ _ hI2) (fun q => absurd rfl q)
theorem lc_realise {G : zG} {b9 L9 : Nat} {xs9 : Nat → Int32} {i : Nat} {o5 o6 : Option Value} {J : Nat → Int64} {g : Nat → va_E} {cu su : Nat} (hL : L9 ≤ 2560) (hi : i + 4 < L9) (hI : INVS G J g) (hcu : cu ≤ 601024) (hsu : su ≤ 7293034) (K : ∀ (J' : Nat → Int64) (g' : Nat → va_E) (o5' o6' : Option Value), INVS G J' g' → ZL G b9 L9 xs9 919 (lvL G b9 i o5' o6') [] (zN, g') cu su) : ZL G b9 L9 xs9 374 (lvL G b9 i o5 o6) [] (zN, g) cu su := by
  obtain ⟨h, hg, ⟨fs, h0⟩, v, g1, g2, cC, cR, e0, ⟨fs1, e76⟩, hI2⟩ := stp_realise G hI (xs9 (i + 1)) (xs9 (i + 2))
  refine zs_agree (nn := zN) hg ?_
  refine zs_aload_n (k := 1) dL_law_374 rfl rfl ?_
  refine zs_arg (j := 1) dL_law_375 dL_law_376 dL_law_378 dL_law_379 dL_law_380 rfl (by decide) hL (by omega) ?_
  refine zs_arg (j := 2) dL_law_381 dL_law_382 dL_law_384 dL_law_385 dL_law_386 rfl (by decide) hL (by omega) ?_
  refine zs_callVi cC gL_law_X6_realise rfl dL_law_387 rfl rfl rfl okk_X6_realise (Nat.le_of_ble_eq_true rfl) h0 rfl ⟨Nat.le_of_ble_eq_true rfl, Nat.le_of_ble_eq_true rfl⟩ ⟨hcu, hsu⟩ (Nat.le_of_ble_eq_true rfl) ?_
  refine zs_aload_n (k := 2) dL_law_390 rfl rfl ?_
  refine zs_arg (j := 1) dL_law_391 dL_law_392 dL_law_394 dL_law_395 dL_law_396 rfl (by decide) hL (by omega) ?_
  refine zs_arg (j := 2) dL_law_397 dL_law_398 dL_law_400 dL_law_401 dL_law_402 rfl (by decide) hL (by omega) ?_
  refine zs_callVi cR gL_law_X7_realise rfl dL_law_403 rfl rfl rfl okk_X7_realise (Nat.le_of_ble_eq_true rfl) e76 rfl ⟨Nat.le_of_ble_eq_true rfl, Nat.le_of_ble_eq_true rfl⟩ ⟨hcu, hsu⟩ (Nat.le_of_ble_eq_true rfl) ?_
  exact zs_icmp_eq (tgt := 919) dL_law_406 rfl (by decide) (fun _ => K _ _ _ _ hI2) (fun q => absurd rfl q)
theorem lc_coordinate {G : zG} {b9 L9 : Nat} {xs9 : Nat → Int32} {i : Nat} {o5 o6 : Option Value} {J : Nat → Int64} {g : Nat → va_E} {cu su : Nat} (hL : L9 ≤ 2560) (hi : i + 4 < L9) (hI : INVS G J g) (hcu : cu ≤ 601024) (hsu : su ≤ 7293034) (K : ∀ (J' : Nat → Int64) (g' : Nat → va_E) (o5' o6' : Option Value), INVS G J' g' → ZL G b9 L9 xs9 919 (lvL G b9 i o5' o6') [] (zN, g') cu su) : ZL G b9 L9 xs9 411 (lvL G b9 i o5 o6) [] (zN, g) cu su := by
  obtain ⟨h, hg, ⟨fs, h0⟩, v, g1, g2, cC, cR, e0, ⟨fs1, e76⟩, hI2⟩ := stp_coordinate G hI (xs9 (i + 1)) (xs9 (i + 2))
  refine zs_agree (nn := zN) hg ?_
  refine zs_aload_n (k := 1) dL_law_411 rfl rfl ?_
  refine zs_arg (j := 1) dL_law_412 dL_law_413 dL_law_415 dL_law_416 dL_law_417 rfl (by decide) hL (by omega) ?_
  refine zs_arg (j := 2) dL_law_418 dL_law_419 dL_law_421 dL_law_422 dL_law_423 rfl (by decide) hL (by omega) ?_
  refine zs_callVi cC gL_law_X6_coordinate rfl dL_law_424 rfl rfl rfl okk_X6_coordinate (Nat.le_of_ble_eq_true rfl) h0 rfl ⟨Nat.le_of_ble_eq_true rfl, Nat.le_of_ble_eq_true rfl⟩ ⟨hcu, hsu⟩ (Nat.le_of_ble_eq_true rfl) ?_
  refine zs_aload_n (k := 2) dL_law_427 rfl rfl ?_
  refine zs_arg (j := 1) dL_law_428 dL_law_429 dL_law_431 dL_law_432 dL_law_433 rfl (by decide) hL (by omega) ?_
  refine zs_arg (j := 2) dL_law_434 dL_law_435 dL_law_437 dL_law_438 dL_law_439 rfl (by decide) hL (by omega) ?_
  refine zs_callVi cR gL_law_X7_coordinate rfl dL_law_440 rfl rfl rfl okk_X7_coordinate (Nat.le_of_ble_eq_true rfl) e76 rfl ⟨Nat.le_of_ble_eq_true rfl, Nat.le_of_ble_eq_true rfl⟩ ⟨hcu, hsu⟩ (Nat.le_of_ble_eq_true rfl) ?_
  exact zs_icmp_eq (tgt := 919) dL_law_443 rfl (by decide) (fun _ => K _ _ _ _ hI2) (fun q => absurd rfl q)
theorem lc_check {G : zG} {b9 L9 : Nat} {xs9 : Nat → Int32} {i : Nat} {o5 o6 : Option Value} {J : Nat → Int64} {g : Nat → va_E} {cu su : Nat} (hL : L9 ≤ 2560) (hi : i + 4 < L9) (hI : INVS G J g) (hcu : cu ≤ 601024) (hsu : su ≤ 7293034) (K : ∀ (J' : Nat → Int64) (g' : Nat → va_E) (o5' o6' : Option Value), INVS G J' g' → ZL G b9 L9 xs9 919 (lvL G b9 i o5' o6') [] (zN, g') cu su) : ZL G b9 L9 xs9 448 (lvL G b9 i o5 o6) [] (zN, g) cu su := by
  obtain ⟨h, hg, ⟨fs, h0⟩, v, g1, g2, cC, cR, e0, ⟨fs1, e76⟩, hI2⟩ := stp_check G hI 
  refine zs_agree (nn := zN) hg ?_
  refine zs_aload_n (k := 1) dL_law_448 rfl rfl ?_
  refine zs_callVi cC gL_law_X6_check rfl dL_law_449 rfl rfl rfl okk_X6_check (Nat.le_of_ble_eq_true rfl) h0 rfl ⟨Nat.le_of_ble_eq_true rfl, Nat.le_of_ble_eq_true rfl⟩ ⟨hcu, hsu⟩ (Nat.le_of_ble_eq_true rfl) ?_
  refine zs_aload_n (k := 2) dL_law_452 rfl rfl ?_
  refine zs_callVi cR gL_law_X7_check rfl dL_law_453 rfl rfl rfl okk_X7_check (Nat.le_of_ble_eq_true rfl) e76 rfl ⟨Nat.le_of_ble_eq_true rfl, Nat.le_of_ble_eq_true rfl⟩ ⟨hcu, hsu⟩ (Nat.le_of_ble_eq_true rfl) ?_
  exact zs_icmp_eq (tgt := 919) dL_law_456 rfl (by decide) (fun _ => K _ _ _ _ hI2) (fun q => absurd rfl q)
theorem lc_meet {G : zG} {b9 L9 : Nat} {xs9 : Nat → Int32} {i : Nat} {o5 o6 : Option Value} {J : Nat → Int64} {g : Nat → va_E} {cu su : Nat} (hlT : (zl G).stackTraces = false) (hL : L9 ≤ 2560) (hi : i + 4 < L9) (hI : INVS G J g) (hcu : cu + 1 ≤ 601024) (hsu : su + 6 ≤ 7293034) (K : ∀ (J' : Nat → Int64) (g' : Nat → va_E) (o5' o6' : Option Value), INVS G J' g' → ZL G b9 L9 xs9 919 (lvL G b9 i o5' o6') [] (zN, g') (cu + 1) (su + 6)) : ZL G b9 L9 xs9 461 (lvL G b9 i o5 o6) [] (zN, g) cu su := by
  obtain ⟨h, hg, k, b, g1, g2, J2, cL, cR, cT, ⟨fs1, e76⟩, ⟨fs2, f76⟩, e112, hk, hI2⟩ := stp_meet G hlT hI (xs9 (i + 1)) (xs9 (i + 2))
  refine zs_agree (nn := zN) hg ?_
  refine zs_aload_n (k := 1) dL_law_461 rfl rfl ?_
  refine zs_arg (j := 1) dL_law_462 dL_law_463 dL_law_465 dL_law_466 dL_law_467 rfl (by decide) hL (by omega) ?_
  refine zs_arg (j := 2) dL_law_468 dL_law_469 dL_law_471 dL_law_472 dL_law_473 rfl (by decide) hL (by omega) ?_
  refine zs_aload_n (k := 3) dL_law_474 rfl rfl ?_
  refine zs_callSW cL gL_law_L_meet rfl dL_law_475 rfl rfl okk_L_meet ⟨Nat.le_of_ble_eq_true rfl, Nat.le_of_ble_eq_true rfl⟩ ⟨hcu, hsu⟩ (Nat.le_of_ble_eq_true rfl) ?_
  refine zs_istore_5 dL_law_478 rfl ?_
  refine zs_aload_n (k := 2) dL_law_480 rfl rfl ?_
  refine zs_arg (j := 1) dL_law_481 dL_law_482 dL_law_484 dL_law_485 dL_law_486 rfl (by decide) hL (by omega) ?_
  refine zs_arg (j := 2) dL_law_487 dL_law_488 dL_law_490 dL_law_491 dL_law_492 rfl (by decide) hL (by omega) ?_
  refine zs_callVi cR gL_law_X7_meet rfl dL_law_493 rfl rfl rfl okk_X7_meet (Nat.le_of_ble_eq_true rfl) e76 rfl ⟨Nat.le_of_ble_eq_true rfl, Nat.le_of_ble_eq_true rfl⟩ ⟨hcu, hsu⟩ (Nat.le_of_ble_eq_true rfl) ?_
  refine zs_istore_6 dL_law_496 rfl ?_
  refine zs_aload_n (k := 2) dL_law_498 rfl rfl ?_
  refine zs_callVi (As := []) cT gL_law_X7_thrown rfl dL_law_499 rfl rfl rfl okk_X7_thrown (Nat.le_of_ble_eq_true rfl) f76 rfl ⟨Nat.le_of_ble_eq_true rfl, Nat.le_of_ble_eq_true rfl⟩ ⟨hcu, hsu⟩ (Nat.le_of_ble_eq_true rfl) ?_
  refine zs_iload dL_law_502 rfl rfl ?_
  refine zs_icmp_eq (tgt := 509) dL_law_504 rfl (by decide) (fun _ => ?_) (fun q => absurd rfl q)
  refine zs_iload dL_law_509 rfl rfl ?_
  refine zs_if_ne (tgt := 526) dL_law_511 rfl (by decide) (fun _ => ?_) (fun c => ?_)
  · exact zs_goto (tgt := 919) dL_law_526 (by decide) (K _ _ _ _ hI2)
  · refine zs_aload_n (k := 3) dL_law_514 rfl rfl ?_
    refine zs_iconst (v := nI 0) dL_law_515 rfl (by decide) ?_
    refine zs_lald dL_law_516 rfl (Nat.le_of_ble_eq_true rfl) e112 (vp_in_nI (by decide) (by decide)) ?_
    refine zs_iload dL_law_517 rfl rfl ?_
    refine zs_i2l dL_law_519 rfl ?_
    refine zs_lcmp dL_law_520 rfl ?_
    have ec : lg_cmp (J2 (nI 0).toNatClampNeg) b.toInt64 = 0 := by rw [show (nI 0).toNatClampNeg = 0 from rfl, hk c]; exact lg_cmp_self _
    exact zs_if_eq (tgt := 526) dL_law_521 rfl (by decide) (fun _ => zs_goto (tgt := 919) dL_law_526 (by decide) (K _ _ _ _ hI2)) (fun u => absurd ec u)
theorem lc_meets {G : zG} {b9 L9 : Nat} {xs9 : Nat → Int32} {i : Nat} {o5 o6 : Option Value} {J : Nat → Int64} {g : Nat → va_E} {cu su : Nat} (hL : L9 ≤ 2560) (hi : i + 4 < L9) (hI : INVS G J g) (hcu : cu ≤ 601024) (hsu : su ≤ 7293034) (K : ∀ (J' : Nat → Int64) (g' : Nat → va_E) (o5' o6' : Option Value), INVS G J' g' → ZL G b9 L9 xs9 919 (lvL G b9 i o5' o6') [] (zN, g') cu su) : ZL G b9 L9 xs9 529 (lvL G b9 i o5 o6) [] (zN, g) cu su := by
  obtain ⟨h, hg, ⟨fs, h0⟩, v, g1, g2, cC, cR, e0, ⟨fs1, e76⟩, hI2⟩ := stp_meets G hI (xs9 (i + 1)) (xs9 (i + 2))
  refine zs_agree (nn := zN) hg ?_
  refine zs_aload_n (k := 1) dL_law_529 rfl rfl ?_
  refine zs_arg (j := 1) dL_law_530 dL_law_531 dL_law_533 dL_law_534 dL_law_535 rfl (by decide) hL (by omega) ?_
  refine zs_arg (j := 2) dL_law_536 dL_law_537 dL_law_539 dL_law_540 dL_law_541 rfl (by decide) hL (by omega) ?_
  refine zs_callVi cC gL_law_X6_meets rfl dL_law_542 rfl rfl rfl okk_X6_meets (Nat.le_of_ble_eq_true rfl) h0 rfl ⟨Nat.le_of_ble_eq_true rfl, Nat.le_of_ble_eq_true rfl⟩ ⟨hcu, hsu⟩ (Nat.le_of_ble_eq_true rfl) ?_
  refine zs_aload_n (k := 2) dL_law_545 rfl rfl ?_
  refine zs_arg (j := 1) dL_law_546 dL_law_547 dL_law_549 dL_law_550 dL_law_551 rfl (by decide) hL (by omega) ?_
  refine zs_arg (j := 2) dL_law_552 dL_law_553 dL_law_555 dL_law_556 dL_law_557 rfl (by decide) hL (by omega) ?_
  refine zs_callVi cR gL_law_X7_meets rfl dL_law_558 rfl rfl rfl okk_X7_meets (Nat.le_of_ble_eq_true rfl) e76 rfl ⟨Nat.le_of_ble_eq_true rfl, Nat.le_of_ble_eq_true rfl⟩ ⟨hcu, hsu⟩ (Nat.le_of_ble_eq_true rfl) ?_
  exact zs_icmp_eq (tgt := 919) dL_law_561 rfl (by decide) (fun _ => K _ _ _ _ hI2) (fun q => absurd rfl q)
theorem lc_pivot {G : zG} {b9 L9 : Nat} {xs9 : Nat → Int32} {i : Nat} {o5 o6 : Option Value} {J : Nat → Int64} {g : Nat → va_E} {cu su : Nat} (hlT : (zl G).stackTraces = false) (hL : L9 ≤ 2560) (hi : i + 4 < L9) (hI : INVS G J g) (hcu : cu + 1 ≤ 601024) (hsu : su + 6 ≤ 7293034) (K : ∀ (J' : Nat → Int64) (g' : Nat → va_E) (o5' o6' : Option Value), INVS G J' g' → ZL G b9 L9 xs9 919 (lvL G b9 i o5' o6') [] (zN, g') (cu + 1) (su + 6)) : ZL G b9 L9 xs9 566 (lvL G b9 i o5 o6) [] (zN, g) cu su := by
  obtain ⟨h, hg, k, b, g1, g2, J2, cL, cR, cT, ⟨fs1, e76⟩, ⟨fs2, f76⟩, e112, hk, hI2⟩ := stp_pivot G hlT hI (xs9 (i + 1)) (xs9 (i + 2)) (xs9 (i + 3))
  refine zs_agree (nn := zN) hg ?_
  refine zs_aload_n (k := 1) dL_law_566 rfl rfl ?_
  refine zs_arg (j := 1) dL_law_567 dL_law_568 dL_law_570 dL_law_571 dL_law_572 rfl (by decide) hL (by omega) ?_
  refine zs_arg (j := 2) dL_law_573 dL_law_574 dL_law_576 dL_law_577 dL_law_578 rfl (by decide) hL (by omega) ?_
  refine zs_arg (j := 3) dL_law_579 dL_law_580 dL_law_582 dL_law_583 dL_law_584 rfl (by decide) hL (by omega) ?_
  refine zs_aload_n (k := 3) dL_law_585 rfl rfl ?_
  refine zs_callSW cL gL_law_L_pivot rfl dL_law_586 rfl rfl okk_L_pivot ⟨Nat.le_of_ble_eq_true rfl, Nat.le_of_ble_eq_true rfl⟩ ⟨hcu, hsu⟩ (Nat.le_of_ble_eq_true rfl) ?_
  refine zs_istore_5 dL_law_589 rfl ?_
  refine zs_aload_n (k := 2) dL_law_591 rfl rfl ?_
  refine zs_arg (j := 1) dL_law_592 dL_law_593 dL_law_595 dL_law_596 dL_law_597 rfl (by decide) hL (by omega) ?_
  refine zs_arg (j := 2) dL_law_598 dL_law_599 dL_law_601 dL_law_602 dL_law_603 rfl (by decide) hL (by omega) ?_
  refine zs_arg (j := 3) dL_law_604 dL_law_605 dL_law_607 dL_law_608 dL_law_609 rfl (by decide) hL (by omega) ?_
  refine zs_callVi cR gL_law_X7_pivot rfl dL_law_610 rfl rfl rfl okk_X7_pivot (Nat.le_of_ble_eq_true rfl) e76 rfl ⟨Nat.le_of_ble_eq_true rfl, Nat.le_of_ble_eq_true rfl⟩ ⟨hcu, hsu⟩ (Nat.le_of_ble_eq_true rfl) ?_
  refine zs_istore_6 dL_law_613 rfl ?_
  refine zs_aload_n (k := 2) dL_law_615 rfl rfl ?_
  refine zs_callVi (As := []) cT gL_law_X7_thrown rfl dL_law_616 rfl rfl rfl okk_X7_thrown (Nat.le_of_ble_eq_true rfl) f76 rfl ⟨Nat.le_of_ble_eq_true rfl, Nat.le_of_ble_eq_true rfl⟩ ⟨hcu, hsu⟩ (Nat.le_of_ble_eq_true rfl) ?_
  refine zs_iload dL_law_619 rfl rfl ?_
  refine zs_icmp_eq (tgt := 626) dL_law_621 rfl (by decide) (fun _ => ?_) (fun q => absurd rfl q)
  refine zs_iload dL_law_626 rfl rfl ?_
  refine zs_if_ne (tgt := 643) dL_law_628 rfl (by decide) (fun _ => ?_) (fun c => ?_)
  · exact zs_goto (tgt := 919) dL_law_643 (by decide) (K _ _ _ _ hI2)
  · refine zs_aload_n (k := 3) dL_law_631 rfl rfl ?_
    refine zs_iconst (v := nI 0) dL_law_632 rfl (by decide) ?_
    refine zs_lald dL_law_633 rfl (Nat.le_of_ble_eq_true rfl) e112 (vp_in_nI (by decide) (by decide)) ?_
    refine zs_iload dL_law_634 rfl rfl ?_
    refine zs_i2l dL_law_636 rfl ?_
    refine zs_lcmp dL_law_637 rfl ?_
    have ec : lg_cmp (J2 (nI 0).toNatClampNeg) b.toInt64 = 0 := by rw [show (nI 0).toNatClampNeg = 0 from rfl, hk c]; exact lg_cmp_self _
    exact zs_if_eq (tgt := 643) dL_law_638 rfl (by decide) (fun _ => zs_goto (tgt := 919) dL_law_643 (by decide) (K _ _ _ _ hI2)) (fun u => absurd ec u)
theorem lc_deduce {G : zG} {b9 L9 : Nat} {xs9 : Nat → Int32} {i : Nat} {o5 o6 : Option Value} {J : Nat → Int64} {g : Nat → va_E} {cu su : Nat} (hL : L9 ≤ 2560) (hi : i + 4 < L9) (hI : INVS G J g) (hcu : cu ≤ 601024) (hsu : su ≤ 7293034) (K : ∀ (J' : Nat → Int64) (g' : Nat → va_E) (o5' o6' : Option Value), INVS G J' g' → ZL G b9 L9 xs9 919 (lvL G b9 i o5' o6') [] (zN, g') cu su) : ZL G b9 L9 xs9 646 (lvL G b9 i o5 o6) [] (zN, g) cu su := by
  obtain ⟨h, hg, ⟨fs, h0⟩, v, g1, g2, cC, cR, e0, ⟨fs1, e76⟩, hI2⟩ := stp_deduce G hI 
  refine zs_agree (nn := zN) hg ?_
  refine zs_aload_n (k := 1) dL_law_646 rfl rfl ?_
  refine zs_callVi cC gL_law_X6_deduce rfl dL_law_647 rfl rfl rfl okk_X6_deduce (Nat.le_of_ble_eq_true rfl) h0 rfl ⟨Nat.le_of_ble_eq_true rfl, Nat.le_of_ble_eq_true rfl⟩ ⟨hcu, hsu⟩ (Nat.le_of_ble_eq_true rfl) ?_
  refine zs_aload_n (k := 2) dL_law_650 rfl rfl ?_
  refine zs_callVi cR gL_law_X7_deduce rfl dL_law_651 rfl rfl rfl okk_X7_deduce (Nat.le_of_ble_eq_true rfl) e76 rfl ⟨Nat.le_of_ble_eq_true rfl, Nat.le_of_ble_eq_true rfl⟩ ⟨hcu, hsu⟩ (Nat.le_of_ble_eq_true rfl) ?_
  exact zs_icmp_eq (tgt := 919) dL_law_654 rfl (by decide) (fun _ => K _ _ _ _ hI2) (fun q => absurd rfl q)
theorem lc_row {G : zG} {b9 L9 : Nat} {xs9 : Nat → Int32} {i : Nat} {o5 o6 : Option Value} {J : Nat → Int64} {g : Nat → va_E} {cu su : Nat} (hL : L9 ≤ 2560) (hi : i + 4 < L9) (hI : INVS G J g) (hcu : cu ≤ 601024) (hsu : su ≤ 7293034) (K : ∀ (J' : Nat → Int64) (g' : Nat → va_E) (o5' o6' : Option Value), INVS G J' g' → ZL G b9 L9 xs9 919 (lvL G b9 i o5' o6') [] (zN, g') cu su) : ZL G b9 L9 xs9 659 (lvL G b9 i o5 o6) [] (zN, g) cu su := by
  obtain ⟨h, hg, ⟨fs, h0⟩, v, g1, g2, cC, cR, e0, ⟨fs1, e76⟩, hI2⟩ := stp_row G hI (xs9 (i + 1)) (xs9 (i + 2))
  refine zs_agree (nn := zN) hg ?_
  refine zs_aload_n (k := 1) dL_law_659 rfl rfl ?_
  refine zs_arg (j := 1) dL_law_660 dL_law_661 dL_law_663 dL_law_664 dL_law_665 rfl (by decide) hL (by omega) ?_
  refine zs_arg (j := 2) dL_law_666 dL_law_667 dL_law_669 dL_law_670 dL_law_671 rfl (by decide) hL (by omega) ?_
  refine zs_callVi cC gL_law_X6_row rfl dL_law_672 rfl rfl rfl okk_X6_row (Nat.le_of_ble_eq_true rfl) h0 rfl ⟨Nat.le_of_ble_eq_true rfl, Nat.le_of_ble_eq_true rfl⟩ ⟨hcu, hsu⟩ (Nat.le_of_ble_eq_true rfl) ?_
  refine zs_aload_n (k := 2) dL_law_675 rfl rfl ?_
  refine zs_arg (j := 1) dL_law_676 dL_law_677 dL_law_679 dL_law_680 dL_law_681 rfl (by decide) hL (by omega) ?_
  refine zs_arg (j := 2) dL_law_682 dL_law_683 dL_law_685 dL_law_686 dL_law_687 rfl (by decide) hL (by omega) ?_
  refine zs_callVi cR gL_law_X7_row rfl dL_law_688 rfl rfl rfl okk_X7_row (Nat.le_of_ble_eq_true rfl) e76 rfl ⟨Nat.le_of_ble_eq_true rfl, Nat.le_of_ble_eq_true rfl⟩ ⟨hcu, hsu⟩ (Nat.le_of_ble_eq_true rfl) ?_
  exact zs_icmp_eq (tgt := 919) dL_law_691 rfl (by decide) (fun _ => K _ _ _ _ hI2) (fun q => absurd rfl q)
theorem lc_plant {G : zG} {b9 L9 : Nat} {xs9 : Nat → Int32} {i : Nat} {o5 o6 : Option Value} {J : Nat → Int64} {g : Nat → va_E} {cu su : Nat} (hL : L9 ≤ 2560) (hi : i + 4 < L9) (hI : INVS G J g) (hcu : cu ≤ 601024) (hsu : su ≤ 7293034) (K : ∀ (J' : Nat → Int64) (g' : Nat → va_E) (o5' o6' : Option Value), INVS G J' g' → ZL G b9 L9 xs9 919 (lvL G b9 i o5' o6') [] (zN, g') cu su) : ZL G b9 L9 xs9 696 (lvL G b9 i o5 o6) [] (zN, g) cu su := by
  obtain ⟨h, hg, ⟨fs, h0⟩, v, g1, g2, cC, cR, e0, ⟨fs1, e76⟩, hI2⟩ := stp_plant G hI (xs9 (i + 1)) (xs9 (i + 2))
  refine zs_agree (nn := zN) hg ?_
  refine zs_aload_n (k := 1) dL_law_696 rfl rfl ?_
  refine zs_arg (j := 1) dL_law_697 dL_law_698 dL_law_700 dL_law_701 dL_law_702 rfl (by decide) hL (by omega) ?_
  refine zs_arg (j := 2) dL_law_703 dL_law_704 dL_law_706 dL_law_707 dL_law_708 rfl (by decide) hL (by omega) ?_
  refine zs_callVi cC gL_law_X6_plant rfl dL_law_709 rfl rfl rfl okk_X6_plant (Nat.le_of_ble_eq_true rfl) h0 rfl ⟨Nat.le_of_ble_eq_true rfl, Nat.le_of_ble_eq_true rfl⟩ ⟨hcu, hsu⟩ (Nat.le_of_ble_eq_true rfl) ?_
  refine zs_aload_n (k := 2) dL_law_712 rfl rfl ?_
  refine zs_arg (j := 1) dL_law_713 dL_law_714 dL_law_716 dL_law_717 dL_law_718 rfl (by decide) hL (by omega) ?_
  refine zs_arg (j := 2) dL_law_719 dL_law_720 dL_law_722 dL_law_723 dL_law_724 rfl (by decide) hL (by omega) ?_
  refine zs_callVi cR gL_law_X7_plant rfl dL_law_725 rfl rfl rfl okk_X7_plant (Nat.le_of_ble_eq_true rfl) e76 rfl ⟨Nat.le_of_ble_eq_true rfl, Nat.le_of_ble_eq_true rfl⟩ ⟨hcu, hsu⟩ (Nat.le_of_ble_eq_true rfl) ?_
  exact zs_icmp_eq (tgt := 919) dL_law_728 rfl (by decide) (fun _ => K _ _ _ _ hI2) (fun q => absurd rfl q)
theorem lc_proof {G : zG} {b9 L9 : Nat} {xs9 : Nat → Int32} {i : Nat} {o5 o6 : Option Value} {J : Nat → Int64} {g : Nat → va_E} {cu su : Nat} (hL : L9 ≤ 2560) (hi : i + 4 < L9) (hI : INVS G J g) (hcu : cu ≤ 601024) (hsu : su ≤ 7293034) (K : ∀ (J' : Nat → Int64) (g' : Nat → va_E) (o5' o6' : Option Value), INVS G J' g' → ZL G b9 L9 xs9 919 (lvL G b9 i o5' o6') [] (zN, g') cu su) : ZL G b9 L9 xs9 733 (lvL G b9 i o5 o6) [] (zN, g) cu su := by
  obtain ⟨h, hg, ⟨fs, h0⟩, v, g1, g2, cC, cR, e0, ⟨fs1, e76⟩, hI2⟩ := stp_proof G hI 
  refine zs_agree (nn := zN) hg ?_
  refine zs_aload_n (k := 1) dL_law_733 rfl rfl ?_
  refine zs_callVi cC gL_law_X6_proof rfl dL_law_734 rfl rfl rfl okk_X6_proof (Nat.le_of_ble_eq_true rfl) h0 rfl ⟨Nat.le_of_ble_eq_true rfl, Nat.le_of_ble_eq_true rfl⟩ ⟨hcu, hsu⟩ (Nat.le_of_ble_eq_true rfl) ?_
  refine zs_aload_n (k := 2) dL_law_737 rfl rfl ?_
  refine zs_callVi cR gL_law_X7_proof rfl dL_law_738 rfl rfl rfl okk_X7_proof (Nat.le_of_ble_eq_true rfl) e76 rfl ⟨Nat.le_of_ble_eq_true rfl, Nat.le_of_ble_eq_true rfl⟩ ⟨hcu, hsu⟩ (Nat.le_of_ble_eq_true rfl) ?_
  exact zs_icmp_eq (tgt := 919) dL_law_741 rfl (by decide) (fun _ => K _ _ _ _ hI2) (fun q => absurd rfl q)
theorem lc_known {G : zG} {b9 L9 : Nat} {xs9 : Nat → Int32} {i : Nat} {o5 o6 : Option Value} {J : Nat → Int64} {g : Nat → va_E} {cu su : Nat} (hL : L9 ≤ 2560) (hi : i + 4 < L9) (hI : INVS G J g) (hcu : cu ≤ 601024) (hsu : su ≤ 7293034) (K : ∀ (J' : Nat → Int64) (g' : Nat → va_E) (o5' o6' : Option Value), INVS G J' g' → ZL G b9 L9 xs9 919 (lvL G b9 i o5' o6') [] (zN, g') cu su) : ZL G b9 L9 xs9 746 (lvL G b9 i o5 o6) [] (zN, g) cu su := by
  obtain ⟨h, hg, ⟨fs, h0⟩, v, g1, g2, cC, cR, e0, ⟨fs1, e76⟩, hI2⟩ := stp_known G hI (xs9 (i + 1)) (xs9 (i + 2)) (xs9 (i + 3))
  refine zs_agree (nn := zN) hg ?_
  refine zs_aload_n (k := 1) dL_law_746 rfl rfl ?_
  refine zs_arg (j := 1) dL_law_747 dL_law_748 dL_law_750 dL_law_751 dL_law_752 rfl (by decide) hL (by omega) ?_
  refine zs_arg (j := 2) dL_law_753 dL_law_754 dL_law_756 dL_law_757 dL_law_758 rfl (by decide) hL (by omega) ?_
  refine zs_arg (j := 3) dL_law_759 dL_law_760 dL_law_762 dL_law_763 dL_law_764 rfl (by decide) hL (by omega) ?_
  refine zs_callVi cC gL_law_X6_known rfl dL_law_765 rfl rfl rfl okk_X6_known (Nat.le_of_ble_eq_true rfl) h0 rfl ⟨Nat.le_of_ble_eq_true rfl, Nat.le_of_ble_eq_true rfl⟩ ⟨hcu, hsu⟩ (Nat.le_of_ble_eq_true rfl) ?_
  refine zs_aload_n (k := 2) dL_law_768 rfl rfl ?_
  refine zs_arg (j := 1) dL_law_769 dL_law_770 dL_law_772 dL_law_773 dL_law_774 rfl (by decide) hL (by omega) ?_
  refine zs_arg (j := 2) dL_law_775 dL_law_776 dL_law_778 dL_law_779 dL_law_780 rfl (by decide) hL (by omega) ?_
  refine zs_arg (j := 3) dL_law_781 dL_law_782 dL_law_784 dL_law_785 dL_law_786 rfl (by decide) hL (by omega) ?_
  refine zs_callVi cR gL_law_X7_known rfl dL_law_787 rfl rfl rfl okk_X7_known (Nat.le_of_ble_eq_true rfl) e76 rfl ⟨Nat.le_of_ble_eq_true rfl, Nat.le_of_ble_eq_true rfl⟩ ⟨hcu, hsu⟩ (Nat.le_of_ble_eq_true rfl) ?_
  exact zs_icmp_eq (tgt := 919) dL_law_790 rfl (by decide) (fun _ => K _ _ _ _ hI2) (fun q => absurd rfl q)
theorem lc_certificate {G : zG} {b9 L9 : Nat} {xs9 : Nat → Int32} {i : Nat} {o5 o6 : Option Value} {J : Nat → Int64} {g : Nat → va_E} {cu su : Nat} (hL : L9 ≤ 2560) (hi : i + 4 < L9) (hI : INVS G J g) (hcu : cu ≤ 601024) (hsu : su ≤ 7293034) (K : ∀ (J' : Nat → Int64) (g' : Nat → va_E) (o5' o6' : Option Value), INVS G J' g' → ZL G b9 L9 xs9 919 (lvL G b9 i o5' o6') [] (zN, g') cu su) : ZL G b9 L9 xs9 795 (lvL G b9 i o5 o6) [] (zN, g) cu su := by
  obtain ⟨h, hg, ⟨fs, h0⟩, v, g1, g2, cC, cR, e0, ⟨fs1, e76⟩, hI2⟩ := stp_certificate G hI (xs9 (i + 1)) (xs9 (i + 2))
  refine zs_agree (nn := zN) hg ?_
  refine zs_aload_n (k := 1) dL_law_795 rfl rfl ?_
  refine zs_arg (j := 1) dL_law_796 dL_law_797 dL_law_799 dL_law_800 dL_law_801 rfl (by decide) hL (by omega) ?_
  refine zs_arg (j := 2) dL_law_802 dL_law_803 dL_law_805 dL_law_806 dL_law_807 rfl (by decide) hL (by omega) ?_
  refine zs_callVi cC gL_law_X6_certificate rfl dL_law_808 rfl rfl rfl okk_X6_certificate (Nat.le_of_ble_eq_true rfl) h0 rfl ⟨Nat.le_of_ble_eq_true rfl, Nat.le_of_ble_eq_true rfl⟩ ⟨hcu, hsu⟩ (Nat.le_of_ble_eq_true rfl) ?_
  refine zs_aload_n (k := 2) dL_law_811 rfl rfl ?_
  refine zs_arg (j := 1) dL_law_812 dL_law_813 dL_law_815 dL_law_816 dL_law_817 rfl (by decide) hL (by omega) ?_
  refine zs_arg (j := 2) dL_law_818 dL_law_819 dL_law_821 dL_law_822 dL_law_823 rfl (by decide) hL (by omega) ?_
  refine zs_callVi cR gL_law_X7_certificate rfl dL_law_824 rfl rfl rfl okk_X7_certificate (Nat.le_of_ble_eq_true rfl) e76 rfl ⟨Nat.le_of_ble_eq_true rfl, Nat.le_of_ble_eq_true rfl⟩ ⟨hcu, hsu⟩ (Nat.le_of_ble_eq_true rfl) ?_
  exact zs_icmp_eq (tgt := 919) dL_law_827 rfl (by decide) (fun _ => K _ _ _ _ hI2) (fun q => absurd rfl q)
theorem lc_kinds {G : zG} {b9 L9 : Nat} {xs9 : Nat → Int32} {i : Nat} {o5 o6 : Option Value} {J : Nat → Int64} {g : Nat → va_E} {cu su : Nat} (hL : L9 ≤ 2560) (hi : i + 4 < L9) (hI : INVS G J g) (hcu : cu ≤ 601024) (hsu : su ≤ 7293034) (K : ∀ (J' : Nat → Int64) (g' : Nat → va_E) (o5' o6' : Option Value), INVS G J' g' → ZL G b9 L9 xs9 919 (lvL G b9 i o5' o6') [] (zN, g') cu su) : ZL G b9 L9 xs9 832 (lvL G b9 i o5 o6) [] (zN, g) cu su := by
  obtain ⟨h, hg, ⟨fs, h0⟩, v, g1, g2, cC, cR, e0, ⟨fs1, e76⟩, hI2⟩ := stp_kinds G hI (xs9 (i + 1)) (xs9 (i + 2))
  refine zs_agree (nn := zN) hg ?_
  refine zs_aload_n (k := 1) dL_law_832 rfl rfl ?_
  refine zs_arg (j := 1) dL_law_833 dL_law_834 dL_law_836 dL_law_837 dL_law_838 rfl (by decide) hL (by omega) ?_
  refine zs_arg (j := 2) dL_law_839 dL_law_840 dL_law_842 dL_law_843 dL_law_844 rfl (by decide) hL (by omega) ?_
  refine zs_callVi cC gL_law_X6_kinds rfl dL_law_845 rfl rfl rfl okk_X6_kinds (Nat.le_of_ble_eq_true rfl) h0 rfl ⟨Nat.le_of_ble_eq_true rfl, Nat.le_of_ble_eq_true rfl⟩ ⟨hcu, hsu⟩ (Nat.le_of_ble_eq_true rfl) ?_
  refine zs_aload_n (k := 2) dL_law_848 rfl rfl ?_
  refine zs_arg (j := 1) dL_law_849 dL_law_850 dL_law_852 dL_law_853 dL_law_854 rfl (by decide) hL (by omega) ?_
  refine zs_arg (j := 2) dL_law_855 dL_law_856 dL_law_858 dL_law_859 dL_law_860 rfl (by decide) hL (by omega) ?_
  refine zs_callVi cR gL_law_X7_kinds rfl dL_law_861 rfl rfl rfl okk_X7_kinds (Nat.le_of_ble_eq_true rfl) e76 rfl ⟨Nat.le_of_ble_eq_true rfl, Nat.le_of_ble_eq_true rfl⟩ ⟨hcu, hsu⟩ (Nat.le_of_ble_eq_true rfl) ?_
  exact zs_icmp_eq (tgt := 919) dL_law_864 rfl (by decide) (fun _ => K _ _ _ _ hI2) (fun q => absurd rfl q)
theorem lc_canonical {G : zG} {b9 L9 : Nat} {xs9 : Nat → Int32} {i : Nat} {o5 o6 : Option Value} {J : Nat → Int64} {g : Nat → va_E} {cu su : Nat} (hL : L9 ≤ 2560) (hi : i + 4 < L9) (hI : INVS G J g) (hcu : cu ≤ 601024) (hsu : su ≤ 7293034) (K : ∀ (J' : Nat → Int64) (g' : Nat → va_E) (o5' o6' : Option Value), INVS G J' g' → ZL G b9 L9 xs9 919 (lvL G b9 i o5' o6') [] (zN, g') cu su) : ZL G b9 L9 xs9 869 (lvL G b9 i o5 o6) [] (zN, g) cu su := by
  obtain ⟨h, hg, ⟨fs, h0⟩, v, g1, g2, cC, cR, e0, ⟨fs1, e76⟩, hI2⟩ := stp_canonical G hI (xs9 (i + 1))
  refine zs_agree (nn := zN) hg ?_
  refine zs_aload_n (k := 1) dL_law_869 rfl rfl ?_
  refine zs_arg (j := 1) dL_law_870 dL_law_871 dL_law_873 dL_law_874 dL_law_875 rfl (by decide) hL (by omega) ?_
  refine zs_callVi cC gL_law_X6_canonical rfl dL_law_876 rfl rfl rfl okk_X6_canonical (Nat.le_of_ble_eq_true rfl) h0 rfl ⟨Nat.le_of_ble_eq_true rfl, Nat.le_of_ble_eq_true rfl⟩ ⟨hcu, hsu⟩ (Nat.le_of_ble_eq_true rfl) ?_
  refine zs_aload_n (k := 2) dL_law_879 rfl rfl ?_
  refine zs_arg (j := 1) dL_law_880 dL_law_881 dL_law_883 dL_law_884 dL_law_885 rfl (by decide) hL (by omega) ?_
  refine zs_callVi cR gL_law_X7_canonical rfl dL_law_886 rfl rfl rfl okk_X7_canonical (Nat.le_of_ble_eq_true rfl) e76 rfl ⟨Nat.le_of_ble_eq_true rfl, Nat.le_of_ble_eq_true rfl⟩ ⟨hcu, hsu⟩ (Nat.le_of_ble_eq_true rfl) ?_
  exact zs_icmp_eq (tgt := 919) dL_law_889 rfl (by decide) (fun _ => K _ _ _ _ hI2) (fun q => absurd rfl q)
theorem lc_orbit {G : zG} {b9 L9 : Nat} {xs9 : Nat → Int32} {i : Nat} {o5 o6 : Option Value} {J : Nat → Int64} {g : Nat → va_E} {cu su : Nat} (hL : L9 ≤ 2560) (hi : i + 4 < L9) (hI : INVS G J g) (hcu : cu ≤ 601024) (hsu : su ≤ 7293034) (K : ∀ (J' : Nat → Int64) (g' : Nat → va_E) (o5' o6' : Option Value), INVS G J' g' → ZL G b9 L9 xs9 919 (lvL G b9 i o5' o6') [] (zN, g') cu su) : ZL G b9 L9 xs9 894 (lvL G b9 i o5 o6) [] (zN, g) cu su := by
  obtain ⟨h, hg, ⟨fs, h0⟩, v, g1, g2, cC, cR, e0, ⟨fs1, e76⟩, hI2⟩ := stp_orbit G hI (xs9 (i + 1))
  refine zs_agree (nn := zN) hg ?_
  refine zs_aload_n (k := 1) dL_law_894 rfl rfl ?_
  refine zs_arg (j := 1) dL_law_895 dL_law_896 dL_law_898 dL_law_899 dL_law_900 rfl (by decide) hL (by omega) ?_
  refine zs_callVi cC gL_law_X6_orbit rfl dL_law_901 rfl rfl rfl okk_X6_orbit (Nat.le_of_ble_eq_true rfl) h0 rfl ⟨Nat.le_of_ble_eq_true rfl, Nat.le_of_ble_eq_true rfl⟩ ⟨hcu, hsu⟩ (Nat.le_of_ble_eq_true rfl) ?_
  refine zs_aload_n (k := 2) dL_law_904 rfl rfl ?_
  refine zs_arg (j := 1) dL_law_905 dL_law_906 dL_law_908 dL_law_909 dL_law_910 rfl (by decide) hL (by omega) ?_
  refine zs_callVi cR gL_law_X7_orbit rfl dL_law_911 rfl rfl rfl okk_X7_orbit (Nat.le_of_ble_eq_true rfl) e76 rfl ⟨Nat.le_of_ble_eq_true rfl, Nat.le_of_ble_eq_true rfl⟩ ⟨hcu, hsu⟩ (Nat.le_of_ble_eq_true rfl) ?_
  exact zs_icmp_eq (tgt := 919) dL_law_914 rfl (by decide) (fun _ => K _ _ _ _ hI2) (fun q => absurd rfl q)
