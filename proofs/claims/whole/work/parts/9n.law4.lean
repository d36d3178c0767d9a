/-! the law: one step for each case -/
theorem G_same {X : gX} {cc : ByteArray} {own : String} {pc q tgt : Nat} {Ls : List (Option Value)} {st : List Value} {T : gT} {I : gI} {J : gJ} {O : gO} {k n : Nat} {z : Int} (x : Ok X cc own) (d : Db cc pc (.if_icmp .eq) tgt q) (h : G X tgt Ls st T I J O k n) : G X pc Ls (VI z :: VI z :: st) T I J O k n := by
  rw [show VI z = VI (Int32.ofInt z).toInt from VI_of _]
  exact G_icmp_eq x d (i32_in _) (i32_in _) (fun _ => h) (fun e => absurd rfl e)
theorem st_make {X : gX} {b L ss mo oa : Nat} {xs : Nat → Int32} {T : gT} {I : gI} {J : gJ} {O : gO} {i : Int} {o5 o6 : Option Value} {kc nc : Nat} (Q : LawC X b L xs) (hL : L ≤ 2560) (h : LI ss mo oa T I J O) (i0 : 0 ≤ i) (i1 : i + 5 ≤ L) (hk : kc + 10 ≤ 601024) (hn : nc + 140 ≤ 7293034) (kk : ∀ T' I' J' O' o5 o6 k' n', LI ss mo oa T' I' J' O' → k' ≤ kc + 10 → n' ≤ nc + 140 → G X 2196 (lwL b ss mo oa i o5 o6) [] T' I' J' O' k' n') : G X 168 (lwL b ss mo oa i o5 o6) [] T I J O kc nc := by
  have Q0 := Q
  obtain ⟨x, rm, hnc, hs⟩ := Q
  have hN := h.2.2.2.2.2.1
  have hI := h.2.2.2.2.1
  have hX := h.2.2.2.2.2.2.1
  have hR := h.2.2.2.2.2.2.2
  refine G_aload1 x eL_law_168 ?_
  refine G_arg x hs eL_law_169 eL_law_170 eL_law_172 eL_law_173 eL_law_174 (by omega) (by omega) hL ?_
  refine G_arg x hs eL_law_175 eL_law_176 eL_law_178 eL_law_179 eL_law_180 (by omega) (by omega) hL ?_
  refine G_tb x sx_b eL_law_181 eL_law_184 eL_law_185 eL_law_188 ?_
  refine G_arg x hs eL_law_189 eL_law_190 eL_law_192 eL_law_193 eL_law_194 (by omega) (by omega) hL ?_
  refine G_aload3 x eL_law_195 ?_
  refine G_cSH x hnc eL_law_196 kH_103 rm (ct_w_make (B := oa) (T := T) (I := I) (J := J) (O := O) h.2.2.2.1 hI hN.1 hN.2 (sx_b (xs := xs) (z := i + 1)) (bo_b (z := (sx xs (i + 2)))) (sx_b (xs := xs) (z := i + 3)) h.2.2.1 h.hoa) rfl ?_
  intro v9 T1 I1 J1 O1 p1
  obtain ⟨rfl, hF, hA, hZ⟩ := p1
  have M := h.md hF
  have m0 := M.2.2.1
  have m1 := M.2.2.2.1
  have m2 := M.2.2.2.2.1
  have m4 := M.2.2.2.2.2.1
  have m8 := M.2.2.2.2.2.2
  refine G_istore5 x eL_law_199 ?_
  refine G_aload2 x eL_law_201 ?_
  refine G_arg x hs eL_law_202 eL_law_203 eL_law_205 eL_law_206 eL_law_207 (by omega) (by omega) hL ?_
  refine G_arg x hs eL_law_208 eL_law_209 eL_law_211 eL_law_212 eL_law_213 (by omega) (by omega) hL ?_
  refine G_tb x sx_b eL_law_214 eL_law_217 eL_law_218 eL_law_221 ?_
  refine G_arg x hs eL_law_222 eL_law_223 eL_law_225 eL_law_226 eL_law_227 (by omega) (by omega) hL ?_
  have C := ct_X11_make (T := T1) (I := I1) (J := J1) (O := O1) (mo := mo) M.1 (sx_b (xs := xs) (z := i + 1)) (bo_b (z := (sx xs (i + 2)))) (sx_b (xs := xs) (z := i + 3)) (by rw [m0]; exact hN) (fun a c => by rw [m1]; exact hI.pr a c)
  rw [m1] at C
  refine G_cVg x eL_law_228 kL_108 im_yX11_make se_yX11_make rm M.1.m C rfl ?_
  intro v8 T2 I2 J2 O2 hp
  have key : ∃ ans, v8 = some (VI ans) ∧ LI ss mo oa T2 I2 J2 O2 ∧ I2 mo 6 = mkThr (I (mo + 1)) (sx xs (i + 1)) (bo (sx xs (i + 2))) (sx xs (i + 3)) ∧ (mkThr (I (mo + 1)) (sx xs (i + 1)) (bo (sx xs (i + 2))) (sx xs (i + 3)) = 0 → J2 oa 0 = i2L ans) := by
    by_cases ht : mkThr (I (mo + 1)) (sx xs (i + 1)) (bo (sx xs (i + 2))) (sx xs (i + 3)) = 0
    · rw [if_pos ht] at hp
      obtain ⟨z1, hw⟩ := hA ht
      obtain ⟨rfl, c1⟩ := mOut_c hp
      obtain ⟨l2, t2, j2⟩ := h.do M hw c1 (I_make hI bo_b ht)
      exact ⟨_, rfl, l2, t2.trans ht.symm, fun _ => j2.trans z1⟩
    · rw [if_neg ht] at hp
      obtain ⟨rfl, c1⟩ := mOut_c hp
      obtain ⟨l2, t2, j2⟩ := h.say M (hZ ht) c1
      exact ⟨_, rfl, l2, t2, fun e => absurd e ht⟩
  obtain ⟨ans, rfl, l2, t2, j2⟩ := key
  exact G_tail Q0 eL_law_231 eL_law_233 eL_law_234 eL_law_237 eL_law_239 eL_law_244 eL_law_246 eL_law_249 eL_law_250 eL_law_251 eL_law_252 eL_law_254 eL_law_255 eL_law_256 eL_law_261 l2 t2 j2 (by omega) (by omega) (kk _ _ _ _ _ _ _ _ l2 (by omega) (by omega))
theorem st_move {X : gX} {b L ss mo oa : Nat} {xs : Nat → Int32} {T : gT} {I : gI} {J : gJ} {O : gO} {i : Int} {o5 o6 : Option Value} {kc nc : Nat} (Q : LawC X b L xs) (hL : L ≤ 2560) (h : LI ss mo oa T I J O) (i0 : 0 ≤ i) (i1 : i + 5 ≤ L) (hk : kc + 10 ≤ 601024) (hn : nc + 140 ≤ 7293034) (kk : ∀ T' I' J' O' o5 o6 k' n', LI ss mo oa T' I' J' O' → k' ≤ kc + 10 → n' ≤ nc + 140 → G X 2196 (lwL b ss mo oa i o5 o6) [] T' I' J' O' k' n') : G X 264 (lwL b ss mo oa i o5 o6) [] T I J O kc nc := by
  have Q0 := Q
  obtain ⟨x, rm, hnc, hs⟩ := Q
  have hN := h.2.2.2.2.2.1
  have hI := h.2.2.2.2.1
  have hX := h.2.2.2.2.2.2.1
  have hR := h.2.2.2.2.2.2.2
  refine G_aload1 x eL_law_264 ?_
  refine G_arg x hs eL_law_265 eL_law_266 eL_law_268 eL_law_269 eL_law_270 (by omega) (by omega) hL ?_
  refine G_arg x hs eL_law_271 eL_law_272 eL_law_274 eL_law_275 eL_law_276 (by omega) (by omega) hL ?_
  refine G_tb x sx_b eL_law_277 eL_law_280 eL_law_281 eL_law_284 ?_
  refine G_arg x hs eL_law_285 eL_law_286 eL_law_288 eL_law_289 eL_law_290 (by omega) (by omega) hL ?_
  refine G_arg x hs eL_law_291 eL_law_292 eL_law_294 eL_law_295 eL_law_296 (by omega) (by omega) hL ?_
  refine G_aload3 x eL_law_297 ?_
  refine G_cSH x hnc eL_law_298 kH_112 rm (ct_w_move (B := oa) (T := T) (I := I) (J := J) (O := O) h.2.2.2.1 hI hN.1 hN.2 (sx_b (xs := xs) (z := i + 1)) (bo_b (z := (sx xs (i + 2)))) (sx_b (xs := xs) (z := i + 3)) (sx_b (xs := xs) (z := i + 4)) h.2.2.1 h.hoa) rfl ?_
  intro v9 T1 I1 J1 O1 p1
  obtain ⟨rfl, hF, hA, hZ⟩ := p1
  have M := h.md hF
  have m0 := M.2.2.1
  have m1 := M.2.2.2.1
  have m2 := M.2.2.2.2.1
  have m4 := M.2.2.2.2.2.1
  have m8 := M.2.2.2.2.2.2
  refine G_istore5 x eL_law_301 ?_
  refine G_aload2 x eL_law_303 ?_
  refine G_arg x hs eL_law_304 eL_law_305 eL_law_307 eL_law_308 eL_law_309 (by omega) (by omega) hL ?_
  refine G_arg x hs eL_law_310 eL_law_311 eL_law_313 eL_law_314 eL_law_315 (by omega) (by omega) hL ?_
  refine G_tb x sx_b eL_law_316 eL_law_319 eL_law_320 eL_law_323 ?_
  refine G_arg x hs eL_law_324 eL_law_325 eL_law_327 eL_law_328 eL_law_329 (by omega) (by omega) hL ?_
  refine G_arg x hs eL_law_330 eL_law_331 eL_law_333 eL_law_334 eL_law_335 (by omega) (by omega) hL ?_
  have C := ct_X11_move (T := T1) (I := I1) (J := J1) (O := O1) (mo := mo) M.1 (sx_b (xs := xs) (z := i + 1)) (bo_b (z := (sx xs (i + 2)))) (sx_b (xs := xs) (z := i + 3)) (sx_b (xs := xs) (z := i + 4)) (by rw [m0]; exact hN) (fun a c => by rw [m1]; exact hI.pr a c)
  rw [m1] at C
  refine G_cVg x eL_law_336 kL_115 im_yX11_move se_yX11_move rm M.1.m C rfl ?_
  intro v8 T2 I2 J2 O2 hp
  have key : ∃ ans, v8 = some (VI ans) ∧ LI ss mo oa T2 I2 J2 O2 ∧ I2 mo 6 = mvThr (I (mo + 1)) (sx xs (i + 1)) (bo (sx xs (i + 2))) (sx xs (i + 3)) (sx xs (i + 4)) ∧ (mvThr (I (mo + 1)) (sx xs (i + 1)) (bo (sx xs (i + 2))) (sx xs (i + 3)) (sx xs (i + 4)) = 0 → J2 oa 0 = i2L ans) := by
    by_cases ht : mvThr (I (mo + 1)) (sx xs (i + 1)) (bo (sx xs (i + 2))) (sx xs (i + 3)) (sx xs (i + 4)) = 0
    · rw [if_pos ht] at hp
      obtain ⟨z1, hw⟩ := hA ht
      obtain ⟨rfl, c1⟩ := mOut_c hp
      obtain ⟨l2, t2, j2⟩ := h.do M hw c1 (I_move hI bo_b ht)
      exact ⟨_, rfl, l2, t2.trans ht.symm, fun _ => j2.trans z1⟩
    · rw [if_neg ht] at hp
      obtain ⟨rfl, c1⟩ := mOut_c hp
      obtain ⟨l2, t2, j2⟩ := h.say M (hZ ht) c1
      exact ⟨_, rfl, l2, t2, fun e => absurd e ht⟩
  obtain ⟨ans, rfl, l2, t2, j2⟩ := key
  exact G_tail Q0 eL_law_339 eL_law_341 eL_law_342 eL_law_345 eL_law_347 eL_law_352 eL_law_354 eL_law_357 eL_law_358 eL_law_359 eL_law_360 eL_law_362 eL_law_363 eL_law_364 eL_law_369 l2 t2 j2 (by omega) (by omega) (kk _ _ _ _ _ _ _ _ l2 (by omega) (by omega))
theorem st_remove {X : gX} {b L ss mo oa : Nat} {xs : Nat → Int32} {T : gT} {I : gI} {J : gJ} {O : gO} {i : Int} {o5 o6 : Option Value} {kc nc : Nat} (Q : LawC X b L xs) (hL : L ≤ 2560) (h : LI ss mo oa T I J O) (i0 : 0 ≤ i) (i1 : i + 5 ≤ L) (hk : kc + 10 ≤ 601024) (hn : nc + 140 ≤ 7293034) (kk : ∀ T' I' J' O' o5 o6 k' n', LI ss mo oa T' I' J' O' → k' ≤ kc + 10 → n' ≤ nc + 140 → G X 2196 (lwL b ss mo oa i o5 o6) [] T' I' J' O' k' n') : G X 372 (lwL b ss mo oa i o5 o6) [] T I J O kc nc := by
  have Q0 := Q
  obtain ⟨x, rm, hnc, hs⟩ := Q
  have hN := h.2.2.2.2.2.1
  have hI := h.2.2.2.2.1
  have hX := h.2.2.2.2.2.2.1
  have hR := h.2.2.2.2.2.2.2
  refine G_aload1 x eL_law_372 ?_
  refine G_arg x hs eL_law_373 eL_law_374 eL_law_376 eL_law_377 eL_law_378 (by omega) (by omega) hL ?_
  refine G_arg x hs eL_law_379 eL_law_380 eL_law_382 eL_law_383 eL_law_384 (by omega) (by omega) hL ?_
  refine G_tb x sx_b eL_law_385 eL_law_388 eL_law_389 eL_law_392 ?_
  refine G_arg x hs eL_law_393 eL_law_394 eL_law_396 eL_law_397 eL_law_398 (by omega) (by omega) hL ?_
  refine G_aload3 x eL_law_399 ?_
  refine G_cSH x hnc eL_law_400 kH_116 rm (ct_w_remove (B := oa) (T := T) (I := I) (J := J) (O := O) h.2.2.2.1 hI hN.1 hN.2 (sx_b (xs := xs) (z := i + 1)) (bo_b (z := (sx xs (i + 2)))) (sx_b (xs := xs) (z := i + 3)) h.2.2.1 h.hoa) rfl ?_
  intro v9 T1 I1 J1 O1 p1
  obtain ⟨rfl, hF, hA, hZ⟩ := p1
  have M := h.md hF
  have m0 := M.2.2.1
  have m1 := M.2.2.2.1
  have m2 := M.2.2.2.2.1
  have m4 := M.2.2.2.2.2.1
  have m8 := M.2.2.2.2.2.2
  refine G_istore5 x eL_law_403 ?_
  refine G_aload2 x eL_law_405 ?_
  refine G_arg x hs eL_law_406 eL_law_407 eL_law_409 eL_law_410 eL_law_411 (by omega) (by omega) hL ?_
  refine G_arg x hs eL_law_412 eL_law_413 eL_law_415 eL_law_416 eL_law_417 (by omega) (by omega) hL ?_
  refine G_tb x sx_b eL_law_418 eL_law_421 eL_law_422 eL_law_425 ?_
  refine G_arg x hs eL_law_426 eL_law_427 eL_law_429 eL_law_430 eL_law_431 (by omega) (by omega) hL ?_
  have C := ct_X11_remove (T := T1) (I := I1) (J := J1) (O := O1) (mo := mo) M.1 (sx_b (xs := xs) (z := i + 1)) (bo_b (z := (sx xs (i + 2)))) (sx_b (xs := xs) (z := i + 3)) (by rw [m0]; exact hN) (fun a c => by rw [m1]; exact hI.pr a c)
  rw [m1] at C
  refine G_cVg x eL_law_432 kL_118 im_yX11_remove se_yX11_remove rm M.1.m C rfl ?_
  intro v8 T2 I2 J2 O2 hp
  have key : ∃ ans, v8 = some (VI ans) ∧ LI ss mo oa T2 I2 J2 O2 ∧ I2 mo 6 = rmThr (I (mo + 1)) (sx xs (i + 1)) (bo (sx xs (i + 2))) (sx xs (i + 3)) ∧ (rmThr (I (mo + 1)) (sx xs (i + 1)) (bo (sx xs (i + 2))) (sx xs (i + 3)) = 0 → J2 oa 0 = i2L ans) := by
    by_cases ht : rmThr (I (mo + 1)) (sx xs (i + 1)) (bo (sx xs (i + 2))) (sx xs (i + 3)) = 0
    · rw [if_pos ht] at hp
      obtain ⟨z1, hw⟩ := hA ht
      obtain ⟨rfl, c1⟩ := mOut_c hp
      obtain ⟨l2, t2, j2⟩ := h.do M hw c1 (I_remove hI bo_b ht)
      exact ⟨_, rfl, l2, t2.trans ht.symm, fun _ => j2.trans z1⟩
    · rw [if_neg ht] at hp
      obtain ⟨rfl, c1⟩ := mOut_c hp
      obtain ⟨l2, t2, j2⟩ := h.say M (hZ ht) c1
      exact ⟨_, rfl, l2, t2, fun e => absurd e ht⟩
  obtain ⟨ans, rfl, l2, t2, j2⟩ := key
  exact G_tail Q0 eL_law_435 eL_law_437 eL_law_438 eL_law_441 eL_law_443 eL_law_448 eL_law_450 eL_law_453 eL_law_454 eL_law_455 eL_law_456 eL_law_458 eL_law_459 eL_law_460 eL_law_465 l2 t2 j2 (by omega) (by omega) (kk _ _ _ _ _ _ _ _ l2 (by omega) (by omega))
theorem st_shown {X : gX} {b L ss mo oa : Nat} {xs : Nat → Int32} {T : gT} {I : gI} {J : gJ} {O : gO} {i : Int} {o5 o6 : Option Value} {kc nc : Nat} (Q : LawC X b L xs) (hL : L ≤ 2560) (h : LI ss mo oa T I J O) (i0 : 0 ≤ i) (i1 : i + 5 ≤ L) (hk : kc + 10 ≤ 601024) (hn : nc + 140 ≤ 7293034) (kk : ∀ T' I' J' O' o5 o6 k' n', LI ss mo oa T' I' J' O' → k' ≤ kc + 10 → n' ≤ nc + 140 → G X 2196 (lwL b ss mo oa i o5 o6) [] T' I' J' O' k' n') : G X 468 (lwL b ss mo oa i o5 o6) [] T I J O kc nc := by
  have Q0 := Q
  obtain ⟨x, rm, hnc, hs⟩ := Q
  have hN := h.2.2.2.2.2.1
  have hI := h.2.2.2.2.1
  have hX := h.2.2.2.2.2.2.1
  have hR := h.2.2.2.2.2.2.2
  refine G_aload1 x eL_law_468 ?_
  refine G_arg x hs eL_law_469 eL_law_470 eL_law_472 eL_law_473 eL_law_474 (by omega) (by omega) hL ?_
  refine G_arg x hs eL_law_475 eL_law_476 eL_law_478 eL_law_479 eL_law_480 (by omega) (by omega) hL ?_
  refine G_tb x sx_b eL_law_481 eL_law_484 eL_law_485 eL_law_488 ?_
  refine G_aload3 x eL_law_489 ?_
  refine G_cSH x hnc eL_law_490 kH_119 rm (ct_w_shown (B := oa) (T := T) (I := I) (J := J) (O := O) h.2.2.2.1 hI (sx_b (xs := xs) (z := i + 1)) (bo_b (z := (sx xs (i + 2)))) h.2.2.1 h.hoa) rfl ?_
  intro v9 T1 I1 J1 O1 p1
  obtain ⟨rfl, hF, hA, hZ⟩ := p1
  have M := h.md hF
  have m0 := M.2.2.1
  have m1 := M.2.2.2.1
  have m2 := M.2.2.2.2.1
  have m4 := M.2.2.2.2.2.1
  have m8 := M.2.2.2.2.2.2
  refine G_istore5 x eL_law_493 ?_
  refine G_aload2 x eL_law_495 ?_
  refine G_arg x hs eL_law_496 eL_law_497 eL_law_499 eL_law_500 eL_law_501 (by omega) (by omega) hL ?_
  refine G_arg x hs eL_law_502 eL_law_503 eL_law_505 eL_law_506 eL_law_507 (by omega) (by omega) hL ?_
  refine G_tb x sx_b eL_law_508 eL_law_511 eL_law_512 eL_law_515 ?_
  have C := ct_X11_shown (T := T1) (I := I1) (J := J1) (O := O1) (mo := mo) M.1 (sx_b (xs := xs) (z := i + 1)) (bo_b (z := (sx xs (i + 2))))
  rw [m1] at C
  refine G_cVg x eL_law_516 kL_122 im_yX11_shown se_yX11_shown rm M.1.m C rfl ?_
  intro v8 T2 I2 J2 O2 hp
  have key : ∃ ans, v8 = some (VI ans) ∧ LI ss mo oa T2 I2 J2 O2 ∧ I2 mo 6 = iThr (sx xs (i + 1)) ∧ (iThr (sx xs (i + 1)) = 0 → J2 oa 0 = i2L ans) := by
    by_cases hc : 0 ≤ (sx xs (i + 1)) ∧ (sx xs (i + 1)) ≤ 2
    · have ht : iThr (sx xs (i + 1)) = 0 := if_pos hc
      rw [if_pos hc] at hp
      obtain ⟨z1, hw⟩ := hA ht
      obtain ⟨rfl, c1⟩ := mOut_c hp
      obtain ⟨l2, t2, j2⟩ := h.say M hw c1
      exact ⟨_, rfl, l2, t2.trans ht.symm, fun _ => j2.trans z1⟩
    · have ht : iThr (sx xs (i + 1)) = 1 := if_neg hc
      rw [if_neg hc] at hp
      obtain ⟨rfl, c1⟩ := mOut_c hp
      obtain ⟨l2, t2, j2⟩ := h.say M (hZ (by rw [ht]; decide)) c1
      exact ⟨_, rfl, l2, t2.trans ht.symm, fun e => absurd (ht.symm.trans e) (by decide)⟩
  obtain ⟨ans, rfl, l2, t2, j2⟩ := key
  exact G_tail Q0 eL_law_519 eL_law_521 eL_law_522 eL_law_525 eL_law_527 eL_law_532 eL_law_534 eL_law_537 eL_law_538 eL_law_539 eL_law_540 eL_law_542 eL_law_543 eL_law_544 eL_law_549 l2 t2 j2 (by omega) (by omega) (kk _ _ _ _ _ _ _ _ l2 (by omega) (by omega))
theorem st_line {X : gX} {b L ss mo oa : Nat} {xs : Nat → Int32} {T : gT} {I : gI} {J : gJ} {O : gO} {i : Int} {o5 o6 : Option Value} {kc nc : Nat} (Q : LawC X b L xs) (hL : L ≤ 2560) (h : LI ss mo oa T I J O) (i0 : 0 ≤ i) (i1 : i + 5 ≤ L) (hk : kc + 10 ≤ 601024) (hn : nc + 140 ≤ 7293034) (kk : ∀ T' I' J' O' o5 o6 k' n', LI ss mo oa T' I' J' O' → k' ≤ kc + 10 → n' ≤ nc + 140 → G X 2196 (lwL b ss mo oa i o5 o6) [] T' I' J' O' k' n') : G X 552 (lwL b ss mo oa i o5 o6) [] T I J O kc nc := by
  have Q0 := Q
  obtain ⟨x, rm, hnc, hs⟩ := Q
  have hN := h.2.2.2.2.2.1
  have hI := h.2.2.2.2.1
  have hX := h.2.2.2.2.2.2.1
  have hR := h.2.2.2.2.2.2.2
  refine G_aload1 x eL_law_552 ?_
  refine G_arg x hs eL_law_553 eL_law_554 eL_law_556 eL_law_557 eL_law_558 (by omega) (by omega) hL ?_
  refine G_arg x hs eL_law_559 eL_law_560 eL_law_562 eL_law_563 eL_law_564 (by omega) (by omega) hL ?_
  refine G_tb x sx_b eL_law_565 eL_law_568 eL_law_569 eL_law_572 ?_
  refine G_arg x hs eL_law_573 eL_law_574 eL_law_576 eL_law_577 eL_law_578 (by omega) (by omega) hL ?_
  refine G_aload3 x eL_law_579 ?_
  refine G_cSH x hnc eL_law_580 kH_123 rm (ct_w_line (B := oa) (T := T) (I := I) (J := J) (O := O) h.2.2.2.1 hI (sx_b (xs := xs) (z := i + 1)) (bo_b (z := (sx xs (i + 2)))) (sx_b (xs := xs) (z := i + 3)) h.2.2.1 h.hoa) rfl ?_
  intro v9 T1 I1 J1 O1 p1
  obtain ⟨rfl, hF, hA, hZ⟩ := p1
  have M := h.md hF
  have m0 := M.2.2.1
  have m1 := M.2.2.2.1
  have m2 := M.2.2.2.2.1
  have m4 := M.2.2.2.2.2.1
  have m8 := M.2.2.2.2.2.2
  refine G_istore5 x eL_law_583 ?_
  refine G_aload2 x eL_law_585 ?_
  refine G_arg x hs eL_law_586 eL_law_587 eL_law_589 eL_law_590 eL_law_591 (by omega) (by omega) hL ?_
  refine G_arg x hs eL_law_592 eL_law_593 eL_law_595 eL_law_596 eL_law_597 (by omega) (by omega) hL ?_
  refine G_tb x sx_b eL_law_598 eL_law_601 eL_law_602 eL_law_605 ?_
  refine G_arg x hs eL_law_606 eL_law_607 eL_law_609 eL_law_610 eL_law_611 (by omega) (by omega) hL ?_
  have C := ct_X11_line (T := T1) (I := I1) (J := J1) (O := O1) (mo := mo) M.1 (sx_b (xs := xs) (z := i + 1)) (bo_b (z := (sx xs (i + 2)))) (sx_b (xs := xs) (z := i + 3))
  rw [m1] at C
  refine G_cVg x eL_law_612 kL_125 im_yX11_line se_yX11_line rm M.1.m C rfl ?_
  intro v8 T2 I2 J2 O2 hp
  have key : ∃ ans, v8 = some (VI ans) ∧ LI ss mo oa T2 I2 J2 O2 ∧ I2 mo 6 = iThr (sx xs (i + 1)) ∧ (iThr (sx xs (i + 1)) = 0 → J2 oa 0 = i2L ans) := by
    by_cases hc : 0 ≤ (sx xs (i + 1)) ∧ (sx xs (i + 1)) ≤ 2
    · have ht : iThr (sx xs (i + 1)) = 0 := if_pos hc
      rw [if_pos hc] at hp
      obtain ⟨z1, hw⟩ := hA ht
      obtain ⟨rfl, c1⟩ := mOut_c hp
      obtain ⟨l2, t2, j2⟩ := h.say M hw c1
      exact ⟨_, rfl, l2, t2.trans ht.symm, fun _ => j2.trans z1⟩
    · have ht : iThr (sx xs (i + 1)) = 1 := if_neg hc
      rw [if_neg hc] at hp
      obtain ⟨rfl, c1⟩ := mOut_c hp
      obtain ⟨l2, t2, j2⟩ := h.say M (hZ (by rw [ht]; decide)) c1
      exact ⟨_, rfl, l2, t2.trans ht.symm, fun e => absurd (ht.symm.trans e) (by decide)⟩
  obtain ⟨ans, rfl, l2, t2, j2⟩ := key
  exact G_tail Q0 eL_law_615 eL_law_617 eL_law_618 eL_law_621 eL_law_623 eL_law_628 eL_law_630 eL_law_633 eL_law_634 eL_law_635 eL_law_636 eL_law_638 eL_law_639 eL_law_640 eL_law_645 l2 t2 j2 (by omega) (by omega) (kk _ _ _ _ _ _ _ _ l2 (by omega) (by omega))
theorem st_position {X : gX} {b L ss mo oa : Nat} {xs : Nat → Int32} {T : gT} {I : gI} {J : gJ} {O : gO} {i : Int} {o5 o6 : Option Value} {kc nc : Nat} (Q : LawC X b L xs) (hL : L ≤ 2560) (h : LI ss mo oa T I J O) (i0 : 0 ≤ i) (i1 : i + 5 ≤ L) (hk : kc + 10 ≤ 601024) (hn : nc + 140 ≤ 7293034) (kk : ∀ T' I' J' O' o5 o6 k' n', LI ss mo oa T' I' J' O' → k' ≤ kc + 10 → n' ≤ nc + 140 → G X 2196 (lwL b ss mo oa i o5 o6) [] T' I' J' O' k' n') : G X 648 (lwL b ss mo oa i o5 o6) [] T I J O kc nc := by
  have Q0 := Q
  obtain ⟨x, rm, hnc, hs⟩ := Q
  have hN := h.2.2.2.2.2.1
  have hI := h.2.2.2.2.1
  have hX := h.2.2.2.2.2.2.1
  have hR := h.2.2.2.2.2.2.2
  refine G_aload1 x eL_law_648 ?_
  refine G_arg x hs eL_law_649 eL_law_650 eL_law_652 eL_law_653 eL_law_654 (by omega) (by omega) hL ?_
  refine G_arg x hs eL_law_655 eL_law_656 eL_law_658 eL_law_659 eL_law_660 (by omega) (by omega) hL ?_
  refine G_tb x sx_b eL_law_661 eL_law_664 eL_law_665 eL_law_668 ?_
  refine G_arg x hs eL_law_669 eL_law_670 eL_law_672 eL_law_673 eL_law_674 (by omega) (by omega) hL ?_
  refine G_aload3 x eL_law_675 ?_
  refine G_cSH x hnc eL_law_676 kH_126 rm (ct_w_position (B := oa) (T := T) (I := I) (J := J) (O := O) h.2.2.2.1 hI (sx_b (xs := xs) (z := i + 1)) (bo_b (z := (sx xs (i + 2)))) (sx_b (xs := xs) (z := i + 3)) h.2.2.1 h.hoa) rfl ?_
  intro v9 T1 I1 J1 O1 p1
  obtain ⟨rfl, hF, hA, hZ⟩ := p1
  have M := h.md hF
  have m0 := M.2.2.1
  have m1 := M.2.2.2.1
  have m2 := M.2.2.2.2.1
  have m4 := M.2.2.2.2.2.1
  have m8 := M.2.2.2.2.2.2
  refine G_istore5 x eL_law_679 ?_
  refine G_aload2 x eL_law_681 ?_
  refine G_arg x hs eL_law_682 eL_law_683 eL_law_685 eL_law_686 eL_law_687 (by omega) (by omega) hL ?_
  refine G_arg x hs eL_law_688 eL_law_689 eL_law_691 eL_law_692 eL_law_693 (by omega) (by omega) hL ?_
  refine G_tb x sx_b eL_law_694 eL_law_697 eL_law_698 eL_law_701 ?_
  refine G_arg x hs eL_law_702 eL_law_703 eL_law_705 eL_law_706 eL_law_707 (by omega) (by omega) hL ?_
  have C := ct_X11_position (T := T1) (I := I1) (J := J1) (O := O1) (mo := mo) M.1 (sx_b (xs := xs) (z := i + 1)) (bo_b (z := (sx xs (i + 2)))) (sx_b (xs := xs) (z := i + 3))
  rw [m1] at C
  refine G_cVg x eL_law_708 kL_128 im_yX11_position se_yX11_position rm M.1.m C rfl ?_
  intro v8 T2 I2 J2 O2 hp
  have key : ∃ ans, v8 = some (VI ans) ∧ LI ss mo oa T2 I2 J2 O2 ∧ I2 mo 6 = aThr (sx xs (i + 1)) (sx xs (i + 3)) 11 ∧ (aThr (sx xs (i + 1)) (sx xs (i + 3)) 11 = 0 → J2 oa 0 = i2L ans) := by
    by_cases hc : 0 ≤ (sx xs (i + 1)) ∧ (sx xs (i + 1)) ≤ 2
    · rw [if_pos hc] at hp
      by_cases hd : 0 ≤ (sx xs (i + 3)) ∧ (sx xs (i + 3)) ≤ 11
      · have ht : aThr (sx xs (i + 1)) (sx xs (i + 3)) 11 = 0 := (if_pos hc).trans (if_pos hd)
        rw [if_pos hd] at hp
        obtain ⟨z1, hw⟩ := hA ht
        obtain ⟨rfl, c1⟩ := mOut_c hp
        obtain ⟨l2, t2, j2⟩ := h.say M hw c1
        exact ⟨_, rfl, l2, t2.trans ht.symm, fun _ => j2.trans z1⟩
      · have ht : aThr (sx xs (i + 1)) (sx xs (i + 3)) 11 = 2 := (if_pos hc).trans (if_neg hd)
        rw [if_neg hd] at hp
        obtain ⟨rfl, c1⟩ := mOut_c hp
        obtain ⟨l2, t2, j2⟩ := h.say M (hZ (by rw [ht]; decide)) c1
        exact ⟨_, rfl, l2, t2.trans ht.symm, fun e => absurd (ht.symm.trans e) (by decide)⟩
    · have ht : aThr (sx xs (i + 1)) (sx xs (i + 3)) 11 = 1 := if_neg hc
      rw [if_neg hc] at hp
      obtain ⟨rfl, c1⟩ := mOut_c hp
      obtain ⟨l2, t2, j2⟩ := h.say M (hZ (by rw [ht]; decide)) c1
      exact ⟨_, rfl, l2, t2.trans ht.symm, fun e => absurd (ht.symm.trans e) (by decide)⟩
  obtain ⟨ans, rfl, l2, t2, j2⟩ := key
  exact G_tail Q0 eL_law_711 eL_law_713 eL_law_714 eL_law_717 eL_law_719 eL_law_724 eL_law_726 eL_law_729 eL_law_730 eL_law_731 eL_law_732 eL_law_734 eL_law_735 eL_law_736 eL_law_741 l2 t2 j2 (by omega) (by omega) (kk _ _ _ _ _ _ _ _ l2 (by omega) (by omega))
theorem st_place {X : gX} {b L ss mo oa : Nat} {xs : Nat → Int32} {T : gT} {I : gI} {J : gJ} {O : gO} {i : Int} {o5 o6 : Option Value} {kc nc : Nat} (Q : LawC X b L xs) (hL : L ≤ 2560) (h : LI ss mo oa T I J O) (i0 : 0 ≤ i) (i1 : i + 5 ≤ L) (hk : kc + 10 ≤ 601024) (hn : nc + 140 ≤ 7293034) (kk : ∀ T' I' J' O' o5 o6 k' n', LI ss mo oa T' I' J' O' → k' ≤ kc + 10 → n' ≤ nc + 140 → G X 2196 (lwL b ss mo oa i o5 o6) [] T' I' J' O' k' n') : G X 744 (lwL b ss mo oa i o5 o6) [] T I J O kc nc := by
  have Q0 := Q
  obtain ⟨x, rm, hnc, hs⟩ := Q
  have hN := h.2.2.2.2.2.1
  have hI := h.2.2.2.2.1
  have hX := h.2.2.2.2.2.2.1
  have hR := h.2.2.2.2.2.2.2
  refine G_aload1 x eL_law_744 ?_
  refine G_arg x hs eL_law_745 eL_law_746 eL_law_748 eL_law_749 eL_law_750 (by omega) (by omega) hL ?_
  refine G_arg x hs eL_law_751 eL_law_752 eL_law_754 eL_law_755 eL_law_756 (by omega) (by omega) hL ?_
  refine G_tb x sx_b eL_law_757 eL_law_760 eL_law_761 eL_law_764 ?_
  refine G_arg x hs eL_law_765 eL_law_766 eL_law_768 eL_law_769 eL_law_770 (by omega) (by omega) hL ?_
  refine G_aload3 x eL_law_771 ?_
  refine G_cSH x hnc eL_law_772 kH_129 rm (ct_w_place (B := oa) (T := T) (I := I) (J := J) (O := O) h.2.2.2.1 hI (sx_b (xs := xs) (z := i + 1)) (bo_b (z := (sx xs (i + 2)))) (sx_b (xs := xs) (z := i + 3)) h.2.2.1 h.hoa) rfl ?_
  intro v9 T1 I1 J1 O1 p1
  obtain ⟨rfl, hF, hA, hZ⟩ := p1
  have M := h.md hF
  have m0 := M.2.2.1
  have m1 := M.2.2.2.1
  have m2 := M.2.2.2.2.1
  have m4 := M.2.2.2.2.2.1
  have m8 := M.2.2.2.2.2.2
  refine G_istore5 x eL_law_775 ?_
  refine G_aload2 x eL_law_777 ?_
  refine G_arg x hs eL_law_778 eL_law_779 eL_law_781 eL_law_782 eL_law_783 (by omega) (by omega) hL ?_
  refine G_arg x hs eL_law_784 eL_law_785 eL_law_787 eL_law_788 eL_law_789 (by omega) (by omega) hL ?_
  refine G_tb x sx_b eL_law_790 eL_law_793 eL_law_794 eL_law_797 ?_
  refine G_arg x hs eL_law_798 eL_law_799 eL_law_801 eL_law_802 eL_law_803 (by omega) (by omega) hL ?_
  have C := ct_X11_place (T := T1) (I := I1) (J := J1) (O := O1) (mo := mo) M.1 (sx_b (xs := xs) (z := i + 1)) (bo_b (z := (sx xs (i + 2)))) (sx_b (xs := xs) (z := i + 3))
  rw [m1] at C
  refine G_cVg x eL_law_804 kL_131 im_yX11_place se_yX11_place rm M.1.m C rfl ?_
  intro v8 T2 I2 J2 O2 hp
  have key : ∃ ans, v8 = some (VI ans) ∧ LI ss mo oa T2 I2 J2 O2 ∧ I2 mo 6 = aThr (sx xs (i + 1)) (sx xs (i + 3)) 11 ∧ (aThr (sx xs (i + 1)) (sx xs (i + 3)) 11 = 0 → J2 oa 0 = i2L ans) := by
    by_cases hc : 0 ≤ (sx xs (i + 1)) ∧ (sx xs (i + 1)) ≤ 2
    · rw [if_pos hc] at hp
      by_cases hd : 0 ≤ (sx xs (i + 3)) ∧ (sx xs (i + 3)) ≤ 11
      · have ht : aThr (sx xs (i + 1)) (sx xs (i + 3)) 11 = 0 := (if_pos hc).trans (if_pos hd)
        rw [if_pos hd] at hp
        obtain ⟨z1, hw⟩ := hA ht
        obtain ⟨rfl, c1⟩ := mOut_c hp
        obtain ⟨l2, t2, j2⟩ := h.say M hw c1
        exact ⟨_, rfl, l2, t2.trans ht.symm, fun _ => j2.trans z1⟩
      · have ht : aThr (sx xs (i + 1)) (sx xs (i + 3)) 11 = 2 := (if_pos hc).trans (if_neg hd)
        rw [if_neg hd] at hp
        obtain ⟨rfl, c1⟩ := mOut_c hp
        obtain ⟨l2, t2, j2⟩ := h.say M (hZ (by rw [ht]; decide)) c1
        exact ⟨_, rfl, l2, t2.trans ht.symm, fun e => absurd (ht.symm.trans e) (by decide)⟩
    · have ht : aThr (sx xs (i + 1)) (sx xs (i + 3)) 11 = 1 := if_neg hc
      rw [if_neg hc] at hp
      obtain ⟨rfl, c1⟩ := mOut_c hp
      obtain ⟨l2, t2, j2⟩ := h.say M (hZ (by rw [ht]; decide)) c1
      exact ⟨_, rfl, l2, t2.trans ht.symm, fun e => absurd (ht.symm.trans e) (by decide)⟩
  obtain ⟨ans, rfl, l2, t2, j2⟩ := key
  exact G_tail Q0 eL_law_807 eL_law_809 eL_law_810 eL_law_813 eL_law_815 eL_law_820 eL_law_822 eL_law_825 eL_law_826 eL_law_827 eL_law_828 eL_law_830 eL_law_831 eL_law_832 eL_law_837 l2 t2 j2 (by omega) (by omega) (kk _ _ _ _ _ _ _ _ l2 (by omega) (by omega))
theorem st_setNumber {X : gX} {b L ss mo oa : Nat} {xs : Nat → Int32} {T : gT} {I : gI} {J : gJ} {O : gO} {i : Int} {o5 o6 : Option Value} {kc nc : Nat} (Q : LawC X b L xs) (hL : L ≤ 2560) (h : LI ss mo oa T I J O) (i0 : 0 ≤ i) (i1 : i + 5 ≤ L) (hk : kc + 10 ≤ 601024) (hn : nc + 140 ≤ 7293034) (kk : ∀ T' I' J' O' o5 o6 k' n', LI ss mo oa T' I' J' O' → k' ≤ kc + 10 → n' ≤ nc + 140 → G X 2196 (lwL b ss mo oa i o5 o6) [] T' I' J' O' k' n') : G X 840 (lwL b ss mo oa i o5 o6) [] T I J O kc nc := by
  have Q0 := Q
  obtain ⟨x, rm, hnc, hs⟩ := Q
  have hN := h.2.2.2.2.2.1
  have hI := h.2.2.2.2.1
  have hX := h.2.2.2.2.2.2.1
  have hR := h.2.2.2.2.2.2.2
  refine G_aload1 x eL_law_840 ?_
  refine G_arg x hs eL_law_841 eL_law_842 eL_law_844 eL_law_845 eL_law_846 (by omega) (by omega) hL ?_
  refine G_arg x hs eL_law_847 eL_law_848 eL_law_850 eL_law_851 eL_law_852 (by omega) (by omega) hL ?_
  refine G_arg x hs eL_law_853 eL_law_854 eL_law_856 eL_law_857 eL_law_858 (by omega) (by omega) hL ?_
  refine G_arg x hs eL_law_859 eL_law_860 eL_law_862 eL_law_863 eL_law_864 (by omega) (by omega) hL ?_
  refine G_aload3 x eL_law_865 ?_
  refine G_cSH x hnc eL_law_866 kH_132 rm (ct_w_setNumber (B := oa) (T := T) (I := I) (J := J) (O := O) h.2.2.2.1 hI (f := I (mo + 8)) hN.1 hN.2 (sx_b (xs := xs) (z := i + 1)) (sx_b (xs := xs) (z := i + 2)) (sx_b (xs := xs) (z := i + 3)) (sx_b (xs := xs) (z := i + 4)) h.2.2.1 h.hoa) rfl ?_
  intro v9 T1 I1 J1 O1 p1
  obtain ⟨rfl, hF, hA, hZ⟩ := p1
  have M := h.md hF
  have m0 := M.2.2.1
  have m1 := M.2.2.2.1
  have m2 := M.2.2.2.2.1
  have m4 := M.2.2.2.2.2.1
  have m8 := M.2.2.2.2.2.2
  refine G_istore5 x eL_law_869 ?_
  refine G_aload2 x eL_law_871 ?_
  refine G_arg x hs eL_law_872 eL_law_873 eL_law_875 eL_law_876 eL_law_877 (by omega) (by omega) hL ?_
  refine G_arg x hs eL_law_878 eL_law_879 eL_law_881 eL_law_882 eL_law_883 (by omega) (by omega) hL ?_
  refine G_arg x hs eL_law_884 eL_law_885 eL_law_887 eL_law_888 eL_law_889 (by omega) (by omega) hL ?_
  refine G_arg x hs eL_law_890 eL_law_891 eL_law_893 eL_law_894 eL_law_895 (by omega) (by omega) hL ?_
  have C := ct_X11_setNumber (T := T1) (I := I1) (J := J1) (O := O1) (mo := mo) M.1 (sx_b (xs := xs) (z := i + 1)) (sx_b (xs := xs) (z := i + 2)) (sx_b (xs := xs) (z := i + 3)) (sx_b (xs := xs) (z := i + 4)) (by rw [m0]; exact hN) (fun a c => by rw [m1]; exact hI.pr a c)
  rw [m1, m8, Int.add_zero] at C
  refine G_cVg x eL_law_896 kL_135 im_yX11_setNumber se_yX11_setNumber rm M.1.m C rfl ?_
  intro v8 T2 I2 J2 O2 hp
  have key : ∃ ans, v8 = some (VI ans) ∧ LI ss mo oa T2 I2 J2 O2 ∧ I2 mo 6 = nmThr (I (mo + 1)) (sx xs (i + 1)) (sx xs (i + 2)) (sx xs (i + 3)) (sx xs (i + 4)) ∧ (nmThr (I (mo + 1)) (sx xs (i + 1)) (sx xs (i + 2)) (sx xs (i + 3)) (sx xs (i + 4)) = 0 → J2 oa 0 = i2L ans) := by
    by_cases ht : nmThr (I (mo + 1)) (sx xs (i + 1)) (sx xs (i + 2)) (sx xs (i + 3)) (sx xs (i + 4)) = 0
    · rw [if_pos ht] at hp
      obtain ⟨z1, hw⟩ := hA ht
      obtain ⟨rfl, c1⟩ := mOut_c hp
      obtain ⟨l2, t2, j2⟩ := h.do M hw c1 (I_number hI ht)
      exact ⟨_, rfl, l2, t2.trans ht.symm, fun _ => j2.trans z1⟩
    · rw [if_neg ht] at hp
      obtain ⟨rfl, c1⟩ := mOut_c hp
      obtain ⟨l2, t2, j2⟩ := h.say M (hZ ht) c1
      exact ⟨_, rfl, l2, t2, fun e => absurd e ht⟩
  obtain ⟨ans, rfl, l2, t2, j2⟩ := key
  exact G_tail Q0 eL_law_899 eL_law_901 eL_law_902 eL_law_905 eL_law_907 eL_law_912 eL_law_914 eL_law_917 eL_law_918 eL_law_919 eL_law_920 eL_law_922 eL_law_923 eL_law_924 eL_law_929 l2 t2 j2 (by omega) (by omega) (kk _ _ _ _ _ _ _ _ l2 (by omega) (by omega))
theorem st_clearCell {X : gX} {b L ss mo oa : Nat} {xs : Nat → Int32} {T : gT} {I : gI} {J : gJ} {O : gO} {i : Int} {o5 o6 : Option Value} {kc nc : Nat} (Q : LawC X b L xs) (hL : L ≤ 2560) (h : LI ss mo oa T I J O) (i0 : 0 ≤ i) (i1 : i + 5 ≤ L) (hk : kc + 10 ≤ 601024) (hn : nc + 140 ≤ 7293034) (kk : ∀ T' I' J' O' o5 o6 k' n', LI ss mo oa T' I' J' O' → k' ≤ kc + 10 → n' ≤ nc + 140 → G X 2196 (lwL b ss mo oa i o5 o6) [] T' I' J' O' k' n') : G X 932 (lwL b ss mo oa i o5 o6) [] T I J O kc nc := by
  have Q0 := Q
  obtain ⟨x, rm, hnc, hs⟩ := Q
  have hN := h.2.2.2.2.2.1
  have hI := h.2.2.2.2.1
  have hX := h.2.2.2.2.2.2.1
  have hR := h.2.2.2.2.2.2.2
  refine G_aload1 x eL_law_932 ?_
  refine G_arg x hs eL_law_933 eL_law_934 eL_law_936 eL_law_937 eL_law_938 (by omega) (by omega) hL ?_
  refine G_arg x hs eL_law_939 eL_law_940 eL_law_942 eL_law_943 eL_law_944 (by omega) (by omega) hL ?_
  refine G_arg x hs eL_law_945 eL_law_946 eL_law_948 eL_law_949 eL_law_950 (by omega) (by omega) hL ?_
  refine G_aload3 x eL_law_951 ?_
  refine G_cSH x hnc eL_law_952 kH_136 rm (ct_w_clearCell (B := oa) (T := T) (I := I) (J := J) (O := O) h.2.2.2.1 hI (f := I (mo + 8)) hN.1 hN.2 (sx_b (xs := xs) (z := i + 1)) (sx_b (xs := xs) (z := i + 2)) (sx_b (xs := xs) (z := i + 3)) h.2.2.1 h.hoa) rfl ?_
  intro v9 T1 I1 J1 O1 p1
  obtain ⟨rfl, hF, hA, hZ⟩ := p1
  have M := h.md hF
  have m0 := M.2.2.1
  have m1 := M.2.2.2.1
  have m2 := M.2.2.2.2.1
  have m4 := M.2.2.2.2.2.1
  have m8 := M.2.2.2.2.2.2
  refine G_istore5 x eL_law_955 ?_
  refine G_aload2 x eL_law_957 ?_
  refine G_arg x hs eL_law_958 eL_law_959 eL_law_961 eL_law_962 eL_law_963 (by omega) (by omega) hL ?_
  refine G_arg x hs eL_law_964 eL_law_965 eL_law_967 eL_law_968 eL_law_969 (by omega) (by omega) hL ?_
  refine G_arg x hs eL_law_970 eL_law_971 eL_law_973 eL_law_974 eL_law_975 (by omega) (by omega) hL ?_
  have C := ct_X11_clearCell (T := T1) (I := I1) (J := J1) (O := O1) (mo := mo) M.1 (sx_b (xs := xs) (z := i + 1)) (sx_b (xs := xs) (z := i + 2)) (sx_b (xs := xs) (z := i + 3)) (by rw [m0]; exact hN) (fun a c => by rw [m1]; exact hI.pr a c)
  rw [m1, m8, Int.add_zero] at C
  refine G_cVg x eL_law_976 kL_139 im_yX11_clearCell se_yX11_clearCell rm M.1.m C rfl ?_
  intro v8 T2 I2 J2 O2 hp
  have key : ∃ ans, v8 = some (VI ans) ∧ LI ss mo oa T2 I2 J2 O2 ∧ I2 mo 6 = clThr (I (mo + 1)) (sx xs (i + 1)) (sx xs (i + 2)) (sx xs (i + 3)) ∧ (clThr (I (mo + 1)) (sx xs (i + 1)) (sx xs (i + 2)) (sx xs (i + 3)) = 0 → J2 oa 0 = i2L ans) := by
    by_cases ht : clThr (I (mo + 1)) (sx xs (i + 1)) (sx xs (i + 2)) (sx xs (i + 3)) = 0
    · rw [if_pos ht] at hp
      obtain ⟨z1, hw⟩ := hA ht
      obtain ⟨rfl, c1⟩ := mOut_c hp
      obtain ⟨l2, t2, j2⟩ := h.do M hw c1 (I_clear hI ht)
      exact ⟨_, rfl, l2, t2.trans ht.symm, fun _ => j2.trans z1⟩
    · rw [if_neg ht] at hp
      obtain ⟨rfl, c1⟩ := mOut_c hp
      obtain ⟨l2, t2, j2⟩ := h.say M (hZ ht) c1
      exact ⟨_, rfl, l2, t2, fun e => absurd e ht⟩
  obtain ⟨ans, rfl, l2, t2, j2⟩ := key
  exact G_tail Q0 eL_law_979 eL_law_981 eL_law_982 eL_law_985 eL_law_987 eL_law_992 eL_law_994 eL_law_997 eL_law_998 eL_law_999 eL_law_1000 eL_law_1002 eL_law_1003 eL_law_1004 eL_law_1009 l2 t2 j2 (by omega) (by omega) (kk _ _ _ _ _ _ _ _ l2 (by omega) (by omega))
theorem st_setFormula {X : gX} {b L ss mo oa : Nat} {xs : Nat → Int32} {T : gT} {I : gI} {J : gJ} {O : gO} {i : Int} {o5 o6 : Option Value} {kc nc : Nat} (Q : LawC X b L xs) (hL : L ≤ 2560) (h : LI ss mo oa T I J O) (i0 : 0 ≤ i) (i1 : i + 5 ≤ L) (hk : kc + 10 ≤ 601024) (hn : nc + 140 ≤ 7293034) (kk : ∀ T' I' J' O' o5 o6 k' n', LI ss mo oa T' I' J' O' → k' ≤ kc + 10 → n' ≤ nc + 140 → G X 2196 (lwL b ss mo oa i o5 o6) [] T' I' J' O' k' n') : G X 1012 (lwL b ss mo oa i o5 o6) [] T I J O kc nc := by
  have Q0 := Q
  obtain ⟨x, rm, hnc, hs⟩ := Q
  have hN := h.2.2.2.2.2.1
  have hI := h.2.2.2.2.1
  have hX := h.2.2.2.2.2.2.1
  have hR := h.2.2.2.2.2.2.2
  refine G_aload1 x eL_law_1012 ?_
  refine G_arg x hs eL_law_1013 eL_law_1014 eL_law_1016 eL_law_1017 eL_law_1018 (by omega) (by omega) hL ?_
  refine G_arg x hs eL_law_1019 eL_law_1020 eL_law_1022 eL_law_1023 eL_law_1024 (by omega) (by omega) hL ?_
  refine G_arg x hs eL_law_1025 eL_law_1026 eL_law_1028 eL_law_1029 eL_law_1030 (by omega) (by omega) hL ?_
  refine G_aload3 x eL_law_1031 ?_
  refine G_cSH x hnc eL_law_1032 kH_140 rm (ct_w_setFormula (B := oa) (T := T) (I := I) (J := J) (O := O) h.2.2.2.1 hI hN.1 hN.2 hX (sx_b (xs := xs) (z := i + 1)) (sx_b (xs := xs) (z := i + 2)) (sx_b (xs := xs) (z := i + 3)) h.2.2.1 h.hoa) rfl ?_
  intro v9 T1 I1 J1 O1 p1
  obtain ⟨rfl, hF, hA, hZ⟩ := p1
  have M := h.md hF
  have m0 := M.2.2.1
  have m1 := M.2.2.2.1
  have m2 := M.2.2.2.2.1
  have m4 := M.2.2.2.2.2.1
  have m8 := M.2.2.2.2.2.2
  refine G_istore5 x eL_law_1035 ?_
  refine G_aload2 x eL_law_1037 ?_
  refine G_arg x hs eL_law_1038 eL_law_1039 eL_law_1041 eL_law_1042 eL_law_1043 (by omega) (by omega) hL ?_
  refine G_arg x hs eL_law_1044 eL_law_1045 eL_law_1047 eL_law_1048 eL_law_1049 (by omega) (by omega) hL ?_
  refine G_arg x hs eL_law_1050 eL_law_1051 eL_law_1053 eL_law_1054 eL_law_1055 (by omega) (by omega) hL ?_
  have C := ct_X11_setFormula (T := T1) (I := I1) (J := J1) (O := O1) (mo := mo) M.1 (sx_b (xs := xs) (z := i + 1)) (sx_b (xs := xs) (z := i + 2)) (sx_b (xs := xs) (z := i + 3)) (by rw [m0]; exact hN) (fun a c => by rw [m1]; exact hI.pr a c) (by rw [m0]; exact hX.1.1) (by rw [m0]; exact hX.1.2)
  rw [m1, m4, m0, Int.add_zero] at C
  refine G_cVg x eL_law_1056 kL_142 im_yX11_setFormula se_yX11_setFormula rm M.1.m C rfl ?_
  intro v8 T2 I2 J2 O2 hp
  have key : ∃ ans, v8 = some (VI ans) ∧ LI ss mo oa T2 I2 J2 O2 ∧ I2 mo 6 = fmThr (I (mo + 4)) (I mo 5) (I (mo + 1)) (sx xs (i + 1)) (sx xs (i + 2)) (sx xs (i + 3)) ∧ (fmThr (I (mo + 4)) (I mo 5) (I (mo + 1)) (sx xs (i + 1)) (sx xs (i + 2)) (sx xs (i + 3)) = 0 → J2 oa 0 = i2L ans) := by
    by_cases ht : fmThr (I (mo + 4)) (I mo 5) (I (mo + 1)) (sx xs (i + 1)) (sx xs (i + 2)) (sx xs (i + 3)) = 0
    · rw [if_pos ht] at hp
      obtain ⟨z1, hw⟩ := hA ht
      obtain ⟨rfl, c1⟩ := mOut_c hp
      obtain ⟨l2, t2, j2⟩ := h.do M hw c1 (I_formula hI hX ht)
      exact ⟨_, rfl, l2, t2.trans ht.symm, fun _ => j2.trans z1⟩
    · rw [if_neg ht] at hp
      obtain ⟨rfl, c1⟩ := mOut_c hp
      obtain ⟨l2, t2, j2⟩ := h.say M (hZ ht) c1
      exact ⟨_, rfl, l2, t2, fun e => absurd e ht⟩
  obtain ⟨ans, rfl, l2, t2, j2⟩ := key
  exact G_tail Q0 eL_law_1059 eL_law_1061 eL_law_1062 eL_law_1065 eL_law_1067 eL_law_1072 eL_law_1074 eL_law_1077 eL_law_1078 eL_law_1079 eL_law_1080 eL_law_1082 eL_law_1083 eL_law_1084 eL_law_1089 l2 t2 j2 (by omega) (by omega) (kk _ _ _ _ _ _ _ _ l2 (by omega) (by omega))
theorem st_cell {X : gX} {b L ss mo oa : Nat} {xs : Nat → Int32} {T : gT} {I : gI} {J : gJ} {O : gO} {i : Int} {o5 o6 : Option Value} {kc nc : Nat} (Q : LawC X b L xs) (hL : L ≤ 2560) (h : LI ss mo oa T I J O) (i0 : 0 ≤ i) (i1 : i + 5 ≤ L) (hk : kc + 10 ≤ 601024) (hn : nc + 140 ≤ 7293034) (kk : ∀ T' I' J' O' o5 o6 k' n', LI ss mo oa T' I' J' O' → k' ≤ kc + 10 → n' ≤ nc + 140 → G X 2196 (lwL b ss mo oa i o5 o6) [] T' I' J' O' k' n') : G X 1092 (lwL b ss mo oa i o5 o6) [] T I J O kc nc := by
  have Q0 := Q
  obtain ⟨x, rm, hnc, hs⟩ := Q
  have hN := h.2.2.2.2.2.1
  have hI := h.2.2.2.2.1
  have hX := h.2.2.2.2.2.2.1
  have hR := h.2.2.2.2.2.2.2
  refine G_aload1 x eL_law_1092 ?_
  refine G_arg x hs eL_law_1093 eL_law_1094 eL_law_1096 eL_law_1097 eL_law_1098 (by omega) (by omega) hL ?_
  refine G_arg x hs eL_law_1099 eL_law_1100 eL_law_1102 eL_law_1103 eL_law_1104 (by omega) (by omega) hL ?_
  refine G_arg x hs eL_law_1105 eL_law_1106 eL_law_1108 eL_law_1109 eL_law_1110 (by omega) (by omega) hL ?_
  refine G_arg x hs eL_law_1111 eL_law_1112 eL_law_1114 eL_law_1115 eL_law_1116 (by omega) (by omega) hL ?_
  refine G_aload3 x eL_law_1117 ?_
  refine G_cSH x hnc eL_law_1118 kH_143 rm (ct_w_cell (B := oa) (T := T) (I := I) (J := J) (O := O) h.2.2.2.1 hI (sx_b (xs := xs) (z := i + 1)) (sx_b (xs := xs) (z := i + 2)) (sx_b (xs := xs) (z := i + 3)) (sx_b (xs := xs) (z := i + 4)) h.2.2.1 h.hoa) rfl ?_
  intro v9 T1 I1 J1 O1 p1
  obtain ⟨rfl, hF, hA, hZ⟩ := p1
  have M := h.md hF
  have m0 := M.2.2.1
  have m1 := M.2.2.2.1
  have m2 := M.2.2.2.2.1
  have m4 := M.2.2.2.2.2.1
  have m8 := M.2.2.2.2.2.2
  refine G_istore5 x eL_law_1121 ?_
  refine G_aload2 x eL_law_1123 ?_
  refine G_arg x hs eL_law_1124 eL_law_1125 eL_law_1127 eL_law_1128 eL_law_1129 (by omega) (by omega) hL ?_
  refine G_arg x hs eL_law_1130 eL_law_1131 eL_law_1133 eL_law_1134 eL_law_1135 (by omega) (by omega) hL ?_
  refine G_arg x hs eL_law_1136 eL_law_1137 eL_law_1139 eL_law_1140 eL_law_1141 (by omega) (by omega) hL ?_
  refine G_arg x hs eL_law_1142 eL_law_1143 eL_law_1145 eL_law_1146 eL_law_1147 (by omega) (by omega) hL ?_
  have C := ct_X11_cell (T := T1) (I := I1) (J := J1) (O := O1) (mo := mo) M.1 (sx_b (xs := xs) (z := i + 1)) (sx_b (xs := xs) (z := i + 2)) (sx_b (xs := xs) (z := i + 3)) (sx_b (xs := xs) (z := i + 4)) (fun a c => by rw [m1]; exact hI.fm a c)
  rw [m1] at C
  refine G_cVg x eL_law_1148 kL_145 im_yX11_cell se_yX11_cell rm M.1.m C rfl ?_
  intro v8 T2 I2 J2 O2 hp
  have key : ∃ ans, v8 = some (VI ans) ∧ LI ss mo oa T2 I2 J2 O2 ∧ I2 mo 6 = tlThr (I (mo + 1)) (sx xs (i + 1)) (sx xs (i + 2)) (sx xs (i + 3)) (sx xs (i + 4)) ∧ (tlThr (I (mo + 1)) (sx xs (i + 1)) (sx xs (i + 2)) (sx xs (i + 3)) (sx xs (i + 4)) = 0 → J2 oa 0 = i2L ans) := by
    by_cases ht : tlThr (I (mo + 1)) (sx xs (i + 1)) (sx xs (i + 2)) (sx xs (i + 3)) (sx xs (i + 4)) = 0
    · rw [if_pos ht] at hp
      obtain ⟨z1, hw⟩ := hA ht
      obtain ⟨rfl, c1⟩ := mOut_c hp
      obtain ⟨l2, t2, j2⟩ := h.say M hw c1
      exact ⟨_, rfl, l2, t2.trans ht.symm, fun _ => j2.trans z1⟩
    · rw [if_neg ht] at hp
      obtain ⟨rfl, c1⟩ := mOut_c hp
      obtain ⟨l2, t2, j2⟩ := h.say M (hZ ht) c1
      exact ⟨_, rfl, l2, t2, fun e => absurd e ht⟩
  obtain ⟨ans, rfl, l2, t2, j2⟩ := key
  exact G_tail Q0 eL_law_1151 eL_law_1153 eL_law_1154 eL_law_1157 eL_law_1159 eL_law_1164 eL_law_1166 eL_law_1169 eL_law_1170 eL_law_1171 eL_law_1172 eL_law_1174 eL_law_1175 eL_law_1176 eL_law_1181 l2 t2 j2 (by omega) (by omega) (kk _ _ _ _ _ _ _ _ l2 (by omega) (by omega))
theorem st_value {X : gX} {b L ss mo oa : Nat} {xs : Nat → Int32} {T : gT} {I : gI} {J : gJ} {O : gO} {i : Int} {o5 o6 : Option Value} {kc nc : Nat} (Q : LawC X b L xs) (hL : L ≤ 2560) (h : LI ss mo oa T I J O) (i0 : 0 ≤ i) (i1 : i + 5 ≤ L) (hk : kc + 10 ≤ 601024) (hn : nc + 140 ≤ 7293034) (kk : ∀ T' I' J' O' o5 o6 k' n', LI ss mo oa T' I' J' O' → k' ≤ kc + 10 → n' ≤ nc + 140 → G X 2196 (lwL b ss mo oa i o5 o6) [] T' I' J' O' k' n') : G X 1184 (lwL b ss mo oa i o5 o6) [] T I J O kc nc := by
  have Q0 := Q
  obtain ⟨x, rm, hnc, hs⟩ := Q
  have hN := h.2.2.2.2.2.1
  have hI := h.2.2.2.2.1
  have hX := h.2.2.2.2.2.2.1
  have hR := h.2.2.2.2.2.2.2
  refine G_aload1 x eL_law_1184 ?_
  refine G_arg x hs eL_law_1185 eL_law_1186 eL_law_1188 eL_law_1189 eL_law_1190 (by omega) (by omega) hL ?_
  refine G_arg x hs eL_law_1191 eL_law_1192 eL_law_1194 eL_law_1195 eL_law_1196 (by omega) (by omega) hL ?_
  refine G_arg x hs eL_law_1197 eL_law_1198 eL_law_1200 eL_law_1201 eL_law_1202 (by omega) (by omega) hL ?_
  refine G_aload3 x eL_law_1203 ?_
  refine G_cSH x hnc eL_law_1204 kH_146 rm (ct_w_value (B := oa) (T := T) (I := I) (J := J) (O := O) h.2.2.2.1 hI (sx_b (xs := xs) (z := i + 1)) (sx_b (xs := xs) (z := i + 2)) (sx_b (xs := xs) (z := i + 3)) h.2.2.1 h.hoa) rfl ?_
  intro v9 T1 I1 J1 O1 p1
  obtain ⟨rfl, hF, hA, hZ⟩ := p1
  have M := h.md hF
  have m0 := M.2.2.1
  have m1 := M.2.2.2.1
  have m2 := M.2.2.2.2.1
  have m4 := M.2.2.2.2.2.1
  have m8 := M.2.2.2.2.2.2
  refine G_istore5 x eL_law_1207 ?_
  refine G_aload2 x eL_law_1209 ?_
  refine G_arg x hs eL_law_1210 eL_law_1211 eL_law_1213 eL_law_1214 eL_law_1215 (by omega) (by omega) hL ?_
  refine G_arg x hs eL_law_1216 eL_law_1217 eL_law_1219 eL_law_1220 eL_law_1221 (by omega) (by omega) hL ?_
  refine G_arg x hs eL_law_1222 eL_law_1223 eL_law_1225 eL_law_1226 eL_law_1227 (by omega) (by omega) hL ?_
  have C := ct_X11_value (T := T1) (I := I1) (J := J1) (O := O1) (mo := mo) M.1 (sx_b (xs := xs) (z := i + 1)) (sx_b (xs := xs) (z := i + 2)) (sx_b (xs := xs) (z := i + 3)) (fun a c => by rw [m1]; exact hI.fm a c)
  rw [m1] at C
  refine G_cVg x eL_law_1228 kL_148 im_yX11_value se_yX11_value rm M.1.m C rfl ?_
  intro v8 T2 I2 J2 O2 hp
  have key : ∃ ans, v8 = some (VI ans) ∧ LI ss mo oa T2 I2 J2 O2 ∧ I2 mo 6 = (if cellIn (I (mo + 1)) (sx xs (i + 1)) (sx xs (i + 2)) (sx xs (i + 3)) then (0 : Int) else 1) ∧ ((if cellIn (I (mo + 1)) (sx xs (i + 1)) (sx xs (i + 2)) (sx xs (i + 3)) then (0 : Int) else 1) = 0 → J2 oa 0 = i2L ans) := by
    by_cases hc : cellIn (I (mo + 1)) (sx xs (i + 1)) (sx xs (i + 2)) (sx xs (i + 3))
    · have ht : (if cellIn (I (mo + 1)) (sx xs (i + 1)) (sx xs (i + 2)) (sx xs (i + 3)) then (0 : Int) else 1) = 0 := if_pos hc
      rw [if_pos hc] at hp
      obtain ⟨z1, hw⟩ := hA ht
      obtain ⟨rfl, c1⟩ := mOut_c hp
      obtain ⟨l2, t2, j2⟩ := h.say M hw c1
      exact ⟨_, rfl, l2, t2.trans ht.symm, fun _ => j2.trans z1⟩
    · have ht : (if cellIn (I (mo + 1)) (sx xs (i + 1)) (sx xs (i + 2)) (sx xs (i + 3)) then (0 : Int) else 1) = 1 := if_neg hc
      rw [if_neg hc] at hp
      obtain ⟨rfl, c1⟩ := mOut_c hp
      obtain ⟨l2, t2, j2⟩ := h.say M (hZ (by rw [ht]; decide)) c1
      exact ⟨_, rfl, l2, t2.trans ht.symm, fun e => absurd (ht.symm.trans e) (by decide)⟩
  obtain ⟨ans, rfl, l2, t2, j2⟩ := key
  exact G_tail Q0 eL_law_1231 eL_law_1233 eL_law_1234 eL_law_1237 eL_law_1239 eL_law_1244 eL_law_1246 eL_law_1249 eL_law_1250 eL_law_1251 eL_law_1252 eL_law_1254 eL_law_1255 eL_law_1256 eL_law_1261 l2 t2 j2 (by omega) (by omega) (kk _ _ _ _ _ _ _ _ l2 (by omega) (by omega))
theorem st_error {X : gX} {b L ss mo oa : Nat} {xs : Nat → Int32} {T : gT} {I : gI} {J : gJ} {O : gO} {i : Int} {o5 o6 : Option Value} {kc nc : Nat} (Q : LawC X b L xs) (hL : L ≤ 2560) (h : LI ss mo oa T I J O) (i0 : 0 ≤ i) (i1 : i + 5 ≤ L) (hk : kc + 10 ≤ 601024) (hn : nc + 140 ≤ 7293034) (kk : ∀ T' I' J' O' o5 o6 k' n', LI ss mo oa T' I' J' O' → k' ≤ kc + 10 → n' ≤ nc + 140 → G X 2196 (lwL b ss mo oa i o5 o6) [] T' I' J' O' k' n') : G X 1264 (lwL b ss mo oa i o5 o6) [] T I J O kc nc := by
  have Q0 := Q
  obtain ⟨x, rm, hnc, hs⟩ := Q
  have hN := h.2.2.2.2.2.1
  have hI := h.2.2.2.2.1
  have hX := h.2.2.2.2.2.2.1
  have hR := h.2.2.2.2.2.2.2
  refine G_aload1 x eL_law_1264 ?_
  refine G_arg x hs eL_law_1265 eL_law_1266 eL_law_1268 eL_law_1269 eL_law_1270 (by omega) (by omega) hL ?_
  refine G_arg x hs eL_law_1271 eL_law_1272 eL_law_1274 eL_law_1275 eL_law_1276 (by omega) (by omega) hL ?_
  refine G_arg x hs eL_law_1277 eL_law_1278 eL_law_1280 eL_law_1281 eL_law_1282 (by omega) (by omega) hL ?_
  refine G_aload3 x eL_law_1283 ?_
  refine G_cSH x hnc eL_law_1284 kH_149 rm (ct_w_error (B := oa) (T := T) (I := I) (J := J) (O := O) h.2.2.2.1 hI (sx_b (xs := xs) (z := i + 1)) (sx_b (xs := xs) (z := i + 2)) (sx_b (xs := xs) (z := i + 3)) h.2.2.1 h.hoa) rfl ?_
  intro v9 T1 I1 J1 O1 p1
  obtain ⟨rfl, hF, hA, hZ⟩ := p1
  have M := h.md hF
  have m0 := M.2.2.1
  have m1 := M.2.2.2.1
  have m2 := M.2.2.2.2.1
  have m4 := M.2.2.2.2.2.1
  have m8 := M.2.2.2.2.2.2
  refine G_istore5 x eL_law_1287 ?_
  refine G_aload2 x eL_law_1289 ?_
  refine G_arg x hs eL_law_1290 eL_law_1291 eL_law_1293 eL_law_1294 eL_law_1295 (by omega) (by omega) hL ?_
  refine G_arg x hs eL_law_1296 eL_law_1297 eL_law_1299 eL_law_1300 eL_law_1301 (by omega) (by omega) hL ?_
  refine G_arg x hs eL_law_1302 eL_law_1303 eL_law_1305 eL_law_1306 eL_law_1307 (by omega) (by omega) hL ?_
  have C := ct_X11_error (T := T1) (I := I1) (J := J1) (O := O1) (mo := mo) M.1 (sx_b (xs := xs) (z := i + 1)) (sx_b (xs := xs) (z := i + 2)) (sx_b (xs := xs) (z := i + 3)) (fun a c => by rw [m1]; exact hI.fm a c)
  rw [m1] at C
  refine G_cVg x eL_law_1308 kL_151 im_yX11_error se_yX11_error rm M.1.m C rfl ?_
  intro v8 T2 I2 J2 O2 hp
  have key : ∃ ans, v8 = some (VI ans) ∧ LI ss mo oa T2 I2 J2 O2 ∧ I2 mo 6 = (if cellIn (I (mo + 1)) (sx xs (i + 1)) (sx xs (i + 2)) (sx xs (i + 3)) then (0 : Int) else 1) ∧ ((if cellIn (I (mo + 1)) (sx xs (i + 1)) (sx xs (i + 2)) (sx xs (i + 3)) then (0 : Int) else 1) = 0 → J2 oa 0 = i2L ans) := by
    by_cases hc : cellIn (I (mo + 1)) (sx xs (i + 1)) (sx xs (i + 2)) (sx xs (i + 3))
    · have ht : (if cellIn (I (mo + 1)) (sx xs (i + 1)) (sx xs (i + 2)) (sx xs (i + 3)) then (0 : Int) else 1) = 0 := if_pos hc
      rw [if_pos hc] at hp
      obtain ⟨z1, hw⟩ := hA ht
      obtain ⟨rfl, c1⟩ := mOut_c hp
      obtain ⟨l2, t2, j2⟩ := h.say M hw c1
      exact ⟨_, rfl, l2, t2.trans ht.symm, fun _ => j2.trans z1⟩
    · have ht : (if cellIn (I (mo + 1)) (sx xs (i + 1)) (sx xs (i + 2)) (sx xs (i + 3)) then (0 : Int) else 1) = 1 := if_neg hc
      rw [if_neg hc] at hp
      obtain ⟨rfl, c1⟩ := mOut_c hp
      obtain ⟨l2, t2, j2⟩ := h.say M (hZ (by rw [ht]; decide)) c1
      exact ⟨_, rfl, l2, t2.trans ht.symm, fun e => absurd (ht.symm.trans e) (by decide)⟩
  obtain ⟨ans, rfl, l2, t2, j2⟩ := key
  exact G_tail Q0 eL_law_1311 eL_law_1313 eL_law_1314 eL_law_1317 eL_law_1319 eL_law_1324 eL_law_1326 eL_law_1329 eL_law_1330 eL_law_1331 eL_law_1332 eL_law_1334 eL_law_1335 eL_law_1336 eL_law_1341 l2 t2 j2 (by omega) (by omega) (kk _ _ _ _ _ _ _ _ l2 (by omega) (by omega))
theorem st_write {X : gX} {b L ss mo oa : Nat} {xs : Nat → Int32} {T : gT} {I : gI} {J : gJ} {O : gO} {i : Int} {o5 o6 : Option Value} {kc nc : Nat} (Q : LawC X b L xs) (hL : L ≤ 2560) (h : LI ss mo oa T I J O) (i0 : 0 ≤ i) (i1 : i + 5 ≤ L) (hk : kc + 10 ≤ 601024) (hn : nc + 140 ≤ 7293034) (kk : ∀ T' I' J' O' o5 o6 k' n', LI ss mo oa T' I' J' O' → k' ≤ kc + 10 → n' ≤ nc + 140 → G X 2196 (lwL b ss mo oa i o5 o6) [] T' I' J' O' k' n') : G X 1344 (lwL b ss mo oa i o5 o6) [] T I J O kc nc := by
  have Q0 := Q
  obtain ⟨x, rm, hnc, hs⟩ := Q
  have hN := h.2.2.2.2.2.1
  have hI := h.2.2.2.2.1
  have hX := h.2.2.2.2.2.2.1
  have hR := h.2.2.2.2.2.2.2
  refine G_aload1 x eL_law_1344 ?_
  refine G_arg x hs eL_law_1345 eL_law_1346 eL_law_1348 eL_law_1349 eL_law_1350 (by omega) (by omega) hL ?_
  refine G_arg x hs eL_law_1351 eL_law_1352 eL_law_1354 eL_law_1355 eL_law_1356 (by omega) (by omega) hL ?_
  refine G_arg x hs eL_law_1357 eL_law_1358 eL_law_1360 eL_law_1361 eL_law_1362 (by omega) (by omega) hL ?_
  refine G_aload3 x eL_law_1363 ?_
  refine G_cSH x hnc eL_law_1364 kH_152 rm (ct_w_write (B := oa) (T := T) (I := I) (J := J) (O := O) h.2.2.2.1 hI (sx_b (xs := xs) (z := i + 1)) (sx_b (xs := xs) (z := i + 2)) (sx_b (xs := xs) (z := i + 3)) hX h.2.2.1 h.hoa) rfl ?_
  intro v9 T1 I1 J1 O1 p1
  obtain ⟨rfl, hF, hA, hZ⟩ := p1
  have M := h.md hF
  have m0 := M.2.2.1
  have m1 := M.2.2.2.1
  have m2 := M.2.2.2.2.1
  have m4 := M.2.2.2.2.2.1
  have m8 := M.2.2.2.2.2.2
  refine G_istore5 x eL_law_1367 ?_
  refine G_aload2 x eL_law_1369 ?_
  refine G_arg x hs eL_law_1370 eL_law_1371 eL_law_1373 eL_law_1374 eL_law_1375 (by omega) (by omega) hL ?_
  refine G_arg x hs eL_law_1376 eL_law_1377 eL_law_1379 eL_law_1380 eL_law_1381 (by omega) (by omega) hL ?_
  refine G_arg x hs eL_law_1382 eL_law_1383 eL_law_1385 eL_law_1386 eL_law_1387 (by omega) (by omega) hL ?_
  have C : ∃ P9 : gP, Ct yX11_write cX11_write 8 (some .int) [va_rf (some mo), VI (sx xs (i + 1)), VI (sx xs (i + 2)), VI (sx xs (i + 3))] 5 115 0 0 T1 I1 J1 O1 P9 ∧ ∀ v8 T2 I2 J2 O2, P9 v8 T2 I2 J2 O2 → ∃ ans, v8 = some (VI ans) ∧ LI ss mo oa T2 I2 J2 O2 ∧ I2 mo 6 = wtThr (I (mo + 1)) (sx xs (i + 1)) (sx xs (i + 2)) (sx xs (i + 3)) ∧ (wtThr (I (mo + 1)) (sx xs (i + 1)) (sx xs (i + 2)) (sx xs (i + 3)) = 0 → J2 oa 0 = i2L ans) := by
    by_cases hc : cellIn (I (mo + 1)) (sx xs (i + 1)) (sx xs (i + 2)) (sx xs (i + 3))
    · by_cases ht : wtThr (I (mo + 1)) (sx xs (i + 1)) (sx xs (i + 2)) (sx xs (i + 3)) = 0
      · obtain ⟨fl, f1, z1, hw⟩ := hA ht
        have C := ct_X11_write (T := T1) (I := I1) (J := J1) (O := O1) (mo := mo) (fl := fl) M.1 (sx_b (xs := xs) (z := i + 1)) (sx_b (xs := xs) (z := i + 2)) (sx_b (xs := xs) (z := i + 3)) (fun a c => by rw [m1]; exact hI.fm a c) (fun _ => by rw [m1]; exact f1)
        rw [m1, if_pos ht, m4] at C
        refine ⟨_, C, fun v8 T2 I2 J2 O2 hp => ?_⟩
        obtain ⟨rfl, c1⟩ := mOut_c hp
        rw [m1, m2, m0] at c1
        obtain ⟨l2, t2, j2⟩ := h.fin M hw c1 hI hN (txW_w9 f1) hR (fun _ _ _ => rfl)
        exact ⟨_, rfl, l2, t2.trans ht.symm, fun _ => j2.trans z1⟩
      · have C := ct_X11_write (T := T1) (I := I1) (J := J1) (O := O1) (mo := mo) (fl := []) M.1 (sx_b (xs := xs) (z := i + 1)) (sx_b (xs := xs) (z := i + 2)) (sx_b (xs := xs) (z := i + 3)) (fun a c => by rw [m1]; exact hI.fm a c) (fun hi => by rw [m1] at hi; exact absurd ((if_pos hc).trans (if_neg (by have := hi.2; omega))) ht)
        rw [m1, if_neg ht] at C
        refine ⟨_, C, fun v8 T2 I2 J2 O2 hp => ?_⟩
        obtain ⟨rfl, c1⟩ := mOut_c hp
        obtain ⟨l2, t2, j2⟩ := h.say M (hZ ht) c1
        exact ⟨_, rfl, l2, t2, fun e => absurd e ht⟩
    · have ht : wtThr (I (mo + 1)) (sx xs (i + 1)) (sx xs (i + 2)) (sx xs (i + 3)) = 1 := if_neg hc
      have C := ct_X11_writeN (T := T1) (I := I1) (J := J1) (O := O1) (mo := mo) M.1 (sx_b (xs := xs) (z := i + 1)) (sx_b (xs := xs) (z := i + 2)) (sx_b (xs := xs) (z := i + 3)) (by rw [m1]; exact hc)
      refine ⟨_, C, fun v8 T2 I2 J2 O2 hp => ?_⟩
      obtain ⟨rfl, c1⟩ := mOut_c hp
      obtain ⟨l2, t2, j2⟩ := h.say M (hZ (by rw [ht]; decide)) c1
      exact ⟨_, rfl, l2, t2.trans ht.symm, fun e => absurd (ht.symm.trans e) (by decide)⟩
  obtain ⟨P9, C, hC⟩ := C
  refine G_cVg x eL_law_1388 kL_154 im_yX11_write se_yX11_write rm M.1.m C rfl ?_
  intro v8 T2 I2 J2 O2 hp
  have key := hC _ _ _ _ _ hp
  obtain ⟨ans, rfl, l2, t2, j2⟩ := key
  exact G_tail Q0 eL_law_1391 eL_law_1393 eL_law_1394 eL_law_1397 eL_law_1399 eL_law_1404 eL_law_1406 eL_law_1409 eL_law_1410 eL_law_1411 eL_law_1412 eL_law_1414 eL_law_1415 eL_law_1416 eL_law_1421 l2 t2 j2 (by omega) (by omega) (kk _ _ _ _ _ _ _ _ l2 (by omega) (by omega))
theorem st_cycles {X : gX} {b L ss mo oa : Nat} {xs : Nat → Int32} {T : gT} {I : gI} {J : gJ} {O : gO} {i : Int} {o5 o6 : Option Value} {kc nc : Nat} (Q : LawC X b L xs) (hL : L ≤ 2560) (h : LI ss mo oa T I J O) (i0 : 0 ≤ i) (i1 : i + 5 ≤ L) (hk : kc + 10 ≤ 601024) (hn : nc + 140 ≤ 7293034) (kk : ∀ T' I' J' O' o5 o6 k' n', LI ss mo oa T' I' J' O' → k' ≤ kc + 10 → n' ≤ nc + 140 → G X 2196 (lwL b ss mo oa i o5 o6) [] T' I' J' O' k' n') : G X 1424 (lwL b ss mo oa i o5 o6) [] T I J O kc nc := by
  have Q0 := Q
  obtain ⟨x, rm, hnc, hs⟩ := Q
  have hN := h.2.2.2.2.2.1
  have hI := h.2.2.2.2.1
  have hX := h.2.2.2.2.2.2.1
  have hR := h.2.2.2.2.2.2.2
  refine G_aload1 x eL_law_1424 ?_
  refine G_arg x hs eL_law_1425 eL_law_1426 eL_law_1428 eL_law_1429 eL_law_1430 (by omega) (by omega) hL ?_
  refine G_aload3 x eL_law_1431 ?_
  refine G_cSH x hnc eL_law_1432 kH_155 rm (ct_w_cycles (B := oa) (T := T) (I := I) (J := J) (O := O) h.2.2.2.1 hI (sx_b (xs := xs) (z := i + 1)) h.2.2.1 h.hoa) rfl ?_
  intro v9 T1 I1 J1 O1 p1
  obtain ⟨rfl, hF, hA, hZ⟩ := p1
  have M := h.md hF
  have m0 := M.2.2.1
  have m1 := M.2.2.2.1
  have m2 := M.2.2.2.2.1
  have m4 := M.2.2.2.2.2.1
  have m8 := M.2.2.2.2.2.2
  refine G_istore5 x eL_law_1435 ?_
  refine G_aload2 x eL_law_1437 ?_
  refine G_arg x hs eL_law_1438 eL_law_1439 eL_law_1441 eL_law_1442 eL_law_1443 (by omega) (by omega) hL ?_
  have C := ct_X11_cycles (T := T1) (I := I1) (J := J1) (O := O1) (mo := mo) M.1 (sx_b (xs := xs) (z := i + 1)) (fun a c => by rw [m1]; exact hI.fm a c)
  rw [m1] at C
  refine G_cVg x eL_law_1444 kL_158 im_yX11_cycles se_yX11_cycles rm M.1.m C rfl ?_
  intro v8 T2 I2 J2 O2 hp
  have key : ∃ ans, v8 = some (VI ans) ∧ LI ss mo oa T2 I2 J2 O2 ∧ I2 mo 6 = iThr (sx xs (i + 1)) ∧ (iThr (sx xs (i + 1)) = 0 → J2 oa 0 = i2L ans) := by
    by_cases hc : 0 ≤ (sx xs (i + 1)) ∧ (sx xs (i + 1)) ≤ 2
    · have ht : iThr (sx xs (i + 1)) = 0 := if_pos hc
      rw [if_pos hc] at hp
      obtain ⟨z1, hw⟩ := hA ht
      obtain ⟨rfl, c1⟩ := mOut_c hp
      obtain ⟨l2, t2, j2⟩ := h.say M hw c1
      exact ⟨_, rfl, l2, t2.trans ht.symm, fun _ => j2.trans z1⟩
    · have ht : iThr (sx xs (i + 1)) = 1 := if_neg hc
      rw [if_neg hc] at hp
      obtain ⟨rfl, c1⟩ := mOut_c hp
      obtain ⟨l2, t2, j2⟩ := h.say M (hZ (by rw [ht]; decide)) c1
      exact ⟨_, rfl, l2, t2.trans ht.symm, fun e => absurd (ht.symm.trans e) (by decide)⟩
  obtain ⟨ans, rfl, l2, t2, j2⟩ := key
  exact G_tail Q0 eL_law_1447 eL_law_1449 eL_law_1450 eL_law_1453 eL_law_1455 eL_law_1460 eL_law_1462 eL_law_1465 eL_law_1466 eL_law_1467 eL_law_1468 eL_law_1470 eL_law_1471 eL_law_1472 eL_law_1477 l2 t2 j2 (by omega) (by omega) (kk _ _ _ _ _ _ _ _ l2 (by omega) (by omega))
theorem st_order {X : gX} {b L ss mo oa : Nat} {xs : Nat → Int32} {T : gT} {I : gI} {J : gJ} {O : gO} {i : Int} {o5 o6 : Option Value} {kc nc : Nat} (Q : LawC X b L xs) (hL : L ≤ 2560) (h : LI ss mo oa T I J O) (i0 : 0 ≤ i) (i1 : i + 5 ≤ L) (hk : kc + 10 ≤ 601024) (hn : nc + 140 ≤ 7293034) (kk : ∀ T' I' J' O' o5 o6 k' n', LI ss mo oa T' I' J' O' → k' ≤ kc + 10 → n' ≤ nc + 140 → G X 2196 (lwL b ss mo oa i o5 o6) [] T' I' J' O' k' n') : G X 1480 (lwL b ss mo oa i o5 o6) [] T I J O kc nc := by
  have Q0 := Q
  obtain ⟨x, rm, hnc, hs⟩ := Q
  have hN := h.2.2.2.2.2.1
  have hI := h.2.2.2.2.1
  have hX := h.2.2.2.2.2.2.1
  have hR := h.2.2.2.2.2.2.2
  refine G_aload1 x eL_law_1480 ?_
  refine G_arg x hs eL_law_1481 eL_law_1482 eL_law_1484 eL_law_1485 eL_law_1486 (by omega) (by omega) hL ?_
  refine G_arg x hs eL_law_1487 eL_law_1488 eL_law_1490 eL_law_1491 eL_law_1492 (by omega) (by omega) hL ?_
  refine G_aload3 x eL_law_1493 ?_
  refine G_cSH x hnc eL_law_1494 kH_159 rm (ct_w_order (B := oa) (T := T) (I := I) (J := J) (O := O) h.2.2.2.1 hI (sx_b (xs := xs) (z := i + 1)) (sx_b (xs := xs) (z := i + 2)) h.2.2.1 h.hoa) rfl ?_
  intro v9 T1 I1 J1 O1 p1
  obtain ⟨rfl, hF, hA, hZ⟩ := p1
  have M := h.md hF
  have m0 := M.2.2.1
  have m1 := M.2.2.2.1
  have m2 := M.2.2.2.2.1
  have m4 := M.2.2.2.2.2.1
  have m8 := M.2.2.2.2.2.2
  refine G_istore5 x eL_law_1497 ?_
  refine G_aload2 x eL_law_1499 ?_
  refine G_arg x hs eL_law_1500 eL_law_1501 eL_law_1503 eL_law_1504 eL_law_1505 (by omega) (by omega) hL ?_
  refine G_arg x hs eL_law_1506 eL_law_1507 eL_law_1509 eL_law_1510 eL_law_1511 (by omega) (by omega) hL ?_
  have C := ct_X11_order (T := T1) (I := I1) (J := J1) (O := O1) (mo := mo) M.1 (sx_b (xs := xs) (z := i + 1)) (sx_b (xs := xs) (z := i + 2)) (fun a c => by rw [m1]; exact hI.fm a c)
  rw [m1] at C
  refine G_cVg x eL_law_1512 kL_162 im_yX11_order se_yX11_order rm M.1.m C rfl ?_
  intro v8 T2 I2 J2 O2 hp
  have key : ∃ ans, v8 = some (VI ans) ∧ LI ss mo oa T2 I2 J2 O2 ∧ I2 mo 6 = iThr (sx xs (i + 1)) ∧ (iThr (sx xs (i + 1)) = 0 → J2 oa 0 = i2L ans) := by
    by_cases hc : 0 ≤ (sx xs (i + 1)) ∧ (sx xs (i + 1)) ≤ 2
    · have ht : iThr (sx xs (i + 1)) = 0 := if_pos hc
      rw [if_pos hc] at hp
      obtain ⟨z1, hw⟩ := hA ht
      obtain ⟨rfl, c1⟩ := mOut_c hp
      obtain ⟨l2, t2, j2⟩ := h.say M hw c1
      exact ⟨_, rfl, l2, t2.trans ht.symm, fun _ => j2.trans z1⟩
    · have ht : iThr (sx xs (i + 1)) = 1 := if_neg hc
      rw [if_neg hc] at hp
      obtain ⟨rfl, c1⟩ := mOut_c hp
      obtain ⟨l2, t2, j2⟩ := h.say M (hZ (by rw [ht]; decide)) c1
      exact ⟨_, rfl, l2, t2.trans ht.symm, fun e => absurd (ht.symm.trans e) (by decide)⟩
  obtain ⟨ans, rfl, l2, t2, j2⟩ := key
  exact G_tail Q0 eL_law_1515 eL_law_1517 eL_law_1518 eL_law_1521 eL_law_1523 eL_law_1528 eL_law_1530 eL_law_1533 eL_law_1534 eL_law_1535 eL_law_1536 eL_law_1538 eL_law_1539 eL_law_1540 eL_law_1545 l2 t2 j2 (by omega) (by omega) (kk _ _ _ _ _ _ _ _ l2 (by omega) (by omega))
theorem st_receive {X : gX} {b L ss mo oa : Nat} {xs : Nat → Int32} {T : gT} {I : gI} {J : gJ} {O : gO} {i : Int} {o5 o6 : Option Value} {kc nc : Nat} (Q : LawC X b L xs) (hL : L ≤ 2560) (h : LI ss mo oa T I J O) (i0 : 0 ≤ i) (i1 : i + 5 ≤ L) (hk : kc + 10 ≤ 601024) (hn : nc + 140 ≤ 7293034) (kk : ∀ T' I' J' O' o5 o6 k' n', LI ss mo oa T' I' J' O' → k' ≤ kc + 10 → n' ≤ nc + 140 → G X 2196 (lwL b ss mo oa i o5 o6) [] T' I' J' O' k' n') : G X 1548 (lwL b ss mo oa i o5 o6) [] T I J O kc nc := by
  have Q0 := Q
  obtain ⟨x, rm, hnc, hs⟩ := Q
  have hN := h.2.2.2.2.2.1
  have hI := h.2.2.2.2.1
  have hX := h.2.2.2.2.2.2.1
  have hR := h.2.2.2.2.2.2.2
  refine G_aload1 x eL_law_1548 ?_
  refine G_arg x hs eL_law_1549 eL_law_1550 eL_law_1552 eL_law_1553 eL_law_1554 (by omega) (by omega) hL ?_
  refine G_arg x hs eL_law_1555 eL_law_1556 eL_law_1558 eL_law_1559 eL_law_1560 (by omega) (by omega) hL ?_
  refine G_arg x hs eL_law_1561 eL_law_1562 eL_law_1564 eL_law_1565 eL_law_1566 (by omega) (by omega) hL ?_
  refine G_aload3 x eL_law_1567 ?_
  refine G_cSH x hnc eL_law_1568 kH_163 rm (ct_w_receive (B := oa) (T := T) (I := I) (J := J) (O := O) h.2.2.2.1 hI hN.1 hN.2 (sx_b (xs := xs) (z := i + 1)) (sx_b (xs := xs) (z := i + 2)) (sx_b (xs := xs) (z := i + 3)) h.2.2.1 h.hoa) rfl ?_
  intro v9 T1 I1 J1 O1 p1
  obtain ⟨rfl, hF, hA, hZ⟩ := p1
  have M := h.md hF
  have m0 := M.2.2.1
  have m1 := M.2.2.2.1
  have m2 := M.2.2.2.2.1
  have m4 := M.2.2.2.2.2.1
  have m8 := M.2.2.2.2.2.2
  refine G_istore5 x eL_law_1571 ?_
  refine G_aload2 x eL_law_1573 ?_
  refine G_arg x hs eL_law_1574 eL_law_1575 eL_law_1577 eL_law_1578 eL_law_1579 (by omega) (by omega) hL ?_
  refine G_arg x hs eL_law_1580 eL_law_1581 eL_law_1583 eL_law_1584 eL_law_1585 (by omega) (by omega) hL ?_
  refine G_arg x hs eL_law_1586 eL_law_1587 eL_law_1589 eL_law_1590 eL_law_1591 (by omega) (by omega) hL ?_
  have C := ct_X11_receive (T := T1) (I := I1) (J := J1) (O := O1) (mo := mo) M.1 (sx_b (xs := xs) (z := i + 1)) (sx_b (xs := xs) (z := i + 2)) (sx_b (xs := xs) (z := i + 3)) (by rw [m0]; exact hN) (fun r f a1 a2 a3 a4 a5 => by rw [m1]; exact hI.rc a1 a2 a3 a4 a5)
  rw [m1] at C
  refine G_cVg x eL_law_1592 kL_165 im_yX11_receive se_yX11_receive rm M.1.m C rfl ?_
  intro v8 T2 I2 J2 O2 hp
  have key : ∃ ans, v8 = some (VI ans) ∧ LI ss mo oa T2 I2 J2 O2 ∧ I2 mo 6 = rcThr (sx xs (i + 1)) (sx xs (i + 2)) (sx xs (i + 3)) ∧ (rcThr (sx xs (i + 1)) (sx xs (i + 2)) (sx xs (i + 3)) = 0 → J2 oa 0 = i2L ans) := by
    by_cases ht : rcThr (sx xs (i + 1)) (sx xs (i + 2)) (sx xs (i + 3)) = 0
    · rw [if_pos ht] at hp
      obtain ⟨z1, hw⟩ := hA ht
      obtain ⟨rfl, c1⟩ := mOut_c hp
      obtain ⟨l2, t2, j2⟩ := h.do M hw c1 (I_receive hI ht)
      exact ⟨_, rfl, l2, t2.trans ht.symm, fun _ => j2.trans z1⟩
    · rw [if_neg ht] at hp
      obtain ⟨rfl, c1⟩ := mOut_c hp
      obtain ⟨l2, t2, j2⟩ := h.say M (hZ ht) c1
      exact ⟨_, rfl, l2, t2, fun e => absurd e ht⟩
  obtain ⟨ans, rfl, l2, t2, j2⟩ := key
  exact G_tail Q0 eL_law_1595 eL_law_1597 eL_law_1598 eL_law_1601 eL_law_1603 eL_law_1608 eL_law_1610 eL_law_1613 eL_law_1614 eL_law_1615 eL_law_1616 eL_law_1618 eL_law_1619 eL_law_1620 eL_law_1625 l2 t2 j2 (by omega) (by omega) (kk _ _ _ _ _ _ _ _ l2 (by omega) (by omega))
theorem st_settle {X : gX} {b L ss mo oa : Nat} {xs : Nat → Int32} {T : gT} {I : gI} {J : gJ} {O : gO} {i : Int} {o5 o6 : Option Value} {kc nc : Nat} (Q : LawC X b L xs) (hL : L ≤ 2560) (h : LI ss mo oa T I J O) (i0 : 0 ≤ i) (i1 : i + 5 ≤ L) (hk : kc + 10 ≤ 601024) (hn : nc + 140 ≤ 7293034) (kk : ∀ T' I' J' O' o5 o6 k' n', LI ss mo oa T' I' J' O' → k' ≤ kc + 10 → n' ≤ nc + 140 → G X 2196 (lwL b ss mo oa i o5 o6) [] T' I' J' O' k' n') : G X 1628 (lwL b ss mo oa i o5 o6) [] T I J O kc nc := by
  have Q0 := Q
  obtain ⟨x, rm, hnc, hs⟩ := Q
  have hN := h.2.2.2.2.2.1
  have hI := h.2.2.2.2.1
  have hX := h.2.2.2.2.2.2.1
  have hR := h.2.2.2.2.2.2.2
  refine G_aload1 x eL_law_1628 ?_
  refine G_cVg x eL_law_1629 kL_166 im_yX10_settle se_yX10_settle rm h.2.2.2.1.1.1.1.m (ct_q_settle (B := oa) (T := T) (I := I) (J := J) (O := O) h.2.2.2.1 hI hN.1 hN.2) rfl ?_
  intro v9 T1 I1 J1 O1 p1
  obtain ⟨-, rfl, hF, hw⟩ := p1
  have hF := hF.o (oa := oa)
  have M := h.md hF
  have m0 := M.2.2.1
  have m1 := M.2.2.2.1
  have m2 := M.2.2.2.2.1
  have m4 := M.2.2.2.2.2.1
  have m8 := M.2.2.2.2.2.2
  refine G_aload2 x eL_law_1632 ?_
  have C := ct_X11_settle (T := T1) (I := I1) (J := J1) (O := O1) (mo := mo) M.1 (by rw [m0]; exact hN) (fun r f a1 a2 a3 a4 a5 => by rw [m1]; exact hI.rc a1 a2 a3 a4 a5)
  rw [m1] at C
  refine G_cVg x eL_law_1633 kL_169 im_yX11_settle se_yX11_settle rm M.1.m C rfl ?_
  intro v8 T2 I2 J2 O2 hp
  obtain ⟨rfl, c1⟩ := mOut_c hp
  obtain ⟨l2, -, -⟩ := h.do M hw c1 (hI.sK 9 (Nat.le_refl _))
  refine G_same x eL_law_1636 ?_
  exact kk _ _ _ _ _ _ _ _ l2 (by omega) (by omega)
theorem st_missing {X : gX} {b L ss mo oa : Nat} {xs : Nat → Int32} {T : gT} {I : gI} {J : gJ} {O : gO} {i : Int} {o5 o6 : Option Value} {kc nc : Nat} (Q : LawC X b L xs) (hL : L ≤ 2560) (h : LI ss mo oa T I J O) (i0 : 0 ≤ i) (i1 : i + 5 ≤ L) (hk : kc + 10 ≤ 601024) (hn : nc + 140 ≤ 7293034) (kk : ∀ T' I' J' O' o5 o6 k' n', LI ss mo oa T' I' J' O' → k' ≤ kc + 10 → n' ≤ nc + 140 → G X 2196 (lwL b ss mo oa i o5 o6) [] T' I' J' O' k' n') : G X 1641 (lwL b ss mo oa i o5 o6) [] T I J O kc nc := by
  have Q0 := Q
  obtain ⟨x, rm, hnc, hs⟩ := Q
  have hN := h.2.2.2.2.2.1
  have hI := h.2.2.2.2.1
  have hX := h.2.2.2.2.2.2.1
  have hR := h.2.2.2.2.2.2.2
  refine G_aload1 x eL_law_1641 ?_
  refine G_arg x hs eL_law_1642 eL_law_1643 eL_law_1645 eL_law_1646 eL_law_1647 (by omega) (by omega) hL ?_
  refine G_arg x hs eL_law_1648 eL_law_1649 eL_law_1651 eL_law_1652 eL_law_1653 (by omega) (by omega) hL ?_
  refine G_aload3 x eL_law_1654 ?_
  refine G_cSH x hnc eL_law_1655 kH_170 rm (ct_w_missing (B := oa) (T := T) (I := I) (J := J) (O := O) h.2.2.2.1 hI (sx_b (xs := xs) (z := i + 1)) (sx_b (xs := xs) (z := i + 2)) h.2.2.1 h.hoa) rfl ?_
  intro v9 T1 I1 J1 O1 p1
  obtain ⟨rfl, hF, hA, hZ⟩ := p1
  have M := h.md hF
  have m0 := M.2.2.1
  have m1 := M.2.2.2.1
  have m2 := M.2.2.2.2.1
  have m4 := M.2.2.2.2.2.1
  have m8 := M.2.2.2.2.2.2
  refine G_istore5 x eL_law_1658 ?_
  refine G_aload2 x eL_law_1660 ?_
  refine G_arg x hs eL_law_1661 eL_law_1662 eL_law_1664 eL_law_1665 eL_law_1666 (by omega) (by omega) hL ?_
  refine G_arg x hs eL_law_1667 eL_law_1668 eL_law_1670 eL_law_1671 eL_law_1672 (by omega) (by omega) hL ?_
  have C := ct_X11_missing (T := T1) (I := I1) (J := J1) (O := O1) (mo := mo) M.1 (sx_b (xs := xs) (z := i + 1)) (sx_b (xs := xs) (z := i + 2)) (fun r f a1 a2 a3 a4 a5 => by rw [m1]; exact hI.rc a1 a2 a3 a4 a5)
  rw [m1] at C
  refine G_cVg x eL_law_1673 kL_172 im_yX11_missing se_yX11_missing rm M.1.m C rfl ?_
  intro v8 T2 I2 J2 O2 hp
  have key : ∃ ans, v8 = some (VI ans) ∧ LI ss mo oa T2 I2 J2 O2 ∧ I2 mo 6 = msThr (sx xs (i + 1)) (sx xs (i + 2)) ∧ (msThr (sx xs (i + 1)) (sx xs (i + 2)) = 0 → J2 oa 0 = i2L ans) := by
    by_cases hc : (0 ≤ (sx xs (i + 1)) ∧ (sx xs (i + 1)) ≤ 2) ∧ 0 ≤ (sx xs (i + 2)) ∧ (sx xs (i + 2)) ≤ 2
    · rw [if_pos hc] at hp
      by_cases hd : (sx xs (i + 1)) = (sx xs (i + 2))
      · have ht : msThr (sx xs (i + 1)) (sx xs (i + 2)) = 2 := (if_pos hc).trans (if_pos hd)
        rw [if_pos hd] at hp
        obtain ⟨rfl, c1⟩ := mOut_c hp
        obtain ⟨l2, t2, j2⟩ := h.say M (hZ (by rw [ht]; decide)) c1
        exact ⟨_, rfl, l2, t2.trans ht.symm, fun e => absurd (ht.symm.trans e) (by decide)⟩
      · have ht : msThr (sx xs (i + 1)) (sx xs (i + 2)) = 0 := (if_pos hc).trans (if_neg hd)
        rw [if_neg hd] at hp
        obtain ⟨z1, hw⟩ := hA ht
        obtain ⟨rfl, c1⟩ := mOut_c hp
        obtain ⟨l2, t2, j2⟩ := h.say M hw c1
        exact ⟨_, rfl, l2, t2.trans ht.symm, fun _ => by rw [← cIx_n (fun e => hd e.symm)]; exact j2.trans z1⟩
    · have ht : msThr (sx xs (i + 1)) (sx xs (i + 2)) = 1 := if_neg hc
      rw [if_neg hc] at hp
      obtain ⟨rfl, c1⟩ := mOut_c hp
      obtain ⟨l2, t2, j2⟩ := h.say M (hZ (by rw [ht]; decide)) c1
      exact ⟨_, rfl, l2, t2.trans ht.symm, fun e => absurd (ht.symm.trans e) (by decide)⟩
  obtain ⟨ans, rfl, l2, t2, j2⟩ := key
  exact G_tail Q0 eL_law_1676 eL_law_1678 eL_law_1679 eL_law_1682 eL_law_1684 eL_law_1689 eL_law_1691 eL_law_1694 eL_law_1695 eL_law_1696 eL_law_1697 eL_law_1699 eL_law_1700 eL_law_1701 eL_law_1706 l2 t2 j2 (by omega) (by omega) (kk _ _ _ _ _ _ _ _ l2 (by omega) (by omega))
theorem st_clock {X : gX} {b L ss mo oa : Nat} {xs : Nat → Int32} {T : gT} {I : gI} {J : gJ} {O : gO} {i : Int} {o5 o6 : Option Value} {kc nc : Nat} (Q : LawC X b L xs) (hL : L ≤ 2560) (h : LI ss mo oa T I J O) (i0 : 0 ≤ i) (i1 : i + 5 ≤ L) (hk : kc + 10 ≤ 601024) (hn : nc + 140 ≤ 7293034) (kk : ∀ T' I' J' O' o5 o6 k' n', LI ss mo oa T' I' J' O' → k' ≤ kc + 10 → n' ≤ nc + 140 → G X 2196 (lwL b ss mo oa i o5 o6) [] T' I' J' O' k' n') : G X 1709 (lwL b ss mo oa i o5 o6) [] T I J O kc nc := by
  have Q0 := Q
  obtain ⟨x, rm, hnc, hs⟩ := Q
  have hN := h.2.2.2.2.2.1
  have hI := h.2.2.2.2.1
  have hX := h.2.2.2.2.2.2.1
  have hR := h.2.2.2.2.2.2.2
  refine G_aload1 x eL_law_1709 ?_
  refine G_arg x hs eL_law_1710 eL_law_1711 eL_law_1713 eL_law_1714 eL_law_1715 (by omega) (by omega) hL ?_
  refine G_aload3 x eL_law_1716 ?_
  refine G_cSH x hnc eL_law_1717 kH_173 rm (ct_w_clock (B := oa) (T := T) (I := I) (J := J) (O := O) h.2.2.2.1 hI (sx_b (xs := xs) (z := i + 1)) h.2.2.1 h.hoa) rfl ?_
  intro v9 T1 I1 J1 O1 p1
  obtain ⟨rfl, hF, hA, hZ⟩ := p1
  have M := h.md hF
  have m0 := M.2.2.1
  have m1 := M.2.2.2.1
  have m2 := M.2.2.2.2.1
  have m4 := M.2.2.2.2.2.1
  have m8 := M.2.2.2.2.2.2
  refine G_istore5 x eL_law_1720 ?_
  refine G_aload2 x eL_law_1722 ?_
  refine G_arg x hs eL_law_1723 eL_law_1724 eL_law_1726 eL_law_1727 eL_law_1728 (by omega) (by omega) hL ?_
  have C := ct_X11_clock (T := T1) (I := I1) (J := J1) (O := O1) (mo := mo) M.1 (sx_b (xs := xs) (z := i + 1))
  rw [m1, Int.add_zero] at C
  refine G_cVg x eL_law_1729 kL_175 im_yX11_clock se_yX11_clock rm M.1.m C rfl ?_
  intro v8 T2 I2 J2 O2 hp
  have key : ∃ ans, v8 = some (VI ans) ∧ LI ss mo oa T2 I2 J2 O2 ∧ I2 mo 6 = iThr (sx xs (i + 1)) ∧ (iThr (sx xs (i + 1)) = 0 → J2 oa 0 = i2L ans) := by
    by_cases hc : 0 ≤ (sx xs (i + 1)) ∧ (sx xs (i + 1)) ≤ 2
    · have ht : iThr (sx xs (i + 1)) = 0 := if_pos hc
      rw [if_pos hc] at hp
      obtain ⟨z1, hw⟩ := hA ht
      obtain ⟨rfl, c1⟩ := mOut_c hp
      obtain ⟨l2, t2, j2⟩ := h.say M hw c1
      exact ⟨_, rfl, l2, t2.trans ht.symm, fun _ => j2.trans z1⟩
    · have ht : iThr (sx xs (i + 1)) = 1 := if_neg hc
      rw [if_neg hc] at hp
      obtain ⟨rfl, c1⟩ := mOut_c hp
      obtain ⟨l2, t2, j2⟩ := h.say M (hZ (by rw [ht]; decide)) c1
      exact ⟨_, rfl, l2, t2.trans ht.symm, fun e => absurd (ht.symm.trans e) (by decide)⟩
  obtain ⟨ans, rfl, l2, t2, j2⟩ := key
  exact G_tail Q0 eL_law_1732 eL_law_1734 eL_law_1735 eL_law_1738 eL_law_1740 eL_law_1745 eL_law_1747 eL_law_1750 eL_law_1751 eL_law_1752 eL_law_1753 eL_law_1755 eL_law_1756 eL_law_1757 eL_law_1762 l2 t2 j2 (by omega) (by omega) (kk _ _ _ _ _ _ _ _ l2 (by omega) (by omega))
theorem st_operation {X : gX} {b L ss mo oa : Nat} {xs : Nat → Int32} {T : gT} {I : gI} {J : gJ} {O : gO} {i : Int} {o5 o6 : Option Value} {kc nc : Nat} (Q : LawC X b L xs) (hL : L ≤ 2560) (h : LI ss mo oa T I J O) (i0 : 0 ≤ i) (i1 : i + 5 ≤ L) (hk : kc + 10 ≤ 601024) (hn : nc + 140 ≤ 7293034) (kk : ∀ T' I' J' O' o5 o6 k' n', LI ss mo oa T' I' J' O' → k' ≤ kc + 10 → n' ≤ nc + 140 → G X 2196 (lwL b ss mo oa i o5 o6) [] T' I' J' O' k' n') : G X 1765 (lwL b ss mo oa i o5 o6) [] T I J O kc nc := by
  have Q0 := Q
  obtain ⟨x, rm, hnc, hs⟩ := Q
  have hN := h.2.2.2.2.2.1
  have hI := h.2.2.2.2.1
  have hX := h.2.2.2.2.2.2.1
  have hR := h.2.2.2.2.2.2.2
  refine G_aload1 x eL_law_1765 ?_
  refine G_arg x hs eL_law_1766 eL_law_1767 eL_law_1769 eL_law_1770 eL_law_1771 (by omega) (by omega) hL ?_
  refine G_arg x hs eL_law_1772 eL_law_1773 eL_law_1775 eL_law_1776 eL_law_1777 (by omega) (by omega) hL ?_
  refine G_arg x hs eL_law_1778 eL_law_1779 eL_law_1781 eL_law_1782 eL_law_1783 (by omega) (by omega) hL ?_
  refine G_aload3 x eL_law_1784 ?_
  refine G_cSH x hnc eL_law_1785 kH_176 rm (ct_w_operation (B := oa) (T := T) (I := I) (J := J) (O := O) h.2.2.2.1 hI (sx_b (xs := xs) (z := i + 1)) (sx_b (xs := xs) (z := i + 2)) (sx_b (xs := xs) (z := i + 3)) h.2.2.1 h.hoa) rfl ?_
  intro v9 T1 I1 J1 O1 p1
  obtain ⟨rfl, hF, hA, hZ⟩ := p1
  have M := h.md hF
  have m0 := M.2.2.1
  have m1 := M.2.2.2.1
  have m2 := M.2.2.2.2.1
  have m4 := M.2.2.2.2.2.1
  have m8 := M.2.2.2.2.2.2
  refine G_istore5 x eL_law_1788 ?_
  refine G_aload2 x eL_law_1790 ?_
  refine G_arg x hs eL_law_1791 eL_law_1792 eL_law_1794 eL_law_1795 eL_law_1796 (by omega) (by omega) hL ?_
  refine G_arg x hs eL_law_1797 eL_law_1798 eL_law_1800 eL_law_1801 eL_law_1802 (by omega) (by omega) hL ?_
  refine G_arg x hs eL_law_1803 eL_law_1804 eL_law_1806 eL_law_1807 eL_law_1808 (by omega) (by omega) hL ?_
  have C := ct_X11_operation (T := T1) (I := I1) (J := J1) (O := O1) (mo := mo) M.1 (sx_b (xs := xs) (z := i + 1)) (sx_b (xs := xs) (z := i + 2)) (sx_b (xs := xs) (z := i + 3)) (fun a c => by rw [m1]; exact hI.f a c)
  rw [m1] at C
  refine G_cVg x eL_law_1809 kL_178 im_yX11_operation se_yX11_operation rm M.1.m C rfl ?_
  intro v8 T2 I2 J2 O2 hp
  have key : ∃ ans, v8 = some (VI ans) ∧ LI ss mo oa T2 I2 J2 O2 ∧ I2 mo 6 = aThr (sx xs (i + 1)) (sx xs (i + 3)) 4 ∧ (aThr (sx xs (i + 1)) (sx xs (i + 3)) 4 = 0 → J2 oa 0 = i2L ans) := by
    by_cases hc : 0 ≤ (sx xs (i + 1)) ∧ (sx xs (i + 1)) ≤ 2
    · rw [if_pos hc] at hp
      by_cases hd : 0 ≤ (sx xs (i + 3)) ∧ (sx xs (i + 3)) ≤ 4
      · have ht : aThr (sx xs (i + 1)) (sx xs (i + 3)) 4 = 0 := (if_pos hc).trans (if_pos hd)
        rw [if_pos hd] at hp
        obtain ⟨z1, hw⟩ := hA ht
        obtain ⟨rfl, c1⟩ := mOut_c hp
        obtain ⟨l2, t2, j2⟩ := h.say M hw c1
        exact ⟨_, rfl, l2, t2.trans ht.symm, fun _ => j2.trans z1⟩
      · have ht : aThr (sx xs (i + 1)) (sx xs (i + 3)) 4 = 2 := (if_pos hc).trans (if_neg hd)
        rw [if_neg hd] at hp
        obtain ⟨rfl, c1⟩ := mOut_c hp
        obtain ⟨l2, t2, j2⟩ := h.say M (hZ (by rw [ht]; decide)) c1
        exact ⟨_, rfl, l2, t2.trans ht.symm, fun e => absurd (ht.symm.trans e) (by decide)⟩
    · have ht : aThr (sx xs (i + 1)) (sx xs (i + 3)) 4 = 1 := if_neg hc
      rw [if_neg hc] at hp
      obtain ⟨rfl, c1⟩ := mOut_c hp
      obtain ⟨l2, t2, j2⟩ := h.say M (hZ (by rw [ht]; decide)) c1
      exact ⟨_, rfl, l2, t2.trans ht.symm, fun e => absurd (ht.symm.trans e) (by decide)⟩
  obtain ⟨ans, rfl, l2, t2, j2⟩ := key
  exact G_tail Q0 eL_law_1812 eL_law_1814 eL_law_1815 eL_law_1818 eL_law_1820 eL_law_1825 eL_law_1827 eL_law_1830 eL_law_1831 eL_law_1832 eL_law_1833 eL_law_1835 eL_law_1836 eL_law_1837 eL_law_1842 l2 t2 j2 (by omega) (by omega) (kk _ _ _ _ _ _ _ _ l2 (by omega) (by omega))
theorem st_areAlike {X : gX} {b L ss mo oa : Nat} {xs : Nat → Int32} {T : gT} {I : gI} {J : gJ} {O : gO} {i : Int} {o5 o6 : Option Value} {kc nc : Nat} (Q : LawC X b L xs) (hL : L ≤ 2560) (h : LI ss mo oa T I J O) (i0 : 0 ≤ i) (i1 : i + 5 ≤ L) (hk : kc + 10 ≤ 601024) (hn : nc + 140 ≤ 7293034) (kk : ∀ T' I' J' O' o5 o6 k' n', LI ss mo oa T' I' J' O' → k' ≤ kc + 10 → n' ≤ nc + 140 → G X 2196 (lwL b ss mo oa i o5 o6) [] T' I' J' O' k' n') : G X 1845 (lwL b ss mo oa i o5 o6) [] T I J O kc nc := by
  have Q0 := Q
  obtain ⟨x, rm, hnc, hs⟩ := Q
  have hN := h.2.2.2.2.2.1
  have hI := h.2.2.2.2.1
  have hX := h.2.2.2.2.2.2.1
  have hR := h.2.2.2.2.2.2.2
  refine G_aload1 x eL_law_1845 ?_
  refine G_arg x hs eL_law_1846 eL_law_1847 eL_law_1849 eL_law_1850 eL_law_1851 (by omega) (by omega) hL ?_
  refine G_arg x hs eL_law_1852 eL_law_1853 eL_law_1855 eL_law_1856 eL_law_1857 (by omega) (by omega) hL ?_
  refine G_aload3 x eL_law_1858 ?_
  refine G_cSH x hnc eL_law_1859 kH_179 rm (ct_w_areAlike (B := oa) (T := T) (I := I) (J := J) (O := O) h.2.2.2.1 hI (sx_b (xs := xs) (z := i + 1)) (sx_b (xs := xs) (z := i + 2)) h.2.2.1 h.hoa) rfl ?_
  intro v9 T1 I1 J1 O1 p1
  obtain ⟨rfl, hF, hA, hZ⟩ := p1
  have M := h.md hF
  have m0 := M.2.2.1
  have m1 := M.2.2.2.1
  have m2 := M.2.2.2.2.1
  have m4 := M.2.2.2.2.2.1
  have m8 := M.2.2.2.2.2.2
  refine G_istore5 x eL_law_1862 ?_
  refine G_aload2 x eL_law_1864 ?_
  refine G_arg x hs eL_law_1865 eL_law_1866 eL_law_1868 eL_law_1869 eL_law_1870 (by omega) (by omega) hL ?_
  refine G_arg x hs eL_law_1871 eL_law_1872 eL_law_1874 eL_law_1875 eL_law_1876 (by omega) (by omega) hL ?_
  have C := ct_X11_areAlike (T := T1) (I := I1) (J := J1) (O := O1) (mo := mo) M.1 (sx_b (xs := xs) (z := i + 1)) (sx_b (xs := xs) (z := i + 2)) (fun r a c => by rw [m1]; exact hI.fm a c)
  rw [m1] at C
  refine G_cVg x eL_law_1877 kL_181 im_yX11_areAlike se_yX11_areAlike rm M.1.m C rfl ?_
  intro v8 T2 I2 J2 O2 hp
  have key : ∃ ans, in32 ans ∧ v8 = some (VI ans) ∧ LI ss mo oa T2 I2 J2 O2 ∧ I2 mo 6 = jThr (sx xs (i + 1)) (sx xs (i + 2)) ∧ (jThr (sx xs (i + 1)) (sx xs (i + 2)) = 0 → J2 oa 0 = if ans = 0 then 0 else 1) := by
    by_cases hc : (0 ≤ (sx xs (i + 1)) ∧ (sx xs (i + 1)) ≤ 2) ∧ 0 ≤ (sx xs (i + 2)) ∧ (sx xs (i + 2)) ≤ 2
    · have ht : jThr (sx xs (i + 1)) (sx xs (i + 2)) = 0 := if_pos hc
      rw [if_pos hc] at hp
      obtain ⟨z1, hw⟩ := hA ht
      obtain ⟨rfl, c1⟩ := mSum_c hp
      obtain ⟨l2, t2, j2⟩ := h.say M hw c1
      exact ⟨_, b01_b9, rfl, l2, t2.trans ht.symm, fun _ => j2.trans z1⟩
    · have ht : jThr (sx xs (i + 1)) (sx xs (i + 2)) = 1 := if_neg hc
      rw [if_neg hc] at hp
      obtain ⟨rfl, c1⟩ := mOut_c hp
      obtain ⟨l2, t2, j2⟩ := h.say M (hZ (by rw [ht]; decide)) c1
      exact ⟨_, ⟨by decide, by decide⟩, rfl, l2, t2.trans ht.symm, fun e => absurd (ht.symm.trans e) (by decide)⟩
  obtain ⟨ans, hb9, rfl, l2, t2, j2⟩ := key
  refine G_rg (fun hr => ?_)
  have hb : in32 (jThr (sx xs (i + 1)) (sx xs (i + 2))) := by rw [← t2]; exact hr _ _
  generalize jThr (sx xs (i + 1)) (sx xs (i + 2)) = thr at *
  refine G_istore6 x eL_law_1880 ?_
  refine G_aload2 x eL_law_1882 ?_
  refine G_cV x eL_law_1883 kL_109 im_yX11_thrown se_yX11_thrown rm l2.2.1.m (ct_X11_thrown (T := T2) (I := I2) (J := J2) (O := O2) l2.2.1) rfl ?_
  rw [t2]
  refine G_iload5 x eL_law_1886 ?_
  refine G_icmp_eq x eL_law_1888 hb hb (fun _ => ?_) (fun e => absurd rfl e)
  refine G_iload5 x eL_law_1893 ?_
  refine G_if_ne x eL_law_1895 hb (fun e => ?_) (fun e => ?_)
  · exact G_goto x eL_law_1917 (kk _ _ _ _ _ _ _ _ l2 (by omega) (by omega))
  · refine G_aload3 x eL_law_1898 ?_
    refine G_push x eL_law_1899 ?_
    refine G_lald x eL_law_1900 rfl l2.2.2.1 (by omega) (by omega) ⟨by omega, by omega⟩ ?_
    have j3 := j2 e
    refine G_iload6 x eL_law_1901 ?_
    refine G_if_eq x eL_law_1903 hb9 (fun ea => ?_) (fun ea => ?_)
    · rw [if_pos ea] at j3
      refine G_lconst x eL_law_1910 ?_
      refine G_lcmp x eL_law_1911 ?_
      refine G_if_eq x eL_law_1912 lcm_b (fun _ => ?_) (fun e' => absurd (lcm_0.mpr j3) e')
      exact G_goto x eL_law_1917 (kk _ _ _ _ _ _ _ _ l2 (by omega) (by omega))
    · rw [if_neg ea] at j3
      refine G_lconst x eL_law_1906 ?_
      refine G_goto x eL_law_1907 ?_
      refine G_lcmp x eL_law_1911 ?_
      refine G_if_eq x eL_law_1912 lcm_b (fun _ => ?_) (fun e' => absurd (lcm_0.mpr j3) e')
      exact G_goto x eL_law_1917 (kk _ _ _ _ _ _ _ _ l2 (by omega) (by omega))
theorem st_different {X : gX} {b L ss mo oa : Nat} {xs : Nat → Int32} {T : gT} {I : gI} {J : gJ} {O : gO} {i : Int} {o5 o6 : Option Value} {kc nc : Nat} (Q : LawC X b L xs) (hL : L ≤ 2560) (h : LI ss mo oa T I J O) (i0 : 0 ≤ i) (i1 : i + 5 ≤ L) (hk : kc + 10 ≤ 601024) (hn : nc + 140 ≤ 7293034) (kk : ∀ T' I' J' O' o5 o6 k' n', LI ss mo oa T' I' J' O' → k' ≤ kc + 10 → n' ≤ nc + 140 → G X 2196 (lwL b ss mo oa i o5 o6) [] T' I' J' O' k' n') : G X 1920 (lwL b ss mo oa i o5 o6) [] T I J O kc nc := by
  have Q0 := Q
  obtain ⟨x, rm, hnc, hs⟩ := Q
  have hN := h.2.2.2.2.2.1
  have hI := h.2.2.2.2.1
  have hX := h.2.2.2.2.2.2.1
  have hR := h.2.2.2.2.2.2.2
  refine G_aload1 x eL_law_1920 ?_
  refine G_arg x hs eL_law_1921 eL_law_1922 eL_law_1924 eL_law_1925 eL_law_1926 (by omega) (by omega) hL ?_
  refine G_arg x hs eL_law_1927 eL_law_1928 eL_law_1930 eL_law_1931 eL_law_1932 (by omega) (by omega) hL ?_
  refine G_aload3 x eL_law_1933 ?_
  refine G_cSH x hnc eL_law_1934 kH_182 rm (ct_w_different (B := oa) (T := T) (I := I) (J := J) (O := O) h.2.2.2.1 hI (sx_b (xs := xs) (z := i + 1)) (sx_b (xs := xs) (z := i + 2)) h.2.2.1 h.hoa) rfl ?_
  intro v9 T1 I1 J1 O1 p1
  obtain ⟨rfl, hF, hA, hZ⟩ := p1
  have M := h.md hF
  have m0 := M.2.2.1
  have m1 := M.2.2.2.1
  have m2 := M.2.2.2.2.1
  have m4 := M.2.2.2.2.2.1
  have m8 := M.2.2.2.2.2.2
  refine G_istore5 x eL_law_1937 ?_
  refine G_aload2 x eL_law_1939 ?_
  refine G_arg x hs eL_law_1940 eL_law_1941 eL_law_1943 eL_law_1944 eL_law_1945 (by omega) (by omega) hL ?_
  refine G_arg x hs eL_law_1946 eL_law_1947 eL_law_1949 eL_law_1950 eL_law_1951 (by omega) (by omega) hL ?_
  have C := ct_X11_different (T := T1) (I := I1) (J := J1) (O := O1) (mo := mo) M.1 (sx_b (xs := xs) (z := i + 1)) (sx_b (xs := xs) (z := i + 2))
  rw [m1] at C
  refine G_cVg x eL_law_1952 kL_184 im_yX11_different se_yX11_different rm M.1.m C rfl ?_
  intro v8 T2 I2 J2 O2 hp
  have key : ∃ ans, v8 = some (VI ans) ∧ LI ss mo oa T2 I2 J2 O2 ∧ I2 mo 6 = jThr (sx xs (i + 1)) (sx xs (i + 2)) ∧ (jThr (sx xs (i + 1)) (sx xs (i + 2)) = 0 → J2 oa 0 = i2L ans) := by
    by_cases hc : (0 ≤ (sx xs (i + 1)) ∧ (sx xs (i + 1)) ≤ 2) ∧ 0 ≤ (sx xs (i + 2)) ∧ (sx xs (i + 2)) ≤ 2
    · have ht : jThr (sx xs (i + 1)) (sx xs (i + 2)) = 0 := if_pos hc
      rw [if_pos hc] at hp
      obtain ⟨z1, hw⟩ := hA ht
      obtain ⟨rfl, c1⟩ := mOut_c hp
      obtain ⟨l2, t2, j2⟩ := h.say M hw c1
      exact ⟨_, rfl, l2, t2.trans ht.symm, fun _ => j2.trans z1⟩
    · have ht : jThr (sx xs (i + 1)) (sx xs (i + 2)) = 1 := if_neg hc
      rw [if_neg hc] at hp
      obtain ⟨rfl, c1⟩ := mOut_c hp
      obtain ⟨l2, t2, j2⟩ := h.say M (hZ (by rw [ht]; decide)) c1
      exact ⟨_, rfl, l2, t2.trans ht.symm, fun e => absurd (ht.symm.trans e) (by decide)⟩
  obtain ⟨ans, rfl, l2, t2, j2⟩ := key
  exact G_tail Q0 eL_law_1955 eL_law_1957 eL_law_1958 eL_law_1961 eL_law_1963 eL_law_1968 eL_law_1970 eL_law_1973 eL_law_1974 eL_law_1975 eL_law_1976 eL_law_1978 eL_law_1979 eL_law_1980 eL_law_1985 l2 t2 j2 (by omega) (by omega) (kk _ _ _ _ _ _ _ _ l2 (by omega) (by omega))
theorem st_type {X : gX} {b L ss mo oa : Nat} {xs : Nat → Int32} {T : gT} {I : gI} {J : gJ} {O : gO} {i : Int} {o5 o6 : Option Value} {kc nc : Nat} (Q : LawC X b L xs) (hL : L ≤ 2560) (h : LI ss mo oa T I J O) (i0 : 0 ≤ i) (i1 : i + 5 ≤ L) (hk : kc + 10 ≤ 601024) (hn : nc + 140 ≤ 7293034) (kk : ∀ T' I' J' O' o5 o6 k' n', LI ss mo oa T' I' J' O' → k' ≤ kc + 10 → n' ≤ nc + 140 → G X 2196 (lwL b ss mo oa i o5 o6) [] T' I' J' O' k' n') : G X 1988 (lwL b ss mo oa i o5 o6) [] T I J O kc nc := by
  have Q0 := Q
  obtain ⟨x, rm, hnc, hs⟩ := Q
  have hN := h.2.2.2.2.2.1
  have hI := h.2.2.2.2.1
  have hX := h.2.2.2.2.2.2.1
  have hR := h.2.2.2.2.2.2.2
  refine G_aload1 x eL_law_1988 ?_
  refine G_arg x hs eL_law_1989 eL_law_1990 eL_law_1992 eL_law_1993 eL_law_1994 (by omega) (by omega) hL ?_
  refine G_aload3 x eL_law_1995 ?_
  refine G_cSH x hnc eL_law_1996 kH_185 rm (ct_w_type (B := oa) (T := T) (I := I) (J := J) (O := O) h.2.2.2.1 hI (sx_b (xs := xs) (z := i + 1)) hX h.2.2.1 h.hoa) rfl ?_
  intro v9 T1 I1 J1 O1 p1
  obtain ⟨rfl, hF, hA, hZ⟩ := p1
  have M := h.md hF
  have m0 := M.2.2.1
  have m1 := M.2.2.2.1
  have m2 := M.2.2.2.2.1
  have m4 := M.2.2.2.2.2.1
  have m8 := M.2.2.2.2.2.2
  refine G_istore5 x eL_law_1999 ?_
  refine G_aload2 x eL_law_2001 ?_
  refine G_arg x hs eL_law_2002 eL_law_2003 eL_law_2005 eL_law_2006 eL_law_2007 (by omega) (by omega) hL ?_
  have C := ct_X11_type (T := T1) (I := I1) (J := J1) (O := O1) (mo := mo) M.1 (sx_b (xs := xs) (z := i + 1)) (by rw [m0]; exact hX.1.1) (by rw [m0]; exact hX.1.2)
  rw [m0, m4] at C
  refine G_cVg x eL_law_2008 kL_187 im_yX11_type se_yX11_type rm M.1.m C rfl ?_
  intro v8 T2 I2 J2 O2 hp
  have key : ∃ ans, v8 = some (VI ans) ∧ LI ss mo oa T2 I2 J2 O2 ∧ I2 mo 6 = tyThr (I mo 5) (sx xs (i + 1)) ∧ (tyThr (I mo 5) (sx xs (i + 1)) = 0 → J2 oa 0 = i2L ans) := by
    by_cases hc : 32 ≤ (sx xs (i + 1)) ∧ (sx xs (i + 1)) ≤ 126
    · rw [if_pos hc] at hp
      by_cases hd : (I mo 5) < 24
      · have ht : tyThr (I mo 5) (sx xs (i + 1)) = 0 := (if_pos hc).trans (if_pos hd)
        rw [if_pos hd] at hp
        obtain ⟨z1, hw⟩ := hA ht
        obtain ⟨rfl, c1⟩ := mOut_c hp
        rw [m1, m2, m0] at c1
        have hx9 : txW (sU (I (mo + 4)) (I mo 5) (sx xs (i + 1))) ((I mo 5) + 1) := ⟨⟨by have := hX.1; omega, by omega⟩, fun j j0 j1 => by
          by_cases ej : j = (I mo 5)
          · rw [ej, sU_s]; omega
          · rw [sU_o ej]; exact hX.2 j j0 (by omega)⟩
        obtain ⟨l2, t2, j2⟩ := h.fin M hw c1 hI hN hx9 hR (fun _ _ _ => rfl)
        exact ⟨_, rfl, l2, t2.trans ht.symm, fun _ => j2.trans z1⟩
      · have ht : tyThr (I mo 5) (sx xs (i + 1)) = 2 := (if_pos hc).trans (if_neg hd)
        rw [if_neg hd] at hp
        obtain ⟨rfl, c1⟩ := mOut_c hp
        obtain ⟨l2, t2, j2⟩ := h.say M (hZ (by rw [ht]; decide)) c1
        exact ⟨_, rfl, l2, t2.trans ht.symm, fun e => absurd (ht.symm.trans e) (by decide)⟩
    · have ht : tyThr (I mo 5) (sx xs (i + 1)) = 1 := if_neg hc
      rw [if_neg hc] at hp
      obtain ⟨rfl, c1⟩ := mOut_c hp
      obtain ⟨l2, t2, j2⟩ := h.say M (hZ (by rw [ht]; decide)) c1
      exact ⟨_, rfl, l2, t2.trans ht.symm, fun e => absurd (ht.symm.trans e) (by decide)⟩
  obtain ⟨ans, rfl, l2, t2, j2⟩ := key
  exact G_tail Q0 eL_law_2011 eL_law_2013 eL_law_2014 eL_law_2017 eL_law_2019 eL_law_2024 eL_law_2026 eL_law_2029 eL_law_2030 eL_law_2031 eL_law_2032 eL_law_2034 eL_law_2035 eL_law_2036 eL_law_2041 l2 t2 j2 (by omega) (by omega) (kk _ _ _ _ _ _ _ _ l2 (by omega) (by omega))
theorem st_clearText {X : gX} {b L ss mo oa : Nat} {xs : Nat → Int32} {T : gT} {I : gI} {J : gJ} {O : gO} {i : Int} {o5 o6 : Option Value} {kc nc : Nat} (Q : LawC X b L xs) (hL : L ≤ 2560) (h : LI ss mo oa T I J O) (i0 : 0 ≤ i) (i1 : i + 5 ≤ L) (hk : kc + 10 ≤ 601024) (hn : nc + 140 ≤ 7293034) (kk : ∀ T' I' J' O' o5 o6 k' n', LI ss mo oa T' I' J' O' → k' ≤ kc + 10 → n' ≤ nc + 140 → G X 2196 (lwL b ss mo oa i o5 o6) [] T' I' J' O' k' n') : G X 2044 (lwL b ss mo oa i o5 o6) [] T I J O kc nc := by
  have Q0 := Q
  obtain ⟨x, rm, hnc, hs⟩ := Q
  have hN := h.2.2.2.2.2.1
  have hI := h.2.2.2.2.1
  have hX := h.2.2.2.2.2.2.1
  have hR := h.2.2.2.2.2.2.2
  refine G_aload1 x eL_law_2044 ?_
  refine G_cVg x eL_law_2045 kL_188 im_yX10_clearText se_yX10_clearText rm h.2.2.2.1.1.1.1.m (ct_q_clearText (B := oa) (T := T) (I := I) (J := J) (O := O) h.2.2.2.1 hI ) rfl ?_
  intro v9 T1 I1 J1 O1 p1
  obtain ⟨-, rfl, hF, hw⟩ := p1
  have hF := hF.o (oa := oa)
  have M := h.md hF
  have m0 := M.2.2.1
  have m1 := M.2.2.2.1
  have m2 := M.2.2.2.2.1
  have m4 := M.2.2.2.2.2.1
  have m8 := M.2.2.2.2.2.2
  refine G_aload2 x eL_law_2048 ?_
  have C := ct_X11_clearText (T := T1) (I := I1) (J := J1) (O := O1) (mo := mo) M.1 
  rw [m0] at C
  refine G_cVg x eL_law_2049 kL_191 im_yX11_clearText se_yX11_clearText rm M.1.m C rfl ?_
  intro v8 T2 I2 J2 O2 hp
  obtain ⟨rfl, c1⟩ := mOut_c hp
  rw [m1, m2, m0, m4] at c1
  obtain ⟨l2, -, -⟩ := h.fin M hw c1 hI hN ⟨by omega, fun j j0 j1 => by omega⟩ hR (fun _ _ _ => rfl)
  refine G_same x eL_law_2052 ?_
  exact kk _ _ _ _ _ _ _ _ l2 (by omega) (by omega)
theorem st_fault {X : gX} {b L ss mo oa : Nat} {xs : Nat → Int32} {T : gT} {I : gI} {J : gJ} {O : gO} {i : Int} {o5 o6 : Option Value} {kc nc : Nat} (Q : LawC X b L xs) (hL : L ≤ 2560) (h : LI ss mo oa T I J O) (i0 : 0 ≤ i) (i1 : i + 5 ≤ L) (hk : kc + 10 ≤ 601024) (hn : nc + 140 ≤ 7293034) (kk : ∀ T' I' J' O' o5 o6 k' n', LI ss mo oa T' I' J' O' → k' ≤ kc + 10 → n' ≤ nc + 140 → G X 2196 (lwL b ss mo oa i o5 o6) [] T' I' J' O' k' n') : G X 2057 (lwL b ss mo oa i o5 o6) [] T I J O kc nc := by
  have Q0 := Q
  obtain ⟨x, rm, hnc, hs⟩ := Q
  have hN := h.2.2.2.2.2.1
  have hI := h.2.2.2.2.1
  have hX := h.2.2.2.2.2.2.1
  have hR := h.2.2.2.2.2.2.2
  refine G_aload1 x eL_law_2057 ?_
  refine G_arg x hs eL_law_2058 eL_law_2059 eL_law_2061 eL_law_2062 eL_law_2063 (by omega) (by omega) hL ?_
  refine G_aload3 x eL_law_2064 ?_
  refine G_cSH x hnc eL_law_2065 kH_192 rm (ct_w_fault (B := oa) (T := T) (I := I) (J := J) (O := O) h.2.2.2.1 hI (sx_b (xs := xs) (z := i + 1)) hX h.2.2.1 h.hoa) rfl ?_
  intro v9 T1 I1 J1 O1 p1
  obtain ⟨rfl, hF, hA, hZ⟩ := p1
  have M := h.md hF
  have m0 := M.2.2.1
  have m1 := M.2.2.2.1
  have m2 := M.2.2.2.2.1
  have m4 := M.2.2.2.2.2.1
  have m8 := M.2.2.2.2.2.2
  refine G_istore5 x eL_law_2068 ?_
  refine G_aload2 x eL_law_2070 ?_
  refine G_arg x hs eL_law_2071 eL_law_2072 eL_law_2074 eL_law_2075 eL_law_2076 (by omega) (by omega) hL ?_
  have C := ct_X11_fault (T := T1) (I := I1) (J := J1) (O := O1) (mo := mo) M.1 (sx_b (xs := xs) (z := i + 1)) (by rw [m0]; exact hX.1.1) (by rw [m0]; exact hX.1.2)
  rw [m1, m4, m0] at C
  refine G_cVg x eL_law_2077 kL_194 im_yX11_fault se_yX11_fault rm M.1.m C rfl ?_
  intro v8 T2 I2 J2 O2 hp
  have key : ∃ ans, v8 = some (VI ans) ∧ LI ss mo oa T2 I2 J2 O2 ∧ I2 mo 6 = iThr (sx xs (i + 1)) ∧ (iThr (sx xs (i + 1)) = 0 → J2 oa 0 = i2L ans) := by
    by_cases hc : 0 ≤ (sx xs (i + 1)) ∧ (sx xs (i + 1)) ≤ 2
    · have ht : iThr (sx xs (i + 1)) = 0 := if_pos hc
      rw [if_pos hc] at hp
      obtain ⟨z1, hw⟩ := hA ht
      obtain ⟨rfl, c1⟩ := mOut_c hp
      obtain ⟨l2, t2, j2⟩ := h.say M hw c1
      exact ⟨_, rfl, l2, t2.trans ht.symm, fun _ => j2.trans z1⟩
    · have ht : iThr (sx xs (i + 1)) = 1 := if_neg hc
      rw [if_neg hc] at hp
      obtain ⟨rfl, c1⟩ := mOut_c hp
      obtain ⟨l2, t2, j2⟩ := h.say M (hZ (by rw [ht]; decide)) c1
      exact ⟨_, rfl, l2, t2.trans ht.symm, fun e => absurd (ht.symm.trans e) (by decide)⟩
  obtain ⟨ans, rfl, l2, t2, j2⟩ := key
  exact G_tail Q0 eL_law_2080 eL_law_2082 eL_law_2083 eL_law_2086 eL_law_2088 eL_law_2093 eL_law_2095 eL_law_2098 eL_law_2099 eL_law_2100 eL_law_2101 eL_law_2103 eL_law_2104 eL_law_2105 eL_law_2110 l2 t2 j2 (by omega) (by omega) (kk _ _ _ _ _ _ _ _ l2 (by omega) (by omega))
theorem st_character {X : gX} {b L ss mo oa : Nat} {xs : Nat → Int32} {T : gT} {I : gI} {J : gJ} {O : gO} {i : Int} {o5 o6 : Option Value} {kc nc : Nat} (Q : LawC X b L xs) (hL : L ≤ 2560) (h : LI ss mo oa T I J O) (i0 : 0 ≤ i) (i1 : i + 5 ≤ L) (hk : kc + 10 ≤ 601024) (hn : nc + 140 ≤ 7293034) (kk : ∀ T' I' J' O' o5 o6 k' n', LI ss mo oa T' I' J' O' → k' ≤ kc + 10 → n' ≤ nc + 140 → G X 2196 (lwL b ss mo oa i o5 o6) [] T' I' J' O' k' n') : G X 2113 (lwL b ss mo oa i o5 o6) [] T I J O kc nc := by
  have Q0 := Q
  obtain ⟨x, rm, hnc, hs⟩ := Q
  have hN := h.2.2.2.2.2.1
  have hI := h.2.2.2.2.1
  have hX := h.2.2.2.2.2.2.1
  have hR := h.2.2.2.2.2.2.2
  refine G_aload1 x eL_law_2113 ?_
  refine G_arg x hs eL_law_2114 eL_law_2115 eL_law_2117 eL_law_2118 eL_law_2119 (by omega) (by omega) hL ?_
  refine G_cVg x eL_law_2120 kL_195 im_yX10_character se_yX10_character rm h.2.2.2.1.1.1.1.m (ct_q_character (B := oa) (T := T) (I := I) (J := J) (O := O) h.2.2.2.1 hI sx_b hX) rfl ?_
  intro v9 T1 I1 J1 O1 p1
  obtain ⟨-, rfl, hF, hw⟩ := p1
  have hF := hF.o (oa := oa)
  have M := h.md hF
  have m0 := M.2.2.1
  have m1 := M.2.2.2.1
  have m2 := M.2.2.2.2.1
  have m4 := M.2.2.2.2.2.1
  have m8 := M.2.2.2.2.2.2
  refine G_aload2 x eL_law_2123 ?_
  refine G_arg x hs eL_law_2124 eL_law_2125 eL_law_2127 eL_law_2128 eL_law_2129 (by omega) (by omega) hL ?_
  have C := ct_X11_character (T := T1) (I := I1) (J := J1) (O := O1) (mo := mo) M.1 (sx_b (xs := xs) (z := i + 1)) (by rw [m0]; exact hX.1.1) (by rw [m0]; exact hX.1.2)
  rw [m0, m4] at C
  refine G_cVg x eL_law_2130 kL_198 im_yX11_character se_yX11_character rm M.1.m C rfl ?_
  intro v8 T2 I2 J2 O2 hp
  obtain ⟨rfl, c1⟩ := mOut_c hp
  obtain ⟨l2, -, -⟩ := h.say M hw c1
  refine G_same x eL_law_2133 ?_
  exact kk _ _ _ _ _ _ _ _ l2 (by omega) (by omega)
theorem st_undo {X : gX} {b L ss mo oa : Nat} {xs : Nat → Int32} {T : gT} {I : gI} {J : gJ} {O : gO} {i : Int} {o5 o6 : Option Value} {kc nc : Nat} (Q : LawC X b L xs) (hL : L ≤ 2560) (h : LI ss mo oa T I J O) (i0 : 0 ≤ i) (i1 : i + 5 ≤ L) (hk : kc + 10 ≤ 601024) (hn : nc + 140 ≤ 7293034) (kk : ∀ T' I' J' O' o5 o6 k' n', LI ss mo oa T' I' J' O' → k' ≤ kc + 10 → n' ≤ nc + 140 → G X 2196 (lwL b ss mo oa i o5 o6) [] T' I' J' O' k' n') : G X 2138 (lwL b ss mo oa i o5 o6) [] T I J O kc nc := by
  have Q0 := Q
  obtain ⟨x, rm, hnc, hs⟩ := Q
  have hN := h.2.2.2.2.2.1
  have hI := h.2.2.2.2.1
  have hX := h.2.2.2.2.2.2.1
  have hR := h.2.2.2.2.2.2.2
  refine G_aload1 x eL_law_2138 ?_
  refine G_aload3 x eL_law_2139 ?_
  refine G_cSH x hnc eL_law_2140 kH_199 rm (ct_w_undo (B := oa) (T := T) (I := I) (J := J) (O := O) h.2.2.2.1 hI (A9 := rwK (I (mo + 2)) ((I mo 3) - 1)) hN.1 hN.2 (fun hc => ⟨(hR ((I mo 3) - 1) (by omega) (by omega)).1, (hR ((I mo 3) - 1) (by omega) (by omega)).2.1, fun r f a1 a2 a3 a4 => Rc_u (by omega) a1 a2 a3 a4⟩) h.2.2.1 h.hoa) rfl ?_
  intro v9 T1 I1 J1 O1 p1
  obtain ⟨rfl, hF, hA, hZ⟩ := p1
  have M := h.md hF
  have m0 := M.2.2.1
  have m1 := M.2.2.2.1
  have m2 := M.2.2.2.2.1
  have m4 := M.2.2.2.2.2.1
  have m8 := M.2.2.2.2.2.2
  refine G_istore5 x eL_law_2143 ?_
  refine G_aload2 x eL_law_2145 ?_
  have C := ct_X11_undo (T := T1) (I := I1) (J := J1) (O := O1) (mo := mo) M.1 (by rw [m0]; exact hN)
  rw [m0, m2, m4] at C
  refine G_cVg x eL_law_2146 kL_202 im_yX11_undo se_yX11_undo rm M.1.m C rfl ?_
  intro v8 T2 I2 J2 O2 hp
  have key : ∃ ans, v8 = some (VI ans) ∧ LI ss mo oa T2 I2 J2 O2 ∧ I2 mo 6 = unThr (I mo 3) ∧ (unThr (I mo 3) = 0 → J2 oa 0 = i2L ans) := by
    by_cases hc : (I mo 3) = 0
    · have ht : unThr (I mo 3) = 1 := if_pos hc
      rw [if_pos hc] at hp
      obtain ⟨rfl, c1⟩ := mOut_c hp
      obtain ⟨l2, t2, j2⟩ := h.say M (hZ (by rw [ht]; decide)) c1
      exact ⟨_, rfl, l2, t2.trans ht.symm, fun e => absurd (ht.symm.trans e) (by decide)⟩
    · have ht : unThr (I mo 3) = 0 := if_neg hc
      rw [if_neg hc] at hp
      obtain ⟨z1, hw⟩ := hA ht
      obtain ⟨rfl, c1⟩ := mOut_c hp
      obtain ⟨g1, g2, g3⟩ := hR ((I mo 3) - 1) (by omega) (by omega)
      obtain ⟨l2, t2, j2⟩ := h.fin M hw c1 g1 (by omega) hX (fun k k0 k1 => ⟨(hR k k0 (by omega)).1, (hR k k0 (by omega)).2.2 _ k1 (by omega), fun k' a1 a2 => (hR k k0 (by omega)).2.2 k' a1 (by omega)⟩) (fun _ _ _ => rfl)
      exact ⟨_, rfl, l2, t2.trans ht.symm, fun _ => j2.trans z1⟩
  obtain ⟨ans, rfl, l2, t2, j2⟩ := key
  exact G_tail Q0 eL_law_2149 eL_law_2151 eL_law_2152 eL_law_2155 eL_law_2157 eL_law_2162 eL_law_2164 eL_law_2167 eL_law_2168 eL_law_2169 eL_law_2170 eL_law_2172 eL_law_2173 eL_law_2174 eL_law_2179 l2 t2 j2 (by omega) (by omega) (kk _ _ _ _ _ _ _ _ l2 (by omega) (by omega))
theorem st_checksum {X : gX} {b L ss mo oa : Nat} {xs : Nat → Int32} {T : gT} {I : gI} {J : gJ} {O : gO} {i : Int} {o5 o6 : Option Value} {kc nc : Nat} (Q : LawC X b L xs) (hL : L ≤ 2560) (h : LI ss mo oa T I J O) (i0 : 0 ≤ i) (i1 : i + 5 ≤ L) (hk : kc + 10 ≤ 601024) (hn : nc + 140 ≤ 7293034) (kk : ∀ T' I' J' O' o5 o6 k' n', LI ss mo oa T' I' J' O' → k' ≤ kc + 10 → n' ≤ nc + 140 → G X 2196 (lwL b ss mo oa i o5 o6) [] T' I' J' O' k' n') : G X 2182 (lwL b ss mo oa i o5 o6) [] T I J O kc nc := by
  have Q0 := Q
  obtain ⟨x, rm, hnc, hs⟩ := Q
  have hN := h.2.2.2.2.2.1
  have hI := h.2.2.2.2.1
  have hX := h.2.2.2.2.2.2.1
  have hR := h.2.2.2.2.2.2.2
  refine G_aload1 x eL_law_2182 ?_
  refine G_cVg x eL_law_2183 kL_203 im_yX10_checksum se_yX10_checksum rm h.2.2.2.1.1.1.1.m (ct_q_checksum (B := oa) (T := T) (I := I) (J := J) (O := O) h.2.2.2.1 hI hN.1 hN.2 hX) rfl ?_
  intro v9 T1 I1 J1 O1 p1
  obtain ⟨-, rfl, hF, hw⟩ := p1
  have hF := hF.o (oa := oa)
  have M := h.md hF
  have m0 := M.2.2.1
  have m1 := M.2.2.2.1
  have m2 := M.2.2.2.2.1
  have m4 := M.2.2.2.2.2.1
  have m8 := M.2.2.2.2.2.2
  refine G_aload2 x eL_law_2186 ?_
  have C := ct_X11_checksumM (T := T1) (I := I1) (J := J1) (O := O1) (mo := mo) M.1 (fun r a c => by rw [m1]; exact hI.fm a c) (fun r f a1 a2 a3 a4 a5 => by rw [m1]; exact hI.ms9 a1 a2 a3 a4 a5)
  rw [m1, m0] at C
  refine G_cVg x eL_law_2187 kL_207 im_yX11_checksum se_yX11_checksum rm M.1.m C rfl ?_
  intro v8 T2 I2 J2 O2 hp
  obtain ⟨rfl, c1⟩ := mSum_c hp
  obtain ⟨l2, -, -⟩ := h.say M hw c1
  refine G_lcmp x eL_law_2190 ?_
  refine G_if_eq x eL_law_2191 lcm_b (fun _ => ?_) (fun e' => absurd (lcm_0.mpr rfl) e')
  exact kk _ _ _ _ _ _ _ _ l2 (by omega) (by omega)
