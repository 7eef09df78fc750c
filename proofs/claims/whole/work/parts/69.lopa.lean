/-- the law answers true -/
abbrev jQt : Option JV → JM → Prop := fun v _ => v = some (0, 1)
abbrev mL_law : JI := (yL_law, cL_law, 9, some .boolean, [], true)
/-- what comes after a call of the law -/
abbrev jNx (l : Launch) (E : JE) (n : Nat) (q i : Int) : Prop := ∀ (a b c : JV) (n' : Nat) (σ' : JM), n ≤ n' + 1 → jINV (i + 2) σ' → V l E mL_law 100 n' jQt jno 1982 [(7, q), (2, 0), (2, 7), (2, 55), (2, 56), (0, i), a, b, c] [] σ'
theorem jcvf_n {b : Int} (h : jgd (jcvf b)) : vf_n64 (FP.f2d (jF b)) := by
  have := h.n
  rwa [show jD (jcvf b) = FP.f2d (jF b) from jD_u _] at this
theorem lw_0 {l : Launch} {E : JE} {n : Nat} {q i : Int} {a b c : JV} {σ : JM} (hL : E.2.2.2.2.1 ≤ 2048) (hI : jINV (i + 1) σ) (i0 : 0 ≤ i) (i4 : i + 4 ≤ (E.2.2.2.2.1 : Int)) (hn : 1 ≤ n) (next : jNx l E n q i) : V l E mL_law 100 n jQt jno 204 [(7, q), (2, 0), (2, 7), (2, 55), (2, 56), (0, i), a, b, c] [] σ := by
  obtain ⟨p1, hp1⟩ : ∃ p, (E.2.2.2.2.2 (i + 1).toNat).toInt = p := ⟨_, rfl⟩
  obtain ⟨dL, dX, h1, h2, QL, hC, hk⟩ := op_label (p := p1) hI
  refine V.aload_n dL_law_204 rfl ?_
  refine V.aload_s dL_law_205 rfl ?_
  refine V.iload dL_law_206 rfl ?_
  refine V.iconst dL_law_208 ⟨by decide, by decide⟩ ?_
  refine V.iadd dL_law_209 ⟨(by omega), (by omega)⟩ ?_
  refine V.sld rfl hL dL_law_210 (by omega) (by omega) ?_
  rw [hp1]
  refine V.aload_n dL_law_211 rfl ?_
  refine V.callH [_, _, _] rfl kc_L_130 dL_law_212 (d' := dL) h1 hn rfl (fun _ _ => hC) rfl (fun v τ hq hv => ?_) (fun X t hx => hx.elim)
  obtain ⟨k, rfl, QM, hX, hm⟩ := hk v τ hq
  refine V.istore (L' := [_, _, _, _, _, _, _, _, _]) dL_law_215 rfl rfl ?_
  refine V.aload_n dL_law_217 rfl ?_
  refine V.aload_s dL_law_218 rfl ?_
  refine V.iload dL_law_219 rfl ?_
  refine V.iconst dL_law_221 ⟨by decide, by decide⟩ ?_
  refine V.iadd dL_law_222 ⟨(by omega), (by omega)⟩ ?_
  refine V.sld rfl hL dL_law_223 (by omega) (by omega) ?_
  rw [hp1]
  refine V.callV [_] rfl kc_L_135 rfl dL_law_224 (d' := dX) h2 (Nat.zero_le _) rfl (fun _ _ => hX) rfl (fun w ρ hq2 hv2 => ?_) (fun X t hx => hx.elim)
  obtain ⟨x, rfl, h0, ho, hI2⟩ := hm w ρ hq2
  refine V.istore (L' := [_, _, _, _, _, _, _, _, _]) dL_law_227 rfl rfl ?_
  refine V.aload_n dL_law_229 rfl ?_
  refine V.cV [] rfl kc_L_136 rfl dL_law_230 (by decide) rfl rfl (sp_X7_thrown) (fun _ => ?_)
  refine V.iload dL_law_233 rfl ?_
  refine V.icmp_eq (tgt := 240) dL_law_235 (by decide) (fun he => ?_) (fun he => ?_)
  · refine V.iload dL_law_240 rfl ?_
    refine V.if_ne (tgt := 257) dL_law_242 (by decide) (fun hz => ?_) (fun hz => ?_)
    · refine V.goto (tgt := 1982) dL_law_257 (by decide) ?_
      exact next _ _ _ _ _ (by omega) (hI2.up (by omega))
    · refine V.aload_n dL_law_245 rfl ?_
      refine V.iconst dL_law_246 ⟨by decide, by decide⟩ ?_
      refine V.lald (cell := 55) 0 rfl rfl rfl rfl dL_law_247 (by omega) (by omega) (fun _ => ?_)
      rw [show ρ 55 0 = x from ho hz]
      refine V.iload dL_law_248 rfl ?_
      refine V.i2l dL_law_250 ?_
      refine V.lcmp dL_law_251 ?_
      rw [if_neg (Int.lt_irrefl x), if_pos rfl]
      refine V.if_eq (tgt := 257) dL_law_252 (by decide) (fun hy => ?_) (fun hy => ?_)
      · refine V.goto (tgt := 1982) dL_law_257 (by decide) ?_
        exact next _ _ _ _ _ (by omega) (hI2.up (by omega))
      · exact absurd rfl hy
  · exact absurd h0 he
theorem lw_1 {l : Launch} {E : JE} {n : Nat} {q i : Int} {a b c : JV} {σ : JM} (hL : E.2.2.2.2.1 ≤ 2048) (hI : jINV (i + 1) σ) (i0 : 0 ≤ i) (i4 : i + 4 ≤ (E.2.2.2.2.1 : Int)) (hn : 1 ≤ n) (next : jNx l E n q i) : V l E mL_law 100 n jQt jno 260 [(7, q), (2, 0), (2, 7), (2, 55), (2, 56), (0, i), a, b, c] [] σ := by
  obtain ⟨p1, hp1⟩ : ∃ p, (E.2.2.2.2.2 (i + 1).toNat).toInt = p := ⟨_, rfl⟩
  obtain ⟨dL, dX, h1, h2, QL, hC, hk⟩ := op_word (p := p1) hI
  refine V.aload_n dL_law_260 rfl ?_
  refine V.aload_s dL_law_261 rfl ?_
  refine V.iload dL_law_262 rfl ?_
  refine V.iconst dL_law_264 ⟨by decide, by decide⟩ ?_
  refine V.iadd dL_law_265 ⟨(by omega), (by omega)⟩ ?_
  refine V.sld rfl hL dL_law_266 (by omega) (by omega) ?_
  rw [hp1]
  refine V.aload_n dL_law_267 rfl ?_
  refine V.callH [_, _, _] rfl kc_L_139 dL_law_268 (d' := dL) h1 hn rfl (fun _ _ => hC) rfl (fun v τ hq hv => ?_) (fun X t hx => hx.elim)
  obtain ⟨k, rfl, QM, hX, hm⟩ := hk v τ hq
  refine V.istore (L' := [_, _, _, _, _, _, _, _, _]) dL_law_271 rfl rfl ?_
  refine V.aload_n dL_law_273 rfl ?_
  refine V.aload_s dL_law_274 rfl ?_
  refine V.iload dL_law_275 rfl ?_
  refine V.iconst dL_law_277 ⟨by decide, by decide⟩ ?_
  refine V.iadd dL_law_278 ⟨(by omega), (by omega)⟩ ?_
  refine V.sld rfl hL dL_law_279 (by omega) (by omega) ?_
  rw [hp1]
  refine V.callV [_] rfl kc_L_141 rfl dL_law_280 (d' := dX) h2 (Nat.zero_le _) rfl (fun _ _ => hX) rfl (fun w ρ hq2 hv2 => ?_) (fun X t hx => hx.elim)
  obtain ⟨x, rfl, h0, ho, hI2⟩ := hm w ρ hq2
  refine V.istore (L' := [_, _, _, _, _, _, _, _, _]) dL_law_283 rfl rfl ?_
  refine V.aload_n dL_law_285 rfl ?_
  refine V.cV [] rfl kc_L_136 rfl dL_law_286 (by decide) rfl rfl (sp_X7_thrown) (fun _ => ?_)
  refine V.iload dL_law_289 rfl ?_
  refine V.icmp_eq (tgt := 296) dL_law_291 (by decide) (fun he => ?_) (fun he => ?_)
  · refine V.iload dL_law_296 rfl ?_
    refine V.if_ne (tgt := 313) dL_law_298 (by decide) (fun hz => ?_) (fun hz => ?_)
    · refine V.goto (tgt := 1982) dL_law_313 (by decide) ?_
      exact next _ _ _ _ _ (by omega) (hI2.up (by omega))
    · refine V.aload_n dL_law_301 rfl ?_
      refine V.iconst dL_law_302 ⟨by decide, by decide⟩ ?_
      refine V.lald (cell := 55) 0 rfl rfl rfl rfl dL_law_303 (by omega) (by omega) (fun _ => ?_)
      rw [show ρ 55 0 = x from ho hz]
      refine V.iload dL_law_304 rfl ?_
      refine V.i2l dL_law_306 ?_
      refine V.lcmp dL_law_307 ?_
      rw [if_neg (Int.lt_irrefl x), if_pos rfl]
      refine V.if_eq (tgt := 313) dL_law_308 (by decide) (fun hy => ?_) (fun hy => ?_)
      · refine V.goto (tgt := 1982) dL_law_313 (by decide) ?_
        exact next _ _ _ _ _ (by omega) (hI2.up (by omega))
      · exact absurd rfl hy
  · exact absurd h0 he
theorem lw_2 {l : Launch} {E : JE} {n : Nat} {q i : Int} {a b c : JV} {σ : JM} (hL : E.2.2.2.2.1 ≤ 2048) (hI : jINV (i + 1) σ) (i0 : 0 ≤ i) (i4 : i + 4 ≤ (E.2.2.2.2.1 : Int)) (hn : 1 ≤ n) (next : jNx l E n q i) : V l E mL_law 100 n jQt jno 316 [(7, q), (2, 0), (2, 7), (2, 55), (2, 56), (0, i), a, b, c] [] σ := by
  obtain ⟨p1, hp1⟩ : ∃ p, (E.2.2.2.2.2 (i + 1).toNat).toInt = p := ⟨_, rfl⟩
  obtain ⟨p2, hp2⟩ : ∃ p, (E.2.2.2.2.2 (i + 2).toNat).toInt = p := ⟨_, rfl⟩
  obtain ⟨dL, dX, h1, h2, QL, hC, hk⟩ := op_operation (p := p1) (q := p2) hI
  refine V.aload_n dL_law_316 rfl ?_
  refine V.aload_s dL_law_317 rfl ?_
  refine V.iload dL_law_318 rfl ?_
  refine V.iconst dL_law_320 ⟨by decide, by decide⟩ ?_
  refine V.iadd dL_law_321 ⟨(by omega), (by omega)⟩ ?_
  refine V.sld rfl hL dL_law_322 (by omega) (by omega) ?_
  rw [hp1]
  refine V.aload_s dL_law_323 rfl ?_
  refine V.iload dL_law_324 rfl ?_
  refine V.iconst dL_law_326 ⟨by decide, by decide⟩ ?_
  refine V.iadd dL_law_327 ⟨(by omega), (by omega)⟩ ?_
  refine V.sld rfl hL dL_law_328 (by omega) (by omega) ?_
  rw [hp2]
  refine V.aload_n dL_law_329 rfl ?_
  refine V.callH [_, _, _, _] rfl kc_L_142 dL_law_330 (d' := dL) h1 hn rfl (fun _ _ => hC) rfl (fun v τ hq hv => ?_) (fun X t hx => hx.elim)
  obtain ⟨k, rfl, QM, hX, hm⟩ := hk v τ hq
  refine V.istore (L' := [_, _, _, _, _, _, _, _, _]) dL_law_333 rfl rfl ?_
  refine V.aload_n dL_law_335 rfl ?_
  refine V.aload_s dL_law_336 rfl ?_
  refine V.iload dL_law_337 rfl ?_
  refine V.iconst dL_law_339 ⟨by decide, by decide⟩ ?_
  refine V.iadd dL_law_340 ⟨(by omega), (by omega)⟩ ?_
  refine V.sld rfl hL dL_law_341 (by omega) (by omega) ?_
  rw [hp1]
  refine V.aload_s dL_law_342 rfl ?_
  refine V.iload dL_law_343 rfl ?_
  refine V.iconst dL_law_345 ⟨by decide, by decide⟩ ?_
  refine V.iadd dL_law_346 ⟨(by omega), (by omega)⟩ ?_
  refine V.sld rfl hL dL_law_347 (by omega) (by omega) ?_
  rw [hp2]
  refine V.callV [_, _] rfl kc_L_145 rfl dL_law_348 (d' := dX) h2 (Nat.zero_le _) rfl (fun _ _ => hX) rfl (fun w ρ hq2 hv2 => ?_) (fun X t hx => hx.elim)
  obtain ⟨x, rfl, h0, ho, hI2⟩ := hm w ρ hq2
  refine V.istore (L' := [_, _, _, _, _, _, _, _, _]) dL_law_351 rfl rfl ?_
  refine V.aload_n dL_law_353 rfl ?_
  refine V.cV [] rfl kc_L_136 rfl dL_law_354 (by decide) rfl rfl (sp_X7_thrown) (fun _ => ?_)
  refine V.iload dL_law_357 rfl ?_
  refine V.icmp_eq (tgt := 364) dL_law_359 (by decide) (fun he => ?_) (fun he => ?_)
  · refine V.iload dL_law_364 rfl ?_
    refine V.if_ne (tgt := 381) dL_law_366 (by decide) (fun hz => ?_) (fun hz => ?_)
    · refine V.goto (tgt := 1982) dL_law_381 (by decide) ?_
      exact next _ _ _ _ _ (by omega) (hI2.up (by omega))
    · refine V.aload_n dL_law_369 rfl ?_
      refine V.iconst dL_law_370 ⟨by decide, by decide⟩ ?_
      refine V.lald (cell := 55) 0 rfl rfl rfl rfl dL_law_371 (by omega) (by omega) (fun _ => ?_)
      rw [show ρ 55 0 = x from ho hz]
      refine V.iload dL_law_372 rfl ?_
      refine V.i2l dL_law_374 ?_
      refine V.lcmp dL_law_375 ?_
      rw [if_neg (Int.lt_irrefl x), if_pos rfl]
      refine V.if_eq (tgt := 381) dL_law_376 (by decide) (fun hy => ?_) (fun hy => ?_)
      · refine V.goto (tgt := 1982) dL_law_381 (by decide) ?_
        exact next _ _ _ _ _ (by omega) (hI2.up (by omega))
      · exact absurd rfl hy
  · exact absurd h0 he
theorem lw_3 {l : Launch} {E : JE} {n : Nat} {q i : Int} {a b c : JV} {σ : JM} (hL : E.2.2.2.2.1 ≤ 2048) (hI : jINV (i + 1) σ) (i0 : 0 ≤ i) (i4 : i + 4 ≤ (E.2.2.2.2.1 : Int)) (hn : 1 ≤ n) (next : jNx l E n q i) : V l E mL_law 100 n jQt jno 384 [(7, q), (2, 0), (2, 7), (2, 55), (2, 56), (0, i), a, b, c] [] σ := by
  obtain ⟨p1, hp1⟩ : ∃ p, (E.2.2.2.2.2 (i + 1).toNat).toInt = p := ⟨_, rfl⟩
  obtain ⟨dL, dX, h1, h2, QL, hC, hk⟩ := op_jump (p := p1) hI
  refine V.aload_n dL_law_384 rfl ?_
  refine V.aload_s dL_law_385 rfl ?_
  refine V.iload dL_law_386 rfl ?_
  refine V.iconst dL_law_388 ⟨by decide, by decide⟩ ?_
  refine V.iadd dL_law_389 ⟨(by omega), (by omega)⟩ ?_
  refine V.sld rfl hL dL_law_390 (by omega) (by omega) ?_
  rw [hp1]
  refine V.aload_n dL_law_391 rfl ?_
  refine V.callH [_, _, _] rfl kc_L_146 dL_law_392 (d' := dL) h1 hn rfl (fun _ _ => hC) rfl (fun v τ hq hv => ?_) (fun X t hx => hx.elim)
  obtain ⟨k, rfl, QM, hX, hm⟩ := hk v τ hq
  refine V.istore (L' := [_, _, _, _, _, _, _, _, _]) dL_law_395 rfl rfl ?_
  refine V.aload_n dL_law_397 rfl ?_
  refine V.aload_s dL_law_398 rfl ?_
  refine V.iload dL_law_399 rfl ?_
  refine V.iconst dL_law_401 ⟨by decide, by decide⟩ ?_
  refine V.iadd dL_law_402 ⟨(by omega), (by omega)⟩ ?_
  refine V.sld rfl hL dL_law_403 (by omega) (by omega) ?_
  rw [hp1]
  refine V.callV [_] rfl kc_L_148 rfl dL_law_404 (d' := dX) h2 (Nat.zero_le _) rfl (fun _ _ => hX) rfl (fun w ρ hq2 hv2 => ?_) (fun X t hx => hx.elim)
  obtain ⟨x, rfl, h0, ho, hI2⟩ := hm w ρ hq2
  refine V.istore (L' := [_, _, _, _, _, _, _, _, _]) dL_law_407 rfl rfl ?_
  refine V.aload_n dL_law_409 rfl ?_
  refine V.cV [] rfl kc_L_136 rfl dL_law_410 (by decide) rfl rfl (sp_X7_thrown) (fun _ => ?_)
  refine V.iload dL_law_413 rfl ?_
  refine V.icmp_eq (tgt := 420) dL_law_415 (by decide) (fun he => ?_) (fun he => ?_)
  · refine V.iload dL_law_420 rfl ?_
    refine V.if_ne (tgt := 437) dL_law_422 (by decide) (fun hz => ?_) (fun hz => ?_)
    · refine V.goto (tgt := 1982) dL_law_437 (by decide) ?_
      exact next _ _ _ _ _ (by omega) (hI2.up (by omega))
    · refine V.aload_n dL_law_425 rfl ?_
      refine V.iconst dL_law_426 ⟨by decide, by decide⟩ ?_
      refine V.lald (cell := 55) 0 rfl rfl rfl rfl dL_law_427 (by omega) (by omega) (fun _ => ?_)
      rw [show ρ 55 0 = x from ho hz]
      refine V.iload dL_law_428 rfl ?_
      refine V.i2l dL_law_430 ?_
      refine V.lcmp dL_law_431 ?_
      rw [if_neg (Int.lt_irrefl x), if_pos rfl]
      refine V.if_eq (tgt := 437) dL_law_432 (by decide) (fun hy => ?_) (fun hy => ?_)
      · refine V.goto (tgt := 1982) dL_law_437 (by decide) ?_
        exact next _ _ _ _ _ (by omega) (hI2.up (by omega))
      · exact absurd rfl hy
  · exact absurd h0 he
theorem lw_4 {l : Launch} {E : JE} {n : Nat} {q i : Int} {a b c : JV} {σ : JM} (hL : E.2.2.2.2.1 ≤ 2048) (hI : jINV (i + 1) σ) (i0 : 0 ≤ i) (i4 : i + 4 ≤ (E.2.2.2.2.1 : Int)) (hn : 1 ≤ n) (next : jNx l E n q i) : V l E mL_law 100 n jQt jno 440 [(7, q), (2, 0), (2, 7), (2, 55), (2, 56), (0, i), a, b, c] [] σ := by
  obtain ⟨p1, hp1⟩ : ∃ p, (E.2.2.2.2.2 (i + 1).toNat).toInt = p := ⟨_, rfl⟩
  obtain ⟨dL, dX, h1, h2, QL, hC, hk⟩ := op_address (p := p1) hI
  refine V.aload_n dL_law_440 rfl ?_
  refine V.aload_s dL_law_441 rfl ?_
  refine V.iload dL_law_442 rfl ?_
  refine V.iconst dL_law_444 ⟨by decide, by decide⟩ ?_
  refine V.iadd dL_law_445 ⟨(by omega), (by omega)⟩ ?_
  refine V.sld rfl hL dL_law_446 (by omega) (by omega) ?_
  rw [hp1]
  refine V.aload_n dL_law_447 rfl ?_
  refine V.callH [_, _, _] rfl kc_L_149 dL_law_448 (d' := dL) h1 hn rfl (fun _ _ => hC) rfl (fun v τ hq hv => ?_) (fun X t hx => hx.elim)
  obtain ⟨k, rfl, QM, hX, hm⟩ := hk v τ hq
  refine V.istore (L' := [_, _, _, _, _, _, _, _, _]) dL_law_451 rfl rfl ?_
  refine V.aload_n dL_law_453 rfl ?_
  refine V.aload_s dL_law_454 rfl ?_
  refine V.iload dL_law_455 rfl ?_
  refine V.iconst dL_law_457 ⟨by decide, by decide⟩ ?_
  refine V.iadd dL_law_458 ⟨(by omega), (by omega)⟩ ?_
  refine V.sld rfl hL dL_law_459 (by omega) (by omega) ?_
  rw [hp1]
  refine V.callV [_] rfl kc_L_151 rfl dL_law_460 (d' := dX) h2 (Nat.zero_le _) rfl (fun _ _ => hX) rfl (fun w ρ hq2 hv2 => ?_) (fun X t hx => hx.elim)
  obtain ⟨x, rfl, h0, ho, hI2⟩ := hm w ρ hq2
  refine V.istore (L' := [_, _, _, _, _, _, _, _, _]) dL_law_463 rfl rfl ?_
  refine V.aload_n dL_law_465 rfl ?_
  refine V.cV [] rfl kc_L_136 rfl dL_law_466 (by decide) rfl rfl (sp_X7_thrown) (fun _ => ?_)
  refine V.iload dL_law_469 rfl ?_
  refine V.icmp_eq (tgt := 476) dL_law_471 (by decide) (fun he => ?_) (fun he => ?_)
  · refine V.iload dL_law_476 rfl ?_
    refine V.if_ne (tgt := 493) dL_law_478 (by decide) (fun hz => ?_) (fun hz => ?_)
    · refine V.goto (tgt := 1982) dL_law_493 (by decide) ?_
      exact next _ _ _ _ _ (by omega) (hI2.up (by omega))
    · refine V.aload_n dL_law_481 rfl ?_
      refine V.iconst dL_law_482 ⟨by decide, by decide⟩ ?_
      refine V.lald (cell := 55) 0 rfl rfl rfl rfl dL_law_483 (by omega) (by omega) (fun _ => ?_)
      rw [show ρ 55 0 = x from ho hz]
      refine V.iload dL_law_484 rfl ?_
      refine V.i2l dL_law_486 ?_
      refine V.lcmp dL_law_487 ?_
      rw [if_neg (Int.lt_irrefl x), if_pos rfl]
      refine V.if_eq (tgt := 493) dL_law_488 (by decide) (fun hy => ?_) (fun hy => ?_)
      · refine V.goto (tgt := 1982) dL_law_493 (by decide) ?_
        exact next _ _ _ _ _ (by omega) (hI2.up (by omega))
      · exact absurd rfl hy
  · exact absurd h0 he
theorem lw_5 {l : Launch} {E : JE} {n : Nat} {q i : Int} {a b c : JV} {σ : JM} (hL : E.2.2.2.2.1 ≤ 2048) (hI : jINV (i + 1) σ) (i0 : 0 ≤ i) (i4 : i + 4 ≤ (E.2.2.2.2.1 : Int)) (hn : 1 ≤ n) (next : jNx l E n q i) : V l E mL_law 100 n jQt jno 496 [(7, q), (2, 0), (2, 7), (2, 55), (2, 56), (0, i), a, b, c] [] σ := by
  obtain ⟨p1, hp1⟩ : ∃ p, (E.2.2.2.2.2 (i + 1).toNat).toInt = p := ⟨_, rfl⟩
  obtain ⟨dL, dX, h1, h2, QL, hC, hk⟩ := op_align (p := p1) hI
  refine V.aload_n dL_law_496 rfl ?_
  refine V.aload_s dL_law_497 rfl ?_
  refine V.iload dL_law_498 rfl ?_
  refine V.iconst dL_law_500 ⟨by decide, by decide⟩ ?_
  refine V.iadd dL_law_501 ⟨(by omega), (by omega)⟩ ?_
  refine V.sld rfl hL dL_law_502 (by omega) (by omega) ?_
  rw [hp1]
  refine V.aload_n dL_law_503 rfl ?_
  refine V.callH [_, _, _] rfl kc_L_152 dL_law_504 (d' := dL) h1 hn rfl (fun _ _ => hC) rfl (fun v τ hq hv => ?_) (fun X t hx => hx.elim)
  obtain ⟨k, rfl, QM, hX, hm⟩ := hk v τ hq
  refine V.istore (L' := [_, _, _, _, _, _, _, _, _]) dL_law_507 rfl rfl ?_
  refine V.aload_n dL_law_509 rfl ?_
  refine V.aload_s dL_law_510 rfl ?_
  refine V.iload dL_law_511 rfl ?_
  refine V.iconst dL_law_513 ⟨by decide, by decide⟩ ?_
  refine V.iadd dL_law_514 ⟨(by omega), (by omega)⟩ ?_
  refine V.sld rfl hL dL_law_515 (by omega) (by omega) ?_
  rw [hp1]
  refine V.callV [_] rfl kc_L_154 rfl dL_law_516 (d' := dX) h2 (Nat.zero_le _) rfl (fun _ _ => hX) rfl (fun w ρ hq2 hv2 => ?_) (fun X t hx => hx.elim)
  obtain ⟨x, rfl, h0, ho, hI2⟩ := hm w ρ hq2
  refine V.istore (L' := [_, _, _, _, _, _, _, _, _]) dL_law_519 rfl rfl ?_
  refine V.aload_n dL_law_521 rfl ?_
  refine V.cV [] rfl kc_L_136 rfl dL_law_522 (by decide) rfl rfl (sp_X7_thrown) (fun _ => ?_)
  refine V.iload dL_law_525 rfl ?_
  refine V.icmp_eq (tgt := 532) dL_law_527 (by decide) (fun he => ?_) (fun he => ?_)
  · refine V.iload dL_law_532 rfl ?_
    refine V.if_ne (tgt := 549) dL_law_534 (by decide) (fun hz => ?_) (fun hz => ?_)
    · refine V.goto (tgt := 1982) dL_law_549 (by decide) ?_
      exact next _ _ _ _ _ (by omega) (hI2.up (by omega))
    · refine V.aload_n dL_law_537 rfl ?_
      refine V.iconst dL_law_538 ⟨by decide, by decide⟩ ?_
      refine V.lald (cell := 55) 0 rfl rfl rfl rfl dL_law_539 (by omega) (by omega) (fun _ => ?_)
      rw [show ρ 55 0 = x from ho hz]
      refine V.iload dL_law_540 rfl ?_
      refine V.i2l dL_law_542 ?_
      refine V.lcmp dL_law_543 ?_
      rw [if_neg (Int.lt_irrefl x), if_pos rfl]
      refine V.if_eq (tgt := 549) dL_law_544 (by decide) (fun hy => ?_) (fun hy => ?_)
      · refine V.goto (tgt := 1982) dL_law_549 (by decide) ?_
        exact next _ _ _ _ _ (by omega) (hI2.up (by omega))
      · exact absurd rfl hy
  · exact absurd h0 he
theorem lw_6 {l : Launch} {E : JE} {n : Nat} {q i : Int} {a b c : JV} {σ : JM} (hL : E.2.2.2.2.1 ≤ 2048) (hI : jINV (i + 1) σ) (i0 : 0 ≤ i) (i4 : i + 4 ≤ (E.2.2.2.2.1 : Int)) (hn : 1 ≤ n) (next : jNx l E n q i) : V l E mL_law 100 n jQt jno 552 [(7, q), (2, 0), (2, 7), (2, 55), (2, 56), (0, i), a, b, c] [] σ := by
  obtain ⟨p1, hp1⟩ : ∃ p, (E.2.2.2.2.2 (i + 1).toNat).toInt = p := ⟨_, rfl⟩
  obtain ⟨p2, hp2⟩ : ∃ p, (E.2.2.2.2.2 (i + 2).toNat).toInt = p := ⟨_, rfl⟩
  obtain ⟨p3, hp3⟩ : ∃ p, (E.2.2.2.2.2 (i + 3).toNat).toInt = p := ⟨_, rfl⟩
  obtain ⟨dL, dX, h1, h2, QL, hC, hk⟩ := op_call (m := p1) (p := p2) (q := p3) hI
  refine V.aload_n dL_law_552 rfl ?_
  refine V.aload_s dL_law_553 rfl ?_
  refine V.iload dL_law_554 rfl ?_
  refine V.iconst dL_law_556 ⟨by decide, by decide⟩ ?_
  refine V.iadd dL_law_557 ⟨(by omega), (by omega)⟩ ?_
  refine V.sld rfl hL dL_law_558 (by omega) (by omega) ?_
  rw [hp1]
  refine V.aload_s dL_law_559 rfl ?_
  refine V.iload dL_law_560 rfl ?_
  refine V.iconst dL_law_562 ⟨by decide, by decide⟩ ?_
  refine V.iadd dL_law_563 ⟨(by omega), (by omega)⟩ ?_
  refine V.sld rfl hL dL_law_564 (by omega) (by omega) ?_
  rw [hp2]
  refine V.aload_s dL_law_565 rfl ?_
  refine V.iload dL_law_566 rfl ?_
  refine V.iconst dL_law_568 ⟨by decide, by decide⟩ ?_
  refine V.iadd dL_law_569 ⟨(by omega), (by omega)⟩ ?_
  refine V.sld rfl hL dL_law_570 (by omega) (by omega) ?_
  rw [hp3]
  refine V.aload_n dL_law_571 rfl ?_
  refine V.callH [_, _, _, _, _] rfl kc_L_155 dL_law_572 (d' := dL) h1 hn rfl (fun _ _ => hC) rfl (fun v τ hq hv => ?_) (fun X t hx => hx.elim)
  obtain ⟨k, rfl, QM, hX, hm⟩ := hk v τ hq
  refine V.istore (L' := [_, _, _, _, _, _, _, _, _]) dL_law_575 rfl rfl ?_
  refine V.aload_n dL_law_577 rfl ?_
  refine V.aload_s dL_law_578 rfl ?_
  refine V.iload dL_law_579 rfl ?_
  refine V.iconst dL_law_581 ⟨by decide, by decide⟩ ?_
  refine V.iadd dL_law_582 ⟨(by omega), (by omega)⟩ ?_
  refine V.sld rfl hL dL_law_583 (by omega) (by omega) ?_
  rw [hp1]
  refine V.aload_s dL_law_584 rfl ?_
  refine V.iload dL_law_585 rfl ?_
  refine V.iconst dL_law_587 ⟨by decide, by decide⟩ ?_
  refine V.iadd dL_law_588 ⟨(by omega), (by omega)⟩ ?_
  refine V.sld rfl hL dL_law_589 (by omega) (by omega) ?_
  rw [hp2]
  refine V.aload_s dL_law_590 rfl ?_
  refine V.iload dL_law_591 rfl ?_
  refine V.iconst dL_law_593 ⟨by decide, by decide⟩ ?_
  refine V.iadd dL_law_594 ⟨(by omega), (by omega)⟩ ?_
  refine V.sld rfl hL dL_law_595 (by omega) (by omega) ?_
  rw [hp3]
  refine V.callV [_, _, _] rfl kc_L_158 rfl dL_law_596 (d' := dX) h2 (Nat.zero_le _) rfl (fun _ _ => hX) rfl (fun w ρ hq2 hv2 => ?_) (fun X t hx => hx.elim)
  obtain ⟨x, rfl, h0, ho, hI2⟩ := hm w ρ hq2
  refine V.istore (L' := [_, _, _, _, _, _, _, _, _]) dL_law_599 rfl rfl ?_
  refine V.aload_n dL_law_601 rfl ?_
  refine V.cV [] rfl kc_L_136 rfl dL_law_602 (by decide) rfl rfl (sp_X7_thrown) (fun _ => ?_)
  refine V.iload dL_law_605 rfl ?_
  refine V.icmp_eq (tgt := 612) dL_law_607 (by decide) (fun he => ?_) (fun he => ?_)
  · refine V.iload dL_law_612 rfl ?_
    refine V.if_ne (tgt := 629) dL_law_614 (by decide) (fun hz => ?_) (fun hz => ?_)
    · refine V.goto (tgt := 1982) dL_law_629 (by decide) ?_
      exact next _ _ _ _ _ (by omega) (hI2.up (by omega))
    · refine V.aload_n dL_law_617 rfl ?_
      refine V.iconst dL_law_618 ⟨by decide, by decide⟩ ?_
      refine V.lald (cell := 55) 0 rfl rfl rfl rfl dL_law_619 (by omega) (by omega) (fun _ => ?_)
      rw [show ρ 55 0 = x from ho hz]
      refine V.iload dL_law_620 rfl ?_
      refine V.i2l dL_law_622 ?_
      refine V.lcmp dL_law_623 ?_
      rw [if_neg (Int.lt_irrefl x), if_pos rfl]
      refine V.if_eq (tgt := 629) dL_law_624 (by decide) (fun hy => ?_) (fun hy => ?_)
      · refine V.goto (tgt := 1982) dL_law_629 (by decide) ?_
        exact next _ _ _ _ _ (by omega) (hI2.up (by omega))
      · exact absurd rfl hy
  · exact absurd h0 he
