def jwLoop (σ0 : JM) (n : Nat) : Prop := ∀ (σ : JM) (x to sc p ps q qs d : Int), jkp σ0 σ → jwi σ → jwc σ0 x to p q d → jW σ0 x to → to * 81 + (to - x) < n → ∀ (dd : Nat), to + 4 ≤ dd → ∀ (l : Launch) (E : JE) (fr : Int), V l E mX7_walks dd 0 (jrv (jwk n σ x to sc p ps q qs d).1 (jwk n σ x to sc p ps q qs d).2) jno 3 [(2, 7), (0, fr), (0, to), (0, sc), (0, p), (0, ps), (0, q), (0, qs), (0, d), (0, x), (9, 0), (9, 0), (9, 0), (9, 0), (9, 0), (9, 0), (9, 0), (9, 0)] [] σ
theorem jwLoop.sp {σ0 : JM} {n : Nat} (ih : jwLoop σ0 n) {σ : JM} {x to sc p ps q qs d : Int} (k : jkp σ0 σ) (i : jwi σ) (c : jwc σ0 x to p q d) (w : jW σ0 x to) (hn : to * 81 + (to - x) < n) {dd : Nat} (hd : to + 4 ≤ dd) : JSp mX7_walks dd 0 [(2, 7), (0, x), (0, to), (0, sc), (0, p), (0, ps), (0, q), (0, qs), (0, d)] σ (jrv (jwk n σ x to sc p ps q qs d).1 (jwk n σ x to sc p ps q qs d).2) jno := by
  refine JSp.of [(2, 7), (0, x), (0, to), (0, sc), (0, p), (0, ps), (0, q), (0, qs), (0, d), (9, 0), (9, 0), (9, 0), (9, 0), (9, 0), (9, 0), (9, 0), (9, 0), (9, 0)] rfl (by decide +kernel) rfl rfl rfl (fun l E hA => ?_)
  refine V.iload_n dX7_walks_0 rfl ?_
  refine V.istore (L' := [_, _, _, _, _, _, _, _, _, _, _, _, _, _, _, _, _, _]) dX7_walks_1 rfl rfl ?_
  exact ih σ x to sc p ps q qs d k i c w hn dd hd l E x
set_option maxHeartbeats 4000000 in
theorem wk_i {σ0 : JM} (hw : jwf σ0) {n : Nat} (ih : jwLoop σ0 n) {σ : JM} {x to sc p ps q qs d : Int} (k : jkp σ0 σ) (i : jwi σ) (c : jwc σ0 x to p q d) (w : jW σ0 x to) (hn : to * 81 + (to - x) < (n + 1 : Nat)) {dd : Nat} (hd : to + 4 ≤ dd) {l : Launch} {E : JE} {fr : Int} (h : x < to) (h2 : ¬ jwFa σ x p q) (h3 : ¬ jwFd σ x sc p ps q qs) (h4 : ¬ jwFf σ x) (h5 : σ 34 x < 6) : V l E mX7_walks dd 0 (jrv (jwk (n + 1) σ x to sc p ps q qs d).1 (jwk (n + 1) σ x to sc p ps q qs d).2) jno 283 [(2, 7), (0, fr), (0, to), (0, sc), (0, p), (0, ps), (0, q), (0, qs), (0, d), (0, x), (0, σ 34 x), (0, jwa σ x p q), (0, jrga (σ 35 x) ps qs sc), (0, jwb σ x p q), (0, jrga (σ 36 x) ps qs sc), (9, 0), (9, 0), (9, 0)] [] σ := by
  have ln := hw.ln
  have k34 : σ 34 x = σ0 34 x := k 34 x (by omega) (by omega) (by omega)
  have k35 : σ 35 x = σ0 35 x := k 35 x (by omega) (by omega) (by omega)
  have k36 : σ 36 x = σ0 36 x := k 36 x (by omega) (by omega) (by omega)
  have k37 : σ 37 x = σ0 37 x := k 37 x (by omega) (by omega) (by omega)
  have k38 : σ 38 x = σ0 38 x := k 38 x (by omega) (by omega) (by omega)
  have o1 := hw.one x c.1 (by omega)
  have o2 := hw.two x c.1 (by omega)
  have so := hw.so x c.1 (by omega)
  have ncl := w.ncl h
  have ab := jrga_b ⟨o1.1, o1.2.1⟩ c.2.2.2.1 c.2.2.2.2.1
  have bb := jrga_b o2 c.2.2.2.1 c.2.2.2.2.1
  rw [← k35] at ab
  rw [← k36] at bb
  obtain ⟨i5, i6, i7⟩ := i
  have i3 : σ 7 18 < 1000 := by
    by_cases e : σ 7 18 = 1000
    · exact absurd (Or.inl e) h4
    · omega
  have i4 : σ 7 16 < 200 := by
    by_cases e : σ 7 16 = 200
    · exact absurd (Or.inr ⟨h5, e⟩) h4
    · omega
  have m := jmk_7 (jw1 σ) x (jwa σ x p q) (jrga (σ 35 x) ps qs sc) d
  rw [(jw1_7 σ).1, (jw1_7 σ).2.1, (jw1_7 σ).2.2] at m
  rw [jwk_i h h2 h3 h4 h5]
  refine V.aload_n dX7_walks_283 rfl ?_
  refine V.dup dX7_walks_284 rfl ?_
  refine V.getI fa_X7_137 (by decide) rfl dX7_walks_285 (fun _ => ?_)
  refine V.iconst dX7_walks_288 ⟨by decide, by decide⟩ ?_
  refine V.iadd dX7_walks_289 ⟨(by omega), (by omega)⟩ ?_
  refine V.putI fa_X7_137 (by decide) rfl dX7_walks_290 (Or.inl rfl) ?_
  refine V.iload dX7_walks_293 rfl ?_
  refine V.bipush dX7_walks_295 ⟨by decide, by decide⟩ ?_
  refine V.icmp_ge (tgt := 312) dX7_walks_297 (by decide) (fun h297 => ?_) (fun h297 => ?_)
  · exfalso; omega
  · refine V.aload_n dX7_walks_300 rfl ?_
    refine V.iload dX7_walks_301 rfl ?_
    refine V.iload dX7_walks_303 rfl ?_
    refine V.iload dX7_walks_305 rfl ?_
    refine V.iload dX7_walks_307 rfl ?_
    refine V.cV0 [_, _, _, _] rfl kc_X7_140 rfl dX7_walks_309 (by omega) rfl rfl (sp_X7_makes (σ := jw1 σ) (show 0 ≤ σ 7 16 by omega) (show σ 7 16 < 200 by omega) ⟨by omega, by omega⟩) ?_
    refine V.iload dX7_walks_312 rfl ?_
    refine V.bipush dX7_walks_314 ⟨by decide, by decide⟩ ?_
    refine V.icmp_ne (tgt := 371) dX7_walks_316 (by decide) (fun h316 => ?_) (fun h316 => ?_)
    · refine V.iload dX7_walks_371 rfl ?_
      refine V.bipush dX7_walks_373 ⟨by decide, by decide⟩ ?_
      refine V.icmp_ge (tgt := 381) dX7_walks_375 (by decide) (fun h375 => ?_) (fun h375 => ?_)
      · exfalso; omega
      · refine V.goto (tgt := 493) dX7_walks_378 (by decide) ?_
        refine V.iinc (L' := [_, _, _, _, _, _, _, _, _, _, _, _, _, _, _, _, _, _]) dX7_walks_493 rfl ⟨(by omega), (by omega)⟩ rfl ?_
        refine V.goto (tgt := 3) dX7_walks_496 (by decide) ?_
        refine V.fg [10, 11, 12, 13, 14, 15, 16, 17] rfl ?_
        exact ih _ _ _ _ _ _ _ _ _ (k.w1.mk _ _ _ _) ⟨by omega, by omega, by omega⟩ (by omega) (w.suc (by omega)) (by omega) dd hd l E fr
    · exfalso; omega
set_option maxHeartbeats 4000000 in
theorem wk_c {σ0 : JM} (hw : jwf σ0) {n : Nat} (ih : jwLoop σ0 n) {σ : JM} {x to sc p ps q qs d : Int} (k : jkp σ0 σ) (i : jwi σ) (c : jwc σ0 x to p q d) (w : jW σ0 x to) (hn : to * 81 + (to - x) < (n + 1 : Nat)) {dd : Nat} (hd : to + 4 ≤ dd) {l : Launch} {E : JE} {fr : Int} (h : x < to) (h2 : ¬ jwFa σ x p q) (h4 : ¬ jwFf σ x) (h5 : σ 34 x = 6) : V l E mX7_walks dd 0 (jrv (jwk (n + 1) σ x to sc p ps q qs d).1 (jwk (n + 1) σ x to sc p ps q qs d).2) jno 283 [(2, 7), (0, fr), (0, to), (0, sc), (0, p), (0, ps), (0, q), (0, qs), (0, d), (0, x), (0, σ 34 x), (0, jwa σ x p q), (0, jrga (σ 35 x) ps qs sc), (0, jwb σ x p q), (0, jrga (σ 36 x) ps qs sc), (9, 0), (9, 0), (9, 0)] [] σ := by
  have ln := hw.ln
  have k34 : σ 34 x = σ0 34 x := k 34 x (by omega) (by omega) (by omega)
  have k35 : σ 35 x = σ0 35 x := k 35 x (by omega) (by omega) (by omega)
  have k36 : σ 36 x = σ0 36 x := k 36 x (by omega) (by omega) (by omega)
  have k37 : σ 37 x = σ0 37 x := k 37 x (by omega) (by omega) (by omega)
  have k38 : σ 38 x = σ0 38 x := k 38 x (by omega) (by omega) (by omega)
  have o1 := hw.one x c.1 (by omega)
  have o2 := hw.two x c.1 (by omega)
  have so := hw.so x c.1 (by omega)
  have ncl := w.ncl h
  have ab := jrga_b ⟨o1.1, o1.2.1⟩ c.2.2.2.1 c.2.2.2.2.1
  have bb := jrga_b o2 c.2.2.2.1 c.2.2.2.2.1
  rw [← k35] at ab
  rw [← k36] at bb
  obtain ⟨i5, i6, i7⟩ := i
  have i3 : σ 7 18 < 1000 := by
    by_cases e : σ 7 18 = 1000
    · exact absurd (Or.inl e) h4
    · omega
  rw [jwk_c h h2 h4 h5]
  have ca := hw.ca x c.1 (by omega) (by omega)
  have mc := hw.mc
  have mm := hw.mm (σ0 37 x) ca.1 ca.2.1
  have f40 : σ 40 (σ 37 x) = σ0 40 (σ0 37 x) := by rw [k 40 _ (by omega) (by omega) (by omega), k37]
  have f41 : σ 41 (σ 37 x) = σ0 41 (σ0 37 x) := by rw [k 41 _ (by omega) (by omega) (by omega), k37]
  have m := jnsc_7 (jw1 σ) 0
  rw [(jw1_7 σ).1, (jw1_7 σ).2.1, (jw1_7 σ).2.2] at m
  have cI : jwi (jnsc (jw1 σ) 0) := ⟨by omega, by omega, by omega⟩
  have cW : jW σ0 (σ 40 (σ 37 x) + 1) (σ 41 (σ 37 x)) := by rw [f40, f41]; exact jW.mac hw ca.1 ca.2.1
  have cC : jwc σ0 (σ 40 (σ 37 x) + 1) (σ 41 (σ 37 x)) (jwa σ x p q) (jwb σ x p q) (d + 1) := ⟨by omega, by omega, by omega, ab, bb, by omega, by omega⟩
  have g : jwo σ0 σ (jwC n σ x sc p ps q qs d) := jwo.tr (τ := jnsc (jw1 σ) 0) (by omega) (by omega) (by omega) (by omega) (jwk_o hw _ _ _ _ _ _ _ _ _ _ (k.w1.nsc _) cI cC cW)
  have sp : JSp mX7_walks (dd - 1) 0 [(2, 7), (0, σ 40 (σ 37 x) + 1), (0, σ 41 (σ 37 x)), (0, σ 7 17), (0, jwa σ x p q), (0, jrga (σ 35 x) ps qs sc), (0, jwb σ x p q), (0, jrga (σ 36 x) ps qs sc), (0, d + 1)] (jnsc (jw1 σ) 0) (jrv (jwC n σ x sc p ps q qs d).1 (jwC n σ x sc p ps q qs d).2) jno := ih.sp (k.w1.nsc _) cI cC cW (by omega) (by omega)
  generalize jwC n σ x sc p ps q qs d = r at g sp ⊢
  have e37 : jset σ 7 18 (σ 7 18 + 1) 37 x = σ 37 x := rfl
  have e40 : jset σ 7 18 (σ 7 18 + 1) 40 (σ 37 x) = σ 40 (σ 37 x) := rfl
  have e41 : jset σ 7 18 (σ 7 18 + 1) 41 (σ 37 x) = σ 41 (σ 37 x) := rfl
  refine V.aload_n dX7_walks_283 rfl ?_
  refine V.dup dX7_walks_284 rfl ?_
  refine V.getI fa_X7_137 (by decide) rfl dX7_walks_285 (fun _ => ?_)
  refine V.iconst dX7_walks_288 ⟨by decide, by decide⟩ ?_
  refine V.iadd dX7_walks_289 ⟨(by omega), (by omega)⟩ ?_
  refine V.putI fa_X7_137 (by decide) rfl dX7_walks_290 (Or.inl rfl) ?_
  refine V.iload dX7_walks_293 rfl ?_
  refine V.bipush dX7_walks_295 ⟨by decide, by decide⟩ ?_
  refine V.icmp_ge (tgt := 312) dX7_walks_297 (by decide) (fun h297 => ?_) (fun h297 => ?_)
  · refine V.iload dX7_walks_312 rfl ?_
    refine V.bipush dX7_walks_314 ⟨by decide, by decide⟩ ?_
    refine V.icmp_ne (tgt := 371) dX7_walks_316 (by decide) (fun h316 => ?_) (fun h316 => ?_)
    · exfalso; omega
    · refine V.aload_n dX7_walks_319 rfl ?_
      refine V.aload_n dX7_walks_320 rfl ?_
      refine V.getR fa_X7_32 rfl dX7_walks_321 ?_
      refine V.aload_n dX7_walks_324 rfl ?_
      refine V.getR fa_X7_23 rfl dX7_walks_325 ?_
      refine V.iload dX7_walks_328 rfl ?_
      refine V.iald (cell := 37) 0 rfl rfl rfl rfl dX7_walks_330 (by omega) (by omega) (fun _ => ?_)
      rw [e37]
      refine V.iald (cell := 40) 0 rfl rfl rfl rfl dX7_walks_331 (by omega) (by omega) (fun _ => ?_)
      rw [e40]
      refine V.iconst dX7_walks_332 ⟨by decide, by decide⟩ ?_
      refine V.iadd dX7_walks_333 ⟨(by omega), (by omega)⟩ ?_
      refine V.aload_n dX7_walks_334 rfl ?_
      refine V.getR fa_X7_35 rfl dX7_walks_335 ?_
      refine V.aload_n dX7_walks_338 rfl ?_
      refine V.getR fa_X7_23 rfl dX7_walks_339 ?_
      refine V.iload dX7_walks_342 rfl ?_
      refine V.iald (cell := 37) 0 rfl rfl rfl rfl dX7_walks_344 (by omega) (by omega) (fun _ => ?_)
      rw [e37]
      refine V.iald (cell := 41) 0 rfl rfl rfl rfl dX7_walks_345 (by omega) (by omega) (fun _ => ?_)
      rw [e41]
      refine V.aload_n dX7_walks_346 rfl ?_
      refine V.iconst dX7_walks_347 ⟨by decide, by decide⟩ ?_
      refine V.cV [_] rfl kc_X7_144 rfl dX7_walks_348 (by omega) rfl rfl (sp_X7_newScope (σ := jw1 σ) (show 0 ≤ σ 7 17 by omega) (show σ 7 17 < 12000 by omega)) (fun _ => ?_)
      rw [show jw1 σ 7 17 = σ 7 17 from rfl]
      refine V.iload dX7_walks_351 rfl ?_
      refine V.iload dX7_walks_353 rfl ?_
      refine V.iload dX7_walks_355 rfl ?_
      refine V.iload dX7_walks_357 rfl ?_
      refine V.iload dX7_walks_359 rfl ?_
      refine V.iconst dX7_walks_361 ⟨by decide, by decide⟩ ?_
      refine V.iadd dX7_walks_362 ⟨(by omega), (by omega)⟩ ?_
      refine V.cV [_, _, _, _, _, _, _, _] rfl kc_X7_147 rfl dX7_walks_363 (by omega) rfl rfl sp (fun _ => ?_)
      refine V.if_ne (tgt := 371) dX7_walks_366 (by decide) (fun h366 => ?_) (fun h366 => ?_)
      · refine V.iload dX7_walks_371 rfl ?_
        refine V.bipush dX7_walks_373 ⟨by decide, by decide⟩ ?_
        refine V.icmp_ge (tgt := 381) dX7_walks_375 (by decide) (fun h375 => ?_) (fun h375 => ?_)
        · exfalso; omega
        · refine V.goto (tgt := 493) dX7_walks_378 (by decide) ?_
          refine V.iinc (L' := [_, _, _, _, _, _, _, _, _, _, _, _, _, _, _, _, _, _]) dX7_walks_493 rfl ⟨(by omega), (by omega)⟩ rfl ?_
          refine V.goto (tgt := 3) dX7_walks_496 (by decide) ?_
          refine V.fg [10, 11, 12, 13, 14, 15, 16, 17] rfl ?_
          rw [if_neg h366]
          exact ih _ _ _ _ _ _ _ _ _ g.1 g.2.1 (by omega) (w.suc (by omega)) (by omega) dd hd l E fr
      · refine V.iconst dX7_walks_369 ⟨by decide, by decide⟩ ?_
        exact V.iret (jret_z dX7_walks_370 rfl (by decide)) ⟨by rw [if_pos h366], by rw [if_pos h366]⟩
  · exfalso; omega
theorem jwr_s (f : JM → Int × JM) (r : Nat) (ρ : JM) : jwr f (r + 1) ρ = if (f ρ).1 = 0 then (0, (f ρ).2) else jwr f r (f ρ).2 := rfl
theorem jwr_z (f : JM → Int × JM) (ρ : JM) : jwr f 0 ρ = (1, ρ) := rfl
set_option maxHeartbeats 4000000 in
theorem wk_z {σ0 : JM} (hw : jwf σ0) {n : Nat} (ih : jwLoop σ0 n) {σ : JM} {x to sc p ps q qs d : Int} (k : jkp σ0 σ) (i : jwi σ) (c : jwc σ0 x to p q d) (w : jW σ0 x to) (hn : to * 81 + (to - x) < (n + 1 : Nat)) {dd : Nat} (hd : to + 4 ≤ dd) {l : Launch} {E : JE} {fr : Int} (h : x < to) (h1 : σ 34 x ≠ 11) (h7 : 7 ≤ σ 34 x) {ρ : JM} {v kk : Int} (kρ : jkp σ0 ρ) (iρ : jwi ρ) (hv : v = kk) : V l E mX7_walks dd 0 (jrv (if (jwr (jwB n σ x sc p ps q qs d) 0 ρ).1 = 0 then (0, (jwr (jwB n σ x sc p ps q qs d) 0 ρ).2) else jwk n (jwr (jwB n σ x sc p ps q qs d) 0 ρ).2 (σ 38 x + 1) to sc p ps q qs d).1 (if (jwr (jwB n σ x sc p ps q qs d) 0 ρ).1 = 0 then (0, (jwr (jwB n σ x sc p ps q qs d) 0 ρ).2) else jwk n (jwr (jwB n σ x sc p ps q qs d) 0 ρ).2 (σ 38 x + 1) to sc p ps q qs d).2) jno 421 [(2, 7), (0, fr), (0, to), (0, sc), (0, p), (0, ps), (0, q), (0, qs), (0, d), (0, x), (0, σ 34 x), (0, jwa σ x p q), (0, jrga (σ 35 x) ps qs sc), (0, jwb σ x p q), (0, jrga (σ 36 x) ps qs sc), (0, v), (0, kk), (9, 0)] [] ρ := by
  have ln := hw.ln
  have k34 : σ 34 x = σ0 34 x := k 34 x (by omega) (by omega) (by omega)
  have k35 : σ 35 x = σ0 35 x := k 35 x (by omega) (by omega) (by omega)
  have k36 : σ 36 x = σ0 36 x := k 36 x (by omega) (by omega) (by omega)
  have k37 : σ 37 x = σ0 37 x := k 37 x (by omega) (by omega) (by omega)
  have k38 : σ 38 x = σ0 38 x := k 38 x (by omega) (by omega) (by omega)
  have o1 := hw.one x c.1 (by omega)
  have o2 := hw.two x c.1 (by omega)
  have so := hw.so x c.1 (by omega)
  have ncl := w.ncl h
  have ab := jrga_b ⟨o1.1, o1.2.1⟩ c.2.2.2.1 c.2.2.2.2.1
  have bb := jrga_b o2 c.2.2.2.1 c.2.2.2.2.1
  rw [← k35] at ab
  rw [← k36] at bb
  obtain ⟨i5, i6, i7⟩ := i
  have op : jop (σ0 34 x) := by omega
  have g := jW.inn hw c.1 c.2.2.1 w (Int.le_refl _) h op
  have gn := jW.nxt hw c.1 c.2.2.1 w h op
  rw [← k38] at g gn
  have e38 : ρ 38 x = σ 38 x := (kρ 38 x (by omega) (by omega) (by omega)).trans k38.symm
  rw [jwr_z, if_neg (show ¬ (1 : Int) = 0 by decide)]
  refine V.iload dX7_walks_421 rfl ?_
  refine V.iload dX7_walks_423 rfl ?_
  refine V.icmp_ge (tgt := 484) dX7_walks_425 (by decide) (fun h425 => ?_) (fun h425 => ?_)
  · refine V.aload_n dX7_walks_484 rfl ?_
    refine V.getR fa_X7_26 rfl dX7_walks_485 ?_
    refine V.iload dX7_walks_488 rfl ?_
    refine V.iald (cell := 38) 0 rfl rfl rfl rfl dX7_walks_490 (by omega) (by omega) (fun _ => ?_)
    rw [e38]
    refine V.istore (L' := [_, _, _, _, _, _, _, _, _, _, _, _, _, _, _, _, _, _]) dX7_walks_491 rfl rfl ?_
    refine V.iinc (L' := [_, _, _, _, _, _, _, _, _, _, _, _, _, _, _, _, _, _]) dX7_walks_493 rfl ⟨(by omega), (by omega)⟩ rfl ?_
    refine V.goto (tgt := 3) dX7_walks_496 (by decide) ?_
    refine V.fg [10, 11, 12, 13, 14, 15, 16, 17] rfl ?_
    exact ih _ _ _ _ _ _ _ _ _ kρ iρ (by omega) gn (by omega) dd hd l E fr
  · exfalso; omega
set_option maxHeartbeats 4000000 in
theorem wk_b {σ0 : JM} (hw : jwf σ0) {n : Nat} (ih : jwLoop σ0 n) {σ : JM} {x to sc p ps q qs d : Int} (k : jkp σ0 σ) (i : jwi σ) (c : jwc σ0 x to p q d) (w : jW σ0 x to) (hn : to * 81 + (to - x) < (n + 1 : Nat)) {dd : Nat} (hd : to + 4 ≤ dd) {l : Launch} {E : JE} {fr : Int} (h : x < to) (h1 : σ 34 x ≠ 11) (h7 : 7 ≤ σ 34 x) {ρ ρ' : JM} {v kk ow : Int} {r : Nat} (eB : jwB n σ x sc p ps q qs d ρ = jwk n ρ' (x + 1) (σ 38 x) ow p ps q qs d) (kρ : jkp σ0 ρ') (iρ : jwi ρ') (k0 : 0 ≤ kk ∧ kk ≤ 10) (ihr : jwo σ0 ρ' (jwB n σ x sc p ps q qs d ρ) → V l E mX7_walks dd 0 (jrv (if (jwr (jwB n σ x sc p ps q qs d) r (jwB n σ x sc p ps q qs d ρ).2).1 = 0 then (0, (jwr (jwB n σ x sc p ps q qs d) r (jwB n σ x sc p ps q qs d ρ).2).2) else jwk n (jwr (jwB n σ x sc p ps q qs d) r (jwB n σ x sc p ps q qs d ρ).2).2 (σ 38 x + 1) to sc p ps q qs d).1 (if (jwr (jwB n σ x sc p ps q qs d) r (jwB n σ x sc p ps q qs d ρ).2).1 = 0 then (0, (jwr (jwB n σ x sc p ps q qs d) r (jwB n σ x sc p ps q qs d ρ).2).2) else jwk n (jwr (jwB n σ x sc p ps q qs d) r (jwB n σ x sc p ps q qs d ρ).2).2 (σ 38 x + 1) to sc p ps q qs d).2) jno 421 [(2, 7), (0, fr), (0, to), (0, sc), (0, p), (0, ps), (0, q), (0, qs), (0, d), (0, x), (0, σ 34 x), (0, jwa σ x p q), (0, jrga (σ 35 x) ps qs sc), (0, jwb σ x p q), (0, jrga (σ 36 x) ps qs sc), (0, v), (0, kk + 1), (9, 0)] [] (jwB n σ x sc p ps q qs d ρ).2) : V l E mX7_walks dd 0 (jrv (if (jwr (jwB n σ x sc p ps q qs d) (r + 1) ρ).1 = 0 then (0, (jwr (jwB n σ x sc p ps q qs d) (r + 1) ρ).2) else jwk n (jwr (jwB n σ x sc p ps q qs d) (r + 1) ρ).2 (σ 38 x + 1) to sc p ps q qs d).1 (if (jwr (jwB n σ x sc p ps q qs d) (r + 1) ρ).1 = 0 then (0, (jwr (jwB n σ x sc p ps q qs d) (r + 1) ρ).2) else jwk n (jwr (jwB n σ x sc p ps q qs d) (r + 1) ρ).2 (σ 38 x + 1) to sc p ps q qs d).2) jno 446 [(2, 7), (0, fr), (0, to), (0, sc), (0, p), (0, ps), (0, q), (0, qs), (0, d), (0, x), (0, σ 34 x), (0, jwa σ x p q), (0, jrga (σ 35 x) ps qs sc), (0, jwb σ x p q), (0, jrga (σ 36 x) ps qs sc), (0, v), (0, kk), (0, ow)] [] ρ' := by
  have ln := hw.ln
  have k34 : σ 34 x = σ0 34 x := k 34 x (by omega) (by omega) (by omega)
  have k35 : σ 35 x = σ0 35 x := k 35 x (by omega) (by omega) (by omega)
  have k36 : σ 36 x = σ0 36 x := k 36 x (by omega) (by omega) (by omega)
  have k37 : σ 37 x = σ0 37 x := k 37 x (by omega) (by omega) (by omega)
  have k38 : σ 38 x = σ0 38 x := k 38 x (by omega) (by omega) (by omega)
  have o1 := hw.one x c.1 (by omega)
  have o2 := hw.two x c.1 (by omega)
  have so := hw.so x c.1 (by omega)
  have ncl := w.ncl h
  have ab := jrga_b ⟨o1.1, o1.2.1⟩ c.2.2.2.1 c.2.2.2.2.1
  have bb := jrga_b o2 c.2.2.2.1 c.2.2.2.2.1
  rw [← k35] at ab
  rw [← k36] at bb
  obtain ⟨i5, i6, i7⟩ := i
  have op : jop (σ0 34 x) := by omega
  have g := jW.inn hw c.1 c.2.2.1 w (Int.le_refl _) h op
  have gn := jW.nxt hw c.1 c.2.2.1 w h op
  rw [← k38] at g gn
  rw [jwr_s]
  have e38 : ρ' 38 x = σ 38 x := (kρ 38 x (by omega) (by omega) (by omega)).trans k38.symm
  have sp : JSp mX7_walks (dd - 1) 0 [(2, 7), (0, x + 1), (0, σ 38 x), (0, ow), (0, p), (0, ps), (0, q), (0, qs), (0, d)] ρ' (jrv (jwk n ρ' (x + 1) (σ 38 x) ow p ps q qs d).1 (jwk n ρ' (x + 1) (σ 38 x) ow p ps q qs d).2) jno := ih.sp kρ iρ (by omega) g.1 (by omega) (by omega)
  have gB := jwk_o hw n ρ' (x + 1) (σ 38 x) ow p ps q qs d kρ iρ (by omega) g.1
  rw [← eB] at sp gB
  have ihr := ihr gB
  generalize jwB n σ x sc p ps q qs d ρ = R at sp gB ihr ⊢
  refine V.aload_n dX7_walks_446 rfl ?_
  refine V.iload dX7_walks_447 rfl ?_
  refine V.iconst dX7_walks_449 ⟨by decide, by decide⟩ ?_
  refine V.iadd dX7_walks_450 ⟨(by omega), (by omega)⟩ ?_
  refine V.aload_n dX7_walks_451 rfl ?_
  refine V.getR fa_X7_26 rfl dX7_walks_452 ?_
  refine V.iload dX7_walks_455 rfl ?_
  refine V.iald (cell := 38) 0 rfl rfl rfl rfl dX7_walks_457 (by omega) (by omega) (fun _ => ?_)
  rw [e38]
  refine V.iload dX7_walks_458 rfl ?_
  refine V.iload dX7_walks_460 rfl ?_
  refine V.iload dX7_walks_462 rfl ?_
  refine V.iload dX7_walks_464 rfl ?_
  refine V.iload dX7_walks_466 rfl ?_
  refine V.iload dX7_walks_468 rfl ?_
  refine V.cV [_, _, _, _, _, _, _, _] rfl kc_X7_147 rfl dX7_walks_470 (by omega) rfl rfl sp (fun _ => ?_)
  refine V.if_ne (tgt := 478) dX7_walks_473 (by decide) (fun h473 => ?_) (fun h473 => ?_)
  · refine V.iinc (L' := [_, _, _, _, _, _, _, _, _, _, _, _, _, _, _, _, _, _]) dX7_walks_478 rfl ⟨(by omega), (by omega)⟩ rfl ?_
    refine V.goto (tgt := 421) dX7_walks_481 (by decide) ?_
    refine V.fg [17] rfl ?_
    rw [if_neg h473]
    exact ihr
  · refine V.iconst dX7_walks_476 ⟨by decide, by decide⟩ ?_
    exact V.iret (jret_z dX7_walks_477 rfl (by decide)) ⟨by rw [if_pos h473, if_pos rfl], by rw [if_pos h473, if_pos rfl]⟩
set_option maxHeartbeats 4000000 in
theorem wk_r {σ0 : JM} (hw : jwf σ0) {n : Nat} (ih : jwLoop σ0 n) {σ : JM} {x to sc p ps q qs d : Int} (k : jkp σ0 σ) (i : jwi σ) (c : jwc σ0 x to p q d) (w : jW σ0 x to) (hn : to * 81 + (to - x) < (n + 1 : Nat)) {dd : Nat} (hd : to + 4 ≤ dd) {l : Launch} {E : JE} {fr : Int} (h : x < to) (h1 : σ 34 x ≠ 11) (h7 : 7 ≤ σ 34 x) {v : Int} (hv : v ≤ 9) : ∀ (r : Nat) (ρ : JM) (kk : Int), jkp σ0 ρ → jwi ρ → ρ 7 17 + r ≤ 9 * ρ 7 18 + 1 → 0 ≤ kk → kk + r = v → V l E mX7_walks dd 0 (jrv (if (jwr (jwB n σ x sc p ps q qs d) r ρ).1 = 0 then (0, (jwr (jwB n σ x sc p ps q qs d) r ρ).2) else jwk n (jwr (jwB n σ x sc p ps q qs d) r ρ).2 (σ 38 x + 1) to sc p ps q qs d).1 (if (jwr (jwB n σ x sc p ps q qs d) r ρ).1 = 0 then (0, (jwr (jwB n σ x sc p ps q qs d) r ρ).2) else jwk n (jwr (jwB n σ x sc p ps q qs d) r ρ).2 (σ 38 x + 1) to sc p ps q qs d).2) jno 421 [(2, 7), (0, fr), (0, to), (0, sc), (0, p), (0, ps), (0, q), (0, qs), (0, d), (0, x), (0, σ 34 x), (0, jwa σ x p q), (0, jrga (σ 35 x) ps qs sc), (0, jwb σ x p q), (0, jrga (σ 36 x) ps qs sc), (0, v), (0, kk), (9, 0)] [] ρ := by
  intro r
  induction r with
  | zero =>
    intro ρ kk kρ iρ bρ k0 kv
    exact wk_z hw ih k i c w hn hd h h1 h7 kρ iρ (by omega)
  | succ r ihr =>
    intro ρ kk kρ iρ bρ k0 kv
    have f8 := iρ.2.1
    have f9 := iρ.2.2
    refine V.iload dX7_walks_421 rfl ?_
    refine V.iload dX7_walks_423 rfl ?_
    refine V.icmp_ge (tgt := 484) dX7_walks_425 (by decide) (fun h425 => ?_) (fun h425 => ?_)
    · exfalso; omega
    · refine V.iload dX7_walks_428 rfl ?_
      refine V.bipush dX7_walks_430 ⟨by decide, by decide⟩ ?_
      refine V.icmp_ne (tgt := 439) dX7_walks_432 (by decide) (fun h432 => ?_) (fun h432 => ?_)
      · refine V.aload_n dX7_walks_439 rfl ?_
        refine V.iload_n dX7_walks_440 rfl ?_
        refine V.cV [_] rfl kc_X7_144 rfl dX7_walks_441 (by omega) rfl rfl (sp_X7_newScope (σ := ρ) (show 0 ≤ ρ 7 17 by omega) (show ρ 7 17 < 12000 by omega)) (fun _ => ?_)
        refine V.istore (L' := [_, _, _, _, _, _, _, _, _, _, _, _, _, _, _, _, _, _]) dX7_walks_444 rfl rfl ?_
        first
        | exact wk_b hw ih k i c w hn hd h h1 h7 (if_pos h432) kρ iρ ⟨by omega, by omega⟩ (fun z => ihr _ _ z.1 z.2.1 (by have := z.2.2.1; omega) (by omega) (by omega))
        | exact wk_b hw ih k i c w hn hd h h1 h7 (if_neg h432) (kρ.nsc _) (by have m := jnsc_7 ρ sc; have f7 := iρ.1; exact ⟨by omega, by omega, by omega⟩) ⟨by omega, by omega⟩ (fun z => ihr _ _ z.1 z.2.1 (by have m := jnsc_7 ρ sc; have := z.2.2.1; omega) (by omega) (by omega))
      · refine V.iload_n dX7_walks_435 rfl ?_
        refine V.goto (tgt := 444) dX7_walks_436 (by decide) ?_
        refine V.istore (L' := [_, _, _, _, _, _, _, _, _, _, _, _, _, _, _, _, _, _]) dX7_walks_444 rfl rfl ?_
        first
        | exact wk_b hw ih k i c w hn hd h h1 h7 (if_pos h432) kρ iρ ⟨by omega, by omega⟩ (fun z => ihr _ _ z.1 z.2.1 (by have := z.2.2.1; omega) (by omega) (by omega))
        | exact wk_b hw ih k i c w hn hd h h1 h7 (if_neg h432) (kρ.nsc _) (by have m := jnsc_7 ρ sc; have f7 := iρ.1; exact ⟨by omega, by omega, by omega⟩) ⟨by omega, by omega⟩ (fun z => ihr _ _ z.1 z.2.1 (by have m := jnsc_7 ρ sc; have := z.2.2.1; omega) (by omega) (by omega))
set_option maxHeartbeats 4000000 in
theorem wk_g {σ0 : JM} (hw : jwf σ0) {n : Nat} (ih : jwLoop σ0 n) {σ : JM} {x to sc p ps q qs d : Int} (k : jkp σ0 σ) (i : jwi σ) (c : jwc σ0 x to p q d) (w : jW σ0 x to) (hn : to * 81 + (to - x) < (n + 1 : Nat)) {dd : Nat} (hd : to + 4 ≤ dd) {l : Launch} {E : JE} {fr : Int} (h : x < to) (h2 : ¬ jwFa σ x p q) (h4 : ¬ jwFf σ x) (h7 : 7 ≤ σ 34 x) (h1 : σ 34 x ≠ 11) : V l E mX7_walks dd 0 (jrv (jwk (n + 1) σ x to sc p ps q qs d).1 (jwk (n + 1) σ x to sc p ps q qs d).2) jno 283 [(2, 7), (0, fr), (0, to), (0, sc), (0, p), (0, ps), (0, q), (0, qs), (0, d), (0, x), (0, σ 34 x), (0, jwa σ x p q), (0, jrga (σ 35 x) ps qs sc), (0, jwb σ x p q), (0, jrga (σ 36 x) ps qs sc), (9, 0), (9, 0), (9, 0)] [] σ := by
  have ln := hw.ln
  have k34 : σ 34 x = σ0 34 x := k 34 x (by omega) (by omega) (by omega)
  have k35 : σ 35 x = σ0 35 x := k 35 x (by omega) (by omega) (by omega)
  have k36 : σ 36 x = σ0 36 x := k 36 x (by omega) (by omega) (by omega)
  have k37 : σ 37 x = σ0 37 x := k 37 x (by omega) (by omega) (by omega)
  have k38 : σ 38 x = σ0 38 x := k 38 x (by omega) (by omega) (by omega)
  have o1 := hw.one x c.1 (by omega)
  have o2 := hw.two x c.1 (by omega)
  have so := hw.so x c.1 (by omega)
  have ncl := w.ncl h
  have ab := jrga_b ⟨o1.1, o1.2.1⟩ c.2.2.2.1 c.2.2.2.2.1
  have bb := jrga_b o2 c.2.2.2.1 c.2.2.2.2.1
  rw [← k35] at ab
  rw [← k36] at bb
  obtain ⟨i5, i6, i7⟩ := i
  have i3 : σ 7 18 < 1000 := by
    by_cases e : σ 7 18 = 1000
    · exact absurd (Or.inl e) h4
    · omega
  rw [jwk_g h h1 h2 h4 h7]
  have r9 := jrnd9 hw (p := p) (q := q) ⟨c.1, by omega⟩ c.2.2.2.1 c.2.2.2.2.1 (by unfold jwFa jwa; rw [← k35, ← k34]; exact h2)
  rw [← show jrds (σ 34 x) (jwa σ x p q) (jwb σ x p q) = jrds (σ0 34 x) (jwa σ0 x p q) (jwb σ0 x p q) by unfold jwa jwb; rw [k34, k35, k36]] at r9
  have m := jw1_7 σ
  unfold jwG
  obtain ⟨v, hv⟩ : ∃ v, v = jrds (σ 34 x) (jwa σ x p q) (jwb σ x p q) := ⟨_, rfl⟩
  rw [← hv] at r9 ⊢
  have kr : ∀ u, u = jrds (σ 34 x) (jwa σ x p q) (jwb σ x p q) → V l E mX7_walks dd 0 (jrv (if (jwr (jwB n σ x sc p ps q qs d) v.toNat (jw1 σ)).1 = 0 then (0, (jwr (jwB n σ x sc p ps q qs d) v.toNat (jw1 σ)).2) else jwk n (jwr (jwB n σ x sc p ps q qs d) v.toNat (jw1 σ)).2 (σ 38 x + 1) to sc p ps q qs d).1 (if (jwr (jwB n σ x sc p ps q qs d) v.toNat (jw1 σ)).1 = 0 then (0, (jwr (jwB n σ x sc p ps q qs d) v.toNat (jw1 σ)).2) else jwk n (jwr (jwB n σ x sc p ps q qs d) v.toNat (jw1 σ)).2 (σ 38 x + 1) to sc p ps q qs d).2) jno 418 [(2, 7), (0, fr), (0, to), (0, sc), (0, p), (0, ps), (0, q), (0, qs), (0, d), (0, x), (0, σ 34 x), (0, jwa σ x p q), (0, jrga (σ 35 x) ps qs sc), (0, jwb σ x p q), (0, jrga (σ 36 x) ps qs sc), (0, u), (9, 0), (9, 0)] [] (jw1 σ) := by
    intro u hu
    obtain rfl : u = v := hu.trans hv.symm
    refine V.iconst dX7_walks_418 ⟨by decide, by decide⟩ ?_
    refine V.istore (L' := [_, _, _, _, _, _, _, _, _, _, _, _, _, _, _, _, _, _]) dX7_walks_419 rfl rfl ?_
    exact wk_r hw ih k ⟨i5, i6, i7⟩ c w hn hd h h1 h7 r9.2 _ _ 0 k.w1 ⟨by omega, by omega, by omega⟩ (by omega) (by omega) (by omega)
  refine V.aload_n dX7_walks_283 rfl ?_
  refine V.dup dX7_walks_284 rfl ?_
  refine V.getI fa_X7_137 (by decide) rfl dX7_walks_285 (fun _ => ?_)
  refine V.iconst dX7_walks_288 ⟨by decide, by decide⟩ ?_
  refine V.iadd dX7_walks_289 ⟨(by omega), (by omega)⟩ ?_
  refine V.putI fa_X7_137 (by decide) rfl dX7_walks_290 (Or.inl rfl) ?_
  refine V.iload dX7_walks_293 rfl ?_
  refine V.bipush dX7_walks_295 ⟨by decide, by decide⟩ ?_
  refine V.icmp_ge (tgt := 312) dX7_walks_297 (by decide) (fun h297 => ?_) (fun h297 => ?_)
  · refine V.iload dX7_walks_312 rfl ?_
    refine V.bipush dX7_walks_314 ⟨by decide, by decide⟩ ?_
    refine V.icmp_ne (tgt := 371) dX7_walks_316 (by decide) (fun h316 => ?_) (fun h316 => ?_)
    · refine V.iload dX7_walks_371 rfl ?_
      refine V.bipush dX7_walks_373 ⟨by decide, by decide⟩ ?_
      refine V.icmp_ge (tgt := 381) dX7_walks_375 (by decide) (fun h375 => ?_) (fun h375 => ?_)
      · refine V.iload dX7_walks_381 rfl ?_
        refine V.bipush dX7_walks_383 ⟨by decide, by decide⟩ ?_
        refine V.icmp_ne (tgt := 392) dX7_walks_385 (by decide) (fun h385 => ?_) (fun h385 => ?_)
        · refine V.iload dX7_walks_392 rfl ?_
          refine V.bipush dX7_walks_394 ⟨by decide, by decide⟩ ?_
          refine V.icmp_ne (tgt := 404) dX7_walks_396 (by decide) (fun h396 => ?_) (fun h396 => ?_)
          · refine V.iload dX7_walks_404 rfl ?_
            refine V.iload dX7_walks_406 rfl ?_
            refine V.icmp_ne (tgt := 415) dX7_walks_408 (by decide) (fun h408 => ?_) (fun h408 => ?_)
            · refine V.iconst dX7_walks_415 ⟨by decide, by decide⟩ ?_
              refine V.istore (L' := [_, _, _, _, _, _, _, _, _, _, _, _, _, _, _, _, _, _]) dX7_walks_416 rfl rfl ?_
              exact kr _ (by unfold jrds; (repeat' split) <;> omega)
            · refine V.iconst dX7_walks_411 ⟨by decide, by decide⟩ ?_
              refine V.goto (tgt := 416) dX7_walks_412 (by decide) ?_
              refine V.istore (L' := [_, _, _, _, _, _, _, _, _, _, _, _, _, _, _, _, _, _]) dX7_walks_416 rfl rfl ?_
              exact kr _ (by unfold jrds; (repeat' split) <;> omega)
          · refine V.iload dX7_walks_399 rfl ?_
            refine V.goto (tgt := 416) dX7_walks_401 (by decide) ?_
            refine V.istore (L' := [_, _, _, _, _, _, _, _, _, _, _, _, _, _, _, _, _, _]) dX7_walks_416 rfl rfl ?_
            exact kr _ (by unfold jrds; (repeat' split) <;> omega)
        · refine V.iconst dX7_walks_388 ⟨by decide, by decide⟩ ?_
          refine V.goto (tgt := 416) dX7_walks_389 (by decide) ?_
          refine V.istore (L' := [_, _, _, _, _, _, _, _, _, _, _, _, _, _, _, _, _, _]) dX7_walks_416 rfl rfl ?_
          exact kr _ (by unfold jrds; (repeat' split) <;> omega)
      · exfalso; omega
    · exfalso; omega
  · exfalso; omega
set_option maxHeartbeats 4000000 in
theorem wk_283 {σ0 : JM} (hw : jwf σ0) {n : Nat} (ih : jwLoop σ0 n) {σ : JM} {x to sc p ps q qs d : Int} (k : jkp σ0 σ) (i : jwi σ) (c : jwc σ0 x to p q d) (w : jW σ0 x to) (hn : to * 81 + (to - x) < (n + 1 : Nat)) {dd : Nat} (hd : to + 4 ≤ dd) {l : Launch} {E : JE} {fr : Int} (h : x < to) (h2 : ¬ jwFa σ x p q) (h3 : ¬ jwFd σ x sc p ps q qs) (h4 : ¬ jwFf σ x) (h1 : σ 34 x ≠ 11) : V l E mX7_walks dd 0 (jrv (jwk (n + 1) σ x to sc p ps q qs d).1 (jwk (n + 1) σ x to sc p ps q qs d).2) jno 283 [(2, 7), (0, fr), (0, to), (0, sc), (0, p), (0, ps), (0, q), (0, qs), (0, d), (0, x), (0, σ 34 x), (0, jwa σ x p q), (0, jrga (σ 35 x) ps qs sc), (0, jwb σ x p q), (0, jrga (σ 36 x) ps qs sc), (9, 0), (9, 0), (9, 0)] [] σ := by
  by_cases h5 : σ 34 x < 6
  · exact wk_i hw ih k i c w hn hd h h2 h3 h4 h5
  · by_cases h6 : σ 34 x = 6
    · exact wk_c hw ih k i c w hn hd h h2 h4 h6
    · exact wk_g hw ih k i c w hn hd h h2 h4 (by omega) h1
set_option maxHeartbeats 4000000 in
theorem wk_274 {σ0 : JM} (hw : jwf σ0) {n : Nat} (ih : jwLoop σ0 n) {σ : JM} {x to sc p ps q qs d : Int} (k : jkp σ0 σ) (i : jwi σ) (c : jwc σ0 x to p q d) (w : jW σ0 x to) (hn : to * 81 + (to - x) < (n + 1 : Nat)) {dd : Nat} (hd : to + 4 ≤ dd) {l : Launch} {E : JE} {fr : Int} (h : x < to) (h2 : ¬ jwFa σ x p q) (h3 : ¬ jwFd σ x sc p ps q qs) (h1 : σ 34 x ≠ 11) (h4 : jwFf σ x) : V l E mX7_walks dd 0 (jrv (jwk (n + 1) σ x to sc p ps q qs d).1 (jwk (n + 1) σ x to sc p ps q qs d).2) jno 274 [(2, 7), (0, fr), (0, to), (0, sc), (0, p), (0, ps), (0, q), (0, qs), (0, d), (0, x), (0, σ 34 x), (0, jwa σ x p q), (0, jrga (σ 35 x) ps qs sc), (0, jwb σ x p q), (0, jrga (σ 36 x) ps qs sc), (9, 0), (9, 0), (9, 0)] [] σ := by
  rw [jwk_f h h1 h2 h3 h4]
  refine V.aload_n dX7_walks_274 rfl ?_
  refine V.bipush dX7_walks_275 ⟨by decide, by decide⟩ ?_
  refine V.iload dX7_walks_277 rfl ?_
  refine V.cV [_, _] rfl kc_X7_130 rfl dX7_walks_279 (by omega) rfl rfl (sp_X7_stops (by decide)) (fun _ => ?_)
  exact V.iret (jret_z dX7_walks_282 rfl (by decide)) ⟨rfl, rfl⟩
set_option maxHeartbeats 4000000 in
theorem wk_247 {σ0 : JM} (hw : jwf σ0) {n : Nat} (ih : jwLoop σ0 n) {σ : JM} {x to sc p ps q qs d : Int} (k : jkp σ0 σ) (i : jwi σ) (c : jwc σ0 x to p q d) (w : jW σ0 x to) (hn : to * 81 + (to - x) < (n + 1 : Nat)) {dd : Nat} (hd : to + 4 ≤ dd) {l : Launch} {E : JE} {fr : Int} (h : x < to) (h2 : ¬ jwFa σ x p q) (h3 : ¬ jwFd σ x sc p ps q qs) (h1 : σ 34 x ≠ 11) : V l E mX7_walks dd 0 (jrv (jwk (n + 1) σ x to sc p ps q qs d).1 (jwk (n + 1) σ x to sc p ps q qs d).2) jno 247 [(2, 7), (0, fr), (0, to), (0, sc), (0, p), (0, ps), (0, q), (0, qs), (0, d), (0, x), (0, σ 34 x), (0, jwa σ x p q), (0, jrga (σ 35 x) ps qs sc), (0, jwb σ x p q), (0, jrga (σ 36 x) ps qs sc), (9, 0), (9, 0), (9, 0)] [] σ := by
  refine V.aload_n dX7_walks_247 rfl ?_
  refine V.getI fa_X7_137 (by decide) rfl dX7_walks_248 (fun _ => ?_)
  refine V.sipush dX7_walks_251 ⟨by decide, by decide⟩ ?_
  refine V.icmp_eq (tgt := 274) dX7_walks_254 (by decide) (fun h254 => ?_) (fun h254 => ?_)
  · exact wk_274 hw ih k i c w hn hd h h2 h3 h1 (by first | exact Or.inl h254 | exact Or.inr ⟨h261, h271⟩)
  · refine V.iload dX7_walks_257 rfl ?_
    refine V.bipush dX7_walks_259 ⟨by decide, by decide⟩ ?_
    refine V.icmp_ge (tgt := 283) dX7_walks_261 (by decide) (fun h261 => ?_) (fun h261 => ?_)
    · exact wk_283 hw ih k i c w hn hd h h2 h3 (fun z => by rcases z with z | z <;> omega) h1
    · refine V.aload_n dX7_walks_264 rfl ?_
      refine V.getI fa_X7_124 (by decide) rfl dX7_walks_265 (fun _ => ?_)
      refine V.sipush dX7_walks_268 ⟨by decide, by decide⟩ ?_
      refine V.icmp_ne (tgt := 283) dX7_walks_271 (by decide) (fun h271 => ?_) (fun h271 => ?_)
      · exact wk_283 hw ih k i c w hn hd h h2 h3 (fun z => by rcases z with z | z <;> omega) h1
      · exact wk_274 hw ih k i c w hn hd h h2 h3 h1 (by first | exact Or.inl h254 | exact Or.inr ⟨h261, h271⟩)
set_option maxHeartbeats 4000000 in
theorem wk_222 {σ0 : JM} (hw : jwf σ0) {n : Nat} (ih : jwLoop σ0 n) {σ : JM} {x to sc p ps q qs d : Int} (k : jkp σ0 σ) (i : jwi σ) (c : jwc σ0 x to p q d) (w : jW σ0 x to) (hn : to * 81 + (to - x) < (n + 1 : Nat)) {dd : Nat} (hd : to + 4 ≤ dd) {l : Launch} {E : JE} {fr : Int} (h : x < to) (h2 : ¬ jwFa σ x p q) (h1 : σ 34 x ≠ 11) : V l E mX7_walks dd 0 (jrv (jwk (n + 1) σ x to sc p ps q qs d).1 (jwk (n + 1) σ x to sc p ps q qs d).2) jno 222 [(2, 7), (0, fr), (0, to), (0, sc), (0, p), (0, ps), (0, q), (0, qs), (0, d), (0, x), (0, σ 34 x), (0, jwa σ x p q), (0, jrga (σ 35 x) ps qs sc), (0, jwb σ x p q), (0, jrga (σ 36 x) ps qs sc), (9, 0), (9, 0), (9, 0)] [] σ := by
  refine V.iload dX7_walks_222 rfl ?_
  refine V.if_ne (tgt := 247) dX7_walks_224 (by decide) (fun h224 => ?_) (fun h224 => ?_)
  · exact wk_247 hw ih k i c w hn hd h h2 (fun z => h224 z.1) h1
  · refine V.aload_n dX7_walks_227 rfl ?_
    refine V.iload dX7_walks_228 rfl ?_
    refine V.iload dX7_walks_230 rfl ?_
    refine V.cV [_, _] rfl kc_X7_134 rfl dX7_walks_232 (by omega) rfl rfl (sp_X7_isDefined (σ := σ) i.1.1 i.1.2) (fun _ => ?_)
    refine V.if_eq (tgt := 247) dX7_walks_235 (by decide) (fun h235 => ?_) (fun h235 => ?_)
    · exact wk_247 hw ih k i c w hn hd h h2 (fun z => by rw [if_pos z.2] at h235; exact absurd h235 (by decide)) h1
    · have h3 : jwFd σ x sc p ps q qs := ⟨h224, by apply Decidable.byContradiction; intro z; rw [if_neg z] at h235; exact h235 rfl⟩
      rw [jwk_d h h1 h2 h3]
      refine V.aload_n dX7_walks_238 rfl ?_
      refine V.bipush dX7_walks_239 ⟨by decide, by decide⟩ ?_
      refine V.iload dX7_walks_241 rfl ?_
      refine V.cV [_, _] rfl kc_X7_130 rfl dX7_walks_243 (by omega) rfl rfl (sp_X7_stops (by decide)) (fun _ => ?_)
      exact V.iret (jret_z dX7_walks_246 rfl (by decide)) ⟨rfl, rfl⟩
set_option maxHeartbeats 4000000 in
theorem wk_193 {σ0 : JM} (hw : jwf σ0) {n : Nat} (ih : jwLoop σ0 n) {σ : JM} {x to sc p ps q qs d : Int} (k : jkp σ0 σ) (i : jwi σ) (c : jwc σ0 x to p q d) (w : jW σ0 x to) (hn : to * 81 + (to - x) < (n + 1 : Nat)) {dd : Nat} (hd : to + 4 ≤ dd) {l : Launch} {E : JE} {fr : Int} (h : x < to) (h1 : σ 34 x ≠ 11) : V l E mX7_walks dd 0 (jrv (jwk (n + 1) σ x to sc p ps q qs d).1 (jwk (n + 1) σ x to sc p ps q qs d).2) jno 193 [(2, 7), (0, fr), (0, to), (0, sc), (0, p), (0, ps), (0, q), (0, qs), (0, d), (0, x), (0, σ 34 x), (0, jwa σ x p q), (0, jrga (σ 35 x) ps qs sc), (0, jwb σ x p q), (0, jrga (σ 36 x) ps qs sc), (9, 0), (9, 0), (9, 0)] [] σ := by
  have ln := hw.ln
  refine V.aload_n dX7_walks_193 rfl ?_
  refine V.getR fa_X7_17 rfl dX7_walks_194 ?_
  refine V.iload dX7_walks_197 rfl ?_
  refine V.iald (cell := 35) 0 rfl rfl rfl rfl dX7_walks_199 (by omega) (by omega) (fun _ => ?_)
  refine V.if_ge (tgt := 222) dX7_walks_200 (by decide) (fun h200 => ?_) (fun h200 => ?_)
  · exact wk_222 hw ih k i c w hn hd h (fun z => by have := z.1; omega) h1
  · refine V.iload dX7_walks_203 rfl ?_
    refine V.iload dX7_walks_205 rfl ?_
    refine V.cS [_] rfl kc_X7_127 dX7_walks_207 (by omega) rfl rfl (sp_X7_most (σ := σ)) (fun _ => ?_)
    refine V.icmp_le (tgt := 222) dX7_walks_210 (by decide) (fun h210 => ?_) (fun h210 => ?_)
    · exact wk_222 hw ih k i c w hn hd h (fun z => by have := z.2; omega) h1
    · have h2 : jwFa σ x p q := ⟨by omega, h210⟩
      rw [jwk_a h h1 h2]
      refine V.aload_n dX7_walks_213 rfl ?_
      refine V.bipush dX7_walks_214 ⟨by decide, by decide⟩ ?_
      refine V.iload dX7_walks_216 rfl ?_
      refine V.cV [_, _] rfl kc_X7_130 rfl dX7_walks_218 (by omega) rfl rfl (sp_X7_stops (by decide)) (fun _ => ?_)
      exact V.iret (jret_z dX7_walks_221 rfl (by decide)) ⟨rfl, rfl⟩
set_option maxHeartbeats 4000000 in
theorem wk_157 {σ0 : JM} (hw : jwf σ0) {n : Nat} (ih : jwLoop σ0 n) {σ : JM} {x to sc p ps q qs d : Int} (k : jkp σ0 σ) (i : jwi σ) (c : jwc σ0 x to p q d) (w : jW σ0 x to) (hn : to * 81 + (to - x) < (n + 1 : Nat)) {dd : Nat} (hd : to + 4 ≤ dd) {l : Launch} {E : JE} {fr : Int} (h : x < to) (h1 : σ 34 x ≠ 11) : V l E mX7_walks dd 0 (jrv (jwk (n + 1) σ x to sc p ps q qs d).1 (jwk (n + 1) σ x to sc p ps q qs d).2) jno 157 [(2, 7), (0, fr), (0, to), (0, sc), (0, p), (0, ps), (0, q), (0, qs), (0, d), (0, x), (0, σ 34 x), (0, jwa σ x p q), (0, jrga (σ 35 x) ps qs sc), (0, jwb σ x p q), (9, 0), (9, 0), (9, 0), (9, 0)] [] σ := by
  have ln := hw.ln
  have nx : ∀ u, u = jrga (σ 36 x) ps qs sc → V l E mX7_walks dd 0 (jrv (jwk (n + 1) σ x to sc p ps q qs d).1 (jwk (n + 1) σ x to sc p ps q qs d).2) jno 193 [(2, 7), (0, fr), (0, to), (0, sc), (0, p), (0, ps), (0, q), (0, qs), (0, d), (0, x), (0, σ 34 x), (0, jwa σ x p q), (0, jrga (σ 35 x) ps qs sc), (0, jwb σ x p q), (0, u), (9, 0), (9, 0), (9, 0)] [] σ := fun u e => by rw [e]; exact wk_193 hw ih k i c w hn hd h h1
  refine V.aload_n dX7_walks_157 rfl ?_
  refine V.getR fa_X7_20 rfl dX7_walks_158 ?_
  refine V.iload dX7_walks_161 rfl ?_
  refine V.iald (cell := 36) 0 rfl rfl rfl rfl dX7_walks_163 (by omega) (by omega) (fun _ => ?_)
  refine V.iconst dX7_walks_164 ⟨by decide, by decide⟩ ?_
  refine V.icmp_ne (tgt := 173) dX7_walks_165 (by decide) (fun h165 => ?_) (fun h165 => ?_)
  · refine V.aload_n dX7_walks_173 rfl ?_
    refine V.getR fa_X7_20 rfl dX7_walks_174 ?_
    refine V.iload dX7_walks_177 rfl ?_
    refine V.iald (cell := 36) 0 rfl rfl rfl rfl dX7_walks_179 (by omega) (by omega) (fun _ => ?_)
    refine V.bipush dX7_walks_180 ⟨by decide, by decide⟩ ?_
    refine V.icmp_ne (tgt := 190) dX7_walks_182 (by decide) (fun h182 => ?_) (fun h182 => ?_)
    · refine V.iload_n dX7_walks_190 rfl ?_
      refine V.istore (L' := [_, _, _, _, _, _, _, _, _, _, _, _, _, _, _, _, _, _]) dX7_walks_191 rfl rfl ?_
      exact nx _ (by unfold jrga; (repeat' split) <;> omega)
    · refine V.iload dX7_walks_185 rfl ?_
      refine V.goto (tgt := 191) dX7_walks_187 (by decide) ?_
      refine V.istore (L' := [_, _, _, _, _, _, _, _, _, _, _, _, _, _, _, _, _, _]) dX7_walks_191 rfl rfl ?_
      exact nx _ (by unfold jrga; (repeat' split) <;> omega)
  · refine V.iload dX7_walks_168 rfl ?_
    refine V.goto (tgt := 191) dX7_walks_170 (by decide) ?_
    refine V.istore (L' := [_, _, _, _, _, _, _, _, _, _, _, _, _, _, _, _, _, _]) dX7_walks_191 rfl rfl ?_
    exact nx _ (by unfold jrga; (repeat' split) <;> omega)
set_option maxHeartbeats 4000000 in
theorem wk_115 {σ0 : JM} (hw : jwf σ0) {n : Nat} (ih : jwLoop σ0 n) {σ : JM} {x to sc p ps q qs d : Int} (k : jkp σ0 σ) (i : jwi σ) (c : jwc σ0 x to p q d) (w : jW σ0 x to) (hn : to * 81 + (to - x) < (n + 1 : Nat)) {dd : Nat} (hd : to + 4 ≤ dd) {l : Launch} {E : JE} {fr : Int} (h : x < to) (h1 : σ 34 x ≠ 11) : V l E mX7_walks dd 0 (jrv (jwk (n + 1) σ x to sc p ps q qs d).1 (jwk (n + 1) σ x to sc p ps q qs d).2) jno 115 [(2, 7), (0, fr), (0, to), (0, sc), (0, p), (0, ps), (0, q), (0, qs), (0, d), (0, x), (0, σ 34 x), (0, jwa σ x p q), (0, jrga (σ 35 x) ps qs sc), (9, 0), (9, 0), (9, 0), (9, 0), (9, 0)] [] σ := by
  have ln := hw.ln
  have nx : ∀ u, u = jwb σ x p q → V l E mX7_walks dd 0 (jrv (jwk (n + 1) σ x to sc p ps q qs d).1 (jwk (n + 1) σ x to sc p ps q qs d).2) jno 157 [(2, 7), (0, fr), (0, to), (0, sc), (0, p), (0, ps), (0, q), (0, qs), (0, d), (0, x), (0, σ 34 x), (0, jwa σ x p q), (0, jrga (σ 35 x) ps qs sc), (0, u), (9, 0), (9, 0), (9, 0), (9, 0)] [] σ := fun u e => by rw [e]; exact wk_157 hw ih k i c w hn hd h h1
  refine V.aload_n dX7_walks_115 rfl ?_
  refine V.getR fa_X7_20 rfl dX7_walks_116 ?_
  refine V.iload dX7_walks_119 rfl ?_
  refine V.iald (cell := 36) 0 rfl rfl rfl rfl dX7_walks_121 (by omega) (by omega) (fun _ => ?_)
  refine V.iconst dX7_walks_122 ⟨by decide, by decide⟩ ?_
  refine V.icmp_ne (tgt := 131) dX7_walks_123 (by decide) (fun h123 => ?_) (fun h123 => ?_)
  · refine V.aload_n dX7_walks_131 rfl ?_
    refine V.getR fa_X7_20 rfl dX7_walks_132 ?_
    refine V.iload dX7_walks_135 rfl ?_
    refine V.iald (cell := 36) 0 rfl rfl rfl rfl dX7_walks_137 (by omega) (by omega) (fun _ => ?_)
    refine V.bipush dX7_walks_138 ⟨by decide, by decide⟩ ?_
    refine V.icmp_ne (tgt := 148) dX7_walks_140 (by decide) (fun h140 => ?_) (fun h140 => ?_)
    · refine V.aload_n dX7_walks_148 rfl ?_
      refine V.getR fa_X7_20 rfl dX7_walks_149 ?_
      refine V.iload dX7_walks_152 rfl ?_
      refine V.iald (cell := 36) 0 rfl rfl rfl rfl dX7_walks_154 (by omega) (by omega) (fun _ => ?_)
      refine V.istore (L' := [_, _, _, _, _, _, _, _, _, _, _, _, _, _, _, _, _, _]) dX7_walks_155 rfl rfl ?_
      exact nx _ (by unfold jwb jrga; (repeat' split) <;> omega)
    · refine V.iload dX7_walks_143 rfl ?_
      refine V.goto (tgt := 155) dX7_walks_145 (by decide) ?_
      refine V.istore (L' := [_, _, _, _, _, _, _, _, _, _, _, _, _, _, _, _, _, _]) dX7_walks_155 rfl rfl ?_
      exact nx _ (by unfold jwb jrga; (repeat' split) <;> omega)
  · refine V.iload dX7_walks_126 rfl ?_
    refine V.goto (tgt := 155) dX7_walks_128 (by decide) ?_
    refine V.istore (L' := [_, _, _, _, _, _, _, _, _, _, _, _, _, _, _, _, _, _]) dX7_walks_155 rfl rfl ?_
    exact nx _ (by unfold jwb jrga; (repeat' split) <;> omega)
set_option maxHeartbeats 4000000 in
theorem wk_79 {σ0 : JM} (hw : jwf σ0) {n : Nat} (ih : jwLoop σ0 n) {σ : JM} {x to sc p ps q qs d : Int} (k : jkp σ0 σ) (i : jwi σ) (c : jwc σ0 x to p q d) (w : jW σ0 x to) (hn : to * 81 + (to - x) < (n + 1 : Nat)) {dd : Nat} (hd : to + 4 ≤ dd) {l : Launch} {E : JE} {fr : Int} (h : x < to) (h1 : σ 34 x ≠ 11) : V l E mX7_walks dd 0 (jrv (jwk (n + 1) σ x to sc p ps q qs d).1 (jwk (n + 1) σ x to sc p ps q qs d).2) jno 79 [(2, 7), (0, fr), (0, to), (0, sc), (0, p), (0, ps), (0, q), (0, qs), (0, d), (0, x), (0, σ 34 x), (0, jwa σ x p q), (9, 0), (9, 0), (9, 0), (9, 0), (9, 0), (9, 0)] [] σ := by
  have ln := hw.ln
  have nx : ∀ u, u = jrga (σ 35 x) ps qs sc → V l E mX7_walks dd 0 (jrv (jwk (n + 1) σ x to sc p ps q qs d).1 (jwk (n + 1) σ x to sc p ps q qs d).2) jno 115 [(2, 7), (0, fr), (0, to), (0, sc), (0, p), (0, ps), (0, q), (0, qs), (0, d), (0, x), (0, σ 34 x), (0, jwa σ x p q), (0, u), (9, 0), (9, 0), (9, 0), (9, 0), (9, 0)] [] σ := fun u e => by rw [e]; exact wk_115 hw ih k i c w hn hd h h1
  refine V.aload_n dX7_walks_79 rfl ?_
  refine V.getR fa_X7_17 rfl dX7_walks_80 ?_
  refine V.iload dX7_walks_83 rfl ?_
  refine V.iald (cell := 35) 0 rfl rfl rfl rfl dX7_walks_85 (by omega) (by omega) (fun _ => ?_)
  refine V.iconst dX7_walks_86 ⟨by decide, by decide⟩ ?_
  refine V.icmp_ne (tgt := 95) dX7_walks_87 (by decide) (fun h87 => ?_) (fun h87 => ?_)
  · refine V.aload_n dX7_walks_95 rfl ?_
    refine V.getR fa_X7_17 rfl dX7_walks_96 ?_
    refine V.iload dX7_walks_99 rfl ?_
    refine V.iald (cell := 35) 0 rfl rfl rfl rfl dX7_walks_101 (by omega) (by omega) (fun _ => ?_)
    refine V.bipush dX7_walks_102 ⟨by decide, by decide⟩ ?_
    refine V.icmp_ne (tgt := 112) dX7_walks_104 (by decide) (fun h104 => ?_) (fun h104 => ?_)
    · refine V.iload_n dX7_walks_112 rfl ?_
      refine V.istore (L' := [_, _, _, _, _, _, _, _, _, _, _, _, _, _, _, _, _, _]) dX7_walks_113 rfl rfl ?_
      exact nx _ (by unfold jrga; (repeat' split) <;> omega)
    · refine V.iload dX7_walks_107 rfl ?_
      refine V.goto (tgt := 113) dX7_walks_109 (by decide) ?_
      refine V.istore (L' := [_, _, _, _, _, _, _, _, _, _, _, _, _, _, _, _, _, _]) dX7_walks_113 rfl rfl ?_
      exact nx _ (by unfold jrga; (repeat' split) <;> omega)
  · refine V.iload dX7_walks_90 rfl ?_
    refine V.goto (tgt := 113) dX7_walks_92 (by decide) ?_
    refine V.istore (L' := [_, _, _, _, _, _, _, _, _, _, _, _, _, _, _, _, _, _]) dX7_walks_113 rfl rfl ?_
    exact nx _ (by unfold jrga; (repeat' split) <;> omega)
set_option maxHeartbeats 4000000 in
theorem wk_37 {σ0 : JM} (hw : jwf σ0) {n : Nat} (ih : jwLoop σ0 n) {σ : JM} {x to sc p ps q qs d : Int} (k : jkp σ0 σ) (i : jwi σ) (c : jwc σ0 x to p q d) (w : jW σ0 x to) (hn : to * 81 + (to - x) < (n + 1 : Nat)) {dd : Nat} (hd : to + 4 ≤ dd) {l : Launch} {E : JE} {fr : Int} (h : x < to) (h1 : σ 34 x ≠ 11) : V l E mX7_walks dd 0 (jrv (jwk (n + 1) σ x to sc p ps q qs d).1 (jwk (n + 1) σ x to sc p ps q qs d).2) jno 37 [(2, 7), (0, fr), (0, to), (0, sc), (0, p), (0, ps), (0, q), (0, qs), (0, d), (0, x), (0, σ 34 x), (9, 0), (9, 0), (9, 0), (9, 0), (9, 0), (9, 0), (9, 0)] [] σ := by
  have ln := hw.ln
  have nx : ∀ u, u = jwa σ x p q → V l E mX7_walks dd 0 (jrv (jwk (n + 1) σ x to sc p ps q qs d).1 (jwk (n + 1) σ x to sc p ps q qs d).2) jno 79 [(2, 7), (0, fr), (0, to), (0, sc), (0, p), (0, ps), (0, q), (0, qs), (0, d), (0, x), (0, σ 34 x), (0, u), (9, 0), (9, 0), (9, 0), (9, 0), (9, 0), (9, 0)] [] σ := fun u e => by rw [e]; exact wk_79 hw ih k i c w hn hd h h1
  refine V.aload_n dX7_walks_37 rfl ?_
  refine V.getR fa_X7_17 rfl dX7_walks_38 ?_
  refine V.iload dX7_walks_41 rfl ?_
  refine V.iald (cell := 35) 0 rfl rfl rfl rfl dX7_walks_43 (by omega) (by omega) (fun _ => ?_)
  refine V.iconst dX7_walks_44 ⟨by decide, by decide⟩ ?_
  refine V.icmp_ne (tgt := 53) dX7_walks_45 (by decide) (fun h45 => ?_) (fun h45 => ?_)
  · refine V.aload_n dX7_walks_53 rfl ?_
    refine V.getR fa_X7_17 rfl dX7_walks_54 ?_
    refine V.iload dX7_walks_57 rfl ?_
    refine V.iald (cell := 35) 0 rfl rfl rfl rfl dX7_walks_59 (by omega) (by omega) (fun _ => ?_)
    refine V.bipush dX7_walks_60 ⟨by decide, by decide⟩ ?_
    refine V.icmp_ne (tgt := 70) dX7_walks_62 (by decide) (fun h62 => ?_) (fun h62 => ?_)
    · refine V.aload_n dX7_walks_70 rfl ?_
      refine V.getR fa_X7_17 rfl dX7_walks_71 ?_
      refine V.iload dX7_walks_74 rfl ?_
      refine V.iald (cell := 35) 0 rfl rfl rfl rfl dX7_walks_76 (by omega) (by omega) (fun _ => ?_)
      refine V.istore (L' := [_, _, _, _, _, _, _, _, _, _, _, _, _, _, _, _, _, _]) dX7_walks_77 rfl rfl ?_
      exact nx _ (by unfold jwa jrga; (repeat' split) <;> omega)
    · refine V.iload dX7_walks_65 rfl ?_
      refine V.goto (tgt := 77) dX7_walks_67 (by decide) ?_
      refine V.istore (L' := [_, _, _, _, _, _, _, _, _, _, _, _, _, _, _, _, _, _]) dX7_walks_77 rfl rfl ?_
      exact nx _ (by unfold jwa jrga; (repeat' split) <;> omega)
  · refine V.iload dX7_walks_48 rfl ?_
    refine V.goto (tgt := 77) dX7_walks_50 (by decide) ?_
    refine V.istore (L' := [_, _, _, _, _, _, _, _, _, _, _, _, _, _, _, _, _, _]) dX7_walks_77 rfl rfl ?_
    exact nx _ (by unfold jwa jrga; (repeat' split) <;> omega)
set_option maxHeartbeats 4000000 in
theorem jwLoop.succ {σ0 : JM} (hw : jwf σ0) {n : Nat} (ih : jwLoop σ0 n) : jwLoop σ0 (n + 1) := by
  intro σ x to sc p ps q qs d k i c w hn dd hd l E fr
  by_cases h : to ≤ x
  · refine V.iload dX7_walks_3 rfl ?_
    refine V.iload_n dX7_walks_5 rfl ?_
    refine V.icmp_ge (tgt := 499) dX7_walks_6 (by decide) (fun h6 => ?_) (fun h6 => ?_)
    · refine V.iconst dX7_walks_499 ⟨by decide, by decide⟩ ?_
      exact V.iret (jret_z dX7_walks_500 rfl (by decide)) ⟨by rw [jwk_0 h], by rw [jwk_0 h]⟩
    · exfalso; omega
  have h : x < to := by omega
  have ln := hw.ln
  have k34 : σ 34 x = σ0 34 x := k 34 x (by omega) (by omega) (by omega)
  have k35 : σ 35 x = σ0 35 x := k 35 x (by omega) (by omega) (by omega)
  have k36 : σ 36 x = σ0 36 x := k 36 x (by omega) (by omega) (by omega)
  have k37 : σ 37 x = σ0 37 x := k 37 x (by omega) (by omega) (by omega)
  have k38 : σ 38 x = σ0 38 x := k 38 x (by omega) (by omega) (by omega)
  have o1 := hw.one x c.1 (by omega)
  have o2 := hw.two x c.1 (by omega)
  have so := hw.so x c.1 (by omega)
  have ncl := w.ncl h
  have ab := jrga_b ⟨o1.1, o1.2.1⟩ c.2.2.2.1 c.2.2.2.2.1
  have bb := jrga_b o2 c.2.2.2.1 c.2.2.2.2.1
  rw [← k35] at ab
  rw [← k36] at bb
  obtain ⟨i5, i6, i7⟩ := i
  refine V.iload dX7_walks_3 rfl ?_
  refine V.iload_n dX7_walks_5 rfl ?_
  refine V.icmp_ge (tgt := 499) dX7_walks_6 (by decide) (fun h6 => ?_) (fun h6 => ?_)
  · exfalso; omega
  · refine V.aload_n dX7_walks_9 rfl ?_
    refine V.getR fa_X7_13 rfl dX7_walks_10 ?_
    refine V.iload dX7_walks_13 rfl ?_
    refine V.iald (cell := 34) 0 rfl rfl rfl rfl dX7_walks_15 (by omega) (by omega) (fun _ => ?_)
    refine V.istore (L' := [_, _, _, _, _, _, _, _, _, _, _, _, _, _, _, _, _, _]) dX7_walks_16 rfl rfl ?_
    refine V.iload dX7_walks_18 rfl ?_
    refine V.bipush dX7_walks_20 ⟨by decide, by decide⟩ ?_
    refine V.icmp_ne (tgt := 37) dX7_walks_22 (by decide) (fun h22 => ?_) (fun h22 => ?_)
    · exact wk_37 hw ih k ⟨i5, i6, i7⟩ c w hn hd h h22
    · refine V.aload_n dX7_walks_25 rfl ?_
      refine V.getR fa_X7_26 rfl dX7_walks_26 ?_
      refine V.iload dX7_walks_29 rfl ?_
      refine V.iald (cell := 38) 0 rfl rfl rfl rfl dX7_walks_31 (by omega) (by omega) (fun _ => ?_)
      refine V.istore (L' := [_, _, _, _, _, _, _, _, _, _, _, _, _, _, _, _, _, _]) dX7_walks_32 rfl rfl ?_
      refine V.goto (tgt := 493) dX7_walks_34 (by decide) ?_
      refine V.iinc (L' := [_, _, _, _, _, _, _, _, _, _, _, _, _, _, _, _, _, _]) dX7_walks_493 rfl ⟨(by have := hw.op x c.1 (by omega) (by omega); omega), (by have := hw.op x c.1 (by omega) (by omega); omega)⟩ rfl ?_
      refine V.goto (tgt := 3) dX7_walks_496 (by decide) ?_
      refine V.fg [10, 11, 12, 13, 14, 15, 16, 17] rfl ?_
      have g := jW.inn hw c.1 c.2.2.1 w (Int.le_refl _) h (by omega)
      rw [jwk_m h h22]
      exact ih _ _ _ _ _ _ _ _ _ k ⟨i5, i6, i7⟩ (by omega) (by rw [k38]; exact jW.nxt hw c.1 c.2.2.1 w h (by omega)) (by omega) dd hd l E fr
theorem jwLoop.all {σ0 : JM} (hw : jwf σ0) : ∀ n : Nat, jwLoop σ0 n := by
  intro n
  induction n with
  | zero =>
    intro σ x to sc p ps q qs d k i c w hn
    omega
  | succ n ih => exact jwLoop.succ hw ih
/-- THE CONTRACT of the reference's walk -/
theorem sp_X7_walks {σ0 σ : JM} (hw : jwf σ0) {n : Nat} {x to sc p ps q qs d : Int} (k : jkp σ0 σ) (i : jwi σ) (c : jwc σ0 x to p q d) (w : jW σ0 x to) (hn : to * 81 + (to - x) < n) {dd : Nat} (hd : to + 4 ≤ dd) : JSp mX7_walks dd 0 [(2, 7), (0, x), (0, to), (0, sc), (0, p), (0, ps), (0, q), (0, qs), (0, d)] σ (jrv (jwk n σ x to sc p ps q qs d).1 (jwk n σ x to sc p ps q qs d).2) jno := (jwLoop.all hw n).sp k i c w hn hd
