/-! ===== the law's body ===== -/
abbrev mL_law : JI := (yL_law, cL_law, 17, some .boolean, [], true)
abbrev jQt : Option JV → JM → Prop := fun v _ => v = some (0, 1)
theorem jINV.had {g : Int} {σ : JM} (h : jINV g σ) {x : Int} (hx : 0 ≤ x) (v : Int) : jINV g (jset σ 7 (x + 100) v) := h.keep (fun a b z => jset_ne _ (fun q => z (by omega)))
theorem jSm.had {σ ρ : JM} (h : jSm σ ρ) (x v : Int) : jSm σ (jset ρ 7 (x + 100) v) := h.tr ⟨rfl, rfl, rfl, rfl, fun _ => rfl⟩
theorem jI.op {g : Int} {σ : JM} (h : jINV g σ) : (junf σ = -1 ↔ σ 1 9 = 0 ∧ σ 1 10 = 0) ∧ (0 ≤ σ 1 7 ∧ σ 1 7 ≤ 80) ∧ (0 ≤ σ 1 8 ∧ σ 1 8 ≤ 8) ∧ (0 ≤ σ 1 9 ∧ σ 1 9 ≤ 80) ∧ (σ 1 10 = 0 ∨ σ 1 10 = 1) := by
  have a1 := h.1.a1
  have a2 := h.1.a2
  have u := h.1.unf.1
  exact ⟨u.trans ⟨fun z => ⟨by omega, z.2⟩, fun z => ⟨by omega, z.2⟩⟩, by omega, by omega, by omega, by omega⟩
theorem or_0 {x : Int} (h : x = 0 ∨ x = 1) : (if x = 1 ∨ (0 : Int) = 1 then (1 : Int) else 0) = x := by rcases h with rfl | rfl <;> decide
theorem and_1 {x : Int} (h : x = 0 ∨ x = 1) : (if x = 1 ∧ (1 : Int) = 1 then (1 : Int) else 0) = x := by rcases h with rfl | rfl <;> decide
/-- what a call gave: its answer, the memory behind it -/
def jTold (σ τ : JM) (kd r : Int) : Prop := jINV 1 τ ∧ jSm σ τ ∧ ((r < 0 ∧ τ 1 7 = σ 1 7 ∧ τ 1 8 = σ 1 8) ∨ (0 ≤ r ∧ τ 1 7 = σ 1 7 + 1 ∧ (kd = 19 ∨ kd = 20 ∨ r = σ 1 7)))
section LAW
variable {l : Launch} {E : JE} {nn : Nat} {q nm k dp isn n kd m a : Int} {l9 l10 l11 l12 l13 l14 l15 l16 : JV} {σ : JM}
/-- behind a call: the checks -/
def jK6 (l : Launch) (E : JE) (N : Nat) (q nm k n kd m a : Int) (l16 : JV) (σ : JM) : Prop := ∀ (nn : Nat) (r : Int) (τ : JM), N ≤ nn → jTold σ τ kd r → V l E mL_law 60 nn jQt jno 636 [(7, q), (2, 0), (0, nm), (0, k), (0, τ 1 9), (0, τ 1 10), (0, 1), (2, 7), (0, n), (0, σ 1 7), (0, σ 1 8), (0, jsmv σ), (0, kd), (0, m), (0, a), (0, r), l16] [] τ
theorem lb_jump (hI : jINV 1 σ) (hm : 0 ≤ m ∧ m < 1000) (ha : -1 ≤ a ∧ a ≤ 20) {N : Nat} (hn : N + 1 ≤ nn) (kk : jK6 l E N q nm k n kd m a l16 σ) : V l E mL_law 60 nn jQt jno 211 [(7, q), (2, 0), (0, nm), (0, k), (0, σ 1 9), (0, σ 1 10), (0, 1), (2, 7), (0, n), (0, σ 1 7), (0, σ 1 8), (0, jsmv σ), (0, kd), (0, m), (0, a), (0, 0), l16] [] σ := by
  have op := jI.op hI
  have m9 : 0 ≤ m % 90 ∧ m % 90 < 90 := by omega
  refine V.aload_n dL_law_211 rfl ?_
  refine V.iload dL_law_212 rfl ?_
  obtain ⟨dL, nL, hd, hn1, QL, hL, hq⟩ := of_jump (p := a) hI
  refine V.callH [_, _] rfl kc_L_153 dL_law_214 (d' := dL) hd (by omega) rfl (fun _ _ => hL) rfl (fun v t z0 hv => ?_) (fun X t hx => hx.elim)
  obtain ⟨r, rfl, z⟩ := hq v t z0
  rcases z with ⟨r1, ht, rf⟩ | ⟨r1, r2, ac, ρ, gh, Iρ, sm, e7, e8, e9, e10⟩
  · rw [ht]
    refine V.istore (L' := [_, _, _, _, _, _, _, _, _, _, _, _, _, _, _, _, _]) dL_law_217 rfl rfl ?_
    refine V.goto (tgt := 636) dL_law_219 (by decide) ?_
    exact kk _ r σ (by omega) ⟨hI, jSm.rf σ, Or.inl ⟨r1, rfl, rfl⟩⟩
  · refine V.gh gh ?_
    refine V.istore (L' := [_, _, _, _, _, _, _, _, _, _, _, _, _, _, _, _, _]) dL_law_217 rfl rfl ?_
    refine V.goto (tgt := 636) dL_law_219 (by decide) ?_
    have key := kk (nn - nL) r ρ (by omega) ⟨Iρ, sm, Or.inr ⟨r2, e7, Or.inr (Or.inr r1)⟩⟩
    rw [e9, e10] at key
    exact key
theorem lb_address (hI : jINV 1 σ) (hm : 0 ≤ m ∧ m < 1000) (ha : -1 ≤ a ∧ a ≤ 20) {N : Nat} (hn : N + 1 ≤ nn) (kk : jK6 l E N q nm k n kd m a l16 σ) : V l E mL_law 60 nn jQt jno 229 [(7, q), (2, 0), (0, nm), (0, k), (0, σ 1 9), (0, σ 1 10), (0, 1), (2, 7), (0, n), (0, σ 1 7), (0, σ 1 8), (0, jsmv σ), (0, kd), (0, m), (0, a), (0, 0), l16] [] σ := by
  have op := jI.op hI
  have m9 : 0 ≤ m % 90 ∧ m % 90 < 90 := by omega
  refine V.aload_n dL_law_229 rfl ?_
  refine V.iload dL_law_230 rfl ?_
  obtain ⟨dL, nL, hd, hn1, QL, hL, hq⟩ := of_address (p := a) hI
  refine V.callH [_, _] rfl kc_L_155 dL_law_232 (d' := dL) hd (by omega) rfl (fun _ _ => hL) rfl (fun v t z0 hv => ?_) (fun X t hx => hx.elim)
  obtain ⟨r, rfl, z⟩ := hq v t z0
  rcases z with ⟨r1, ht, rf⟩ | ⟨r1, r2, ac, ρ, gh, Iρ, sm, e7, e8, e9, e10⟩
  · rw [ht]
    refine V.istore (L' := [_, _, _, _, _, _, _, _, _, _, _, _, _, _, _, _, _]) dL_law_235 rfl rfl ?_
    refine V.goto (tgt := 636) dL_law_237 (by decide) ?_
    exact kk _ r σ (by omega) ⟨hI, jSm.rf σ, Or.inl ⟨r1, rfl, rfl⟩⟩
  · refine V.gh gh ?_
    refine V.istore (L' := [_, _, _, _, _, _, _, _, _, _, _, _, _, _, _, _, _]) dL_law_235 rfl rfl ?_
    refine V.goto (tgt := 636) dL_law_237 (by decide) ?_
    have key := kk (nn - nL) r ρ (by omega) ⟨Iρ, sm, Or.inr ⟨r2, e7, Or.inr (Or.inr r1)⟩⟩
    rw [e9, e10] at key
    exact key
theorem lb_align (hI : jINV 1 σ) (hm : 0 ≤ m ∧ m < 1000) (ha : -1 ≤ a ∧ a ≤ 20) {N : Nat} (hn : N + 1 ≤ nn) (kk : jK6 l E N q nm k n kd m a l16 σ) : V l E mL_law 60 nn jQt jno 293 [(7, q), (2, 0), (0, nm), (0, k), (0, σ 1 9), (0, σ 1 10), (0, 1), (2, 7), (0, n), (0, σ 1 7), (0, σ 1 8), (0, jsmv σ), (0, kd), (0, m), (0, a), (0, 0), l16] [] σ := by
  have op := jI.op hI
  have m9 : 0 ≤ m % 90 ∧ m % 90 < 90 := by omega
  refine V.aload_n dL_law_293 rfl ?_
  refine V.iload dL_law_294 rfl ?_
  refine V.bipush dL_law_296 ⟨by decide, by decide⟩ ?_
  refine V.irem dL_law_298 (by omega) (by decide) ?_
  obtain ⟨dL, nL, hd, hn1, QL, hL, hq⟩ := of_align (p := m % 10) hI
  refine V.callH [_, _] rfl kc_L_160 dL_law_299 (d' := dL) hd (by omega) rfl (fun _ _ => hL) rfl (fun v t z0 hv => ?_) (fun X t hx => hx.elim)
  obtain ⟨r, rfl, z⟩ := hq v t z0
  rcases z with ⟨r1, ht, rf⟩ | ⟨r1, r2, ac, ρ, gh, Iρ, sm, e7, e8, e9, e10⟩
  · rw [ht]
    refine V.istore (L' := [_, _, _, _, _, _, _, _, _, _, _, _, _, _, _, _, _]) dL_law_302 rfl rfl ?_
    refine V.goto (tgt := 636) dL_law_304 (by decide) ?_
    exact kk _ r σ (by omega) ⟨hI, jSm.rf σ, Or.inl ⟨r1, rfl, rfl⟩⟩
  · refine V.gh gh ?_
    refine V.istore (L' := [_, _, _, _, _, _, _, _, _, _, _, _, _, _, _, _, _]) dL_law_302 rfl rfl ?_
    refine V.goto (tgt := 636) dL_law_304 (by decide) ?_
    have key := kk (nn - nL) r ρ (by omega) ⟨Iρ, sm, Or.inr ⟨r2, e7, Or.inr (Or.inr r1)⟩⟩
    rw [e9, e10] at key
    exact key
theorem lb_word (hI : jINV 1 σ) (hm : 0 ≤ m ∧ m < 1000) (ha : -1 ≤ a ∧ a ≤ 20) {N : Nat} (hn : N + 1 ≤ nn) (kk : jK6 l E N q nm k n kd m a l16 σ) : V l E mL_law 60 nn jQt jno 623 [(7, q), (2, 0), (0, nm), (0, k), (0, σ 1 9), (0, σ 1 10), (0, 1), (2, 7), (0, n), (0, σ 1 7), (0, σ 1 8), (0, jsmv σ), (0, kd), (0, m), (0, a), (0, 0), l16] [] σ := by
  have op := jI.op hI
  have m9 : 0 ≤ m % 90 ∧ m % 90 < 90 := by omega
  refine V.aload_n dL_law_623 rfl ?_
  refine V.iload dL_law_624 rfl ?_
  refine V.iload dL_law_626 rfl ?_
  refine V.iconst dL_law_628 ⟨by decide, by decide⟩ ?_
  refine V.irem dL_law_629 (by omega) (by decide) ?_
  refine V.iadd dL_law_630 ⟨by omega, by omega⟩ ?_
  obtain ⟨dL, nL, hd, hn1, QL, hL, hq⟩ := of_word (p := m + m % 2) hI
  refine V.callH [_, _] rfl kc_L_177 dL_law_631 (d' := dL) hd (by omega) rfl (fun _ _ => hL) rfl (fun v t z0 hv => ?_) (fun X t hx => hx.elim)
  obtain ⟨r, rfl, z⟩ := hq v t z0
  rcases z with ⟨r1, ht, rf⟩ | ⟨r1, r2, ac, ρ, gh, Iρ, sm, e7, e8, e9, e10⟩
  · rw [ht]
    refine V.istore (L' := [_, _, _, _, _, _, _, _, _, _, _, _, _, _, _, _, _]) dL_law_634 rfl rfl ?_
    exact kk _ r σ (by omega) ⟨hI, jSm.rf σ, Or.inl ⟨r1, rfl, rfl⟩⟩
  · refine V.gh gh ?_
    refine V.istore (L' := [_, _, _, _, _, _, _, _, _, _, _, _, _, _, _, _, _]) dL_law_634 rfl rfl ?_
    have key := kk (nn - nL) r ρ (by omega) ⟨Iρ, sm, Or.inr ⟨r2, e7, Or.inr (Or.inr r1)⟩⟩
    rw [e9, e10] at key
    exact key
theorem lb_op2 {x y : Int} (hI : jINV 1 σ) {N : Nat} (hn : N + 1 ≤ nn) (kk : jK6 l E N q nm k n kd m a l16 σ) : V l E mL_law 60 nn jQt jno 278 [(7, q), (2, 0), (0, nm), (0, k), (0, σ 1 9), (0, σ 1 10), (0, 1), (2, 7), (0, n), (0, σ 1 7), (0, σ 1 8), (0, jsmv σ), (0, kd), (0, m), (0, a), (0, 0), l16] [(0, y), (0, x), (2, 0)] σ := by
  have op := jI.op hI
  obtain ⟨dL, nL, hd, hn1, QL, hL, hq⟩ := of_operation (p := x) (q := y) hI
  refine V.callH [_, _, _] rfl kc_L_157 dL_law_278 (d' := dL) hd (by omega) rfl (fun _ _ => hL) rfl (fun v t z0 hv => ?_) (fun X t hx => hx.elim)
  obtain ⟨r, rfl, z⟩ := hq v t z0
  rcases z with ⟨r1, ht, rf⟩ | ⟨r1, r2, ac, ρ, gh, Iρ, sm, e7, e8, e9, e10⟩
  · rw [ht]
    refine V.istore (L' := [_, _, _, _, _, _, _, _, _, _, _, _, _, _, _, _, _]) dL_law_281 rfl rfl ?_
    refine V.goto (tgt := 636) dL_law_283 (by decide) ?_
    exact kk _ r σ (by omega) ⟨hI, jSm.rf σ, Or.inl ⟨r1, rfl, rfl⟩⟩
  · refine V.gh gh ?_
    refine V.istore (L' := [_, _, _, _, _, _, _, _, _, _, _, _, _, _, _, _, _]) dL_law_281 rfl rfl ?_
    refine V.goto (tgt := 636) dL_law_283 (by decide) ?_
    have key := kk (nn - nL) r ρ (by omega) ⟨Iρ, sm, Or.inr ⟨r2, e7, Or.inr (Or.inr r1)⟩⟩
    rw [e9, e10] at key
    exact key
theorem lb_operation (hI : jINV 1 σ) (hm : 0 ≤ m ∧ m < 1000) {N : Nat} (hn : N + 1 ≤ nn) (kk : jK6 l E N q nm k n kd m a l16 σ) : V l E mL_law 60 nn jQt jno 247 [(7, q), (2, 0), (0, nm), (0, k), (0, σ 1 9), (0, σ 1 10), (0, 1), (2, 7), (0, n), (0, σ 1 7), (0, σ 1 8), (0, jsmv σ), (0, kd), (0, m), (0, a), (0, 0), l16] [] σ := by
  refine V.aload_n dL_law_247 rfl ?_
  refine V.bipush dL_law_248 ⟨by decide, by decide⟩ ?_
  refine V.iload dL_law_250 rfl ?_
  refine V.bipush dL_law_252 ⟨by decide, by decide⟩ ?_
  refine V.irem dL_law_254 (by omega) (by decide) ?_
  refine V.iadd dL_law_255 ⟨by omega, by omega⟩ ?_
  refine V.iload dL_law_256 rfl ?_
  refine V.if_eq (tgt := 273) dL_law_258 (by decide) (fun h258 => ?_) (fun h258 => ?_)
  · refine V.iload dL_law_273 rfl ?_
    refine V.bipush dL_law_275 ⟨by decide, by decide⟩ ?_
    refine V.irem dL_law_277 (by omega) (by decide) ?_
    exact lb_op2 hI hn kk
  · refine V.iload dL_law_261 rfl ?_
    refine V.iconst dL_law_263 ⟨by decide, by decide⟩ ?_
    refine V.irem dL_law_264 (by omega) (by decide) ?_
    refine V.if_ne (tgt := 273) dL_law_265 (by decide) (fun h265 => ?_) (fun h265 => ?_)
    · refine V.iload dL_law_273 rfl ?_
      refine V.bipush dL_law_275 ⟨by decide, by decide⟩ ?_
      refine V.irem dL_law_277 (by omega) (by decide) ?_
      exact lb_op2 hI hn kk
    · refine V.bipush dL_law_268 ⟨by decide, by decide⟩ ?_
      refine V.goto (tgt := 278) dL_law_270 (by decide) ?_
      exact lb_op2 hI hn kk
theorem lb_call2 {x : Int} (hI : jINV 1 σ) (hm : 0 ≤ m ∧ m < 1000) {N : Nat} (hn : N + 1 ≤ nn) (kk : jK6 l E N q nm k n kd m a l16 σ) : V l E mL_law 60 nn jQt jno 608 [(7, q), (2, 0), (0, nm), (0, k), (0, σ 1 9), (0, σ 1 10), (0, 1), (2, 7), (0, n), (0, σ 1 7), (0, σ 1 8), (0, jsmv σ), (0, kd), (0, m), (0, a), (0, 0), l16] [(0, x), (2, 0)] σ := by
  have op := jI.op hI
  refine V.iload dL_law_608 rfl ?_
  refine V.iload dL_law_610 rfl ?_
  refine V.bipush dL_law_612 ⟨by decide, by decide⟩ ?_
  refine V.irem dL_law_614 (by omega) (by decide) ?_
  obtain ⟨dL, nL, hd, hn1, QL, hL, hq⟩ := of_call (m := x) (p := a) (q := m % 50) hI
  refine V.callH [_, _, _, _] rfl kc_L_174 dL_law_615 (d' := dL) hd (by omega) rfl (fun _ _ => hL) rfl (fun v t z0 hv => ?_) (fun X t hx => hx.elim)
  obtain ⟨r, rfl, z⟩ := hq v t z0
  rcases z with ⟨r1, ht, rf⟩ | ⟨r1, r2, ac, ρ, gh, Iρ, sm, e7, e8, e9, e10⟩
  · rw [ht]
    refine V.istore (L' := [_, _, _, _, _, _, _, _, _, _, _, _, _, _, _, _, _]) dL_law_618 rfl rfl ?_
    refine V.goto (tgt := 636) dL_law_620 (by decide) ?_
    exact kk _ r σ (by omega) ⟨hI, jSm.rf σ, Or.inl ⟨r1, rfl, rfl⟩⟩
  · refine V.gh gh ?_
    refine V.istore (L' := [_, _, _, _, _, _, _, _, _, _, _, _, _, _, _, _, _]) dL_law_618 rfl rfl ?_
    refine V.goto (tgt := 636) dL_law_620 (by decide) ?_
    have key := kk (nn - nL) r ρ (by omega) ⟨Iρ, sm, Or.inr ⟨r2, e7, Or.inr (Or.inr r1)⟩⟩
    rw [e9, e10] at key
    exact key
theorem lb_call (hI : jINV 1 σ) (hm : 0 ≤ m ∧ m < 1000) {N : Nat} (hn : N + 1 ≤ nn) (kk : jK6 l E N q nm k n kd m a l16 σ) : V l E mL_law 60 nn jQt jno 593 [(7, q), (2, 0), (0, nm), (0, k), (0, σ 1 9), (0, σ 1 10), (0, 1), (2, 7), (0, n), (0, σ 1 7), (0, σ 1 8), (0, jsmv σ), (0, kd), (0, m), (0, a), (0, 0), l16] [] σ := by
  have op := jI.op hI
  refine V.aload_n dL_law_593 rfl ?_
  refine V.iload dL_law_594 rfl ?_
  refine V.if_ne (tgt := 603) dL_law_596 (by decide) (fun h596 => ?_) (fun h596 => ?_)
  · refine V.iload dL_law_603 rfl ?_
    refine V.iload dL_law_605 rfl ?_
    refine V.irem dL_law_607 (by omega) (by omega) ?_
    exact lb_call2 hI hm hn kk
  · refine V.iconst dL_law_599 ⟨by decide, by decide⟩ ?_
    refine V.goto (tgt := 608) dL_law_600 (by decide) ?_
    exact lb_call2 hI hm hn kk
theorem lb_block (hI : jINV 1 σ) (hm : 0 ≤ m ∧ m < 1000) {N : Nat} (hn : N + 1 ≤ nn) (kk : jK6 l E N q nm k n kd m a l16 σ) : V l E mL_law 60 nn jQt jno 321 [(7, q), (2, 0), (0, nm), (0, k), (0, σ 1 9), (0, σ 1 10), (0, 1), (2, 7), (0, n), (0, σ 1 7), (0, σ 1 8), (0, jsmv σ), (0, kd), (0, m), (0, a), (0, 0), l16] [] σ := by
  have op := jI.op hI
  refine V.aload_n dL_law_321 rfl ?_
  obtain ⟨dL, nL, hd, hn1, QL, hL, hq⟩ := of_block hI
  refine V.callH [_] rfl kc_L_162 dL_law_322 (d' := dL) hd (by omega) rfl (fun _ _ => hL) rfl (fun v t z0 hv => ?_) (fun X t hx => hx.elim)
  obtain ⟨r, rfl, z⟩ := hq v t z0
  rcases z with ⟨r1, ht, rf⟩ | ⟨r1, r2, ac, ρ, gh, Iρ, sm, e7, e8, e9, e10⟩
  · rw [ht]
    refine V.goto (tgt := 340) dL_law_325 (by decide) ?_
    refine V.istore (L' := [_, _, _, _, _, _, _, _, _, _, _, _, _, _, _, _, _]) dL_law_340 rfl rfl ?_
    refine V.iload dL_law_342 rfl ?_
    refine V.iload dL_law_344 rfl ?_
    refine V.if_ge (tgt := 353) dL_law_346 (by decide) (fun hh => ?_) (fun hh => ?_)
    · exfalso; omega
    · refine V.iconst dL_law_349 ⟨by decide, by decide⟩ ?_
      refine V.goto (tgt := 354) dL_law_350 (by decide) ?_
      refine V.iadd dL_law_354 ⟨by omega, by omega⟩ ?_
      rw [Int.add_zero]
      refine V.istore (L' := [_, _, _, _, _, _, _, _, _, _, _, _, _, _, _, _, _]) dL_law_355 rfl rfl ?_
      refine V.goto (tgt := 636) dL_law_357 (by decide) ?_
      exact kk _ r σ (by omega) ⟨hI, jSm.rf σ, Or.inl ⟨r1, rfl, rfl⟩⟩
  · refine V.gh gh ?_
    refine V.goto (tgt := 340) dL_law_325 (by decide) ?_
    refine V.istore (L' := [_, _, _, _, _, _, _, _, _, _, _, _, _, _, _, _, _]) dL_law_340 rfl rfl ?_
    refine V.iload dL_law_342 rfl ?_
    refine V.iload dL_law_344 rfl ?_
    refine V.if_ge (tgt := 353) dL_law_346 (by decide) (fun hh => ?_) (fun hh => ?_)
    · refine V.iconst dL_law_353 ⟨by decide, by decide⟩ ?_
      refine V.iadd dL_law_354 ⟨by omega, by omega⟩ ?_
      refine V.istore (L' := [_, _, _, _, _, _, _, _, _, _, _, _, _, _, _, _, _]) dL_law_355 rfl rfl ?_
      refine V.goto (tgt := 636) dL_law_357 (by decide) ?_
      have key := kk (nn - nL) r ρ (by omega) ⟨Iρ, sm, Or.inr ⟨r2, e7, Or.inr (Or.inr r1)⟩⟩
      rw [e9, e10] at key
      exact key
    · exfalso; omega
theorem lb_when (hI : jINV 1 σ) (hm : 0 ≤ m ∧ m < 1000) {N : Nat} (hn : N + 1 ≤ nn) (kk : jK6 l E N q nm k n kd m a l16 σ) : V l E mL_law 60 nn jQt jno 328 [(7, q), (2, 0), (0, nm), (0, k), (0, σ 1 9), (0, σ 1 10), (0, 1), (2, 7), (0, n), (0, σ 1 7), (0, σ 1 8), (0, jsmv σ), (0, kd), (0, m), (0, a), (0, 0), l16] [] σ := by
  have op := jI.op hI
  refine V.aload_n dL_law_328 rfl ?_
  refine V.iload dL_law_329 rfl ?_
  refine V.iconst dL_law_331 ⟨by decide, by decide⟩ ?_
  refine V.irem dL_law_332 (by omega) (by decide) ?_
  refine V.iload dL_law_333 rfl ?_
  refine V.iconst dL_law_335 ⟨by decide, by decide⟩ ?_
  refine V.irem dL_law_336 (by omega) (by decide) ?_
  obtain ⟨dL, nL, hd, hn1, QL, hL, hq⟩ := of_when (p := m % 2) (q := m % 3) hI
  refine V.callH [_, _, _] rfl kc_L_164 dL_law_337 (d' := dL) hd (by omega) rfl (fun _ _ => hL) rfl (fun v t z0 hv => ?_) (fun X t hx => hx.elim)
  obtain ⟨r, rfl, z⟩ := hq v t z0
  rcases z with ⟨r1, ht, rf⟩ | ⟨r1, r2, ac, ρ, gh, Iρ, sm, e7, e8, e9, e10⟩
  · rw [ht]
    refine V.istore (L' := [_, _, _, _, _, _, _, _, _, _, _, _, _, _, _, _, _]) dL_law_340 rfl rfl ?_
    refine V.iload dL_law_342 rfl ?_
    refine V.iload dL_law_344 rfl ?_
    refine V.if_ge (tgt := 353) dL_law_346 (by decide) (fun hh => ?_) (fun hh => ?_)
    · exfalso; omega
    · refine V.iconst dL_law_349 ⟨by decide, by decide⟩ ?_
      refine V.goto (tgt := 354) dL_law_350 (by decide) ?_
      refine V.iadd dL_law_354 ⟨by omega, by omega⟩ ?_
      rw [Int.add_zero]
      refine V.istore (L' := [_, _, _, _, _, _, _, _, _, _, _, _, _, _, _, _, _]) dL_law_355 rfl rfl ?_
      refine V.goto (tgt := 636) dL_law_357 (by decide) ?_
      exact kk _ r σ (by omega) ⟨hI, jSm.rf σ, Or.inl ⟨r1, rfl, rfl⟩⟩
  · refine V.gh gh ?_
    refine V.istore (L' := [_, _, _, _, _, _, _, _, _, _, _, _, _, _, _, _, _]) dL_law_340 rfl rfl ?_
    refine V.iload dL_law_342 rfl ?_
    refine V.iload dL_law_344 rfl ?_
    refine V.if_ge (tgt := 353) dL_law_346 (by decide) (fun hh => ?_) (fun hh => ?_)
    · refine V.iconst dL_law_353 ⟨by decide, by decide⟩ ?_
      refine V.iadd dL_law_354 ⟨by omega, by omega⟩ ?_
      refine V.istore (L' := [_, _, _, _, _, _, _, _, _, _, _, _, _, _, _, _, _]) dL_law_355 rfl rfl ?_
      refine V.goto (tgt := 636) dL_law_357 (by decide) ?_
      have key := kk (nn - nL) r ρ (by omega) ⟨Iρ, sm, Or.inr ⟨r2, e7, Or.inr (Or.inr r1)⟩⟩
      rw [e9, e10] at key
      exact key
    · exfalso; omega
theorem lb_loop (hI : jINV 1 σ) (hm : 0 ≤ m ∧ m < 1000) {N : Nat} (hn : N + 1 ≤ nn) (kk : jK6 l E N q nm k n kd m a l16 σ) : V l E mL_law 60 nn jQt jno 367 [(7, q), (2, 0), (0, nm), (0, k), (0, σ 1 9), (0, σ 1 10), (0, 1), (2, 7), (0, n), (0, σ 1 7), (0, σ 1 8), (0, jsmv σ), (0, kd), (0, m), (0, a), (0, 0), l16] [] σ := by
  have op := jI.op hI
  refine V.aload_n dL_law_367 rfl ?_
  refine V.iload dL_law_368 rfl ?_
  refine V.bipush dL_law_370 ⟨by decide, by decide⟩ ?_
  refine V.irem dL_law_372 (by omega) (by decide) ?_
  obtain ⟨dL, nL, hd, hn1, QL, hL, hq⟩ := of_loop (p := m % 11) hI
  refine V.callH [_, _] rfl kc_L_166 dL_law_373 (d' := dL) hd (by omega) rfl (fun _ _ => hL) rfl (fun v t z0 hv => ?_) (fun X t hx => hx.elim)
  obtain ⟨r, rfl, z⟩ := hq v t z0
  rcases z with ⟨r1, ht, rf⟩ | ⟨r1, r2, ac, ρ, gh, Iρ, sm, e7, e8, e9, e10⟩
  · rw [ht]
    refine V.istore (L' := [_, _, _, _, _, _, _, _, _, _, _, _, _, _, _, _, _]) dL_law_376 rfl rfl ?_
    refine V.iload dL_law_378 rfl ?_
    refine V.iload dL_law_380 rfl ?_
    refine V.if_ge (tgt := 389) dL_law_382 (by decide) (fun hh => ?_) (fun hh => ?_)
    · exfalso; omega
    · refine V.iconst dL_law_385 ⟨by decide, by decide⟩ ?_
      refine V.goto (tgt := 390) dL_law_386 (by decide) ?_
      refine V.iadd dL_law_390 ⟨by omega, by omega⟩ ?_
      rw [Int.add_zero]
      refine V.istore (L' := [_, _, _, _, _, _, _, _, _, _, _, _, _, _, _, _, _]) dL_law_391 rfl rfl ?_
      refine V.goto (tgt := 636) dL_law_393 (by decide) ?_
      exact kk _ r σ (by omega) ⟨hI, jSm.rf σ, Or.inl ⟨r1, rfl, rfl⟩⟩
  · refine V.gh gh ?_
    refine V.istore (L' := [_, _, _, _, _, _, _, _, _, _, _, _, _, _, _, _, _]) dL_law_376 rfl rfl ?_
    refine V.iload dL_law_378 rfl ?_
    refine V.iload dL_law_380 rfl ?_
    refine V.if_ge (tgt := 389) dL_law_382 (by decide) (fun hh => ?_) (fun hh => ?_)
    · refine V.iconst dL_law_389 ⟨by decide, by decide⟩ ?_
      refine V.iadd dL_law_390 ⟨by omega, by omega⟩ ?_
      refine V.istore (L' := [_, _, _, _, _, _, _, _, _, _, _, _, _, _, _, _, _]) dL_law_391 rfl rfl ?_
      refine V.goto (tgt := 636) dL_law_393 (by decide) ?_
      have key := kk (nn - nL) r ρ (by omega) ⟨Iρ, sm, Or.inr ⟨r2, e7, Or.inr (Or.inr r1)⟩⟩
      rw [e9, e10] at key
      exact key
    · exfalso; omega
theorem lb_end (hI : jINV 1 σ) {N : Nat} (hn : N + 1 ≤ nn) (kk : jK6 l E N q nm k n kd m a l16 σ) : V l E mL_law 60 nn jQt jno 403 [(7, q), (2, 0), (0, nm), (0, k), (0, σ 1 9), (0, σ 1 10), (0, 1), (2, 7), (0, n), (0, σ 1 7), (0, σ 1 8), (0, jsmv σ), (0, kd), (0, m), (0, a), (0, 0), l16] [] σ := by
  have op := jI.op hI
  refine V.aload_n dL_law_403 rfl ?_
  obtain ⟨dL, nL, hd, hn1, QL, hL, hq⟩ := of_end hI
  refine V.callH [_] rfl kc_L_168 dL_law_404 (d' := dL) hd (by omega) rfl (fun _ _ => hL) rfl (fun v t z0 hv => ?_) (fun X t hx => hx.elim)
  obtain ⟨r, rfl, z⟩ := hq v t z0
  rcases z with ⟨r1, ht, rf⟩ | ⟨r1, r2, ac, ρ, gh, Iρ, sm, e7, e8, e9, e10⟩
  · have fin : V l E mL_law 60 (nn - nL) jQt jno 439 [(7, q), (2, 0), (0, nm), (0, k), (0, σ 1 9), (0, σ 1 10), (0, 1), (2, 7), (0, n), (0, σ 1 7), (0, σ 1 8), (0, jsmv σ), (0, kd), (0, m), (0, a), (0, r), l16] [] σ := by
      refine V.iconst dL_law_439 ⟨by decide, by decide⟩ ?_
      refine V.goto (tgt := 444) dL_law_440 (by decide) ?_
      refine V.istore (L' := [_, _, _, _, _, _, _, _, _, _, _, _, _, _, _, _, _]) dL_law_444 rfl rfl ?_
      refine V.iload dL_law_446 rfl ?_
      refine V.iload dL_law_448 rfl ?_
      refine V.if_ge (tgt := 457) dL_law_450 (by decide) (fun hh => ?_) (fun hh => ?_)
      · exfalso; omega
      · refine V.iconst dL_law_453 ⟨by decide, by decide⟩ ?_
        refine V.goto (tgt := 458) dL_law_454 (by decide) ?_
        refine V.isub dL_law_458 ⟨by omega, by omega⟩ ?_
        rw [Int.sub_zero]
        refine V.istore (L' := [_, _, _, _, _, _, _, _, _, _, _, _, _, _, _, _, _]) dL_law_459 rfl rfl ?_
        refine V.goto (tgt := 636) dL_law_461 (by decide) ?_
        exact kk _ r σ (by omega) ⟨hI, jSm.rf σ, Or.inl ⟨r1, rfl, rfl⟩⟩
    rw [ht]
    refine V.istore (L' := [_, _, _, _, _, _, _, _, _, _, _, _, _, _, _, _, _]) dL_law_407 rfl rfl ?_
    refine V.iload dL_law_409 rfl ?_
    refine V.if_ge (tgt := 418) dL_law_411 (by decide) (fun hh => ?_) (fun hh => ?_)
    · exfalso; omega
    · refine V.iconst dL_law_414 ⟨by decide, by decide⟩ ?_
      refine V.goto (tgt := 419) dL_law_415 (by decide) ?_
      refine V.iload dL_law_419 rfl ?_
      refine V.if_ne (tgt := 428) dL_law_421 (by decide) (fun h421 => ?_) (fun h421 => ?_)
      · refine V.iconst dL_law_428 ⟨by decide, by decide⟩ ?_
        refine V.icmp_eq (tgt := 439) dL_law_429 (by decide) (fun h429 => ?_) (fun h429 => ?_)
        · exact fin
        · refine V.iload dL_law_432 rfl ?_
          refine V.bipush dL_law_434 ⟨by decide, by decide⟩ ?_
          refine V.icmp_ne (tgt := 443) dL_law_436 (by decide) (fun h436 => ?_) (fun h436 => ?_)
          · exfalso; omega
          · exact fin
      · refine V.iconst dL_law_424 ⟨by decide, by decide⟩ ?_
        refine V.goto (tgt := 429) dL_law_425 (by decide) ?_
        refine V.icmp_eq (tgt := 439) dL_law_429 (by decide) (fun h429 => ?_) (fun h429 => ?_)
        · exact fin
        · refine V.iload dL_law_432 rfl ?_
          refine V.bipush dL_law_434 ⟨by decide, by decide⟩ ?_
          refine V.icmp_ne (tgt := 443) dL_law_436 (by decide) (fun h436 => ?_) (fun h436 => ?_)
          · exfalso; omega
          · exact fin
  · refine V.gh gh ?_
    refine V.istore (L' := [_, _, _, _, _, _, _, _, _, _, _, _, _, _, _, _, _]) dL_law_407 rfl rfl ?_
    refine V.iload dL_law_409 rfl ?_
    refine V.if_ge (tgt := 418) dL_law_411 (by decide) (fun hh => ?_) (fun hh => ?_)
    · refine V.iconst dL_law_418 ⟨by decide, by decide⟩ ?_
      refine V.iload dL_law_419 rfl ?_
      refine V.if_ne (tgt := 428) dL_law_421 (by decide) (fun hh => ?_) (fun hh => ?_)
      · refine V.iconst dL_law_428 ⟨by decide, by decide⟩ ?_
        refine V.icmp_eq (tgt := 439) dL_law_429 (by decide) (fun hh => ?_) (fun hh => ?_)
        · refine V.iconst dL_law_439 ⟨by decide, by decide⟩ ?_
          refine V.goto (tgt := 444) dL_law_440 (by decide) ?_
          refine V.istore (L' := [_, _, _, _, _, _, _, _, _, _, _, _, _, _, _, _, _]) dL_law_444 rfl rfl ?_
          refine V.iload dL_law_446 rfl ?_
          refine V.iload dL_law_448 rfl ?_
          refine V.if_ge (tgt := 457) dL_law_450 (by decide) (fun hh => ?_) (fun hh => ?_)
          · refine V.iconst dL_law_457 ⟨by decide, by decide⟩ ?_
            refine V.isub dL_law_458 ⟨by omega, by omega⟩ ?_
            refine V.istore (L' := [_, _, _, _, _, _, _, _, _, _, _, _, _, _, _, _, _]) dL_law_459 rfl rfl ?_
            refine V.goto (tgt := 636) dL_law_461 (by decide) ?_
            have key := kk (nn - nL) r ρ (by omega) ⟨Iρ, sm, Or.inr ⟨r2, e7, Or.inr (Or.inr r1)⟩⟩
            rw [e9, e10] at key
            exact key
          · exfalso; omega
        · exact absurd rfl hh
      · exfalso; omega
    · exfalso; omega
theorem lb_macro (hI : jINV 1 σ) (hk : kd = 19) {N : Nat} (hn : N + 1 ≤ nn) (kk : jK6 l E N q nm k n kd m a l16 σ) : V l E mL_law 60 nn jQt jno 471 [(7, q), (2, 0), (0, nm), (0, k), (0, σ 1 9), (0, σ 1 10), (0, 1), (2, 7), (0, n), (0, σ 1 7), (0, σ 1 8), (0, jsmv σ), (0, kd), (0, m), (0, a), (0, 0), l16] [] σ := by
  have op := jI.op hI
  refine V.aload_n dL_law_471 rfl ?_
  obtain ⟨dL, nL, hd, hn1, QL, hL, hq⟩ := of_macro hI
  refine V.callH [_] rfl kc_L_170 dL_law_472 (d' := dL) hd (by omega) rfl (fun _ _ => hL) rfl (fun v t z0 hv => ?_) (fun X t hx => hx.elim)
  obtain ⟨r, rfl, z⟩ := hq v t z0
  rcases z with ⟨r1, ht, rf⟩ | ⟨r1, r2, ac, ρ, gh, Iρ, sm, e7, e8, e9, e10⟩
  · rw [ht]
    refine V.istore (L' := [_, _, _, _, _, _, _, _, _, _, _, _, _, _, _, _, _]) dL_law_475 rfl rfl ?_
    refine V.iload dL_law_477 rfl ?_
    refine V.if_lt (tgt := 499) dL_law_479 (by decide) (fun hh => ?_) (fun hh => ?_)
    · refine V.iconst dL_law_499 ⟨by decide, by decide⟩ ?_
      refine V.goto (tgt := 504) dL_law_500 (by decide) ?_
      refine V.istore (L' := [_, _, _, _, _, _, _, _, _, _, _, _, _, _, _, _, _]) dL_law_504 rfl rfl ?_
      refine V.iload dL_law_506 rfl ?_
      refine V.iload dL_law_508 rfl ?_
      refine V.if_lt (tgt := 517) dL_law_510 (by decide) (fun hh => ?_) (fun hh => ?_)
      · refine V.iconst dL_law_517 ⟨by decide, by decide⟩ ?_
        refine V.iorB dL_law_518 op.2.2.2.2 (Or.inl rfl) ?_
        rw [or_0 op.2.2.2.2]
        refine V.istore (L' := [_, _, _, _, _, _, _, _, _, _, _, _, _, _, _, _, _]) dL_law_519 rfl rfl ?_
        refine V.goto (tgt := 636) dL_law_521 (by decide) ?_
        exact kk _ r σ (by omega) ⟨hI, jSm.rf σ, Or.inl ⟨r1, rfl, rfl⟩⟩
      · exfalso; omega
    · exfalso; omega
  · refine V.gh gh ?_
    refine V.istore (L' := [_, _, _, _, _, _, _, _, _, _, _, _, _, _, _, _, _]) dL_law_475 rfl rfl ?_
    refine V.iload dL_law_477 rfl ?_
    refine V.if_lt (tgt := 499) dL_law_479 (by decide) (fun hh => ?_) (fun hh => ?_)
    · exfalso; omega
    · refine V.iload dL_law_482 rfl ?_
      refine V.iload dL_law_484 rfl ?_
      refine V.icmp_ne (tgt := 503) dL_law_486 (by decide) (fun hh => ?_) (fun hh => ?_)
      · exfalso; omega
      · refine V.iload dL_law_489 rfl ?_
        refine V.if_ne (tgt := 503) dL_law_491 (by decide) (fun hh => ?_) (fun hh => ?_)
        · exfalso; omega
        · refine V.iload dL_law_494 rfl ?_
          refine V.if_ne (tgt := 503) dL_law_496 (by decide) (fun hh => ?_) (fun hh => ?_)
          · exfalso; omega
          · refine V.iconst dL_law_499 ⟨by decide, by decide⟩ ?_
            refine V.goto (tgt := 504) dL_law_500 (by decide) ?_
            refine V.istore (L' := [_, _, _, _, _, _, _, _, _, _, _, _, _, _, _, _, _]) dL_law_504 rfl rfl ?_
            refine V.iload dL_law_506 rfl ?_
            refine V.iload dL_law_508 rfl ?_
            refine V.if_lt (tgt := 517) dL_law_510 (by decide) (fun hh => ?_) (fun hh => ?_)
            · exfalso; omega
            · refine V.iconst dL_law_513 ⟨by decide, by decide⟩ ?_
              refine V.goto (tgt := 518) dL_law_514 (by decide) ?_
              refine V.iorB dL_law_518 op.2.2.2.2 (Or.inr rfl) ?_
              rw [if_pos (Or.inr rfl)]
              refine V.istore (L' := [_, _, _, _, _, _, _, _, _, _, _, _, _, _, _, _, _]) dL_law_519 rfl rfl ?_
              refine V.goto (tgt := 636) dL_law_521 (by decide) ?_
              have key := kk (nn - nL) r ρ (by omega) ⟨Iρ, sm, Or.inr ⟨r2, e7, Or.inl hk⟩⟩
              rw [e9, e10] at key
              exact key
theorem lb_endMacro (hI : jINV 1 σ) (hk : kd = 20) {N : Nat} (hn : N + 1 ≤ nn) (kk : jK6 l E N q nm k n kd m a l16 σ) : V l E mL_law 60 nn jQt jno 531 [(7, q), (2, 0), (0, nm), (0, k), (0, σ 1 9), (0, σ 1 10), (0, 1), (2, 7), (0, n), (0, σ 1 7), (0, σ 1 8), (0, jsmv σ), (0, kd), (0, m), (0, a), (0, 0), l16] [] σ := by
  have op := jI.op hI
  refine V.aload_n dL_law_531 rfl ?_
  obtain ⟨dL, nL, hd, hn1, QL, hL, hq⟩ := of_endMacro hI
  refine V.callH [_] rfl kc_L_172 dL_law_532 (d' := dL) hd (by omega) rfl (fun _ _ => hL) rfl (fun v t z0 hv => ?_) (fun X t hx => hx.elim)
  obtain ⟨r, rfl, z⟩ := hq v t z0
  rcases z with ⟨r1, ht, rf⟩ | ⟨r1, r2, ac, ρ, gh, Iρ, sm, e7, e8, e9, e10⟩
  · rw [ht]
    refine V.istore (L' := [_, _, _, _, _, _, _, _, _, _, _, _, _, _, _, _, _]) dL_law_535 rfl rfl ?_
    refine V.iload dL_law_537 rfl ?_
    refine V.if_lt (tgt := 561) dL_law_539 (by decide) (fun hh => ?_) (fun hh => ?_)
    · refine V.iconst dL_law_561 ⟨by decide, by decide⟩ ?_
      refine V.goto (tgt := 566) dL_law_562 (by decide) ?_
      refine V.istore (L' := [_, _, _, _, _, _, _, _, _, _, _, _, _, _, _, _, _]) dL_law_566 rfl rfl ?_
      refine V.iload dL_law_568 rfl ?_
      refine V.iload dL_law_570 rfl ?_
      refine V.if_ge (tgt := 579) dL_law_572 (by decide) (fun hh => ?_) (fun hh => ?_)
      · exfalso; omega
      · refine V.iconst dL_law_575 ⟨by decide, by decide⟩ ?_
        refine V.goto (tgt := 580) dL_law_576 (by decide) ?_
        refine V.iandB dL_law_580 op.2.2.2.2 (Or.inr rfl) ?_
        rw [and_1 op.2.2.2.2]
        refine V.istore (L' := [_, _, _, _, _, _, _, _, _, _, _, _, _, _, _, _, _]) dL_law_581 rfl rfl ?_
        refine V.goto (tgt := 636) dL_law_583 (by decide) ?_
        exact kk _ r σ (by omega) ⟨hI, jSm.rf σ, Or.inl ⟨r1, rfl, rfl⟩⟩
    · exfalso; omega
  · refine V.gh gh ?_
    refine V.istore (L' := [_, _, _, _, _, _, _, _, _, _, _, _, _, _, _, _, _]) dL_law_535 rfl rfl ?_
    refine V.iload dL_law_537 rfl ?_
    refine V.if_lt (tgt := 561) dL_law_539 (by decide) (fun hh => ?_) (fun hh => ?_)
    · exfalso; omega
    · refine V.iload dL_law_542 rfl ?_
      refine V.iload dL_law_544 rfl ?_
      refine V.iconst dL_law_546 ⟨by decide, by decide⟩ ?_
      refine V.isub dL_law_547 ⟨by omega, by omega⟩ ?_
      refine V.icmp_ne (tgt := 565) dL_law_548 (by decide) (fun hh => ?_) (fun hh => ?_)
      · exfalso; omega
      · refine V.iload dL_law_551 rfl ?_
        refine V.if_eq (tgt := 565) dL_law_553 (by decide) (fun hh => ?_) (fun hh => ?_)
        · exfalso; omega
        · refine V.iload dL_law_556 rfl ?_
          refine V.if_ne (tgt := 565) dL_law_558 (by decide) (fun hh => ?_) (fun hh => ?_)
          · exfalso; omega
          · refine V.iconst dL_law_561 ⟨by decide, by decide⟩ ?_
            refine V.goto (tgt := 566) dL_law_562 (by decide) ?_
            refine V.istore (L' := [_, _, _, _, _, _, _, _, _, _, _, _, _, _, _, _, _]) dL_law_566 rfl rfl ?_
            refine V.iload dL_law_568 rfl ?_
            refine V.iload dL_law_570 rfl ?_
            refine V.if_ge (tgt := 579) dL_law_572 (by decide) (fun hh => ?_) (fun hh => ?_)
            · refine V.iconst dL_law_579 ⟨by decide, by decide⟩ ?_
              refine V.iandB dL_law_580 op.2.2.2.2 (Or.inl rfl) ?_
              rw [if_neg (fun z => absurd z.2 (by decide))]
              refine V.istore (L' := [_, _, _, _, _, _, _, _, _, _, _, _, _, _, _, _, _]) dL_law_581 rfl rfl ?_
              refine V.goto (tgt := 636) dL_law_583 (by decide) ?_
              have key := kk (nn - nL) r ρ (by omega) ⟨Iρ, sm, Or.inr ⟨r2, e7, Or.inr (Or.inl hk)⟩⟩
              rw [e9, e10] at key
              exact key
            · exfalso; omega
end LAW
