/-- what the class keeps of the walk's place: the depth, the scope, the arguments -/
def jCx (σ0 τ : JM) (S : Int → Int) (to sc p ps q qs d : Int) : Prop :=
  (τ 4 7 = d ∧ 0 ≤ d ∧ d ≤ 8) ∧ S (τ 3 5 - 1) = sc ∧ (τ 27 (2 * d) = p ∧ τ 27 (2 * d + 1) = q) ∧ ((0 ≤ τ 28 (2 * d) ∧ τ 28 (2 * d) < τ 3 5) ∧ S (τ 28 (2 * d)) = ps) ∧ ((0 ≤ τ 28 (2 * d + 1) ∧ τ 28 (2 * d + 1) < τ 3 5) ∧ S (τ 28 (2 * d + 1)) = qs) ∧ τ 3 5 + to ≤ 81 ∧ (d = 0 ∨ ∃ m, (0 ≤ m ∧ m < σ0 7 2) ∧ d + m ≤ 8 ∧ to ≤ σ0 41 m)
/-- lines whose count of rounds a stretch leaves alone -/
def jprt (σ0 : JM) (y to x : Int) : Prop := (0 ≤ x ∧ x < σ0 7 1) ∧ jop (σ0 34 x) ∧ ((x < y ∧ to ≤ σ0 38 x) ∨ to ≤ x)
/-- what a stretch leaves alone -/
def jFr (σ0 τ τ' : JM) (S S' : Int → Int) (y to : Int) : Prop :=
  (τ' 3 5 = τ 3 5 ∧ τ' 4 7 = τ 4 7) ∧ (∀ j, 0 ≤ j → j < τ 3 5 → S' j = S j) ∧ (∀ j, 0 ≤ j → j ≤ 2 * τ 4 7 + 1 → τ' 27 j = τ 27 j ∧ τ' 28 j = τ 28 j) ∧ (∀ j, 0 ≤ j → j ≤ τ 4 7 → τ' 26 j = τ 26 j) ∧ (∀ x, jprt σ0 y to x → τ' 25 x = τ 25 x)
theorem jFr.rf (σ0 τ : JM) (S : Int → Int) (y to : Int) : jFr σ0 τ τ S S y to := ⟨⟨rfl, rfl⟩, fun _ _ _ => rfl, fun _ _ _ => ⟨rfl, rfl⟩, fun _ _ _ => rfl, fun _ _ => rfl⟩
theorem jFr.tr {σ0 τ τ1 τ2 : JM} {S S1 S2 : Int → Int} {y to y1 to1 : Int} (h : jFr σ0 τ τ1 S S1 y to) (g : jFr σ0 τ1 τ2 S1 S2 y1 to1) (hp : ∀ x, jprt σ0 y to x → jprt σ0 y1 to1 x) : jFr σ0 τ τ2 S S2 y to := by
  obtain ⟨⟨a1, a2⟩, a3, a4, a5, a6⟩ := h
  obtain ⟨⟨b1, b2⟩, b3, b4, b5, b6⟩ := g
  refine ⟨⟨b1.trans a1, b2.trans a2⟩, fun j j0 j1 => (b3 j j0 (by omega)).trans (a3 j j0 j1), fun j j0 j1 => ?_, fun j j0 j1 => (b5 j j0 (by omega)).trans (a5 j j0 j1), fun x hx => (b6 x (hp x hx)).trans (a6 x hx)⟩
  have u := a4 j j0 j1
  have v := b4 j j0 (by omega)
  exact ⟨v.1.trans u.1, v.2.trans u.2⟩
theorem jCx.fr {σ0 τ τ' : JM} {S S' : Int → Int} {y to sc p ps q qs d to' : Int} (c : jCx σ0 τ S to sc p ps q qs d) (h : jFr σ0 τ τ' S S' y to') (h1 : 1 ≤ τ 3 5) : jCx σ0 τ' S' to sc p ps q qs d := by
  obtain ⟨⟨c1, c2, c3⟩, c4, ⟨c5, c6⟩, ⟨c7, c8⟩, ⟨c9, c10⟩, c11, c12⟩ := c
  obtain ⟨⟨a1, a2⟩, a3, a4, a5, a6⟩ := h
  have u := a4 (2 * d) (by omega) (by omega)
  have v := a4 (2 * d + 1) (by omega) (by omega)
  refine ⟨⟨by omega, c2, c3⟩, ?_, ⟨by rw [u.1]; exact c5, by rw [v.1]; exact c6⟩, ⟨by rw [u.2, a1]; exact c7, ?_⟩, ⟨by rw [v.2, a1]; exact c9, ?_⟩, by rw [a1]; exact c11, c12⟩
  · rw [a1, a3 _ (by omega) (by omega)]; exact c4
  · rw [u.2, a3 _ c7.1 c7.2]; exact c8
  · rw [v.2, a3 _ c9.1 c9.2]; exact c10
theorem jCx.val {σ0 τ : JM} {S : Int → Int} {to sc p ps q qs d : Int} (c : jCx σ0 τ S to sc p ps q qs d) (o : Int) : jval τ o = jrga o p q o := by
  obtain ⟨⟨c1, c2, c3⟩, c4, ⟨c5, c6⟩, -⟩ := c
  unfold jval jrga
  by_cases h1 : o = -1
  · subst h1
    rw [if_pos (Or.inl rfl), if_pos rfl, show jslot (-1) = 0 from rfl, jat_in (by omega) (by omega), Int.add_zero, c1, c5]
  · by_cases h2 : o = -2
    · subst h2
      rw [if_pos (Or.inr rfl), if_neg h1, if_pos rfl, show jslot (-2) = 1 from rfl, jat_in (by omega) (by omega), c1, c6]
    · rw [if_neg (by omega), if_neg h1, if_neg h2]
theorem jCx.sco {σ0 τ : JM} {S : Int → Int} {to sc p ps q qs d : Int} (c : jCx σ0 τ S to sc p ps q qs d) (h : 1 ≤ τ 3 5) (o : Int) : (0 ≤ jsco τ o ∧ jsco τ o < τ 3 5) ∧ S (jsco τ o) = jrga o ps qs sc := by
  obtain ⟨⟨c1, c2, c3⟩, c4, -, ⟨c7, c8⟩, ⟨c9, c10⟩, -⟩ := c
  unfold jsco jrga
  by_cases h1 : o = -1
  · subst h1
    rw [if_pos (Or.inl rfl), if_pos rfl, show jslot (-1) = 0 from rfl, jat_in (by omega) (by omega), Int.add_zero, c1]
    exact ⟨c7, c8⟩
  · by_cases h2 : o = -2
    · subst h2
      rw [if_pos (Or.inr rfl), if_neg h1, if_pos rfl, show jslot (-2) = 1 from rfl, jat_in (by omega) (by omega), c1]
      exact ⟨c9, c10⟩
    · rw [if_neg (by omega), if_neg h1, if_neg h2]
      exact ⟨by omega, c4⟩
/-- a line of the class as the reference has it, while the walk goes -/
theorem jLn {σ0 τ ρ : JM} (hs : jSC σ0) (kc : jkc σ0 τ) (kr : jkp σ0 ρ) (ln : σ0 7 1 ≤ 80) {x : Int} (x0 : 0 ≤ x) (x1 : x < σ0 7 1) : jat τ 8 80 x = jch (ρ 34 x) ∧ jat τ 9 80 x = (if ρ 34 x = 5 then 0 else ρ 35 x) ∧ jat τ 10 80 x = (if ρ 34 x = 2 then 0 else ρ 36 x) ∧ jat τ 11 80 x = (if ρ 34 x = 5 then ρ 35 x else if ρ 34 x = 2 then ρ 36 x else if ρ 34 x = 6 then ρ 37 x else 0) ∧ (-2 ≤ jat τ 9 80 x ∧ jat τ 9 80 x ≤ jgo (jch (ρ 34 x))) ∧ (-2 ≤ jat τ 10 80 x ∧ jat τ 10 80 x ≤ jgo (jch (ρ 34 x))) ∧ (ρ 34 x = 7 → jat τ 9 80 x = 0) ∧ (ρ 34 x ≠ 6 → ρ 34 x ≠ 9 → jat τ 10 80 x = 0) := by
  have l := hs.2.1 x x0 x1
  unfold jln at l
  rw [jat_in x0 (by omega), jat_in x0 (by omega), jat_in x0 (by omega), jat_in x0 (by omega), kc 8 x (by omega), kc 9 x (by omega), kc 10 x (by omega), kc 11 x (by omega), kr 34 x (by omega) (by omega) (by omega), kr 35 x (by omega) (by omega) (by omega), kr 36 x (by omega) (by omega) (by omega), kr 37 x (by omega) (by omega) (by omega)]
  rw [← l.1]
  exact ⟨rfl, l.2⟩
theorem jLp {σ0 τ : JM} (hs : jSC σ0) (hw : jwf σ0) (kc : jkc σ0 τ) {x : Int} (x0 : 0 ≤ x) (x1 : x < σ0 7 1) (ho : jop (σ0 34 x)) : jat τ 12 80 x = σ0 38 x ∧ jat τ 12 80 (σ0 38 x) = x ∧ jat τ 8 80 (σ0 38 x) = jch (if σ0 34 x = 11 then 12 else 10) := by
  have ln := hw.ln
  have o := hw.op x x0 x1 ho
  have l := hs.2.2.1 x x0 x1 ho
  rw [jat_in x0 (by omega), jat_in (by omega) (by omega), jat_in (by omega) (by omega), kc 12 x (by omega), kc 12 _ (by omega), kc 8 _ (by omega)]
  refine ⟨l.1, l.2.1, ?_⟩
  rw [(hs.2.1 (σ0 38 x) (by omega) o.2.1).1, l.2.2]
theorem fau_a {s f g f0 p q : Int} (hs : 0 ≤ s ∧ s ≤ 9) (e : f = if s = 5 then 0 else f0) (hf : -2 ≤ f ∧ f ≤ jgo (jch s)) (hg : -2 ≤ g ∧ g ≤ jgo (jch s)) (h7 : s = 7 → f = 0) (h6 : s ≠ 6 → s ≠ 9 → g = 0) (h5 : s = 5 → 2 ≤ f0) (hp : 0 ≤ p ∧ p ≤ 999) (hq : 0 ≤ q ∧ q ≤ 999) : (jgo (jch s) < jrga f p q f ∨ jgo (jch s) < jrga g p q g) ↔ (f0 < 0 ∧ jmost s < jrga f0 p q f0) := by
  have ja := jch_all (s := s) (by omega)
  by_cases e5 : s = 5
  · rw [if_pos e5] at e
    have g0 := h6 (by omega) (by omega)
    have := h5 e5
    rw [e, g0]
    have z : jrga 0 p q 0 = 0 := rfl
    rw [z]
    omega
  · rw [if_neg e5] at e
    subst e
    by_cases e6 : s = 6 ∨ s = 9
    · have a := jrga_b (v := f) ⟨hf.1, by omega⟩ hp hq
      have b := jrga_b (v := g) ⟨hg.1, by omega⟩ hp hq
      omega
    · have g0 := h6 (by omega) (by omega)
      rw [g0]
      have z : jrga 0 p q 0 = 0 := rfl
      rw [z]
      by_cases n0 : f < 0
      · omega
      · have : jrga f p q f = f := by unfold jrga; rw [if_neg (by omega), if_neg (by omega)]
        rw [this]; omega
theorem jfau_eq {σ0 τ ρ : JM} {S : Int → Int} {x to sc p ps q qs d : Int} (hs : jSC σ0) (hw : jwf σ0) (kr : jkp σ0 ρ) (i : jwi ρ) (h : jCD σ0 τ ρ S) (cx : jCx σ0 τ S to sc p ps q qs d) (x0 : 0 ≤ x) (x1 : x < σ0 7 1) (s9 : ρ 34 x ≤ 9) (hp : 0 ≤ p ∧ p ≤ 999) (hq : 0 ≤ q ∧ q ≤ 999) :
    jfau τ x (jch (ρ 34 x)) = if jwFa ρ x p q then 97 else if jwFd ρ x sc p ps q qs then 100 else if jwFf ρ x then 102 else 110 := by
  have ln := hw.ln
  have l := jLn hs h.kc kr ln.2 x0 x1
  have k34 : ρ 34 x = σ0 34 x := kr 34 x (by omega) (by omega) (by omega)
  have k35 : ρ 35 x = σ0 35 x := kr 35 x (by omega) (by omega) (by omega)
  have so := hw.so x x0 x1
  have al := hw.al5 x x0 x1
  rw [← k34, ← k35] at al
  rw [← k34] at so
  obtain ⟨l1, l2, l3, l4, l5, l6, l7, l8⟩ := l
  have ja := jch_all (s := ρ 34 x) (by omega)
  have A : (jgo (jch (ρ 34 x)) < jval τ (jat τ 9 80 x) ∨ jgo (jch (ρ 34 x)) < jval τ (jat τ 10 80 x)) ↔ jwFa ρ x p q := by
    rw [cx.val, cx.val]
    exact fau_a ⟨so.1, s9⟩ l2 l5 l6 l7 l8 (fun e => (al e).1) hp hq
  unfold jfau
  by_cases a : jwFa ρ x p q
  · rw [if_pos (A.mpr a), if_pos a]
  rw [if_neg (fun z => a (A.mp z)), if_neg a]
  have B : (jch (ρ 34 x) = 108 ∧ jlb τ (jsco τ (jat τ 9 80 x)) (jval τ (jat τ 9 80 x)) ≠ -1) ↔ jwFd ρ x sc p ps q qs := by
    by_cases z : ρ 34 x = 0
    · have e9 : jat τ 9 80 x = ρ 35 x := by rw [l2, if_neg (by omega)]
      have sc1 := cx.sco h.s0.1.1 (jat τ 9 80 x)
      have na : ¬ (jgo (jch (ρ 34 x)) < jval τ (jat τ 9 80 x)) := fun y => a (A.mp (Or.inl y))
      have vb : 0 ≤ jval τ (jat τ 9 80 x) := by
        rw [cx.val]; exact (jrga_b ⟨l5.1, by omega⟩ hp hq).1
      rw [h.lbl sc1.1 ⟨vb, by omega⟩, sc1.2, cx.val, e9]
      unfold jlk
      rw [jfs_ex i.1.1]
      exact ⟨fun y => ⟨z, y.2⟩, fun y => ⟨by omega, y.2⟩⟩
    · exact ⟨fun y => absurd y.1 (by omega), fun y => absurd y.1 z⟩
  by_cases b : jwFd ρ x sc p ps q qs
  · rw [if_pos (B.mpr b), if_pos b]
  rw [if_neg (fun z => b (B.mp z)), if_neg b]
  have C : (1000 ≤ τ 4 8 ∨ (jch (ρ 34 x) ≠ 67 ∧ ¬ jgrp (jch (ρ 34 x))) ∧ 200 ≤ τ 2 6) ↔ jwFf ρ x := by
    rw [h.nn.1, h.nn.2.1]
    obtain ⟨i1, i2, i3⟩ := i
    omega
  by_cases e : jwFf ρ x
  · rw [if_pos (C.mpr e), if_pos e]
  · rw [if_neg (fun z => e (C.mp z)), if_neg e]
theorem jEnt_row (τ : JM) (x : Int) : (∀ j, jEnt τ x 27 j = if j = 2 * (τ 4 7 + 1) + 1 then jval τ (jat τ 10 80 x) else if j = 2 * (τ 4 7 + 1) then jval τ (jat τ 9 80 x) else τ 27 j) ∧ (∀ j, jEnt τ x 28 j = if j = 2 * (τ 4 7 + 1) + 1 then jsco τ (jat τ 10 80 x) else if j = 2 * (τ 4 7 + 1) then jsco τ (jat τ 9 80 x) else τ 28 j) ∧ (∀ j, jEnt τ x 26 j = if j = τ 4 7 + 1 then x else τ 26 j) ∧ jEnt τ x 3 5 = τ 3 5 + 1 ∧ jEnt τ x 4 7 = τ 4 7 + 1 ∧ (∀ j, jEnt τ x 25 j = τ 25 j) := by
  refine ⟨fun j => ?_, fun j => ?_, fun j => ?_, ?_, ?_, fun j => ?_⟩ <;> simp [jEnt, jpas, jOpn, jrg, jset, jslot]
/-- a macro is entered -/
theorem jCD.ent {σ0 τ ρ : JM} {S : Int → Int} (h : jCD σ0 τ ρ S) (hj : jit σ0 ρ) (hn : 0 ≤ ρ 7 16) (h81 : τ 3 5 < 81) (h47 : 0 ≤ τ 4 7) (x : Int) : jCD σ0 (jEnt τ x) (jnsc ρ 0) (fun j => if j = τ 3 5 then ρ 7 17 else S j) := by
  have e1 : 2 ≤ 2 * (τ 4 7 + 1) + jslot (-1) := by rw [show jslot (-1) = 0 from rfl]; omega
  have e2 : 2 ≤ 2 * (τ 4 7 + 1) + jslot (-2) := by rw [show jslot (-2) = 1 from rfl]; omega
  have g := jCD.opn ((((h.s27 (x := 2 * (τ 4 7 + 1) + jslot (-1)) (e1) (jval τ (jat τ 9 80 x))).s28 (x := 2 * (τ 4 7 + 1) + jslot (-1)) (e1) (jsco τ (jat τ 9 80 x))).s27 (x := 2 * (τ 4 7 + 1) + jslot (-2)) (e2) (jval τ (jat τ 10 80 x))).s28 (x := 2 * (τ 4 7 + 1) + jslot (-2)) (e2) (jsco τ (jat τ 10 80 x))) hj hn (o := 0) h81 ⟨Int.le_refl 0, by have := h.s0.1.1; exact (show 0 < τ 3 5 by omega)⟩
  rw [h.s0.2.1] at g
  exact (g.s47 (τ 4 7 + 1)).s26 (τ 4 7 + 1) x
