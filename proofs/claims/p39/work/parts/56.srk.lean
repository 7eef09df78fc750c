/-! ===== the lines while they are fed: the class's and the reference's ===== -/
abbrev jgk (s : Int) : Prop := s = 7 ∨ s = 8 ∨ s = 9
/-- a line that begins what is not ended -/
def jopn (σ : JM) (x : Int) : Prop := (∃ g, (0 ≤ g ∧ g < σ 7 4) ∧ x = σ 39 g) ∨ (σ 1 10 = 1 ∧ x = σ 40 (σ 7 2 - 1))
def jcld (σ : JM) (x : Int) : Prop := x < σ 38 x ∧ σ 38 x < σ 7 1 ∧ σ 12 x = σ 38 x ∧ σ 12 (σ 38 x) = x ∧ σ 34 (σ 38 x) = (if σ 34 x = 11 then 12 else 10)
/-- one line -/
def jl1 (σ : JM) (x : Int) : Prop := jln σ x ∧ (0 ≤ σ 34 x ∧ σ 34 x ≤ 12) ∧ (-2 ≤ σ 35 x ∧ σ 35 x ≤ 999 ∧ (σ 34 x = 8 → σ 35 x ≤ 9)) ∧ (-2 ≤ σ 36 x ∧ σ 36 x ≤ 999) ∧ (σ 34 x = 5 → 2 ≤ σ 35 x ∧ σ 35 x ≤ 8) ∧ (σ 34 x = 2 → 0 ≤ σ 36 x ∧ σ 36 x ≤ 99) ∧ (σ 34 x = 6 → 0 ≤ σ 37 x ∧ σ 37 x < σ 7 2 - σ 1 10 ∧ σ 41 (σ 37 x) < x)
def jSrc (σ : JM) : Prop :=
  (σ 1 7 = σ 7 1 ∧ σ 1 8 = σ 7 2 ∧ σ 1 9 = σ 7 4 ∧ ((σ 1 10 = 0 ∧ σ 7 3 = -1) ∨ (σ 1 10 = 1 ∧ 1 ≤ σ 7 2 ∧ σ 7 3 = σ 7 2 - 1))) ∧
  ((0 ≤ σ 7 1 ∧ σ 7 1 ≤ 80) ∧ (0 ≤ σ 7 2 ∧ σ 7 2 ≤ 8) ∧ 0 ≤ σ 7 4 ∧ σ 7 4 ≤ σ 7 1) ∧
  (∀ x, 0 ≤ x → x < σ 7 1 → jl1 σ x) ∧
  (∀ m, 0 ≤ m → m < σ 7 2 → σ 14 m = σ 40 m ∧ (0 ≤ σ 40 m ∧ σ 40 m < σ 7 1) ∧ σ 34 (σ 40 m) = 11) ∧
  (∀ m, 0 ≤ m → m < σ 7 2 - σ 1 10 → σ 40 m < σ 41 m ∧ σ 41 m < σ 7 1 ∧ σ 38 (σ 40 m) = σ 41 m ∧ ¬ jopn σ (σ 40 m)) ∧
  (∀ a b, 0 ≤ a → a < b → b < σ 7 2 → σ 41 a < σ 40 b) ∧
  (∀ g, 0 ≤ g → g < σ 7 4 → σ 13 g = σ 39 g ∧ (0 ≤ σ 39 g ∧ σ 39 g < σ 7 1) ∧ jgk (σ 34 (σ 39 g)) ∧ (σ 1 10 = 1 → σ 40 (σ 7 2 - 1) < σ 39 g)) ∧
  (∀ g h, 0 ≤ g → g < h → h < σ 7 4 → σ 39 g < σ 39 h) ∧
  (∀ x, 0 ≤ x → x < σ 7 1 → jop (σ 34 x) → ¬ jopn σ x → jcld σ x ∧ ∀ y, x < y → y < σ 38 x → jop (σ 34 y) → ¬ jopn σ y ∧ σ 38 y < σ 38 x) ∧
  (∀ y, 0 ≤ y → y < σ 7 1 → jcz (σ 34 y) → ∃ z, (0 ≤ z ∧ z < y) ∧ jop (σ 34 z) ∧ ¬ jopn σ z ∧ σ 38 z = y)
theorem jSrc.a1 {σ : JM} (h : jSrc σ) : σ 1 7 = σ 7 1 ∧ σ 1 8 = σ 7 2 ∧ σ 1 9 = σ 7 4 ∧ ((σ 1 10 = 0 ∧ σ 7 3 = -1) ∨ (σ 1 10 = 1 ∧ 1 ≤ σ 7 2 ∧ σ 7 3 = σ 7 2 - 1)) := h.1
theorem jSrc.a2 {σ : JM} (h : jSrc σ) : (0 ≤ σ 7 1 ∧ σ 7 1 ≤ 80) ∧ (0 ≤ σ 7 2 ∧ σ 7 2 ≤ 8) ∧ 0 ≤ σ 7 4 ∧ σ 7 4 ≤ σ 7 1 := h.2.1
theorem jSrc.ln {σ : JM} (h : jSrc σ) : ∀ x, 0 ≤ x → x < σ 7 1 → jl1 σ x := h.2.2.1
theorem jSrc.mm {σ : JM} (h : jSrc σ) : ∀ m, 0 ≤ m → m < σ 7 2 → σ 14 m = σ 40 m ∧ (0 ≤ σ 40 m ∧ σ 40 m < σ 7 1) ∧ σ 34 (σ 40 m) = 11 := h.2.2.2.1
theorem jSrc.me {σ : JM} (h : jSrc σ) : ∀ m, 0 ≤ m → m < σ 7 2 - σ 1 10 → σ 40 m < σ 41 m ∧ σ 41 m < σ 7 1 ∧ σ 38 (σ 40 m) = σ 41 m ∧ ¬ jopn σ (σ 40 m) := h.2.2.2.2.1
theorem jSrc.mo {σ : JM} (h : jSrc σ) : ∀ a b, 0 ≤ a → a < b → b < σ 7 2 → σ 41 a < σ 40 b := h.2.2.2.2.2.1
theorem jSrc.gg {σ : JM} (h : jSrc σ) : ∀ g, 0 ≤ g → g < σ 7 4 → σ 13 g = σ 39 g ∧ (0 ≤ σ 39 g ∧ σ 39 g < σ 7 1) ∧ jgk (σ 34 (σ 39 g)) ∧ (σ 1 10 = 1 → σ 40 (σ 7 2 - 1) < σ 39 g) := h.2.2.2.2.2.2.1
theorem jSrc.go {σ : JM} (h : jSrc σ) : ∀ g h, 0 ≤ g → g < h → h < σ 7 4 → σ 39 g < σ 39 h := h.2.2.2.2.2.2.2.1
theorem jSrc.op {σ : JM} (h : jSrc σ) : ∀ x, 0 ≤ x → x < σ 7 1 → jop (σ 34 x) → ¬ jopn σ x → jcld σ x ∧ ∀ y, x < y → y < σ 38 x → jop (σ 34 y) → ¬ jopn σ y ∧ σ 38 y < σ 38 x := h.2.2.2.2.2.2.2.2.1
theorem jSrc.cl {σ : JM} (h : jSrc σ) : ∀ y, 0 ≤ y → y < σ 7 1 → jcz (σ 34 y) → ∃ z, (0 ≤ z ∧ z < y) ∧ jop (σ 34 z) ∧ ¬ jopn σ z ∧ σ 38 z = y := h.2.2.2.2.2.2.2.2.2
/-- when all is ended, the lines are good for assembling -/
theorem jSrc.no {σ : JM} (hg : σ 7 4 = 0) (hm : σ 1 10 = 0) (x : Int) : ¬ jopn σ x := fun q => by
  rcases q with ⟨g, h1, -⟩ | ⟨h1, -⟩ <;> omega
theorem jSrc.sc {σ : JM} (h : jSrc σ) (hg : σ 7 4 = 0) (hm : σ 1 10 = 0) : jSC σ := by
  have no := jSrc.no hg hm
  refine ⟨⟨h.a1.1, h.a1.2.1⟩, fun x x0 x1 => (h.ln x x0 x1).1, fun x x0 x1 ho => ?_, fun m m0 m1 => (h.mm m m0 m1).1, fun a b a0 ab b1 => ?_⟩
  · have c := (h.op x x0 x1 ho (no x)).1
    exact ⟨c.2.2.1, c.2.2.2.1, c.2.2.2.2⟩
  · have := h.mo a b a0 ab b1
    have := h.me b (by omega) (by omega)
    omega
theorem jSrc.wf {σ : JM} (h : jSrc σ) (hg : σ 7 4 = 0) (hm : σ 1 10 = 0) : jwf σ := by
  have no := jSrc.no hg hm
  refine ⟨h.a2.1, h.a2.2.1, fun x x0 x1 => (h.ln x x0 x1).2.1, fun x x0 x1 => (h.ln x x0 x1).2.2.1, fun x x0 x1 => (h.ln x x0 x1).2.2.2.1, fun x x0 x1 ho => ?_, fun x x0 x1 e => ?_, fun m m0 m1 => ?_, fun x x0 x1 => (h.ln x x0 x1).2.2.2.2.1, fun x x0 x1 => (h.ln x x0 x1).2.2.2.2.2.1, fun y y0 y1 ho => ?_, fun y y0 y1 ho => ?_⟩
  · have c := h.op x x0 x1 ho (no x)
    obtain ⟨c1, c2, c3, c4, c5⟩ := c.1
    refine ⟨c1, c2, ?_, fun y a b d => (c.2 y a b d).2⟩
    rw [c5]
    split <;> omega
  · have := (h.ln x x0 x1).2.2.2.2.2.2 e
    omega
  · have a := h.mm m m0 m1
    have b := h.me m m0 (by omega)
    exact ⟨a.2.1.1, b.1, b.2.1, a.2.2, b.2.2.1⟩
  · exact (h.op y y0 y1 ho (no y)).1.2.1
  · obtain ⟨z, a, b, c, d⟩ := h.cl y y0 y1 ho
    exact ⟨z, a.1, a.2, b, d⟩
/-- what is not ended, on both sides -/
theorem jSrc.unf {σ : JM} (h : jSrc σ) : (junf σ = -1 ↔ σ 7 4 = 0 ∧ σ 1 10 = 0) ∧ (jbad σ ↔ ¬ (σ 7 4 = 0 ∧ σ 1 10 = 0)) ∧ (jbad σ → junf σ = jmBl σ) := by
  obtain ⟨e1, e2, e3, e4⟩ := h.a1
  have a2 := h.a2
  have ju : junf σ = if 0 < σ 7 4 then σ 39 (σ 7 4 - 1) else if σ 1 10 ≠ 0 then σ 40 (σ 7 2 - 1) else -1 := by
    unfold junf
    rw [e3, e2]
    by_cases g : 0 < σ 7 4
    · rw [if_pos g, if_pos g, jat_in (by omega) (by omega)]
      exact (h.gg _ (by omega) (by omega)).1
    · rw [if_neg g, if_neg g]
      by_cases m : σ 1 10 ≠ 0
      · rw [if_pos m, if_pos m, jat_in (by omega) (by omega)]
        exact (h.mm _ (by omega) (by omega)).1
      · rw [if_neg m, if_neg m]
  refine ⟨?_, by omega, fun hb => ?_⟩
  · rw [ju]
    by_cases g : 0 < σ 7 4
    · rw [if_pos g]
      have := (h.gg (σ 7 4 - 1) (by omega) (by omega)).2.1
      omega
    · rw [if_neg g]
      by_cases m : σ 1 10 ≠ 0
      · rw [if_pos m]
        have := (h.mm (σ 7 2 - 1) (by omega) (by omega)).2.1
        omega
      · rw [if_neg m]; omega
  · rw [ju]
    unfold jmBl
    by_cases g : 0 < σ 7 4
    · rw [if_pos g, if_pos g]
    · rw [if_neg g, if_neg g, if_pos (by omega)]
      rw [show σ 7 3 = σ 7 2 - 1 by omega]
