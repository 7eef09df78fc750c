theorem jl1_c {σ σ' : JM} {x : Int} (e : ∀ a : Nat, ((8 ≤ a ∧ a ≤ 11) ∨ (34 ≤ a ∧ a ≤ 37)) → σ' a x = σ a x) (e41 : σ 34 x = 6 → σ' 41 (σ 37 x) = σ 41 (σ 37 x)) (en : σ 7 2 - σ 1 10 ≤ σ' 7 2 - σ' 1 10) (h : jl1 σ x) : jl1 σ' x := by
  unfold jl1 jln at h ⊢
  rw [e 8 (by decide), e 9 (by decide), e 10 (by decide), e 11 (by decide), e 34 (by decide), e 35 (by decide), e 36 (by decide), e 37 (by decide)]
  refine ⟨h.1, h.2.1, h.2.2.1, h.2.2.2.1, h.2.2.2.2.1, h.2.2.2.2.2.1, fun q => ?_⟩
  rw [e41 q]
  have := h.2.2.2.2.2.2 q
  omega
theorem jSrc.opk {σ : JM} (h : jSrc σ) {x : Int} (q : jopn σ x) : (0 ≤ x ∧ x < σ 7 1) ∧ jop (σ 34 x) := by
  have a1 := h.a1
  rcases q with ⟨g, h1, rfl⟩ | ⟨h1, rfl⟩
  · have := h.gg g h1.1 h1.2
    exact ⟨this.2.1, by omega⟩
  · have := h.mm (σ 7 2 - 1) (by omega) (by omega)
    exact ⟨this.2.1, by omega⟩
/-- a line is added -/
theorem jSrc.gen {σ σ' : JM} (h : jSrc σ) (a1 : σ' 1 7 = σ' 7 1 ∧ σ' 1 8 = σ' 7 2 ∧ σ' 1 9 = σ' 7 4 ∧ ((σ' 1 10 = 0 ∧ σ' 7 3 = -1) ∨ (σ' 1 10 = 1 ∧ 1 ≤ σ' 7 2 ∧ σ' 7 3 = σ' 7 2 - 1))) (h80 : σ 7 1 < 80) (e7 : σ' 7 1 = σ 7 1 + 1) (a2 : (0 ≤ σ' 7 2 ∧ σ' 7 2 ≤ 8) ∧ 0 ≤ σ' 7 4 ∧ σ' 7 4 ≤ σ 7 1 + 1)
    (rw1 : ∀ a : Nat, ((8 ≤ a ∧ a ≤ 11) ∨ (34 ≤ a ∧ a ≤ 37)) → ∀ x, 0 ≤ x → x < σ 7 1 → σ' a x = σ a x) (r41 : ∀ m, 0 ≤ m → m < σ 7 2 - σ 1 10 → σ' 41 m = σ 41 m) (en : σ 7 2 - σ 1 10 ≤ σ' 7 2 - σ' 1 10)
    (r38 : ∀ x, 0 ≤ x → x < σ 7 1 → ¬ jopn σ x → σ' 38 x = σ 38 x ∧ σ' 12 x = σ 12 x) (opn : ∀ x, x < σ 7 1 → jopn σ' x → jopn σ x)
    (hcl : ∀ x, 0 ≤ x → x < σ 7 1 → jopn σ x → ¬ jopn σ' x → σ' 38 x = σ 7 1 ∧ jcld σ' x ∧ ∀ y, x < y → y < σ 7 1 → jop (σ 34 y) → ¬ jopn σ y)
    (nl : jl1 σ' (σ 7 1)) (no : jop (σ' 34 (σ 7 1)) → jopn σ' (σ 7 1)) (nc : jcz (σ' 34 (σ 7 1)) → ∃ z, (0 ≤ z ∧ z < σ 7 1) ∧ jop (σ 34 z) ∧ ¬ jopn σ' z ∧ σ' 38 z = σ 7 1)
    (mm : ∀ m, 0 ≤ m → m < σ' 7 2 → σ' 14 m = σ' 40 m ∧ (0 ≤ σ' 40 m ∧ σ' 40 m < σ 7 1 + 1) ∧ σ' 34 (σ' 40 m) = 11) (me : ∀ m, 0 ≤ m → m < σ' 7 2 - σ' 1 10 → σ' 40 m < σ' 41 m ∧ σ' 41 m < σ 7 1 + 1 ∧ σ' 38 (σ' 40 m) = σ' 41 m ∧ ¬ jopn σ' (σ' 40 m)) (mo : ∀ a b, 0 ≤ a → a < b → b < σ' 7 2 → σ' 41 a < σ' 40 b)
    (gg : ∀ g, 0 ≤ g → g < σ' 7 4 → σ' 13 g = σ' 39 g ∧ (0 ≤ σ' 39 g ∧ σ' 39 g < σ 7 1 + 1) ∧ jgk (σ' 34 (σ' 39 g)) ∧ (σ' 1 10 = 1 → σ' 40 (σ' 7 2 - 1) < σ' 39 g)) (go : ∀ g h, 0 ≤ g → g < h → h < σ' 7 4 → σ' 39 g < σ' 39 h) : jSrc σ' := by
  have h2 := h.a2
  have e34 := rw1 34 (by decide)
  refine ⟨a1, by omega, fun x x0 x1 => ?_, fun m m0 m1 => by rw [e7]; exact mm m m0 m1, fun m m0 m1 => by rw [e7]; exact me m m0 m1, mo, fun g g0 g1 => by rw [e7]; exact gg g g0 g1, go, fun x x0 x1 ho hn => ?_, fun y y0 y1 hc => ?_⟩
  · by_cases q : x = σ 7 1
    · rw [q]; exact nl
    · have l := h.ln x x0 (by omega)
      exact jl1_c (fun a ha => rw1 a ha x x0 (by omega)) (fun z => by have := l.2.2.2.2.2.2 z; exact r41 _ this.1 this.2.1) en l
  · by_cases q : x = σ 7 1
    · subst q; exact absurd (no ho) hn
    · have xl : x < σ 7 1 := by omega
      rw [e34 x x0 xl] at ho
      by_cases z : jopn σ x
      · obtain ⟨k1, k2, k3⟩ := hcl x x0 xl z hn
        refine ⟨k2, fun y a b d => ?_⟩
        rw [k1] at b ⊢
        rw [e34 y (by omega) b] at d
        have ny := k3 y a b d
        have cy := (h.op y (by omega) b d ny).1
        exact ⟨fun u => ny (opn y b u), by rw [(r38 y (by omega) b ny).1]; exact cy.2.1⟩
      · obtain ⟨⟨c1, c2, c3, c4, c5⟩, c6⟩ := h.op x x0 xl ho z
        have nz : ¬ jopn σ (σ 38 x) := fun u => by
          have := (h.opk u).2
          rw [c5] at this
          split at this <;> omega
        have r := r38 x x0 xl z
        have r2 := r38 (σ 38 x) (by omega) c2 nz
        refine ⟨⟨by rw [r.1]; exact c1, by rw [r.1]; omega, by rw [r.1, r.2]; exact c3, by rw [r.1, r2.2]; exact c4, by rw [r.1, e34 _ (by omega) c2, e34 x x0 xl]; exact c5⟩, fun y a b d => ?_⟩
        rw [r.1] at b ⊢
        rw [e34 y (by omega) (by omega)] at d
        have k := c6 y a b d
        exact ⟨fun u => k.1 (opn y (by omega) u), by rw [(r38 y (by omega) (by omega) k.1).1]; exact k.2⟩
  · by_cases q : y = σ 7 1
    · subst q
      obtain ⟨z, a, b, c, d⟩ := nc hc
      exact ⟨z, a, by rw [e34 z a.1 a.2]; exact b, c, d⟩
    · rw [e34 y y0 (by omega)] at hc
      obtain ⟨z, a, b, c, d⟩ := h.cl y y0 (by omega) hc
      exact ⟨z, a, by rw [e34 z a.1 (by omega)]; exact b, fun u => c (opn z (by omega) u), by rw [(r38 z a.1 (by omega) c).1]; exact d⟩
/-- a plain line -/
theorem jSrc.app {σ σ' : JM} (h : jSrc σ) (h80 : σ 7 1 < 80) (e : ∀ a b, ¬ ((((8 ≤ a ∧ a ≤ 12) ∨ (34 ≤ a ∧ a ≤ 37)) ∧ b = σ 7 1) ∨ (a = 1 ∧ b = 7) ∨ (a = 7 ∧ (b = 0 ∨ b = 1))) → σ' a b = σ a b) (e1 : σ' 1 7 = σ 7 1 + 1) (e7 : σ' 7 1 = σ 7 1 + 1) (nl : jl1 σ' (σ 7 1)) (s6 : σ' 34 (σ 7 1) ≤ 6) : jSrc σ' := by
  have h1 := h.a1
  have h2 := h.a2
  have s0 := nl.2.1
  have c72 := e 7 2 (by omega)
  have c73 := e 7 3 (by omega)
  have c74 := e 7 4 (by omega)
  have c110 := e 1 10 (by omega)
  have c18 := e 1 8 (by omega)
  have c19 := e 1 9 (by omega)
  have r39 : σ' 39 = σ 39 := funext fun b => e 39 b (by omega)
  have r40 : σ' 40 = σ 40 := funext fun b => e 40 b (by omega)
  have r41 : σ' 41 = σ 41 := funext fun b => e 41 b (by omega)
  have r38 : σ' 38 = σ 38 := funext fun b => e 38 b (by omega)
  have r13 : σ' 13 = σ 13 := funext fun b => e 13 b (by omega)
  have r14 : σ' 14 = σ 14 := funext fun b => e 14 b (by omega)
  have op : ∀ x, jopn σ' x ↔ jopn σ x := fun x => by unfold jopn; rw [c74, c110, c72, r39, r40]
  have e34 : ∀ x, x < σ 7 1 → σ' 34 x = σ 34 x := fun x hx => e 34 x (by omega)
  refine h.gen (by rw [c72, c73, c74, c110, c18, c19]; omega) h80 e7 (by omega) (fun a ha x x0 x1 => e a x (by omega)) (fun m _ _ => by rw [r41]) (by omega) (fun x x0 x1 _ => ⟨by rw [r38], e 12 x (by omega)⟩) (fun x _ q => (op x).mp q) (fun x _ _ q q2 => absurd ((op x).mpr q) q2) nl (fun q => by omega) (fun q => by omega) (fun m m0 m1 => ?_) (fun m m0 m1 => ?_) (fun a b a0 ab b1 => ?_) (fun g g0 g1 => ?_) (fun g g' g0 gg g1 => ?_)
  · rw [c72] at m1
    have := h.mm m m0 m1
    rw [r14, r40, e34 _ this.2.1.2]
    exact ⟨this.1, by omega, this.2.2⟩
  · rw [c72, c110] at m1
    have := h.me m m0 m1
    rw [r40, r41, r38, op]
    exact ⟨this.1, by omega, this.2.2⟩
  · rw [c72] at b1; rw [r41, r40]; exact h.mo a b a0 ab b1
  · rw [c74] at g1
    have := h.gg g g0 g1
    rw [r13, r39, r40, c110, c72, e34 _ this.2.1.2]
    exact ⟨this.1, by omega, this.2.2⟩
  · rw [c74] at g1; rw [r39]; exact h.go g g' g0 gg g1
/-- a line that begins a group -/
theorem jSrc.grp {σ σ' : JM} (h : jSrc σ) (h80 : σ 7 1 < 80) (e : ∀ a b, ¬ ((((8 ≤ a ∧ a ≤ 12) ∨ (34 ≤ a ∧ a ≤ 37)) ∧ b = σ 7 1) ∨ ((a = 13 ∨ a = 39) ∧ b = σ 7 4) ∨ (a = 1 ∧ (b = 7 ∨ b = 9)) ∨ (a = 7 ∧ (b = 0 ∨ b = 1 ∨ b = 4))) → σ' a b = σ a b) (e1 : σ' 1 7 = σ 7 1 + 1) (e7 : σ' 7 1 = σ 7 1 + 1) (e19 : σ' 1 9 = σ 7 4 + 1) (e74 : σ' 7 4 = σ 7 4 + 1) (n13 : σ' 13 (σ 7 4) = σ 7 1) (n39 : σ' 39 (σ 7 4) = σ 7 1) (nl : jl1 σ' (σ 7 1)) (s7 : jgk (σ' 34 (σ 7 1))) : jSrc σ' := by
  have h1 := h.a1
  have h2 := h.a2
  have c72 := e 7 2 (by omega)
  have c73 := e 7 3 (by omega)
  have c110 := e 1 10 (by omega)
  have c18 := e 1 8 (by omega)
  have r40 : σ' 40 = σ 40 := funext fun b => e 40 b (by omega)
  have r41 : σ' 41 = σ 41 := funext fun b => e 41 b (by omega)
  have r38 : σ' 38 = σ 38 := funext fun b => e 38 b (by omega)
  have r14 : σ' 14 = σ 14 := funext fun b => e 14 b (by omega)
  have r39 : ∀ g, g < σ 7 4 → σ' 39 g = σ 39 g := fun g hg => e 39 g (by omega)
  have r13 : ∀ g, g < σ 7 4 → σ' 13 g = σ 13 g := fun g hg => e 13 g (by omega)
  have op : ∀ x, x < σ 7 1 → (jopn σ' x ↔ jopn σ x) := fun x hx => by
    unfold jopn
    rw [c110, c72, r40, e74]
    constructor
    · rintro (⟨g, g1, g2⟩ | q)
      · by_cases z : g = σ 7 4
        · rw [z, n39] at g2; omega
        · rw [r39 g (by omega)] at g2; exact Or.inl ⟨g, by omega, g2⟩
      · exact Or.inr q
    · rintro (⟨g, g1, g2⟩ | q)
      · exact Or.inl ⟨g, by omega, by rw [r39 g g1.2]; exact g2⟩
      · exact Or.inr q
  have e34 : ∀ x, x < σ 7 1 → σ' 34 x = σ 34 x := fun x hx => e 34 x (by omega)
  refine h.gen (by rw [c72, c73, e74, c110, c18, e19]; omega) h80 e7 (by omega) (fun a ha x x0 x1 => e a x (by omega)) (fun m _ _ => by rw [r41]) (by omega) (fun x x0 x1 _ => ⟨by rw [r38], e 12 x (by omega)⟩) (fun x x1 q => (op x x1).mp q) (fun x _ x1 q q2 => absurd ((op x x1).mpr q) q2) nl (fun _ => Or.inl ⟨σ 7 4, by omega, n39.symm⟩) (fun q => by omega) (fun m m0 m1 => ?_) (fun m m0 m1 => ?_) (fun a b a0 ab b1 => ?_) (fun g g0 g1 => ?_) (fun g g' g0 gg g1 => ?_)
  · rw [c72] at m1
    have := h.mm m m0 m1
    rw [r14, r40, e34 _ this.2.1.2]
    exact ⟨this.1, by omega, this.2.2⟩
  · rw [c72, c110] at m1
    have := h.me m m0 m1
    have h3 := h.mm m m0 (by omega)
    rw [r40, r41, r38, op _ h3.2.1.2]
    exact ⟨this.1, by omega, this.2.2⟩
  · rw [c72] at b1; rw [r41, r40]; exact h.mo a b a0 ab b1
  · rw [e74] at g1
    by_cases z : g = σ 7 4
    · rw [z, n13, n39, r40, c110, c72]
      refine ⟨rfl, by omega, s7, fun q => ?_⟩
      exact (h.mm (σ 7 2 - 1) (by omega) (by omega)).2.1.2
    · have := h.gg g g0 (by omega)
      rw [r13 g (by omega), r39 g (by omega), r40, c110, c72, e34 _ this.2.1.2]
      exact ⟨this.1, by omega, this.2.2⟩
  · rw [e74] at g1
    by_cases z : g' = σ 7 4
    · rw [z, n39, r39 g (by omega)]
      exact (h.gg g g0 (by omega)).2.1.2
    · rw [r39 g (by omega), r39 g' (by omega)]; exact h.go g g' g0 gg (by omega)
/-- a line that begins a macro -/
theorem jSrc.mac {σ σ' : JM} (h : jSrc σ) (h80 : σ 7 1 < 80) (hg : σ 7 4 = 0) (hm : σ 1 10 = 0) (h8 : σ 7 2 < 8) (e : ∀ a b, ¬ ((((8 ≤ a ∧ a ≤ 12) ∨ (34 ≤ a ∧ a ≤ 37)) ∧ b = σ 7 1) ∨ ((a = 14 ∨ a = 40) ∧ b = σ 7 2) ∨ (a = 1 ∧ (b = 7 ∨ b = 8 ∨ b = 10)) ∨ (a = 7 ∧ (b = 0 ∨ b = 1 ∨ b = 2 ∨ b = 3))) → σ' a b = σ a b) (e1 : σ' 1 7 = σ 7 1 + 1) (e7 : σ' 7 1 = σ 7 1 + 1) (e18 : σ' 1 8 = σ 7 2 + 1) (e72 : σ' 7 2 = σ 7 2 + 1) (e110 : σ' 1 10 = 1) (e73 : σ' 7 3 = σ 7 2) (n14 : σ' 14 (σ 7 2) = σ 7 1) (n40 : σ' 40 (σ 7 2) = σ 7 1) (nl : jl1 σ' (σ 7 1)) (s11 : σ' 34 (σ 7 1) = 11) : jSrc σ' := by
  have h1 := h.a1
  have h2 := h.a2
  have c74 := e 7 4 (by omega)
  have c19 := e 1 9 (by omega)
  have r41 : σ' 41 = σ 41 := funext fun b => e 41 b (by omega)
  have r38 : σ' 38 = σ 38 := funext fun b => e 38 b (by omega)
  have r40 : ∀ m, m < σ 7 2 → σ' 40 m = σ 40 m := fun m hm => e 40 m (by omega)
  have r14 : ∀ m, m < σ 7 2 → σ' 14 m = σ 14 m := fun m hm => e 14 m (by omega)
  have no := jSrc.no hg hm
  have op : ∀ x, x < σ 7 1 → ¬ jopn σ' x := fun x hx => by
    rintro (⟨g, g1, g2⟩ | ⟨q1, q2⟩)
    · omega
    · rw [e72, Int.add_sub_cancel, n40] at q2; omega
  have e34 : ∀ x, x < σ 7 1 → σ' 34 x = σ 34 x := fun x hx => e 34 x (by omega)
  refine h.gen (by rw [e72, e73, c74, e110, e18, c19]; omega) h80 e7 (by omega) (fun a ha x x0 x1 => e a x (by omega)) (fun m _ _ => by rw [r41]) (by omega) (fun x x0 x1 _ => ⟨by rw [r38], e 12 x (by omega)⟩) (fun x x1 q => absurd q (op x x1)) (fun x _ x1 q q2 => absurd q (no x)) nl (fun _ => Or.inr ⟨e110, by rw [e72, Int.add_sub_cancel, n40]⟩) (fun q => by omega) (fun m m0 m1 => ?_) (fun m m0 m1 => ?_) (fun a b a0 ab b1 => ?_) (fun g g0 g1 => by omega) (fun g g' g0 gg g1 => by omega)
  · rw [e72] at m1
    by_cases z : m = σ 7 2
    · rw [z, n14, n40]; exact ⟨rfl, by omega, s11⟩
    · have := h.mm m m0 (by omega)
      rw [r14 m (by omega), r40 m (by omega), e34 _ this.2.1.2]
      exact ⟨this.1, by omega, this.2.2⟩
  · rw [e72, e110] at m1
    have := h.me m m0 (by omega)
    have h3 := h.mm m m0 (by omega)
    rw [r40 m (by omega), r41, r38]
    exact ⟨this.1, by omega, this.2.2.1, op _ h3.2.1.2⟩
  · rw [e72] at b1
    by_cases z : b = σ 7 2
    · rw [z, r41, n40]; exact (h.me a a0 (by omega)).2.1
    · rw [r41, r40 b (by omega)]; exact h.mo a b a0 ab (by omega)
/-- a line that ends a group -/
theorem jSrc.end_ {σ σ' : JM} (h : jSrc σ) (h80 : σ 7 1 < 80) (hg : σ 7 4 ≠ 0) (e : ∀ a b, ¬ ((((8 ≤ a ∧ a ≤ 12) ∨ (34 ≤ a ∧ a ≤ 37)) ∧ b = σ 7 1) ∨ ((a = 12 ∨ a = 38) ∧ b = σ 39 (σ 7 4 - 1)) ∨ (a = 1 ∧ (b = 7 ∨ b = 9)) ∨ (a = 7 ∧ (b = 0 ∨ b = 1 ∨ b = 4))) → σ' a b = σ a b) (e1 : σ' 1 7 = σ 7 1 + 1) (e7 : σ' 7 1 = σ 7 1 + 1) (e19 : σ' 1 9 = σ 7 4 - 1) (e74 : σ' 7 4 = σ 7 4 - 1) (n38 : σ' 38 (σ 39 (σ 7 4 - 1)) = σ 7 1) (n12 : σ' 12 (σ 39 (σ 7 4 - 1)) = σ 7 1) (m12 : σ' 12 (σ 7 1) = σ 39 (σ 7 4 - 1)) (nl : jl1 σ' (σ 7 1)) (s10 : σ' 34 (σ 7 1) = 10) : jSrc σ' := by
  have h1 := h.a1
  have h2 := h.a2
  have c72 := e 7 2 (by omega)
  have c73 := e 7 3 (by omega)
  have c110 := e 1 10 (by omega)
  have c18 := e 1 8 (by omega)
  have r39 : σ' 39 = σ 39 := funext fun b => e 39 b (by omega)
  have r40 : σ' 40 = σ 40 := funext fun b => e 40 b (by omega)
  have r41 : σ' 41 = σ 41 := funext fun b => e 41 b (by omega)
  have r13 : σ' 13 = σ 13 := funext fun b => e 13 b (by omega)
  have r14 : σ' 14 = σ 14 := funext fun b => e 14 b (by omega)
  have gl := h.gg (σ 7 4 - 1) (by omega) (by omega)
  obtain ⟨o, ho⟩ : ∃ o, σ 39 (σ 7 4 - 1) = o := ⟨_, rfl⟩
  rw [ho] at gl e n38 n12 m12
  have r38 : ∀ x, x ≠ o → σ' 38 x = σ 38 x := fun x hx => e 38 x (by omega)
  have r12 : ∀ x, x ≠ o → x ≠ σ 7 1 → σ' 12 x = σ 12 x := fun x hx hx2 => e 12 x (by omega)
  have oo : jopn σ o := Or.inl ⟨σ 7 4 - 1, by omega, ho.symm⟩
  have op : ∀ x, jopn σ' x → jopn σ x := fun x => by
    unfold jopn
    rw [c110, c72, r39, r40, e74]
    rintro (⟨g, g1, g2⟩ | q)
    · exact Or.inl ⟨g, by omega, g2⟩
    · exact Or.inr q
  have op2 : ∀ x, jopn σ x → ¬ jopn σ' x → x = o := fun x q q2 => by
    rcases q with ⟨g, g1, g2⟩ | q
    · by_cases z : g = σ 7 4 - 1
      · rw [g2, z, ho]
      · exact absurd (Or.inl ⟨g, by omega, by rw [r39]; exact g2⟩) q2
    · exact absurd (Or.inr (by rw [c110, c72, r40]; exact q)) q2
  have no : ¬ jopn σ' o := by
    unfold jopn
    rw [c110, c72, r39, r40, e74]
    rintro (⟨g, g1, g2⟩ | ⟨q1, q2⟩)
    · have := h.go g (σ 7 4 - 1) g1.1 g1.2 (by omega)
      omega
    · have := gl.2.2.2 q1
      omega
  have e34 : ∀ x, x < σ 7 1 → σ' 34 x = σ 34 x := fun x hx => e 34 x (by omega)
  refine h.gen (by rw [c72, c73, e74, c110, c18, e19]; omega) h80 e7 (by omega) (fun a ha x x0 x1 => e a x (by omega)) (fun m _ _ => by rw [r41]) (by omega) (fun x x0 x1 q => ?_) (fun x x1 q => op x q) (fun x x0 x1 q q2 => ?_) nl (fun q => by omega) (fun _ => ⟨o, gl.2.1, by omega, no, n38⟩) (fun m m0 m1 => ?_) (fun m m0 m1 => ?_) (fun a b a0 ab b1 => ?_) (fun g g0 g1 => ?_) (fun g g' g0 gg g1 => ?_)
  · have : x ≠ o := fun z => q (by rw [z]; exact oo)
    exact ⟨r38 x this, r12 x this (by omega)⟩
  · have ex := op2 x q q2
    subst ex
    refine ⟨n38, ⟨by omega, by omega, by rw [n38]; exact n12, by rw [n38]; exact m12, by rw [n38, s10, e34 x x1, if_neg (by omega)]⟩, fun y a b d q3 => ?_⟩
    rcases q3 with ⟨g, g1, g2⟩ | ⟨q3, q4⟩
    · by_cases z : g = σ 7 4 - 1
      · rw [z] at g2; omega
      · have := h.go g (σ 7 4 - 1) g1.1 (by omega) (by omega)
        omega
    · have := gl.2.2.2 q3
      omega
  · rw [c72] at m1
    have := h.mm m m0 m1
    rw [r14, r40, e34 _ this.2.1.2]
    exact ⟨this.1, by omega, this.2.2⟩
  · rw [c72, c110] at m1
    have := h.me m m0 m1
    have h3 := h.mm m m0 (by omega)
    have : σ 40 m ≠ o := fun z => by rw [z] at h3; omega
    rw [r40, r41, r38 _ this]
    have h4 := h.me m m0 m1
    exact ⟨h4.1, by omega, h4.2.2.1, fun q => h4.2.2.2 (op _ q)⟩
  · rw [c72] at b1; rw [r41, r40]; exact h.mo a b a0 ab b1
  · rw [e74] at g1
    have := h.gg g g0 (by omega)
    rw [r13, r39, r40, c110, c72, e34 _ this.2.1.2]
    exact ⟨this.1, by omega, this.2.2⟩
  · rw [e74] at g1; rw [r39]; exact h.go g g' g0 gg (by omega)
/-- a line that ends a macro -/
theorem jSrc.cls {σ σ' : JM} (h : jSrc σ) (h80 : σ 7 1 < 80) (hg : σ 7 4 = 0) (hm : σ 1 10 = 1) (e : ∀ a b, ¬ ((((8 ≤ a ∧ a ≤ 12) ∨ (34 ≤ a ∧ a ≤ 37)) ∧ b = σ 7 1) ∨ ((a = 12 ∨ a = 38) ∧ b = σ 40 (σ 7 2 - 1)) ∨ (a = 41 ∧ b = σ 7 2 - 1) ∨ (a = 1 ∧ (b = 7 ∨ b = 10)) ∨ (a = 7 ∧ (b = 0 ∨ b = 1 ∨ b = 3))) → σ' a b = σ a b) (e1 : σ' 1 7 = σ 7 1 + 1) (e7 : σ' 7 1 = σ 7 1 + 1) (e110 : σ' 1 10 = 0) (e73 : σ' 7 3 = -1) (n41 : σ' 41 (σ 7 2 - 1) = σ 7 1) (n38 : σ' 38 (σ 40 (σ 7 2 - 1)) = σ 7 1) (n12 : σ' 12 (σ 40 (σ 7 2 - 1)) = σ 7 1) (m12 : σ' 12 (σ 7 1) = σ 40 (σ 7 2 - 1)) (nl : jl1 σ' (σ 7 1)) (s12 : σ' 34 (σ 7 1) = 12) : jSrc σ' := by
  have h1 := h.a1
  have h2 := h.a2
  have c72 := e 7 2 (by omega)
  have c74 := e 7 4 (by omega)
  have c18 := e 1 8 (by omega)
  have c19 := e 1 9 (by omega)
  have r40 : σ' 40 = σ 40 := funext fun b => e 40 b (by omega)
  have r14 : σ' 14 = σ 14 := funext fun b => e 14 b (by omega)
  have r41 : ∀ m, m ≠ σ 7 2 - 1 → σ' 41 m = σ 41 m := fun m hm => e 41 m (by omega)
  have gl := h.mm (σ 7 2 - 1) (by omega) (by omega)
  obtain ⟨o, ho⟩ : ∃ o, σ 40 (σ 7 2 - 1) = o := ⟨_, rfl⟩
  rw [ho] at gl e n38 n12 m12
  have r38 : ∀ x, x ≠ o → σ' 38 x = σ 38 x := fun x hx => e 38 x (by omega)
  have r12 : ∀ x, x ≠ o → x ≠ σ 7 1 → σ' 12 x = σ 12 x := fun x hx hx2 => e 12 x (by omega)
  have oo : jopn σ o := Or.inr ⟨hm, ho.symm⟩
  have no : ∀ x, ¬ jopn σ' x := jSrc.no (by omega) e110
  have op2 : ∀ x, jopn σ x → x = o := fun x q => by
    rcases q with ⟨g, g1, g2⟩ | q
    · omega
    · rw [q.2, ho]
  have e34 : ∀ x, x < σ 7 1 → σ' 34 x = σ 34 x := fun x hx => e 34 x (by omega)
  refine h.gen (by rw [c72, e73, c74, e110, c18, c19]; omega) h80 e7 (by omega) (fun a ha x x0 x1 => e a x (by omega)) (fun m _ m1 => r41 m (by omega)) (by omega) (fun x x0 x1 q => ?_) (fun x x1 q => absurd q (no x)) (fun x x0 x1 q q2 => ?_) nl (fun q => by omega) (fun _ => ⟨o, gl.2.1, by omega, no o, n38⟩) (fun m m0 m1 => ?_) (fun m m0 m1 => ?_) (fun a b a0 ab b1 => ?_) (fun g g0 g1 => by omega) (fun g g' g0 gg g1 => by omega)
  · have : x ≠ o := fun z => q (by rw [z]; exact oo)
    exact ⟨r38 x this, r12 x this (by omega)⟩
  · have ex := op2 x q
    subst ex
    refine ⟨n38, ⟨by omega, by omega, by rw [n38]; exact n12, by rw [n38]; exact m12, by rw [n38, s12, e34 x x1, if_pos gl.2.2]⟩, fun y a b d q3 => ?_⟩
    have := op2 y q3
    omega
  · rw [c72] at m1
    have := h.mm m m0 m1
    rw [r14, r40, e34 _ this.2.1.2]
    exact ⟨this.1, by omega, this.2.2⟩
  · rw [c72, e110] at m1
    by_cases z : m = σ 7 2 - 1
    · rw [z, r40, n41, ho, n38]; exact ⟨gl.2.1.2, by omega, rfl, no o⟩
    · have h4 := h.me m m0 (by omega)
      have h5 := h.mo m (σ 7 2 - 1) m0 (by omega) (by omega)
      have : σ 40 m ≠ o := fun q => by omega
      rw [r40, r41 m z, r38 _ this]
      exact ⟨h4.1, by omega, h4.2.2.1, no _⟩
  · rw [c72] at b1; rw [r41 a (by omega), r40]; exact h.mo a b a0 ab b1
