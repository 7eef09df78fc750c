/-! ===== kept counts and the listing while lines are fed ===== -/
def jHs (σ : JM) (x to : Int) : Prop := (∀ y, x ≤ y → y < to → jop (σ 34 y) → ¬ jopn σ y ∧ σ 38 y < to) ∧ ∀ y, x ≤ y → y < to → jcz (σ 34 y) → ∃ z, x ≤ z ∧ z < y ∧ jop (σ 34 z) ∧ σ 38 z = y
theorem jHs.inn {σ : JM} (S : jSrc σ) {x to : Int} (x0 : 0 ≤ x) (ht : to ≤ σ 7 1) (w : jHs σ x to) (b : x < to) (o : jop (σ 34 x)) : jHs σ (x + 1) (σ 38 x) ∧ x < σ 38 x ∧ σ 38 x < to := by
  have w1 := w.1 x (Int.le_refl _) b o
  have c := S.op x x0 (by omega) o w1.1
  refine ⟨⟨fun y a d q => c.2 y (by omega) d q, fun y a d q => ?_⟩, c.1.1, w1.2⟩
  obtain ⟨z, z1, z2, z3, z4⟩ := w.2 y (by omega) (by omega) q
  refine ⟨z, ?_, z2, z3, z4⟩
  by_cases e : z = x
  · subst e; omega
  · omega
theorem jHs.nxt {σ : JM} (S : jSrc σ) {x to : Int} (x0 : 0 ≤ x) (ht : to ≤ σ 7 1) (w : jHs σ x to) (b : x < to) (o : jop (σ 34 x)) : jHs σ (σ 38 x + 1) to := by
  have w1 := w.1 x (Int.le_refl _) b o
  have c := S.op x x0 (by omega) o w1.1
  have cl := c.1.2.2.2.2
  have c1 := c.1.1
  refine ⟨fun y a d q => w.1 y (by omega) d q, fun y a d q => ?_⟩
  obtain ⟨z, z1, z2, z3, z4⟩ := w.2 y (by omega) d q
  refine ⟨z, ?_, z2, z3, z4⟩
  by_cases e : z = x
  · subst e; omega
  · by_cases e2 : z < σ 38 x
    · have := (c.2 z (by omega) e2 z3).2
      omega
    · by_cases e3 : z = σ 38 x
      · rw [← e3] at cl
        split at cl <;> omega
      · omega
theorem jHs.suc {σ : JM} {x to : Int} (w : jHs σ x to) (o : ¬ jop (σ 34 x)) : jHs σ (x + 1) to := by
  refine ⟨fun y a d q => w.1 y (by omega) d q, fun y a d q => ?_⟩
  obtain ⟨z, z1, z2, z3, z4⟩ := w.2 y (by omega) d q
  refine ⟨z, ?_, z2, z3, z4⟩
  by_cases e : z = x
  · subst e; exact absurd z3 o
  · omega
theorem jHs.ncl {σ : JM} {x to : Int} (w : jHs σ x to) (b : x < to) : ¬ jcz (σ 34 x) := fun q => by
  obtain ⟨z, z1, z2, -⟩ := w.2 x (Int.le_refl _) b q
  omega
theorem jHs.mac {σ : JM} (S : jSrc σ) {m : Int} (m0 : 0 ≤ m) (m1 : m < σ 7 2 - σ 1 10) : jHs σ (σ 40 m + 1) (σ 41 m) := by
  have a1 := S.a1
  have mm := S.mm m m0 (by omega)
  have me := S.me m m0 m1
  have op : jop (σ 34 (σ 40 m)) := by omega
  have c := S.op (σ 40 m) mm.2.1.1 mm.2.1.2 op me.2.2.2
  rw [me.2.2.1] at c
  refine ⟨fun y a d q => c.2 y (by omega) d q, fun y a d q => ?_⟩
  obtain ⟨z, z1, z2, z3, z4⟩ := S.cl y (by omega) (by omega) q
  refine ⟨z, ?_, z1.2, z2, z4⟩
  by_cases e : z = σ 40 m
  · rw [e, me.2.2.1] at z4; omega
  · by_cases e2 : z < σ 40 m
    · have cz := S.op z z1.1 (by omega) z2 z3
      have := (cz.2 (σ 40 m) e2 (by omega) op).2
      rw [me.2.2.1] at this
      omega
    · omega
theorem jcn_sg {σ σ' : JM} (S : jSrc σ) (rw1 : ∀ a : Nat, (34 ≤ a ∧ a ≤ 37) → ∀ x, 0 ≤ x → x < σ 7 1 → σ' a x = σ a x) (r38 : ∀ x, 0 ≤ x → x < σ 7 1 → ¬ jopn σ x → σ' 38 x = σ 38 x) (r4 : ∀ m, 0 ≤ m → m < σ 7 2 - σ 1 10 → σ' 40 m = σ 40 m ∧ σ' 41 m = σ 41 m) : ∀ (n : Nat) (x to p q : Int), 0 ≤ x → to ≤ σ 7 1 → jHs σ x to → jcn n σ' x to p q = jcn n σ x to p q := by
  intro n
  induction n with
  | zero => intro x to p q _ _ _; rfl
  | succ n ih =>
    intro x to p q x0 ht w
    by_cases h : to ≤ x
    · rw [jcn_0 h, jcn_0 h]
    have h : x < to := by omega
    have e34 := rw1 34 (by decide) x x0 (by omega)
    have e35 := rw1 35 (by decide) x x0 (by omega)
    have e36 := rw1 36 (by decide) x x0 (by omega)
    have e37 := rw1 37 (by decide) x x0 (by omega)
    have l := S.ln x x0 (by omega)
    have l0 := l.2.1
    have ncl := w.ncl h
    have ea : jwa σ' x p q = jwa σ x p q := by unfold jwa; rw [e35]
    have eb : jwb σ' x p q = jwb σ x p q := by unfold jwb; rw [e36]
    by_cases h6 : σ 34 x < 6
    · rw [jcn_i h (by omega), jcn_i h h6, ih (x + 1) to p q (by omega) ht (w.suc (by omega))]
    by_cases h7 : σ 34 x = 6
    · have c := l.2.2.2.2.2.2 h7
      have a1 := S.a1
      have mm := S.mm (σ 37 x) c.1 (by omega)
      have me := S.me (σ 37 x) c.1 c.2.1
      have g := r4 (σ 37 x) c.1 c.2.1
      have eC : jcC n σ' x p q = jcC n σ x p q := by
        unfold jcC
        rw [e37, g.1, g.2, ea, eb]
        exact ih _ _ _ _ (by omega) (by omega) (jHs.mac S c.1 c.2.1)
      rw [jcn_c h (by omega), jcn_c h h7, eC, ih (x + 1) to p q (by omega) ht (w.suc (by omega))]
    have op : jop (σ 34 x) := by omega
    have w1 := w.1 x (Int.le_refl _) h op
    have inn := w.inn S x0 ht h op
    have nx := w.nxt S x0 ht h op
    have e38 := r38 x x0 (by omega) w1.1
    have i2 := ih (σ 38 x + 1) to p q (by omega) ht nx
    by_cases h11 : σ 34 x = 11
    · rw [jcn_m h (by omega), jcn_m h h11, e38, i2]
    have er : jrd σ' x p q = jrd σ x p q := by unfold jrd; rw [e34, ea, eb]
    have i1 := ih (x + 1) (σ 38 x) p q (by omega) (by omega) inn.1
    by_cases hr : 0 < jrd σ x p q
    · rw [jcn_g h (by omega) (by omega) (by rw [er]; exact hr), jcn_g h h11 (by omega) hr, er, e38, e34, ea, i1, i2]
    · rw [jcn_z h (by omega) (by omega) (by rw [er]; exact hr), jcn_z h h11 (by omega) hr, e38, i2]
/-- the kept counts -/
def jGM (σ : JM) : Prop := ∀ i, 0 ≤ i → i < 4096 → σ 32 i < (σ 6 4 + 1) * 8000000 ∧ ∀ m a b, (0 ≤ m ∧ m < 8) → (0 ≤ a ∧ a ≤ 999) → (0 ≤ b ∧ b ≤ 999) → σ 32 i = jky (σ 6 4) m a b → m < σ 7 2 - σ 1 10 ∧ jcvR (jcm σ m a b) (σ 33 i)
theorem jGM.feed {σ σ' : JM} (S : jSrc σ) (g : jGM σ) (e64 : σ' 6 4 = σ 6 4) (e32 : ∀ i, σ' 32 i = σ 32 i ∧ σ' 33 i = σ 33 i) (en : σ 7 2 - σ 1 10 ≤ σ' 7 2 - σ' 1 10) (rw1 : ∀ a : Nat, (34 ≤ a ∧ a ≤ 37) → ∀ x, 0 ≤ x → x < σ 7 1 → σ' a x = σ a x) (r38 : ∀ x, 0 ≤ x → x < σ 7 1 → ¬ jopn σ x → σ' 38 x = σ 38 x) (r4 : ∀ m, 0 ≤ m → m < σ 7 2 - σ 1 10 → σ' 40 m = σ 40 m ∧ σ' 41 m = σ 41 m) : jGM σ' := fun i i0 i1 => by
  obtain ⟨g1, g2⟩ := g i i0 i1
  rw [e64, (e32 i).1, (e32 i).2]
  refine ⟨g1, fun m a b m0 a0 b0 e => ?_⟩
  obtain ⟨h1, h2⟩ := g2 m a b m0 a0 b0 e
  have me := S.me m m0.1 h1
  have a1 := S.a1
  have mm := S.mm m m0.1 (by omega)
  have r := r4 m m0.1 h1
  have ej : jcm σ' m a b = jcm σ m a b := by
    unfold jcm
    rw [r.1, r.2]
    exact jcn_sg S rw1 r38 r4 _ _ _ _ _ (by omega) (by omega) (jHs.mac S m0.1 h1)
  rw [ej]
  exact ⟨by omega, h2⟩
theorem jGM.mo {σ : JM} (g : jGM σ) (hm : σ 1 10 = 0) : jcmo σ σ := fun i i0 i1 => by
  obtain ⟨g1, g2⟩ := g i i0 i1
  refine ⟨g1, fun m a b m0 a0 b0 e => ?_⟩
  have := g2 m a b m0 a0 b0 e
  exact ⟨by omega, this.2⟩
/-- what was assembled: its bounds -/
def jAsm (σ : JM) : Prop := (0 ≤ σ 4 9 ∧ σ 4 9 < 65536) ∧ (σ 4 9 = 110 → (0 ≤ σ 2 6 ∧ σ 2 6 ≤ 200) ∧ 0 ≤ σ 5 2 ∧ σ 5 2 ≤ 1400)
theorem jAsm.c {σ σ' : JM} (e : ∀ a b, ((15 ≤ a ∧ a ≤ 30) ∨ (42 ≤ a ∧ a ≤ 52) ∨ a = 2 ∨ a = 3 ∨ a = 4 ∨ a = 5 ∨ (a = 7 ∧ 13 ≤ b ∧ b ≤ 20)) → σ' a b = σ a b) (h : jAsm σ) : jAsm σ' := by
  unfold jAsm at h ⊢
  rw [e 4 9 (by omega), e 2 6 (by omega), e 5 2 (by omega)]
  exact h
/-- THE COUPLING that the law's loop keeps; g bounds the generation -/
def jINV (g : Int) (σ : JM) : Prop := jSrc σ ∧ jGM σ ∧ jar0 σ ∧ (1 ≤ σ 6 4 ∧ σ 6 4 ≤ g) ∧ jAsm σ
/-- what feeding leaves alone -/
abbrev jfdc (a : Nat) (b : Int) : Prop := (8 ≤ a ∧ a ≤ 14) ∨ (34 ≤ a ∧ a ≤ 41) ∨ (a = 1 ∧ 7 ≤ b) ∨ (a = 7 ∧ b ≤ 4) ∨ a = 55 ∨ a = 56
theorem jINV.feed {g : Int} {σ σ' : JM} (h : jINV g σ) (e : ∀ a b, ¬ jfdc a b → σ' a b = σ a b) (S' : jSrc σ') (en : σ 7 2 - σ 1 10 ≤ σ' 7 2 - σ' 1 10) (rw1 : ∀ a : Nat, (34 ≤ a ∧ a ≤ 37) → ∀ x, 0 ≤ x → x < σ 7 1 → σ' a x = σ a x) (r38 : ∀ x, 0 ≤ x → x < σ 7 1 → ¬ jopn σ x → σ' 38 x = σ 38 x) (r4 : ∀ m, 0 ≤ m → m < σ 7 2 - σ 1 10 → σ' 40 m = σ 40 m ∧ σ' 41 m = σ 41 m) : jINV g σ' := by
  obtain ⟨h1, h2, h3, h4, h5⟩ := h
  refine ⟨S', h2.feed h1 (e 6 4 (by omega)) (fun i => ⟨e 32 i (by omega), e 33 i (by omega)⟩) en rw1 r38 r4, ?_, by rw [e 6 4 (by omega)]; exact h4, h5.c (fun a b hab => e a b (by omega))⟩
  unfold jar0 at h3 ⊢
  rw [e 27 0 (by omega), e 27 1 (by omega), e 28 0 (by omega), e 28 1 (by omega)]; exact h3
/-- nothing that matters is changed -/
theorem jINV.keep {g : Int} {σ σ' : JM} (h : jINV g σ) (e : ∀ a b, ¬ ((a = 7 ∧ b = 0) ∨ a = 55 ∨ a = 56 ∨ a = 53 ∨ a = 54 ∨ a = 31 ∨ (a = 7 ∧ b = 34) ∨ (a = 7 ∧ 100 ≤ b)) → σ' a b = σ a b) : jINV g σ' := by
  obtain ⟨h1, h2, h3, h4, h5⟩ := h
  have r : ∀ a : Nat, ((8 ≤ a ∧ a ≤ 14) ∨ (34 ≤ a ∧ a ≤ 41)) → σ' a = σ a := fun a ha => funext fun b => e a b (by omega)
  have S' : jSrc σ' := by
    unfold jSrc jopn jcld jl1 jln at h1 ⊢
    rw [e 1 7 (by omega), e 1 8 (by omega), e 1 9 (by omega), e 1 10 (by omega), e 7 1 (by omega), e 7 2 (by omega), e 7 3 (by omega), e 7 4 (by omega), r 8 (by decide), r 9 (by decide), r 10 (by decide), r 11 (by decide), r 12 (by decide), r 13 (by decide), r 14 (by decide), r 34 (by decide), r 35 (by decide), r 36 (by decide), r 37 (by decide), r 38 (by decide), r 39 (by decide), r 40 (by decide), r 41 (by decide)]
    exact h1
  refine ⟨S', h2.feed h1 (e 6 4 (by omega)) (fun i => ⟨e 32 i (by omega), e 33 i (by omega)⟩) (by rw [e 7 2 (by omega), e 1 10 (by omega)]; exact Int.le_refl _) (fun a ha x _ _ => e a x (by omega)) (fun x _ _ _ => e 38 x (by omega)) (fun m _ _ => ⟨e 40 m (by omega), e 41 m (by omega)⟩), ?_, by rw [e 6 4 (by omega)]; exact h4, h5.c (fun a b hab => e a b (by omega))⟩
  unfold jar0 at h3 ⊢
  rw [e 27 0 (by omega), e 27 1 (by omega), e 28 0 (by omega), e 28 1 (by omega)]; exact h3
