/-! ===== kept counts and the listing while lines are fed ===== -/
def jHs (σ : JM) (x to : Int) : Prop := (∀ y, x ≤ y → y < to → jop (σ 34 y) → ¬ jopn σ y ∧ σ 38 y < to) ∧ ∀ y, x ≤ y → y < to → jcz (σ 34 y) → ∃ z, x ≤ z ∧ z < y ∧ jop (σ 34 z) ∧ σ 38 z = y
theorem jHs.inn {σ : JM} (S : jSrc σ) {x to : Int} (x0 : 0 ≤ x) (ht : to ≤ σ 7 1) (w : jHs σ x to) (b : x < to) (o : jop (σ 34 x)) : jHs σ (x + 1) (σ 38 x) ∧ x < σ 38 x ∧ σ 38 x < to := by
  have w1 := w.1 x (Int.le_refl _) b o
  have c := S.op x x0 (by omega) o w1.1
  refine ⟨⟨fun y a d q => c.2 y (by omega) d q, fun y a d q => ?_⟩, c.1.1, w1.2⟩
  obtain ⟨z, z1, z2, z3, z4⟩ := w.2 y (by omega) (by omega) q
  refine ⟨z, ?_, z2, z3, z4⟩
  by_cases e : z = x
  · subst e; omega
  · omega
theorem jHs.nxt {σ : JM} (S : jSrc σ) {x to : Int} (x0 : 0 ≤ x) (ht : to ≤ σ 7 1) (w : jHs σ x to) (b : x < to) (o : jop (σ 34 x)) : jHs σ (σ 38 x + 1) to := by
  have w1 := w.1 x (Int.le_refl _) b o
  have c := S.op x x0 (by omega) o w1.1
  have cl := c.1.2.2.2.2
  have c1 := c.1.1
  refine ⟨fun y a d q => w.1 y (by omega) d q, fun y a d q => ?_⟩
  obtain ⟨z, z1, z2, z3, z4⟩ := w.2 y (by omega) d q
  refine ⟨z, ?_, z2, z3, z4⟩
  by_cases e : z = x
  · subst e; omega
  · by_cases e2 : z < σ 38 x
    · have := (c.2 z (by omega) e2 z3).2
      omega
    · by_cases e3 : z = σ 38 x
      · rw [← e3] at cl
        split at cl <;> omega
      · omega
theorem jHs.suc {σ : JM} {x to : Int} (w : jHs σ x to) (o : ¬ jop (σ 34 x)) : jHs σ (x + 1) to := by
  refine ⟨fun y a d q => w.1 y (by omega) d q, fun y a d q => ?_⟩
  obtain ⟨z, z1, z2, z3, z4⟩ := w.2 y (by omega) d q
  refine ⟨z, ?_, z2, z3, z4⟩
  by_cases e : z = x
  · subst e; exact absurd z3 o
  · omega
theorem jHs.ncl {σ : JM} {x to : Int} (w : jHs σ x to) (b : x < to) : ¬ jcz (σ 34 x) := fun q => by
  obtain ⟨z, z1, z2, -⟩ := w.2 x (Int.le_refl _) b q
  omega
theorem jHs.mac {σ : JM} (S : jSrc σ) {m : Int} (m0 : 0 ≤ m) (m1 : m < σ 7 2 - σ 1 10) : jHs σ (σ 40 m + 1) (σ 41 m) := by
  have a1 := S.a1
  have mm := S.mm m m0 (by omega)
  have me := S.me m m0 m1
  have op : jop (σ 34 (σ 40 m)) := by omega
  have c := S.op (σ 40 m) mm.2.1.1 mm.2.1.2 op me.2.2.2
  rw [me.2.2.1] at c
  refine ⟨fun y a d q => c.2 y (by omega) d q, fun y a d q => ?_⟩
  obtain ⟨z, z1, z2, z3, z4⟩ := S.cl y (by omega) (by omega) q
  refine ⟨z, ?_, z1.2, z2, z4⟩
  by_cases e : z = σ 40 m
  · rw [e, me.2.2.1] at z4; omega
  · by_cases e2 : z < σ 40 m
    · have cz := S.op z z1.1 (by omega) z2 z3
      have := (cz.2 (σ 40 m) e2 (by omega) op).2
      rw [me.2.2.1] at this
      omega
    · omega
theorem jcn_sg {σ σ' : JM} (S : jSrc σ) (rw1 : ∀ a : Nat, (34 ≤ a ∧ a ≤ 37) → ∀ x, 0 ≤ x → x < σ 7 1 → σ' a x = σ a x) (r38 : ∀ x, 0 ≤ x → x < σ 7 1 → ¬ jopn σ x → σ' 38 x = σ 38 x) (r4 : ∀ m, 0 ≤ m → m < σ 7 2 - σ 1 10 → σ' 40 m = σ 40 m ∧ σ' 41 m = σ 41 m) : ∀ (n : Nat) (x to p q : Int), 0 ≤ x → to ≤ σ 7 1 → jHs σ x to → jcn n σ' x to p q = jcn n σ x to p q := by
  intro n
  induction n with
  | zero => intro x to p q _ _ _; rfl
  | succ n ih =>
    intro x to p q x0 ht w
    by_cases h : to ≤ x
    · rw [jcn_0 h, jcn_0 h]
    have h : x < to := by omega
    have e34 := rw1 34 (by decide) x x0 (by omega)
    have e35 := rw1 35 (by decide) x x0 (by omega)
    have e36 := rw1 36 (by decide) x x0 (by omega)
    have e37 := rw1 37 (by decide) x x0 (by omega)
    have l := S.ln x x0 (by omega)
    have l0 := l.2.1
    have ncl := w.ncl h
    have ea : jwa σ' x p q = jwa σ x p q := by unfold jwa; rw [e35]
    have eb : jwb σ' x p q = jwb σ x p q := by unfold jwb; rw [e36]
    by_cases h6 : σ 34 x < 6
    · rw [jcn_i h (by omega), jcn_i h h6, ih (x + 1) to p q (by omega) ht (w.suc (by omega))]
    by_cases h7 : σ 34 x = 6
    · have c := l.2.2.2.2.2.2 h7
      have a1 := S.a1
      have mm := S.mm (σ 37 x) c.1 (by omega)
      have me := S.me (σ 37 x) c.1 c.2.1
      have g := r4 (σ 37 x) c.1 c.2.1
      have eC : jcC n σ' x p q = jcC n σ x p q := by
        unfold jcC
        rw [e37, g.1, g.2, ea, eb]
        exact ih _ _ _ _ (by omega) (by omega) (jHs.mac S c.1 c.2.1)
      rw [jcn_c h (by omega), jcn_c h h7, eC, ih (x + 1) to p q (by omega) ht (w.suc (by omega))]
    have op : jop (σ 34 x) := by omega
    have w1 := w.1 x (Int.le_refl _) h op
    have inn := w.inn S x0 ht h op
    have nx := w.nxt S x0 ht h op
    have e38 := r38 x x0 (by omega) w1.1
    have i2 := ih (σ 38 x + 1) to p q (by omega) ht nx
    by_cases h11 : σ 34 x = 11
    · rw [jcn_m h (by omega), jcn_m h h11, e38, i2]
    have er : jrd σ' x p q = jrd σ x p q := by unfold jrd; rw [e34, ea, eb]
    have i1 := ih (x + 1) (σ 38 x) p q (by omega) (by omega) inn.1
    by_cases hr : 0 < jrd σ x p q
    · rw [jcn_g h (by omega) (by omega) (by rw [er]; exact hr), jcn_g h h11 (by omega) hr, er, e38, e34, ea, i1, i2]
    · rw [jcn_z h (by omega) (by omega) (by rw [er]; exact hr), jcn_z h h11 (by omega) hr, e38, i2]
/-- the kept counts -/
def jGM (σ : JM) : Prop := ∀ i, 0 ≤ i → i < 4096 → σ 32 i < (σ 6 4 + 1) * 8000000 ∧ ∀ m a b, (0 ≤ m ∧ m < 8) → (0 ≤ a ∧ a ≤ 999) → (0 ≤ b ∧ b ≤ 999) → σ 32 i = jky (σ 6 4) m a b → m < σ 7 2 - σ 1 10 ∧ jcvR (jcm σ m a b) (σ 33 i)
theorem jGM.feed {σ σ' : JM} (S : jSrc σ) (g : jGM σ) (e64 : σ' 6 4 = σ 6 4) (e32 : ∀ i, σ' 32 i = σ 32 i ∧ σ' 33 i = σ 33 i) (en : σ 7 2 - σ 1 10 ≤ σ' 7 2 - σ' 1 10) (rw1 : ∀ a : Nat, (34 ≤ a ∧ a ≤ 37) → ∀ x, 0 ≤ x → x < σ 7 1 → σ' a x = σ a x) (r38 : ∀ x, 0 ≤ x → x < σ 7 1 → ¬ jopn σ x → σ' 38 x = σ 38 x) (r4 : ∀ m, 0 ≤ m → m < σ 7 2 - σ 1 10 → σ' 40 m = σ 40 m ∧ σ' 41 m = σ 41 m) : jGM σ' := fun i i0 i1 => by
  obtain ⟨g1, g2⟩ := g i i0 i1
  rw [e64, (e32 i).1, (e32 i).2]
  refine ⟨g1, fun m a b m0 a0 b0 e => ?_⟩
  obtain ⟨h1, h2⟩ := g2 m a b m0 a0 b0 e
  have me := S.me m m0.1 h1
  have a1 := S.a1
  have mm := S.mm m m0.1 (by omega)
  have r := r4 m m0.1 h1
  have ej : jcm σ' m a b = jcm σ m a b := by
    unfold jcm
    rw [r.1, r.2]
    exact jcn_sg S rw1 r38 r4 _ _ _ _ _ (by omega) (by omega) (jHs.mac S m0.1 h1)
  rw [ej]
  exact ⟨by omega, h2⟩
theorem jGM.mo {σ : JM} (g : jGM σ) (hm : σ 1 10 = 0) : jcmo σ σ := fun i i0 i1 => by
  obtain ⟨g1, g2⟩ := g i i0 i1
  refine ⟨g1, fun m a b m0 a0 b0 e => ?_⟩
  have := g2 m a b m0 a0 b0 e
  exact ⟨by omega, this.2⟩
/-- what was assembled, on both sides -/
def jLst (σ : JM) : Prop := (0 ≤ σ 7 16 ∧ σ 7 16 ≤ 200) ∧ (σ 2 6 = σ 7 16 ∧ σ 2 7 = σ 7 20 ∧ σ 5 2 = σ 7 19 ∧ σ 5 3 = jsum (jrel σ) (σ 7 19)) ∧ (0 ≤ σ 7 19 ∧ σ 7 19 ≤ 1400) ∧
  (∀ i, 0 ≤ i → i < σ 7 16 → (σ 15 i = σ 43 i ∧ σ 16 i = jmK σ i ∧ σ 17 i = σ 47 i ∧ σ 20 i = σ 48 i ∧ jad (σ 16) (σ 18) i = σ 48 i) ∧ (0 ≤ σ 44 i ∧ σ 44 i ≤ 5) ∧ (σ 50 i = 0 ∨ σ 50 i = 1) ∧ (σ 16 i = 103 → σ 18 i ≤ 8) ∧ σ 19 i = (if jrk (σ 44 i) then σ 49 i else -1) ∧ (jrk (σ 44 i) → 0 ≤ σ 49 i) ∧ (σ 44 i = 0 → 0 ≤ σ 45 i ∧ σ 45 i < 20)) ∧
  (∀ b, 0 ≤ b → b < σ 7 19 → σ 29 b = σ 51 b ∧ σ 30 b = σ 52 b ∧ 0 ≤ σ 51 b ∧ σ 51 b ≤ 100000) ∧
  (∀ v, 0 ≤ v → v < 20 → σ 21 v = jfs (jlp σ v) (σ 7 16))
def jBd (σ : JM) : Prop := (0 ≤ σ 7 16 ∧ σ 7 16 ≤ 200) ∧ (0 ≤ σ 7 19 ∧ σ 7 19 ≤ 1400) ∧ (∀ i, 0 ≤ i → i < σ 7 16 → 0 ≤ σ 44 i ∧ σ 44 i ≤ 5) ∧ (∀ i, 0 ≤ i → i < σ 7 19 → 0 ≤ σ 51 i ∧ σ 51 i ≤ 100000)
def jAsm (σ : JM) : Prop := jBd σ ∧ ((σ 7 13 = 0 ∧ σ 4 9 = 0) ∨ (σ 7 13 ≠ 0 ∧ σ 4 9 = σ 7 14 ∧ (0 < σ 4 9 ∧ σ 4 9 < 65536) ∧ (σ 7 14 ≠ 110 → σ 4 10 = σ 7 15) ∧ (σ 7 14 = 110 → jLst σ)))
theorem jLst.c {σ σ' : JM} (e : ∀ a b, ((15 ≤ a ∧ a ≤ 30) ∨ (42 ≤ a ∧ a ≤ 52) ∨ a = 2 ∨ a = 3 ∨ a = 4 ∨ a = 5 ∨ (a = 7 ∧ 13 ≤ b ∧ b ≤ 20)) → σ' a b = σ a b) (h : jLst σ) : jLst σ' := by
  have r : ∀ a : Nat, ((15 ≤ a ∧ a ≤ 30) ∨ (42 ≤ a ∧ a ≤ 52)) → σ' a = σ a := fun a ha => funext fun b => e a b (by omega)
  have eK : jmK σ' = jmK σ := jmK_c (fun b => e 44 b (by omega)) (fun b => e 50 b (by omega))
  have eR : jrel σ' = jrel σ := funext fun i => by unfold jrel; rw [r 52 (by decide)]
  have eP : ∀ v, jfs (jlp σ' v) (σ' 7 16) = jfs (jlp σ v) (σ 7 16) := fun v => by
    rw [e 7 16 (by omega)]
    refine jfs_c (fun i _ _ => ?_)
    unfold jlp; rw [r 44 (by decide), r 45 (by decide), r 46 (by decide)]
  obtain ⟨h1, h2, h3, h4, h5, h6⟩ := h
  refine ⟨by rw [e 7 16 (by omega)]; exact h1, by rw [e 7 16 (by omega), e 7 19 (by omega), e 7 20 (by omega), e 2 6 (by omega), e 2 7 (by omega), e 5 2 (by omega), e 5 3 (by omega), eR]; exact h2, by rw [e 7 19 (by omega)]; exact h3, ?_, ?_, fun v v0 v1 => by rw [eP, r 21 (by decide)]; exact h6 v v0 v1⟩
  · rw [e 7 16 (by omega), eK, r 15 (by decide), r 16 (by decide), r 17 (by decide), r 18 (by decide), r 19 (by decide), r 20 (by decide), r 43 (by decide), r 44 (by decide), r 45 (by decide), r 47 (by decide), r 48 (by decide), r 49 (by decide), r 50 (by decide)]
    exact h4
  · rw [e 7 19 (by omega), r 29 (by decide), r 30 (by decide), r 51 (by decide), r 52 (by decide)]
    exact h5
theorem jAsm.c {σ σ' : JM} (e : ∀ a b, ((15 ≤ a ∧ a ≤ 30) ∨ (42 ≤ a ∧ a ≤ 52) ∨ a = 2 ∨ a = 3 ∨ a = 4 ∨ a = 5 ∨ (a = 7 ∧ 13 ≤ b ∧ b ≤ 20)) → σ' a b = σ a b) (h : jAsm σ) : jAsm σ' := by
  unfold jAsm jBd
  rw [e 7 13 (by omega), e 7 14 (by omega), e 7 15 (by omega), e 4 9 (by omega), e 4 10 (by omega), e 7 16 (by omega), e 7 19 (by omega), show σ' 44 = σ 44 from funext fun b => e 44 b (by omega), show σ' 51 = σ 51 from funext fun b => e 51 b (by omega)]
  refine ⟨h.1, ?_⟩
  rcases h.2 with h | ⟨h1, h2, h3, h4, h5⟩
  · exact Or.inl h
  · exact Or.inr ⟨h1, h2, h3, h4, fun q => (h5 q).c e⟩
/-- THE COUPLING that the law's loop keeps; g bounds the generation -/
def jINV (g : Int) (σ : JM) : Prop := jSrc σ ∧ jGM σ ∧ jar0 σ ∧ (1 ≤ σ 6 4 ∧ σ 6 4 ≤ g) ∧ jAsm σ
/-- what feeding leaves alone -/
abbrev jfdc (a : Nat) (b : Int) : Prop := (8 ≤ a ∧ a ≤ 14) ∨ (34 ≤ a ∧ a ≤ 41) ∨ (a = 1 ∧ 7 ≤ b) ∨ (a = 7 ∧ b ≤ 4) ∨ a = 55 ∨ a = 56
theorem jINV.feed {g : Int} {σ σ' : JM} (h : jINV g σ) (e : ∀ a b, ¬ jfdc a b → σ' a b = σ a b) (S' : jSrc σ') (en : σ 7 2 - σ 1 10 ≤ σ' 7 2 - σ' 1 10) (rw1 : ∀ a : Nat, (34 ≤ a ∧ a ≤ 37) → ∀ x, 0 ≤ x → x < σ 7 1 → σ' a x = σ a x) (r38 : ∀ x, 0 ≤ x → x < σ 7 1 → ¬ jopn σ x → σ' 38 x = σ 38 x) (r4 : ∀ m, 0 ≤ m → m < σ 7 2 - σ 1 10 → σ' 40 m = σ 40 m ∧ σ' 41 m = σ 41 m) : jINV g σ' := by
  obtain ⟨h1, h2, h3, h4, h5⟩ := h
  refine ⟨S', h2.feed h1 (e 6 4 (by omega)) (fun i => ⟨e 32 i (by omega), e 33 i (by omega)⟩) en rw1 r38 r4, ?_, by rw [e 6 4 (by omega)]; exact h4, h5.c (fun a b hab => e a b (by omega))⟩
  unfold jar0 at h3 ⊢
  rw [e 27 0 (by omega), e 27 1 (by omega), e 28 0 (by omega), e 28 1 (by omega)]; exact h3
/-- nothing that matters is changed -/
theorem jINV.keep {g : Int} {σ σ' : JM} (h : jINV g σ) (e : ∀ a b, ¬ ((a = 7 ∧ b = 0) ∨ a = 55 ∨ a = 56 ∨ a = 53 ∨ a = 54 ∨ a = 31 ∨ (a = 7 ∧ b = 34)) → σ' a b = σ a b) : jINV g σ' := by
  obtain ⟨h1, h2, h3, h4, h5⟩ := h
  have r : ∀ a : Nat, ((8 ≤ a ∧ a ≤ 14) ∨ (34 ≤ a ∧ a ≤ 41)) → σ' a = σ a := fun a ha => funext fun b => e a b (by omega)
  have S' : jSrc σ' := by
    unfold jSrc jopn jcld jl1 jln at h1 ⊢
    rw [e 1 7 (by omega), e 1 8 (by omega), e 1 9 (by omega), e 1 10 (by omega), e 7 1 (by omega), e 7 2 (by omega), e 7 3 (by omega), e 7 4 (by omega), r 8 (by decide), r 9 (by decide), r 10 (by decide), r 11 (by decide), r 12 (by decide), r 13 (by decide), r 14 (by decide), r 34 (by decide), r 35 (by decide), r 36 (by decide), r 37 (by decide), r 38 (by decide), r 39 (by decide), r 40 (by decide), r 41 (by decide)]
    exact h1
  refine ⟨S', h2.feed h1 (e 6 4 (by omega)) (fun i => ⟨e 32 i (by omega), e 33 i (by omega)⟩) (by rw [e 7 2 (by omega), e 1 10 (by omega)]; exact Int.le_refl _) (fun a ha x _ _ => e a x (by omega)) (fun x _ _ _ => e 38 x (by omega)) (fun m _ _ => ⟨e 40 m (by omega), e 41 m (by omega)⟩), ?_, by rw [e 6 4 (by omega)]; exact h4, h5.c (fun a b hab => e a b (by omega))⟩
  unfold jar0 at h3 ⊢
  rw [e 27 0 (by omega), e 27 1 (by omega), e 28 0 (by omega), e 28 1 (by omega)]; exact h3
