def jPC (σ : JM) : JM := jClM (jClr (jset σ 6 4 (σ 6 4 + 1)))
theorem jPC_ne {σ : JM} {u : Nat} {v : Int} (h : ¬ ((u = 6 ∧ v = 4) ∨ (u = 1 ∧ 7 ≤ v ∧ v ≤ 10) ∨ (u = 7 ∧ 0 ≤ v ∧ v ≤ 4))) : jPC σ u v = σ u v := by
  unfold jPC jClM jClr
  rw [jset_ne _ (by omega), jset_ne _ (by omega), jset_ne _ (by omega), jset_ne _ (by omega), jset_ne _ (by omega), jset_ne _ (by omega), jset_ne _ (by omega), jset_ne _ (by omega), jset_ne _ (by omega), jset_ne _ (by omega)]
theorem jPC_row (σ : JM) : (jPC σ 1 7 = 0 ∧ jPC σ 1 8 = 0 ∧ jPC σ 1 9 = 0 ∧ jPC σ 1 10 = 0) ∧ (jPC σ 7 1 = 0 ∧ jPC σ 7 2 = 0 ∧ jPC σ 7 3 = -1 ∧ jPC σ 7 4 = 0) ∧ jPC σ 6 4 = σ 6 4 + 1 := by
  refine ⟨⟨?_, ?_, ?_, ?_⟩, ⟨?_, ?_, ?_, ?_⟩, ?_⟩ <;> simp [jPC, jClM, jClr, jset]
theorem fd_c {g : Int} {σ : JM} (h : jINV g σ) : jINV (g + 1) (jPC σ) := by
  obtain ⟨h1, h2, h3, h4, h5⟩ := h
  have z0 := jPC_row σ
  have ne : ∀ {u : Nat} {v : Int}, ¬ ((u = 6 ∧ v = 4) ∨ (u = 1 ∧ 7 ≤ v ∧ v ≤ 10) ∨ (u = 7 ∧ 0 ≤ v ∧ v ≤ 4)) → jPC σ u v = σ u v := fun z => jPC_ne z
  obtain ⟨ρ, hρ⟩ : ∃ ρ, jPC σ = ρ := ⟨_, rfl⟩
  rw [hρ] at z0 ne ⊢
  obtain ⟨⟨y1, y2, y3, y4⟩, ⟨y5, y6, y7, y8⟩, z6⟩ := z0
  have S : jSrc ρ := by
    refine ⟨?_, ?_, ?_, ?_, ?_, ?_, ?_, ?_, ?_, ?_⟩
    · rw [y1, y2, y3, y4, y5, y6, y7, y8]; decide
    · rw [y5, y6, y8]; decide
    · intro x x0 x1; rw [y5] at x1; omega
    · intro m m0 m1; rw [y6] at m1; omega
    · intro m m0 m1; rw [y6, y4] at m1; omega
    · intro a b a0 ab b1; rw [y6] at b1; omega
    · intro g g0 g1; rw [y8] at g1; omega
    · intro g h g0 gh h1; rw [y8] at h1; omega
    · intro x x0 x1; rw [y5] at x1; omega
    · intro y y0 y1; rw [y5] at y1; omega
  refine ⟨S, fun i i0 i1 => ?_, ?_, by rw [z6]; omega, h5.c (fun a b hab => ne (by omega))⟩
  · obtain ⟨g1, g2⟩ := h2 i i0 i1
    rw [z6, ne (by omega)]
    refine ⟨by omega, fun m a b m0 a0 b0 e => ?_⟩
    unfold jky at e
    omega
  · unfold jar0 at h3 ⊢
    rw [ne (by omega), ne (by omega), ne (by omega), ne (by omega)]; exact h3

