abbrev jPG (σ : JM) (k f s r srt a b : Int) : JM := jBgM (jset (jset (jset (jApp σ k f s 0) 13 (σ 1 9) (σ 1 7)) 1 9 (σ 1 9 + 1)) 55 0 r) srt a b
theorem jPG_row {σ : JM} (e : σ 1 7 = σ 7 1) (e9 : σ 1 9 = σ 7 4) (k f s r srt a b : Int) : (jPG σ k f s r srt a b 8 (σ 7 1) = k ∧ jPG σ k f s r srt a b 9 (σ 7 1) = f ∧ jPG σ k f s r srt a b 10 (σ 7 1) = s ∧ jPG σ k f s r srt a b 11 (σ 7 1) = 0) ∧ (jPG σ k f s r srt a b 34 (σ 7 1) = srt ∧ jPG σ k f s r srt a b 35 (σ 7 1) = a ∧ jPG σ k f s r srt a b 36 (σ 7 1) = b ∧ jPG σ k f s r srt a b 37 (σ 7 1) = 0) ∧ jPG σ k f s r srt a b 1 7 = σ 7 1 + 1 ∧ jPG σ k f s r srt a b 7 1 = σ 7 1 + 1 ∧ jPG σ k f s r srt a b 1 9 = σ 7 4 + 1 ∧ jPG σ k f s r srt a b 7 4 = σ 7 4 + 1 ∧ jPG σ k f s r srt a b 13 (σ 7 4) = σ 7 1 ∧ jPG σ k f s r srt a b 39 (σ 7 4) = σ 7 1 := by
  refine ⟨⟨?_, ?_, ?_, ?_⟩, ⟨?_, ?_, ?_, ?_⟩, ?_, ?_, ?_, ?_, ?_, ?_⟩ <;> simp [jBgM, jAds, jApp, jset, e, e9]
theorem jPG_ne {σ : JM} (e : σ 1 7 = σ 7 1) (e9 : σ 1 9 = σ 7 4) (k f s r srt a b : Int) {u : Nat} {v : Int} (h : ¬ ((((8 ≤ u ∧ u ≤ 12) ∨ (34 ≤ u ∧ u ≤ 37)) ∧ v = σ 7 1) ∨ ((u = 13 ∨ u = 39) ∧ v = σ 7 4) ∨ (u = 1 ∧ (v = 7 ∨ v = 9)) ∨ (u = 7 ∧ (v = 0 ∨ v = 1 ∨ v = 4)) ∨ (u = 55 ∧ v = 0))) : jPG σ k f s r srt a b u v = σ u v := by
  unfold jPG
  rw [e, e9]
  obtain ⟨X, hX⟩ : ∃ X : JM, jset (jset (jset (jApp σ k f s 0) 13 (σ 7 4) (σ 7 1)) 1 9 (σ 7 4 + 1)) 55 0 r = X := ⟨_, rfl⟩
  have x1 : X 7 1 = σ 7 1 := by rw [← hX]; rfl
  have x4 : X 7 4 = σ 7 4 := by rw [← hX]; rfl
  have xx : X u v = σ u v := by
    rw [← hX, jset_ne _ (by omega), jset_ne _ (by omega), jset_ne _ (by omega)]
    unfold jApp
    rw [e, jset_ne _ (by omega), jset_ne _ (by omega), jset_ne _ (by omega), jset_ne _ (by omega), jset_ne _ (by omega), jset_ne _ (by omega)]
  rw [hX]
  unfold jBgM jAds
  rw [x4, x1]
  have y1 : jset (jset X 39 (σ 7 4) (σ 7 1)) 7 4 (σ 7 4 + 1) 7 1 = σ 7 1 := x1
  rw [y1, jset_ne _ (by omega), jset_ne _ (by omega), jset_ne _ (by omega), jset_ne _ (by omega), jset_ne _ (by omega), jset_ne _ (by omega), jset_ne _ (by omega), jset_ne _ (by omega)]
  exact xx
theorem fd_g {g : Int} {σ : JM} {k f s r srt a b : Int} (h : jINV g σ) (h80 : σ 7 1 < 80) (nw : jnw σ k f s 0 srt a b 0) (s7 : jgk srt) : jINV g (jPG σ k f s r srt a b) := by
  have S := h.1
  have a1 := S.a1
  have a2 := S.a2
  obtain ⟨r1, r2, r3, r4, r5, r6, r7, r8⟩ := jPG_row a1.1 a1.2.2.1 k f s r srt a b
  have e : ∀ u v, ¬ ((((8 ≤ u ∧ u ≤ 12) ∨ (34 ≤ u ∧ u ≤ 37)) ∧ v = σ 7 1) ∨ ((u = 13 ∨ u = 39) ∧ v = σ 7 4) ∨ (u = 1 ∧ (v = 7 ∨ v = 9)) ∨ (u = 7 ∧ (v = 0 ∨ v = 1 ∨ v = 4)) ∨ (u = 55 ∧ v = 0)) → jPG σ k f s r srt a b u v = σ u v := fun u v z => jPG_ne a1.1 a1.2.2.1 k f s r srt a b z
  obtain ⟨ρ, hρ⟩ : ∃ ρ, jPG σ k f s r srt a b = ρ := ⟨_, rfl⟩
  rw [hρ] at r1 r2 r3 r4 r5 r6 r7 r8 e ⊢
  have nl : jl1 ρ (σ 7 1) := nw.l r1 r2 (fun q => by omega)
  obtain ⟨ρ2, hρ2⟩ : ∃ ρ2 : JM, (fun u v => if u = 55 then σ u v else ρ u v) = ρ2 := ⟨_, rfl⟩
  have q2 : ∀ {u : Nat} {v : Int}, u ≠ 55 → ρ2 u v = ρ u v := fun {u v} z => by rw [← hρ2]; exact if_neg z
  have q5 : ∀ v, ρ2 55 v = σ 55 v := fun v => by rw [← hρ2]; exact if_pos rfl
  have e2 : ∀ u v, (u ≠ 55 → ρ u v = σ u v) → ρ2 u v = σ u v := fun u v z => by
    by_cases y : u = 55
    · subst y; exact q5 v
    · rw [q2 y]; exact z y
  have nl2 : jl1 ρ2 (σ 7 1) := by
    unfold jl1 jln at nl ⊢
    rw [q2 (by decide), q2 (by decide), q2 (by decide), q2 (by decide), q2 (by decide), q2 (by decide), q2 (by decide), q2 (by decide), q2 (by decide), q2 (by decide), q2 (by decide)]
    exact nl
  refine jINV.keep (σ := ρ2) ?_ (fun u v z => (q2 (by omega)).symm)
  have S2 : jSrc ρ2 := S.grp h80 (fun u v z => e2 u v (fun y => e u v (by omega))) (by rw [q2 (by decide)]; exact r3) (by rw [q2 (by decide)]; exact r4) (by rw [q2 (by decide)]; exact r5) (by rw [q2 (by decide)]; exact r6) (by rw [q2 (by decide)]; exact r7) (by rw [q2 (by decide)]; exact r8) nl2 (by rw [q2 (by decide), r2.1]; exact s7)
  exact h.feed (fun u v z => e2 u v (fun y => e u v (by omega))) S2 (by rw [q2 (by decide), q2 (by decide), e 7 2 (by omega), e 1 10 (by omega)]; exact Int.le_refl _) (fun u hu v _ _ => by rw [q2 (by omega)]; exact e u v (by omega)) (fun v _ _ _ => by rw [q2 (by decide)]; exact e 38 v (by omega)) (fun m _ _ => ⟨by rw [q2 (by decide)]; exact e 40 m (by omega), by rw [q2 (by decide)]; exact e 41 m (by omega)⟩)

