abbrev jPM (σ : JM) (r : Int) : JM := jAds (jset (jset (jset (jset (jMac σ) 55 0 r) 40 (σ 7 2) (σ 7 1)) 7 3 (σ 7 2)) 7 2 (σ 7 2 + 1)) 11 0 0 0
theorem jPM_row {σ : JM} (e : σ 1 7 = σ 7 1) (e8 : σ 1 8 = σ 7 2) (r : Int) : (jPM σ r 8 (σ 7 1) = 77 ∧ jPM σ r 9 (σ 7 1) = 0 ∧ jPM σ r 10 (σ 7 1) = 0 ∧ jPM σ r 11 (σ 7 1) = 0) ∧ (jPM σ r 34 (σ 7 1) = 11 ∧ jPM σ r 35 (σ 7 1) = 0 ∧ jPM σ r 36 (σ 7 1) = 0 ∧ jPM σ r 37 (σ 7 1) = 0) ∧ jPM σ r 1 7 = σ 7 1 + 1 ∧ jPM σ r 7 1 = σ 7 1 + 1 ∧ jPM σ r 1 8 = σ 7 2 + 1 ∧ jPM σ r 7 2 = σ 7 2 + 1 ∧ jPM σ r 1 10 = 1 ∧ jPM σ r 7 3 = σ 7 2 ∧ jPM σ r 14 (σ 7 2) = σ 7 1 ∧ jPM σ r 40 (σ 7 2) = σ 7 1 := by
  refine ⟨⟨?_, ?_, ?_, ?_⟩, ⟨?_, ?_, ?_, ?_⟩, ?_, ?_, ?_, ?_, ?_, ?_, ?_, ?_⟩ <;> simp [jMac, jAds, jApp, jset, e, e8]
theorem jPM_ne {σ : JM} (e : σ 1 7 = σ 7 1) (e8 : σ 1 8 = σ 7 2) (r : Int) {u : Nat} {v : Int} (h : ¬ ((((8 ≤ u ∧ u ≤ 12) ∨ (34 ≤ u ∧ u ≤ 37)) ∧ v = σ 7 1) ∨ ((u = 14 ∨ u = 40) ∧ v = σ 7 2) ∨ (u = 1 ∧ (v = 7 ∨ v = 8 ∨ v = 10)) ∨ (u = 7 ∧ (v = 0 ∨ v = 1 ∨ v = 2 ∨ v = 3)) ∨ (u = 55 ∧ v = 0))) : jPM σ r u v = σ u v := by
  unfold jPM jMac
  rw [e, e8]
  obtain ⟨X, hX⟩ : ∃ X : JM, jset (jset (jset (jset (jApp σ 77 0 0 0) 14 (σ 7 2) (σ 7 1)) 1 8 (σ 7 2 + 1)) 1 10 1) 55 0 r = X := ⟨_, rfl⟩
  have x1 : X 7 1 = σ 7 1 := by rw [← hX]; rfl
  have xx : X u v = σ u v := by
    rw [← hX, jset_ne _ (by omega), jset_ne _ (by omega), jset_ne _ (by omega), jset_ne _ (by omega)]
    unfold jApp
    rw [e, jset_ne _ (by omega), jset_ne _ (by omega), jset_ne _ (by omega), jset_ne _ (by omega), jset_ne _ (by omega), jset_ne _ (by omega)]
  rw [hX]
  unfold jAds
  have y1 : jset (jset (jset X 40 (σ 7 2) (σ 7 1)) 7 3 (σ 7 2)) 7 2 (σ 7 2 + 1) 7 1 = σ 7 1 := x1
  rw [y1, jset_ne _ (by omega), jset_ne _ (by omega), jset_ne _ (by omega), jset_ne _ (by omega), jset_ne _ (by omega), jset_ne _ (by omega), jset_ne _ (by omega), jset_ne _ (by omega), jset_ne _ (by omega)]
  exact xx
theorem fd_m {g : Int} {σ : JM} {r : Int} (h : jINV g σ) (h80 : σ 7 1 < 80) (hg : σ 7 4 = 0) (hm : σ 1 10 = 0) (h8 : σ 7 2 < 8) : jINV g (jPM σ r) := by
  have S := h.1
  have a1 := S.a1
  have a2 := S.a2
  obtain ⟨r1, r2, r3, r4, r5, r6, r7, r8, r9, r10⟩ := jPM_row a1.1 a1.2.1 r
  have e : ∀ u v, ¬ ((((8 ≤ u ∧ u ≤ 12) ∨ (34 ≤ u ∧ u ≤ 37)) ∧ v = σ 7 1) ∨ ((u = 14 ∨ u = 40) ∧ v = σ 7 2) ∨ (u = 1 ∧ (v = 7 ∨ v = 8 ∨ v = 10)) ∨ (u = 7 ∧ (v = 0 ∨ v = 1 ∨ v = 2 ∨ v = 3)) ∨ (u = 55 ∧ v = 0)) → jPM σ r u v = σ u v := fun u v z => jPM_ne a1.1 a1.2.1 r z
  obtain ⟨ρ, hρ⟩ : ∃ ρ, jPM σ r = ρ := ⟨_, rfl⟩
  rw [hρ] at r1 r2 r3 r4 r5 r6 r7 r8 r9 r10 e ⊢
  have nl : jl1 ρ (σ 7 1) := (show jnw σ 77 0 0 0 11 0 0 0 from ⟨by decide, by decide, by decide, by decide, by decide, by decide, by decide, by decide, by decide, by decide, by decide, by decide, fun q => absurd q (by decide)⟩).l r1 r2 (fun q => absurd q (by decide))
  obtain ⟨ρ2, hρ2⟩ : ∃ ρ2 : JM, (fun u v => if u = 55 then σ u v else ρ u v) = ρ2 := ⟨_, rfl⟩
  have q2 : ∀ {u : Nat} {v : Int}, u ≠ 55 → ρ2 u v = ρ u v := fun {u v} z => by rw [← hρ2]; exact if_neg z
  have q5 : ∀ v, ρ2 55 v = σ 55 v := fun v => by rw [← hρ2]; exact if_pos rfl
  have e2 : ∀ u v, (u ≠ 55 → ρ u v = σ u v) → ρ2 u v = σ u v := fun u v z => by
    by_cases y : u = 55
    · subst y; exact q5 v
    · rw [q2 y]; exact z y
  have nl2 : jl1 ρ2 (σ 7 1) := by
    unfold jl1 jln at nl ⊢
    rw [q2 (by decide), q2 (by decide), q2 (by decide), q2 (by decide), q2 (by decide), q2 (by decide), q2 (by decide), q2 (by decide), q2 (by decide), q2 (by decide), q2 (by decide)]
    exact nl
  refine jINV.keep (σ := ρ2) ?_ (fun u v z => (q2 (by omega)).symm)
  have S2 : jSrc ρ2 := S.mac h80 hg hm h8 (fun u v z => e2 u v (fun y => e u v (by omega))) (by rw [q2 (by decide)]; exact r3) (by rw [q2 (by decide)]; exact r4) (by rw [q2 (by decide)]; exact r5) (by rw [q2 (by decide)]; exact r6) (by rw [q2 (by decide)]; exact r7) (by rw [q2 (by decide)]; exact r8) (by rw [q2 (by decide)]; exact r9) (by rw [q2 (by decide)]; exact r10) nl2 (by rw [q2 (by decide), r2.1])
  exact h.feed (fun u v z => e2 u v (fun y => e u v (by omega))) S2 (by rw [q2 (by decide), q2 (by decide), r6, r7]; omega) (fun u hu v _ _ => by rw [q2 (by omega)]; exact e u v (by omega)) (fun v _ _ _ => by rw [q2 (by decide)]; exact e 38 v (by omega)) (fun m _ m1 => ⟨by rw [q2 (by decide)]; exact e 40 m (by omega), by rw [q2 (by decide)]; exact e 41 m (by omega)⟩)

