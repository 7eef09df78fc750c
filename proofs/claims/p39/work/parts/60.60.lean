theorem jINV.up {g g' : Int} {σ : JM} (h : jINV g σ) (e : g ≤ g') : jINV g' σ := ⟨h.1, h.2.1, h.2.2.1, by have := h.2.2.2.1; omega, h.2.2.2.2⟩
theorem jINV.q {g : Int} {σ : JM} (h : jINV g σ) (c : Int) : jINV g (jset σ 7 0 c) := h.keep (fun a b z => jset_ne _ (fun q => z (Or.inl q)))
theorem jINV.o {g : Int} {σ : JM} (h : jINV g σ) (c : Int) : jINV g (jset σ 55 0 c) := h.keep (fun a b z => jset_ne _ (fun q => z (Or.inr (Or.inl q.1))))
theorem jINV.oD {g : Int} {σ : JM} (h : jINV g σ) (c : Int) : jINV g (jset σ 56 0 c) := h.keep (fun a b z => jset_ne _ (fun q => z (by omega)))
/-- a plain line, on both sides -/
abbrev jPP (σ : JM) (k f s x r srt a b c : Int) : JM := jAds (jset (jApp σ k f s x) 55 0 r) srt a b c
theorem jPP_row {σ : JM} (e : σ 1 7 = σ 7 1) (k f s x r srt a b c : Int) : (jPP σ k f s x r srt a b c 8 (σ 7 1) = k ∧ jPP σ k f s x r srt a b c 9 (σ 7 1) = f ∧ jPP σ k f s x r srt a b c 10 (σ 7 1) = s ∧ jPP σ k f s x r srt a b c 11 (σ 7 1) = x ∧ jPP σ k f s x r srt a b c 12 (σ 7 1) = σ 7 1) ∧ (jPP σ k f s x r srt a b c 34 (σ 7 1) = srt ∧ jPP σ k f s x r srt a b c 35 (σ 7 1) = a ∧ jPP σ k f s x r srt a b c 36 (σ 7 1) = b ∧ jPP σ k f s x r srt a b c 37 (σ 7 1) = c) ∧ jPP σ k f s x r srt a b c 1 7 = σ 7 1 + 1 ∧ jPP σ k f s x r srt a b c 7 1 = σ 7 1 + 1 := by
  refine ⟨⟨?_, ?_, ?_, ?_, ?_⟩, ⟨?_, ?_, ?_, ?_⟩, ?_, ?_⟩ <;> simp [jAds, jApp, jset, e]
theorem jPP_ne {σ : JM} (e : σ 1 7 = σ 7 1) (k f s x r srt a b c : Int) {u : Nat} {v : Int} (h : ¬ ((((8 ≤ u ∧ u ≤ 12) ∨ (34 ≤ u ∧ u ≤ 37)) ∧ v = σ 7 1) ∨ (u = 1 ∧ v = 7) ∨ (u = 7 ∧ (v = 0 ∨ v = 1)) ∨ (u = 55 ∧ v = 0))) : jPP σ k f s x r srt a b c u v = σ u v := by
  have e1 : jset (jApp σ k f s x) 55 0 r 7 1 = σ 7 1 := rfl
  unfold jPP jAds
  rw [e1, jset_ne _ (by omega), jset_ne _ (by omega), jset_ne _ (by omega), jset_ne _ (by omega), jset_ne _ (by omega), jset_ne _ (by omega), jset_ne _ (by omega)]
  unfold jApp
  rw [e, jset_ne _ (by omega), jset_ne _ (by omega), jset_ne _ (by omega), jset_ne _ (by omega), jset_ne _ (by omega), jset_ne _ (by omega)]
/-- what is right of a new line -/
def jnw (σ : JM) (k f s x srt a b c : Int) : Prop := (k = jch srt ∧ (0 ≤ srt ∧ srt ≤ 12)) ∧ f = (if srt = 5 then 0 else a) ∧ s = (if srt = 2 then 0 else b) ∧ x = (if srt = 5 then a else if srt = 2 then b else if srt = 6 then c else 0) ∧ (-2 ≤ f ∧ f ≤ jgo k) ∧ (-2 ≤ s ∧ s ≤ jgo k) ∧ (srt = 7 → f = 0) ∧ (srt ≠ 6 → srt ≠ 9 → s = 0) ∧ (-2 ≤ a ∧ a ≤ 999 ∧ (srt = 8 → a ≤ 9)) ∧ (-2 ≤ b ∧ b ≤ 999) ∧ (srt = 5 → 2 ≤ a ∧ a ≤ 8) ∧ (srt = 2 → 0 ≤ b ∧ b ≤ 99) ∧ (srt = 6 → 0 ≤ c ∧ c < σ 7 2 - σ 1 10)
theorem jnw.l {σ σ' : JM} {L k f s x srt a b c : Int} (h : jnw σ k f s x srt a b c) (r1 : σ' 8 L = k ∧ σ' 9 L = f ∧ σ' 10 L = s ∧ σ' 11 L = x) (r2 : σ' 34 L = srt ∧ σ' 35 L = a ∧ σ' 36 L = b ∧ σ' 37 L = c) (r3 : srt = 6 → c < σ' 7 2 - σ' 1 10 ∧ σ' 41 c < L) : jl1 σ' L := by
  obtain ⟨h1, h2, h3, h4, h5, h6, h7, h8, h9, h10, h11, h12, h13⟩ := h
  unfold jl1 jln
  rw [r1.1, r1.2.1, r1.2.2.1, r1.2.2.2, r2.1, r2.2.1, r2.2.2.1, r2.2.2.2]
  exact ⟨⟨h1.1, h2, h3, h4, h5, h6, h7, h8⟩, h1.2, h9, h10, h11, h12, fun q => ⟨(h13 q).1, r3 q⟩⟩
theorem fd_p {g : Int} {σ : JM} {k f s x r srt a b c : Int} (h : jINV g σ) (h80 : σ 7 1 < 80) (nw : jnw σ k f s x srt a b c) (s6 : srt ≤ 6) : jINV g (jPP σ k f s x r srt a b c) := by
  have S := h.1
  have a1 := S.a1
  have a2 := S.a2
  obtain ⟨r1, r2, r3, r4⟩ := jPP_row a1.1 k f s x r srt a b c
  have e : ∀ u v, ¬ ((((8 ≤ u ∧ u ≤ 12) ∨ (34 ≤ u ∧ u ≤ 37)) ∧ v = σ 7 1) ∨ (u = 1 ∧ v = 7) ∨ (u = 7 ∧ (v = 0 ∨ v = 1)) ∨ (u = 55 ∧ v = 0)) → jPP σ k f s x r srt a b c u v = σ u v := fun u v z => jPP_ne a1.1 k f s x r srt a b c z
  obtain ⟨ρ, hρ⟩ : ∃ ρ, jPP σ k f s x r srt a b c = ρ := ⟨_, rfl⟩
  rw [hρ] at r1 r2 r3 r4 e ⊢
  have nl : jl1 ρ (σ 7 1) := nw.l ⟨r1.1, r1.2.1, r1.2.2.1, r1.2.2.2.1⟩ r2 (fun q => by
    have n := nw.2.2.2.2.2.2.2.2.2.2.2.2 q
    have := S.me c n.1 n.2
    rw [e 7 2 (by omega), e 1 10 (by omega), e 41 c (by omega)]
    exact ⟨n.2, this.2.1⟩)
  -- the cell 55 is not a line's
  obtain ⟨ρ2, hρ2⟩ : ∃ ρ2 : JM, (fun u v => if u = 55 then σ u v else ρ u v) = ρ2 := ⟨_, rfl⟩
  have q2 : ∀ {u : Nat} {v : Int}, u ≠ 55 → ρ2 u v = ρ u v := fun {u v} z => by rw [← hρ2]; exact if_neg z
  have S2 : jSrc ρ2 := by
    refine S.app h80 (fun u v z => ?_) (by rw [q2 (by decide)]; exact r3) (by rw [q2 (by decide)]; exact r4) ?_ (by rw [q2 (by decide), r2.1]; exact s6)
    · by_cases y : u = 55
      · rw [← hρ2]; exact if_pos y
      · rw [q2 y]; exact e u v (by omega)
    · unfold jl1 jln at nl ⊢
      rw [q2 (by decide), q2 (by decide), q2 (by decide), q2 (by decide), q2 (by decide), q2 (by decide), q2 (by decide), q2 (by decide), q2 (by decide), q2 (by decide), q2 (by decide)]
      exact nl
  have I2 : jINV g ρ2 := h.feed (fun u v z => by
      by_cases y : u = 55
      · rw [← hρ2]; exact if_pos y
      · rw [q2 y]; exact e u v (by omega)) S2 (by rw [q2 (by decide), q2 (by decide), e 7 2 (by omega), e 1 10 (by omega)]; exact Int.le_refl _) (fun u hu v _ _ => by rw [q2 (by omega)]; exact e u v (by omega)) (fun v _ _ _ => by rw [q2 (by decide)]; exact e 38 v (by omega)) (fun m _ _ => ⟨by rw [q2 (by decide)]; exact e 40 m (by omega), by rw [q2 (by decide)]; exact e 41 m (by omega)⟩)
  exact I2.keep (fun u v z => (q2 (by omega)).symm)

