/-! ===== the first memory ===== -/
def jz0 : JM := fun a b => if a = 6 ∧ b = 4 then 1 else if a = 7 ∧ b = 3 then -1 else 0
theorem jz0_0 {a : Nat} {b : Int} (h1 : ¬ (a = 6 ∧ b = 4)) (h2 : ¬ (a = 7 ∧ b = 3)) : jz0 a b = 0 := by
  unfold jz0; rw [if_neg h1, if_neg h2]
theorem jrng_0 (t : Nat) : jrng t 0 := by
  unfold jrng
  split
  · exact ⟨by decide, by decide⟩
  · exact ⟨by decide, by decide⟩
  · exact ⟨by decide, by decide⟩
  · exact Or.inl rfl
  · exact ⟨by decide, by decide⟩
  · trivial
theorem jz0_ok : jokm jz0 := by
  intro k j
  by_cases h1 : k = 6 ∧ j = 4
  · rw [h1.1, h1.2]; exact (⟨by decide, by decide⟩ : jrL 1)
  by_cases h2 : k = 7 ∧ j = 3
  · rw [h2.1, h2.2]; exact trivial
  rw [jz0_0 h1 h2]; exact jrng_0 _
theorem jz0_inv : jINV 1 jz0 := by
  have e71 : jz0 7 1 = 0 := rfl
  have e72 : jz0 7 2 = 0 := rfl
  have e73 : jz0 7 3 = -1 := rfl
  have e74 : jz0 7 4 = 0 := rfl
  have e17 : jz0 1 7 = 0 := rfl
  have e18 : jz0 1 8 = 0 := rfl
  have e19 : jz0 1 9 = 0 := rfl
  have e10 : jz0 1 10 = 0 := rfl
  have e64 : jz0 6 4 = 1 := rfl
  have e49 : jz0 4 9 = 0 := rfl
  refine ⟨⟨⟨by omega, by omega, by omega, Or.inl ⟨e10, e73⟩⟩, ⟨by omega, by omega, by omega⟩, fun x x0 x1 => by omega, fun m m0 m1 => by omega, fun m m0 m1 => by omega, fun a b a0 ab b1 => by omega, fun g g0 g1 => by omega, fun g h g0 gh h1 => by omega, fun x x0 x1 => by omega, fun y y0 y1 => by omega⟩, fun i i0 i1 => ⟨?_, fun m a b m0 a0 b0 h => ?_⟩, ⟨⟨rfl, rfl⟩, rfl, rfl⟩, by omega, ⟨by omega, fun h => by omega⟩⟩
  · rw [jz0_0 (by omega) (by omega), e64]; decide
  · rw [jz0_0 (by omega) (by omega), e64] at h
    unfold jky at h; omega
