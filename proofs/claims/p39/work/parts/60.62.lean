abbrev jid (b : Int) : Int := b
theorem jrv.to {mX : JI} {d : Nat} {As : List JV} {σ ρ ρ' : JM} {b b' : Int} (h : JSp mX d 0 As σ (jrv b ρ) jno) (e : b = b' ∧ ρ = ρ') : JSp mX d 0 As σ (jrv b' ρ') jno := by rw [← e.1, ← e.2]; exact h
theorem jFd_0 {σ : JM} {f s a b c : Int} (e : f = 0) : jFdR σ f = 0 ∧ jFdM σ f s a b c = jset σ 7 0 1 := by
  constructor
  · unfold jFdR; rw [if_pos e]
  · unfold jFdM; rw [if_pos e]
theorem jFd_8 {σ : JM} {f s a b c : Int} (e : f = 1) (h : σ 7 1 = 80) : jFdR σ f = 0 ∧ jFdM σ f s a b c = jset σ 7 0 2 := by
  constructor
  · unfold jFdR; rw [if_neg (by omega), if_pos h]
  · unfold jFdM; rw [if_neg (by omega), if_pos h]
theorem jFd_1 {σ : JM} {f s a b c : Int} (e : f = 1) (h : σ 7 1 ≠ 80) : jFdR σ f = σ 7 1 ∧ jFdM σ f s a b c = jAds σ s a b c := by
  constructor
  · unfold jFdR; rw [if_neg (by omega), if_neg h]
  · unfold jFdM; rw [if_neg (by omega), if_neg h]
theorem jFeed_p {σ : JM} {k f s x : Int} (h : ¬ jgrp k) : jFeed σ k f s x = jApp σ k f s x := by unfold jFeed; rw [if_neg h]
theorem jAds_0 (σ : JM) (s a b c : Int) : jAds σ s a b c 7 0 = 0 := by simp [jAds, jset]
theorem jAds_55 (σ : JM) (s a b c : Int) : jAds σ s a b c 55 0 = σ 55 0 := rfl
theorem jCa_1 {σ : JM} {m x y : Int} (e : ¬ (0 ≤ m ∧ m ≤ σ 7 2 - 1) ∨ m = σ 7 3) : jCaR σ m x y = 0 ∧ jCaM σ m x y = jset σ 7 0 1 := by
  constructor
  · unfold jCaR; rw [if_pos e]
  · unfold jCaM; rw [if_pos e]
theorem jCa_2 {σ : JM} {m x y : Int} (e : ¬ (¬ (0 ≤ m ∧ m ≤ σ 7 2 - 1) ∨ m = σ 7 3)) (e2 : ¬ (jrgt σ x 999 ∧ jrgt σ y 999)) : jCaR σ m x y = 0 ∧ jCaM σ m x y = jset σ 7 0 2 := by
  constructor
  · unfold jCaR; rw [if_neg e, if_pos e2]
  · unfold jCaM; rw [if_neg e, if_pos e2]
theorem jCa_3 {σ : JM} {m x y : Int} (e : ¬ (¬ (0 ≤ m ∧ m ≤ σ 7 2 - 1) ∨ m = σ 7 3)) (e2 : jrgt σ x 999 ∧ jrgt σ y 999) (h : σ 7 1 = 80) : jCaR σ m x y = 0 ∧ jCaM σ m x y = jset σ 7 0 3 := by
  constructor
  · unfold jCaR; rw [if_neg e, if_neg (fun q => q e2), if_pos h]
  · unfold jCaM; rw [if_neg e, if_neg (fun q => q e2), if_pos h]
theorem jCa_0 {σ : JM} {m x y : Int} (e : ¬ (¬ (0 ≤ m ∧ m ≤ σ 7 2 - 1) ∨ m = σ 7 3)) (e2 : jrgt σ x 999 ∧ jrgt σ y 999) (h : σ 7 1 ≠ 80) : jCaR σ m x y = σ 7 1 ∧ jCaM σ m x y = jAds σ 6 x y m := by
  constructor
  · unfold jCaR; rw [if_neg e, if_neg (fun q => q e2), if_neg h]
  · unfold jCaM; rw [if_neg e, if_neg (fun q => q e2), if_neg h]
