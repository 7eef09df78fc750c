theorem jFeed_g {σ : JM} {k f s x : Int} (h : jgrp k) : jFeed σ k f s x = jset (jset (jApp σ k f s x) 13 (σ 1 9) (σ 1 7)) 1 9 (σ 1 9 + 1) := by unfold jFeed; rw [if_pos h]
theorem jBg_0 (σ : JM) (s a b : Int) : jBgM σ s a b 7 0 = 0 := jAds_0 _ _ _ _ _
theorem jLp_0 {σ : JM} {f : Prop} [Decidable f] {s a b : Int} (e : ¬ f) : jLpR σ f = 0 ∧ jLpM σ f s a b = jset σ 7 0 1 := by
  constructor
  · unfold jLpR; rw [if_pos e]
  · unfold jLpM; rw [if_pos e]
theorem jLp_8 {σ : JM} {f : Prop} [Decidable f] {s a b : Int} (e : f) (h : σ 7 1 = 80) : jLpR σ f = 0 ∧ jLpM σ f s a b = jset σ 7 0 2 := by
  constructor
  · unfold jLpR; rw [if_neg (fun q => q e), if_pos h]
  · unfold jLpM; rw [if_neg (fun q => q e), if_pos h]
theorem jLp_1 {σ : JM} {f : Prop} [Decidable f] {s a b : Int} (e : f) (h : σ 7 1 ≠ 80) : jLpR σ f = σ 7 1 ∧ jLpM σ f s a b = jBgM σ s a b := by
  constructor
  · unfold jLpR; rw [if_neg (fun q => q e), if_neg h]
  · unfold jLpM; rw [if_neg (fun q => q e), if_neg h]
