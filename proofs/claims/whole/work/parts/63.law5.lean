theorem jFeed_g {σ : JM} {k f s x : Int} (h : jgrp k) : jFeed σ k f s x = jset (jset (jApp σ k f s x) 13 (σ 1 9) (σ 1 7)) 1 9 (σ 1 9 + 1) := by unfold jFeed; rw [if_pos h]
theorem jBg_0 (σ : JM) (s a b : Int) : jBgM σ s a b 7 0 = 0 := jAds_0 _ _ _ _ _
theorem jLp_0 {σ : JM} {f : Prop} [Decidable f] {s a b : Int} (e : ¬ f) : jLpR σ f = 0 ∧ jLpM σ f s a b = jset σ 7 0 1 := by
  constructor
  · unfold jLpR; rw [if_pos e]
  · unfold jLpM; rw [if_pos e]
theorem jLp_8 {σ : JM} {f : Prop} [Decidable f] {s a b : Int} (e : f) (h : σ 7 1 = 80) : jLpR σ f = 0 ∧ jLpM σ f s a b = jset σ 7 0 2 := by
  constructor
  · unfold jLpR; rw [if_neg (fun q => q e), if_pos h]
  · unfold jLpM; rw [if_neg (fun q => q e), if_pos h]
theorem jLp_1 {σ : JM} {f : Prop} [Decidable f] {s a b : Int} (e : f) (h : σ 7 1 ≠ 80) : jLpR σ f = σ 7 1 ∧ jLpM σ f s a b = jBgM σ s a b := by
  constructor
  · unfold jLpR; rw [if_neg (fun q => q e), if_neg h]
  · unfold jLpM; rw [if_neg (fun q => q e), if_neg h]
theorem op_block {g : Int} {σ : JM}  (h : jINV g σ) : jOF mL_block mX7_block 0 55 jid [(2, 0), (2, 55)] [(2, 7)] g σ := by
  have S := h.1
  have a1 := S.a1
  have a2 := S.a2
  have e : jgo 66 = 0 := by decide
  by_cases ho : True
  · have hf : jisop σ 0 (jgo 66) := by rw [e]; omega
    have hs : jisop σ 0 (jgo 66) := by rw [e]; omega
    by_cases h80 : σ 7 1 = 80
    · exact jOF.ok (by decide) (by decide) (sp_L_block (Nat.le_refl 1) (sp_X6_block (sp_X5_feedX (by omega) hf hs) (fun v t q => q.elim)) (fun v t q => q.elim) (fun X t q => q.1)) (fun v t q => lq_block_1 q) (jrv.to (sp_X7_block (σ := σ) (show 0 ≤ σ 7 1 by omega) (show σ 7 1 ≤ 80 by omega) (show 0 ≤ σ 7 4 ∧ σ 7 4 ≤ σ 7 1 by omega)) (⟨if_pos h80, by unfold jBlM; rw [if_pos h80]⟩)) rfl (fun q => absurd q (by decide)) (h.q 1)
    · have nw : jnw σ 66 0 0 0 7 0 0 0 := ⟨⟨by decide, by decide⟩, rfl, rfl, rfl, by rw [e]; omega, by rw [e]; omega, fun _ => rfl, fun _ _ => rfl, ⟨by omega, by omega, fun q => absurd q (by decide)⟩, by omega, fun q => absurd q (by decide), fun q => absurd q (by decide), fun q => absurd q (by decide)⟩
      have I := fd_g (r := σ 1 7) h (by omega) nw (by decide)
      have ef : jFeed σ 66 0 0 0 = jset (jset (jApp σ 66 0 0 0) 13 (σ 1 9) (σ 1 7)) 1 9 (σ 1 9 + 1) := jFeed_g (by decide)
      have rx : JSp mX7_block 2 0 [(2, 7)] (jset (jFeed σ 66 0 0 0) 55 0 (σ 1 7)) (jrv (σ 7 1) (jPG σ 66 0 0 (σ 1 7) 7 0 0)) jno := by
        rw [ef]
        exact jrv.to (sp_X7_block (show 0 ≤ σ 7 1 by omega) (show σ 7 1 ≤ 80 by omega) (show 0 ≤ σ 7 4 ∧ σ 7 4 ≤ σ 7 1 by omega)) ⟨if_neg h80, if_neg h80⟩
      exact jOF.ok (by decide) (by decide) (sp_L_block (Nat.zero_le 1) (sp_X6_block (sp_X5_feed (by omega) (by omega) (by omega) (by omega) hf hs) (fun v t q => ⟨_, q.1⟩)) (fun v t q => ⟨_, q.1⟩) (fun X t q => q.elim)) (fun v t q => lq_block q) rx (jBg_0 _ _ _ _) (fun _ => a1.1) I
  · exact absurd trivial ho
theorem op_loop {g : Int} {σ : JM} {p : Int} (h : jINV g σ) : jOF mL_loop mX7_loop 0 55 jid [(2, 0), (0, p), (2, 55)] [(2, 7), (0, p)] g σ := by
  have S := h.1
  have a1 := S.a1
  have a2 := S.a2
  have e : jgo 76 = 9 := by decide
  by_cases ho : jrgt σ p 9
  · have hf : jisop σ p (jgo 76) := by rw [e]; omega
    have hs : jisop σ 0 (jgo 76) := by rw [e]; omega
    by_cases h80 : σ 7 1 = 80
    · exact jOF.ok (by decide) (by decide) (sp_L_loop (Nat.le_refl 1) (sp_X6_loop (sp_X5_feedX (by omega) hf hs) (fun v t q => q.elim)) (fun v t q => q.elim) (fun X t q => Or.inr q.1)) (fun v t q => lq_loop_2 q) (jrv.to (sp_X7_loop (σ := σ) (show 0 ≤ σ 7 1 by omega) (show σ 7 1 ≤ 80 by omega) (show 0 ≤ σ 7 4 ∧ σ 7 4 ≤ σ 7 1 by omega)) (jLp_8 ho h80)) rfl (fun q => absurd q (by decide)) (h.q 2)
    · have nw : jnw σ 76 p 0 0 8 p 0 0 := ⟨⟨by decide, by decide⟩, rfl, rfl, rfl, by rw [e]; omega, by rw [e]; omega, fun q => absurd q (by decide), fun _ _ => rfl, ⟨by omega, by omega, fun _ => by omega⟩, by omega, fun q => absurd q (by decide), fun q => absurd q (by decide), fun q => absurd q (by decide)⟩
      have I := fd_g (r := σ 1 7) h (by omega) nw (by decide)
      have ef : jFeed σ 76 p 0 0 = jset (jset (jApp σ 76 p 0 0) 13 (σ 1 9) (σ 1 7)) 1 9 (σ 1 9 + 1) := jFeed_g (by decide)
      have rx : JSp mX7_loop 2 0 [(2, 7), (0, p)] (jset (jFeed σ 76 p 0 0) 55 0 (σ 1 7)) (jrv (σ 7 1) (jPG σ 76 p 0 (σ 1 7) 8 p 0)) jno := by
        rw [ef]
        exact jrv.to (sp_X7_loop (show 0 ≤ σ 7 1 by omega) (show σ 7 1 ≤ 80 by omega) (show 0 ≤ σ 7 4 ∧ σ 7 4 ≤ σ 7 1 by omega)) (jLp_1 ho h80)
      exact jOF.ok (by decide) (by decide) (sp_L_loop (Nat.zero_le 1) (sp_X6_loop (sp_X5_feed (by omega) (by omega) (by omega) (by omega) hf hs) (fun v t q => ⟨_, q.1⟩)) (fun v t q => ⟨_, q.1⟩) (fun X t q => q.elim)) (fun v t q => lq_loop q) rx (jBg_0 _ _ _ _) (fun _ => a1.1) I
  · exact jOF.ok (by decide) (by decide) (sp_L_loop (Nat.le_refl 1) (sp_X6_loop (sp_X5_feedA (fun q => ho (by rw [e] at q; omega))) (fun v t q => q.elim)) (fun v t q => q.elim) (fun X t q => Or.inl q.1)) (fun v t q => lq_loop_1 q) (jrv.to (sp_X7_loop (σ := σ) (show 0 ≤ σ 7 1 by omega) (show σ 7 1 ≤ 80 by omega) (show 0 ≤ σ 7 4 ∧ σ 7 4 ≤ σ 7 1 by omega)) (jLp_0 ho)) rfl (fun q => absurd q (by decide)) (h.q 1)
theorem op_when {g : Int} {σ : JM} {p q : Int} (h : jINV g σ) : jOF mL_when mX7_when 0 55 jid [(2, 0), (0, p), (0, q), (2, 55)] [(2, 7), (0, p), (0, q)] g σ := by
  have S := h.1
  have a1 := S.a1
  have a2 := S.a2
  have e : jgo 87 = 999 := by decide
  by_cases ho : jrgt σ p 999 ∧ jrgt σ q 999
  · have hf : jisop σ p (jgo 87) := by rw [e]; omega
    have hs : jisop σ q (jgo 87) := by rw [e]; omega
    by_cases h80 : σ 7 1 = 80
    · exact jOF.ok (by decide) (by decide) (sp_L_when (Nat.le_refl 1) (sp_X6_when (sp_X5_feedX (by omega) hf hs) (fun v t q => q.elim)) (fun v t q => q.elim) (fun X t q => Or.inr q.1)) (fun v t q => lq_when_2 q) (jrv.to (sp_X7_when (σ := σ) (show 0 ≤ σ 7 1 by omega) (show σ 7 1 ≤ 80 by omega) (show 0 ≤ σ 7 4 ∧ σ 7 4 ≤ σ 7 1 by omega)) (jLp_8 ho h80)) rfl (fun q => absurd q (by decide)) (h.q 2)
    · have nw : jnw σ 87 p q 0 9 p q 0 := ⟨⟨by decide, by decide⟩, rfl, rfl, rfl, by rw [e]; omega, by rw [e]; omega, fun q => absurd q (by decide), fun _ q => absurd rfl q, ⟨by omega, by omega, fun q => absurd q (by decide)⟩, by omega, fun q => absurd q (by decide), fun q => absurd q (by decide), fun q => absurd q (by decide)⟩
      have I := fd_g (r := σ 1 7) h (by omega) nw (by decide)
      have ef : jFeed σ 87 p q 0 = jset (jset (jApp σ 87 p q 0) 13 (σ 1 9) (σ 1 7)) 1 9 (σ 1 9 + 1) := jFeed_g (by decide)
      have rx : JSp mX7_when 2 0 [(2, 7), (0, p), (0, q)] (jset (jFeed σ 87 p q 0) 55 0 (σ 1 7)) (jrv (σ 7 1) (jPG σ 87 p q (σ 1 7) 9 p q)) jno := by
        rw [ef]
        exact jrv.to (sp_X7_when (show 0 ≤ σ 7 1 by omega) (show σ 7 1 ≤ 80 by omega) (show 0 ≤ σ 7 4 ∧ σ 7 4 ≤ σ 7 1 by omega)) (jLp_1 ho h80)
      exact jOF.ok (by decide) (by decide) (sp_L_when (Nat.zero_le 1) (sp_X6_when (sp_X5_feed (by omega) (by omega) (by omega) (by omega) hf hs) (fun v t q => ⟨_, q.1⟩)) (fun v t q => ⟨_, q.1⟩) (fun X t q => q.elim)) (fun v t q => lq_when q) rx (jBg_0 _ _ _ _) (fun _ => a1.1) I
  · exact jOF.ok (by decide) (by decide) (sp_L_when (Nat.le_refl 1) (sp_X6_when (sp_X5_feedA (fun q => ho (by rw [e] at q; omega))) (fun v t q => q.elim)) (fun v t q => q.elim) (fun X t q => Or.inl q.1)) (fun v t q => lq_when_1 q) (jrv.to (sp_X7_when (σ := σ) (show 0 ≤ σ 7 1 by omega) (show σ 7 1 ≤ 80 by omega) (show 0 ≤ σ 7 4 ∧ σ 7 4 ≤ σ 7 1 by omega)) (jLp_0 ho)) rfl (fun q => absurd q (by decide)) (h.q 1)
theorem op_end {g : Int} {σ : JM} (h : jINV g σ) : jOF mL_end mX7_end 0 55 jid [(2, 0), (2, 55)] [(2, 7)] g σ := by
  have S := h.1
  have a1 := S.a1
  have a2 := S.a2
  have gl : σ 7 4 ≠ 0 → σ 13 (σ 7 4 - 1) = σ 39 (σ 7 4 - 1) ∧ 0 ≤ σ 39 (σ 7 4 - 1) ∧ σ 39 (σ 7 4 - 1) < σ 7 1 := fun q => by
    have := S.gg (σ 7 4 - 1) (by omega) (by omega)
    exact ⟨this.1, this.2.1⟩
  have rx := fun τ (t1 : τ 7 1 = σ 7 1) (t2 : τ 7 4 = σ 7 4) (t3 : τ 39 (σ 7 4 - 1) = σ 39 (σ 7 4 - 1)) => sp_X7_end (σ := τ) (by omega) (by omega) (by omega) (by rw [t2, t3]; intro q; have := gl q; omega)
  by_cases h0 : σ 7 4 = 0
  · exact jOF.ok (by decide) (by decide) (sp_L_end (Nat.le_refl 1) (sp_X6_end (sp_X5_endGroupU (by omega)) (fun v t q => q.elim)) (fun v t q => q.elim) (fun X t q => Or.inl q.1)) (fun v t q => lq_end_1 q) (jrv.to (rx σ rfl rfl rfl) ⟨if_pos h0, if_pos h0⟩) rfl (fun q => absurd q (by decide)) (h.q 1)
  have g0 := gl h0
  by_cases h80 : σ 7 1 = 80
  · exact jOF.ok (by decide) (by decide) (sp_L_end (Nat.le_refl 1) (sp_X6_end (sp_X5_endGroupX (by omega) (by omega)) (fun v t q => q.elim)) (fun v t q => q.elim) (fun X t q => Or.inr q.1)) (fun v t q => lq_end_2 q) (jrv.to (rx σ rfl rfl rfl) ⟨(if_neg h0).trans (if_pos h80), (if_neg h0).trans (if_pos h80)⟩) rfl (fun q => absurd q (by decide)) (h.q 2)
  · exact jOF.ok (by decide) (by decide) (sp_L_end (Nat.zero_le 1) (sp_X6_end (sp_X5_endGroup (by omega) (by omega) (by omega) (by omega) (by omega) (by rw [a1.2.2.1, g0.1]; omega)) (fun v t q => ⟨_, q.1⟩)) (fun v t q => ⟨_, q.1⟩) (fun X t q => q.elim)) (fun v t q => lq_end q) (jrv.to (rx (jset (jEnd σ) 55 0 (σ 1 7)) rfl rfl rfl) ⟨(if_neg h0).trans (if_neg h80), (if_neg h0).trans (if_neg h80)⟩) (jAds_0 _ _ _ _ _) (fun _ => a1.1) (fd_e h (by omega) h0)
theorem op_macro {g : Int} {σ : JM} (h : jINV g σ) : jOF mL_macro mX7_macro 0 55 jid [(2, 0), (2, 55)] [(2, 7)] g σ := by
  have S := h.1
  have a1 := S.a1
  have a2 := S.a2
  have u := S.unf
  have rx := fun τ (t1 : τ 7 1 = σ 7 1) (t2 : τ 7 2 = σ 7 2) => sp_X7_macro (σ := τ) (by omega) (by omega) (by omega)
  by_cases h0 : σ 7 3 ≠ -1 ∨ 0 < σ 7 4
  · exact jOF.ok (by decide) (by decide) (sp_L_macro (Nat.le_refl 1) (sp_X6_macro (sp_X5_beginMacroU (by omega) (by omega) (fun q => by have := u.1.mp q; omega)) (fun v t q => q.elim)) (fun v t q => q.elim) (fun X t q => Or.inl q.1)) (fun v t q => lq_macro_1 q) (jrv.to (rx σ rfl rfl) ⟨if_pos h0, if_pos h0⟩) rfl (fun q => absurd q (by decide)) (h.q 1)
  by_cases h80 : σ 7 1 = 80 ∨ σ 7 2 = 8
  · exact jOF.ok (by decide) (by decide) (sp_L_macro (Nat.le_refl 1) (sp_X6_macro (sp_X5_beginMacroX (by omega) (by omega) (by omega) (by omega)) (fun v t q => q.elim)) (fun v t q => q.elim) (fun X t q => Or.inr q.1)) (fun v t q => lq_macro_2 q) (jrv.to (rx σ rfl rfl) ⟨(if_neg h0).trans (if_pos h80), (if_neg h0).trans (if_pos h80)⟩) rfl (fun q => absurd q (by decide)) (h.q 2)
  · exact jOF.ok (by decide) (by decide) (sp_L_macro (Nat.zero_le 1) (sp_X6_macro (sp_X5_beginMacro (by omega) (by omega) (by omega) (by omega) (by omega)) (fun v t q => ⟨_, q.1⟩)) (fun v t q => ⟨_, q.1⟩) (fun X t q => q.elim)) (fun v t q => lq_macro q) (jrv.to (rx (jset (jMac σ) 55 0 (σ 1 8)) rfl rfl) ⟨(if_neg h0).trans (if_neg h80), (if_neg h0).trans (if_neg h80)⟩) (jAds_0 _ _ _ _ _) (fun _ => a1.2.1) (fd_m h (by omega) (by omega) (by omega) (by omega))
theorem op_endMacro {g : Int} {σ : JM} (h : jINV g σ) : jOF mL_endMacro mX7_endMacro 0 55 jid [(2, 0), (2, 55)] [(2, 7)] g σ := by
  have S := h.1
  have a1 := S.a1
  have a2 := S.a2
  have gl : σ 7 3 ≠ -1 → σ 14 (σ 7 2 - 1) = σ 40 (σ 7 2 - 1) ∧ 0 ≤ σ 40 (σ 7 2 - 1) ∧ σ 40 (σ 7 2 - 1) < σ 7 1 := fun q => by
    have := S.mm (σ 7 2 - 1) (by omega) (by omega)
    exact ⟨this.1, this.2.1⟩
  have rx := fun τ (t1 : τ 7 1 = σ 7 1) (t2 : τ 7 3 = σ 7 3) (t3 : τ 40 (σ 7 3) = σ 40 (σ 7 3)) => sp_X7_endMacro (σ := τ) (by omega) (by omega) (by rw [t2, t3]; intro q; have := gl q; rw [show σ 7 3 = σ 7 2 - 1 by omega]; omega)
  by_cases h0 : σ 7 3 = -1 ∨ 0 < σ 7 4
  · exact jOF.ok (by decide) (by decide) (sp_L_endMacro (Nat.le_refl 1) (sp_X6_endMacro (sp_X5_finishMacroU (by omega)) (fun v t q => q.elim)) (fun v t q => q.elim) (fun X t q => Or.inl q.1)) (fun v t q => lq_endMacro_1 q) (jrv.to (rx σ rfl rfl rfl) ⟨if_pos h0, if_pos h0⟩) rfl (fun q => absurd q (by decide)) (h.q 1)
  have g0 := gl (by omega)
  by_cases h80 : σ 7 1 = 80
  · exact jOF.ok (by decide) (by decide) (sp_L_endMacro (Nat.le_refl 1) (sp_X6_endMacro (sp_X5_finishMacroX (by omega) (by omega) (by omega)) (fun v t q => q.elim)) (fun v t q => q.elim) (fun X t q => Or.inr q.1)) (fun v t q => lq_endMacro_2 q) (jrv.to (rx σ rfl rfl rfl) ⟨(if_neg h0).trans (if_pos h80), (if_neg h0).trans (if_pos h80)⟩) rfl (fun q => absurd q (by decide)) (h.q 2)
  · refine jOF.ok (by decide) (by decide) (sp_L_endMacro (Nat.zero_le 1) (sp_X6_endMacro (sp_X5_finishMacro (by omega) (by omega) (by omega) (by omega) (by omega) (by rw [a1.2.1, g0.1]; omega)) (fun v t q => ⟨_, q.1⟩)) (fun v t q => ⟨_, q.1⟩) (fun X t q => q.elim)) (fun v t q => lq_endMacro q) (jrv.to (rx (jset (jEndM σ) 55 0 (σ 1 8 - 1)) rfl rfl rfl) ⟨(if_neg h0).trans (if_neg h80), (if_neg h0).trans (if_neg h80)⟩) (jAds_0 _ _ _ _ _) (fun _ => ?_) (fd_n h (by omega) (by omega) (by omega))
    show σ 1 8 - 1 = σ 7 3
    omega
/-- a call of the law without a wrapper, and the reference's -/
def jOD (mL mX : JI) (g : Int) (σ : JM) : Prop := ∃ dL dX : Nat, dL < 100 ∧ dX < 100 ∧ ∃ QL, JSp mL dL 0 [(2, 0)] σ QL jno ∧ ∀ v τ, QL v τ → ∃ a, v = some (0, a) ∧ ∃ QM, JSp mX dX 0 [(2, 7)] τ QM jno ∧ ∀ w ρ, QM w ρ → w = some (0, a) ∧ jINV g ρ
theorem jOD.ok {mL mX : JI} {g a b : Int} {σ τ ρ : JM} {dL dX : Nat} (h1 : dL < 100) (h2 : dX < 100) (hL : JSp mL dL 0 [(2, 0)] σ (jrv a τ) jno) (hX : JSp mX dX 0 [(2, 7)] τ (jrv b ρ) jno) (e : b = a) (hI : jINV g ρ) : jOD mL mX g σ :=
  ⟨dL, dX, h1, h2, _, hL, fun v t q => by
    obtain ⟨rfl, rfl⟩ := q
    exact ⟨a, rfl, _, hX, fun w r q2 => by
      obtain ⟨rfl, rfl⟩ := q2
      exact ⟨by rw [e], hI⟩⟩⟩
theorem op_clear {g : Int} {σ : JM} (h : jINV g σ) (hg : g ≤ 100000) : jOD mX6_clear mX7_clear (g + 1) σ := jOD.ok (by decide) (by decide) (sp_X6_clear (by have := h.2.2.2.1; omega)) sp_X7_clear h.1.a1.1.symm (fd_c h)
theorem op_lines {g : Int} {σ : JM} (h : jINV g σ) : jOD mX6_lines mX7_lines g σ := jOD.ok (by decide) (by decide) sp_X6_lines sp_X7_lines h.1.a1.1.symm (h.q 0)
theorem op_macros {g : Int} {σ : JM} (h : jINV g σ) : jOD mX6_macros mX7_macros g σ := jOD.ok (by decide) (by decide) sp_X6_macros sp_X7_macros h.1.a1.2.1.symm (h.q 0)
