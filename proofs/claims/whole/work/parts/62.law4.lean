/-- a call of the law through its wrapper, and the reference's -/
def jOF (mL mX : JI) (tag out : Nat) (cv : Int → Int) (AsL AsX : List JV) (g : Int) (σ : JM) : Prop := ∃ dL dX : Nat, dL < 100 ∧ dX < 100 ∧ ∃ QL, JSpH mL dL 1 AsL σ QL jno ∧ ∀ v τ, QL v τ → ∃ k, v = some (0, k) ∧ ∃ QM, JSp mX dX 0 AsX τ QM jno ∧ ∀ w ρ, QM w ρ → ∃ b, w = some (tag, b) ∧ ρ 7 0 = k ∧ (k = 0 → ρ out 0 = cv b) ∧ jINV g ρ
theorem jOF.ok {mL mX : JI} {cv : Int → Int} {AsL AsX : List JV} {g k b : Int} {out : Nat} {σ τ ρ : JM} {dL dX : Nat} {QL : Option JV → JM → Prop} (h1 : dL < 100) (h2 : dX < 100) (hL : JSpH mL dL 1 AsL σ QL jno) (hq : ∀ v t, QL v t → v = some (0, k) ∧ t = τ) (hX : JSp mX dX 0 AsX τ (jrv b ρ) jno) (h0 : ρ 7 0 = k) (ho : k = 0 → ρ out 0 = cv b) (hI : jINV g ρ) : jOF mL mX 0 out cv AsL AsX g σ :=
  ⟨dL, dX, h1, h2, QL, hL, fun v t q => by
    obtain ⟨rfl, rfl⟩ := hq v t q
    exact ⟨k, rfl, _, hX, fun w r q2 => by
      obtain ⟨rfl, rfl⟩ := q2
      exact ⟨b, rfl, h0, ho, hI⟩⟩⟩
abbrev jid (b : Int) : Int := b
theorem jrv.to {mX : JI} {d : Nat} {As : List JV} {σ ρ ρ' : JM} {b b' : Int} (h : JSp mX d 0 As σ (jrv b ρ) jno) (e : b = b' ∧ ρ = ρ') : JSp mX d 0 As σ (jrv b' ρ') jno := by rw [← e.1, ← e.2]; exact h
theorem jFd_0 {σ : JM} {f s a b c : Int} (e : f = 0) : jFdR σ f = 0 ∧ jFdM σ f s a b c = jset σ 7 0 1 := by
  constructor
  · unfold jFdR; rw [if_pos e]
  · unfold jFdM; rw [if_pos e]
theorem jFd_8 {σ : JM} {f s a b c : Int} (e : f = 1) (h : σ 7 1 = 80) : jFdR σ f = 0 ∧ jFdM σ f s a b c = jset σ 7 0 2 := by
  constructor
  · unfold jFdR; rw [if_neg (by omega), if_pos h]
  · unfold jFdM; rw [if_neg (by omega), if_pos h]
theorem jFd_1 {σ : JM} {f s a b c : Int} (e : f = 1) (h : σ 7 1 ≠ 80) : jFdR σ f = σ 7 1 ∧ jFdM σ f s a b c = jAds σ s a b c := by
  constructor
  · unfold jFdR; rw [if_neg (by omega), if_neg h]
  · unfold jFdM; rw [if_neg (by omega), if_neg h]
theorem jFeed_p {σ : JM} {k f s x : Int} (h : ¬ jgrp k) : jFeed σ k f s x = jApp σ k f s x := by unfold jFeed; rw [if_neg h]
theorem jAds_0 (σ : JM) (s a b c : Int) : jAds σ s a b c 7 0 = 0 := by simp [jAds, jset]
theorem jAds_55 (σ : JM) (s a b c : Int) : jAds σ s a b c 55 0 = σ 55 0 := rfl
theorem op_label {g : Int} {σ : JM} {p : Int} (h : jINV g σ) : jOF mL_label mX7_label 0 55 jid [(2, 0), (0, p), (2, 55)] [(2, 7), (0, p)] g σ := by
  have S := h.1
  have a1 := S.a1
  have a2 := S.a2
  have e : jgo 108 = 19 := by decide
  by_cases ho : jrgt σ p 19
  · have hf : jisop σ p (jgo 108) := by rw [e]; omega
    have hs : jisop σ 0 (jgo 108) := by rw [e]; omega
    by_cases h80 : σ 7 1 = 80
    · exact jOF.ok (by decide) (by decide) (sp_L_label (Nat.le_refl 1) (sp_X6_label (sp_X5_feedX (by omega) hf hs) (fun v t q => q.elim)) (fun v t q => q.elim) (fun X t q => Or.inr q.1)) (fun v t q => lq_label_2 q) (jrv.to (sp_X7_label (σ := σ) (show 0 ≤ σ 7 1 by omega) (show σ 7 1 ≤ 80 by omega)) (jFd_8 (if_pos ho) h80)) rfl (fun q => absurd q (by decide)) (h.q 2)
    · have nw : jnw σ 108 p 0 0 0 p 0 0 := ⟨⟨by decide, by decide⟩, rfl, rfl, rfl, by rw [e]; omega, by rw [e]; omega, fun q => absurd q (by decide), fun _ _ => rfl, ⟨by omega, by omega, fun q => absurd q (by decide)⟩, by omega, fun q => absurd q (by decide), fun q => absurd q (by decide), fun q => absurd q (by decide)⟩
      have I := fd_p (r := σ 1 7) h (by omega) nw (by decide)
      have ef : jFeed σ 108 p 0 0 = jApp σ 108 p 0 0 := jFeed_p (by decide)
      refine jOF.ok (by decide) (by decide) (sp_L_label (Nat.zero_le 1) (sp_X6_label (sp_X5_feed (by omega) (by omega) (by omega) (by omega) hf hs) (fun v t q => ⟨_, q.1⟩)) (fun v t q => ⟨_, q.1⟩) (fun X t q => q.elim)) (fun v t q => lq_label q) (jrv.to (sp_X7_label (σ := jset (jFeed σ 108 p 0 0) 55 0 (σ 1 7)) (show 0 ≤ σ 7 1 by omega) (show σ 7 1 ≤ 80 by omega)) (jFd_1 (if_pos ho) h80)) (jAds_0 _ _ _ _ _) (fun _ => ?_) (by rw [ef]; exact I)
      show σ 1 7 = σ 7 1
      exact a1.1
  · exact jOF.ok (by decide) (by decide) (sp_L_label (Nat.le_refl 1) (sp_X6_label (sp_X5_feedA (fun q => ho (by rw [e] at q; omega))) (fun v t q => q.elim)) (fun v t q => q.elim) (fun X t q => Or.inl q.1)) (fun v t q => lq_label_1 q) (jrv.to (sp_X7_label (σ := σ) (show 0 ≤ σ 7 1 by omega) (show σ 7 1 ≤ 80 by omega)) (jFd_0 (if_neg (ho)))) rfl (fun q => absurd q (by decide)) (h.q 1)
theorem op_word {g : Int} {σ : JM} {p : Int} (h : jINV g σ) : jOF mL_word mX7_word 0 55 jid [(2, 0), (0, p), (2, 55)] [(2, 7), (0, p)] g σ := by
  have S := h.1
  have a1 := S.a1
  have a2 := S.a2
  have e : jgo 119 = 999 := by decide
  by_cases ho : jrgt σ p 999
  · have hf : jisop σ p (jgo 119) := by rw [e]; omega
    have hs : jisop σ 0 (jgo 119) := by rw [e]; omega
    by_cases h80 : σ 7 1 = 80
    · exact jOF.ok (by decide) (by decide) (sp_L_word (Nat.le_refl 1) (sp_X6_word (sp_X5_feedX (by omega) hf hs) (fun v t q => q.elim)) (fun v t q => q.elim) (fun X t q => Or.inr q.1)) (fun v t q => lq_word_2 q) (jrv.to (sp_X7_word (σ := σ) (show 0 ≤ σ 7 1 by omega) (show σ 7 1 ≤ 80 by omega)) (jFd_8 (if_pos ho) h80)) rfl (fun q => absurd q (by decide)) (h.q 2)
    · have nw : jnw σ 119 p 0 0 1 p 0 0 := ⟨⟨by decide, by decide⟩, rfl, rfl, rfl, by rw [e]; omega, by rw [e]; omega, fun q => absurd q (by decide), fun _ _ => rfl, ⟨by omega, by omega, fun q => absurd q (by decide)⟩, by omega, fun q => absurd q (by decide), fun q => absurd q (by decide), fun q => absurd q (by decide)⟩
      have I := fd_p (r := σ 1 7) h (by omega) nw (by decide)
      have ef : jFeed σ 119 p 0 0 = jApp σ 119 p 0 0 := jFeed_p (by decide)
      refine jOF.ok (by decide) (by decide) (sp_L_word (Nat.zero_le 1) (sp_X6_word (sp_X5_feed (by omega) (by omega) (by omega) (by omega) hf hs) (fun v t q => ⟨_, q.1⟩)) (fun v t q => ⟨_, q.1⟩) (fun X t q => q.elim)) (fun v t q => lq_word q) (jrv.to (sp_X7_word (σ := jset (jFeed σ 119 p 0 0) 55 0 (σ 1 7)) (show 0 ≤ σ 7 1 by omega) (show σ 7 1 ≤ 80 by omega)) (jFd_1 (if_pos ho) h80)) (jAds_0 _ _ _ _ _) (fun _ => ?_) (by rw [ef]; exact I)
      show σ 1 7 = σ 7 1
      exact a1.1
  · exact jOF.ok (by decide) (by decide) (sp_L_word (Nat.le_refl 1) (sp_X6_word (sp_X5_feedA (fun q => ho (by rw [e] at q; omega))) (fun v t q => q.elim)) (fun v t q => q.elim) (fun X t q => Or.inl q.1)) (fun v t q => lq_word_1 q) (jrv.to (sp_X7_word (σ := σ) (show 0 ≤ σ 7 1 by omega) (show σ 7 1 ≤ 80 by omega)) (jFd_0 (if_neg (ho)))) rfl (fun q => absurd q (by decide)) (h.q 1)
theorem op_jump {g : Int} {σ : JM} {p : Int} (h : jINV g σ) : jOF mL_jump mX7_jump 0 55 jid [(2, 0), (0, p), (2, 55)] [(2, 7), (0, p)] g σ := by
  have S := h.1
  have a1 := S.a1
  have a2 := S.a2
  have e : jgo 106 = 19 := by decide
  by_cases ho : jrgt σ p 19
  · have hf : jisop σ p (jgo 106) := by rw [e]; omega
    have hs : jisop σ 0 (jgo 106) := by rw [e]; omega
    by_cases h80 : σ 7 1 = 80
    · exact jOF.ok (by decide) (by decide) (sp_L_jump (Nat.le_refl 1) (sp_X6_jump (sp_X5_feedX (by omega) hf hs) (fun v t q => q.elim)) (fun v t q => q.elim) (fun X t q => Or.inr q.1)) (fun v t q => lq_jump_2 q) (jrv.to (sp_X7_jump (σ := σ) (show 0 ≤ σ 7 1 by omega) (show σ 7 1 ≤ 80 by omega)) (jFd_8 (if_pos ho) h80)) rfl (fun q => absurd q (by decide)) (h.q 2)
    · have nw : jnw σ 106 p 0 0 3 p 0 0 := ⟨⟨by decide, by decide⟩, rfl, rfl, rfl, by rw [e]; omega, by rw [e]; omega, fun q => absurd q (by decide), fun _ _ => rfl, ⟨by omega, by omega, fun q => absurd q (by decide)⟩, by omega, fun q => absurd q (by decide), fun q => absurd q (by decide), fun q => absurd q (by decide)⟩
      have I := fd_p (r := σ 1 7) h (by omega) nw (by decide)
      have ef : jFeed σ 106 p 0 0 = jApp σ 106 p 0 0 := jFeed_p (by decide)
      refine jOF.ok (by decide) (by decide) (sp_L_jump (Nat.zero_le 1) (sp_X6_jump (sp_X5_feed (by omega) (by omega) (by omega) (by omega) hf hs) (fun v t q => ⟨_, q.1⟩)) (fun v t q => ⟨_, q.1⟩) (fun X t q => q.elim)) (fun v t q => lq_jump q) (jrv.to (sp_X7_jump (σ := jset (jFeed σ 106 p 0 0) 55 0 (σ 1 7)) (show 0 ≤ σ 7 1 by omega) (show σ 7 1 ≤ 80 by omega)) (jFd_1 (if_pos ho) h80)) (jAds_0 _ _ _ _ _) (fun _ => ?_) (by rw [ef]; exact I)
      show σ 1 7 = σ 7 1
      exact a1.1
  · exact jOF.ok (by decide) (by decide) (sp_L_jump (Nat.le_refl 1) (sp_X6_jump (sp_X5_feedA (fun q => ho (by rw [e] at q; omega))) (fun v t q => q.elim)) (fun v t q => q.elim) (fun X t q => Or.inl q.1)) (fun v t q => lq_jump_1 q) (jrv.to (sp_X7_jump (σ := σ) (show 0 ≤ σ 7 1 by omega) (show σ 7 1 ≤ 80 by omega)) (jFd_0 (if_neg (ho)))) rfl (fun q => absurd q (by decide)) (h.q 1)
theorem op_address {g : Int} {σ : JM} {p : Int} (h : jINV g σ) : jOF mL_address mX7_address 0 55 jid [(2, 0), (0, p), (2, 55)] [(2, 7), (0, p)] g σ := by
  have S := h.1
  have a1 := S.a1
  have a2 := S.a2
  have e : jgo 97 = 19 := by decide
  by_cases ho : jrgt σ p 19
  · have hf : jisop σ p (jgo 97) := by rw [e]; omega
    have hs : jisop σ 0 (jgo 97) := by rw [e]; omega
    by_cases h80 : σ 7 1 = 80
    · exact jOF.ok (by decide) (by decide) (sp_L_address (Nat.le_refl 1) (sp_X6_address (sp_X5_feedX (by omega) hf hs) (fun v t q => q.elim)) (fun v t q => q.elim) (fun X t q => Or.inr q.1)) (fun v t q => lq_address_2 q) (jrv.to (sp_X7_address (σ := σ) (show 0 ≤ σ 7 1 by omega) (show σ 7 1 ≤ 80 by omega)) (jFd_8 (if_pos ho) h80)) rfl (fun q => absurd q (by decide)) (h.q 2)
    · have nw : jnw σ 97 p 0 0 4 p 0 0 := ⟨⟨by decide, by decide⟩, rfl, rfl, rfl, by rw [e]; omega, by rw [e]; omega, fun q => absurd q (by decide), fun _ _ => rfl, ⟨by omega, by omega, fun q => absurd q (by decide)⟩, by omega, fun q => absurd q (by decide), fun q => absurd q (by decide), fun q => absurd q (by decide)⟩
      have I := fd_p (r := σ 1 7) h (by omega) nw (by decide)
      have ef : jFeed σ 97 p 0 0 = jApp σ 97 p 0 0 := jFeed_p (by decide)
      refine jOF.ok (by decide) (by decide) (sp_L_address (Nat.zero_le 1) (sp_X6_address (sp_X5_feed (by omega) (by omega) (by omega) (by omega) hf hs) (fun v t q => ⟨_, q.1⟩)) (fun v t q => ⟨_, q.1⟩) (fun X t q => q.elim)) (fun v t q => lq_address q) (jrv.to (sp_X7_address (σ := jset (jFeed σ 97 p 0 0) 55 0 (σ 1 7)) (show 0 ≤ σ 7 1 by omega) (show σ 7 1 ≤ 80 by omega)) (jFd_1 (if_pos ho) h80)) (jAds_0 _ _ _ _ _) (fun _ => ?_) (by rw [ef]; exact I)
      show σ 1 7 = σ 7 1
      exact a1.1
  · exact jOF.ok (by decide) (by decide) (sp_L_address (Nat.le_refl 1) (sp_X6_address (sp_X5_feedA (fun q => ho (by rw [e] at q; omega))) (fun v t q => q.elim)) (fun v t q => q.elim) (fun X t q => Or.inl q.1)) (fun v t q => lq_address_1 q) (jrv.to (sp_X7_address (σ := σ) (show 0 ≤ σ 7 1 by omega) (show σ 7 1 ≤ 80 by omega)) (jFd_0 (if_neg (ho)))) rfl (fun q => absurd q (by decide)) (h.q 1)
theorem op_align {g : Int} {σ : JM} {p : Int} (h : jINV g σ) : jOF mL_align mX7_align 0 55 jid [(2, 0), (0, p), (2, 55)] [(2, 7), (0, p)] g σ := by
  have S := h.1
  have a1 := S.a1
  have a2 := S.a2
  have e : jgo 103 = 0 := by decide
  by_cases hc : 2 ≤ p ∧ p ≤ 8
  · have ca := hc
    by_cases ho : True
    · have hf : jisop σ 0 (jgo 103) := by rw [e]; omega
      have hs : jisop σ 0 (jgo 103) := by rw [e]; omega
      by_cases h80 : σ 7 1 = 80
      · exact jOF.ok (by decide) (by decide) (sp_L_align (Nat.le_refl 1) (sp_X6_align hc (sp_X5_feedX (by omega) hf hs) (fun v t q => q.elim)) (fun v t q => q.elim) (fun X t q => Or.inr q.1)) (fun v t q => lq_align_2 q) (jrv.to (sp_X7_align (σ := σ) (show 0 ≤ σ 7 1 by omega) (show σ 7 1 ≤ 80 by omega)) (jFd_8 (if_pos hc) h80)) rfl (fun q => absurd q (by decide)) (h.q 2)
      · have nw : jnw σ 103 0 0 p 5 p 0 0 := ⟨⟨by decide, by decide⟩, rfl, rfl, rfl, by rw [e]; omega, by rw [e]; omega, fun q => absurd q (by decide), fun _ _ => rfl, ⟨by omega, by omega, fun q => absurd q (by decide)⟩, by omega, fun _ => by omega, fun q => absurd q (by decide), fun q => absurd q (by decide)⟩
        have I := fd_p (r := σ 1 7) h (by omega) nw (by decide)
        have ef : jFeed σ 103 0 0 p = jApp σ 103 0 0 p := jFeed_p (by decide)
        refine jOF.ok (by decide) (by decide) (sp_L_align (Nat.zero_le 1) (sp_X6_align hc (sp_X5_feed (by omega) (by omega) (by omega) (by omega) hf hs) (fun v t q => ⟨_, q.1⟩)) (fun v t q => ⟨_, q.1⟩) (fun X t q => q.elim)) (fun v t q => lq_align q) (jrv.to (sp_X7_align (σ := jset (jFeed σ 103 0 0 p) 55 0 (σ 1 7)) (show 0 ≤ σ 7 1 by omega) (show σ 7 1 ≤ 80 by omega)) (jFd_1 (if_pos hc) h80)) (jAds_0 _ _ _ _ _) (fun _ => ?_) (by rw [ef]; exact I)
        show σ 1 7 = σ 7 1
        exact a1.1
    · exact absurd trivial ho
  · exact jOF.ok (by decide) (by decide) (sp_L_align (Nat.le_refl 1) (sp_X6_alignA hc) (fun v t q => q.elim) (fun X t q => Or.inl q.1)) (fun v t q => lq_align_1 q) (jrv.to (sp_X7_align (σ := σ) (show 0 ≤ σ 7 1 by omega) (show σ 7 1 ≤ 80 by omega)) (jFd_0 (if_neg (hc)))) rfl (fun q => absurd q (by decide)) (h.q 1)
theorem op_operation {g : Int} {σ : JM} {p q : Int} (h : jINV g σ) : jOF mL_operation mX7_operation 0 55 jid [(2, 0), (0, p), (0, q), (2, 55)] [(2, 7), (0, p), (0, q)] g σ := by
  have S := h.1
  have a1 := S.a1
  have a2 := S.a2
  have e : jgo 111 = 99 := by decide
  by_cases hc : 10 ≤ p ∧ p ≤ 99
  · have ca := hc
    by_cases ho : jrgt σ q 99
    · have hf : jisop σ q (jgo 111) := by rw [e]; omega
      have hs : jisop σ 0 (jgo 111) := by rw [e]; omega
      by_cases h80 : σ 7 1 = 80
      · exact jOF.ok (by decide) (by decide) (sp_L_operation (Nat.le_refl 1) (sp_X6_operation hc (sp_X5_feedX (by omega) hf hs) (fun v t q => q.elim)) (fun v t q => q.elim) (fun X t q => Or.inr q.1)) (fun v t q => lq_operation_2 q) (jrv.to (sp_X7_operation (σ := σ) (show 0 ≤ σ 7 1 by omega) (show σ 7 1 ≤ 80 by omega)) (jFd_8 (if_pos ⟨hc, ho⟩) h80)) rfl (fun q => absurd q (by decide)) (h.q 2)
      · have nw : jnw σ 111 q 0 p 2 q p 0 := ⟨⟨by decide, by decide⟩, rfl, rfl, rfl, by rw [e]; omega, by rw [e]; omega, fun q => absurd q (by decide), fun _ _ => rfl, ⟨by omega, by omega, fun q => absurd q (by decide)⟩, by omega, fun q => absurd q (by decide), fun _ => by omega, fun q => absurd q (by decide)⟩
        have I := fd_p (r := σ 1 7) h (by omega) nw (by decide)
        have ef : jFeed σ 111 q 0 p = jApp σ 111 q 0 p := jFeed_p (by decide)
        refine jOF.ok (by decide) (by decide) (sp_L_operation (Nat.zero_le 1) (sp_X6_operation hc (sp_X5_feed (by omega) (by omega) (by omega) (by omega) hf hs) (fun v t q => ⟨_, q.1⟩)) (fun v t q => ⟨_, q.1⟩) (fun X t q => q.elim)) (fun v t q => lq_operation q) (jrv.to (sp_X7_operation (σ := jset (jFeed σ 111 q 0 p) 55 0 (σ 1 7)) (show 0 ≤ σ 7 1 by omega) (show σ 7 1 ≤ 80 by omega)) (jFd_1 (if_pos ⟨hc, ho⟩) h80)) (jAds_0 _ _ _ _ _) (fun _ => ?_) (by rw [ef]; exact I)
        show σ 1 7 = σ 7 1
        exact a1.1
    · exact jOF.ok (by decide) (by decide) (sp_L_operation (Nat.le_refl 1) (sp_X6_operation hc (sp_X5_feedA (fun q => ho (by rw [e] at q; omega))) (fun v t q => q.elim)) (fun v t q => q.elim) (fun X t q => Or.inl q.1)) (fun v t q => lq_operation_1 q) (jrv.to (sp_X7_operation (σ := σ) (show 0 ≤ σ 7 1 by omega) (show σ 7 1 ≤ 80 by omega)) (jFd_0 (if_neg (fun q => ho q.2)))) rfl (fun q => absurd q (by decide)) (h.q 1)
  · exact jOF.ok (by decide) (by decide) (sp_L_operation (Nat.le_refl 1) (sp_X6_operationA hc) (fun v t q => q.elim) (fun X t q => Or.inl q.1)) (fun v t q => lq_operation_1 q) (jrv.to (sp_X7_operation (σ := σ) (show 0 ≤ σ 7 1 by omega) (show σ 7 1 ≤ 80 by omega)) (jFd_0 (if_neg (fun q => hc q.1)))) rfl (fun q => absurd q (by decide)) (h.q 1)
theorem jCa_1 {σ : JM} {m x y : Int} (e : ¬ (0 ≤ m ∧ m ≤ σ 7 2 - 1) ∨ m = σ 7 3) : jCaR σ m x y = 0 ∧ jCaM σ m x y = jset σ 7 0 1 := by
  constructor
  · unfold jCaR; rw [if_pos e]
  · unfold jCaM; rw [if_pos e]
theorem jCa_2 {σ : JM} {m x y : Int} (e : ¬ (¬ (0 ≤ m ∧ m ≤ σ 7 2 - 1) ∨ m = σ 7 3)) (e2 : ¬ (jrgt σ x 999 ∧ jrgt σ y 999)) : jCaR σ m x y = 0 ∧ jCaM σ m x y = jset σ 7 0 2 := by
  constructor
  · unfold jCaR; rw [if_neg e, if_pos e2]
  · unfold jCaM; rw [if_neg e, if_pos e2]
theorem jCa_3 {σ : JM} {m x y : Int} (e : ¬ (¬ (0 ≤ m ∧ m ≤ σ 7 2 - 1) ∨ m = σ 7 3)) (e2 : jrgt σ x 999 ∧ jrgt σ y 999) (h : σ 7 1 = 80) : jCaR σ m x y = 0 ∧ jCaM σ m x y = jset σ 7 0 3 := by
  constructor
  · unfold jCaR; rw [if_neg e, if_neg (fun q => q e2), if_pos h]
  · unfold jCaM; rw [if_neg e, if_neg (fun q => q e2), if_pos h]
theorem jCa_0 {σ : JM} {m x y : Int} (e : ¬ (¬ (0 ≤ m ∧ m ≤ σ 7 2 - 1) ∨ m = σ 7 3)) (e2 : jrgt σ x 999 ∧ jrgt σ y 999) (h : σ 7 1 ≠ 80) : jCaR σ m x y = σ 7 1 ∧ jCaM σ m x y = jAds σ 6 x y m := by
  constructor
  · unfold jCaR; rw [if_neg e, if_neg (fun q => q e2), if_neg h]
  · unfold jCaM; rw [if_neg e, if_neg (fun q => q e2), if_neg h]
theorem op_call {g : Int} {σ : JM} {m p q : Int} (h : jINV g σ) : jOF mL_call mX7_call 0 55 jid [(2, 0), (0, m), (0, p), (0, q), (2, 55)] [(2, 7), (0, m), (0, p), (0, q)] g σ := by
  have S := h.1
  have a1 := S.a1
  have a2 := S.a2
  have e : jgo 67 = 999 := by decide
  have ee : jended σ m ↔ ¬ (¬ (0 ≤ m ∧ m ≤ σ 7 2 - 1) ∨ m = σ 7 3) := by
    unfold jended
    split <;> omega
  by_cases hm : jended σ m
  · have hm2 := ee.mp hm
    have hm3 : 0 ≤ m ∧ m < σ 7 2 - σ 1 10 := by omega
    by_cases ho : jrgt σ p 999 ∧ jrgt σ q 999
    · have hf : jisop σ p (jgo 67) := by rw [e]; omega
      have hs : jisop σ q (jgo 67) := by rw [e]; omega
      by_cases h80 : σ 7 1 = 80
      · exact jOF.ok (by decide) (by decide) (sp_L_call (Nat.le_refl 1) (sp_X6_call (by omega) hm (sp_X5_feedX (by omega) hf hs) (fun v t q => q.elim)) (fun v t q => q.elim) (fun X t q => Or.inr (Or.inr q.1))) (fun v t q => lq_call_3 q) (jrv.to (sp_X7_call (σ := σ) (show 0 ≤ σ 7 1 by omega) (show σ 7 1 ≤ 80 by omega) (show 0 ≤ σ 7 2 ∧ σ 7 2 ≤ 8 by omega)) (jCa_3 hm2 ho h80)) rfl (fun q => absurd q (by decide)) (h.q 3)
      · have nw : jnw σ 67 p q m 6 p q m := ⟨⟨by decide, by decide⟩, rfl, rfl, rfl, by rw [e]; omega, by rw [e]; omega, fun q => absurd q (by decide), fun q => absurd rfl q, ⟨by omega, by omega, fun q => absurd q (by decide)⟩, by omega, fun q => absurd q (by decide), fun q => absurd q (by decide), fun _ => hm3⟩
        have I := fd_p (r := σ 1 7) h (by omega) nw (by decide)
        have ef : jFeed σ 67 p q m = jApp σ 67 p q m := jFeed_p (by decide)
        refine jOF.ok (by decide) (by decide) (sp_L_call (Nat.zero_le 1) (sp_X6_call (by omega) hm (sp_X5_feed (by omega) (by omega) (by omega) (by omega) hf hs) (fun v t q => ⟨_, q.1⟩)) (fun v t q => ⟨_, q.1⟩) (fun X t q => q.elim)) (fun v t q => lq_call q) (jrv.to (sp_X7_call (σ := jset (jFeed σ 67 p q m) 55 0 (σ 1 7)) (show 0 ≤ σ 7 1 by omega) (show σ 7 1 ≤ 80 by omega) (show 0 ≤ σ 7 2 ∧ σ 7 2 ≤ 8 by omega)) (jCa_0 (by rw [ef]; exact hm2) (by rw [ef]; exact ho) (by rw [ef]; exact h80))) (jAds_0 _ _ _ _ _) (fun _ => ?_) (by rw [ef]; exact I)
        show σ 1 7 = jset (jFeed σ 67 p q m) 55 0 (σ 1 7) 7 1
        rw [ef]; exact a1.1
    · exact jOF.ok (by decide) (by decide) (sp_L_call (Nat.le_refl 1) (sp_X6_call (by omega) hm (sp_X5_feedA (fun q => ho (by rw [e] at q; omega))) (fun v t q => q.elim)) (fun v t q => q.elim) (fun X t q => Or.inr (Or.inl q.1))) (fun v t q => lq_call_2 q) (jrv.to (sp_X7_call (σ := σ) (show 0 ≤ σ 7 1 by omega) (show σ 7 1 ≤ 80 by omega) (show 0 ≤ σ 7 2 ∧ σ 7 2 ≤ 8 by omega)) (jCa_2 hm2 ho)) rfl (fun q => absurd q (by decide)) (h.q 2)
  · exact jOF.ok (by decide) (by decide) (sp_L_call (Nat.le_refl 1) (sp_X6_callN (by omega) hm) (fun v t q => q.elim) (fun X t q => Or.inl q.1)) (fun v t q => lq_call_1 q) (jrv.to (sp_X7_call (σ := σ) (show 0 ≤ σ 7 1 by omega) (show σ 7 1 ≤ 80 by omega) (show 0 ≤ σ 7 2 ∧ σ 7 2 ≤ 8 by omega)) (jCa_1 (Decidable.not_not.mp (fun q => hm (ee.mpr q))))) rfl (fun q => absurd q (by decide)) (h.q 1)
