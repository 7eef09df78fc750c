/-! ===== ghosts behind a call; what a feeding call of the law gives ===== -/
theorem jGh.rf (τ : JM) : jGh τ τ := ⟨fun _ _ _ _ => rfl, fun _ _ => rfl⟩
theorem jGh.set {τ ρ : JM} (h : jGh τ ρ) {k : Nat} (j v : Int) (hk : 34 ≤ k ∨ (k = 7 ∧ j < 100)) : jGh τ (jset ρ k j v) :=
  ⟨fun u hu h7 b => by rw [jset_ne ρ (fun q => by omega)]; exact h.1 u hu h7 b, fun b hb => by rw [jset_ne ρ (fun q => by omega)]; exact h.2 b hb⟩
theorem jGh.ads {τ ρ : JM} (h : jGh τ ρ) (s a b c : Int) : jGh τ (jAds ρ s a b c) := (((((h.set 0 0 (Or.inr ⟨rfl, by decide⟩)).set _ s (Or.inl (by decide))).set _ a (Or.inl (by decide))).set _ b (Or.inl (by decide))).set _ c (Or.inl (by decide))).set 1 _ (Or.inr ⟨rfl, by decide⟩)
theorem jGh.bg {τ ρ : JM} (h : jGh τ ρ) (s a b : Int) : jGh τ (jBgM ρ s a b) := jGh.ads ((h.set _ _ (Or.inl (by decide))).set 4 _ (Or.inr ⟨rfl, by decide⟩)) s a b 0
/-- the cells that the law's sum reads -/
def jSm (σ ρ : JM) : Prop := ρ 4 9 = σ 4 9 ∧ ρ 4 10 = σ 4 10 ∧ ρ 2 6 = σ 2 6 ∧ ρ 5 2 = σ 5 2 ∧ ∀ b, ρ 29 b = σ 29 b
theorem jSm.rf (σ : JM) : jSm σ σ := ⟨rfl, rfl, rfl, rfl, fun _ => rfl⟩
theorem jSm.tr {σ τ ρ : JM} (h : jSm σ τ) (g : jSm τ ρ) : jSm σ ρ := ⟨g.1.trans h.1, g.2.1.trans h.2.1, g.2.2.1.trans h.2.2.1, g.2.2.2.1.trans h.2.2.2.1, fun b => (g.2.2.2.2 b).trans (h.2.2.2.2 b)⟩
theorem jSm.gh {σ τ ρ : JM} (h : jSm σ τ) (g : jGh τ ρ) : jSm σ ρ := h.tr ⟨g.1 4 (by decide) (by decide) 9, g.1 4 (by decide) (by decide) 10, g.1 2 (by decide) (by decide) 6, g.1 5 (by decide) (by decide) 2, fun b => g.1 29 (by decide) (by decide) b⟩
def jFO (mL : JI) (As : List JV) (g : Int) (σ : JM) (rf ac : Prop) (num m8 m9 m10 : Int) : Prop := ∃ dL nL : Nat, dL < 60 ∧ nL ≤ 1 ∧ ∃ QL, JSpH mL dL nL As σ QL jno ∧ ∀ v τ, QL v τ → ∃ k, v = some (0, k) ∧ ((k < 0 ∧ τ = σ ∧ rf) ∨ (k = num ∧ 0 ≤ k ∧ ac ∧ ∃ ρ, jGh τ ρ ∧ jINV g ρ ∧ jSm σ ρ ∧ ρ 1 7 = σ 1 7 + 1 ∧ ρ 1 8 = m8 ∧ ρ 1 9 = m9 ∧ ρ 1 10 = m10))
theorem jFO.no {mL : JI} {As : List JV} {g : Int} {σ : JM} {rf ac : Prop} {num m8 m9 m10 c : Int} {dL : Nat} {QL : Option JV → JM → Prop} (hd : dL < 60) (hL : JSpH mL dL 1 As σ QL jno) (hq : ∀ v t, QL v t → v = some (0, c) ∧ t = σ) (hc : c < 0) (r : rf) : jFO mL As g σ rf ac num m8 m9 m10 :=
  ⟨dL, 1, hd, Nat.le_refl 1, QL, hL, fun v t q => ⟨c, (hq v t q).1, Or.inl ⟨hc, (hq v t q).2, r⟩⟩⟩
theorem jFO.ok {mL : JI} {As : List JV} {g : Int} {σ τ ρ : JM} {rf ac : Prop} {num m8 m9 m10 : Int} {dL : Nat} {QL : Option JV → JM → Prop} (hd : dL < 60) (hL : JSpH mL dL 0 As σ QL jno) (hq : ∀ v t, QL v t → v = some (0, num) ∧ t = τ) (h0 : 0 ≤ num) (a : ac) (gh : jGh τ ρ) (I : jINV g ρ) (sm : jSm σ τ) (e7 : τ 1 7 = σ 1 7 + 1) (e8 : τ 1 8 = m8) (e9 : τ 1 9 = m9) (e10 : τ 1 10 = m10) : jFO mL As g σ rf ac num m8 m9 m10 :=
  ⟨dL, 0, hd, Nat.zero_le 1, QL, hL, fun v t q => ⟨num, (hq v t q).1, Or.inr ⟨rfl, h0, a, ρ, by rw [(hq v t q).2]; exact gh, I, sm.gh gh, (gh.1 1 (by decide) (by decide) 7).trans e7, (gh.1 1 (by decide) (by decide) 8).trans e8, (gh.1 1 (by decide) (by decide) 9).trans e9, (gh.1 1 (by decide) (by decide) 10).trans e10⟩⟩⟩
theorem of_label {g : Int} {σ : JM} {p : Int} (h : jINV g σ) : jFO mL_label [(2, 0), (0, p)] g σ (¬ (0 ≤ p ∧ p ≤ 19) ∨ σ 1 7 = 80) True (σ 1 7) (σ 1 8) (σ 1 9) (σ 1 10) := by
  have S := h.1
  have a1 := S.a1
  have a2 := S.a2
  have e : jgo 108 = 19 := by decide
  by_cases ho : jrgt σ p 19
  · have hf : jisop σ p (jgo 108) := by rw [e]; omega
    have hs : jisop σ 0 (jgo 108) := by rw [e]; omega
    by_cases h80 : σ 7 1 = 80
    · exact jFO.no (by decide) (sp_L_label (sp_X6_label (sp_X5_feedX (by omega) hf hs) (fun v t q => q.elim)) (fun v t q => q.elim) (fun X t q => Or.inr q.1)) (fun v t q => lx_label_2 q) (by decide) (by omega)
    · have nw : jnw σ 108 p 0 0 0 p 0 0 := ⟨⟨by decide, by decide⟩, rfl, rfl, rfl, by rw [e]; omega, by rw [e]; omega, fun q => absurd q (by decide), fun _ _ => rfl, ⟨by omega, by omega, fun q => absurd q (by decide)⟩, by omega, fun q => absurd q (by decide), fun q => absurd q (by decide), fun q => absurd q (by decide)⟩
      have I := fd_p (r := σ 1 7) h (by omega) nw (by decide)
      have ef : jFeed σ 108 p 0 0 = jApp σ 108 p 0 0 := jFeed_p (by decide)
      exact jFO.ok (by decide) (sp_L_label (sp_X6_label (sp_X5_feed (by omega) (by omega) (by omega) (by omega) hf hs) (fun v t q => ⟨_, q.1⟩)) (fun v t q => ⟨_, q.1⟩) (fun X t q => q.elim)) (fun v t q => lr_label q) (by omega) trivial (by rw [ef]; exact jGh.ads ((jGh.rf _).set 0 _ (Or.inl (by decide))) _ _ _ _) I (by rw [ef]; exact ⟨rfl, rfl, rfl, rfl, fun _ => rfl⟩) (by rw [ef]; rfl) (by rw [ef]; rfl) (by rw [ef]; rfl) (by rw [ef]; rfl)
  · exact jFO.no (by decide) (sp_L_label (sp_X6_label (sp_X5_feedA (fun q => ho (by rw [e] at q; omega))) (fun v t q => q.elim)) (fun v t q => q.elim) (fun X t q => Or.inl q.1)) (fun v t q => lx_label_1 q) (by decide) (by omega)
theorem of_word {g : Int} {σ : JM} {p : Int} (h : jINV g σ) : jFO mL_word [(2, 0), (0, p)] g σ (True) True (σ 1 7) (σ 1 8) (σ 1 9) (σ 1 10) := by
  have S := h.1
  have a1 := S.a1
  have a2 := S.a2
  have e : jgo 119 = 999 := by decide
  by_cases ho : jrgt σ p 999
  · have hf : jisop σ p (jgo 119) := by rw [e]; omega
    have hs : jisop σ 0 (jgo 119) := by rw [e]; omega
    by_cases h80 : σ 7 1 = 80
    · exact jFO.no (by decide) (sp_L_word (sp_X6_word (sp_X5_feedX (by omega) hf hs) (fun v t q => q.elim)) (fun v t q => q.elim) (fun X t q => Or.inr q.1)) (fun v t q => lx_word_2 q) (by decide) (trivial)
    · have nw : jnw σ 119 p 0 0 1 p 0 0 := ⟨⟨by decide, by decide⟩, rfl, rfl, rfl, by rw [e]; omega, by rw [e]; omega, fun q => absurd q (by decide), fun _ _ => rfl, ⟨by omega, by omega, fun q => absurd q (by decide)⟩, by omega, fun q => absurd q (by decide), fun q => absurd q (by decide), fun q => absurd q (by decide)⟩
      have I := fd_p (r := σ 1 7) h (by omega) nw (by decide)
      have ef : jFeed σ 119 p 0 0 = jApp σ 119 p 0 0 := jFeed_p (by decide)
      exact jFO.ok (by decide) (sp_L_word (sp_X6_word (sp_X5_feed (by omega) (by omega) (by omega) (by omega) hf hs) (fun v t q => ⟨_, q.1⟩)) (fun v t q => ⟨_, q.1⟩) (fun X t q => q.elim)) (fun v t q => lr_word q) (by omega) trivial (by rw [ef]; exact jGh.ads ((jGh.rf _).set 0 _ (Or.inl (by decide))) _ _ _ _) I (by rw [ef]; exact ⟨rfl, rfl, rfl, rfl, fun _ => rfl⟩) (by rw [ef]; rfl) (by rw [ef]; rfl) (by rw [ef]; rfl) (by rw [ef]; rfl)
  · exact jFO.no (by decide) (sp_L_word (sp_X6_word (sp_X5_feedA (fun q => ho (by rw [e] at q; omega))) (fun v t q => q.elim)) (fun v t q => q.elim) (fun X t q => Or.inl q.1)) (fun v t q => lx_word_1 q) (by decide) (trivial)
theorem of_jump {g : Int} {σ : JM} {p : Int} (h : jINV g σ) : jFO mL_jump [(2, 0), (0, p)] g σ (True) True (σ 1 7) (σ 1 8) (σ 1 9) (σ 1 10) := by
  have S := h.1
  have a1 := S.a1
  have a2 := S.a2
  have e : jgo 106 = 19 := by decide
  by_cases ho : jrgt σ p 19
  · have hf : jisop σ p (jgo 106) := by rw [e]; omega
    have hs : jisop σ 0 (jgo 106) := by rw [e]; omega
    by_cases h80 : σ 7 1 = 80
    · exact jFO.no (by decide) (sp_L_jump (sp_X6_jump (sp_X5_feedX (by omega) hf hs) (fun v t q => q.elim)) (fun v t q => q.elim) (fun X t q => Or.inr q.1)) (fun v t q => lx_jump_2 q) (by decide) (trivial)
    · have nw : jnw σ 106 p 0 0 3 p 0 0 := ⟨⟨by decide, by decide⟩, rfl, rfl, rfl, by rw [e]; omega, by rw [e]; omega, fun q => absurd q (by decide), fun _ _ => rfl, ⟨by omega, by omega, fun q => absurd q (by decide)⟩, by omega, fun q => absurd q (by decide), fun q => absurd q (by decide), fun q => absurd q (by decide)⟩
      have I := fd_p (r := σ 1 7) h (by omega) nw (by decide)
      have ef : jFeed σ 106 p 0 0 = jApp σ 106 p 0 0 := jFeed_p (by decide)
      exact jFO.ok (by decide) (sp_L_jump (sp_X6_jump (sp_X5_feed (by omega) (by omega) (by omega) (by omega) hf hs) (fun v t q => ⟨_, q.1⟩)) (fun v t q => ⟨_, q.1⟩) (fun X t q => q.elim)) (fun v t q => lr_jump q) (by omega) trivial (by rw [ef]; exact jGh.ads ((jGh.rf _).set 0 _ (Or.inl (by decide))) _ _ _ _) I (by rw [ef]; exact ⟨rfl, rfl, rfl, rfl, fun _ => rfl⟩) (by rw [ef]; rfl) (by rw [ef]; rfl) (by rw [ef]; rfl) (by rw [ef]; rfl)
  · exact jFO.no (by decide) (sp_L_jump (sp_X6_jump (sp_X5_feedA (fun q => ho (by rw [e] at q; omega))) (fun v t q => q.elim)) (fun v t q => q.elim) (fun X t q => Or.inl q.1)) (fun v t q => lx_jump_1 q) (by decide) (trivial)
theorem of_address {g : Int} {σ : JM} {p : Int} (h : jINV g σ) : jFO mL_address [(2, 0), (0, p)] g σ (True) True (σ 1 7) (σ 1 8) (σ 1 9) (σ 1 10) := by
  have S := h.1
  have a1 := S.a1
  have a2 := S.a2
  have e : jgo 97 = 19 := by decide
  by_cases ho : jrgt σ p 19
  · have hf : jisop σ p (jgo 97) := by rw [e]; omega
    have hs : jisop σ 0 (jgo 97) := by rw [e]; omega
    by_cases h80 : σ 7 1 = 80
    · exact jFO.no (by decide) (sp_L_address (sp_X6_address (sp_X5_feedX (by omega) hf hs) (fun v t q => q.elim)) (fun v t q => q.elim) (fun X t q => Or.inr q.1)) (fun v t q => lx_address_2 q) (by decide) (trivial)
    · have nw : jnw σ 97 p 0 0 4 p 0 0 := ⟨⟨by decide, by decide⟩, rfl, rfl, rfl, by rw [e]; omega, by rw [e]; omega, fun q => absurd q (by decide), fun _ _ => rfl, ⟨by omega, by omega, fun q => absurd q (by decide)⟩, by omega, fun q => absurd q (by decide), fun q => absurd q (by decide), fun q => absurd q (by decide)⟩
      have I := fd_p (r := σ 1 7) h (by omega) nw (by decide)
      have ef : jFeed σ 97 p 0 0 = jApp σ 97 p 0 0 := jFeed_p (by decide)
      exact jFO.ok (by decide) (sp_L_address (sp_X6_address (sp_X5_feed (by omega) (by omega) (by omega) (by omega) hf hs) (fun v t q => ⟨_, q.1⟩)) (fun v t q => ⟨_, q.1⟩) (fun X t q => q.elim)) (fun v t q => lr_address q) (by omega) trivial (by rw [ef]; exact jGh.ads ((jGh.rf _).set 0 _ (Or.inl (by decide))) _ _ _ _) I (by rw [ef]; exact ⟨rfl, rfl, rfl, rfl, fun _ => rfl⟩) (by rw [ef]; rfl) (by rw [ef]; rfl) (by rw [ef]; rfl) (by rw [ef]; rfl)
  · exact jFO.no (by decide) (sp_L_address (sp_X6_address (sp_X5_feedA (fun q => ho (by rw [e] at q; omega))) (fun v t q => q.elim)) (fun v t q => q.elim) (fun X t q => Or.inl q.1)) (fun v t q => lx_address_1 q) (by decide) (trivial)
theorem of_align {g : Int} {σ : JM} {p : Int} (h : jINV g σ) : jFO mL_align [(2, 0), (0, p)] g σ (True) True (σ 1 7) (σ 1 8) (σ 1 9) (σ 1 10) := by
  have S := h.1
  have a1 := S.a1
  have a2 := S.a2
  have e : jgo 103 = 0 := by decide
  by_cases hc : 2 ≤ p ∧ p ≤ 8
  · have ca := hc
    by_cases ho : True
    · have hf : jisop σ 0 (jgo 103) := by rw [e]; omega
      have hs : jisop σ 0 (jgo 103) := by rw [e]; omega
      by_cases h80 : σ 7 1 = 80
      · exact jFO.no (by decide) (sp_L_align (sp_X6_align hc (sp_X5_feedX (by omega) hf hs) (fun v t q => q.elim)) (fun v t q => q.elim) (fun X t q => Or.inr q.1)) (fun v t q => lx_align_2 q) (by decide) (trivial)
      · have nw : jnw σ 103 0 0 p 5 p 0 0 := ⟨⟨by decide, by decide⟩, rfl, rfl, rfl, by rw [e]; omega, by rw [e]; omega, fun q => absurd q (by decide), fun _ _ => rfl, ⟨by omega, by omega, fun q => absurd q (by decide)⟩, by omega, fun _ => by omega, fun q => absurd q (by decide), fun q => absurd q (by decide)⟩
        have I := fd_p (r := σ 1 7) h (by omega) nw (by decide)
        have ef : jFeed σ 103 0 0 p = jApp σ 103 0 0 p := jFeed_p (by decide)
        exact jFO.ok (by decide) (sp_L_align (sp_X6_align hc (sp_X5_feed (by omega) (by omega) (by omega) (by omega) hf hs) (fun v t q => ⟨_, q.1⟩)) (fun v t q => ⟨_, q.1⟩) (fun X t q => q.elim)) (fun v t q => lr_align q) (by omega) trivial (by rw [ef]; exact jGh.ads ((jGh.rf _).set 0 _ (Or.inl (by decide))) _ _ _ _) I (by rw [ef]; exact ⟨rfl, rfl, rfl, rfl, fun _ => rfl⟩) (by rw [ef]; rfl) (by rw [ef]; rfl) (by rw [ef]; rfl) (by rw [ef]; rfl)
    · exact absurd trivial ho
  · exact jFO.no (by decide) (sp_L_align (sp_X6_alignA hc) (fun v t q => q.elim) (fun X t q => Or.inl q.1)) (fun v t q => lx_align_1 q) (by decide) (trivial)
theorem of_operation {g : Int} {σ : JM} {p q : Int} (h : jINV g σ) : jFO mL_operation [(2, 0), (0, p), (0, q)] g σ (True) True (σ 1 7) (σ 1 8) (σ 1 9) (σ 1 10) := by
  have S := h.1
  have a1 := S.a1
  have a2 := S.a2
  have e : jgo 111 = 99 := by decide
  by_cases hc : 10 ≤ p ∧ p ≤ 99
  · have ca := hc
    by_cases ho : jrgt σ q 99
    · have hf : jisop σ q (jgo 111) := by rw [e]; omega
      have hs : jisop σ 0 (jgo 111) := by rw [e]; omega
      by_cases h80 : σ 7 1 = 80
      · exact jFO.no (by decide) (sp_L_operation (sp_X6_operation hc (sp_X5_feedX (by omega) hf hs) (fun v t q => q.elim)) (fun v t q => q.elim) (fun X t q => Or.inr q.1)) (fun v t q => lx_operation_2 q) (by decide) (trivial)
      · have nw : jnw σ 111 q 0 p 2 q p 0 := ⟨⟨by decide, by decide⟩, rfl, rfl, rfl, by rw [e]; omega, by rw [e]; omega, fun q => absurd q (by decide), fun _ _ => rfl, ⟨by omega, by omega, fun q => absurd q (by decide)⟩, by omega, fun q => absurd q (by decide), fun _ => by omega, fun q => absurd q (by decide)⟩
        have I := fd_p (r := σ 1 7) h (by omega) nw (by decide)
        have ef : jFeed σ 111 q 0 p = jApp σ 111 q 0 p := jFeed_p (by decide)
        exact jFO.ok (by decide) (sp_L_operation (sp_X6_operation hc (sp_X5_feed (by omega) (by omega) (by omega) (by omega) hf hs) (fun v t q => ⟨_, q.1⟩)) (fun v t q => ⟨_, q.1⟩) (fun X t q => q.elim)) (fun v t q => lr_operation q) (by omega) trivial (by rw [ef]; exact jGh.ads ((jGh.rf _).set 0 _ (Or.inl (by decide))) _ _ _ _) I (by rw [ef]; exact ⟨rfl, rfl, rfl, rfl, fun _ => rfl⟩) (by rw [ef]; rfl) (by rw [ef]; rfl) (by rw [ef]; rfl) (by rw [ef]; rfl)
    · exact jFO.no (by decide) (sp_L_operation (sp_X6_operation hc (sp_X5_feedA (fun q => ho (by rw [e] at q; omega))) (fun v t q => q.elim)) (fun v t q => q.elim) (fun X t q => Or.inl q.1)) (fun v t q => lx_operation_1 q) (by decide) (trivial)
  · exact jFO.no (by decide) (sp_L_operation (sp_X6_operationA hc) (fun v t q => q.elim) (fun X t q => Or.inl q.1)) (fun v t q => lx_operation_1 q) (by decide) (trivial)
theorem of_call {g : Int} {σ : JM} {m p q : Int} (h : jINV g σ) : jFO mL_call [(2, 0), (0, m), (0, p), (0, q)] g σ (True) True (σ 1 7) (σ 1 8) (σ 1 9) (σ 1 10) := by
  have S := h.1
  have a1 := S.a1
  have a2 := S.a2
  have e : jgo 67 = 999 := by decide
  have ee : jended σ m ↔ ¬ (¬ (0 ≤ m ∧ m ≤ σ 7 2 - 1) ∨ m = σ 7 3) := by
    unfold jended
    split <;> omega
  by_cases hm : jended σ m
  · have hm2 := ee.mp hm
    have hm3 : 0 ≤ m ∧ m < σ 7 2 - σ 1 10 := by omega
    by_cases ho : jrgt σ p 999 ∧ jrgt σ q 999
    · have hf : jisop σ p (jgo 67) := by rw [e]; omega
      have hs : jisop σ q (jgo 67) := by rw [e]; omega
      by_cases h80 : σ 7 1 = 80
      · exact jFO.no (by decide) (sp_L_call (sp_X6_call (by omega) hm (sp_X5_feedX (by omega) hf hs) (fun v t q => q.elim)) (fun v t q => q.elim) (fun X t q => Or.inr (Or.inr q.1))) (fun v t q => lx_call_3 q) (by decide) (trivial)
      · have nw : jnw σ 67 p q m 6 p q m := ⟨⟨by decide, by decide⟩, rfl, rfl, rfl, by rw [e]; omega, by rw [e]; omega, fun q => absurd q (by decide), fun q => absurd rfl q, ⟨by omega, by omega, fun q => absurd q (by decide)⟩, by omega, fun q => absurd q (by decide), fun q => absurd q (by decide), fun _ => hm3⟩
        have I := fd_p (r := σ 1 7) h (by omega) nw (by decide)
        have ef : jFeed σ 67 p q m = jApp σ 67 p q m := jFeed_p (by decide)
        exact jFO.ok (by decide) (sp_L_call (sp_X6_call (by omega) hm (sp_X5_feed (by omega) (by omega) (by omega) (by omega) hf hs) (fun v t q => ⟨_, q.1⟩)) (fun v t q => ⟨_, q.1⟩) (fun X t q => q.elim)) (fun v t q => lr_call q) (by omega) trivial (by rw [ef]; exact jGh.ads ((jGh.rf _).set 0 _ (Or.inl (by decide))) _ _ _ _) I (by rw [ef]; exact ⟨rfl, rfl, rfl, rfl, fun _ => rfl⟩) (by rw [ef]; rfl) (by rw [ef]; rfl) (by rw [ef]; rfl) (by rw [ef]; rfl)
    · exact jFO.no (by decide) (sp_L_call (sp_X6_call (by omega) hm (sp_X5_feedA (fun q => ho (by rw [e] at q; omega))) (fun v t q => q.elim)) (fun v t q => q.elim) (fun X t q => Or.inr (Or.inl q.1))) (fun v t q => lx_call_2 q) (by decide) (trivial)
  · exact jFO.no (by decide) (sp_L_call (sp_X6_callN (by omega) hm) (fun v t q => q.elim) (fun X t q => Or.inl q.1)) (fun v t q => lx_call_1 q) (by decide) (trivial)
theorem of_block {g : Int} {σ : JM}  (h : jINV g σ) : jFO mL_block [(2, 0)] g σ (True) True (σ 1 7) (σ 1 8) (σ 1 9 + 1) (σ 1 10) := by
  have S := h.1
  have a1 := S.a1
  have a2 := S.a2
  have e : jgo 66 = 0 := by decide
  by_cases ho : True
  · have hf : jisop σ 0 (jgo 66) := by rw [e]; omega
    have hs : jisop σ 0 (jgo 66) := by rw [e]; omega
    by_cases h80 : σ 7 1 = 80
    · exact jFO.no (by decide) (sp_L_block (sp_X6_block (sp_X5_feedX (by omega) hf hs) (fun v t q => q.elim)) (fun v t q => q.elim) (fun X t q => q.1)) (fun v t q => lx_block_1 q) (by decide) (trivial)
    · have nw : jnw σ 66 0 0 0 7 0 0 0 := ⟨⟨by decide, by decide⟩, rfl, rfl, rfl, by rw [e]; omega, by rw [e]; omega, fun _ => rfl, fun _ _ => rfl, ⟨by omega, by omega, fun q => absurd q (by decide)⟩, by omega, fun q => absurd q (by decide), fun q => absurd q (by decide), fun q => absurd q (by decide)⟩
      have I := fd_g (r := σ 1 7) h (by omega) nw (by decide)
      have ef : jFeed σ 66 0 0 0 = jset (jset (jApp σ 66 0 0 0) 13 (σ 1 9) (σ 1 7)) 1 9 (σ 1 9 + 1) := jFeed_g (by decide)
      exact jFO.ok (by decide) (sp_L_block (sp_X6_block (sp_X5_feed (by omega) (by omega) (by omega) (by omega) hf hs) (fun v t q => ⟨_, q.1⟩)) (fun v t q => ⟨_, q.1⟩) (fun X t q => q.elim)) (fun v t q => lr_block q) (by omega) trivial (by rw [ef]; exact jGh.bg ((jGh.rf _).set 0 _ (Or.inl (by decide))) _ _ _) I (by rw [ef]; exact ⟨rfl, rfl, rfl, rfl, fun _ => rfl⟩) (by rw [ef]; rfl) (by rw [ef]; rfl) (by rw [ef]; rfl) (by rw [ef]; rfl)
  · exact absurd trivial ho
theorem of_loop {g : Int} {σ : JM} {p : Int} (h : jINV g σ) : jFO mL_loop [(2, 0), (0, p)] g σ (True) True (σ 1 7) (σ 1 8) (σ 1 9 + 1) (σ 1 10) := by
  have S := h.1
  have a1 := S.a1
  have a2 := S.a2
  have e : jgo 76 = 9 := by decide
  by_cases ho : jrgt σ p 9
  · have hf : jisop σ p (jgo 76) := by rw [e]; omega
    have hs : jisop σ 0 (jgo 76) := by rw [e]; omega
    by_cases h80 : σ 7 1 = 80
    · exact jFO.no (by decide) (sp_L_loop (sp_X6_loop (sp_X5_feedX (by omega) hf hs) (fun v t q => q.elim)) (fun v t q => q.elim) (fun X t q => Or.inr q.1)) (fun v t q => lx_loop_2 q) (by decide) (trivial)
    · have nw : jnw σ 76 p 0 0 8 p 0 0 := ⟨⟨by decide, by decide⟩, rfl, rfl, rfl, by rw [e]; omega, by rw [e]; omega, fun q => absurd q (by decide), fun _ _ => rfl, ⟨by omega, by omega, fun _ => by omega⟩, by omega, fun q => absurd q (by decide), fun q => absurd q (by decide), fun q => absurd q (by decide)⟩
      have I := fd_g (r := σ 1 7) h (by omega) nw (by decide)
      have ef : jFeed σ 76 p 0 0 = jset (jset (jApp σ 76 p 0 0) 13 (σ 1 9) (σ 1 7)) 1 9 (σ 1 9 + 1) := jFeed_g (by decide)
      exact jFO.ok (by decide) (sp_L_loop (sp_X6_loop (sp_X5_feed (by omega) (by omega) (by omega) (by omega) hf hs) (fun v t q => ⟨_, q.1⟩)) (fun v t q => ⟨_, q.1⟩) (fun X t q => q.elim)) (fun v t q => lr_loop q) (by omega) trivial (by rw [ef]; exact jGh.bg ((jGh.rf _).set 0 _ (Or.inl (by decide))) _ _ _) I (by rw [ef]; exact ⟨rfl, rfl, rfl, rfl, fun _ => rfl⟩) (by rw [ef]; rfl) (by rw [ef]; rfl) (by rw [ef]; rfl) (by rw [ef]; rfl)
  · exact jFO.no (by decide) (sp_L_loop (sp_X6_loop (sp_X5_feedA (fun q => ho (by rw [e] at q; omega))) (fun v t q => q.elim)) (fun v t q => q.elim) (fun X t q => Or.inl q.1)) (fun v t q => lx_loop_1 q) (by decide) (trivial)
theorem of_when {g : Int} {σ : JM} {p q : Int} (h : jINV g σ) : jFO mL_when [(2, 0), (0, p), (0, q)] g σ (True) True (σ 1 7) (σ 1 8) (σ 1 9 + 1) (σ 1 10) := by
  have S := h.1
  have a1 := S.a1
  have a2 := S.a2
  have e : jgo 87 = 999 := by decide
  by_cases ho : jrgt σ p 999 ∧ jrgt σ q 999
  · have hf : jisop σ p (jgo 87) := by rw [e]; omega
    have hs : jisop σ q (jgo 87) := by rw [e]; omega
    by_cases h80 : σ 7 1 = 80
    · exact jFO.no (by decide) (sp_L_when (sp_X6_when (sp_X5_feedX (by omega) hf hs) (fun v t q => q.elim)) (fun v t q => q.elim) (fun X t q => Or.inr q.1)) (fun v t q => lx_when_2 q) (by decide) (trivial)
    · have nw : jnw σ 87 p q 0 9 p q 0 := ⟨⟨by decide, by decide⟩, rfl, rfl, rfl, by rw [e]; omega, by rw [e]; omega, fun q => absurd q (by decide), fun _ q => absurd rfl q, ⟨by omega, by omega, fun q => absurd q (by decide)⟩, by omega, fun q => absurd q (by decide), fun q => absurd q (by decide), fun q => absurd q (by decide)⟩
      have I := fd_g (r := σ 1 7) h (by omega) nw (by decide)
      have ef : jFeed σ 87 p q 0 = jset (jset (jApp σ 87 p q 0) 13 (σ 1 9) (σ 1 7)) 1 9 (σ 1 9 + 1) := jFeed_g (by decide)
      exact jFO.ok (by decide) (sp_L_when (sp_X6_when (sp_X5_feed (by omega) (by omega) (by omega) (by omega) hf hs) (fun v t q => ⟨_, q.1⟩)) (fun v t q => ⟨_, q.1⟩) (fun X t q => q.elim)) (fun v t q => lr_when q) (by omega) trivial (by rw [ef]; exact jGh.bg ((jGh.rf _).set 0 _ (Or.inl (by decide))) _ _ _) I (by rw [ef]; exact ⟨rfl, rfl, rfl, rfl, fun _ => rfl⟩) (by rw [ef]; rfl) (by rw [ef]; rfl) (by rw [ef]; rfl) (by rw [ef]; rfl)
  · exact jFO.no (by decide) (sp_L_when (sp_X6_when (sp_X5_feedA (fun q => ho (by rw [e] at q; omega))) (fun v t q => q.elim)) (fun v t q => q.elim) (fun X t q => Or.inl q.1)) (fun v t q => lx_when_1 q) (by decide) (trivial)
theorem of_end {g : Int} {σ : JM} (h : jINV g σ) : jFO mL_end [(2, 0)] g σ (σ 1 9 = 0 ∨ σ 1 7 = 80) (0 < σ 1 9) (σ 1 7) (σ 1 8) (σ 1 9 - 1) (σ 1 10) := by
  have S := h.1
  have a1 := S.a1
  have a2 := S.a2
  have gl : σ 7 4 ≠ 0 → σ 13 (σ 7 4 - 1) = σ 39 (σ 7 4 - 1) ∧ 0 ≤ σ 39 (σ 7 4 - 1) ∧ σ 39 (σ 7 4 - 1) < σ 7 1 := fun q => by
    have := S.gg (σ 7 4 - 1) (by omega) (by omega)
    exact ⟨this.1, this.2.1⟩
  by_cases h0 : σ 7 4 = 0
  · exact jFO.no (by decide) (sp_L_end (sp_X6_end (sp_X5_endGroupU (by omega)) (fun v t q => q.elim)) (fun v t q => q.elim) (fun X t q => Or.inl q.1)) (fun v t q => lx_end_1 q) (by decide) (by omega)
  have g0 := gl h0
  by_cases h80 : σ 7 1 = 80
  · exact jFO.no (by decide) (sp_L_end (sp_X6_end (sp_X5_endGroupX (by omega) (by omega)) (fun v t q => q.elim)) (fun v t q => q.elim) (fun X t q => Or.inr q.1)) (fun v t q => lx_end_2 q) (by decide) (by omega)
  · exact jFO.ok (by decide) (sp_L_end (sp_X6_end (sp_X5_endGroup (by omega) (by omega) (by omega) (by omega) (by omega) (by rw [a1.2.2.1, g0.1]; omega)) (fun v t q => ⟨_, q.1⟩)) (fun v t q => ⟨_, q.1⟩) (fun X t q => q.elim)) (fun v t q => lr_end q) (by omega) (by omega) (jGh.ads ((((jGh.rf _).set 0 (σ 1 7) (Or.inl (by decide))).set 4 _ (Or.inr ⟨rfl, by decide⟩)).set _ _ (Or.inl (by decide))) _ _ _ _) (fd_e (r := σ 1 7) h (by omega) h0) ⟨rfl, rfl, rfl, rfl, fun _ => rfl⟩ rfl rfl rfl rfl
theorem of_macro {g : Int} {σ : JM} (h : jINV g σ) : jFO mL_macro [(2, 0)] g σ True (σ 1 9 = 0 ∧ σ 1 10 = 0) (σ 1 8) (σ 1 8 + 1) (σ 1 9) 1 := by
  have S := h.1
  have a1 := S.a1
  have a2 := S.a2
  have u := S.unf
  by_cases h0 : σ 7 3 ≠ -1 ∨ 0 < σ 7 4
  · exact jFO.no (by decide) (sp_L_macro (sp_X6_macro (sp_X5_beginMacroU (by omega) (by omega) (fun q => by have := u.1.mp q; omega)) (fun v t q => q.elim)) (fun v t q => q.elim) (fun X t q => Or.inl q.1)) (fun v t q => lx_macro_1 q) (by decide) trivial
  by_cases h80 : σ 7 1 = 80 ∨ σ 7 2 = 8
  · exact jFO.no (by decide) (sp_L_macro (sp_X6_macro (sp_X5_beginMacroX (by omega) (by omega) (by omega) (by omega)) (fun v t q => q.elim)) (fun v t q => q.elim) (fun X t q => Or.inr q.1)) (fun v t q => lx_macro_2 q) (by decide) trivial
  · exact jFO.ok (by decide) (sp_L_macro (sp_X6_macro (sp_X5_beginMacro (by omega) (by omega) (by omega) (by omega) (by omega)) (fun v t q => ⟨_, q.1⟩)) (fun v t q => ⟨_, q.1⟩) (fun X t q => q.elim)) (fun v t q => lr_macro q) (by omega) (by omega) (jGh.ads (((((jGh.rf _).set 0 (σ 1 8) (Or.inl (by decide))).set _ _ (Or.inl (by decide))).set 3 _ (Or.inr ⟨rfl, by decide⟩)).set 2 _ (Or.inr ⟨rfl, by decide⟩)) _ _ _ _) (fd_m (r := σ 1 8) h (by omega) (by omega) (by omega) (by omega)) ⟨rfl, rfl, rfl, rfl, fun _ => rfl⟩ rfl rfl rfl rfl
theorem of_endMacro {g : Int} {σ : JM} (h : jINV g σ) : jFO mL_endMacro [(2, 0)] g σ (σ 1 10 = 0 ∨ 0 < σ 1 9 ∨ σ 1 7 = 80) (σ 1 9 = 0 ∧ σ 1 10 = 1) (σ 1 8 - 1) (σ 1 8) (σ 1 9) 0 := by
  have S := h.1
  have a1 := S.a1
  have a2 := S.a2
  have gl : σ 7 3 ≠ -1 → σ 14 (σ 7 2 - 1) = σ 40 (σ 7 2 - 1) ∧ 0 ≤ σ 40 (σ 7 2 - 1) ∧ σ 40 (σ 7 2 - 1) < σ 7 1 := fun q => by
    have := S.mm (σ 7 2 - 1) (by omega) (by omega)
    exact ⟨this.1, this.2.1⟩
  by_cases h0 : σ 7 3 = -1 ∨ 0 < σ 7 4
  · exact jFO.no (by decide) (sp_L_endMacro (sp_X6_endMacro (sp_X5_finishMacroU (by omega)) (fun v t q => q.elim)) (fun v t q => q.elim) (fun X t q => Or.inl q.1)) (fun v t q => lx_endMacro_1 q) (by decide) (by omega)
  have g0 := gl (by omega)
  by_cases h80 : σ 7 1 = 80
  · exact jFO.no (by decide) (sp_L_endMacro (sp_X6_endMacro (sp_X5_finishMacroX (by omega) (by omega) (by omega)) (fun v t q => q.elim)) (fun v t q => q.elim) (fun X t q => Or.inr q.1)) (fun v t q => lx_endMacro_2 q) (by decide) (by omega)
  · exact jFO.ok (by decide) (sp_L_endMacro (sp_X6_endMacro (sp_X5_finishMacro (by omega) (by omega) (by omega) (by omega) (by omega) (by rw [a1.2.1, g0.1]; omega)) (fun v t q => ⟨_, q.1⟩)) (fun v t q => ⟨_, q.1⟩) (fun X t q => q.elim)) (fun v t q => lr_endMacro q) (by omega) (by omega) (jGh.ads (((((jGh.rf _).set 0 (σ 1 8 - 1) (Or.inl (by decide))).set _ _ (Or.inl (by decide))).set _ _ (Or.inl (by decide))).set 3 _ (Or.inr ⟨rfl, by decide⟩)) _ _ _ _) (fd_n (r := σ 1 8 - 1) h (by omega) (by omega) (by omega)) ⟨rfl, rfl, rfl, rfl, fun _ => rfl⟩ rfl rfl rfl rfl
