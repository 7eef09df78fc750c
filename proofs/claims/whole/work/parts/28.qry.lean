/-- the questions leave the memory but for the code -/
def jq (σ : JM) (c : Int) : JM := jset σ 7 0 c
theorem jq_q (σ : JM) (a b : Int) : jq (jq σ a) b = jq σ b := by
  funext k j
  unfold jq
  by_cases e : k = 7 ∧ j = 0
  · obtain ⟨e1, e2⟩ := e; subst e1; subst e2; rw [jset_eq, jset_eq]
  · rw [jset_ne _ e, jset_ne _ e, jset_ne _ e]
abbrev jth (σ : JM) : Prop := σ 7 13 ≠ 0 ∧ σ 7 14 = 110
def jcT (σ : JM) : Int := if jth σ then 0 else 1
def jcF (σ : JM) : Int := if σ 7 13 ≠ 0 then 0 else 1
def jcFl (σ : JM) : Int := if σ 7 13 ≠ 0 ∧ σ 7 14 ≠ 110 then 0 else 1
def jcI (σ : JM) (N x : Int) : Int := if jcT σ ≠ 0 then jcT σ else if 0 ≤ x ∧ x ≤ N - 1 then 0 else 2
theorem jcI_1 {σ : JM} {N x : Int} (h : jcI σ N x = 0) : jcT σ = 0 ∧ 0 ≤ x ∧ x < N := by
  unfold jcI at h
  by_cases c : jcT σ = 0
  · rw [if_neg (by omega)] at h
    by_cases q : 0 ≤ x ∧ x ≤ N - 1
    · exact ⟨c, q.1, by omega⟩
    · rw [if_neg q] at h; exact absurd h (by decide)
  · rw [if_pos c] at h; exact absurd h c
theorem sp_X7_fault {σ : JM} : JSp mX7_fault 0 0 [(2, 7)] σ (jrv (if jcF σ = 0 then σ 7 14 else 0) (jq σ (jcF σ))) jno := by
  by_cases hc : σ 7 13 ≠ 0
  · rw [if_pos (show jcF σ = 0 from if_pos hc), show jcF σ = 0 from if_pos hc]
    refine JSp.of [(2, 7)] rfl (by decide +kernel) rfl rfl rfl (fun l E hA => ?_)
    refine V.aload_n dX7_fault_0 rfl ?_
    refine V.aload_n dX7_fault_1 rfl ?_
    refine V.getI fa_X7_175 (by decide) rfl dX7_fault_2 (fun _ => ?_)
    refine V.if_eq (tgt := 12) dX7_fault_5 (by decide) (fun h5 => ?_) (fun h5 => ?_)
    · exact absurd h5 hc
    · refine V.iconst dX7_fault_8 ⟨by decide, by decide⟩ ?_
      refine V.goto (tgt := 13) dX7_fault_9 (by decide) ?_
      refine V.putI fa_X7_82 (by decide) rfl dX7_fault_13 (Or.inl rfl) ?_
      refine V.aload_n dX7_fault_16 rfl ?_
      refine V.getI fa_X7_175 (by decide) rfl dX7_fault_17 (fun _ => ?_)
      rw [show jset σ 7 0 0 7 13 = σ 7 13 from rfl]
      refine V.if_eq (tgt := 30) dX7_fault_20 (by decide) (fun h20 => ?_) (fun h20 => ?_)
      · exact absurd h20 hc
      · refine V.aload_n dX7_fault_23 rfl ?_
        refine V.getI fa_X7_38 (by decide) rfl dX7_fault_24 (fun g24 => ?_)
        rw [show jset σ 7 0 0 7 14 = σ 7 14 from rfl] at g24 ⊢
        refine V.goto (tgt := 31) dX7_fault_27 (by decide) ?_
        exact V.iret (jret_c dX7_fault_31 rfl (g24.1) (g24.2)) ⟨rfl, rfl⟩
  · have hc : σ 7 13 = 0 := by omega
    rw [if_neg (show ¬ jcF σ = 0 by unfold jcF; rw [if_neg (by omega)]; decide), show jcF σ = 1 from if_neg (by omega)]
    refine JSp.of [(2, 7)] rfl (by decide +kernel) rfl rfl rfl (fun l E hA => ?_)
    refine V.aload_n dX7_fault_0 rfl ?_
    refine V.aload_n dX7_fault_1 rfl ?_
    refine V.getI fa_X7_175 (by decide) rfl dX7_fault_2 (fun _ => ?_)
    refine V.if_eq (tgt := 12) dX7_fault_5 (by decide) (fun h5 => ?_) (fun h5 => ?_)
    · refine V.iconst dX7_fault_12 ⟨by decide, by decide⟩ ?_
      refine V.putI fa_X7_82 (by decide) rfl dX7_fault_13 (Or.inl rfl) ?_
      refine V.aload_n dX7_fault_16 rfl ?_
      refine V.getI fa_X7_175 (by decide) rfl dX7_fault_17 (fun _ => ?_)
      rw [show jset σ 7 0 1 7 13 = σ 7 13 from rfl]
      refine V.if_eq (tgt := 30) dX7_fault_20 (by decide) (fun h20 => ?_) (fun h20 => ?_)
      · refine V.iconst dX7_fault_30 ⟨by decide, by decide⟩ ?_
        exact V.iret (jret_c dX7_fault_31 rfl (by decide) (by decide)) ⟨rfl, rfl⟩
      · exact absurd hc h20
    · exact absurd hc h5
theorem sp_X7_faultLine {σ : JM} : JSp mX7_faultLine 0 0 [(2, 7)] σ (jrv (if jcFl σ = 0 then σ 7 15 else 0) (jq σ (jcFl σ))) jno := by
  by_cases hc : σ 7 13 ≠ 0 ∧ σ 7 14 ≠ 110
  · rw [if_pos (show jcFl σ = 0 from if_pos hc), show jcFl σ = 0 from if_pos hc]
    refine JSp.of [(2, 7)] rfl (by decide +kernel) rfl rfl rfl (fun l E hA => ?_)
    refine V.aload_n dX7_faultLine_0 rfl ?_
    refine V.aload_n dX7_faultLine_1 rfl ?_
    refine V.getI fa_X7_175 (by decide) rfl dX7_faultLine_2 (fun _ => ?_)
    refine V.if_eq (tgt := 21) dX7_faultLine_5 (by decide) (fun h5 => ?_) (fun h5 => ?_)
    · exact absurd h5 hc.1
    · refine V.aload_n dX7_faultLine_8 rfl ?_
      refine V.getI fa_X7_38 (by decide) rfl dX7_faultLine_9 (fun _ => ?_)
      refine V.bipush dX7_faultLine_12 ⟨by decide, by decide⟩ ?_
      refine V.icmp_eq (tgt := 21) dX7_faultLine_14 (by decide) (fun h14 => ?_) (fun h14 => ?_)
      · exact absurd h14 hc.2
      · refine V.iconst dX7_faultLine_17 ⟨by decide, by decide⟩ ?_
        refine V.goto (tgt := 22) dX7_faultLine_18 (by decide) ?_
        refine V.putI fa_X7_82 (by decide) rfl dX7_faultLine_22 (Or.inl rfl) ?_
        refine V.aload_n dX7_faultLine_25 rfl ?_
        refine V.getI fa_X7_82 (by decide) rfl dX7_faultLine_26 (fun _ => ?_)
        rw [show jset σ 7 0 0 7 0 = 0 from jset_eq _ _ _ _]
        refine V.if_le (tgt := 36) dX7_faultLine_29 (by decide) (fun h29 => ?_) (fun h29 => ?_)
        · refine V.aload_n dX7_faultLine_36 rfl ?_
          refine V.getI fa_X7_118 (by decide) rfl dX7_faultLine_37 (fun _ => ?_)
          rw [show jset σ 7 0 0 7 15 = σ 7 15 from rfl]
          exact V.iret (jret_i dX7_faultLine_40 rfl) ⟨rfl, rfl⟩
        · exfalso; omega
  · rw [if_neg (show ¬ jcFl σ = 0 by unfold jcFl; rw [if_neg hc]; decide), show jcFl σ = 1 from if_neg hc]
    refine JSp.of [(2, 7)] rfl (by decide +kernel) rfl rfl rfl (fun l E hA => ?_)
    refine V.aload_n dX7_faultLine_0 rfl ?_
    refine V.aload_n dX7_faultLine_1 rfl ?_
    refine V.getI fa_X7_175 (by decide) rfl dX7_faultLine_2 (fun _ => ?_)
    refine V.if_eq (tgt := 21) dX7_faultLine_5 (by decide) (fun h5 => ?_) (fun h5 => ?_)
    · refine V.iconst dX7_faultLine_21 ⟨by decide, by decide⟩ ?_
      refine V.putI fa_X7_82 (by decide) rfl dX7_faultLine_22 (Or.inl rfl) ?_
      refine V.aload_n dX7_faultLine_25 rfl ?_
      refine V.getI fa_X7_82 (by decide) rfl dX7_faultLine_26 (fun _ => ?_)
      rw [show jset σ 7 0 1 7 0 = 1 from jset_eq _ _ _ _]
      refine V.if_le (tgt := 36) dX7_faultLine_29 (by decide) (fun h29 => ?_) (fun h29 => ?_)
      · exfalso; omega
      · refine V.iconst dX7_faultLine_32 ⟨by decide, by decide⟩ ?_
        refine V.goto (tgt := 40) dX7_faultLine_33 (by decide) ?_
        exact V.iret (jret_i dX7_faultLine_40 rfl) ⟨rfl, rfl⟩
    · refine V.aload_n dX7_faultLine_8 rfl ?_
      refine V.getI fa_X7_38 (by decide) rfl dX7_faultLine_9 (fun _ => ?_)
      refine V.bipush dX7_faultLine_12 ⟨by decide, by decide⟩ ?_
      refine V.icmp_eq (tgt := 21) dX7_faultLine_14 (by decide) (fun h14 => ?_) (fun h14 => ?_)
      · refine V.iconst dX7_faultLine_21 ⟨by decide, by decide⟩ ?_
        refine V.putI fa_X7_82 (by decide) rfl dX7_faultLine_22 (Or.inl rfl) ?_
        refine V.aload_n dX7_faultLine_25 rfl ?_
        refine V.getI fa_X7_82 (by decide) rfl dX7_faultLine_26 (fun _ => ?_)
        rw [show jset σ 7 0 1 7 0 = 1 from jset_eq _ _ _ _]
        refine V.if_le (tgt := 36) dX7_faultLine_29 (by decide) (fun h29 => ?_) (fun h29 => ?_)
        · exfalso; omega
        · refine V.iconst dX7_faultLine_32 ⟨by decide, by decide⟩ ?_
          refine V.goto (tgt := 40) dX7_faultLine_33 (by decide) ?_
          exact V.iret (jret_i dX7_faultLine_40 rfl) ⟨rfl, rfl⟩
      · exact absurd ⟨h5, h14⟩ hc
theorem sp_X7_isThere {σ : JM} : JSp mX7_isThere 0 0 [(2, 7)] σ (jrv (if jcT σ = 0 then 1 else 0) (jq σ (jcT σ))) jno := by
  by_cases hc : jth σ
  · rw [if_pos (show jcT σ = 0 from if_pos hc), show jcT σ = 0 from if_pos hc]
    refine JSp.of [(2, 7)] rfl (by decide +kernel) rfl rfl rfl (fun l E hA => ?_)
    refine V.aload_n dX7_isThere_0 rfl ?_
    refine V.aload_n dX7_isThere_1 rfl ?_
    refine V.getI fa_X7_175 (by decide) rfl dX7_isThere_2 (fun _ => ?_)
    refine V.if_eq (tgt := 21) dX7_isThere_5 (by decide) (fun h5 => ?_) (fun h5 => ?_)
    · exact absurd h5 hc.1
    · refine V.aload_n dX7_isThere_8 rfl ?_
      refine V.getI fa_X7_38 (by decide) rfl dX7_isThere_9 (fun _ => ?_)
      refine V.bipush dX7_isThere_12 ⟨by decide, by decide⟩ ?_
      refine V.icmp_ne (tgt := 21) dX7_isThere_14 (by decide) (fun h14 => ?_) (fun h14 => ?_)
      · exact absurd hc.2 h14
      · refine V.iconst dX7_isThere_17 ⟨by decide, by decide⟩ ?_
        refine V.goto (tgt := 22) dX7_isThere_18 (by decide) ?_
        refine V.putI fa_X7_82 (by decide) rfl dX7_isThere_22 (Or.inl rfl) ?_
        refine V.aload_n dX7_isThere_25 rfl ?_
        refine V.getI fa_X7_82 (by decide) rfl dX7_isThere_26 (fun _ => ?_)
        rw [show jset σ 7 0 0 7 0 = 0 from jset_eq _ _ _ _]
        refine V.if_ne (tgt := 36) dX7_isThere_29 (by decide) (fun h29 => ?_) (fun h29 => ?_)
        · exact absurd rfl h29
        · refine V.iconst dX7_isThere_32 ⟨by decide, by decide⟩ ?_
          refine V.goto (tgt := 37) dX7_isThere_33 (by decide) ?_
          exact V.iret (jret_z dX7_isThere_37 rfl (by decide)) ⟨rfl, rfl⟩
  · rw [if_neg (show ¬ jcT σ = 0 by unfold jcT; rw [if_neg hc]; decide), show jcT σ = 1 from if_neg hc]
    refine JSp.of [(2, 7)] rfl (by decide +kernel) rfl rfl rfl (fun l E hA => ?_)
    refine V.aload_n dX7_isThere_0 rfl ?_
    refine V.aload_n dX7_isThere_1 rfl ?_
    refine V.getI fa_X7_175 (by decide) rfl dX7_isThere_2 (fun _ => ?_)
    refine V.if_eq (tgt := 21) dX7_isThere_5 (by decide) (fun h5 => ?_) (fun h5 => ?_)
    · refine V.iconst dX7_isThere_21 ⟨by decide, by decide⟩ ?_
      refine V.putI fa_X7_82 (by decide) rfl dX7_isThere_22 (Or.inl rfl) ?_
      refine V.aload_n dX7_isThere_25 rfl ?_
      refine V.getI fa_X7_82 (by decide) rfl dX7_isThere_26 (fun _ => ?_)
      rw [show jset σ 7 0 1 7 0 = 1 from jset_eq _ _ _ _]
      refine V.if_ne (tgt := 36) dX7_isThere_29 (by decide) (fun h29 => ?_) (fun h29 => ?_)
      · refine V.iconst dX7_isThere_36 ⟨by decide, by decide⟩ ?_
        exact V.iret (jret_z dX7_isThere_37 rfl (by decide)) ⟨rfl, rfl⟩
      · exfalso; omega
    · refine V.aload_n dX7_isThere_8 rfl ?_
      refine V.getI fa_X7_38 (by decide) rfl dX7_isThere_9 (fun _ => ?_)
      refine V.bipush dX7_isThere_12 ⟨by decide, by decide⟩ ?_
      refine V.icmp_ne (tgt := 21) dX7_isThere_14 (by decide) (fun h14 => ?_) (fun h14 => ?_)
      · refine V.iconst dX7_isThere_21 ⟨by decide, by decide⟩ ?_
        refine V.putI fa_X7_82 (by decide) rfl dX7_isThere_22 (Or.inl rfl) ?_
        refine V.aload_n dX7_isThere_25 rfl ?_
        refine V.getI fa_X7_82 (by decide) rfl dX7_isThere_26 (fun _ => ?_)
        rw [show jset σ 7 0 1 7 0 = 1 from jset_eq _ _ _ _]
        refine V.if_ne (tgt := 36) dX7_isThere_29 (by decide) (fun h29 => ?_) (fun h29 => ?_)
        · refine V.iconst dX7_isThere_36 ⟨by decide, by decide⟩ ?_
          exact V.iret (jret_z dX7_isThere_37 rfl (by decide)) ⟨rfl, rfl⟩
        · exfalso; omega
      · exact absurd ⟨h5, h14⟩ hc
theorem sp_X7_words {σ : JM} : JSp mX7_words 1 0 [(2, 7)] σ (jrv (if jcT σ = 0 then σ 7 19 else 0) (jq σ (jcT σ))) jno := by
  by_cases hc : jcT σ = 0
  · rw [if_pos hc]
    refine JSp.of [(2, 7)] rfl (by decide +kernel) rfl rfl rfl (fun l E hA => ?_)
    refine V.aload_n dX7_words_0 rfl ?_
    refine V.cV [] rfl kc_X7_209 rfl dX7_words_1 (by decide) rfl rfl (sp_X7_isThere) (fun _ => ?_)
    rw [if_pos hc]
    refine V.if_eq (tgt := 14) dX7_words_4 (by decide) (fun h4 => ?_) (fun h4 => ?_)
    · exfalso; omega
    · refine V.aload_n dX7_words_7 rfl ?_
      refine V.getI fa_X7_162 (by decide) rfl dX7_words_8 (fun _ => ?_)
      rw [show jq σ (jcT σ) 7 19 = σ 7 19 from rfl]
      refine V.goto (tgt := 15) dX7_words_11 (by decide) ?_
      exact V.iret (jret_i dX7_words_15 rfl) ⟨rfl, rfl⟩
  · rw [if_neg hc]
    refine JSp.of [(2, 7)] rfl (by decide +kernel) rfl rfl rfl (fun l E hA => ?_)
    refine V.aload_n dX7_words_0 rfl ?_
    refine V.cV [] rfl kc_X7_209 rfl dX7_words_1 (by decide) rfl rfl (sp_X7_isThere) (fun _ => ?_)
    rw [if_neg hc]
    refine V.if_eq (tgt := 14) dX7_words_4 (by decide) (fun h4 => ?_) (fun h4 => ?_)
    · refine V.iconst dX7_words_14 ⟨by decide, by decide⟩ ?_
      exact V.iret (jret_i dX7_words_15 rfl) ⟨rfl, rfl⟩
    · exact absurd rfl h4
theorem sp_X7_passes {σ : JM} : JSp mX7_passes 1 0 [(2, 7)] σ (jrv (if jcT σ = 0 then σ 7 20 else 0) (jq σ (jcT σ))) jno := by
  by_cases hc : jcT σ = 0
  · rw [if_pos hc]
    refine JSp.of [(2, 7)] rfl (by decide +kernel) rfl rfl rfl (fun l E hA => ?_)
    refine V.aload_n dX7_passes_0 rfl ?_
    refine V.cV [] rfl kc_X7_209 rfl dX7_passes_1 (by decide) rfl rfl (sp_X7_isThere) (fun _ => ?_)
    rw [if_pos hc]
    refine V.if_eq (tgt := 14) dX7_passes_4 (by decide) (fun h4 => ?_) (fun h4 => ?_)
    · exfalso; omega
    · refine V.aload_n dX7_passes_7 rfl ?_
      refine V.getI fa_X7_179 (by decide) rfl dX7_passes_8 (fun _ => ?_)
      rw [show jq σ (jcT σ) 7 20 = σ 7 20 from rfl]
      refine V.goto (tgt := 15) dX7_passes_11 (by decide) ?_
      exact V.iret (jret_i dX7_passes_15 rfl) ⟨rfl, rfl⟩
  · rw [if_neg hc]
    refine JSp.of [(2, 7)] rfl (by decide +kernel) rfl rfl rfl (fun l E hA => ?_)
    refine V.aload_n dX7_passes_0 rfl ?_
    refine V.cV [] rfl kc_X7_209 rfl dX7_passes_1 (by decide) rfl rfl (sp_X7_isThere) (fun _ => ?_)
    rw [if_neg hc]
    refine V.if_eq (tgt := 14) dX7_passes_4 (by decide) (fun h4 => ?_) (fun h4 => ?_)
    · refine V.iconst dX7_passes_14 ⟨by decide, by decide⟩ ?_
      exact V.iret (jret_i dX7_passes_15 rfl) ⟨rfl, rfl⟩
    · exact absurd rfl h4
theorem sp_X7_items {σ : JM} : JSp mX7_items 1 0 [(2, 7)] σ (jrv (if jcT σ = 0 then σ 7 16 else 0) (jq σ (jcT σ))) jno := by
  by_cases hc : jcT σ = 0
  · rw [if_pos hc]
    refine JSp.of [(2, 7)] rfl (by decide +kernel) rfl rfl rfl (fun l E hA => ?_)
    refine V.aload_n dX7_items_0 rfl ?_
    refine V.cV [] rfl kc_X7_209 rfl dX7_items_1 (by decide) rfl rfl (sp_X7_isThere) (fun _ => ?_)
    rw [if_pos hc]
    refine V.if_eq (tgt := 14) dX7_items_4 (by decide) (fun h4 => ?_) (fun h4 => ?_)
    · exfalso; omega
    · refine V.aload_n dX7_items_7 rfl ?_
      refine V.getI fa_X7_124 (by decide) rfl dX7_items_8 (fun _ => ?_)
      rw [show jq σ (jcT σ) 7 16 = σ 7 16 from rfl]
      refine V.goto (tgt := 15) dX7_items_11 (by decide) ?_
      exact V.iret (jret_i dX7_items_15 rfl) ⟨rfl, rfl⟩
  · rw [if_neg hc]
    refine JSp.of [(2, 7)] rfl (by decide +kernel) rfl rfl rfl (fun l E hA => ?_)
    refine V.aload_n dX7_items_0 rfl ?_
    refine V.cV [] rfl kc_X7_209 rfl dX7_items_1 (by decide) rfl rfl (sp_X7_isThere) (fun _ => ?_)
    rw [if_neg hc]
    refine V.if_eq (tgt := 14) dX7_items_4 (by decide) (fun h4 => ?_) (fun h4 => ?_)
    · refine V.iconst dX7_items_14 ⟨by decide, by decide⟩ ?_
      exact V.iret (jret_i dX7_items_15 rfl) ⟨rfl, rfl⟩
    · exact absurd rfl h4
theorem sp_X7_isWord {σ : JM} {x : Int} (hn : 0 ≤ σ 7 19 ∧ σ 7 19 ≤ 1400) : JSp mX7_isWord 1 0 [(2, 7), (0, x)] σ (jrv (if jcI σ (σ 7 19) x = 0 then 1 else 0) (jq σ (jcI σ (σ 7 19) x))) jno := by
  by_cases hc : jcT σ = 0
  · have e : jq σ (jcT σ) 7 19 = σ 7 19 := rfl
    by_cases hi : 0 ≤ x ∧ x ≤ σ 7 19 - 1
    · have hz : jcI σ (σ 7 19) x = 0 := by unfold jcI; rw [if_neg (by omega), if_pos hi]
      rw [if_pos hz, hz]
      refine JSp.of [(2, 7), (0, x)] rfl (by decide +kernel) rfl rfl rfl (fun l E hA => ?_)
      refine V.aload_n dX7_isWord_0 rfl ?_
      refine V.cV [] rfl kc_X7_209 rfl dX7_isWord_1 (by decide) rfl rfl (sp_X7_isThere) (fun _ => ?_)
      rw [if_pos hc]
      refine V.if_ne (tgt := 9) dX7_isWord_4 (by decide) (fun h4 => ?_) (fun h4 => ?_)
      · refine V.aload_n dX7_isWord_9 rfl ?_
        refine V.iload_n dX7_isWord_10 rfl ?_
        refine V.iconst dX7_isWord_11 ⟨by decide, by decide⟩ ?_
        refine V.aload_n dX7_isWord_12 rfl ?_
        refine V.getI fa_X7_162 (by decide) rfl dX7_isWord_13 (fun _ => ?_)
        rw [e]
        refine V.iconst dX7_isWord_16 ⟨by decide, by decide⟩ ?_
        refine V.isub dX7_isWord_17 ⟨(by omega), (by omega)⟩ ?_
        refine V.cS [_, _, _] rfl kc_X7_85 dX7_isWord_18 (by decide) rfl rfl (sp_X7_in) (fun _ => ?_)
        rw [if_pos hi]
        refine V.if_eq (tgt := 28) dX7_isWord_21 (by decide) (fun h21 => ?_) (fun h21 => ?_)
        · exfalso; omega
        · refine V.iconst dX7_isWord_24 ⟨by decide, by decide⟩ ?_
          refine V.goto (tgt := 29) dX7_isWord_25 (by decide) ?_
          refine V.putI fa_X7_82 (by decide) rfl dX7_isWord_29 (Or.inl rfl) ?_
          rw [show jset (jq σ (jcT σ)) 7 0 0 = jq σ 0 from jq_q σ _ 0]
          refine V.aload_n dX7_isWord_32 rfl ?_
          refine V.getI fa_X7_82 (by decide) rfl dX7_isWord_33 (fun _ => ?_)
          rw [show jq σ 0 7 0 = 0 from jset_eq _ _ _ _]
          refine V.if_ne (tgt := 43) dX7_isWord_36 (by decide) (fun h36 => ?_) (fun h36 => ?_)
          · exact absurd rfl h36
          · refine V.iconst dX7_isWord_39 ⟨by decide, by decide⟩ ?_
            refine V.goto (tgt := 44) dX7_isWord_40 (by decide) ?_
            exact V.iret (jret_z dX7_isWord_44 rfl (by decide)) ⟨rfl, rfl⟩
      · exfalso; omega
    · have hz : jcI σ (σ 7 19) x = 2 := by unfold jcI; rw [if_neg (by omega), if_neg hi]
      rw [if_neg (show ¬ jcI σ (σ 7 19) x = 0 by omega), hz]
      refine JSp.of [(2, 7), (0, x)] rfl (by decide +kernel) rfl rfl rfl (fun l E hA => ?_)
      refine V.aload_n dX7_isWord_0 rfl ?_
      refine V.cV [] rfl kc_X7_209 rfl dX7_isWord_1 (by decide) rfl rfl (sp_X7_isThere) (fun _ => ?_)
      rw [if_pos hc]
      refine V.if_ne (tgt := 9) dX7_isWord_4 (by decide) (fun h4 => ?_) (fun h4 => ?_)
      · refine V.aload_n dX7_isWord_9 rfl ?_
        refine V.iload_n dX7_isWord_10 rfl ?_
        refine V.iconst dX7_isWord_11 ⟨by decide, by decide⟩ ?_
        refine V.aload_n dX7_isWord_12 rfl ?_
        refine V.getI fa_X7_162 (by decide) rfl dX7_isWord_13 (fun _ => ?_)
        rw [e]
        refine V.iconst dX7_isWord_16 ⟨by decide, by decide⟩ ?_
        refine V.isub dX7_isWord_17 ⟨(by omega), (by omega)⟩ ?_
        refine V.cS [_, _, _] rfl kc_X7_85 dX7_isWord_18 (by decide) rfl rfl (sp_X7_in) (fun _ => ?_)
        rw [if_neg hi]
        refine V.if_eq (tgt := 28) dX7_isWord_21 (by decide) (fun h21 => ?_) (fun h21 => ?_)
        · refine V.iconst dX7_isWord_28 ⟨by decide, by decide⟩ ?_
          refine V.putI fa_X7_82 (by decide) rfl dX7_isWord_29 (Or.inl rfl) ?_
          rw [show jset (jq σ (jcT σ)) 7 0 2 = jq σ 2 from jq_q σ _ 2]
          refine V.aload_n dX7_isWord_32 rfl ?_
          refine V.getI fa_X7_82 (by decide) rfl dX7_isWord_33 (fun _ => ?_)
          rw [show jq σ 2 7 0 = 2 from jset_eq _ _ _ _]
          refine V.if_ne (tgt := 43) dX7_isWord_36 (by decide) (fun h36 => ?_) (fun h36 => ?_)
          · refine V.iconst dX7_isWord_43 ⟨by decide, by decide⟩ ?_
            exact V.iret (jret_z dX7_isWord_44 rfl (by decide)) ⟨rfl, rfl⟩
          · exfalso; omega
        · exact absurd rfl h21
      · exfalso; omega
  · have hz : jcI σ (σ 7 19) x = jcT σ := by unfold jcI; rw [if_pos hc]
    rw [hz, if_neg hc]
    refine JSp.of [(2, 7), (0, x)] rfl (by decide +kernel) rfl rfl rfl (fun l E hA => ?_)
    refine V.aload_n dX7_isWord_0 rfl ?_
    refine V.cV [] rfl kc_X7_209 rfl dX7_isWord_1 (by decide) rfl rfl (sp_X7_isThere) (fun _ => ?_)
    rw [if_neg hc]
    refine V.if_ne (tgt := 9) dX7_isWord_4 (by decide) (fun h4 => ?_) (fun h4 => ?_)
    · exact absurd rfl h4
    · refine V.iconst dX7_isWord_7 ⟨by decide, by decide⟩ ?_
      exact V.iret (jret_z dX7_isWord_8 rfl (by decide)) ⟨rfl, rfl⟩
theorem sp_X7_isItem {σ : JM} {x : Int} (hn : 0 ≤ σ 7 16 ∧ σ 7 16 ≤ 1400) : JSp mX7_isItem 1 0 [(2, 7), (0, x)] σ (jrv (if jcI σ (σ 7 16) x = 0 then 1 else 0) (jq σ (jcI σ (σ 7 16) x))) jno := by
  by_cases hc : jcT σ = 0
  · have e : jq σ (jcT σ) 7 16 = σ 7 16 := rfl
    by_cases hi : 0 ≤ x ∧ x ≤ σ 7 16 - 1
    · have hz : jcI σ (σ 7 16) x = 0 := by unfold jcI; rw [if_neg (by omega), if_pos hi]
      rw [if_pos hz, hz]
      refine JSp.of [(2, 7), (0, x)] rfl (by decide +kernel) rfl rfl rfl (fun l E hA => ?_)
      refine V.aload_n dX7_isItem_0 rfl ?_
      refine V.cV [] rfl kc_X7_209 rfl dX7_isItem_1 (by decide) rfl rfl (sp_X7_isThere) (fun _ => ?_)
      rw [if_pos hc]
      refine V.if_ne (tgt := 9) dX7_isItem_4 (by decide) (fun h4 => ?_) (fun h4 => ?_)
      · refine V.aload_n dX7_isItem_9 rfl ?_
        refine V.iload_n dX7_isItem_10 rfl ?_
        refine V.iconst dX7_isItem_11 ⟨by decide, by decide⟩ ?_
        refine V.aload_n dX7_isItem_12 rfl ?_
        refine V.getI fa_X7_124 (by decide) rfl dX7_isItem_13 (fun _ => ?_)
        rw [e]
        refine V.iconst dX7_isItem_16 ⟨by decide, by decide⟩ ?_
        refine V.isub dX7_isItem_17 ⟨(by omega), (by omega)⟩ ?_
        refine V.cS [_, _, _] rfl kc_X7_85 dX7_isItem_18 (by decide) rfl rfl (sp_X7_in) (fun _ => ?_)
        rw [if_pos hi]
        refine V.if_eq (tgt := 28) dX7_isItem_21 (by decide) (fun h21 => ?_) (fun h21 => ?_)
        · exfalso; omega
        · refine V.iconst dX7_isItem_24 ⟨by decide, by decide⟩ ?_
          refine V.goto (tgt := 29) dX7_isItem_25 (by decide) ?_
          refine V.putI fa_X7_82 (by decide) rfl dX7_isItem_29 (Or.inl rfl) ?_
          rw [show jset (jq σ (jcT σ)) 7 0 0 = jq σ 0 from jq_q σ _ 0]
          refine V.aload_n dX7_isItem_32 rfl ?_
          refine V.getI fa_X7_82 (by decide) rfl dX7_isItem_33 (fun _ => ?_)
          rw [show jq σ 0 7 0 = 0 from jset_eq _ _ _ _]
          refine V.if_ne (tgt := 43) dX7_isItem_36 (by decide) (fun h36 => ?_) (fun h36 => ?_)
          · exact absurd rfl h36
          · refine V.iconst dX7_isItem_39 ⟨by decide, by decide⟩ ?_
            refine V.goto (tgt := 44) dX7_isItem_40 (by decide) ?_
            exact V.iret (jret_z dX7_isItem_44 rfl (by decide)) ⟨rfl, rfl⟩
      · exfalso; omega
    · have hz : jcI σ (σ 7 16) x = 2 := by unfold jcI; rw [if_neg (by omega), if_neg hi]
      rw [if_neg (show ¬ jcI σ (σ 7 16) x = 0 by omega), hz]
      refine JSp.of [(2, 7), (0, x)] rfl (by decide +kernel) rfl rfl rfl (fun l E hA => ?_)
      refine V.aload_n dX7_isItem_0 rfl ?_
      refine V.cV [] rfl kc_X7_209 rfl dX7_isItem_1 (by decide) rfl rfl (sp_X7_isThere) (fun _ => ?_)
      rw [if_pos hc]
      refine V.if_ne (tgt := 9) dX7_isItem_4 (by decide) (fun h4 => ?_) (fun h4 => ?_)
      · refine V.aload_n dX7_isItem_9 rfl ?_
        refine V.iload_n dX7_isItem_10 rfl ?_
        refine V.iconst dX7_isItem_11 ⟨by decide, by decide⟩ ?_
        refine V.aload_n dX7_isItem_12 rfl ?_
        refine V.getI fa_X7_124 (by decide) rfl dX7_isItem_13 (fun _ => ?_)
        rw [e]
        refine V.iconst dX7_isItem_16 ⟨by decide, by decide⟩ ?_
        refine V.isub dX7_isItem_17 ⟨(by omega), (by omega)⟩ ?_
        refine V.cS [_, _, _] rfl kc_X7_85 dX7_isItem_18 (by decide) rfl rfl (sp_X7_in) (fun _ => ?_)
        rw [if_neg hi]
        refine V.if_eq (tgt := 28) dX7_isItem_21 (by decide) (fun h21 => ?_) (fun h21 => ?_)
        · refine V.iconst dX7_isItem_28 ⟨by decide, by decide⟩ ?_
          refine V.putI fa_X7_82 (by decide) rfl dX7_isItem_29 (Or.inl rfl) ?_
          rw [show jset (jq σ (jcT σ)) 7 0 2 = jq σ 2 from jq_q σ _ 2]
          refine V.aload_n dX7_isItem_32 rfl ?_
          refine V.getI fa_X7_82 (by decide) rfl dX7_isItem_33 (fun _ => ?_)
          rw [show jq σ 2 7 0 = 2 from jset_eq _ _ _ _]
          refine V.if_ne (tgt := 43) dX7_isItem_36 (by decide) (fun h36 => ?_) (fun h36 => ?_)
          · refine V.iconst dX7_isItem_43 ⟨by decide, by decide⟩ ?_
            exact V.iret (jret_z dX7_isItem_44 rfl (by decide)) ⟨rfl, rfl⟩
          · exfalso; omega
        · exact absurd rfl h21
      · exfalso; omega
  · have hz : jcI σ (σ 7 16) x = jcT σ := by unfold jcI; rw [if_pos hc]
    rw [hz, if_neg hc]
    refine JSp.of [(2, 7), (0, x)] rfl (by decide +kernel) rfl rfl rfl (fun l E hA => ?_)
    refine V.aload_n dX7_isItem_0 rfl ?_
    refine V.cV [] rfl kc_X7_209 rfl dX7_isItem_1 (by decide) rfl rfl (sp_X7_isThere) (fun _ => ?_)
    rw [if_neg hc]
    refine V.if_ne (tgt := 9) dX7_isItem_4 (by decide) (fun h4 => ?_) (fun h4 => ?_)
    · exact absurd rfl h4
    · refine V.iconst dX7_isItem_7 ⟨by decide, by decide⟩ ?_
      exact V.iret (jret_z dX7_isItem_8 rfl (by decide)) ⟨rfl, rfl⟩
theorem sp_X7_wordAt {σ : JM} {x : Int} (hn : 0 ≤ σ 7 19 ∧ σ 7 19 ≤ 1400) : JSp mX7_wordAt 2 0 [(2, 7), (0, x)] σ (jrv (if jcI σ (σ 7 19) x = 0 then σ 51 x else 0) (jq σ (jcI σ (σ 7 19) x))) jno := by
  by_cases hc : jcI σ (σ 7 19) x = 0
  · have hi := jcI_1 hc
    rw [if_pos hc]
    refine JSp.of [(2, 7), (0, x)] rfl (by decide +kernel) rfl rfl rfl (fun l E hA => ?_)
    refine V.aload_n dX7_wordAt_0 rfl ?_
    refine V.iload_n dX7_wordAt_1 rfl ?_
    refine V.cV [_] rfl kc_X7_212 rfl dX7_wordAt_2 (by decide) rfl rfl (sp_X7_isWord (σ := σ) ⟨hn.1, by omega⟩) (fun _ => ?_)
    rw [if_pos hc]
    refine V.if_eq (tgt := 17) dX7_wordAt_5 (by decide) (fun h5 => ?_) (fun h5 => ?_)
    · exfalso; omega
    · refine V.aload_n dX7_wordAt_8 rfl ?_
      refine V.getR fa_X7_70 rfl dX7_wordAt_9 ?_
      refine V.iload_n dX7_wordAt_12 rfl ?_
      refine V.iald (cell := 51) 0 rfl rfl rfl rfl dX7_wordAt_13 (by omega) (by omega) (fun _ => ?_)
      rw [show jq σ (jcI σ (σ 7 19) x) 51 x = σ 51 x from rfl]
      refine V.goto (tgt := 18) dX7_wordAt_14 (by decide) ?_
      exact V.iret (jret_i dX7_wordAt_18 rfl) ⟨rfl, rfl⟩
  · rw [if_neg hc]
    refine JSp.of [(2, 7), (0, x)] rfl (by decide +kernel) rfl rfl rfl (fun l E hA => ?_)
    refine V.aload_n dX7_wordAt_0 rfl ?_
    refine V.iload_n dX7_wordAt_1 rfl ?_
    refine V.cV [_] rfl kc_X7_212 rfl dX7_wordAt_2 (by decide) rfl rfl (sp_X7_isWord (σ := σ) ⟨hn.1, by omega⟩) (fun _ => ?_)
    rw [if_neg hc]
    refine V.if_eq (tgt := 17) dX7_wordAt_5 (by decide) (fun h5 => ?_) (fun h5 => ?_)
    · refine V.iconst dX7_wordAt_17 ⟨by decide, by decide⟩ ?_
      exact V.iret (jret_i dX7_wordAt_18 rfl) ⟨rfl, rfl⟩
    · exact absurd rfl h5
theorem sp_X7_lineOf {σ : JM} {x : Int} (hn : 0 ≤ σ 7 16 ∧ σ 7 16 ≤ 200) : JSp mX7_lineOf 2 0 [(2, 7), (0, x)] σ (jrv (if jcI σ (σ 7 16) x = 0 then σ 43 x else 0) (jq σ (jcI σ (σ 7 16) x))) jno := by
  by_cases hc : jcI σ (σ 7 16) x = 0
  · have hi := jcI_1 hc
    rw [if_pos hc]
    refine JSp.of [(2, 7), (0, x)] rfl (by decide +kernel) rfl rfl rfl (fun l E hA => ?_)
    refine V.aload_n dX7_lineOf_0 rfl ?_
    refine V.iload_n dX7_lineOf_1 rfl ?_
    refine V.cV [_] rfl kc_X7_219 rfl dX7_lineOf_2 (by decide) rfl rfl (sp_X7_isItem (σ := σ) ⟨hn.1, by omega⟩) (fun _ => ?_)
    rw [if_pos hc]
    refine V.if_eq (tgt := 17) dX7_lineOf_5 (by decide) (fun h5 => ?_) (fun h5 => ?_)
    · exfalso; omega
    · refine V.aload_n dX7_lineOf_8 rfl ?_
      refine V.getR fa_X7_45 rfl dX7_lineOf_9 ?_
      refine V.iload_n dX7_lineOf_12 rfl ?_
      refine V.iald (cell := 43) 0 rfl rfl rfl rfl dX7_lineOf_13 (by omega) (by omega) (fun _ => ?_)
      rw [show jq σ (jcI σ (σ 7 16) x) 43 x = σ 43 x from rfl]
      refine V.goto (tgt := 18) dX7_lineOf_14 (by decide) ?_
      exact V.iret (jret_i dX7_lineOf_18 rfl) ⟨rfl, rfl⟩
  · rw [if_neg hc]
    refine JSp.of [(2, 7), (0, x)] rfl (by decide +kernel) rfl rfl rfl (fun l E hA => ?_)
    refine V.aload_n dX7_lineOf_0 rfl ?_
    refine V.iload_n dX7_lineOf_1 rfl ?_
    refine V.cV [_] rfl kc_X7_219 rfl dX7_lineOf_2 (by decide) rfl rfl (sp_X7_isItem (σ := σ) ⟨hn.1, by omega⟩) (fun _ => ?_)
    rw [if_neg hc]
    refine V.if_eq (tgt := 17) dX7_lineOf_5 (by decide) (fun h5 => ?_) (fun h5 => ?_)
    · refine V.iconst dX7_lineOf_17 ⟨by decide, by decide⟩ ?_
      exact V.iret (jret_i dX7_lineOf_18 rfl) ⟨rfl, rfl⟩
    · exact absurd rfl h5
theorem sp_X7_depthOf {σ : JM} {x : Int} (hn : 0 ≤ σ 7 16 ∧ σ 7 16 ≤ 200) : JSp mX7_depthOf 2 0 [(2, 7), (0, x)] σ (jrv (if jcI σ (σ 7 16) x = 0 then σ 47 x else 0) (jq σ (jcI σ (σ 7 16) x))) jno := by
  by_cases hc : jcI σ (σ 7 16) x = 0
  · have hi := jcI_1 hc
    rw [if_pos hc]
    refine JSp.of [(2, 7), (0, x)] rfl (by decide +kernel) rfl rfl rfl (fun l E hA => ?_)
    refine V.aload_n dX7_depthOf_0 rfl ?_
    refine V.iload_n dX7_depthOf_1 rfl ?_
    refine V.cV [_] rfl kc_X7_219 rfl dX7_depthOf_2 (by decide) rfl rfl (sp_X7_isItem (σ := σ) ⟨hn.1, by omega⟩) (fun _ => ?_)
    rw [if_pos hc]
    refine V.if_eq (tgt := 17) dX7_depthOf_5 (by decide) (fun h5 => ?_) (fun h5 => ?_)
    · exfalso; omega
    · refine V.aload_n dX7_depthOf_8 rfl ?_
      refine V.getR fa_X7_57 rfl dX7_depthOf_9 ?_
      refine V.iload_n dX7_depthOf_12 rfl ?_
      refine V.iald (cell := 47) 0 rfl rfl rfl rfl dX7_depthOf_13 (by omega) (by omega) (fun _ => ?_)
      rw [show jq σ (jcI σ (σ 7 16) x) 47 x = σ 47 x from rfl]
      refine V.goto (tgt := 18) dX7_depthOf_14 (by decide) ?_
      exact V.iret (jret_i dX7_depthOf_18 rfl) ⟨rfl, rfl⟩
  · rw [if_neg hc]
    refine JSp.of [(2, 7), (0, x)] rfl (by decide +kernel) rfl rfl rfl (fun l E hA => ?_)
    refine V.aload_n dX7_depthOf_0 rfl ?_
    refine V.iload_n dX7_depthOf_1 rfl ?_
    refine V.cV [_] rfl kc_X7_219 rfl dX7_depthOf_2 (by decide) rfl rfl (sp_X7_isItem (σ := σ) ⟨hn.1, by omega⟩) (fun _ => ?_)
    rw [if_neg hc]
    refine V.if_eq (tgt := 17) dX7_depthOf_5 (by decide) (fun h5 => ?_) (fun h5 => ?_)
    · refine V.iconst dX7_depthOf_17 ⟨by decide, by decide⟩ ?_
      exact V.iret (jret_i dX7_depthOf_18 rfl) ⟨rfl, rfl⟩
    · exact absurd rfl h5
theorem sp_X7_addressOf {σ : JM} {x : Int} (hn : 0 ≤ σ 7 16 ∧ σ 7 16 ≤ 200) : JSp mX7_addressOf 2 0 [(2, 7), (0, x)] σ (jrv (if jcI σ (σ 7 16) x = 0 then σ 48 x else 0) (jq σ (jcI σ (σ 7 16) x))) jno := by
  by_cases hc : jcI σ (σ 7 16) x = 0
  · have hi := jcI_1 hc
    rw [if_pos hc]
    refine JSp.of [(2, 7), (0, x)] rfl (by decide +kernel) rfl rfl rfl (fun l E hA => ?_)
    refine V.aload_n dX7_addressOf_0 rfl ?_
    refine V.iload_n dX7_addressOf_1 rfl ?_
    refine V.cV [_] rfl kc_X7_219 rfl dX7_addressOf_2 (by decide) rfl rfl (sp_X7_isItem (σ := σ) ⟨hn.1, by omega⟩) (fun _ => ?_)
    rw [if_pos hc]
    refine V.if_eq (tgt := 17) dX7_addressOf_5 (by decide) (fun h5 => ?_) (fun h5 => ?_)
    · exfalso; omega
    · refine V.aload_n dX7_addressOf_8 rfl ?_
      refine V.getR fa_X7_60 rfl dX7_addressOf_9 ?_
      refine V.iload_n dX7_addressOf_12 rfl ?_
      refine V.iald (cell := 48) 0 rfl rfl rfl rfl dX7_addressOf_13 (by omega) (by omega) (fun _ => ?_)
      rw [show jq σ (jcI σ (σ 7 16) x) 48 x = σ 48 x from rfl]
      refine V.goto (tgt := 18) dX7_addressOf_14 (by decide) ?_
      exact V.iret (jret_i dX7_addressOf_18 rfl) ⟨rfl, rfl⟩
  · rw [if_neg hc]
    refine JSp.of [(2, 7), (0, x)] rfl (by decide +kernel) rfl rfl rfl (fun l E hA => ?_)
    refine V.aload_n dX7_addressOf_0 rfl ?_
    refine V.iload_n dX7_addressOf_1 rfl ?_
    refine V.cV [_] rfl kc_X7_219 rfl dX7_addressOf_2 (by decide) rfl rfl (sp_X7_isItem (σ := σ) ⟨hn.1, by omega⟩) (fun _ => ?_)
    rw [if_neg hc]
    refine V.if_eq (tgt := 17) dX7_addressOf_5 (by decide) (fun h5 => ?_) (fun h5 => ?_)
    · refine V.iconst dX7_addressOf_17 ⟨by decide, by decide⟩ ?_
      exact V.iret (jret_i dX7_addressOf_18 rfl) ⟨rfl, rfl⟩
    · exact absurd rfl h5
theorem sp_X7_addressByAdding {σ : JM} {x : Int} (hn : 0 ≤ σ 7 16 ∧ σ 7 16 ≤ 200) : JSp mX7_addressByAdding 3 0 [(2, 7), (0, x)] σ (jrv (if jcI σ (σ 7 16) x = 0 then σ 48 x else 0) (jq σ (jcI σ (σ 7 16) x))) jno := by
  refine JSp.of [(2, 7), (0, x)] rfl (by decide +kernel) rfl rfl rfl (fun l E hA => ?_)
  refine V.aload_n dX7_addressByAdding_0 rfl ?_
  refine V.iload_n dX7_addressByAdding_1 rfl ?_
  refine V.cV [_] rfl kc_X7_222 rfl dX7_addressByAdding_2 (by decide) rfl rfl (sp_X7_addressOf hn) (fun _ => ?_)
  exact V.iret (jret_i dX7_addressByAdding_5 rfl) ⟨rfl, rfl⟩
theorem sp_X7_kindOf {σ : JM} {x : Int} (hn : 0 ≤ σ 7 16 ∧ σ 7 16 ≤ 200) (hs : ∀ i, 0 ≤ i → i < σ 7 16 → 0 ≤ σ 44 i ∧ σ 44 i ≤ 5) : JSp mX7_kindOf 2 0 [(2, 7), (0, x)] σ (jrv (if jcI σ (σ 7 16) x = 0 then jmK σ x else 0) (jq σ (jcI σ (σ 7 16) x))) jno := by
  by_cases hc : jcI σ (σ 7 16) x = 0
  · have hi := jcI_1 hc
    have hsx := hs x hi.2.1 hi.2.2
    rw [if_pos hc]
    have e : ∀ y, y = jmK σ x ↔ y = (if σ 44 x = 0 then 108 else if σ 44 x = 1 then 119 else if σ 44 x = 2 then 111 else if σ 44 x = 4 then 97 else if σ 44 x = 5 then 103 else if σ 50 x = 0 then 106 else 74) := fun y => by
      have : jmK σ x = (if σ 44 x = 0 then 108 else if σ 44 x = 1 then 119 else if σ 44 x = 2 then 111 else if σ 44 x = 4 then 97 else if σ 44 x = 5 then 103 else if σ 50 x = 0 then 106 else 74) := by
        unfold jmK jkof
        have : σ 44 x = 0 ∨ σ 44 x = 1 ∨ σ 44 x = 2 ∨ σ 44 x = 3 ∨ σ 44 x = 4 ∨ σ 44 x = 5 := by omega
        rcases this with z | z | z | z | z | z <;> rw [z] <;> by_cases g : σ 50 x = 0 <;> simp [g]
      rw [this]
    refine JSp.of [(2, 7), (0, x), (9, 0)] rfl (by decide +kernel) rfl rfl rfl (fun l E hA => ?_)
    refine V.aload_n dX7_kindOf_0 rfl ?_
    refine V.iload_n dX7_kindOf_1 rfl ?_
    refine V.cV [_] rfl kc_X7_219 rfl dX7_kindOf_2 (by decide) rfl rfl (sp_X7_isItem (σ := σ) ⟨hn.1, by omega⟩) (fun _ => ?_)
    rw [if_pos hc]
    refine V.if_ne (tgt := 10) dX7_kindOf_5 (by decide) (fun h5 => ?_) (fun h5 => ?_)
    · refine V.aload_n dX7_kindOf_10 rfl ?_
      refine V.getR fa_X7_48 rfl dX7_kindOf_11 ?_
      refine V.iload_n dX7_kindOf_14 rfl ?_
      refine V.iald (cell := 44) 0 rfl rfl rfl rfl dX7_kindOf_15 (by omega) (by omega) (fun _ => ?_)
      rw [show jq σ (jcI σ (σ 7 16) x) 44 x = σ 44 x from rfl]
      refine V.istore_n (L' := [_, _, _]) dX7_kindOf_16 rfl rfl ?_
      refine V.iload_n dX7_kindOf_17 rfl ?_
      refine V.if_ne (tgt := 26) dX7_kindOf_18 (by decide) (fun h18 => ?_) (fun h18 => ?_)
      · refine V.iload_n dX7_kindOf_26 rfl ?_
        refine V.iconst dX7_kindOf_27 ⟨by decide, by decide⟩ ?_
        refine V.icmp_ne (tgt := 36) dX7_kindOf_28 (by decide) (fun h28 => ?_) (fun h28 => ?_)
        · refine V.iload_n dX7_kindOf_36 rfl ?_
          refine V.iconst dX7_kindOf_37 ⟨by decide, by decide⟩ ?_
          refine V.icmp_ne (tgt := 46) dX7_kindOf_38 (by decide) (fun h38 => ?_) (fun h38 => ?_)
          · refine V.iload_n dX7_kindOf_46 rfl ?_
            refine V.iconst dX7_kindOf_47 ⟨by decide, by decide⟩ ?_
            refine V.icmp_ne (tgt := 56) dX7_kindOf_48 (by decide) (fun h48 => ?_) (fun h48 => ?_)
            · refine V.iload_n dX7_kindOf_56 rfl ?_
              refine V.iconst dX7_kindOf_57 ⟨by decide, by decide⟩ ?_
              refine V.icmp_ne (tgt := 66) dX7_kindOf_58 (by decide) (fun h58 => ?_) (fun h58 => ?_)
              · refine V.aload_n dX7_kindOf_66 rfl ?_
                refine V.getR fa_X7_66 rfl dX7_kindOf_67 ?_
                refine V.iload_n dX7_kindOf_70 rfl ?_
                refine V.zald (cell := 50) 0 rfl rfl rfl rfl dX7_kindOf_71 (by omega) (by omega) (fun _ => ?_)
                rw [show jq σ (jcI σ (σ 7 16) x) 50 x = σ 50 x from rfl]
                refine V.if_eq (tgt := 80) dX7_kindOf_72 (by decide) (fun h72 => ?_) (fun h72 => ?_)
                · refine V.bipush dX7_kindOf_80 ⟨by decide, by decide⟩ ?_
                  exact V.iret (jret_c dX7_kindOf_82 rfl (by decide) (by decide)) ⟨jsm ((e _).mpr (by (repeat' split) <;> first | rfl | omega)), rfl⟩
                · refine V.bipush dX7_kindOf_75 ⟨by decide, by decide⟩ ?_
                  refine V.goto (tgt := 82) dX7_kindOf_77 (by decide) ?_
                  exact V.iret (jret_c dX7_kindOf_82 rfl (by decide) (by decide)) ⟨jsm ((e _).mpr (by (repeat' split) <;> first | rfl | omega)), rfl⟩
              · refine V.bipush dX7_kindOf_61 ⟨by decide, by decide⟩ ?_
                refine V.goto (tgt := 82) dX7_kindOf_63 (by decide) ?_
                exact V.iret (jret_c dX7_kindOf_82 rfl (by decide) (by decide)) ⟨jsm ((e _).mpr (by (repeat' split) <;> first | rfl | omega)), rfl⟩
            · refine V.bipush dX7_kindOf_51 ⟨by decide, by decide⟩ ?_
              refine V.goto (tgt := 82) dX7_kindOf_53 (by decide) ?_
              exact V.iret (jret_c dX7_kindOf_82 rfl (by decide) (by decide)) ⟨jsm ((e _).mpr (by (repeat' split) <;> first | rfl | omega)), rfl⟩
          · refine V.bipush dX7_kindOf_41 ⟨by decide, by decide⟩ ?_
            refine V.goto (tgt := 82) dX7_kindOf_43 (by decide) ?_
            exact V.iret (jret_c dX7_kindOf_82 rfl (by decide) (by decide)) ⟨jsm ((e _).mpr (by (repeat' split) <;> first | rfl | omega)), rfl⟩
        · refine V.bipush dX7_kindOf_31 ⟨by decide, by decide⟩ ?_
          refine V.goto (tgt := 82) dX7_kindOf_33 (by decide) ?_
          exact V.iret (jret_c dX7_kindOf_82 rfl (by decide) (by decide)) ⟨jsm ((e _).mpr (by (repeat' split) <;> first | rfl | omega)), rfl⟩
      · refine V.bipush dX7_kindOf_21 ⟨by decide, by decide⟩ ?_
        refine V.goto (tgt := 82) dX7_kindOf_23 (by decide) ?_
        exact V.iret (jret_c dX7_kindOf_82 rfl (by decide) (by decide)) ⟨jsm ((e _).mpr (by (repeat' split) <;> first | rfl | omega)), rfl⟩
    · exfalso; omega
  · rw [if_neg hc]
    refine JSp.of [(2, 7), (0, x), (9, 0)] rfl (by decide +kernel) rfl rfl rfl (fun l E hA => ?_)
    refine V.aload_n dX7_kindOf_0 rfl ?_
    refine V.iload_n dX7_kindOf_1 rfl ?_
    refine V.cV [_] rfl kc_X7_219 rfl dX7_kindOf_2 (by decide) rfl rfl (sp_X7_isItem (σ := σ) ⟨hn.1, by omega⟩) (fun _ => ?_)
    rw [if_neg hc]
    refine V.if_ne (tgt := 10) dX7_kindOf_5 (by decide) (fun h5 => ?_) (fun h5 => ?_)
    · exact absurd rfl h5
    · refine V.iconst dX7_kindOf_8 ⟨by decide, by decide⟩ ?_
      exact V.iret (jret_c dX7_kindOf_9 rfl (by decide) (by decide)) ⟨rfl, rfl⟩
def jcN (σ : JM) (x : Int) : Int := if jcI σ (σ 7 16) x ≠ 0 then jcI σ (σ 7 16) x else if σ 44 x = 3 ∨ σ 44 x = 4 then 0 else 3
theorem sp_X7_targetOf {σ : JM} {x : Int} (hn : 0 ≤ σ 7 16 ∧ σ 7 16 ≤ 200) : JSp mX7_targetOf 2 0 [(2, 7), (0, x)] σ (jrv (if jcN σ x = 0 then σ 49 x else 0) (jq σ (jcN σ x))) jno := by
  by_cases hc : jcI σ (σ 7 16) x = 0
  · have hi := jcI_1 hc
    by_cases hk : σ 44 x = 3 ∨ σ 44 x = 4
    · have hz : jcN σ x = 0 := by unfold jcN; rw [if_neg (by omega), if_pos hk]
      rw [if_pos hz, hz]
      refine JSp.of [(2, 7), (0, x)] rfl (by decide +kernel) rfl rfl rfl (fun l E hA => ?_)
      refine V.aload_n dX7_targetOf_0 rfl ?_
      refine V.iload_n dX7_targetOf_1 rfl ?_
      refine V.cV [_] rfl kc_X7_219 rfl dX7_targetOf_2 (by decide) rfl rfl (sp_X7_isItem (σ := σ) ⟨hn.1, by omega⟩) (fun _ => ?_)
      rw [if_pos hc]
      refine V.if_ne (tgt := 10) dX7_targetOf_5 (by decide) (fun h5 => ?_) (fun h5 => ?_)
      · refine V.aload_n dX7_targetOf_10 rfl ?_
        refine V.iload_n dX7_targetOf_11 rfl ?_
        refine V.cV [_] rfl kc_X7_151 rfl dX7_targetOf_12 (by decide) rfl rfl (sp_X7_isNamed (σ := jq σ (jcI σ (σ 7 16) x)) ⟨hi.2.1, by omega⟩) (fun _ => ?_)
        rw [show jq σ (jcI σ (σ 7 16) x) 44 x = σ 44 x from rfl, if_pos hk]
        refine V.if_eq (tgt := 27) dX7_targetOf_15 (by decide) (fun h15 => ?_) (fun h15 => ?_)
        · exfalso; omega
        · refine V.aload_n dX7_targetOf_18 rfl ?_
          refine V.getR fa_X7_63 rfl dX7_targetOf_19 ?_
          refine V.iload_n dX7_targetOf_22 rfl ?_
          refine V.iald (cell := 49) 0 rfl rfl rfl rfl dX7_targetOf_23 (by omega) (by omega) (fun _ => ?_)
          rw [show jq σ (jcI σ (σ 7 16) x) 49 x = σ 49 x from rfl, hc]
          refine V.goto (tgt := 32) dX7_targetOf_24 (by decide) ?_
          exact V.iret (jret_i dX7_targetOf_32 rfl) ⟨rfl, rfl⟩
      · exfalso; omega
    · have hz : jcN σ x = 3 := by unfold jcN; rw [if_neg (by omega), if_neg hk]
      rw [if_neg (show ¬ jcN σ x = 0 by omega), hz]
      refine JSp.of [(2, 7), (0, x)] rfl (by decide +kernel) rfl rfl rfl (fun l E hA => ?_)
      refine V.aload_n dX7_targetOf_0 rfl ?_
      refine V.iload_n dX7_targetOf_1 rfl ?_
      refine V.cV [_] rfl kc_X7_219 rfl dX7_targetOf_2 (by decide) rfl rfl (sp_X7_isItem (σ := σ) ⟨hn.1, by omega⟩) (fun _ => ?_)
      rw [if_pos hc]
      refine V.if_ne (tgt := 10) dX7_targetOf_5 (by decide) (fun h5 => ?_) (fun h5 => ?_)
      · refine V.aload_n dX7_targetOf_10 rfl ?_
        refine V.iload_n dX7_targetOf_11 rfl ?_
        refine V.cV [_] rfl kc_X7_151 rfl dX7_targetOf_12 (by decide) rfl rfl (sp_X7_isNamed (σ := jq σ (jcI σ (σ 7 16) x)) ⟨hi.2.1, by omega⟩) (fun _ => ?_)
        rw [show jq σ (jcI σ (σ 7 16) x) 44 x = σ 44 x from rfl, if_neg hk]
        refine V.if_eq (tgt := 27) dX7_targetOf_15 (by decide) (fun h15 => ?_) (fun h15 => ?_)
        · refine V.aload_n dX7_targetOf_27 rfl ?_
          refine V.iconst dX7_targetOf_28 ⟨by decide, by decide⟩ ?_
          refine V.cV [_] rfl kc_X7_92 rfl dX7_targetOf_29 (by decide) rfl rfl (sp_X7_fails) (fun _ => ?_)
          exact V.iret (jret_i dX7_targetOf_32 rfl) ⟨rfl, jq_q σ _ 3⟩
        · exact absurd rfl h15
      · exfalso; omega
  · have hz : jcN σ x = jcI σ (σ 7 16) x := by unfold jcN; rw [if_pos hc]
    rw [hz, if_neg hc]
    refine JSp.of [(2, 7), (0, x)] rfl (by decide +kernel) rfl rfl rfl (fun l E hA => ?_)
    refine V.aload_n dX7_targetOf_0 rfl ?_
    refine V.iload_n dX7_targetOf_1 rfl ?_
    refine V.cV [_] rfl kc_X7_219 rfl dX7_targetOf_2 (by decide) rfl rfl (sp_X7_isItem (σ := σ) ⟨hn.1, by omega⟩) (fun _ => ?_)
    rw [if_neg hc]
    refine V.if_ne (tgt := 10) dX7_targetOf_5 (by decide) (fun h5 => ?_) (fun h5 => ?_)
    · exact absurd rfl h5
    · refine V.iconst dX7_targetOf_8 ⟨by decide, by decide⟩ ?_
      exact V.iret (jret_i dX7_targetOf_9 rfl) ⟨rfl, rfl⟩
def jcW (σ : JM) (x b : Int) : Int := if jcI σ (σ 7 19) x ≠ 0 then jcI σ (σ 7 19) x else if 0 ≤ b ∧ b ≤ 9999 then 0 else 3
theorem sp_X7_loadedWord {σ : JM} {x b : Int} (hn : 0 ≤ σ 7 19 ∧ σ 7 19 ≤ 1400) (hv : ∀ i, 0 ≤ i → i < σ 7 19 → 0 ≤ σ 51 i ∧ σ 51 i ≤ 100000) : JSp mX7_loadedWord 2 0 [(2, 7), (0, x), (0, b)] σ (jrv (if jcW σ x b = 0 then (if σ 52 x ≠ 0 then σ 51 x + b else σ 51 x) else 0) (jq σ (jcW σ x b))) jno := by
  by_cases hc : jcI σ (σ 7 19) x = 0
  · have hi := jcI_1 hc
    have hvx := hv x hi.2.1 hi.2.2
    by_cases hk : 0 ≤ b ∧ b ≤ 9999
    · have hz : jcW σ x b = 0 := by unfold jcW; rw [if_neg (by omega), if_pos hk]
      rw [if_pos hz, hz]
      refine JSp.of [(2, 7), (0, x), (0, b)] rfl (by decide +kernel) rfl rfl rfl (fun l E hA => ?_)
      refine V.aload_n dX7_loadedWord_0 rfl ?_
      refine V.iload_n dX7_loadedWord_1 rfl ?_
      refine V.cV [_] rfl kc_X7_212 rfl dX7_loadedWord_2 (by decide) rfl rfl (sp_X7_isWord (σ := σ) hn) (fun _ => ?_)
      rw [if_pos hc]
      refine V.if_ne (tgt := 10) dX7_loadedWord_5 (by decide) (fun h5 => ?_) (fun h5 => ?_)
      · refine V.iload_n dX7_loadedWord_10 rfl ?_
        refine V.iconst dX7_loadedWord_11 ⟨by decide, by decide⟩ ?_
        refine V.sipush dX7_loadedWord_12 ⟨by decide, by decide⟩ ?_
        refine V.cS [_, _, _] rfl kc_X7_85 dX7_loadedWord_15 (by decide) rfl rfl (sp_X7_in) (fun _ => ?_)
        rw [if_pos hk]
        refine V.if_ne (tgt := 27) dX7_loadedWord_18 (by decide) (fun h18 => ?_) (fun h18 => ?_)
        · refine V.aload_n dX7_loadedWord_27 rfl ?_
          refine V.getR fa_X7_73 rfl dX7_loadedWord_28 ?_
          refine V.iload_n dX7_loadedWord_31 rfl ?_
          refine V.zald (cell := 52) 0 rfl rfl rfl rfl dX7_loadedWord_32 (by omega) (by omega) (fun _ => ?_)
          rw [show jq σ (jcI σ (σ 7 19) x) 52 x = σ 52 x from rfl]
          refine V.if_eq (tgt := 47) dX7_loadedWord_33 (by decide) (fun h33 => ?_) (fun h33 => ?_)
          · refine V.aload_n dX7_loadedWord_47 rfl ?_
            refine V.getR fa_X7_70 rfl dX7_loadedWord_48 ?_
            refine V.iload_n dX7_loadedWord_51 rfl ?_
            refine V.iald (cell := 51) 0 rfl rfl rfl rfl dX7_loadedWord_52 (by omega) (by omega) (fun _ => ?_)
            rw [show jq σ (jcI σ (σ 7 19) x) 51 x = σ 51 x from rfl, hc]
            exact V.iret (jret_i dX7_loadedWord_53 rfl) ⟨jsm (by first | rw [if_pos h33] | rw [if_neg (show ¬ σ 52 x ≠ 0 by omega)]), rfl⟩
          · refine V.aload_n dX7_loadedWord_36 rfl ?_
            refine V.getR fa_X7_70 rfl dX7_loadedWord_37 ?_
            refine V.iload_n dX7_loadedWord_40 rfl ?_
            refine V.iald (cell := 51) 0 rfl rfl rfl rfl dX7_loadedWord_41 (by omega) (by omega) (fun _ => ?_)
            rw [show jq σ (jcI σ (σ 7 19) x) 51 x = σ 51 x from rfl, hc]
            refine V.iload_n dX7_loadedWord_42 rfl ?_
            refine V.iadd dX7_loadedWord_43 ⟨(by omega), (by omega)⟩ ?_
            refine V.goto (tgt := 53) dX7_loadedWord_44 (by decide) ?_
            exact V.iret (jret_i dX7_loadedWord_53 rfl) ⟨jsm (by first | rw [if_pos h33] | rw [if_neg (show ¬ σ 52 x ≠ 0 by omega)]), rfl⟩
        · exfalso; omega
      · exfalso; omega
    · have hz : jcW σ x b = 3 := by unfold jcW; rw [if_neg (by omega), if_neg hk]
      rw [if_neg (show ¬ jcW σ x b = 0 by omega), hz]
      refine JSp.of [(2, 7), (0, x), (0, b)] rfl (by decide +kernel) rfl rfl rfl (fun l E hA => ?_)
      refine V.aload_n dX7_loadedWord_0 rfl ?_
      refine V.iload_n dX7_loadedWord_1 rfl ?_
      refine V.cV [_] rfl kc_X7_212 rfl dX7_loadedWord_2 (by decide) rfl rfl (sp_X7_isWord (σ := σ) hn) (fun _ => ?_)
      rw [if_pos hc]
      refine V.if_ne (tgt := 10) dX7_loadedWord_5 (by decide) (fun h5 => ?_) (fun h5 => ?_)
      · refine V.iload_n dX7_loadedWord_10 rfl ?_
        refine V.iconst dX7_loadedWord_11 ⟨by decide, by decide⟩ ?_
        refine V.sipush dX7_loadedWord_12 ⟨by decide, by decide⟩ ?_
        refine V.cS [_, _, _] rfl kc_X7_85 dX7_loadedWord_15 (by decide) rfl rfl (sp_X7_in) (fun _ => ?_)
        rw [if_neg hk]
        refine V.if_ne (tgt := 27) dX7_loadedWord_18 (by decide) (fun h18 => ?_) (fun h18 => ?_)
        · exact absurd rfl h18
        · refine V.aload_n dX7_loadedWord_21 rfl ?_
          refine V.iconst dX7_loadedWord_22 ⟨by decide, by decide⟩ ?_
          refine V.cV [_] rfl kc_X7_92 rfl dX7_loadedWord_23 (by decide) rfl rfl (sp_X7_fails) (fun _ => ?_)
          exact V.iret (jret_i dX7_loadedWord_26 rfl) ⟨rfl, jq_q σ _ 3⟩
      · exfalso; omega
  · have hz : jcW σ x b = jcI σ (σ 7 19) x := by unfold jcW; rw [if_pos hc]
    rw [hz, if_neg hc]
    refine JSp.of [(2, 7), (0, x), (0, b)] rfl (by decide +kernel) rfl rfl rfl (fun l E hA => ?_)
    refine V.aload_n dX7_loadedWord_0 rfl ?_
    refine V.iload_n dX7_loadedWord_1 rfl ?_
    refine V.cV [_] rfl kc_X7_212 rfl dX7_loadedWord_2 (by decide) rfl rfl (sp_X7_isWord (σ := σ) hn) (fun _ => ?_)
    rw [if_neg hc]
    refine V.if_ne (tgt := 10) dX7_loadedWord_5 (by decide) (fun h5 => ?_) (fun h5 => ?_)
    · exact absurd rfl h5
    · refine V.iconst dX7_loadedWord_8 ⟨by decide, by decide⟩ ?_
      exact V.iret (jret_i dX7_loadedWord_9 rfl) ⟨rfl, rfl⟩
abbrev jju (σ : JM) (b i : Int) : Int := if σ 44 i = 3 ∧ σ 50 i = b then 1 else 0
theorem jju_b {σ : JM} {b : Int} : ∀ i, 0 ≤ jju σ b i ∧ jju σ b i ≤ 1 := fun i => by show 0 ≤ (if _ then (1 : Int) else 0) ∧ (if _ then (1 : Int) else 0) ≤ 1; split <;> omega
theorem sp_X7_jumps {σ : JM} {b : Int} (hn : 0 ≤ σ 7 16 ∧ σ 7 16 ≤ 200) : JSp mX7_jumps 0 0 [(2, 7), (0, b)] σ (jrv (jsum (jju σ b) (σ 7 16)) σ) jno := by
  refine JSp.of [(2, 7), (0, b), (9, 0), (9, 0)] rfl (by decide +kernel) rfl rfl rfl (fun l E hA => ?_)
  have loop : ∀ (m : Nat) (x : Int), 0 ≤ x → x ≤ σ 7 16 → σ 7 16 - x < m → V l E mX7_jumps 0 0 (jrv (jsum (jju σ b) (σ 7 16)) σ) jno 4 [(2, 7), (0, b), (0, jsum (jju σ b) x), (0, x)] [] σ := by
    intro m
    induction m with
    | zero => intro x a1 a2 a3; omega
    | succ m ih =>
      intro x a1 a2 a3
      have b1 := jsum_s (jju σ b) a1
      have b2 := jsum_le (g := jju σ b) (c := 1) a1 (fun i _ _ => jju_b i)
      have b3 := ih (x + 1) (by omega)
      rw [b1] at b3
      refine V.iload_n dX7_jumps_4 rfl ?_
      refine V.aload_n dX7_jumps_5 rfl ?_
      refine V.getI fa_X7_124 (by decide) rfl dX7_jumps_6 (fun _ => ?_)
      refine V.icmp_ge (tgt := 46) dX7_jumps_9 (by decide) (fun h9 => ?_) (fun h9 => ?_)
      · refine V.iload_n dX7_jumps_46 rfl ?_
        exact V.iret (jret_i dX7_jumps_47 rfl) ⟨by rw [show x = σ 7 16 by omega], rfl⟩
      · refine V.iload_n dX7_jumps_12 rfl ?_
        refine V.aload_n dX7_jumps_13 rfl ?_
        refine V.getR fa_X7_48 rfl dX7_jumps_14 ?_
        refine V.iload_n dX7_jumps_17 rfl ?_
        refine V.iald (cell := 44) 0 rfl rfl rfl rfl dX7_jumps_18 (by omega) (by omega) (fun _ => ?_)
        refine V.iconst dX7_jumps_19 ⟨by decide, by decide⟩ ?_
        refine V.icmp_ne (tgt := 37) dX7_jumps_20 (by decide) (fun h20 => ?_) (fun h20 => ?_)
        · refine V.iconst dX7_jumps_37 ⟨by decide, by decide⟩ ?_
          refine V.iadd dX7_jumps_38 ⟨(by omega), (by omega)⟩ ?_
          refine V.istore_n (L' := [_, _, _, _]) dX7_jumps_39 rfl rfl ?_
          refine V.iinc (L' := [_, _, _, _]) dX7_jumps_40 rfl ⟨(by omega), (by omega)⟩ rfl ?_
          refine V.goto (tgt := 4) dX7_jumps_43 (by decide) ?_
          first
          | (rw [show jju σ b x = 1 from if_pos ⟨h20, h30⟩] at b3; exact b3 (by omega) (by omega))
          | (rw [show jju σ b x = 0 from if_neg (fun z => h20 z.1)] at b3; exact b3 (by omega) (by omega))
          | (rw [show jju σ b x = 0 from if_neg (fun z => h30 z.2)] at b3; exact b3 (by omega) (by omega))
        · refine V.aload_n dX7_jumps_23 rfl ?_
          refine V.getR fa_X7_66 rfl dX7_jumps_24 ?_
          refine V.iload_n dX7_jumps_27 rfl ?_
          refine V.zald (cell := 50) 0 rfl rfl rfl rfl dX7_jumps_28 (by omega) (by omega) (fun _ => ?_)
          refine V.iload_n dX7_jumps_29 rfl ?_
          refine V.icmp_ne (tgt := 37) dX7_jumps_30 (by decide) (fun h30 => ?_) (fun h30 => ?_)
          · refine V.iconst dX7_jumps_37 ⟨by decide, by decide⟩ ?_
            refine V.iadd dX7_jumps_38 ⟨(by omega), (by omega)⟩ ?_
            refine V.istore_n (L' := [_, _, _, _]) dX7_jumps_39 rfl rfl ?_
            refine V.iinc (L' := [_, _, _, _]) dX7_jumps_40 rfl ⟨(by omega), (by omega)⟩ rfl ?_
            refine V.goto (tgt := 4) dX7_jumps_43 (by decide) ?_
            first
            | (rw [show jju σ b x = 1 from if_pos ⟨h20, h30⟩] at b3; exact b3 (by omega) (by omega))
            | (rw [show jju σ b x = 0 from if_neg (fun z => h20 z.1)] at b3; exact b3 (by omega) (by omega))
            | (rw [show jju σ b x = 0 from if_neg (fun z => h30 z.2)] at b3; exact b3 (by omega) (by omega))
          · refine V.iconst dX7_jumps_33 ⟨by decide, by decide⟩ ?_
            refine V.goto (tgt := 38) dX7_jumps_34 (by decide) ?_
            refine V.iadd dX7_jumps_38 ⟨(by omega), (by omega)⟩ ?_
            refine V.istore_n (L' := [_, _, _, _]) dX7_jumps_39 rfl rfl ?_
            refine V.iinc (L' := [_, _, _, _]) dX7_jumps_40 rfl ⟨(by omega), (by omega)⟩ rfl ?_
            refine V.goto (tgt := 4) dX7_jumps_43 (by decide) ?_
            first
            | (rw [show jju σ b x = 1 from if_pos ⟨h20, h30⟩] at b3; exact b3 (by omega) (by omega))
            | (rw [show jju σ b x = 0 from if_neg (fun z => h20 z.1)] at b3; exact b3 (by omega) (by omega))
            | (rw [show jju σ b x = 0 from if_neg (fun z => h30 z.2)] at b3; exact b3 (by omega) (by omega))
  refine V.iconst dX7_jumps_0 ⟨by decide, by decide⟩ ?_
  refine V.istore_n (L' := [_, _, _, _]) dX7_jumps_1 rfl rfl ?_
  refine V.iconst dX7_jumps_2 ⟨by decide, by decide⟩ ?_
  refine V.istore_n (L' := [_, _, _, _]) dX7_jumps_3 rfl rfl ?_
  exact loop ((σ 7 16).toNat + 1) 0 (by omega) hn.1 (by omega)
theorem jju_q (σ : JM) (c b : Int) : jju (jq σ c) b = jju σ b := rfl
theorem sp_X7_longJumps {σ : JM} (hn : 0 ≤ σ 7 16 ∧ σ 7 16 ≤ 200) : JSp mX7_longJumps 1 0 [(2, 7)] σ (jrv (if jcT σ = 0 then jsum (jju σ 1) (σ 7 16) else 0) (jq σ (jcT σ))) jno := by
  by_cases hc : jcT σ = 0
  · rw [if_pos hc]
    refine JSp.of [(2, 7)] rfl (by decide +kernel) rfl rfl rfl (fun l E hA => ?_)
    refine V.aload_n dX7_longJumps_0 rfl ?_
    refine V.cV [] rfl kc_X7_209 rfl dX7_longJumps_1 (by decide) rfl rfl (sp_X7_isThere) (fun _ => ?_)
    rw [if_pos hc]
    refine V.if_eq (tgt := 15) dX7_longJumps_4 (by decide) (fun h4 => ?_) (fun h4 => ?_)
    · exfalso; omega
    · refine V.aload_n dX7_longJumps_7 rfl ?_
      refine V.iconst dX7_longJumps_8 ⟨by decide, by decide⟩ ?_
      refine V.cV [_] rfl kc_X7_215 rfl dX7_longJumps_9 (by decide) rfl rfl (sp_X7_jumps (σ := jq σ (jcT σ)) hn) (fun _ => ?_)
      refine V.goto (tgt := 16) dX7_longJumps_12 (by decide) ?_
      exact V.iret (jret_i dX7_longJumps_16 rfl) ⟨rfl, rfl⟩
  · rw [if_neg hc]
    refine JSp.of [(2, 7)] rfl (by decide +kernel) rfl rfl rfl (fun l E hA => ?_)
    refine V.aload_n dX7_longJumps_0 rfl ?_
    refine V.cV [] rfl kc_X7_209 rfl dX7_longJumps_1 (by decide) rfl rfl (sp_X7_isThere) (fun _ => ?_)
    rw [if_neg hc]
    refine V.if_eq (tgt := 15) dX7_longJumps_4 (by decide) (fun h4 => ?_) (fun h4 => ?_)
    · refine V.iconst dX7_longJumps_15 ⟨by decide, by decide⟩ ?_
      exact V.iret (jret_i dX7_longJumps_16 rfl) ⟨rfl, rfl⟩
    · exact absurd rfl h4
abbrev jrel (σ : JM) (i : Int) : Int := if σ 52 i = 0 then 0 else 1
theorem sp_X7_relocations {σ : JM} (hn : 0 ≤ σ 7 19 ∧ σ 7 19 ≤ 1400) : JSp mX7_relocations 1 0 [(2, 7)] σ (jrv (if jcT σ = 0 then jsum (jrel σ) (σ 7 19) else 0) (jq σ (jcT σ))) jno := by
  by_cases hc : jcT σ = 0
  · rw [if_pos hc]
    refine JSp.of [(2, 7), (9, 0), (9, 0)] rfl (by decide +kernel) rfl rfl rfl (fun l E hA => ?_)
    have e19 : jq σ (jcT σ) 7 19 = σ 7 19 := rfl
    have loop : ∀ (m : Nat) (x : Int), 0 ≤ x → x ≤ σ 7 19 → σ 7 19 - x < m → V l E mX7_relocations 1 0 (jrv (jsum (jrel σ) (σ 7 19)) (jq σ (jcT σ))) jno 13 [(2, 7), (0, jsum (jrel σ) x), (0, x)] [] (jq σ (jcT σ)) := by
      intro m
      induction m with
      | zero => intro x a1 a2 a3; omega
      | succ m ih =>
        intro x a1 a2 a3
        have b1 := jsum_s (jrel σ) a1
        have b2 := jsum_le (g := jrel σ) (c := 1) a1 (fun i _ _ => by show 0 ≤ (if _ then (0 : Int) else 1) ∧ (if _ then (0 : Int) else 1) ≤ 1; split <;> omega)
        have b3 := ih (x + 1) (by omega)
        rw [b1] at b3
        refine V.iload_n dX7_relocations_13 rfl ?_
        refine V.aload_n dX7_relocations_14 rfl ?_
        refine V.getI fa_X7_162 (by decide) rfl dX7_relocations_15 (fun _ => ?_)
        rw [e19]
        refine V.icmp_ge (tgt := 44) dX7_relocations_18 (by decide) (fun h18 => ?_) (fun h18 => ?_)
        · refine V.iload_n dX7_relocations_44 rfl ?_
          exact V.iret (jret_i dX7_relocations_45 rfl) ⟨by rw [show x = σ 7 19 by omega], rfl⟩
        · refine V.iload_n dX7_relocations_21 rfl ?_
          refine V.aload_n dX7_relocations_22 rfl ?_
          refine V.getR fa_X7_73 rfl dX7_relocations_23 ?_
          refine V.iload_n dX7_relocations_26 rfl ?_
          refine V.zald (cell := 52) 0 rfl rfl rfl rfl dX7_relocations_27 (by omega) (by omega) (fun _ => ?_)
          rw [show jq σ (jcT σ) 52 x = σ 52 x from rfl]
          refine V.if_eq (tgt := 35) dX7_relocations_28 (by decide) (fun h28 => ?_) (fun h28 => ?_)
          · refine V.iconst dX7_relocations_35 ⟨by decide, by decide⟩ ?_
            refine V.iadd dX7_relocations_36 ⟨(by omega), (by omega)⟩ ?_
            refine V.istore_n (L' := [_, _, _]) dX7_relocations_37 rfl rfl ?_
            refine V.iinc (L' := [_, _, _]) dX7_relocations_38 rfl ⟨(by omega), (by omega)⟩ rfl ?_
            refine V.goto (tgt := 13) dX7_relocations_41 (by decide) ?_
            first
            | (rw [show jrel σ x = 1 from if_neg h28] at b3; exact b3 (by omega) (by omega))
            | (rw [show jrel σ x = 0 from if_pos h28] at b3; exact b3 (by omega) (by omega))
          · refine V.iconst dX7_relocations_31 ⟨by decide, by decide⟩ ?_
            refine V.goto (tgt := 36) dX7_relocations_32 (by decide) ?_
            refine V.iadd dX7_relocations_36 ⟨(by omega), (by omega)⟩ ?_
            refine V.istore_n (L' := [_, _, _]) dX7_relocations_37 rfl rfl ?_
            refine V.iinc (L' := [_, _, _]) dX7_relocations_38 rfl ⟨(by omega), (by omega)⟩ rfl ?_
            refine V.goto (tgt := 13) dX7_relocations_41 (by decide) ?_
            first
            | (rw [show jrel σ x = 1 from if_neg h28] at b3; exact b3 (by omega) (by omega))
            | (rw [show jrel σ x = 0 from if_pos h28] at b3; exact b3 (by omega) (by omega))
    refine V.aload_n dX7_relocations_0 rfl ?_
    refine V.cV [] rfl kc_X7_209 rfl dX7_relocations_1 (by decide) rfl rfl (sp_X7_isThere) (fun _ => ?_)
    rw [if_pos hc]
    refine V.if_ne (tgt := 9) dX7_relocations_4 (by decide) (fun h4 => ?_) (fun h4 => ?_)
    · refine V.iconst dX7_relocations_9 ⟨by decide, by decide⟩ ?_
      refine V.istore_n (L' := [_, _, _]) dX7_relocations_10 rfl rfl ?_
      refine V.iconst dX7_relocations_11 ⟨by decide, by decide⟩ ?_
      refine V.istore_n (L' := [_, _, _]) dX7_relocations_12 rfl rfl ?_
      exact loop ((σ 7 19).toNat + 1) 0 (by omega) hn.1 (by omega)
    · exfalso; omega
  · rw [if_neg hc]
    refine JSp.of [(2, 7), (9, 0), (9, 0)] rfl (by decide +kernel) rfl rfl rfl (fun l E hA => ?_)
    refine V.aload_n dX7_relocations_0 rfl ?_
    refine V.cV [] rfl kc_X7_209 rfl dX7_relocations_1 (by decide) rfl rfl (sp_X7_isThere) (fun _ => ?_)
    rw [if_neg hc]
    refine V.if_ne (tgt := 9) dX7_relocations_4 (by decide) (fun h4 => ?_) (fun h4 => ?_)
    · exact absurd rfl h4
    · refine V.iconst dX7_relocations_7 ⟨by decide, by decide⟩ ?_
      exact V.iret (jret_i dX7_relocations_8 rfl) ⟨rfl, rfl⟩
abbrev jlp (σ : JM) (a k : Int) : Prop := σ 44 k = 0 ∧ σ 46 k = 0 ∧ σ 45 k = a
def jcL (σ : JM) (a : Int) : Int := if jcT σ = 0 ∧ jfs (jlp σ a) (σ 7 16) ≠ -1 then 0 else 1
theorem sp_X7_labelAddress {σ : JM} {a : Int} (hn : 0 ≤ σ 7 16 ∧ σ 7 16 ≤ 200) : JSp mX7_labelAddress 1 0 [(2, 7), (0, a)] σ (jrv (if jcL σ a = 0 then σ 48 (jfs (jlp σ a) (σ 7 16)) else 0) (jq σ (jcL σ a))) jno := by
  by_cases hc : jcT σ = 0
  · refine JSp.of [(2, 7), (0, a), (9, 0)] rfl (by decide +kernel) rfl rfl rfl (fun l E hA => ?_)
    have e16 : jq σ (jcT σ) 7 16 = σ 7 16 := rfl
    have loop : ∀ (m : Nat) (x : Int), 0 ≤ x → x ≤ σ 7 16 → σ 7 16 - x < m → (∀ i, 0 ≤ i → i < x → ¬ jlp σ a i) → V l E mX7_labelAddress 1 0 (jrv (if jcL σ a = 0 then σ 48 (jfs (jlp σ a) (σ 7 16)) else 0) (jq σ (jcL σ a))) jno 11 [(2, 7), (0, a), (0, x)] [] (jq σ (jcT σ)) := by
      intro m
      induction m with
      | zero => intro x a1 a2 a3; omega
      | succ m ih =>
        intro x a1 a2 a3 a4
        have nx : ¬ jlp σ a x → ∀ i, 0 ≤ i → i < x + 1 → ¬ jlp σ a i := fun q i i0 i1 => by
          by_cases e : i = x
          · rw [e]; exact q
          · exact a4 i i0 (by omega)
        refine V.iload_n dX7_labelAddress_11 rfl ?_
        refine V.aload_n dX7_labelAddress_12 rfl ?_
        refine V.getI fa_X7_124 (by decide) rfl dX7_labelAddress_13 (fun _ => ?_)
        rw [e16]
        refine V.icmp_ge (tgt := 60) dX7_labelAddress_16 (by decide) (fun h16 => ?_) (fun h16 => ?_)
        · refine V.aload_n dX7_labelAddress_60 rfl ?_
          refine V.iconst dX7_labelAddress_61 ⟨by decide, by decide⟩ ?_
          refine V.cV [_] rfl kc_X7_92 rfl dX7_labelAddress_62 (by decide) rfl rfl (sp_X7_fails) (fun _ => ?_)
          exact V.iret (jret_i dX7_labelAddress_65 rfl) (by have f : jfs (jlp σ a) (σ 7 16) = -1 := jfs_no (fun i i0 i1 => a4 i i0 (by omega)); have z : jcL σ a = 1 := if_neg (fun q => q.2 f); rw [z]; exact ⟨rfl, jq_q σ _ 1⟩)
        · refine V.aload_n dX7_labelAddress_19 rfl ?_
          refine V.getR fa_X7_48 rfl dX7_labelAddress_20 ?_
          refine V.iload_n dX7_labelAddress_23 rfl ?_
          refine V.iald (cell := 44) 0 rfl rfl rfl rfl dX7_labelAddress_24 (by omega) (by omega) (fun _ => ?_)
          rw [show jq σ (jcT σ) 44 x = σ 44 x from rfl]
          refine V.if_ne (tgt := 54) dX7_labelAddress_25 (by decide) (fun h25 => ?_) (fun h25 => ?_)
          · refine V.iinc (L' := [_, _, _]) dX7_labelAddress_54 rfl ⟨(by omega), (by omega)⟩ rfl ?_
            refine V.goto (tgt := 11) dX7_labelAddress_57 (by decide) ?_
            exact ih (x + 1) (by omega) (by omega) (by omega) (nx (fun z => by first | exact h25 z.1 | exact h34 z.2.1 | exact h44 z.2.2))
          · refine V.aload_n dX7_labelAddress_28 rfl ?_
            refine V.getR fa_X7_54 rfl dX7_labelAddress_29 ?_
            refine V.iload_n dX7_labelAddress_32 rfl ?_
            refine V.iald (cell := 46) 0 rfl rfl rfl rfl dX7_labelAddress_33 (by omega) (by omega) (fun _ => ?_)
            rw [show jq σ (jcT σ) 46 x = σ 46 x from rfl]
            refine V.if_ne (tgt := 54) dX7_labelAddress_34 (by decide) (fun h34 => ?_) (fun h34 => ?_)
            · refine V.iinc (L' := [_, _, _]) dX7_labelAddress_54 rfl ⟨(by omega), (by omega)⟩ rfl ?_
              refine V.goto (tgt := 11) dX7_labelAddress_57 (by decide) ?_
              exact ih (x + 1) (by omega) (by omega) (by omega) (nx (fun z => by first | exact h25 z.1 | exact h34 z.2.1 | exact h44 z.2.2))
            · refine V.aload_n dX7_labelAddress_37 rfl ?_
              refine V.getR fa_X7_51 rfl dX7_labelAddress_38 ?_
              refine V.iload_n dX7_labelAddress_41 rfl ?_
              refine V.iald (cell := 45) 0 rfl rfl rfl rfl dX7_labelAddress_42 (by omega) (by omega) (fun _ => ?_)
              rw [show jq σ (jcT σ) 45 x = σ 45 x from rfl]
              refine V.iload_n dX7_labelAddress_43 rfl ?_
              refine V.icmp_ne (tgt := 54) dX7_labelAddress_44 (by decide) (fun h44 => ?_) (fun h44 => ?_)
              · refine V.iinc (L' := [_, _, _]) dX7_labelAddress_54 rfl ⟨(by omega), (by omega)⟩ rfl ?_
                refine V.goto (tgt := 11) dX7_labelAddress_57 (by decide) ?_
                exact ih (x + 1) (by omega) (by omega) (by omega) (nx (fun z => by first | exact h25 z.1 | exact h34 z.2.1 | exact h44 z.2.2))
              · refine V.aload_n dX7_labelAddress_47 rfl ?_
                refine V.getR fa_X7_60 rfl dX7_labelAddress_48 ?_
                refine V.iload_n dX7_labelAddress_51 rfl ?_
                refine V.iald (cell := 48) 0 rfl rfl rfl rfl dX7_labelAddress_52 (by omega) (by omega) (fun _ => ?_)
                rw [show jq σ (jcT σ) 48 x = σ 48 x from rfl]
                exact V.iret (jret_i dX7_labelAddress_53 rfl) (by have f : jfs (jlp σ a) (σ 7 16) = x := jfs_at a1 (by omega) ⟨h25, h34, h44⟩ a4; have z : jcL σ a = 0 := if_pos ⟨hc, by omega⟩; rw [z, hc, f]; exact ⟨rfl, rfl⟩)
    refine V.aload_n dX7_labelAddress_0 rfl ?_
    refine V.cV [] rfl kc_X7_209 rfl dX7_labelAddress_1 (by decide) rfl rfl (sp_X7_isThere) (fun _ => ?_)
    rw [if_pos hc]
    refine V.if_ne (tgt := 9) dX7_labelAddress_4 (by decide) (fun h4 => ?_) (fun h4 => ?_)
    · refine V.iconst dX7_labelAddress_9 ⟨by decide, by decide⟩ ?_
      refine V.istore_n (L' := [_, _, _]) dX7_labelAddress_10 rfl rfl ?_
      exact loop ((σ 7 16).toNat + 1) 0 (by omega) hn.1 (by omega) (fun i i0 i1 => by omega)
    · exfalso; omega
  · have z : jcL σ a = 1 := if_neg (fun q => hc q.1)
    have c1 : jcT σ = 1 := by unfold jcT at hc ⊢; split at hc <;> first | omega | (rw [if_neg (by assumption)])
    rw [z, if_neg (by decide)]
    refine JSp.of [(2, 7), (0, a), (9, 0)] rfl (by decide +kernel) rfl rfl rfl (fun l E hA => ?_)
    refine V.aload_n dX7_labelAddress_0 rfl ?_
    refine V.cV [] rfl kc_X7_209 rfl dX7_labelAddress_1 (by decide) rfl rfl (sp_X7_isThere) (fun _ => ?_)
    rw [if_neg hc, c1]
    refine V.if_ne (tgt := 9) dX7_labelAddress_4 (by decide) (fun h4 => ?_) (fun h4 => ?_)
    · exact absurd rfl h4
    · refine V.iconst dX7_labelAddress_7 ⟨by decide, by decide⟩ ?_
      exact V.iret (jret_i dX7_labelAddress_8 rfl) ⟨rfl, rfl⟩
