theorem jsmN_s (σ : JM) {x : Int} (h : 0 ≤ x) : jsmN σ (x + 1).toNat = jwrp (jwrp (31 * jsmN σ x.toNat) + σ 29 x) := by
  rw [show (x + 1).toNat = x.toNat + 1 by omega]
  show jwrp (jwrp (31 * jsmN σ x.toNat) + σ 29 (x.toNat : Nat)) = _
  rw [Int.toNat_of_nonneg h]
theorem sp_L_sum {σ : JM} (hA : jAsm σ) : JSp mL_sum 12 5 [(2, 0)] σ (jrv (jsmv σ) σ) jno := by
  have c0 := jc0_1 σ
  have c1 := jcf_1 σ
  have c2 := jcw_1 σ
  refine JSp.of [(2, 0), (9, 0), (9, 0)] rfl (by decide +kernel) rfl rfl rfl (fun l E hE => ?_)
  have bW : (jqW σ < 0 ∧ (jqW σ).toNat = 0) ∨ (σ 4 9 = 110 ∧ jqW σ = σ 5 2 ∧ 0 ≤ σ 5 2 ∧ σ 5 2 ≤ 1400) := by
    unfold jqW
    by_cases h : σ 4 9 = 110
    · rw [if_pos h]; exact Or.inr ⟨h, rfl, (hA.2 h).2⟩
    · rw [if_neg h]; exact Or.inl ⟨by decide, by decide⟩
  have loop : ∀ (m : Nat) (x : Int) (nn : Nat), jcw σ ≤ nn → 0 ≤ x → (x = 0 ∨ x ≤ jqW σ) → jqW σ - x < m → V l E mL_sum 12 nn (jrv (jsmv σ) σ) jno 31 [(2, 0), (0, jsmN σ x.toNat), (0, x)] [] σ := by
    intro m
    induction m with
    | zero =>
      intro x nn hn x0 x1 x2
      refine V.iload_n dL_sum_31 rfl ?_
      refine V.aload_n dL_sum_32 rfl ?_
      refine V.cA [_] rfl kc_L_197 dL_sum_33 (by decide) (by omega) rfl rfl (aq_words) (fun _ => ?_)
      refine V.icmp_ge (tgt := 56) dL_sum_36 (by decide) (fun h36 => ?_) (fun h36 => ?_)
      · refine V.iload_n dL_sum_56 rfl ?_
        exact V.iret (jret_i dL_sum_57 rfl) ⟨by rw [show jsmv σ = jsmN σ x.toNat by unfold jsmv; rw [show (jqW σ).toNat = x.toNat by omega]], rfl⟩
      · omega
    | succ m ih =>
      intro x nn hn x0 x1 x2
      refine V.iload_n dL_sum_31 rfl ?_
      refine V.aload_n dL_sum_32 rfl ?_
      refine V.cA [_] rfl kc_L_197 dL_sum_33 (by decide) (by omega) rfl rfl (aq_words) (fun _ => ?_)
      refine V.icmp_ge (tgt := 56) dL_sum_36 (by decide) (fun h36 => ?_) (fun h36 => ?_)
      · refine V.iload_n dL_sum_56 rfl ?_
        exact V.iret (jret_i dL_sum_57 rfl) ⟨by rw [show jsmv σ = jsmN σ x.toNat by unfold jsmv; rw [show (jqW σ).toNat = x.toNat by omega]], rfl⟩
      · have w9 : σ 4 9 = 110 ∧ jqW σ = σ 5 2 ∧ σ 5 2 ≤ 1400 := by omega
        have z0 := jcw_w w9.1
        refine V.bipush dL_sum_39 ⟨by decide, by decide⟩ ?_
        refine V.iload_n dL_sum_41 rfl ?_
        refine V.imulW dL_sum_42 ?_
        refine V.aload_n dL_sum_43 rfl ?_
        refine V.iload_n dL_sum_44 rfl ?_
        refine V.cA [_, _] rfl kc_L_201 dL_sum_45 (by decide) (by omega) rfl rfl (aw_wordAt w9.1 (by omega) (by omega)) (fun _ => ?_)
        refine V.iaddW dL_sum_48 ?_
        refine V.istore_n (L' := [_, _, _]) dL_sum_49 rfl rfl ?_
        refine V.iinc (L' := [_, _, _]) dL_sum_50 rfl ⟨(by omega), (by omega)⟩ rfl ?_
        refine V.goto (tgt := 31) dL_sum_53 (by decide) ?_
        have nx := jsmN_s σ x0
        rw [← nx]
        exact ih (x + 1) _ (by omega) (by omega) (by omega) (by omega)
  refine V.bipush dL_sum_0 ⟨by decide, by decide⟩ ?_
  refine V.aload_n dL_sum_2 rfl ?_
  refine V.cA [_] rfl kc_L_193 dL_sum_3 (by decide) (by omega) rfl rfl (aq_fault hA.1) (fun _ => ?_)
  refine V.imulW dL_sum_6 ?_
  refine V.aload_n dL_sum_7 rfl ?_
  refine V.cA [_] rfl kc_L_195 dL_sum_8 (by decide) (by omega) rfl rfl (aq_faultLine) (fun _ => ?_)
  refine V.iaddW dL_sum_11 ?_
  refine V.bipush dL_sum_12 ⟨by decide, by decide⟩ ?_
  refine V.aload_n dL_sum_14 rfl ?_
  refine V.cA [_] rfl kc_L_197 dL_sum_15 (by decide) (by omega) rfl rfl (aq_words) (fun _ => ?_)
  refine V.imulW dL_sum_18 ?_
  refine V.iaddW dL_sum_19 ?_
  refine V.bipush dL_sum_20 ⟨by decide, by decide⟩ ?_
  refine V.aload_n dL_sum_22 rfl ?_
  refine V.cA [_] rfl kc_L_199 dL_sum_23 (by decide) (by omega) rfl rfl (aq_items) (fun _ => ?_)
  refine V.imulW dL_sum_26 ?_
  refine V.iaddW dL_sum_27 ?_
  refine V.istore_n (L' := [_, _, _]) dL_sum_28 rfl rfl ?_
  refine V.iconst dL_sum_29 ⟨by decide, by decide⟩ ?_
  refine V.istore_n (L' := [_, _, _]) dL_sum_30 rfl rfl ?_
  exact loop ((jqW σ).toNat + 1) 0 _ (by omega) (Int.le_refl 0) (Or.inl rfl) (by omega)
theorem fc75 : (Op.cmpValue (FP.fcmp (jF 3264610304) (jF 3264610304)) .l).toInt = 0 := by decide +kernel
theorem sp_L_isFault {σ : JM} (h : jFt σ) (hc : σ 4 9 < 65536) {b : Int} (hb : (b = 1 ∧ junf σ ≠ -1) ∨ (b = 0 ∧ junf σ = -1)) : JSp mL_isFault 12 9 [(2, 0), (0, b)] σ (jrv 1 σ) jno := by
  obtain ⟨f1, f2, f3, f4, f5⟩ := h
  have c0 := jc0_1 σ
  have c1 := jcf_1 σ
  have c2 := jcw_1 σ
  have q1 : jqf σ = σ 4 9 := if_neg f2
  have q2 : jqL σ = σ 4 10 := if_neg (by omega)
  have q3 : jqW σ = -75 := if_neg f1
  have q4 : jqI σ = -75 := if_neg f1
  have hp : 0 ≤ σ 4 9 := by omega
  refine JSp.of [(2, 0), (0, b), (9, 0)] rfl (by decide +kernel) rfl rfl rfl (fun l E hE => ?_)
  have tail : ∀ (nn : Nat), 8 ≤ nn → V l E mL_isFault 12 nn (jrv 1 σ) jno 48 [(2, 0), (0, b), (0, σ 4 9)] [] σ := by
    intro nn hn
    refine V.aload_n dL_isFault_48 rfl ?_
    refine V.cA [_] rfl kc_L_195 dL_isFault_49 (by decide) (by omega) rfl rfl (aq_faultLine) (fun _ => ?_)
    rw [q2]
    refine V.if_lt (tgt := 118) dL_isFault_52 (by decide) (fun hh => ?_) (fun hh => ?_)
    · exfalso; omega
    · refine V.aload_n dL_isFault_55 rfl ?_
      refine V.cA [_] rfl kc_L_195 dL_isFault_56 (by decide) (by omega) rfl rfl (aq_faultLine) (fun _ => ?_)
      rw [q2]
      refine V.aload_n dL_isFault_59 rfl ?_
      refine V.cV [] rfl kc_L_140 rfl dL_isFault_60 (by decide) rfl rfl (sp_X6_lines) (fun _ => ?_)
      refine V.icmp_ge (tgt := 118) dL_isFault_63 (by decide) (fun hh => ?_) (fun hh => ?_)
      · exfalso; omega
      · refine V.aload_n dL_isFault_66 rfl ?_
        refine V.cA [_] rfl kc_L_197 dL_isFault_67 (by decide) (by omega) rfl rfl (aq_words) (fun _ => ?_)
        rw [q3]
        refine V.bipush dL_isFault_70 ⟨by decide, by decide⟩ ?_
        refine V.icmp_ne (tgt := 118) dL_isFault_72 (by decide) (fun hh => ?_) (fun hh => ?_)
        · exact absurd rfl hh
        · refine V.aload_n dL_isFault_75 rfl ?_
          refine V.cA [_] rfl kc_L_199 dL_isFault_76 (by decide) (by omega) rfl rfl (aq_items) (fun _ => ?_)
          rw [q4]
          refine V.bipush dL_isFault_79 ⟨by decide, by decide⟩ ?_
          refine V.icmp_ne (tgt := 118) dL_isFault_81 (by decide) (fun hh => ?_) (fun hh => ?_)
          · exact absurd rfl hh
          · refine V.aload_n dL_isFault_84 rfl ?_
            refine V.iconst dL_isFault_85 ⟨by decide, by decide⟩ ?_
            refine V.cA [_, _] rfl kc_L_201 dL_isFault_86 (by decide) (by omega) rfl rfl (an_wordAt f1) (fun _ => ?_)
            refine V.bipush dL_isFault_89 ⟨by decide, by decide⟩ ?_
            refine V.icmp_ne (tgt := 118) dL_isFault_91 (by decide) (fun hh => ?_) (fun hh => ?_)
            · exact absurd rfl hh
            · refine V.aload_n dL_isFault_94 rfl ?_
              refine V.cA [_] rfl kc_L_203 dL_isFault_95 (by decide) (by omega) rfl rfl (an_shortShare f1) (fun _ => ?_)
              refine V.ldcF (x := 3264610304) dL_isFault_98 ⟨by decide, by decide⟩ (by have h := kg1184; rwa [show (3264610304 : UInt32) = jF 3264610304 by decide +kernel] at h) ?_
              refine V.fcmp dL_isFault_100 ?_
              rw [fc75]
              refine V.if_ne (tgt := 118) dL_isFault_101 (by decide) (fun hh => ?_) (fun hh => ?_)
              · exact absurd rfl hh
              · refine V.aload_n dL_isFault_104 rfl ?_
                refine V.iconst dL_isFault_105 ⟨by decide, by decide⟩ ?_
                refine V.cA [_, _] rfl kc_L_206 dL_isFault_106 (by decide) (by omega) rfl rfl (an_labelAddress f1) (fun _ => ?_)
                refine V.bipush dL_isFault_109 ⟨by decide, by decide⟩ ?_
                refine V.icmp_ne (tgt := 118) dL_isFault_111 (by decide) (fun hh => ?_) (fun hh => ?_)
                · exact absurd rfl hh
                · refine V.iconst dL_isFault_114 ⟨by decide, by decide⟩ ?_
                  refine V.goto (tgt := 119) dL_isFault_115 (by decide) ?_
                  exact V.iret (jret_z dL_isFault_119 rfl (by decide)) ⟨rfl, rfl⟩
  refine V.aload_n dL_isFault_0 rfl ?_
  refine V.cA [_] rfl kc_L_193 dL_isFault_1 (by decide) (by omega) rfl rfl (aq_fault ⟨hp, hc⟩) (fun _ => ?_)
  rw [q1]
  refine V.istore_n (L' := [_, _, _]) dL_isFault_4 rfl rfl ?_
  refine V.iload_n dL_isFault_5 rfl ?_
  refine V.bipush dL_isFault_6 ⟨by decide, by decide⟩ ?_
  refine V.icmp_ne (tgt := 15) dL_isFault_8 (by decide) (fun h8 => ?_) (fun h8 => ?_)
  · refine V.iconst dL_isFault_15 ⟨by decide, by decide⟩ ?_
    refine V.iload_n dL_isFault_16 rfl ?_
    refine V.icmp_ne (tgt := 118) dL_isFault_17 (by decide) (fun h17 => ?_) (fun h17 => ?_)
    · exfalso; omega
    · refine V.iload_n dL_isFault_20 rfl ?_
      refine V.if_ne (tgt := 48) dL_isFault_21 (by decide) (fun h21 => ?_) (fun h21 => ?_)
      · exact tail _ (by omega)
      · refine V.iload_n dL_isFault_24 rfl ?_
        refine V.bipush dL_isFault_25 ⟨by decide, by decide⟩ ?_
        refine V.icmp_eq (tgt := 48) dL_isFault_27 (by decide) (fun h27 => ?_) (fun h27 => ?_)
        · exact tail _ (by omega)
        · refine V.iload_n dL_isFault_30 rfl ?_
          refine V.bipush dL_isFault_31 ⟨by decide, by decide⟩ ?_
          refine V.icmp_eq (tgt := 48) dL_isFault_33 (by decide) (fun h33 => ?_) (fun h33 => ?_)
          · exact tail _ (by omega)
          · refine V.iload_n dL_isFault_36 rfl ?_
            refine V.bipush dL_isFault_37 ⟨by decide, by decide⟩ ?_
            refine V.icmp_eq (tgt := 48) dL_isFault_39 (by decide) (fun h39 => ?_) (fun h39 => ?_)
            · exact tail _ (by omega)
            · refine V.iload_n dL_isFault_42 rfl ?_
              refine V.bipush dL_isFault_43 ⟨by decide, by decide⟩ ?_
              refine V.icmp_ne (tgt := 118) dL_isFault_45 (by decide) (fun h45 => ?_) (fun h45 => ?_)
              · exfalso; omega
              · exact tail _ (by omega)
  · refine V.iconst dL_isFault_11 ⟨by decide, by decide⟩ ?_
    refine V.goto (tgt := 16) dL_isFault_12 (by decide) ?_
    refine V.iload_n dL_isFault_16 rfl ?_
    refine V.icmp_ne (tgt := 118) dL_isFault_17 (by decide) (fun h17 => ?_) (fun h17 => ?_)
    · exfalso; omega
    · refine V.iload_n dL_isFault_20 rfl ?_
      refine V.if_ne (tgt := 48) dL_isFault_21 (by decide) (fun h21 => ?_) (fun h21 => ?_)
      · exact tail _ (by omega)
      · refine V.iload_n dL_isFault_24 rfl ?_
        refine V.bipush dL_isFault_25 ⟨by decide, by decide⟩ ?_
        refine V.icmp_eq (tgt := 48) dL_isFault_27 (by decide) (fun h27 => ?_) (fun h27 => ?_)
        · exact tail _ (by omega)
        · refine V.iload_n dL_isFault_30 rfl ?_
          refine V.bipush dL_isFault_31 ⟨by decide, by decide⟩ ?_
          refine V.icmp_eq (tgt := 48) dL_isFault_33 (by decide) (fun h33 => ?_) (fun h33 => ?_)
          · exact tail _ (by omega)
          · refine V.iload_n dL_isFault_36 rfl ?_
            refine V.bipush dL_isFault_37 ⟨by decide, by decide⟩ ?_
            refine V.icmp_eq (tgt := 48) dL_isFault_39 (by decide) (fun h39 => ?_) (fun h39 => ?_)
            · exact tail _ (by omega)
            · refine V.iload_n dL_isFault_42 rfl ?_
              refine V.bipush dL_isFault_43 ⟨by decide, by decide⟩ ?_
              refine V.icmp_ne (tgt := 118) dL_isFault_45 (by decide) (fun h45 => ?_) (fun h45 => ?_)
              · exfalso; omega
              · exact tail _ (by omega)
