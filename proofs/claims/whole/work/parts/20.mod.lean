theorem sp_X7_thrown {σ : JM} : JSp mX7_thrown 0 0 [(2, 7)] σ (jrv (σ 7 0) σ) jno := by
  refine JSp.of [(2, 7)] rfl (by decide +kernel) rfl rfl rfl (fun l E hA => ?_)
  refine V.aload_n dX7_thrown_0 rfl ?_
  refine V.getI fa_X7_82 (by decide) rfl dX7_thrown_1 (fun _ => ?_)
  exact V.iret (jret_i dX7_thrown_4 rfl) ⟨rfl, rfl⟩
theorem sp_X7_fails {σ : JM} {c : Int} : JSp mX7_fails 0 0 [(2, 7), (0, c)] σ (jrv 0 (jset σ 7 0 c)) jno := by
  refine JSp.of [(2, 7), (0, c)] rfl (by decide +kernel) rfl rfl rfl (fun l E hA => ?_)
  refine V.aload_n dX7_fails_0 rfl ?_
  refine V.iload_n dX7_fails_1 rfl ?_
  refine V.putI fa_X7_82 (by decide) rfl dX7_fails_2 (Or.inl rfl) ?_
  refine V.iconst dX7_fails_5 ⟨by decide, by decide⟩ ?_
  exact V.iret (jret_i dX7_fails_6 rfl) ⟨rfl, rfl⟩
theorem sp_X7_in {σ : JM} {v a b : Int} : JSp mX7_in 0 0 [(0, v), (0, a), (0, b)] σ (jrv (if a ≤ v ∧ v ≤ b then 1 else 0) σ) jno := by
  refine JSp.of [(0, v), (0, a), (0, b)] rfl (by decide +kernel) rfl rfl rfl (fun l E hA => ?_)
  refine V.iload_n dX7_in_0 rfl ?_
  refine V.iload_n dX7_in_1 rfl ?_
  refine V.icmp_lt (tgt := 14) dX7_in_2 (by decide) (fun h2 => ?_) (fun h2 => ?_)
  · refine V.iconst dX7_in_14 ⟨by decide, by decide⟩ ?_
    exact V.iret (jret_z dX7_in_15 rfl (by decide)) ⟨jsm (by split <;> omega), rfl⟩
  · refine V.iload_n dX7_in_5 rfl ?_
    refine V.iload_n dX7_in_6 rfl ?_
    refine V.icmp_gt (tgt := 14) dX7_in_7 (by decide) (fun h7 => ?_) (fun h7 => ?_)
    · refine V.iconst dX7_in_14 ⟨by decide, by decide⟩ ?_
      exact V.iret (jret_z dX7_in_15 rfl (by decide)) ⟨jsm (by split <;> omega), rfl⟩
    · refine V.iconst dX7_in_10 ⟨by decide, by decide⟩ ?_
      refine V.goto (tgt := 15) dX7_in_11 (by decide) ?_
      exact V.iret (jret_z dX7_in_15 rfl (by decide)) ⟨jsm (by split <;> omega), rfl⟩
abbrev jrgt (σ : JM) (v h : Int) : Prop := (0 ≤ v ∧ v ≤ h) ∨ (σ 7 3 ≠ -1 ∧ (-2 ≤ v ∧ v ≤ -1))
theorem sp_X7_isRight {σ : JM} {v h : Int} : JSp mX7_isRight 1 0 [(2, 7), (0, v), (0, h)] σ (jrv (if jrgt σ v h then 1 else 0) σ) jno := by
  refine JSp.of [(2, 7), (0, v), (0, h)] rfl (by decide +kernel) rfl rfl rfl (fun l E hA => ?_)
  refine V.iload_n dX7_isRight_0 rfl ?_
  refine V.iconst dX7_isRight_1 ⟨by decide, by decide⟩ ?_
  refine V.iload_n dX7_isRight_2 rfl ?_
  refine V.cS [_, _, _] rfl kc_X7_85 dX7_isRight_3 (by decide) rfl rfl (sp_X7_in) (fun _ => ?_)
  refine V.if_ne (tgt := 27) dX7_isRight_6 (by decide) (fun h6 => ?_) (fun h6 => ?_)
  · refine V.iconst dX7_isRight_27 ⟨by decide, by decide⟩ ?_
    refine V.goto (tgt := 32) dX7_isRight_28 (by decide) ?_
    exact V.iret (jret_z dX7_isRight_32 rfl (by decide)) ⟨jsm (by (try simp only [jb0, jb1] at *); split <;> omega), rfl⟩
  · refine V.aload_n dX7_isRight_9 rfl ?_
    refine V.getI fa_X7_7 (by decide) rfl dX7_isRight_10 (fun _ => ?_)
    refine V.iconst dX7_isRight_13 ⟨by decide, by decide⟩ ?_
    refine V.icmp_eq (tgt := 31) dX7_isRight_14 (by decide) (fun h14 => ?_) (fun h14 => ?_)
    · refine V.iconst dX7_isRight_31 ⟨by decide, by decide⟩ ?_
      exact V.iret (jret_z dX7_isRight_32 rfl (by decide)) ⟨jsm (by (try simp only [jb0, jb1] at *); split <;> omega), rfl⟩
    · refine V.iload_n dX7_isRight_17 rfl ?_
      refine V.bipush dX7_isRight_18 ⟨by decide, by decide⟩ ?_
      refine V.iconst dX7_isRight_20 ⟨by decide, by decide⟩ ?_
      refine V.cS [_, _, _] rfl kc_X7_85 dX7_isRight_21 (by decide) rfl rfl (sp_X7_in) (fun _ => ?_)
      refine V.if_eq (tgt := 31) dX7_isRight_24 (by decide) (fun h24 => ?_) (fun h24 => ?_)
      · refine V.iconst dX7_isRight_31 ⟨by decide, by decide⟩ ?_
        exact V.iret (jret_z dX7_isRight_32 rfl (by decide)) ⟨jsm (by (try simp only [jb0, jb1] at *); split <;> omega), rfl⟩
      · refine V.iconst dX7_isRight_27 ⟨by decide, by decide⟩ ?_
        refine V.goto (tgt := 32) dX7_isRight_28 (by decide) ?_
        exact V.iret (jret_z dX7_isRight_32 rfl (by decide)) ⟨jsm (by (try simp only [jb0, jb1] at *); split <;> omega), rfl⟩
def jAds (σ : JM) (s a b c : Int) : JM := jset (jset (jset (jset (jset (jset σ 7 0 0) 34 (σ 7 1) s) 35 (σ 7 1) a) 36 (σ 7 1) b) 37 (σ 7 1) c) 7 1 (σ 7 1 + 1)
theorem sp_X7_adds {σ : JM} {s a b c : Int} (h0 : 0 ≤ σ 7 1) (h1 : σ 7 1 < 80) : JSp mX7_adds 0 0 [(2, 7), (0, s), (0, a), (0, b), (0, c)] σ (jrv (σ 7 1) (jAds σ s a b c)) jno := by
  refine JSp.of [(2, 7), (0, s), (0, a), (0, b), (0, c)] rfl (by decide +kernel) rfl rfl rfl (fun l E hA => ?_)
  refine V.aload_n dX7_adds_0 rfl ?_
  refine V.iconst dX7_adds_1 ⟨by decide, by decide⟩ ?_
  refine V.putI fa_X7_82 (by decide) rfl dX7_adds_2 (Or.inl rfl) ?_
  refine V.aload_n dX7_adds_5 rfl ?_
  refine V.getR fa_X7_13 rfl dX7_adds_6 ?_
  refine V.aload_n dX7_adds_9 rfl ?_
  refine V.getI fa_X7_89 (by decide) rfl dX7_adds_10 (fun _ => ?_)
  refine V.iload_n dX7_adds_13 rfl ?_
  refine V.iast (cell := 34) 0 rfl rfl rfl rfl dX7_adds_14 (show (0 : Int) ≤ σ 7 1 by omega) (show σ 7 1 < 80 by omega) ?_
  refine V.aload_n dX7_adds_15 rfl ?_
  refine V.getR fa_X7_17 rfl dX7_adds_16 ?_
  refine V.aload_n dX7_adds_19 rfl ?_
  refine V.getI fa_X7_89 (by decide) rfl dX7_adds_20 (fun _ => ?_)
  refine V.iload_n dX7_adds_23 rfl ?_
  refine V.iast (cell := 35) 0 rfl rfl rfl rfl dX7_adds_24 (show (0 : Int) ≤ σ 7 1 by omega) (show σ 7 1 < 80 by omega) ?_
  refine V.aload_n dX7_adds_25 rfl ?_
  refine V.getR fa_X7_20 rfl dX7_adds_26 ?_
  refine V.aload_n dX7_adds_29 rfl ?_
  refine V.getI fa_X7_89 (by decide) rfl dX7_adds_30 (fun _ => ?_)
  refine V.iload_n dX7_adds_33 rfl ?_
  refine V.iast (cell := 36) 0 rfl rfl rfl rfl dX7_adds_34 (show (0 : Int) ≤ σ 7 1 by omega) (show σ 7 1 < 80 by omega) ?_
  refine V.aload_n dX7_adds_35 rfl ?_
  refine V.getR fa_X7_23 rfl dX7_adds_36 ?_
  refine V.aload_n dX7_adds_39 rfl ?_
  refine V.getI fa_X7_89 (by decide) rfl dX7_adds_40 (fun _ => ?_)
  refine V.iload dX7_adds_43 rfl ?_
  refine V.iast (cell := 37) 0 rfl rfl rfl rfl dX7_adds_45 (show (0 : Int) ≤ σ 7 1 by omega) (show σ 7 1 < 80 by omega) ?_
  refine V.aload_n dX7_adds_46 rfl ?_
  refine V.dup dX7_adds_47 rfl ?_
  refine V.getI fa_X7_89 (by decide) rfl dX7_adds_48 (fun _ => ?_)
  refine V.iconst dX7_adds_51 ⟨by decide, by decide⟩ ?_
  refine V.iadd dX7_adds_52 ⟨(by first | omega | (show _ ≤ σ 7 1 + 1; omega) | (show σ 7 1 + 1 ≤ _; omega)), (by first | omega | (show _ ≤ σ 7 1 + 1; omega) | (show σ 7 1 + 1 ≤ _; omega))⟩ ?_
  refine V.putI fa_X7_89 (by decide) rfl dX7_adds_53 (Or.inl rfl) ?_
  refine V.aload_n dX7_adds_56 rfl ?_
  refine V.getI fa_X7_89 (by decide) rfl dX7_adds_57 (fun _ => ?_)
  refine V.iconst dX7_adds_60 ⟨by decide, by decide⟩ ?_
  refine V.isub dX7_adds_61 ⟨(by first | omega | (show _ ≤ σ 7 1 + 1 - 1; omega) | (show σ 7 1 + 1 - 1 ≤ _; omega)), (by first | omega | (show _ ≤ σ 7 1 + 1 - 1; omega) | (show σ 7 1 + 1 - 1 ≤ _; omega))⟩ ?_
  exact V.iret (jret_i dX7_adds_62 rfl) ⟨jsm (show σ 7 1 + 1 - 1 = σ 7 1 by omega), rfl⟩
def jFdR (σ : JM) (f : Int) : Int := if f = 0 then 0 else if σ 7 1 = 80 then 0 else σ 7 1
def jFdM (σ : JM) (f s a b c : Int) : JM := if f = 0 then jset σ 7 0 1 else if σ 7 1 = 80 then jset σ 7 0 2 else jAds σ s a b c
theorem sp_X7_feeds {σ : JM} {f s a b c : Int} (h0 : 0 ≤ σ 7 1) (h1 : σ 7 1 ≤ 80) : JSp mX7_feeds 1 0 [(2, 7), (0, f), (0, s), (0, a), (0, b), (0, c)] σ (jrv (jFdR σ f) (jFdM σ f s a b c)) jno := by
  refine JSp.of [(2, 7), (0, f), (0, s), (0, a), (0, b), (0, c)] rfl (by decide +kernel) rfl rfl rfl (fun l E hA => ?_)
  refine V.iload_n dX7_feeds_0 rfl ?_
  refine V.if_ne (tgt := 10) dX7_feeds_1 (by decide) (fun g1 => ?_) (fun g1 => ?_)
  · refine V.aload_n dX7_feeds_10 rfl ?_
    refine V.getI fa_X7_89 (by decide) rfl dX7_feeds_11 (fun _ => ?_)
    refine V.bipush dX7_feeds_14 ⟨by decide, by decide⟩ ?_
    refine V.icmp_ne (tgt := 27) dX7_feeds_16 (by decide) (fun g16 => ?_) (fun g16 => ?_)
    · refine V.aload_n dX7_feeds_27 rfl ?_
      refine V.iload_n dX7_feeds_28 rfl ?_
      refine V.iload_n dX7_feeds_29 rfl ?_
      refine V.iload dX7_feeds_30 rfl ?_
      refine V.iload dX7_feeds_32 rfl ?_
      refine V.cV [_, _, _, _] rfl kc_X7_96 rfl dX7_feeds_34 (by decide) rfl rfl (sp_X7_adds h0 (by omega)) (fun _ => ?_)
      exact V.iret (jret_i dX7_feeds_37 rfl) ⟨jsm (by unfold jFdR; simp_all), by unfold jFdM; simp_all⟩
    · refine V.aload_n dX7_feeds_19 rfl ?_
      refine V.iconst dX7_feeds_20 ⟨by decide, by decide⟩ ?_
      refine V.cV [_] rfl kc_X7_92 rfl dX7_feeds_21 (by decide) rfl rfl (sp_X7_fails) (fun _ => ?_)
      refine V.goto (tgt := 37) dX7_feeds_24 (by decide) ?_
      exact V.iret (jret_i dX7_feeds_37 rfl) ⟨jsm (by unfold jFdR; simp_all), by unfold jFdM; simp_all⟩
  · refine V.aload_n dX7_feeds_4 rfl ?_
    refine V.iconst dX7_feeds_5 ⟨by decide, by decide⟩ ?_
    refine V.cV [_] rfl kc_X7_92 rfl dX7_feeds_6 (by decide) rfl rfl (sp_X7_fails) (fun _ => ?_)
    exact V.iret (jret_i dX7_feeds_9 rfl) ⟨jsm (by unfold jFdR; simp_all), by unfold jFdM; simp_all⟩
theorem sp_X7_label {σ : JM} {x : Int} (h0 : 0 ≤ σ 7 1) (h1 : σ 7 1 ≤ 80) : JSp mX7_label 2 0 [(2, 7), (0, x)] σ (jrv (jFdR σ (if jrgt σ x 19 then 1 else 0)) (jFdM σ (if jrgt σ x 19 then 1 else 0) 0 x 0 0)) jno := by
  refine JSp.of [(2, 7), (0, x)] rfl (by decide +kernel) rfl rfl rfl (fun l E hA => ?_)
  refine V.aload_n dX7_label_0 rfl ?_
  refine V.aload_n dX7_label_1 rfl ?_
  refine V.iload_n dX7_label_2 rfl ?_
  refine V.bipush dX7_label_3 ⟨by decide, by decide⟩ ?_
  refine V.cV [_, _] rfl kc_X7_100 rfl dX7_label_5 (by decide) rfl rfl (sp_X7_isRight) (fun _ => ?_)
  refine V.iconst dX7_label_8 ⟨by decide, by decide⟩ ?_
  refine V.iload_n dX7_label_9 rfl ?_
  refine V.iconst dX7_label_10 ⟨by decide, by decide⟩ ?_
  refine V.iconst dX7_label_11 ⟨by decide, by decide⟩ ?_
  refine V.cV [_, _, _, _, _] rfl kc_X7_104 rfl dX7_label_12 (by decide) rfl rfl (sp_X7_feeds h0 h1) (fun _ => ?_)
  exact V.iret (jret_i dX7_label_15 rfl) ⟨rfl, rfl⟩
theorem sp_X7_word {σ : JM} {x : Int} (h0 : 0 ≤ σ 7 1) (h1 : σ 7 1 ≤ 80) : JSp mX7_word 2 0 [(2, 7), (0, x)] σ (jrv (jFdR σ (if jrgt σ x 999 then 1 else 0)) (jFdM σ (if jrgt σ x 999 then 1 else 0) 1 x 0 0)) jno := by
  refine JSp.of [(2, 7), (0, x)] rfl (by decide +kernel) rfl rfl rfl (fun l E hA => ?_)
  refine V.aload_n dX7_word_0 rfl ?_
  refine V.aload_n dX7_word_1 rfl ?_
  refine V.iload_n dX7_word_2 rfl ?_
  refine V.sipush dX7_word_3 ⟨by decide, by decide⟩ ?_
  refine V.cV [_, _] rfl kc_X7_100 rfl dX7_word_6 (by decide) rfl rfl (sp_X7_isRight) (fun _ => ?_)
  refine V.iconst dX7_word_9 ⟨by decide, by decide⟩ ?_
  refine V.iload_n dX7_word_10 rfl ?_
  refine V.iconst dX7_word_11 ⟨by decide, by decide⟩ ?_
  refine V.iconst dX7_word_12 ⟨by decide, by decide⟩ ?_
  refine V.cV [_, _, _, _, _] rfl kc_X7_104 rfl dX7_word_13 (by decide) rfl rfl (sp_X7_feeds h0 h1) (fun _ => ?_)
  exact V.iret (jret_i dX7_word_16 rfl) ⟨rfl, rfl⟩
theorem sp_X7_jump {σ : JM} {x : Int} (h0 : 0 ≤ σ 7 1) (h1 : σ 7 1 ≤ 80) : JSp mX7_jump 2 0 [(2, 7), (0, x)] σ (jrv (jFdR σ (if jrgt σ x 19 then 1 else 0)) (jFdM σ (if jrgt σ x 19 then 1 else 0) 3 x 0 0)) jno := by
  refine JSp.of [(2, 7), (0, x)] rfl (by decide +kernel) rfl rfl rfl (fun l E hA => ?_)
  refine V.aload_n dX7_jump_0 rfl ?_
  refine V.aload_n dX7_jump_1 rfl ?_
  refine V.iload_n dX7_jump_2 rfl ?_
  refine V.bipush dX7_jump_3 ⟨by decide, by decide⟩ ?_
  refine V.cV [_, _] rfl kc_X7_100 rfl dX7_jump_5 (by decide) rfl rfl (sp_X7_isRight) (fun _ => ?_)
  refine V.iconst dX7_jump_8 ⟨by decide, by decide⟩ ?_
  refine V.iload_n dX7_jump_9 rfl ?_
  refine V.iconst dX7_jump_10 ⟨by decide, by decide⟩ ?_
  refine V.iconst dX7_jump_11 ⟨by decide, by decide⟩ ?_
  refine V.cV [_, _, _, _, _] rfl kc_X7_104 rfl dX7_jump_12 (by decide) rfl rfl (sp_X7_feeds h0 h1) (fun _ => ?_)
  exact V.iret (jret_i dX7_jump_15 rfl) ⟨rfl, rfl⟩
theorem sp_X7_address {σ : JM} {x : Int} (h0 : 0 ≤ σ 7 1) (h1 : σ 7 1 ≤ 80) : JSp mX7_address 2 0 [(2, 7), (0, x)] σ (jrv (jFdR σ (if jrgt σ x 19 then 1 else 0)) (jFdM σ (if jrgt σ x 19 then 1 else 0) 4 x 0 0)) jno := by
  refine JSp.of [(2, 7), (0, x)] rfl (by decide +kernel) rfl rfl rfl (fun l E hA => ?_)
  refine V.aload_n dX7_address_0 rfl ?_
  refine V.aload_n dX7_address_1 rfl ?_
  refine V.iload_n dX7_address_2 rfl ?_
  refine V.bipush dX7_address_3 ⟨by decide, by decide⟩ ?_
  refine V.cV [_, _] rfl kc_X7_100 rfl dX7_address_5 (by decide) rfl rfl (sp_X7_isRight) (fun _ => ?_)
  refine V.iconst dX7_address_8 ⟨by decide, by decide⟩ ?_
  refine V.iload_n dX7_address_9 rfl ?_
  refine V.iconst dX7_address_10 ⟨by decide, by decide⟩ ?_
  refine V.iconst dX7_address_11 ⟨by decide, by decide⟩ ?_
  refine V.cV [_, _, _, _, _] rfl kc_X7_104 rfl dX7_address_12 (by decide) rfl rfl (sp_X7_feeds h0 h1) (fun _ => ?_)
  exact V.iret (jret_i dX7_address_15 rfl) ⟨rfl, rfl⟩
theorem sp_X7_align {σ : JM} {x : Int} (h0 : 0 ≤ σ 7 1) (h1 : σ 7 1 ≤ 80) : JSp mX7_align 2 0 [(2, 7), (0, x)] σ (jrv (jFdR σ (if (2 ≤ x ∧ x ≤ 8) then 1 else 0)) (jFdM σ (if (2 ≤ x ∧ x ≤ 8) then 1 else 0) 5 x 0 0)) jno := by
  refine JSp.of [(2, 7), (0, x)] rfl (by decide +kernel) rfl rfl rfl (fun l E hA => ?_)
  refine V.aload_n dX7_align_0 rfl ?_
  refine V.iload_n dX7_align_1 rfl ?_
  refine V.iconst dX7_align_2 ⟨by decide, by decide⟩ ?_
  refine V.bipush dX7_align_3 ⟨by decide, by decide⟩ ?_
  refine V.cS [_, _, _] rfl kc_X7_85 dX7_align_5 (by decide) rfl rfl (sp_X7_in) (fun _ => ?_)
  refine V.iconst dX7_align_8 ⟨by decide, by decide⟩ ?_
  refine V.iload_n dX7_align_9 rfl ?_
  refine V.iconst dX7_align_10 ⟨by decide, by decide⟩ ?_
  refine V.iconst dX7_align_11 ⟨by decide, by decide⟩ ?_
  refine V.cV [_, _, _, _, _] rfl kc_X7_104 rfl dX7_align_12 (by decide) rfl rfl (sp_X7_feeds h0 h1) (fun _ => ?_)
  exact V.iret (jret_i dX7_align_15 rfl) ⟨rfl, rfl⟩
theorem sp_X7_operation {σ : JM} {x y : Int} (h0 : 0 ≤ σ 7 1) (h1 : σ 7 1 ≤ 80) : JSp mX7_operation 2 0 [(2, 7), (0, x), (0, y)] σ (jrv (jFdR σ (if (10 ≤ x ∧ x ≤ 99) ∧ jrgt σ y 99 then 1 else 0)) (jFdM σ (if (10 ≤ x ∧ x ≤ 99) ∧ jrgt σ y 99 then 1 else 0) 2 y x 0)) jno := by
  refine JSp.of [(2, 7), (0, x), (0, y)] rfl (by decide +kernel) rfl rfl rfl (fun l E hA => ?_)
  refine V.aload_n dX7_operation_0 rfl ?_
  refine V.iload_n dX7_operation_1 rfl ?_
  refine V.bipush dX7_operation_2 ⟨by decide, by decide⟩ ?_
  refine V.bipush dX7_operation_4 ⟨by decide, by decide⟩ ?_
  refine V.cS [_, _, _] rfl kc_X7_85 dX7_operation_6 (by decide) rfl rfl (sp_X7_in) (fun _ => ?_)
  refine V.if_eq (tgt := 26) dX7_operation_9 (by decide) (fun g9 => ?_) (fun g9 => ?_)
  · refine V.iconst dX7_operation_26 ⟨by decide, by decide⟩ ?_
    refine V.iconst dX7_operation_27 ⟨by decide, by decide⟩ ?_
    refine V.iload_n dX7_operation_28 rfl ?_
    refine V.iload_n dX7_operation_29 rfl ?_
    refine V.iconst dX7_operation_30 ⟨by decide, by decide⟩ ?_
    refine V.cV [_, _, _, _, _] rfl kc_X7_104 rfl dX7_operation_31 (by decide) rfl rfl (sp_X7_feeds h0 h1) (fun _ => ?_)
    exact V.iret (jret_i dX7_operation_34 rfl) ⟨jsm (by congr 1; (try simp only [jb0, jb1] at *); split <;> omega), by congr 1; (try simp only [jb0, jb1] at *); split <;> omega⟩
  · refine V.aload_n dX7_operation_12 rfl ?_
    refine V.iload_n dX7_operation_13 rfl ?_
    refine V.bipush dX7_operation_14 ⟨by decide, by decide⟩ ?_
    refine V.cV [_, _] rfl kc_X7_100 rfl dX7_operation_16 (by decide) rfl rfl (sp_X7_isRight) (fun _ => ?_)
    refine V.if_eq (tgt := 26) dX7_operation_19 (by decide) (fun g19 => ?_) (fun g19 => ?_)
    · refine V.iconst dX7_operation_26 ⟨by decide, by decide⟩ ?_
      refine V.iconst dX7_operation_27 ⟨by decide, by decide⟩ ?_
      refine V.iload_n dX7_operation_28 rfl ?_
      refine V.iload_n dX7_operation_29 rfl ?_
      refine V.iconst dX7_operation_30 ⟨by decide, by decide⟩ ?_
      refine V.cV [_, _, _, _, _] rfl kc_X7_104 rfl dX7_operation_31 (by decide) rfl rfl (sp_X7_feeds h0 h1) (fun _ => ?_)
      exact V.iret (jret_i dX7_operation_34 rfl) ⟨jsm (by congr 1; (try simp only [jb0, jb1] at *); split <;> omega), by congr 1; (try simp only [jb0, jb1] at *); split <;> omega⟩
    · refine V.iconst dX7_operation_22 ⟨by decide, by decide⟩ ?_
      refine V.goto (tgt := 27) dX7_operation_23 (by decide) ?_
      refine V.iconst dX7_operation_27 ⟨by decide, by decide⟩ ?_
      refine V.iload_n dX7_operation_28 rfl ?_
      refine V.iload_n dX7_operation_29 rfl ?_
      refine V.iconst dX7_operation_30 ⟨by decide, by decide⟩ ?_
      refine V.cV [_, _, _, _, _] rfl kc_X7_104 rfl dX7_operation_31 (by decide) rfl rfl (sp_X7_feeds h0 h1) (fun _ => ?_)
      exact V.iret (jret_i dX7_operation_34 rfl) ⟨jsm (by congr 1; (try simp only [jb0, jb1] at *); split <;> omega), by congr 1; (try simp only [jb0, jb1] at *); split <;> omega⟩
def jCaR (σ : JM) (m x y : Int) : Int := if ¬ (0 ≤ m ∧ m ≤ σ 7 2 - 1) ∨ m = σ 7 3 then 0 else if ¬ (jrgt σ x 999 ∧ jrgt σ y 999) then 0 else if σ 7 1 = 80 then 0 else σ 7 1
def jCaM (σ : JM) (m x y : Int) : JM := if ¬ (0 ≤ m ∧ m ≤ σ 7 2 - 1) ∨ m = σ 7 3 then jset σ 7 0 1 else if ¬ (jrgt σ x 999 ∧ jrgt σ y 999) then jset σ 7 0 2 else if σ 7 1 = 80 then jset σ 7 0 3 else jAds σ 6 x y m
theorem sp_X7_call {σ : JM} {m x y : Int} (h0 : 0 ≤ σ 7 1) (h1 : σ 7 1 ≤ 80) (h2 : 0 ≤ σ 7 2 ∧ σ 7 2 ≤ 8) : JSp mX7_call 2 0 [(2, 7), (0, m), (0, x), (0, y)] σ (jrv (jCaR σ m x y) (jCaM σ m x y)) jno := by
  refine JSp.of [(2, 7), (0, m), (0, x), (0, y)] rfl (by decide +kernel) rfl rfl rfl (fun l E hA => ?_)
  refine V.iload_n dX7_call_0 rfl ?_
  refine V.iconst dX7_call_1 ⟨by decide, by decide⟩ ?_
  refine V.aload_n dX7_call_2 rfl ?_
  refine V.getI fa_X7_108 (by decide) rfl dX7_call_3 (fun _ => ?_)
  refine V.iconst dX7_call_6 ⟨by decide, by decide⟩ ?_
  refine V.isub dX7_call_7 ⟨(by omega), (by omega)⟩ ?_
  refine V.cS [_, _, _] rfl kc_X7_85 dX7_call_8 (by decide) rfl rfl (sp_X7_in) (fun _ => ?_)
  refine V.if_eq (tgt := 22) dX7_call_11 (by decide) (fun g11 => ?_) (fun g11 => ?_)
  · refine V.aload_n dX7_call_22 rfl ?_
    refine V.iconst dX7_call_23 ⟨by decide, by decide⟩ ?_
    refine V.cV [_] rfl kc_X7_92 rfl dX7_call_24 (by decide) rfl rfl (sp_X7_fails) (fun _ => ?_)
    exact V.iret (jret_i dX7_call_27 rfl) ⟨jsm (by (try simp only [jb0, jb1] at *); unfold jCaR; (repeat' split) <;> first | rfl | omega), by (try simp only [jb0, jb1] at *); unfold jCaM; (repeat' split) <;> first | rfl | omega⟩
  · refine V.iload_n dX7_call_14 rfl ?_
    refine V.aload_n dX7_call_15 rfl ?_
    refine V.getI fa_X7_7 (by decide) rfl dX7_call_16 (fun _ => ?_)
    refine V.icmp_ne (tgt := 28) dX7_call_19 (by decide) (fun g19 => ?_) (fun g19 => ?_)
    · refine V.aload_n dX7_call_28 rfl ?_
      refine V.iload_n dX7_call_29 rfl ?_
      refine V.sipush dX7_call_30 ⟨by decide, by decide⟩ ?_
      refine V.cV [_, _] rfl kc_X7_100 rfl dX7_call_33 (by decide) rfl rfl (sp_X7_isRight) (fun _ => ?_)
      refine V.if_eq (tgt := 50) dX7_call_36 (by decide) (fun g36 => ?_) (fun g36 => ?_)
      · refine V.aload_n dX7_call_50 rfl ?_
        refine V.iconst dX7_call_51 ⟨by decide, by decide⟩ ?_
        refine V.cV [_] rfl kc_X7_92 rfl dX7_call_52 (by decide) rfl rfl (sp_X7_fails) (fun _ => ?_)
        exact V.iret (jret_i dX7_call_55 rfl) ⟨jsm (by (try simp only [jb0, jb1] at *); unfold jCaR; (repeat' split) <;> first | rfl | omega), by (try simp only [jb0, jb1] at *); unfold jCaM; (repeat' split) <;> first | rfl | omega⟩
      · refine V.aload_n dX7_call_39 rfl ?_
        refine V.iload_n dX7_call_40 rfl ?_
        refine V.sipush dX7_call_41 ⟨by decide, by decide⟩ ?_
        refine V.cV [_, _] rfl kc_X7_100 rfl dX7_call_44 (by decide) rfl rfl (sp_X7_isRight) (fun _ => ?_)
        refine V.if_ne (tgt := 56) dX7_call_47 (by decide) (fun g47 => ?_) (fun g47 => ?_)
        · refine V.aload_n dX7_call_56 rfl ?_
          refine V.getI fa_X7_89 (by decide) rfl dX7_call_57 (fun _ => ?_)
          refine V.bipush dX7_call_60 ⟨by decide, by decide⟩ ?_
          refine V.icmp_ne (tgt := 73) dX7_call_62 (by decide) (fun g62 => ?_) (fun g62 => ?_)
          · refine V.aload_n dX7_call_73 rfl ?_
            refine V.bipush dX7_call_74 ⟨by decide, by decide⟩ ?_
            refine V.iload_n dX7_call_76 rfl ?_
            refine V.iload_n dX7_call_77 rfl ?_
            refine V.iload_n dX7_call_78 rfl ?_
            refine V.cV [_, _, _, _] rfl kc_X7_96 rfl dX7_call_79 (by decide) rfl rfl (sp_X7_adds h0 (by omega)) (fun _ => ?_)
            exact V.iret (jret_i dX7_call_82 rfl) ⟨jsm (by (try simp only [jb0, jb1] at *); unfold jCaR; (repeat' split) <;> first | rfl | omega), by (try simp only [jb0, jb1] at *); unfold jCaM; (repeat' split) <;> first | rfl | omega⟩
          · refine V.aload_n dX7_call_65 rfl ?_
            refine V.iconst dX7_call_66 ⟨by decide, by decide⟩ ?_
            refine V.cV [_] rfl kc_X7_92 rfl dX7_call_67 (by decide) rfl rfl (sp_X7_fails) (fun _ => ?_)
            refine V.goto (tgt := 82) dX7_call_70 (by decide) ?_
            exact V.iret (jret_i dX7_call_82 rfl) ⟨jsm (by (try simp only [jb0, jb1] at *); unfold jCaR; (repeat' split) <;> first | rfl | omega), by (try simp only [jb0, jb1] at *); unfold jCaM; (repeat' split) <;> first | rfl | omega⟩
        · refine V.aload_n dX7_call_50 rfl ?_
          refine V.iconst dX7_call_51 ⟨by decide, by decide⟩ ?_
          refine V.cV [_] rfl kc_X7_92 rfl dX7_call_52 (by decide) rfl rfl (sp_X7_fails) (fun _ => ?_)
          exact V.iret (jret_i dX7_call_55 rfl) ⟨jsm (by (try simp only [jb0, jb1] at *); unfold jCaR; (repeat' split) <;> first | rfl | omega), by (try simp only [jb0, jb1] at *); unfold jCaM; (repeat' split) <;> first | rfl | omega⟩
    · refine V.aload_n dX7_call_22 rfl ?_
      refine V.iconst dX7_call_23 ⟨by decide, by decide⟩ ?_
      refine V.cV [_] rfl kc_X7_92 rfl dX7_call_24 (by decide) rfl rfl (sp_X7_fails) (fun _ => ?_)
      exact V.iret (jret_i dX7_call_27 rfl) ⟨jsm (by (try simp only [jb0, jb1] at *); unfold jCaR; (repeat' split) <;> first | rfl | omega), by (try simp only [jb0, jb1] at *); unfold jCaM; (repeat' split) <;> first | rfl | omega⟩
def jBgM (σ : JM) (s a b : Int) : JM := jAds (jset (jset σ 39 (σ 7 4) (σ 7 1)) 7 4 (σ 7 4 + 1)) s a b 0
theorem sp_X7_begins {σ : JM} {s a b : Int} (h0 : 0 ≤ σ 7 1) (h1 : σ 7 1 < 80) (h2 : 0 ≤ σ 7 4 ∧ σ 7 4 < 80) : JSp mX7_begins 1 0 [(2, 7), (0, s), (0, a), (0, b)] σ (jrv (σ 7 1) (jBgM σ s a b)) jno := by
  refine JSp.of [(2, 7), (0, s), (0, a), (0, b)] rfl (by decide +kernel) rfl rfl rfl (fun l E hA => ?_)
  refine V.aload_n dX7_begins_0 rfl ?_
  refine V.getR fa_X7_29 rfl dX7_begins_1 ?_
  refine V.aload_n dX7_begins_4 rfl ?_
  refine V.getI fa_X7_111 (by decide) rfl dX7_begins_5 (fun _ => ?_)
  refine V.aload_n dX7_begins_8 rfl ?_
  refine V.getI fa_X7_89 (by decide) rfl dX7_begins_9 (fun _ => ?_)
  refine V.iast (cell := 39) 0 rfl rfl rfl rfl dX7_begins_12 (by omega) (by omega) ?_
  refine V.aload_n dX7_begins_13 rfl ?_
  refine V.dup dX7_begins_14 rfl ?_
  refine V.getI fa_X7_111 (by decide) rfl dX7_begins_15 (fun _ => ?_)
  refine V.iconst dX7_begins_18 ⟨by decide, by decide⟩ ?_
  refine V.iadd dX7_begins_19 ⟨(by first | omega | (show _ ≤ σ 7 4 + 1; omega) | (show σ 7 4 + 1 ≤ _; omega)), (by first | omega | (show _ ≤ σ 7 4 + 1; omega) | (show σ 7 4 + 1 ≤ _; omega))⟩ ?_
  refine V.putI fa_X7_111 (by decide) rfl dX7_begins_20 (Or.inl rfl) ?_
  refine V.aload_n dX7_begins_23 rfl ?_
  refine V.iload_n dX7_begins_24 rfl ?_
  refine V.iload_n dX7_begins_25 rfl ?_
  refine V.iload_n dX7_begins_26 rfl ?_
  refine V.iconst dX7_begins_27 ⟨by decide, by decide⟩ ?_
  refine V.cV [_, _, _, _] rfl kc_X7_96 rfl dX7_begins_28 (by decide) rfl rfl (sp_X7_adds (σ := jset (jset σ 39 (σ 7 4) (σ 7 1)) 7 4 (σ 7 4 + 1)) h0 h1) (fun _ => ?_)
  exact V.iret (jret_i dX7_begins_31 rfl) ⟨rfl, rfl⟩
def jBlM (σ : JM) : JM := if σ 7 1 = 80 then jset σ 7 0 1 else jBgM σ 7 0 0
theorem sp_X7_block {σ : JM} (h0 : 0 ≤ σ 7 1) (h1 : σ 7 1 ≤ 80) (h2 : 0 ≤ σ 7 4 ∧ σ 7 4 ≤ σ 7 1) : JSp mX7_block 2 0 [(2, 7)] σ (jrv (if σ 7 1 = 80 then 0 else σ 7 1) (jBlM σ)) jno := by
  refine JSp.of [(2, 7)] rfl (by decide +kernel) rfl rfl rfl (fun l E hA => ?_)
  refine V.aload_n dX7_block_0 rfl ?_
  refine V.getI fa_X7_89 (by decide) rfl dX7_block_1 (fun _ => ?_)
  refine V.bipush dX7_block_4 ⟨by decide, by decide⟩ ?_
  refine V.icmp_ne (tgt := 17) dX7_block_6 (by decide) (fun g6 => ?_) (fun g6 => ?_)
  · refine V.aload_n dX7_block_17 rfl ?_
    refine V.bipush dX7_block_18 ⟨by decide, by decide⟩ ?_
    refine V.iconst dX7_block_20 ⟨by decide, by decide⟩ ?_
    refine V.iconst dX7_block_21 ⟨by decide, by decide⟩ ?_
    refine V.cV [_, _, _] rfl kc_X7_114 rfl dX7_block_22 (by decide) rfl rfl (sp_X7_begins h0 (by omega) (by omega)) (fun _ => ?_)
    exact V.iret (jret_i dX7_block_25 rfl) ⟨jsm (by simp_all), by unfold jBlM; simp_all⟩
  · refine V.aload_n dX7_block_9 rfl ?_
    refine V.iconst dX7_block_10 ⟨by decide, by decide⟩ ?_
    refine V.cV [_] rfl kc_X7_92 rfl dX7_block_11 (by decide) rfl rfl (sp_X7_fails) (fun _ => ?_)
    refine V.goto (tgt := 25) dX7_block_14 (by decide) ?_
    exact V.iret (jret_i dX7_block_25 rfl) ⟨jsm (by simp_all), by unfold jBlM; simp_all⟩
def jLpR (σ : JM) (f : Prop) [Decidable f] : Int := if ¬ f then 0 else if σ 7 1 = 80 then 0 else σ 7 1
def jLpM (σ : JM) (f : Prop) [Decidable f] (s a b : Int) : JM := if ¬ f then jset σ 7 0 1 else if σ 7 1 = 80 then jset σ 7 0 2 else jBgM σ s a b
theorem sp_X7_loop {σ : JM} {x : Int} (h0 : 0 ≤ σ 7 1) (h1 : σ 7 1 ≤ 80) (h2 : 0 ≤ σ 7 4 ∧ σ 7 4 ≤ σ 7 1) : JSp mX7_loop 2 0 [(2, 7), (0, x)] σ (jrv (jLpR σ (jrgt σ x 9)) (jLpM σ (jrgt σ x 9) 8 x 0)) jno := by
  refine JSp.of [(2, 7), (0, x)] rfl (by decide +kernel) rfl rfl rfl (fun l E hA => ?_)
  refine V.aload_n dX7_loop_0 rfl ?_
  refine V.iload_n dX7_loop_1 rfl ?_
  refine V.bipush dX7_loop_2 ⟨by decide, by decide⟩ ?_
  refine V.cV [_, _] rfl kc_X7_100 rfl dX7_loop_4 (by decide) rfl rfl (sp_X7_isRight) (fun _ => ?_)
  refine V.if_ne (tgt := 16) dX7_loop_7 (by decide) (fun g7 => ?_) (fun g7 => ?_)
  · refine V.aload_n dX7_loop_16 rfl ?_
    refine V.getI fa_X7_89 (by decide) rfl dX7_loop_17 (fun _ => ?_)
    refine V.bipush dX7_loop_20 ⟨by decide, by decide⟩ ?_
    refine V.icmp_ne (tgt := 33) dX7_loop_22 (by decide) (fun g22 => ?_) (fun g22 => ?_)
    · refine V.aload_n dX7_loop_33 rfl ?_
      refine V.bipush dX7_loop_34 ⟨by decide, by decide⟩ ?_
      refine V.iload_n dX7_loop_36 rfl ?_
      refine V.iconst dX7_loop_37 ⟨by decide, by decide⟩ ?_
      refine V.cV [_, _, _] rfl kc_X7_114 rfl dX7_loop_38 (by decide) rfl rfl (sp_X7_begins h0 (by omega) (by omega)) (fun _ => ?_)
      exact V.iret (jret_i dX7_loop_41 rfl) ⟨jsm (by (try simp only [jb0, jb1] at *); unfold jLpR; (repeat' split) <;> first | rfl | omega), by (try simp only [jb0, jb1] at *); unfold jLpM; (repeat' split) <;> first | rfl | omega⟩
    · refine V.aload_n dX7_loop_25 rfl ?_
      refine V.iconst dX7_loop_26 ⟨by decide, by decide⟩ ?_
      refine V.cV [_] rfl kc_X7_92 rfl dX7_loop_27 (by decide) rfl rfl (sp_X7_fails) (fun _ => ?_)
      refine V.goto (tgt := 41) dX7_loop_30 (by decide) ?_
      exact V.iret (jret_i dX7_loop_41 rfl) ⟨jsm (by (try simp only [jb0, jb1] at *); unfold jLpR; (repeat' split) <;> first | rfl | omega), by (try simp only [jb0, jb1] at *); unfold jLpM; (repeat' split) <;> first | rfl | omega⟩
  · refine V.aload_n dX7_loop_10 rfl ?_
    refine V.iconst dX7_loop_11 ⟨by decide, by decide⟩ ?_
    refine V.cV [_] rfl kc_X7_92 rfl dX7_loop_12 (by decide) rfl rfl (sp_X7_fails) (fun _ => ?_)
    exact V.iret (jret_i dX7_loop_15 rfl) ⟨jsm (by (try simp only [jb0, jb1] at *); unfold jLpR; (repeat' split) <;> first | rfl | omega), by (try simp only [jb0, jb1] at *); unfold jLpM; (repeat' split) <;> first | rfl | omega⟩
theorem sp_X7_when {σ : JM} {x y : Int} (h0 : 0 ≤ σ 7 1) (h1 : σ 7 1 ≤ 80) (h2 : 0 ≤ σ 7 4 ∧ σ 7 4 ≤ σ 7 1) : JSp mX7_when 2 0 [(2, 7), (0, x), (0, y)] σ (jrv (jLpR σ (jrgt σ x 999 ∧ jrgt σ y 999)) (jLpM σ (jrgt σ x 999 ∧ jrgt σ y 999) 9 x y)) jno := by
  refine JSp.of [(2, 7), (0, x), (0, y)] rfl (by decide +kernel) rfl rfl rfl (fun l E hA => ?_)
  refine V.aload_n dX7_when_0 rfl ?_
  refine V.iload_n dX7_when_1 rfl ?_
  refine V.sipush dX7_when_2 ⟨by decide, by decide⟩ ?_
  refine V.cV [_, _] rfl kc_X7_100 rfl dX7_when_5 (by decide) rfl rfl (sp_X7_isRight) (fun _ => ?_)
  refine V.if_eq (tgt := 22) dX7_when_8 (by decide) (fun h8 => ?_) (fun h8 => ?_)
  · refine V.aload_n dX7_when_22 rfl ?_
    refine V.iconst dX7_when_23 ⟨by decide, by decide⟩ ?_
    refine V.cV [_] rfl kc_X7_92 rfl dX7_when_24 (by decide) rfl rfl (sp_X7_fails) (fun _ => ?_)
    exact V.iret (jret_i dX7_when_27 rfl) ⟨jsm (by (try simp only [jb0, jb1] at *); unfold jLpR; (repeat' split) <;> first | rfl | omega), by (try simp only [jb0, jb1] at *); unfold jLpM; (repeat' split) <;> first | rfl | omega⟩
  · refine V.aload_n dX7_when_11 rfl ?_
    refine V.iload_n dX7_when_12 rfl ?_
    refine V.sipush dX7_when_13 ⟨by decide, by decide⟩ ?_
    refine V.cV [_, _] rfl kc_X7_100 rfl dX7_when_16 (by decide) rfl rfl (sp_X7_isRight) (fun _ => ?_)
    refine V.if_ne (tgt := 28) dX7_when_19 (by decide) (fun h19 => ?_) (fun h19 => ?_)
    · refine V.aload_n dX7_when_28 rfl ?_
      refine V.getI fa_X7_89 (by decide) rfl dX7_when_29 (fun _ => ?_)
      refine V.bipush dX7_when_32 ⟨by decide, by decide⟩ ?_
      refine V.icmp_ne (tgt := 45) dX7_when_34 (by decide) (fun h34 => ?_) (fun h34 => ?_)
      · refine V.aload_n dX7_when_45 rfl ?_
        refine V.bipush dX7_when_46 ⟨by decide, by decide⟩ ?_
        refine V.iload_n dX7_when_48 rfl ?_
        refine V.iload_n dX7_when_49 rfl ?_
        refine V.cV [_, _, _] rfl kc_X7_114 rfl dX7_when_50 (by decide) rfl rfl (sp_X7_begins h0 (by omega) (by omega)) (fun _ => ?_)
        exact V.iret (jret_i dX7_when_53 rfl) ⟨jsm (by (try simp only [jb0, jb1] at *); unfold jLpR; (repeat' split) <;> first | rfl | omega), by (try simp only [jb0, jb1] at *); unfold jLpM; (repeat' split) <;> first | rfl | omega⟩
      · refine V.aload_n dX7_when_37 rfl ?_
        refine V.iconst dX7_when_38 ⟨by decide, by decide⟩ ?_
        refine V.cV [_] rfl kc_X7_92 rfl dX7_when_39 (by decide) rfl rfl (sp_X7_fails) (fun _ => ?_)
        refine V.goto (tgt := 53) dX7_when_42 (by decide) ?_
        exact V.iret (jret_i dX7_when_53 rfl) ⟨jsm (by (try simp only [jb0, jb1] at *); unfold jLpR; (repeat' split) <;> first | rfl | omega), by (try simp only [jb0, jb1] at *); unfold jLpM; (repeat' split) <;> first | rfl | omega⟩
    · refine V.aload_n dX7_when_22 rfl ?_
      refine V.iconst dX7_when_23 ⟨by decide, by decide⟩ ?_
      refine V.cV [_] rfl kc_X7_92 rfl dX7_when_24 (by decide) rfl rfl (sp_X7_fails) (fun _ => ?_)
      exact V.iret (jret_i dX7_when_27 rfl) ⟨jsm (by (try simp only [jb0, jb1] at *); unfold jLpR; (repeat' split) <;> first | rfl | omega), by (try simp only [jb0, jb1] at *); unfold jLpM; (repeat' split) <;> first | rfl | omega⟩
def jEnM (σ : JM) : JM := if σ 7 4 = 0 then jset σ 7 0 1 else if σ 7 1 = 80 then jset σ 7 0 2 else jAds (jset (jset σ 7 4 (σ 7 4 - 1)) 38 (σ 39 (σ 7 4 - 1)) (σ 7 1)) 10 0 0 0
def jEnR (σ : JM) : Int := if σ 7 4 = 0 then 0 else if σ 7 1 = 80 then 0 else σ 7 1
theorem sp_X7_end {σ : JM} (h0 : 0 ≤ σ 7 1) (h1 : σ 7 1 ≤ 80) (h2 : 0 ≤ σ 7 4 ∧ σ 7 4 ≤ 80) (h3 : σ 7 4 ≠ 0 → 0 ≤ σ 39 (σ 7 4 - 1) ∧ σ 39 (σ 7 4 - 1) < 80) : JSp mX7_end 1 0 [(2, 7)] σ (jrv (jEnR σ) (jEnM σ)) jno := by
  refine JSp.of [(2, 7)] rfl (by decide +kernel) rfl rfl rfl (fun l E hA => ?_)
  refine V.aload_n dX7_end_0 rfl ?_
  refine V.getI fa_X7_111 (by decide) rfl dX7_end_1 (fun _ => ?_)
  refine V.if_ne (tgt := 13) dX7_end_4 (by decide) (fun g4 => ?_) (fun g4 => ?_)
  · refine V.aload_n dX7_end_13 rfl ?_
    refine V.getI fa_X7_89 (by decide) rfl dX7_end_14 (fun _ => ?_)
    refine V.bipush dX7_end_17 ⟨by decide, by decide⟩ ?_
    refine V.icmp_ne (tgt := 28) dX7_end_19 (by decide) (fun g19 => ?_) (fun g19 => ?_)
    · refine V.aload_n dX7_end_28 rfl ?_
      refine V.dup dX7_end_29 rfl ?_
      refine V.getI fa_X7_111 (by decide) rfl dX7_end_30 (fun _ => ?_)
      refine V.iconst dX7_end_33 ⟨by decide, by decide⟩ ?_
      refine V.isub dX7_end_34 ⟨(by omega), (by omega)⟩ ?_
      refine V.putI fa_X7_111 (by decide) rfl dX7_end_35 (Or.inl rfl) ?_
      refine V.aload_n dX7_end_38 rfl ?_
      refine V.getR fa_X7_26 rfl dX7_end_39 ?_
      refine V.aload_n dX7_end_42 rfl ?_
      refine V.getR fa_X7_29 rfl dX7_end_43 ?_
      refine V.aload_n dX7_end_46 rfl ?_
      refine V.getI fa_X7_111 (by decide) rfl dX7_end_47 (fun _ => ?_)
      refine V.iald (cell := 39) 0 rfl rfl rfl rfl dX7_end_50 (show (0 : Int) ≤ σ 7 4 - 1 by omega) (show σ 7 4 - 1 < 80 by omega) (fun _ => ?_)
      refine V.aload_n dX7_end_51 rfl ?_
      refine V.getI fa_X7_89 (by decide) rfl dX7_end_52 (fun _ => ?_)
      refine V.iast (cell := 38) 0 rfl rfl rfl rfl dX7_end_55 (h3 g4).1 (h3 g4).2 ?_
      refine V.aload_n dX7_end_56 rfl ?_
      refine V.bipush dX7_end_57 ⟨by decide, by decide⟩ ?_
      refine V.iconst dX7_end_59 ⟨by decide, by decide⟩ ?_
      refine V.iconst dX7_end_60 ⟨by decide, by decide⟩ ?_
      refine V.iconst dX7_end_61 ⟨by decide, by decide⟩ ?_
      refine V.cV [_, _, _, _] rfl kc_X7_96 rfl dX7_end_62 (by decide) rfl rfl (sp_X7_adds (σ := jset (jset σ 7 4 (σ 7 4 - 1)) 38 (σ 39 (σ 7 4 - 1)) (σ 7 1)) h0 (show σ 7 1 < 80 by omega)) (fun _ => ?_)
      exact V.iret (jret_i dX7_end_65 rfl) ⟨jsm (by unfold jEnR; (repeat' split) <;> first | rfl | omega), by unfold jEnM; (repeat' split) <;> first | rfl | omega⟩
    · refine V.aload_n dX7_end_22 rfl ?_
      refine V.iconst dX7_end_23 ⟨by decide, by decide⟩ ?_
      refine V.cV [_] rfl kc_X7_92 rfl dX7_end_24 (by decide) rfl rfl (sp_X7_fails) (fun _ => ?_)
      exact V.iret (jret_i dX7_end_27 rfl) ⟨jsm (by unfold jEnR; (repeat' split) <;> first | rfl | omega), by unfold jEnM; (repeat' split) <;> first | rfl | omega⟩
  · refine V.aload_n dX7_end_7 rfl ?_
    refine V.iconst dX7_end_8 ⟨by decide, by decide⟩ ?_
    refine V.cV [_] rfl kc_X7_92 rfl dX7_end_9 (by decide) rfl rfl (sp_X7_fails) (fun _ => ?_)
    exact V.iret (jret_i dX7_end_12 rfl) ⟨jsm (by unfold jEnR; (repeat' split) <;> first | rfl | omega), by unfold jEnM; (repeat' split) <;> first | rfl | omega⟩
def jMaM (σ : JM) : JM := if σ 7 3 ≠ -1 ∨ 0 < σ 7 4 then jset σ 7 0 1 else if σ 7 1 = 80 ∨ σ 7 2 = 8 then jset σ 7 0 2 else jAds (jset (jset (jset σ 40 (σ 7 2) (σ 7 1)) 7 3 (σ 7 2)) 7 2 (σ 7 2 + 1)) 11 0 0 0
def jMaR (σ : JM) : Int := if σ 7 3 ≠ -1 ∨ 0 < σ 7 4 then 0 else if σ 7 1 = 80 ∨ σ 7 2 = 8 then 0 else σ 7 2
theorem sp_X7_macro {σ : JM} (h0 : 0 ≤ σ 7 1) (h1 : σ 7 1 ≤ 80) (h2 : 0 ≤ σ 7 2 ∧ σ 7 2 ≤ 8) : JSp mX7_macro 1 0 [(2, 7)] σ (jrv (jMaR σ) (jMaM σ)) jno := by
  refine JSp.of [(2, 7)] rfl (by decide +kernel) rfl rfl rfl (fun l E hA => ?_)
  refine V.aload_n dX7_macro_0 rfl ?_
  refine V.getI fa_X7_7 (by decide) rfl dX7_macro_1 (fun _ => ?_)
  refine V.iconst dX7_macro_4 ⟨by decide, by decide⟩ ?_
  refine V.icmp_ne (tgt := 15) dX7_macro_5 (by decide) (fun g5 => ?_) (fun g5 => ?_)
  · refine V.aload_n dX7_macro_15 rfl ?_
    refine V.iconst dX7_macro_16 ⟨by decide, by decide⟩ ?_
    refine V.cV [_] rfl kc_X7_92 rfl dX7_macro_17 (by decide) rfl rfl (sp_X7_fails) (fun _ => ?_)
    exact V.iret (jret_i dX7_macro_20 rfl) ⟨jsm (by unfold jMaR; (repeat' split) <;> first | rfl | omega), by unfold jMaM; (repeat' split) <;> first | rfl | omega⟩
  · refine V.aload_n dX7_macro_8 rfl ?_
    refine V.getI fa_X7_111 (by decide) rfl dX7_macro_9 (fun _ => ?_)
    refine V.if_le (tgt := 21) dX7_macro_12 (by decide) (fun g12 => ?_) (fun g12 => ?_)
    · refine V.aload_n dX7_macro_21 rfl ?_
      refine V.getI fa_X7_89 (by decide) rfl dX7_macro_22 (fun _ => ?_)
      refine V.bipush dX7_macro_25 ⟨by decide, by decide⟩ ?_
      refine V.icmp_eq (tgt := 39) dX7_macro_27 (by decide) (fun g27 => ?_) (fun g27 => ?_)
      · refine V.aload_n dX7_macro_39 rfl ?_
        refine V.iconst dX7_macro_40 ⟨by decide, by decide⟩ ?_
        refine V.cV [_] rfl kc_X7_92 rfl dX7_macro_41 (by decide) rfl rfl (sp_X7_fails) (fun _ => ?_)
        exact V.iret (jret_i dX7_macro_44 rfl) ⟨jsm (by unfold jMaR; (repeat' split) <;> first | rfl | omega), by unfold jMaM; (repeat' split) <;> first | rfl | omega⟩
      · refine V.aload_n dX7_macro_30 rfl ?_
        refine V.getI fa_X7_108 (by decide) rfl dX7_macro_31 (fun _ => ?_)
        refine V.bipush dX7_macro_34 ⟨by decide, by decide⟩ ?_
        refine V.icmp_ne (tgt := 45) dX7_macro_36 (by decide) (fun g36 => ?_) (fun g36 => ?_)
        · refine V.aload_n dX7_macro_45 rfl ?_
          refine V.getR fa_X7_32 rfl dX7_macro_46 ?_
          refine V.aload_n dX7_macro_49 rfl ?_
          refine V.getI fa_X7_108 (by decide) rfl dX7_macro_50 (fun _ => ?_)
          refine V.aload_n dX7_macro_53 rfl ?_
          refine V.getI fa_X7_89 (by decide) rfl dX7_macro_54 (fun _ => ?_)
          refine V.iast (cell := 40) 0 rfl rfl rfl rfl dX7_macro_57 (by omega) (by omega) ?_
          refine V.aload_n dX7_macro_58 rfl ?_
          refine V.aload_n dX7_macro_59 rfl ?_
          refine V.getI fa_X7_108 (by decide) rfl dX7_macro_60 (fun _ => ?_)
          refine V.putI fa_X7_7 (by decide) rfl dX7_macro_63 (Or.inl rfl) ?_
          refine V.aload_n dX7_macro_66 rfl ?_
          refine V.dup dX7_macro_67 rfl ?_
          refine V.getI fa_X7_108 (by decide) rfl dX7_macro_68 (fun _ => ?_)
          refine V.iconst dX7_macro_71 ⟨by decide, by decide⟩ ?_
          refine V.iadd dX7_macro_72 ⟨(by first | omega | (show _ ≤ σ 7 2 + 1; omega) | (show σ 7 2 + 1 ≤ _; omega)), (by first | omega | (show _ ≤ σ 7 2 + 1; omega) | (show σ 7 2 + 1 ≤ _; omega))⟩ ?_
          refine V.putI fa_X7_108 (by decide) rfl dX7_macro_73 (Or.inl rfl) ?_
          refine V.aload_n dX7_macro_76 rfl ?_
          refine V.bipush dX7_macro_77 ⟨by decide, by decide⟩ ?_
          refine V.iconst dX7_macro_79 ⟨by decide, by decide⟩ ?_
          refine V.iconst dX7_macro_80 ⟨by decide, by decide⟩ ?_
          refine V.iconst dX7_macro_81 ⟨by decide, by decide⟩ ?_
          refine V.cV [_, _, _, _] rfl kc_X7_96 rfl dX7_macro_82 (by decide) rfl rfl (sp_X7_adds (σ := jset (jset (jset σ 40 (σ 7 2) (σ 7 1)) 7 3 (σ 7 2)) 7 2 (σ 7 2 + 1)) h0 (show σ 7 1 < 80 by omega)) (fun _ => ?_)
          refine V.pop dX7_macro_85 rfl ?_
          refine V.aload_n dX7_macro_86 rfl ?_
          refine V.getI fa_X7_108 (by decide) rfl dX7_macro_87 (fun _ => ?_)
          refine V.iconst dX7_macro_90 ⟨by decide, by decide⟩ ?_
          refine V.isub dX7_macro_91 ⟨(by first | omega | (show _ ≤ σ 7 2 + 1 - 1; omega) | (show σ 7 2 + 1 - 1 ≤ _; omega)), (by first | omega | (show _ ≤ σ 7 2 + 1 - 1; omega) | (show σ 7 2 + 1 - 1 ≤ _; omega))⟩ ?_
          exact V.iret (jret_i dX7_macro_92 rfl) ⟨jsm (show σ 7 2 + 1 - 1 = _ by unfold jMaR; (repeat' split) <;> omega), by unfold jMaM; (repeat' split) <;> first | rfl | omega⟩
        · refine V.aload_n dX7_macro_39 rfl ?_
          refine V.iconst dX7_macro_40 ⟨by decide, by decide⟩ ?_
          refine V.cV [_] rfl kc_X7_92 rfl dX7_macro_41 (by decide) rfl rfl (sp_X7_fails) (fun _ => ?_)
          exact V.iret (jret_i dX7_macro_44 rfl) ⟨jsm (by unfold jMaR; (repeat' split) <;> first | rfl | omega), by unfold jMaM; (repeat' split) <;> first | rfl | omega⟩
    · refine V.aload_n dX7_macro_15 rfl ?_
      refine V.iconst dX7_macro_16 ⟨by decide, by decide⟩ ?_
      refine V.cV [_] rfl kc_X7_92 rfl dX7_macro_17 (by decide) rfl rfl (sp_X7_fails) (fun _ => ?_)
      exact V.iret (jret_i dX7_macro_20 rfl) ⟨jsm (by unfold jMaR; (repeat' split) <;> first | rfl | omega), by unfold jMaM; (repeat' split) <;> first | rfl | omega⟩
def jEmM (σ : JM) : JM := if σ 7 3 = -1 ∨ 0 < σ 7 4 then jset σ 7 0 1 else if σ 7 1 = 80 then jset σ 7 0 2 else jAds (jset (jset (jset σ 41 (σ 7 3) (σ 7 1)) 38 (σ 40 (σ 7 3)) (σ 7 1)) 7 3 (-1)) 12 0 0 0
def jEmR (σ : JM) : Int := if σ 7 3 = -1 ∨ 0 < σ 7 4 then 0 else if σ 7 1 = 80 then 0 else σ 7 3
theorem sp_X7_endMacro {σ : JM} (h0 : 0 ≤ σ 7 1) (h1 : σ 7 1 ≤ 80) (h2 : σ 7 3 ≠ -1 → (0 ≤ σ 7 3 ∧ σ 7 3 < 8) ∧ 0 ≤ σ 40 (σ 7 3) ∧ σ 40 (σ 7 3) < 80) : JSp mX7_endMacro 1 0 [(2, 7)] σ (jrv (jEmR σ) (jEmM σ)) jno := by
  refine JSp.of [(2, 7), (9, 0)] rfl (by decide +kernel) rfl rfl rfl (fun l E hA => ?_)
  refine V.aload_n dX7_endMacro_0 rfl ?_
  refine V.getI fa_X7_7 (by decide) rfl dX7_endMacro_1 (fun _ => ?_)
  refine V.iconst dX7_endMacro_4 ⟨by decide, by decide⟩ ?_
  refine V.icmp_eq (tgt := 15) dX7_endMacro_5 (by decide) (fun g5 => ?_) (fun g5 => ?_)
  · refine V.aload_n dX7_endMacro_15 rfl ?_
    refine V.iconst dX7_endMacro_16 ⟨by decide, by decide⟩ ?_
    refine V.cV [_] rfl kc_X7_92 rfl dX7_endMacro_17 (by decide) rfl rfl (sp_X7_fails) (fun _ => ?_)
    exact V.iret (jret_i dX7_endMacro_20 rfl) ⟨jsm (by unfold jEmR; (repeat' split) <;> first | rfl | omega), by unfold jEmM; (repeat' split) <;> first | rfl | omega⟩
  · refine V.aload_n dX7_endMacro_8 rfl ?_
    refine V.getI fa_X7_111 (by decide) rfl dX7_endMacro_9 (fun _ => ?_)
    refine V.if_le (tgt := 21) dX7_endMacro_12 (by decide) (fun g12 => ?_) (fun g12 => ?_)
    · refine V.aload_n dX7_endMacro_21 rfl ?_
      refine V.getI fa_X7_89 (by decide) rfl dX7_endMacro_22 (fun _ => ?_)
      refine V.bipush dX7_endMacro_25 ⟨by decide, by decide⟩ ?_
      refine V.icmp_ne (tgt := 36) dX7_endMacro_27 (by decide) (fun g27 => ?_) (fun g27 => ?_)
      · refine V.aload_n dX7_endMacro_36 rfl ?_
        refine V.getI fa_X7_7 (by decide) rfl dX7_endMacro_37 (fun _ => ?_)
        refine V.istore_n (L' := [_, _]) dX7_endMacro_40 rfl rfl ?_
        refine V.aload_n dX7_endMacro_41 rfl ?_
        refine V.getR fa_X7_35 rfl dX7_endMacro_42 ?_
        refine V.iload_n dX7_endMacro_45 rfl ?_
        refine V.aload_n dX7_endMacro_46 rfl ?_
        refine V.getI fa_X7_89 (by decide) rfl dX7_endMacro_47 (fun _ => ?_)
        refine V.iast (cell := 41) 0 rfl rfl rfl rfl dX7_endMacro_50 (h2 g5).1.1 (h2 g5).1.2 ?_
        refine V.aload_n dX7_endMacro_51 rfl ?_
        refine V.getR fa_X7_26 rfl dX7_endMacro_52 ?_
        refine V.aload_n dX7_endMacro_55 rfl ?_
        refine V.getR fa_X7_32 rfl dX7_endMacro_56 ?_
        refine V.iload_n dX7_endMacro_59 rfl ?_
        refine V.iald (cell := 40) 0 rfl rfl rfl rfl dX7_endMacro_60 (h2 g5).1.1 (h2 g5).1.2 (fun _ => ?_)
        refine V.aload_n dX7_endMacro_61 rfl ?_
        refine V.getI fa_X7_89 (by decide) rfl dX7_endMacro_62 (fun _ => ?_)
        refine V.iast (cell := 38) 0 rfl rfl rfl rfl dX7_endMacro_65 (h2 g5).2.1 (h2 g5).2.2 ?_
        refine V.aload_n dX7_endMacro_66 rfl ?_
        refine V.iconst dX7_endMacro_67 ⟨by decide, by decide⟩ ?_
        refine V.putI fa_X7_7 (by decide) rfl dX7_endMacro_68 (Or.inl rfl) ?_
        refine V.aload_n dX7_endMacro_71 rfl ?_
        refine V.bipush dX7_endMacro_72 ⟨by decide, by decide⟩ ?_
        refine V.iconst dX7_endMacro_74 ⟨by decide, by decide⟩ ?_
        refine V.iconst dX7_endMacro_75 ⟨by decide, by decide⟩ ?_
        refine V.iconst dX7_endMacro_76 ⟨by decide, by decide⟩ ?_
        refine V.cV [_, _, _, _] rfl kc_X7_96 rfl dX7_endMacro_77 (by decide) rfl rfl (sp_X7_adds (σ := jset (jset (jset σ 41 (σ 7 3) (σ 7 1)) 38 (σ 40 (σ 7 3)) (σ 7 1)) 7 3 (-1)) h0 (show σ 7 1 < 80 by omega)) (fun _ => ?_)
        refine V.pop dX7_endMacro_80 rfl ?_
        refine V.iload_n dX7_endMacro_81 rfl ?_
        exact V.iret (jret_i dX7_endMacro_82 rfl) ⟨jsm (by unfold jEmR; (repeat' split) <;> first | rfl | omega), by unfold jEmM; (repeat' split) <;> first | rfl | omega⟩
      · refine V.aload_n dX7_endMacro_30 rfl ?_
        refine V.iconst dX7_endMacro_31 ⟨by decide, by decide⟩ ?_
        refine V.cV [_] rfl kc_X7_92 rfl dX7_endMacro_32 (by decide) rfl rfl (sp_X7_fails) (fun _ => ?_)
        exact V.iret (jret_i dX7_endMacro_35 rfl) ⟨jsm (by unfold jEmR; (repeat' split) <;> first | rfl | omega), by unfold jEmM; (repeat' split) <;> first | rfl | omega⟩
    · refine V.aload_n dX7_endMacro_15 rfl ?_
      refine V.iconst dX7_endMacro_16 ⟨by decide, by decide⟩ ?_
      refine V.cV [_] rfl kc_X7_92 rfl dX7_endMacro_17 (by decide) rfl rfl (sp_X7_fails) (fun _ => ?_)
      exact V.iret (jret_i dX7_endMacro_20 rfl) ⟨jsm (by unfold jEmR; (repeat' split) <;> first | rfl | omega), by unfold jEmM; (repeat' split) <;> first | rfl | omega⟩
def jClM (σ : JM) : JM := jset (jset (jset (jset (jset σ 7 0 0) 7 1 0) 7 2 0) 7 3 (-1)) 7 4 0
theorem sp_X7_clear {σ : JM} : JSp mX7_clear 0 0 [(2, 7)] σ (jrv (σ 7 1) (jClM σ)) jno := by
  refine JSp.of [(2, 7), (9, 0)] rfl (by decide +kernel) rfl rfl rfl (fun l E hA => ?_)
  refine V.aload_n dX7_clear_0 rfl ?_
  refine V.iconst dX7_clear_1 ⟨by decide, by decide⟩ ?_
  refine V.putI fa_X7_82 (by decide) rfl dX7_clear_2 (Or.inl rfl) ?_
  refine V.aload_n dX7_clear_5 rfl ?_
  refine V.getI fa_X7_89 (by decide) rfl dX7_clear_6 (fun _ => ?_)
  refine V.istore_n (L' := [_, _]) dX7_clear_9 rfl rfl ?_
  refine V.aload_n dX7_clear_10 rfl ?_
  refine V.iconst dX7_clear_11 ⟨by decide, by decide⟩ ?_
  refine V.putI fa_X7_89 (by decide) rfl dX7_clear_12 (Or.inl rfl) ?_
  refine V.aload_n dX7_clear_15 rfl ?_
  refine V.iconst dX7_clear_16 ⟨by decide, by decide⟩ ?_
  refine V.putI fa_X7_108 (by decide) rfl dX7_clear_17 (Or.inl rfl) ?_
  refine V.aload_n dX7_clear_20 rfl ?_
  refine V.iconst dX7_clear_21 ⟨by decide, by decide⟩ ?_
  refine V.putI fa_X7_7 (by decide) rfl dX7_clear_22 (Or.inl rfl) ?_
  refine V.aload_n dX7_clear_25 rfl ?_
  refine V.iconst dX7_clear_26 ⟨by decide, by decide⟩ ?_
  refine V.putI fa_X7_111 (by decide) rfl dX7_clear_27 (Or.inl rfl) ?_
  refine V.iload_n dX7_clear_30 rfl ?_
  exact V.iret (jret_i dX7_clear_31 rfl) ⟨rfl, rfl⟩
theorem sp_X7_lines {σ : JM} : JSp mX7_lines 0 0 [(2, 7)] σ (jrv (σ 7 1) (jset σ 7 0 0)) jno := by
  refine JSp.of [(2, 7)] rfl (by decide +kernel) rfl rfl rfl (fun l E hA => ?_)
  refine V.aload_n dX7_lines_0 rfl ?_
  refine V.iconst dX7_lines_1 ⟨by decide, by decide⟩ ?_
  refine V.putI fa_X7_82 (by decide) rfl dX7_lines_2 (Or.inl rfl) ?_
  refine V.aload_n dX7_lines_5 rfl ?_
  refine V.getI fa_X7_89 (by decide) rfl dX7_lines_6 (fun _ => ?_)
  exact V.iret (jret_i dX7_lines_9 rfl) ⟨rfl, rfl⟩
theorem sp_X7_macros {σ : JM} : JSp mX7_macros 0 0 [(2, 7)] σ (jrv (σ 7 2) (jset σ 7 0 0)) jno := by
  refine JSp.of [(2, 7)] rfl (by decide +kernel) rfl rfl rfl (fun l E hA => ?_)
  refine V.aload_n dX7_macros_0 rfl ?_
  refine V.iconst dX7_macros_1 ⟨by decide, by decide⟩ ?_
  refine V.putI fa_X7_82 (by decide) rfl dX7_macros_2 (Or.inl rfl) ?_
  refine V.aload_n dX7_macros_5 rfl ?_
  refine V.getI fa_X7_108 (by decide) rfl dX7_macros_6 (fun _ => ?_)
  exact V.iret (jret_i dX7_macros_9 rfl) ⟨rfl, rfl⟩
