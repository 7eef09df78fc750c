theorem sp_X7_assembleB {σ : JM} (hb : jbad σ) (hg : 0 ≤ σ 7 4 ∧ σ 7 4 ≤ 80) (hm : -1 ≤ σ 7 3 ∧ σ 7 3 < 8) : JSp mX7_assemble 85 0 [(2, 7)] σ (jrv (-1) (jstp (jm0 σ) 98 (jmBl σ))) jno := by
  have e4 : jm0 σ 7 4 = σ 7 4 := rfl
  have e3 : jm0 σ 7 3 = σ 7 3 := rfl
  refine JSp.of [(2, 7), (9, 0), (9, 0), (9, 0), (9, 0)] rfl (by decide +kernel) rfl rfl rfl (fun l E hA => ?_)
  refine V.aload_n dX7_assemble_0 rfl ?_
  refine V.iconst dX7_assemble_1 ⟨by decide, by decide⟩ ?_
  refine V.putI fa_X7_82 (by decide) rfl dX7_assemble_2 (Or.inl rfl) ?_
  refine V.aload_n dX7_assemble_5 rfl ?_
  refine V.iconst dX7_assemble_6 ⟨by decide, by decide⟩ ?_
  refine V.putI fa_X7_175 (by decide) rfl dX7_assemble_7 (Or.inr (by first | exact Or.inl rfl | exact Or.inr rfl)) ?_
  refine V.aload_n dX7_assemble_10 rfl ?_
  refine V.bipush dX7_assemble_11 ⟨by decide, by decide⟩ ?_
  refine V.putI fa_X7_38 (by decide) rfl dX7_assemble_13 (Or.inr ⟨by decide, by decide⟩) ?_
  refine V.aload_n dX7_assemble_16 rfl ?_
  refine V.iconst dX7_assemble_17 ⟨by decide, by decide⟩ ?_
  refine V.putI fa_X7_124 (by decide) rfl dX7_assemble_18 (Or.inl rfl) ?_
  refine V.aload_n dX7_assemble_21 rfl ?_
  refine V.iconst dX7_assemble_22 ⟨by decide, by decide⟩ ?_
  refine V.putI fa_X7_121 (by decide) rfl dX7_assemble_23 (Or.inl rfl) ?_
  refine V.aload_n dX7_assemble_26 rfl ?_
  refine V.iconst dX7_assemble_27 ⟨by decide, by decide⟩ ?_
  refine V.putI fa_X7_137 (by decide) rfl dX7_assemble_28 (Or.inl rfl) ?_
  refine V.aload_n dX7_assemble_31 rfl ?_
  refine V.iconst dX7_assemble_32 ⟨by decide, by decide⟩ ?_
  refine V.putI fa_X7_179 (by decide) rfl dX7_assemble_33 (Or.inl rfl) ?_
  refine V.aload_n dX7_assemble_36 rfl ?_
  refine V.iconst dX7_assemble_37 ⟨by decide, by decide⟩ ?_
  refine V.putI fa_X7_162 (by decide) rfl dX7_assemble_38 (Or.inl rfl) ?_
  rw [show jset (jset (jset (jset (jset (jset (jset (jset σ 7 0 0) 7 13 1) 7 14 110) 7 16 0) 7 17 0) 7 18 0) 7 20 0) 7 19 0 = jm0 σ from rfl]
  refine V.aload_n dX7_assemble_41 rfl ?_
  refine V.getI fa_X7_111 (by decide) rfl dX7_assemble_42 (fun _ => ?_)
  rw [e4]
  refine V.if_ne (tgt := 56) dX7_assemble_45 (by decide) (fun h45 => ?_) (fun h45 => ?_)
  · refine V.aload_n dX7_assemble_56 rfl ?_
    refine V.bipush dX7_assemble_57 ⟨by decide, by decide⟩ ?_
    refine V.aload_n dX7_assemble_59 rfl ?_
    refine V.getI fa_X7_111 (by decide) rfl dX7_assemble_60 (fun _ => ?_)
    rw [e4]
    refine V.if_le (tgt := 80) dX7_assemble_63 (by decide) (fun h63 => ?_) (fun h63 => ?_)
    · refine V.aload_n dX7_assemble_80 rfl ?_
      refine V.getR fa_X7_32 rfl dX7_assemble_81 ?_
      refine V.aload_n dX7_assemble_84 rfl ?_
      refine V.getI fa_X7_7 (by decide) rfl dX7_assemble_85 (fun _ => ?_)
      rw [e3]
      refine V.iald (cell := 40) 0 rfl rfl rfl rfl dX7_assemble_88 (by unfold jbad at hb; omega) (by omega) (fun _ => ?_)
      rw [jm0_kp σ 40 _ (by omega)]
      refine V.cV [_, _] rfl kc_X7_130 rfl dX7_assemble_89 (by decide) rfl rfl (sp_X7_stops (by decide)) (fun _ => ?_)
      refine V.if_eq (tgt := 99) dX7_assemble_92 (by decide) (fun hh => ?_) (fun hh => ?_)
      · refine V.iconst dX7_assemble_99 ⟨by decide, by decide⟩ ?_
        refine V.istore_n (L' := [_, _, _, _, _]) dX7_assemble_100 rfl rfl ?_
        refine V.iload_n dX7_assemble_101 rfl ?_
        refine V.if_eq (tgt := 138) dX7_assemble_102 (by decide) (fun hh => ?_) (fun hh => ?_)
        · refine V.iconst dX7_assemble_138 ⟨by decide, by decide⟩ ?_
          refine V.istore_n (L' := [_, _, _, _, _]) dX7_assemble_139 rfl rfl ?_
          refine V.iload_n dX7_assemble_140 rfl ?_
          refine V.if_ne (tgt := 146) dX7_assemble_141 (by decide) (fun hh => ?_) (fun hh => ?_)
          · exact absurd rfl hh
          · refine V.iconst dX7_assemble_144 ⟨by decide, by decide⟩ ?_
            exact V.iret (jret_i dX7_assemble_145 rfl) ⟨rfl, by unfold jmBl; first | (exfalso; omega) | rw [if_pos h63] | rw [if_neg h63] | rw [if_pos (by omega)] | rw [if_neg (by omega)]⟩
        · exact absurd rfl hh
      · exact absurd rfl hh
    · refine V.aload_n dX7_assemble_66 rfl ?_
      refine V.getR fa_X7_29 rfl dX7_assemble_67 ?_
      refine V.aload_n dX7_assemble_70 rfl ?_
      refine V.getI fa_X7_111 (by decide) rfl dX7_assemble_71 (fun _ => ?_)
      rw [e4]
      refine V.iconst dX7_assemble_74 ⟨by decide, by decide⟩ ?_
      refine V.isub dX7_assemble_75 ⟨(by omega), (by omega)⟩ ?_
      refine V.iald (cell := 39) 0 rfl rfl rfl rfl dX7_assemble_76 (by omega) (by omega) (fun _ => ?_)
      rw [jm0_kp σ 39 _ (by omega)]
      refine V.goto (tgt := 89) dX7_assemble_77 (by decide) ?_
      refine V.cV [_, _] rfl kc_X7_130 rfl dX7_assemble_89 (by decide) rfl rfl (sp_X7_stops (by decide)) (fun _ => ?_)
      refine V.if_eq (tgt := 99) dX7_assemble_92 (by decide) (fun hh => ?_) (fun hh => ?_)
      · refine V.iconst dX7_assemble_99 ⟨by decide, by decide⟩ ?_
        refine V.istore_n (L' := [_, _, _, _, _]) dX7_assemble_100 rfl rfl ?_
        refine V.iload_n dX7_assemble_101 rfl ?_
        refine V.if_eq (tgt := 138) dX7_assemble_102 (by decide) (fun hh => ?_) (fun hh => ?_)
        · refine V.iconst dX7_assemble_138 ⟨by decide, by decide⟩ ?_
          refine V.istore_n (L' := [_, _, _, _, _]) dX7_assemble_139 rfl rfl ?_
          refine V.iload_n dX7_assemble_140 rfl ?_
          refine V.if_ne (tgt := 146) dX7_assemble_141 (by decide) (fun hh => ?_) (fun hh => ?_)
          · exact absurd rfl hh
          · refine V.iconst dX7_assemble_144 ⟨by decide, by decide⟩ ?_
            exact V.iret (jret_i dX7_assemble_145 rfl) ⟨rfl, by unfold jmBl; first | (exfalso; omega) | rw [if_pos h63] | rw [if_neg h63] | rw [if_pos (by omega)] | rw [if_neg (by omega)]⟩
        · exact absurd rfl hh
      · exact absurd rfl hh
  · refine V.aload_n dX7_assemble_48 rfl ?_
    refine V.getI fa_X7_7 (by decide) rfl dX7_assemble_49 (fun _ => ?_)
    rw [e3]
    refine V.iconst dX7_assemble_52 ⟨by decide, by decide⟩ ?_
    refine V.icmp_eq (tgt := 95) dX7_assemble_53 (by decide) (fun h53 => ?_) (fun h53 => ?_)
    · exfalso; unfold jbad at hb; omega
    · refine V.aload_n dX7_assemble_56 rfl ?_
      refine V.bipush dX7_assemble_57 ⟨by decide, by decide⟩ ?_
      refine V.aload_n dX7_assemble_59 rfl ?_
      refine V.getI fa_X7_111 (by decide) rfl dX7_assemble_60 (fun _ => ?_)
      rw [e4]
      refine V.if_le (tgt := 80) dX7_assemble_63 (by decide) (fun h63 => ?_) (fun h63 => ?_)
      · refine V.aload_n dX7_assemble_80 rfl ?_
        refine V.getR fa_X7_32 rfl dX7_assemble_81 ?_
        refine V.aload_n dX7_assemble_84 rfl ?_
        refine V.getI fa_X7_7 (by decide) rfl dX7_assemble_85 (fun _ => ?_)
        rw [e3]
        refine V.iald (cell := 40) 0 rfl rfl rfl rfl dX7_assemble_88 (by unfold jbad at hb; omega) (by omega) (fun _ => ?_)
        rw [jm0_kp σ 40 _ (by omega)]
        refine V.cV [_, _] rfl kc_X7_130 rfl dX7_assemble_89 (by decide) rfl rfl (sp_X7_stops (by decide)) (fun _ => ?_)
        refine V.if_eq (tgt := 99) dX7_assemble_92 (by decide) (fun hh => ?_) (fun hh => ?_)
        · refine V.iconst dX7_assemble_99 ⟨by decide, by decide⟩ ?_
          refine V.istore_n (L' := [_, _, _, _, _]) dX7_assemble_100 rfl rfl ?_
          refine V.iload_n dX7_assemble_101 rfl ?_
          refine V.if_eq (tgt := 138) dX7_assemble_102 (by decide) (fun hh => ?_) (fun hh => ?_)
          · refine V.iconst dX7_assemble_138 ⟨by decide, by decide⟩ ?_
            refine V.istore_n (L' := [_, _, _, _, _]) dX7_assemble_139 rfl rfl ?_
            refine V.iload_n dX7_assemble_140 rfl ?_
            refine V.if_ne (tgt := 146) dX7_assemble_141 (by decide) (fun hh => ?_) (fun hh => ?_)
            · exact absurd rfl hh
            · refine V.iconst dX7_assemble_144 ⟨by decide, by decide⟩ ?_
              exact V.iret (jret_i dX7_assemble_145 rfl) ⟨rfl, by unfold jmBl; first | (exfalso; omega) | rw [if_pos h63] | rw [if_neg h63] | rw [if_pos (by omega)] | rw [if_neg (by omega)]⟩
          · exact absurd rfl hh
        · exact absurd rfl hh
      · refine V.aload_n dX7_assemble_66 rfl ?_
        refine V.getR fa_X7_29 rfl dX7_assemble_67 ?_
        refine V.aload_n dX7_assemble_70 rfl ?_
        refine V.getI fa_X7_111 (by decide) rfl dX7_assemble_71 (fun _ => ?_)
        rw [e4]
        refine V.iconst dX7_assemble_74 ⟨by decide, by decide⟩ ?_
        refine V.isub dX7_assemble_75 ⟨(by omega), (by omega)⟩ ?_
        refine V.iald (cell := 39) 0 rfl rfl rfl rfl dX7_assemble_76 (by omega) (by omega) (fun _ => ?_)
        rw [jm0_kp σ 39 _ (by omega)]
        refine V.goto (tgt := 89) dX7_assemble_77 (by decide) ?_
        refine V.cV [_, _] rfl kc_X7_130 rfl dX7_assemble_89 (by decide) rfl rfl (sp_X7_stops (by decide)) (fun _ => ?_)
        refine V.if_eq (tgt := 99) dX7_assemble_92 (by decide) (fun hh => ?_) (fun hh => ?_)
        · refine V.iconst dX7_assemble_99 ⟨by decide, by decide⟩ ?_
          refine V.istore_n (L' := [_, _, _, _, _]) dX7_assemble_100 rfl rfl ?_
          refine V.iload_n dX7_assemble_101 rfl ?_
          refine V.if_eq (tgt := 138) dX7_assemble_102 (by decide) (fun hh => ?_) (fun hh => ?_)
          · refine V.iconst dX7_assemble_138 ⟨by decide, by decide⟩ ?_
            refine V.istore_n (L' := [_, _, _, _, _]) dX7_assemble_139 rfl rfl ?_
            refine V.iload_n dX7_assemble_140 rfl ?_
            refine V.if_ne (tgt := 146) dX7_assemble_141 (by decide) (fun hh => ?_) (fun hh => ?_)
            · exact absurd rfl hh
            · refine V.iconst dX7_assemble_144 ⟨by decide, by decide⟩ ?_
              exact V.iret (jret_i dX7_assemble_145 rfl) ⟨rfl, by unfold jmBl; first | (exfalso; omega) | rw [if_pos h63] | rw [if_neg h63] | rw [if_pos (by omega)] | rw [if_neg (by omega)]⟩
          · exact absurd rfl hh
        · exact absurd rfl hh
theorem sp_X7_itemsByCountingB {σ : JM} (hb : jbad σ) (hg : 0 ≤ σ 7 4) : JSp mX7_itemsByCounting 85 0 [(2, 7)] σ (jrl 0 (jq σ 1)) jno := by
  refine JSp.of [(2, 7), (9, 0)] rfl (by decide +kernel) rfl rfl rfl (fun l E hA => ?_)
  refine V.aload_n dX7_itemsByCounting_0 rfl ?_
  refine V.getI fa_X7_111 (by decide) rfl dX7_itemsByCounting_1 (fun _ => ?_)
  refine V.if_gt (tgt := 15) dX7_itemsByCounting_4 (by decide) (fun h4 => ?_) (fun h4 => ?_)
  · refine V.aload_n dX7_itemsByCounting_15 rfl ?_
    refine V.iconst dX7_itemsByCounting_16 ⟨by decide, by decide⟩ ?_
    refine V.cV [_] rfl kc_X7_92 rfl dX7_itemsByCounting_17 (by decide) rfl rfl (sp_X7_fails) (fun _ => ?_)
    refine V.i2l dX7_itemsByCounting_20 ?_
    exact V.lret (jret_l dX7_itemsByCounting_21 rfl) ⟨rfl, rfl⟩
  · refine V.aload_n dX7_itemsByCounting_7 rfl ?_
    refine V.getI fa_X7_7 (by decide) rfl dX7_itemsByCounting_8 (fun _ => ?_)
    refine V.iconst dX7_itemsByCounting_11 ⟨by decide, by decide⟩ ?_
    refine V.icmp_eq (tgt := 22) dX7_itemsByCounting_12 (by decide) (fun h12 => ?_) (fun h12 => ?_)
    · exfalso; unfold jbad at hb; omega
    · refine V.aload_n dX7_itemsByCounting_15 rfl ?_
      refine V.iconst dX7_itemsByCounting_16 ⟨by decide, by decide⟩ ?_
      refine V.cV [_] rfl kc_X7_92 rfl dX7_itemsByCounting_17 (by decide) rfl rfl (sp_X7_fails) (fun _ => ?_)
      refine V.i2l dX7_itemsByCounting_20 ?_
      exact V.lret (jret_l dX7_itemsByCounting_21 rfl) ⟨rfl, rfl⟩
theorem jLst.ss {σ : JM} (L : jLst σ) : 0 ≤ jsum (jju σ 0) (σ 7 16) ∧ 0 ≤ jsum (jju σ 1) (σ 7 16) ∧ jsum (jju σ 1) (σ 7 16) + jsum (jju σ 0) (σ 7 16) ≤ 200 := by
  have n := L.1
  have a := jju_s σ 0 n.1
  have b := jju_s σ 1 n.1
  have c := jju_2 (σ := σ) n.1
  omega
/-- a call of the law whose answer is a quotient -/
def jOQ (mL mX : JI) (tag : Nat) (cv : Int → Int) (g : Int) (σ : JM) : Prop := ∃ dL dX : Nat, dL < 100 ∧ dX < 100 ∧ ∃ QL, JSpH mL dL 1 [(2, 0), (2, 56)] σ QL jno ∧ ∀ v τ, QL v τ → ∃ k, v = some (0, k) ∧ ∃ QM, JSp mX dX 0 [(2, 7)] τ QM jno ∧ ∀ w ρ, QM w ρ → ∃ b, w = some (tag, b) ∧ ρ 7 0 = k ∧ (k = 0 → ρ 56 0 = cv b ∧ jgd (cv b)) ∧ jINV g ρ
theorem jOQ.ok {mL mX : JI} {tag : Nat} {cv : Int → Int} {g k b : Int} {σ τ ρ : JM} {dL dX : Nat} {QL QM : Option JV → JM → Prop} (h1 : dL < 100) (h2 : dX < 100) (hL : JSpH mL dL 1 [(2, 0), (2, 56)] σ QL jno) (hq : ∀ v t, QL v t → v = some (0, k) ∧ t = τ) (hX : JSp mX dX 0 [(2, 7)] τ QM jno) (hm : ∀ w t, QM w t → w = some (tag, b) ∧ t = ρ) (h0 : ρ 7 0 = k) (ho : k = 0 → ρ 56 0 = cv b ∧ jgd (cv b)) (hI : jINV g ρ) : jOQ mL mX tag cv g σ :=
  ⟨dL, dX, h1, h2, QL, hL, fun v t q => by
    obtain ⟨rfl, rfl⟩ := hq v t q
    exact ⟨k, rfl, _, hX, fun w r q2 => by
      obtain ⟨rfl, rfl⟩ := hm w r q2
      exact ⟨b, rfl, h0, ho, hI⟩⟩⟩
theorem lq_ss {R : Int} {σ : JM} {v : Option JV} {t : JM} (h : jLQ_shortShare (fun v t => v = some (4, R) ∧ t = σ) jno v t) : v = some (0, 0) ∧ t = jset σ 56 0 (jcvf R) := by
  rcases h with ⟨r2, t2, ⟨h1, h2⟩, h3, h4⟩ | h | h
  · cases h1; subst h2; exact ⟨h3, h4⟩
  · exact h.1.elim
  · exact h.1.elim
theorem lq_mw {R : Int} {σ : JM} {v : Option JV} {t : JM} (h : jLQ_meanWord (fun v t => v = some (5, R) ∧ t = σ) jno v t) : v = some (0, 0) ∧ t = jset σ 56 0 R := by
  rcases h with ⟨r2, t2, ⟨h1, h2⟩, h3, h4⟩ | h | h
  · cases h1; subst h2; exact ⟨h3, h4⟩
  · exact h.1.elim
  · exact h.1.elim
theorem op_shortShare {g : Int} {σ : JM} (h : jINV g σ) : jOQ mL_shortShare mX7_shortShare 4 jcvf g σ := by
  have B := h.2.2.2.2.1
  rcases h.2.2.2.2.st with ⟨h9, hT, L⟩ | ⟨h9, hT⟩
  · have cn := L.cn
    have ss := L.ss
    have n := L.1
    have e26 := L.2.1.1
    by_cases hz : jsum (jju σ 1) (σ 7 16) + jsum (jju σ 0) (σ 7 16) = 0
    · have hc : jcS σ = 2 := by unfold jcS; rw [if_neg (by omega), if_pos hz]
      refine jOQ.ok (b := 0) (ρ := jset σ 7 0 2) (by decide) (by decide) (sp_L_shortShare (Nat.le_refl 1) (sp_X6_shortShareA h9 (by omega) (by rw [cn.1, cn.2]; omega)) (fun v t q => q.elim) (fun X t q => Or.inr q.1) (fun r t q => q.elim)) (fun v t q => lq_shortShare_2 q) (sp_X7_shortShare (σ := σ) B.1) (fun w t q => ?_) rfl (fun q => absurd q (by decide)) (h.q 2)
      rw [hc] at q; exact ⟨q.1.trans (by rw [if_neg (by decide)]), q.2⟩
    · have hc : ∀ r, jcS (jset σ 56 0 r) = 0 := fun r => by
        show jcS σ = 0
        unfold jcS; rw [if_neg (by omega), if_neg hz]
      have ab : 0 ≤ jcnt σ 106 (σ 2 6) ∧ jcnt σ 106 (σ 2 6) ≤ 400 := by rw [cn.2]; omega
      have bb : 0 < jcnt σ 106 (σ 2 6) + jcnt σ 74 (σ 2 6) ∧ jcnt σ 106 (σ 2 6) + jcnt σ 74 (σ 2 6) < 400 := by rw [cn.1, cn.2]; omega
      have gd := f2d_g ab bb
      refine jOQ.ok (b := jFd (jcnt σ 106 (σ 2 6)) (jcnt σ 106 (σ 2 6) + jcnt σ 74 (σ 2 6))) (ρ := jset (jset σ 56 0 (jcvf (jFd (jcnt σ 106 (σ 2 6)) (jcnt σ 106 (σ 2 6) + jcnt σ 74 (σ 2 6))))) 7 0 0) (by decide) (by decide) (sp_L_shortShare (Nat.zero_le 1) (sp_X6_shortShare h9 (by omega) (by omega) bb.2) (fun v t q => ⟨_, q.1⟩) (fun X t q => q.elim) (fun r t q => by have := q.1; cases this; exact gd.2)) (fun v t q => lq_ss q) (sp_X7_shortShare B.1) (fun w t q => ?_) rfl (fun _ => ⟨rfl, gd.1⟩) ((h.oD _).q 0)
      rw [hc] at q
      refine ⟨q.1.trans ?_, q.2⟩
      rw [if_pos rfl, cn.1, cn.2, Int.add_comm (jsum (jju σ 0) (σ 7 16))]
      rfl
  · have hc : jcS σ = 1 := by unfold jcS; rw [if_pos (by omega), hT]
    refine jOQ.ok (b := 0) (ρ := jset σ 7 0 1) (by decide) (by decide) (sp_L_shortShare (Nat.le_refl 1) (sp_X6_shortShareN h9) (fun v t q => q.elim) (fun X t q => Or.inl q.1) (fun r t q => q.elim)) (fun v t q => lq_shortShare_1 q) (sp_X7_shortShare (σ := σ) B.1) (fun w t q => ?_) rfl (fun q => absurd q (by decide)) (h.q 1)
    rw [hc] at q; exact ⟨q.1.trans (by rw [if_neg (by decide)]), q.2⟩
theorem op_meanWord {g : Int} {σ : JM} (h : jINV g σ) : jOQ mL_meanWord mX7_meanWord 5 jid g σ := by
  have B := h.2.2.2.2.1
  rcases h.2.2.2.2.st with ⟨h9, hT, L⟩ | ⟨h9, hT⟩
  · obtain ⟨L1, L2, L3, L4, L5, L6⟩ := L
    by_cases hz : σ 7 19 = 0
    · have hc : jcM σ = 2 := by unfold jcM; rw [if_neg (by omega), if_pos hz]
      refine jOQ.ok (b := 0) (ρ := jset σ 7 0 2) (by decide) (by decide) (sp_L_meanWord (Nat.le_refl 1) (sp_X6_meanWordA h9 (by omega)) (fun v t q => q.elim) (fun X t q => Or.inr q.1)) (fun v t q => lq_meanWord_2 q) (sp_X7_meanWord (σ := σ) B.2.1 B.2.2.2) (fun w t q => ?_) rfl (fun q => absurd q (by decide)) (h.q 2)
      rw [hc] at q; exact ⟨q.1.trans (by rw [if_neg (by decide)]), q.2⟩
    · have hc : ∀ r, jcM (jset σ 56 0 r) = 0 := fun r => by
        show jcM σ = 0
        unfold jcM; rw [if_neg (by omega), if_neg hz]
      have hv : ∀ i, 0 ≤ i → i < σ 5 2 → 0 ≤ σ 29 i ∧ σ 29 i ≤ 100000 := fun i i0 i1 => by
        have := L5 i i0 (by omega)
        omega
      have es : jsum (σ 29) (σ 5 2) = jsum (σ 51) (σ 7 19) := by
        rw [L2.2.2.1]
        exact jsum_c (fun i i0 i1 => (L5 i i0 i1).1)
      have b2 := jsum_le (g := σ 29) (c := 100000) (x := σ 5 2) (by omega) hv
      have gd := ddiv_b (a := jsum (σ 29) (σ 5 2)) (b := σ 5 2) ⟨b2.1, by omega⟩ (by omega)
      refine jOQ.ok (b := jDd (jsum (σ 29) (σ 5 2)) (σ 5 2)) (ρ := jset (jset σ 56 0 (jDd (jsum (σ 29) (σ 5 2)) (σ 5 2))) 7 0 0) (by decide) (by decide) (sp_L_meanWord (Nat.zero_le 1) (sp_X6_meanWord h9 (by omega) (by omega) hv) (fun v t q => ⟨_, q.1⟩) (fun X t q => q.elim)) (fun v t q => lq_mw q) (sp_X7_meanWord B.2.1 B.2.2.2) (fun w t q => ?_) rfl (fun _ => ⟨rfl, gd⟩) ((h.oD _).q 0)
      rw [hc] at q
      refine ⟨q.1.trans ?_, q.2⟩
      rw [if_pos rfl, es, L2.2.2.1]
      rfl
  · have hc : jcM σ = 1 := by unfold jcM; rw [if_pos (by omega), hT]
    refine jOQ.ok (b := 0) (ρ := jset σ 7 0 1) (by decide) (by decide) (sp_L_meanWord (Nat.le_refl 1) (sp_X6_meanWordN h9) (fun v t q => q.elim) (fun X t q => Or.inl q.1)) (fun v t q => lq_meanWord_1 q) (sp_X7_meanWord (σ := σ) B.2.1 B.2.2.2) (fun w t q => ?_) rfl (fun q => absurd q (by decide)) (h.q 1)
    rw [hc] at q; exact ⟨q.1.trans (by rw [if_neg (by decide)]), q.2⟩
/-- counting keeps the coupling -/
theorem jcn_rows {σ τ : JM} (S : jSrc σ) (hg : σ 7 4 = 0) (hm : σ 1 10 = 0) (e : ∀ a b, (34 ≤ a ∧ a ≤ 41) → τ a b = σ a b) (n : Nat) (x to p q : Int) (x0 : 0 ≤ x) (ht : to ≤ σ 7 1) (w : jHs σ x to) : jcn n τ x to p q = jcn n σ x to p q :=
  jcn_sg S (fun a ha y _ _ => e a y (by omega)) (fun y _ _ _ => e 38 y (by omega)) (fun m _ _ => ⟨e 40 m (by omega), e 41 m (by omega)⟩) n x to p q x0 ht w
theorem jSrc.all {σ : JM} (S : jSrc σ) (hg : σ 7 4 = 0) (hm : σ 1 10 = 0) : jHs σ 0 (σ 7 1) := by
  refine ⟨fun y y0 y1 o => ?_, fun y y0 y1 o => ?_⟩
  · have no := jSrc.no hg hm y
    exact ⟨no, (S.op y y0 y1 o no).1.2.1⟩
  · obtain ⟨z, a, b, c, d⟩ := S.cl y y0 y1 o
    exact ⟨z, a.1, a.2, b, d⟩
theorem jINV.cnt {g : Int} {σ t : JM} (h : jINV g σ) (hg : σ 7 4 = 0) (hm : σ 1 10 = 0) (k : jck σ t) (i : jcmo σ t) : jINV g t := by
  obtain ⟨h1, h2, h3, h4, h5⟩ := h
  have K := (⟨h1, h2, h3, h4, h5⟩ : jINV g σ)
  have e : ∀ a b, ¬ (31 ≤ a ∧ a ≤ 33) → t a b = σ a b := k
  -- t with the old kept counts
  obtain ⟨t2, ht2⟩ : ∃ t2 : JM, (fun a b => if a = 32 ∨ a = 33 then σ a b else t a b) = t2 := ⟨_, rfl⟩
  have q2 : ∀ a b, ¬ (a = 32 ∨ a = 33) → t2 a b = t a b := fun a b z => by rw [← ht2]; exact if_neg z
  have q3 : ∀ a b, (a = 32 ∨ a = 33) → t2 a b = σ a b := fun a b z => by rw [← ht2]; exact if_pos z
  have K2 : jINV g t2 := jINV.keep K (fun a b z => by
    by_cases y : a = 32 ∨ a = 33
    · exact q3 a b y
    · rw [q2 a b y]; exact e a b (by omega))
  obtain ⟨k1, k2, k3, k4, k5⟩ := K2
  have S : jSrc t := by
    unfold jSrc jopn jcld jl1 jln at k1 ⊢
    have r : ∀ a : Nat, ((8 ≤ a ∧ a ≤ 14) ∨ (34 ≤ a ∧ a ≤ 41)) → t2 a = t a := fun a ha => funext fun b => q2 a b (by omega)
    rw [q2 1 7 (by omega), q2 1 8 (by omega), q2 1 9 (by omega), q2 1 10 (by omega), q2 7 1 (by omega), q2 7 2 (by omega), q2 7 3 (by omega), q2 7 4 (by omega), r 8 (by decide), r 9 (by decide), r 10 (by decide), r 11 (by decide), r 12 (by decide), r 13 (by decide), r 14 (by decide), r 34 (by decide), r 35 (by decide), r 36 (by decide), r 37 (by decide), r 38 (by decide), r 39 (by decide), r 40 (by decide), r 41 (by decide)] at k1
    exact k1
  refine ⟨S, fun j j0 j1 => ?_, ?_, ?_, k5.c (fun a b hab => (q2 a b (by omega)).symm)⟩
  · obtain ⟨g1, g2⟩ := i j j0 j1
    rw [e 6 4 (by omega), e 7 2 (by omega), e 1 10 (by omega)]
    refine ⟨g1, fun m a b m0 a0 b0 z => ?_⟩
    obtain ⟨y1, y2⟩ := g2 m a b m0 a0 b0 z
    have me := h1.me m m0.1 (by omega)
    have mm := h1.mm m m0.1 y1
    have ej : jcm t m a b = jcm σ m a b := by
      unfold jcm
      rw [e 40 m (by omega), e 41 m (by omega)]
      exact jcn_rows h1 hg hm (fun a b hab => e a b (by omega)) _ _ _ _ _ (by omega) (by omega) (jHs.mac h1 m0.1 (by omega))
    rw [ej]
    exact ⟨by omega, y2⟩
  · unfold jar0 at k3 ⊢
    rw [q2 27 0 (by omega), q2 27 1 (by omega), q2 28 0 (by omega), q2 28 1 (by omega)] at k3
    exact k3
  · rw [q2 6 4 (by omega)] at k4; exact k4
theorem op_itemsByCounting {g : Int} {σ : JM} (h : jINV g σ) (hg : g ≤ 100000) : jOF mL_itemsByCounting mX7_itemsByCounting 1 55 jid [(2, 0), (2, 55)] [(2, 7)] g σ := by
  have S := h.1
  have a1 := S.a1
  have a2 := S.a2
  have u := S.unf
  have g4 := h.2.2.2.1
  by_cases hb : jbad σ
  · refine ⟨32, 85, by decide, by decide, _, sp_L_itemsByCounting (Nat.le_refl 1) (sp_X6_itemsByCountingX (by omega) (by omega) (fun q => u.2.1.mp hb (u.1.mp q))) (fun v t q => q.elim) (fun X t q => Or.inl q.1), fun v τ q => ?_⟩
    obtain ⟨rfl, rfl⟩ := lq_itemsByCounting_1 q
    exact ⟨1, rfl, _, sp_X7_itemsByCountingB hb (by omega), fun w ρ q2 => by
      obtain ⟨rfl, rfl⟩ := q2
      exact ⟨0, rfl, rfl, fun q => absurd q (by decide), h.q 1⟩⟩
  · have nb := Decidable.not_not.mp (fun q => hb (u.2.1.mpr q))
    have hs := S.sc nb.1 nb.2
    have hw := S.wf nb.1 nb.2
    have ln := hw.ln
    refine ⟨32, 85, by decide, by decide, _, sp_L_itemsByCounting (Nat.le_refl 1) (sp_X6_itemsByCounting (by omega) (by omega) (u.1.mpr nb) hs hw (by omega) (h.2.1.mo nb.2)) (fun v t q => ⟨_, q.2.2⟩) (fun X t q => Or.inr q.1), fun v τ q => ?_⟩
    -- the memory behind the class's counting
    have ref : ∀ (t τ : JM), jck σ t → (∀ a b, a ≠ 55 → τ a b = t a b) → jwf τ ∧ ¬ jbad τ ∧ jcn 7000 τ 0 (τ 7 1) 0 0 = jcn 7000 σ 0 (σ 7 1) 0 0 := fun t τ k ht => by
      have e : ∀ a b, ¬ (31 ≤ a ∧ a ≤ 33) → a ≠ 55 → τ a b = σ a b := fun a b z y => by rw [ht a b y]; exact k a b z
      refine ⟨hw.c (fun a b hab => e a b (by omega) (by omega)), ?_, ?_⟩
      · unfold jbad at hb ⊢
        rw [e 7 4 (by omega) (by omega), e 7 3 (by omega) (by omega)]; exact hb
      · rw [e 7 1 (by omega) (by omega)]
        exact jcn_rows S nb.1 nb.2 (fun a b hab => e a b (by omega) (by omega)) _ _ _ _ _ (by omega) (by omega) (S.all nb.1 nb.2)
    rcases q with ⟨r, t, ⟨⟨k1, k2⟩, q1, q2⟩, rfl, rfl⟩ | ⟨q1, -⟩ | ⟨⟨-, ⟨k1, k2⟩, q1⟩, rfl⟩
    · have R := ref t (jset t 55 0 r) k1 (fun a b z => jset_nk _ z _ _ _)
      have I := (h.cnt nb.1 nb.2 k1 k2).o r
      refine ⟨0, rfl, _, sp_X7_itemsByCounting R.1 (by show 0 ≤ t 7 4; rw [k1 7 4 (by omega)]; omega), fun w ρ q3 => ?_⟩
      rcases q3 with ⟨z, -⟩ | ⟨-, z1, z2⟩
      · exact absurd z R.2.1
      · rw [R.2.2] at z2
        rcases z2 with ⟨y1, -⟩ | ⟨y1, y2, y3⟩
        · exact absurd y1 q1
        · refine ⟨_, y2, y3, fun _ => ?_, I.keep (fun a b hab => z1 a b (by omega) (by omega) (by omega))⟩
          rw [z1 55 0 (by decide) (by decide) (by omega), jset_eq, jM6_min]
          cases q2; rfl
    · exact absurd q1.1 (by decide)
    · have R := ref τ τ k1 (fun a b z => rfl)
      have I := h.cnt nb.1 nb.2 k1 k2
      refine ⟨2, rfl, _, sp_X7_itemsByCounting R.1 (by rw [k1 7 4 (by omega)]; omega), fun w ρ q3 => ?_⟩
      rcases q3 with ⟨z, -⟩ | ⟨-, z1, z2⟩
      · exact absurd z R.2.1
      · rw [R.2.2] at z2
        rcases z2 with ⟨y1, y2, y3⟩ | ⟨y1, -⟩
        · exact ⟨_, y2, y3, fun q => absurd q (by decide), I.keep (fun a b hab => z1 a b (by omega) (by omega) (by omega))⟩
        · exact absurd q1 y1
