theorem jsm {a b : Int} (h : a = b) : (some ((0 : Nat), a) : Option JV) = some (0, b) := by rw [h]
/-- row.length is looked at first -/
theorem sp_X6_at {σ : JM} {q x : Int} {N : Nat} (hsh : jsh q.toNat = (0, N, [])) (hlt : Nat.blt q.toNat 34 = true) (hN : Nat.blt N 2147483648 = true) : JSp mX6_at 0 0 [(2, q), (0, x)] σ (jrv (jat σ q.toNat N x) σ) jno := by
  refine JSp.of [(2, q), (0, x)] rfl (by decide +kernel) rfl rfl rfl (fun l E hA => ?_)
  refine V.iload_n dX6_at_0 rfl ?_
  refine V.if_lt (tgt := 16) dX6_at_1 (by decide) (fun h1 => ?_) (fun h1 => ?_)
  · refine V.iconst dX6_at_16 ⟨by decide, by decide⟩ ?_
    exact V.iret (jret_i dX6_at_17 rfl) ⟨jsm (by unfold jat; split <;> first | rfl | omega), rfl⟩
  · refine V.iload_n dX6_at_4 rfl ?_
    refine V.aload_n dX6_at_5 rfl ?_
    refine V.alen (cell := q.toNat) 0 rfl hsh hlt hN dX6_at_6 ?_
    refine V.icmp_ge (tgt := 16) dX6_at_7 (by decide) (fun h7 => ?_) (fun h7 => ?_)
    · refine V.iconst dX6_at_16 ⟨by decide, by decide⟩ ?_
      exact V.iret (jret_i dX6_at_17 rfl) ⟨jsm (by unfold jat; split <;> first | rfl | omega), rfl⟩
    · refine V.aload_n dX6_at_10 rfl ?_
      refine V.iload_n dX6_at_11 rfl ?_
      refine V.iald (cell := q.toNat) 0 rfl hsh hlt hN dX6_at_12 (by omega) (by omega) (fun _ => ?_)
      refine V.goto (tgt := 17) dX6_at_13 (by decide) ?_
      exact V.iret (jret_i dX6_at_17 rfl) ⟨jsm (by unfold jat; split <;> first | rfl | omega), rfl⟩
theorem sp_X6_setAt {σ : JM} {q x v : Int} {k N : Nat} (hk : q.toNat = k) (hsh : jsh k = (0, N, [])) (hlt : Nat.blt k 34 = true) (hN : Nat.blt N 2147483648 = true) (h0 : 0 ≤ x) (h1 : x < (N : Int)) : JSp mX6_setAt 0 0 [(2, q), (0, x), (0, v)] σ (jvv (jset σ k x v)) jno := by
  refine JSp.of [(2, q), (0, x), (0, v)] rfl (by decide +kernel) rfl rfl rfl (fun l E hA => ?_)
  refine V.iload_n dX6_setAt_0 rfl ?_
  refine V.if_lt (tgt := 14) dX6_setAt_1 (by decide) (fun hh => ?_) (fun hh => ?_)
  · exfalso; omega
  · refine V.iload_n dX6_setAt_4 rfl ?_
    refine V.aload_n dX6_setAt_5 rfl ?_
    refine V.alen (cell := k) 0 hk hsh hlt hN dX6_setAt_6 ?_
    refine V.icmp_ge (tgt := 14) dX6_setAt_7 (by decide) (fun hh => ?_) (fun hh => ?_)
    · exfalso; omega
    · refine V.aload_n dX6_setAt_10 rfl ?_
      refine V.iload_n dX6_setAt_11 rfl ?_
      refine V.iload_n dX6_setAt_12 rfl ?_
      refine V.iast (cell := k) 0 hk hsh hlt hN dX6_setAt_13 h0 h1 ?_
      exact V.vret (jret_v dX6_setAt_14 rfl) ⟨rfl, rfl⟩
def jgo (k : Int) : Int := if k = 67 then 999 else if k = 76 then 9 else if k = 87 then 999 else if k = 97 then 19 else if k = 106 then 19 else if k = 108 then 19 else if k = 111 then 99 else if k = 119 then 999 else 0
theorem jlook_hit {ps : List (Int × Int)} {d x off : Int} (h : Op.lookupswitch.offset ps d x = off) : Op.lookupswitch.offset ps d x = off := h
theorem sp_X6_greatestOperand {σ : JM} {x : Int} : JSp mX6_greatestOperand 0 0 [(0, x)] σ (jrv (jgo x) σ) jno := by
  refine JSp.of [(0, x)] rfl (by decide +kernel) rfl rfl rfl (fun l E hA => ?_)
  refine V.iload_n dX6_greatestOperand_0 rfl ?_
  by_cases h67 : x = 67
  · subst h67
    refine V.lookup (tgt := 79) dX6_greatestOperand_1 (by decide) (off := 78) (by decide) (by decide) ?_
    refine V.sipush dX6_greatestOperand_79 ⟨by decide, by decide⟩ ?_
    exact V.iret (jret_i dX6_greatestOperand_82 rfl) ⟨jsm (by decide), rfl⟩
  by_cases h76 : x = 76
  · subst h76
    refine V.lookup (tgt := 86) dX6_greatestOperand_1 (by decide) (off := 85) (by decide) (by decide) ?_
    refine V.bipush dX6_greatestOperand_86 ⟨by decide, by decide⟩ ?_
    exact V.iret (jret_i dX6_greatestOperand_88 rfl) ⟨jsm (by decide), rfl⟩
  by_cases h87 : x = 87
  · subst h87
    refine V.lookup (tgt := 79) dX6_greatestOperand_1 (by decide) (off := 78) (by decide) (by decide) ?_
    refine V.sipush dX6_greatestOperand_79 ⟨by decide, by decide⟩ ?_
    exact V.iret (jret_i dX6_greatestOperand_82 rfl) ⟨jsm (by decide), rfl⟩
  by_cases h97 : x = 97
  · subst h97
    refine V.lookup (tgt := 76) dX6_greatestOperand_1 (by decide) (off := 75) (by decide) (by decide) ?_
    refine V.bipush dX6_greatestOperand_76 ⟨by decide, by decide⟩ ?_
    exact V.iret (jret_i dX6_greatestOperand_78 rfl) ⟨jsm (by decide), rfl⟩
  by_cases h106 : x = 106
  · subst h106
    refine V.lookup (tgt := 76) dX6_greatestOperand_1 (by decide) (off := 75) (by decide) (by decide) ?_
    refine V.bipush dX6_greatestOperand_76 ⟨by decide, by decide⟩ ?_
    exact V.iret (jret_i dX6_greatestOperand_78 rfl) ⟨jsm (by decide), rfl⟩
  by_cases h108 : x = 108
  · subst h108
    refine V.lookup (tgt := 76) dX6_greatestOperand_1 (by decide) (off := 75) (by decide) (by decide) ?_
    refine V.bipush dX6_greatestOperand_76 ⟨by decide, by decide⟩ ?_
    exact V.iret (jret_i dX6_greatestOperand_78 rfl) ⟨jsm (by decide), rfl⟩
  by_cases h111 : x = 111
  · subst h111
    refine V.lookup (tgt := 83) dX6_greatestOperand_1 (by decide) (off := 82) (by decide) (by decide) ?_
    refine V.bipush dX6_greatestOperand_83 ⟨by decide, by decide⟩ ?_
    exact V.iret (jret_i dX6_greatestOperand_85 rfl) ⟨jsm (by decide), rfl⟩
  by_cases h119 : x = 119
  · subst h119
    refine V.lookup (tgt := 79) dX6_greatestOperand_1 (by decide) (off := 78) (by decide) (by decide) ?_
    refine V.sipush dX6_greatestOperand_79 ⟨by decide, by decide⟩ ?_
    exact V.iret (jret_i dX6_greatestOperand_82 rfl) ⟨jsm (by decide), rfl⟩
  refine V.lookup (tgt := 89) dX6_greatestOperand_1 (by decide) (off := 88) (by simp [Op.lookupswitch.offset, Ne.symm h67, Ne.symm h76, Ne.symm h87, Ne.symm h97, Ne.symm h106, Ne.symm h108, Ne.symm h111, Ne.symm h119]) (by decide) ?_
  refine V.iconst dX6_greatestOperand_89 ⟨by decide, by decide⟩ ?_
  exact V.iret (jret_i dX6_greatestOperand_90 rfl) ⟨jsm (by simp [jgo, h67, h76, h87, h97, h106, h108, h111, h119]), rfl⟩
theorem sp_X6_isArgument {σ : JM} {x : Int} : JSp mX6_isArgument 0 0 [(0, x)] σ (jrv (if x = -1 ∨ x = -2 then 1 else 0) σ) jno := by
  refine JSp.of [(0, x)] rfl (by decide +kernel) rfl rfl rfl (fun l E hA => ?_)
  refine V.iload_n dX6_isArgument_0 rfl ?_
  refine V.iconst dX6_isArgument_1 ⟨by decide, by decide⟩ ?_
  refine V.icmp_eq (tgt := 11) dX6_isArgument_2 (by decide) (fun h2 => ?_) (fun h2 => ?_)
  · refine V.iconst dX6_isArgument_11 ⟨by decide, by decide⟩ ?_
    refine V.goto (tgt := 16) dX6_isArgument_12 (by decide) ?_
    exact V.iret (jret_z dX6_isArgument_16 rfl (by decide)) ⟨jsm (by split <;> omega), rfl⟩
  · refine V.iload_n dX6_isArgument_5 rfl ?_
    refine V.bipush dX6_isArgument_6 ⟨by decide, by decide⟩ ?_
    refine V.icmp_ne (tgt := 15) dX6_isArgument_8 (by decide) (fun h8 => ?_) (fun h8 => ?_)
    · refine V.iconst dX6_isArgument_15 ⟨by decide, by decide⟩ ?_
      exact V.iret (jret_z dX6_isArgument_16 rfl (by decide)) ⟨jsm (by split <;> omega), rfl⟩
    · refine V.iconst dX6_isArgument_11 ⟨by decide, by decide⟩ ?_
      refine V.goto (tgt := 16) dX6_isArgument_12 (by decide) ?_
      exact V.iret (jret_z dX6_isArgument_16 rfl (by decide)) ⟨jsm (by split <;> omega), rfl⟩
theorem sp_X6_isReference {σ : JM} {x : Int} : JSp mX6_isReference 0 0 [(0, x)] σ (jrv (if x = 106 ∨ x = 74 ∨ x = 97 then 1 else 0) σ) jno := by
  refine JSp.of [(0, x)] rfl (by decide +kernel) rfl rfl rfl (fun l E hA => ?_)
  refine V.iload_n dX6_isReference_0 rfl ?_
  refine V.bipush dX6_isReference_1 ⟨by decide, by decide⟩ ?_
  refine V.icmp_eq (tgt := 18) dX6_isReference_3 (by decide) (fun h3 => ?_) (fun h3 => ?_)
  · refine V.iconst dX6_isReference_18 ⟨by decide, by decide⟩ ?_
    refine V.goto (tgt := 23) dX6_isReference_19 (by decide) ?_
    exact V.iret (jret_z dX6_isReference_23 rfl (by decide)) ⟨jsm (by split <;> omega), rfl⟩
  · refine V.iload_n dX6_isReference_6 rfl ?_
    refine V.bipush dX6_isReference_7 ⟨by decide, by decide⟩ ?_
    refine V.icmp_eq (tgt := 18) dX6_isReference_9 (by decide) (fun h9 => ?_) (fun h9 => ?_)
    · refine V.iconst dX6_isReference_18 ⟨by decide, by decide⟩ ?_
      refine V.goto (tgt := 23) dX6_isReference_19 (by decide) ?_
      exact V.iret (jret_z dX6_isReference_23 rfl (by decide)) ⟨jsm (by split <;> omega), rfl⟩
    · refine V.iload_n dX6_isReference_12 rfl ?_
      refine V.bipush dX6_isReference_13 ⟨by decide, by decide⟩ ?_
      refine V.icmp_ne (tgt := 22) dX6_isReference_15 (by decide) (fun h15 => ?_) (fun h15 => ?_)
      · refine V.iconst dX6_isReference_22 ⟨by decide, by decide⟩ ?_
        exact V.iret (jret_z dX6_isReference_23 rfl (by decide)) ⟨jsm (by split <;> omega), rfl⟩
      · refine V.iconst dX6_isReference_18 ⟨by decide, by decide⟩ ?_
        refine V.goto (tgt := 23) dX6_isReference_19 (by decide) ?_
        exact V.iret (jret_z dX6_isReference_23 rfl (by decide)) ⟨jsm (by split <;> omega), rfl⟩
theorem sp_X6_beginsGroup {σ : JM} {x : Int} : JSp mX6_beginsGroup 0 0 [(0, x)] σ (jrv (if x = 66 ∨ x = 76 ∨ x = 87 then 1 else 0) σ) jno := by
  refine JSp.of [(0, x)] rfl (by decide +kernel) rfl rfl rfl (fun l E hA => ?_)
  refine V.iload_n dX6_beginsGroup_0 rfl ?_
  refine V.bipush dX6_beginsGroup_1 ⟨by decide, by decide⟩ ?_
  refine V.icmp_eq (tgt := 18) dX6_beginsGroup_3 (by decide) (fun h3 => ?_) (fun h3 => ?_)
  · refine V.iconst dX6_beginsGroup_18 ⟨by decide, by decide⟩ ?_
    refine V.goto (tgt := 23) dX6_beginsGroup_19 (by decide) ?_
    exact V.iret (jret_z dX6_beginsGroup_23 rfl (by decide)) ⟨jsm (by split <;> omega), rfl⟩
  · refine V.iload_n dX6_beginsGroup_6 rfl ?_
    refine V.bipush dX6_beginsGroup_7 ⟨by decide, by decide⟩ ?_
    refine V.icmp_eq (tgt := 18) dX6_beginsGroup_9 (by decide) (fun h9 => ?_) (fun h9 => ?_)
    · refine V.iconst dX6_beginsGroup_18 ⟨by decide, by decide⟩ ?_
      refine V.goto (tgt := 23) dX6_beginsGroup_19 (by decide) ?_
      exact V.iret (jret_z dX6_beginsGroup_23 rfl (by decide)) ⟨jsm (by split <;> omega), rfl⟩
    · refine V.iload_n dX6_beginsGroup_12 rfl ?_
      refine V.bipush dX6_beginsGroup_13 ⟨by decide, by decide⟩ ?_
      refine V.icmp_ne (tgt := 22) dX6_beginsGroup_15 (by decide) (fun h15 => ?_) (fun h15 => ?_)
      · refine V.iconst dX6_beginsGroup_22 ⟨by decide, by decide⟩ ?_
        exact V.iret (jret_z dX6_beginsGroup_23 rfl (by decide)) ⟨jsm (by split <;> omega), rfl⟩
      · refine V.iconst dX6_beginsGroup_18 ⟨by decide, by decide⟩ ?_
        refine V.goto (tgt := 23) dX6_beginsGroup_19 (by decide) ?_
        exact V.iret (jret_z dX6_beginsGroup_23 rfl (by decide)) ⟨jsm (by split <;> omega), rfl⟩
def jvo (x a b : Int) : Int := if x = -1 then a else if x = -2 then b else x
theorem sp_X6_valueOfOperand {σ : JM} {x a b : Int} : JSp mX6_valueOfOperand 0 0 [(0, x), (0, a), (0, b)] σ (jrv (jvo x a b) σ) jno := by
  refine JSp.of [(0, x), (0, a), (0, b)] rfl (by decide +kernel) rfl rfl rfl (fun l E hA => ?_)
  refine V.iload_n dX6_valueOfOperand_0 rfl ?_
  refine V.iconst dX6_valueOfOperand_1 ⟨by decide, by decide⟩ ?_
  refine V.icmp_ne (tgt := 7) dX6_valueOfOperand_2 (by decide) (fun h2 => ?_) (fun h2 => ?_)
  · refine V.iload_n dX6_valueOfOperand_7 rfl ?_
    refine V.bipush dX6_valueOfOperand_8 ⟨by decide, by decide⟩ ?_
    refine V.icmp_ne (tgt := 17) dX6_valueOfOperand_10 (by decide) (fun h10 => ?_) (fun h10 => ?_)
    · refine V.iload_n dX6_valueOfOperand_17 rfl ?_
      exact V.iret (jret_i dX6_valueOfOperand_18 rfl) ⟨jsm (by unfold jvo; split <;> first | omega | (split <;> omega)), rfl⟩
    · refine V.iload_n dX6_valueOfOperand_13 rfl ?_
      refine V.goto (tgt := 18) dX6_valueOfOperand_14 (by decide) ?_
      exact V.iret (jret_i dX6_valueOfOperand_18 rfl) ⟨jsm (by unfold jvo; split <;> first | omega | (split <;> omega)), rfl⟩
  · refine V.iload_n dX6_valueOfOperand_5 rfl ?_
    exact V.iret (jret_i dX6_valueOfOperand_6 rfl) ⟨jsm (by unfold jvo; split <;> first | omega | (split <;> omega)), rfl⟩
theorem sp_X5_kind {σ : JM} {x : Int} : JSp mX5_kind 1 0 [(2, 1), (0, x)] σ (jrv (jat σ 8 80 x) σ) jno := by
  refine JSp.of [(2, 1), (0, x)] rfl (by decide +kernel) rfl rfl rfl (fun l E hA => ?_)
  refine V.aload_n dX5_kind_0 rfl ?_
  refine V.getR fa_X5_9 rfl dX5_kind_1 ?_
  refine V.iload_n dX5_kind_4 rfl ?_
  refine V.cN [_, _] rfl kc_X5_40 dX5_kind_5 (by decide) rfl rfl (sp_X6_at (N := 80) rfl rfl rfl) (fun _ => ?_)
  exact V.iret (jret_i dX5_kind_8 rfl) ⟨rfl, rfl⟩
theorem sp_X5_first {σ : JM} {x : Int} : JSp mX5_first 1 0 [(2, 1), (0, x)] σ (jrv (jat σ 9 80 x) σ) jno := by
  refine JSp.of [(2, 1), (0, x)] rfl (by decide +kernel) rfl rfl rfl (fun l E hA => ?_)
  refine V.aload_n dX5_first_0 rfl ?_
  refine V.getR fa_X5_15 rfl dX5_first_1 ?_
  refine V.iload_n dX5_first_4 rfl ?_
  refine V.cN [_, _] rfl kc_X5_40 dX5_first_5 (by decide) rfl rfl (sp_X6_at (N := 80) rfl rfl rfl) (fun _ => ?_)
  exact V.iret (jret_i dX5_first_8 rfl) ⟨rfl, rfl⟩
theorem sp_X5_second {σ : JM} {x : Int} : JSp mX5_second 1 0 [(2, 1), (0, x)] σ (jrv (jat σ 10 80 x) σ) jno := by
  refine JSp.of [(2, 1), (0, x)] rfl (by decide +kernel) rfl rfl rfl (fun l E hA => ?_)
  refine V.aload_n dX5_second_0 rfl ?_
  refine V.getR fa_X5_18 rfl dX5_second_1 ?_
  refine V.iload_n dX5_second_4 rfl ?_
  refine V.cN [_, _] rfl kc_X5_40 dX5_second_5 (by decide) rfl rfl (sp_X6_at (N := 80) rfl rfl rfl) (fun _ => ?_)
  exact V.iret (jret_i dX5_second_8 rfl) ⟨rfl, rfl⟩
theorem sp_X5_fixed {σ : JM} {x : Int} : JSp mX5_fixed 1 0 [(2, 1), (0, x)] σ (jrv (jat σ 11 80 x) σ) jno := by
  refine JSp.of [(2, 1), (0, x)] rfl (by decide +kernel) rfl rfl rfl (fun l E hA => ?_)
  refine V.aload_n dX5_fixed_0 rfl ?_
  refine V.getR fa_X5_21 rfl dX5_fixed_1 ?_
  refine V.iload_n dX5_fixed_4 rfl ?_
  refine V.cN [_, _] rfl kc_X5_40 dX5_fixed_5 (by decide) rfl rfl (sp_X6_at (N := 80) rfl rfl rfl) (fun _ => ?_)
  exact V.iret (jret_i dX5_fixed_8 rfl) ⟨rfl, rfl⟩
theorem sp_X5_partner {σ : JM} {x : Int} : JSp mX5_partner 1 0 [(2, 1), (0, x)] σ (jrv (jat σ 12 80 x) σ) jno := by
  refine JSp.of [(2, 1), (0, x)] rfl (by decide +kernel) rfl rfl rfl (fun l E hA => ?_)
  refine V.aload_n dX5_partner_0 rfl ?_
  refine V.getR fa_X5_24 rfl dX5_partner_1 ?_
  refine V.iload_n dX5_partner_4 rfl ?_
  refine V.cN [_, _] rfl kc_X5_40 dX5_partner_5 (by decide) rfl rfl (sp_X6_at (N := 80) rfl rfl rfl) (fun _ => ?_)
  exact V.iret (jret_i dX5_partner_8 rfl) ⟨rfl, rfl⟩
theorem sp_X5_macroLine {σ : JM} {x : Int} : JSp mX5_macroLine 1 0 [(2, 1), (0, x)] σ (jrv (jat σ 14 8 x) σ) jno := by
  refine JSp.of [(2, 1), (0, x)] rfl (by decide +kernel) rfl rfl rfl (fun l E hA => ?_)
  refine V.aload_n dX5_macroLine_0 rfl ?_
  refine V.getR fa_X5_30 rfl dX5_macroLine_1 ?_
  refine V.iload_n dX5_macroLine_4 rfl ?_
  refine V.cN [_, _] rfl kc_X5_40 dX5_macroLine_5 (by decide) rfl rfl (sp_X6_at (N := 8) rfl rfl rfl) (fun _ => ?_)
  exact V.iret (jret_i dX5_macroLine_8 rfl) ⟨rfl, rfl⟩
theorem sp_X5_size {σ : JM} : JSp mX5_size 0 0 [(2, 1)] σ (jrv (σ 1 7) σ) jno := by
  refine JSp.of [(2, 1)] rfl (by decide +kernel) rfl rfl rfl (fun l E hA => ?_)
  refine V.aload_n dX5_size_0 rfl ?_
  refine V.getI fa_X5_33 (by decide) rfl dX5_size_1 (fun _ => ?_)
  exact V.iret (jret_i dX5_size_4 rfl) ⟨rfl, rfl⟩
theorem sp_X5_sizeOfMacros {σ : JM} : JSp mX5_sizeOfMacros 0 0 [(2, 1)] σ (jrv (σ 1 8) σ) jno := by
  refine JSp.of [(2, 1)] rfl (by decide +kernel) rfl rfl rfl (fun l E hA => ?_)
  refine V.aload_n dX5_sizeOfMacros_0 rfl ?_
  refine V.getI fa_X5_37 (by decide) rfl dX5_sizeOfMacros_1 (fun _ => ?_)
  exact V.iret (jret_i dX5_sizeOfMacros_4 rfl) ⟨rfl, rfl⟩
def jApp (σ : JM) (k f s x : Int) : JM := jset (jset (jset (jset (jset (jset σ 8 (σ 1 7) k) 9 (σ 1 7) f) 10 (σ 1 7) s) 11 (σ 1 7) x) 12 (σ 1 7) (σ 1 7)) 1 7 (σ 1 7 + 1)
theorem sp_X5_append {σ : JM} {k f s x : Int} (h0 : 0 ≤ σ 1 7) (h1 : σ 1 7 < 80) : JSp mX5_append 8 0 [(2, 1), (0, k), (0, f), (0, s), (0, x)] σ (jrv (σ 1 7) (jApp σ k f s x)) jno := by
  refine JSp.of [(2, 1), (0, k), (0, f), (0, s), (0, x), (9, 0)] rfl (by decide +kernel) rfl rfl rfl (fun l E hA => ?_)
  refine V.aload_n dX5_append_0 rfl ?_
  refine V.getI fa_X5_33 (by decide) rfl dX5_append_1 (fun _ => ?_)
  refine V.bipush dX5_append_4 ⟨by decide, by decide⟩ ?_
  refine V.icmp_lt (tgt := 19) dX5_append_6 (by decide) (fun h6 => ?_) (fun h6 => ?_)
  · refine V.aload_n dX5_append_19 rfl ?_
    refine V.getI fa_X5_33 (by decide) rfl dX5_append_20 (fun _ => ?_)
    refine V.istore (L' := [_, _, _, _, _, _]) dX5_append_23 rfl rfl ?_
    refine V.aload_n dX5_append_25 rfl ?_
    refine V.getR fa_X5_9 rfl dX5_append_26 ?_
    refine V.iload dX5_append_29 rfl ?_
    refine V.iload_n dX5_append_31 rfl ?_
    refine V.iast (cell := 8) 0 rfl rfl rfl rfl dX5_append_32 (by omega) (by omega) ?_
    refine V.aload_n dX5_append_33 rfl ?_
    refine V.getR fa_X5_15 rfl dX5_append_34 ?_
    refine V.iload dX5_append_37 rfl ?_
    refine V.iload_n dX5_append_39 rfl ?_
    refine V.iast (cell := 9) 0 rfl rfl rfl rfl dX5_append_40 (by omega) (by omega) ?_
    refine V.aload_n dX5_append_41 rfl ?_
    refine V.getR fa_X5_18 rfl dX5_append_42 ?_
    refine V.iload dX5_append_45 rfl ?_
    refine V.iload_n dX5_append_47 rfl ?_
    refine V.iast (cell := 10) 0 rfl rfl rfl rfl dX5_append_48 (by omega) (by omega) ?_
    refine V.aload_n dX5_append_49 rfl ?_
    refine V.getR fa_X5_21 rfl dX5_append_50 ?_
    refine V.iload dX5_append_53 rfl ?_
    refine V.iload dX5_append_55 rfl ?_
    refine V.iast (cell := 11) 0 rfl rfl rfl rfl dX5_append_57 (by omega) (by omega) ?_
    refine V.aload_n dX5_append_58 rfl ?_
    refine V.getR fa_X5_24 rfl dX5_append_59 ?_
    refine V.iload dX5_append_62 rfl ?_
    refine V.iload dX5_append_64 rfl ?_
    refine V.iast (cell := 12) 0 rfl rfl rfl rfl dX5_append_66 (by omega) (by omega) ?_
    refine V.aload_n dX5_append_67 rfl ?_
    refine V.dup dX5_append_68 rfl ?_
    refine V.getI fa_X5_33 (by decide) rfl dX5_append_69 (fun _ => ?_)
    refine V.iconst dX5_append_72 ⟨by decide, by decide⟩ ?_
    refine V.iadd dX5_append_73 ⟨(by first | omega | (simp (disch := decide) only [jset_nk, jset_nj, jset_eq]; omega)), (by first | omega | (simp (disch := decide) only [jset_nk, jset_nj, jset_eq]; omega))⟩ ?_
    refine V.putI fa_X5_33 (by decide) rfl dX5_append_74 (Or.inl rfl) ?_
    refine V.iload dX5_append_77 rfl ?_
    exact V.iret (jret_i dX5_append_79 rfl) ⟨rfl, rfl⟩
  · exact absurd h6 (by omega)
theorem sp_X5_appendX {σ : JM} {k f s x : Int} (h1 : 80 ≤ σ 1 7) : JSp mX5_append 8 1 [(2, 1), (0, k), (0, f), (0, s), (0, x)] σ jnr (jxx "java/lang/IllegalStateException" σ) := by
  refine JSp.of [(2, 1), (0, k), (0, f), (0, s), (0, x), (9, 0)] rfl (by decide +kernel) rfl rfl rfl (fun l E hA => ?_)
  refine V.aload_n dX5_append_0 rfl ?_
  refine V.getI fa_X5_33 (by decide) rfl dX5_append_1 (fun _ => ?_)
  refine V.bipush dX5_append_4 ⟨by decide, by decide⟩ ?_
  refine V.icmp_lt (tgt := 19) dX5_append_6 (by decide) (fun h6 => ?_) (fun h6 => ?_)
  · exact absurd h6 (by omega)
  · exact V.throw tt_X5_append_9 rfl (by decide) ⟨rfl, rfl⟩ dX5_append_9 dX5_append_12 dX5_append_13 dX5_append_15 dX5_append_18
