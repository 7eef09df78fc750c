theorem sp_X1_faultKind {σ : JM} : JSp mX1_faultKind 0 0 [(2, 4)] σ (jrv (σ 4 9) σ) jno := by
  refine JSp.of [(2, 4)] rfl (by decide +kernel) rfl rfl rfl (fun l E hA => ?_)
  refine V.aload_n dX1_faultKind_0 rfl ?_
  refine V.getI fa_X1_24 (by decide) rfl dX1_faultKind_1 (fun _ => ?_)
  exact V.iret (jret_i dX1_faultKind_4 rfl) ⟨rfl, rfl⟩
theorem sp_X1_lineOfFault {σ : JM} : JSp mX1_lineOfFault 0 0 [(2, 4)] σ (jrv (σ 4 10) σ) jno := by
  refine JSp.of [(2, 4)] rfl (by decide +kernel) rfl rfl rfl (fun l E hA => ?_)
  refine V.aload_n dX1_lineOfFault_0 rfl ?_
  refine V.getI fa_X1_40 (by decide) rfl dX1_lineOfFault_1 (fun _ => ?_)
  exact V.iret (jret_i dX1_lineOfFault_4 rfl) ⟨rfl, rfl⟩
theorem sp_X1_fail {σ : JM} {k x : Int} : JSp mX1_fail 0 0 [(2, 4), (0, k), (0, x)] σ (jvv (jset (jset σ 4 9 k) 4 10 x)) jno := by
  refine JSp.of [(2, 4), (0, k), (0, x)] rfl (by decide +kernel) rfl rfl rfl (fun l E hA => ?_)
  refine V.aload_n dX1_fail_0 rfl ?_
  refine V.iload_n dX1_fail_1 rfl ?_
  refine V.putI fa_X1_24 (by decide) rfl dX1_fail_2 (Or.inl rfl) ?_
  refine V.aload_n dX1_fail_5 rfl ?_
  refine V.iload_n dX1_fail_6 rfl ?_
  refine V.putI fa_X1_40 (by decide) rfl dX1_fail_7 (Or.inl rfl) ?_
  exact V.vret (jret_v dX1_fail_10 rfl) ⟨rfl, rfl⟩
def jslot (o : Int) : Int := if o = -1 then 0 else 1
theorem jslot_b (o : Int) : 0 ≤ jslot o ∧ jslot o ≤ 1 := by unfold jslot; split <;> omega
theorem sp_X1_placeOf {σ : JM} {o d : Int} (h0 : 0 ≤ d) (h1 : d ≤ 10) : JSp mX1_placeOf 0 0 [(0, o), (0, d)] σ (jrv (2 * d + jslot o) σ) jno := by
  refine JSp.of [(0, o), (0, d)] rfl (by decide +kernel) rfl rfl rfl (fun l E hA => ?_)
  refine V.iconst dX1_placeOf_0 ⟨by decide, by decide⟩ ?_
  refine V.iload_n dX1_placeOf_1 rfl ?_
  refine V.imul dX1_placeOf_2 ⟨(by omega), (by omega)⟩ ?_
  refine V.iload_n dX1_placeOf_3 rfl ?_
  refine V.iconst dX1_placeOf_4 ⟨by decide, by decide⟩ ?_
  refine V.icmp_ne (tgt := 12) dX1_placeOf_5 (by decide) (fun h5 => ?_) (fun h5 => ?_)
  · refine V.iconst dX1_placeOf_12 ⟨by decide, by decide⟩ ?_
    refine V.iadd dX1_placeOf_13 ⟨(by omega), (by omega)⟩ ?_
    exact V.iret (jret_i dX1_placeOf_14 rfl) ⟨jsm (by unfold jslot; first | rw [if_pos h5] | rw [if_neg h5]), rfl⟩
  · refine V.iconst dX1_placeOf_8 ⟨by decide, by decide⟩ ?_
    refine V.goto (tgt := 13) dX1_placeOf_9 (by decide) ?_
    refine V.iadd dX1_placeOf_13 ⟨(by omega), (by omega)⟩ ?_
    exact V.iret (jret_i dX1_placeOf_14 rfl) ⟨jsm (by unfold jslot; first | rw [if_pos h5] | rw [if_neg h5]), rfl⟩
abbrev jarg (o : Int) : Prop := o = -1 ∨ o = -2
theorem sp_X1_argument {σ : JM} {o : Int} (h0 : 0 ≤ σ 4 7) (h1 : σ 4 7 ≤ 8) : JSp mX1_argument 1 0 [(2, 4), (0, o)] σ (jrv (jat σ 27 18 (2 * σ 4 7 + jslot o)) σ) jno := by
  refine JSp.of [(2, 4), (0, o)] rfl (by decide +kernel) rfl rfl rfl (fun l E hA => ?_)
  refine V.aload_n dX1_argument_0 rfl ?_
  refine V.getR fa_X1_18 rfl dX1_argument_1 ?_
  refine V.iload_n dX1_argument_4 rfl ?_
  refine V.aload_n dX1_argument_5 rfl ?_
  refine V.getI fa_X1_53 (by decide) rfl dX1_argument_6 (fun _ => ?_)
  refine V.cS [_, _] rfl kc_X1_188 dX1_argument_9 (by decide) rfl rfl (sp_X1_placeOf h0 (by omega)) (fun _ => ?_)
  refine V.cN [_, _] rfl kc_X1_178 dX1_argument_12 (by decide) rfl rfl (show JSp mX6_at 0 0 [(2, 27), (0, 2 * σ 4 7 + jslot o)] σ (jrv (jat σ 27 18 (2 * σ 4 7 + jslot o)) σ) jno from sp_X6_at (N := 18) rfl rfl rfl) (fun _ => ?_)
  exact V.iret (jret_i dX1_argument_15 rfl) ⟨rfl, rfl⟩
def jval (σ : JM) (o : Int) : Int := if jarg o then jat σ 27 18 (2 * σ 4 7 + jslot o) else o
def jsco (σ : JM) (o : Int) : Int := if jarg o then jat σ 28 18 (2 * σ 4 7 + jslot o) else σ 3 5 - 1
theorem sp_X1_valueOf {σ : JM} {o : Int} (h0 : 0 ≤ σ 4 7) (h1 : σ 4 7 ≤ 8) : JSp mX1_valueOf 2 0 [(2, 4), (0, o)] σ (jrv (jval σ o) σ) jno := by
  refine JSp.of [(2, 4), (0, o)] rfl (by decide +kernel) rfl rfl rfl (fun l E hA => ?_)
  refine V.iload_n dX1_valueOf_0 rfl ?_
  refine V.cN [_] rfl kc_X1_191 dX1_valueOf_1 (by decide) rfl rfl (sp_X6_isArgument) (fun _ => ?_)
  refine V.if_eq (tgt := 15) dX1_valueOf_4 (by decide) (fun h4 => ?_) (fun h4 => ?_)
  · refine V.iload_n dX1_valueOf_15 rfl ?_
    exact V.iret (jret_i dX1_valueOf_16 rfl) ⟨jsm (by unfold jval; first | rw [if_pos (jb1.mp h4)] | rw [if_neg (jb0.mp h4)]), rfl⟩
  · refine V.aload_n dX1_valueOf_7 rfl ?_
    refine V.iload_n dX1_valueOf_8 rfl ?_
    refine V.cV [_] rfl kc_X1_161 rfl dX1_valueOf_9 (by decide) rfl rfl (sp_X1_argument h0 h1) (fun _ => ?_)
    refine V.goto (tgt := 16) dX1_valueOf_12 (by decide) ?_
    exact V.iret (jret_i dX1_valueOf_16 rfl) ⟨jsm (by unfold jval; first | rw [if_pos (jb1.mp h4)] | rw [if_neg (jb0.mp h4)]), rfl⟩
theorem sp_X1_scopeOf {σ : JM} {o : Int} (h0 : 0 ≤ σ 4 7) (h1 : σ 4 7 ≤ 8) (h2 : 0 ≤ σ 3 5) (h3 : σ 3 5 ≤ 81) : JSp mX1_scopeOf 2 0 [(2, 4), (0, o)] σ (jrv (jsco σ o) σ) jno := by
  refine JSp.of [(2, 4), (0, o)] rfl (by decide +kernel) rfl rfl rfl (fun l E hA => ?_)
  refine V.iload_n dX1_scopeOf_0 rfl ?_
  refine V.cN [_] rfl kc_X1_191 dX1_scopeOf_1 (by decide) rfl rfl (sp_X6_isArgument) (fun _ => ?_)
  refine V.if_eq (tgt := 25) dX1_scopeOf_4 (by decide) (fun h4 => ?_) (fun h4 => ?_)
  · refine V.aload_n dX1_scopeOf_25 rfl ?_
    refine V.getR fa_X1_36 rfl dX1_scopeOf_26 ?_
    refine V.cV [] rfl kc_X1_167 rfl dX1_scopeOf_29 (by decide) rfl rfl (sp_X4_current h2 h3) (fun _ => ?_)
    exact V.iret (jret_i dX1_scopeOf_32 rfl) ⟨jsm (by unfold jsco; first | rw [if_pos (jb1.mp h4)] | rw [if_neg (jb0.mp h4)]), rfl⟩
  · refine V.aload_n dX1_scopeOf_7 rfl ?_
    refine V.getR fa_X1_21 rfl dX1_scopeOf_8 ?_
    refine V.iload_n dX1_scopeOf_11 rfl ?_
    refine V.aload_n dX1_scopeOf_12 rfl ?_
    refine V.getI fa_X1_53 (by decide) rfl dX1_scopeOf_13 (fun _ => ?_)
    refine V.cS [_, _] rfl kc_X1_188 dX1_scopeOf_16 (by decide) rfl rfl (sp_X1_placeOf h0 (by omega)) (fun _ => ?_)
    refine V.cN [_, _] rfl kc_X1_178 dX1_scopeOf_19 (by decide) rfl rfl (show JSp mX6_at 0 0 [(2, 28), (0, 2 * σ 4 7 + jslot o)] σ (jrv (jat σ 28 18 (2 * σ 4 7 + jslot o)) σ) jno from sp_X6_at (N := 18) rfl rfl rfl) (fun _ => ?_)
    refine V.goto (tgt := 32) dX1_scopeOf_22 (by decide) ?_
    exact V.iret (jret_i dX1_scopeOf_32 rfl) ⟨jsm (by unfold jsco; first | rw [if_pos (jb1.mp h4)] | rw [if_neg (jb0.mp h4)]), rfl⟩
def jpas (σ : JM) (o v s : Int) : JM := jset (jset σ 27 (2 * (σ 4 7 + 1) + jslot o) v) 28 (2 * (σ 4 7 + 1) + jslot o) s
theorem sp_X1_pass {σ : JM} {o v s : Int} (h0 : 0 ≤ σ 4 7) (h1 : σ 4 7 < 8) : JSp mX1_pass 1 0 [(2, 4), (0, o), (0, v), (0, s)] σ (jvv (jpas σ o v s)) jno := by
  have hsl := jslot_b o
  refine JSp.of [(2, 4), (0, o), (0, v), (0, s), (9, 0)] rfl (by decide +kernel) rfl rfl rfl (fun l E hA => ?_)
  refine V.iload_n dX1_pass_0 rfl ?_
  refine V.aload_n dX1_pass_1 rfl ?_
  refine V.getI fa_X1_53 (by decide) rfl dX1_pass_2 (fun _ => ?_)
  refine V.iconst dX1_pass_5 ⟨by decide, by decide⟩ ?_
  refine V.iadd dX1_pass_6 ⟨(by omega), (by omega)⟩ ?_
  refine V.cS [_, _] rfl kc_X1_188 dX1_pass_7 (by decide) rfl rfl (sp_X1_placeOf (by omega) (by omega)) (fun _ => ?_)
  refine V.istore (L' := [_, _, _, _, _]) dX1_pass_10 rfl rfl ?_
  refine V.aload_n dX1_pass_12 rfl ?_
  refine V.getR fa_X1_18 rfl dX1_pass_13 ?_
  refine V.iload dX1_pass_16 rfl ?_
  refine V.iload_n dX1_pass_18 rfl ?_
  refine V.cN0 [_, _, _] rfl kc_X1_174 dX1_pass_19 (by decide) rfl rfl (sp_X6_setAt (k := 27) (N := 18) rfl rfl rfl rfl (by omega) (by omega)) ?_
  refine V.aload_n dX1_pass_22 rfl ?_
  refine V.getR fa_X1_21 rfl dX1_pass_23 ?_
  refine V.iload dX1_pass_26 rfl ?_
  refine V.iload_n dX1_pass_28 rfl ?_
  refine V.cN0 [_, _, _] rfl kc_X1_174 dX1_pass_29 (by decide) rfl rfl (sp_X6_setAt (k := 28) (N := 18) rfl rfl rfl rfl (by omega) (by omega)) ?_
  exact V.vret (jret_v dX1_pass_32 rfl) ⟨rfl, rfl⟩
def jvi (k x v : Int) : Int := if k = 111 then 100 * x + v else if k = 103 then x else v
theorem sp_X1_valueOfItem {σ : JM} {k x v : Int} (hx : 0 ≤ x ∧ x ≤ 1000) (hv : 0 ≤ v ∧ v ≤ 1000) : JSp mX1_valueOfItem 0 0 [(0, k), (0, x), (0, v)] σ (jrv (jvi k x v) σ) jno := by
  refine JSp.of [(0, k), (0, x), (0, v)] rfl (by decide +kernel) rfl rfl rfl (fun l E hA => ?_)
  refine V.iload_n dX1_valueOfItem_0 rfl ?_
  by_cases h103 : k = 103
  · subst h103
    refine V.lookup (tgt := 35) dX1_valueOfItem_1 (by decide) (off := 34) (by decide) (by decide) ?_
    refine V.iload_n dX1_valueOfItem_35 rfl ?_
    exact V.iret (jret_i dX1_valueOfItem_36 rfl) ⟨jsm (by simp [jvi]), rfl⟩
  by_cases h111 : k = 111
  · subst h111
    refine V.lookup (tgt := 28) dX1_valueOfItem_1 (by decide) (off := 27) (by decide) (by decide) ?_
    refine V.bipush dX1_valueOfItem_28 ⟨by decide, by decide⟩ ?_
    refine V.iload_n dX1_valueOfItem_30 rfl ?_
    refine V.imul dX1_valueOfItem_31 ⟨(by omega), (by omega)⟩ ?_
    refine V.iload_n dX1_valueOfItem_32 rfl ?_
    refine V.iadd dX1_valueOfItem_33 ⟨(by omega), (by omega)⟩ ?_
    exact V.iret (jret_i dX1_valueOfItem_34 rfl) ⟨jsm (by simp [jvi]), rfl⟩
  refine V.lookup (tgt := 37) dX1_valueOfItem_1 (by decide) (off := 36) (by simp [Op.lookupswitch.offset, Ne.symm h103, Ne.symm h111]) (by decide) ?_
  refine V.iload_n dX1_valueOfItem_37 rfl ?_
  exact V.iret (jret_i dX1_valueOfItem_38 rfl) ⟨jsm (by simp [jvi, h103, h111]), rfl⟩
/-- which fault a line has, if any -/
def jfau (σ : JM) (x k : Int) : Int := if jgo k < jval σ (jat σ 9 80 x) ∨ jgo k < jval σ (jat σ 10 80 x) then 97 else if k = 108 ∧ jlb σ (jsco σ (jat σ 9 80 x)) (jval σ (jat σ 9 80 x)) ≠ -1 then 100 else if 1000 ≤ σ 4 8 ∨ (k ≠ 67 ∧ ¬ jgrp k) ∧ 200 ≤ σ 2 6 then 102 else 110
theorem sp_X1_faultAt {σ : JM} {x k : Int} (h0 : 0 ≤ σ 4 7) (h1 : σ 4 7 ≤ 8) (h2 : 0 ≤ σ 3 5) (h3 : σ 3 5 ≤ 81) (hs : k = 108 → -100 ≤ jsco σ (jat σ 9 80 x) ∧ jsco σ (jat σ 9 80 x) ≤ 1000) : JSp mX1_faultAt 3 0 [(2, 4), (0, x), (0, k)] σ (jrv (jfau σ x k) σ) jno := by
  refine JSp.of [(2, 4), (0, x), (0, k), (9, 0), (9, 0), (9, 0)] rfl (by decide +kernel) rfl rfl rfl (fun l E hA => ?_)
  refine V.aload_n dX1_faultAt_0 rfl ?_
  refine V.getR fa_X1_28 rfl dX1_faultAt_1 ?_
  refine V.iload_n dX1_faultAt_4 rfl ?_
  refine V.cV [_] rfl kc_X1_118 rfl dX1_faultAt_5 (by decide) rfl rfl (sp_X5_first) (fun _ => ?_)
  refine V.istore_n (L' := [_, _, _, _, _, _]) dX1_faultAt_8 rfl rfl ?_
  refine V.iload_n dX1_faultAt_9 rfl ?_
  refine V.cN [_] rfl kc_X1_121 dX1_faultAt_10 (by decide) rfl rfl (sp_X6_greatestOperand) (fun _ => ?_)
  refine V.istore (L' := [_, _, _, _, _, _]) dX1_faultAt_13 rfl rfl ?_
  refine V.aload_n dX1_faultAt_15 rfl ?_
  refine V.iload_n dX1_faultAt_16 rfl ?_
  refine V.cV [_] rfl kc_X1_124 rfl dX1_faultAt_17 (by decide) rfl rfl (sp_X1_valueOf h0 h1) (fun _ => ?_)
  refine V.iload dX1_faultAt_20 rfl ?_
  refine V.icmp_gt (tgt := 42) dX1_faultAt_22 (by decide) (fun h22 => ?_) (fun h22 => ?_)
  · refine V.bipush dX1_faultAt_42 ⟨by decide, by decide⟩ ?_
    exact V.iret (jret_i dX1_faultAt_44 rfl) ⟨jsm (by (try simp only [jb0, jb1] at *); unfold jfau; (repeat' split) <;> first | rfl | omega), rfl⟩
  · refine V.aload_n dX1_faultAt_25 rfl ?_
    refine V.aload_n dX1_faultAt_26 rfl ?_
    refine V.getR fa_X1_28 rfl dX1_faultAt_27 ?_
    refine V.iload_n dX1_faultAt_30 rfl ?_
    refine V.cV [_] rfl kc_X1_127 rfl dX1_faultAt_31 (by decide) rfl rfl (sp_X5_second) (fun _ => ?_)
    refine V.cV [_] rfl kc_X1_124 rfl dX1_faultAt_34 (by decide) rfl rfl (sp_X1_valueOf h0 h1) (fun _ => ?_)
    refine V.iload dX1_faultAt_37 rfl ?_
    refine V.icmp_le (tgt := 45) dX1_faultAt_39 (by decide) (fun h39 => ?_) (fun h39 => ?_)
    · refine V.iload_n dX1_faultAt_45 rfl ?_
      refine V.bipush dX1_faultAt_46 ⟨by decide, by decide⟩ ?_
      refine V.icmp_ne (tgt := 75) dX1_faultAt_48 (by decide) (fun h48 => ?_) (fun h48 => ?_)
      · refine V.iload_n dX1_faultAt_75 rfl ?_
        refine V.bipush dX1_faultAt_76 ⟨by decide, by decide⟩ ?_
        refine V.icmp_eq (tgt := 92) dX1_faultAt_78 (by decide) (fun h78 => ?_) (fun h78 => ?_)
        · refine V.iconst dX1_faultAt_92 ⟨by decide, by decide⟩ ?_
          refine V.istore (L' := [_, _, _, _, _, _]) dX1_faultAt_93 rfl rfl ?_
          refine V.aload_n dX1_faultAt_95 rfl ?_
          refine V.getI fa_X1_56 (by decide) rfl dX1_faultAt_96 (fun _ => ?_)
          refine V.sipush dX1_faultAt_99 ⟨by decide, by decide⟩ ?_
          refine V.icmp_ge (tgt := 120) dX1_faultAt_102 (by decide) (fun h102 => ?_) (fun h102 => ?_)
          · refine V.bipush dX1_faultAt_120 ⟨by decide, by decide⟩ ?_
            refine V.goto (tgt := 127) dX1_faultAt_122 (by decide) ?_
            exact V.iret (jret_i dX1_faultAt_127 rfl) ⟨jsm (by (try simp only [jb0, jb1] at *); unfold jfau; (repeat' split) <;> first | rfl | omega), rfl⟩
          · refine V.iload dX1_faultAt_105 rfl ?_
            refine V.if_eq (tgt := 125) dX1_faultAt_107 (by decide) (fun h107 => ?_) (fun h107 => ?_)
            · refine V.bipush dX1_faultAt_125 ⟨by decide, by decide⟩ ?_
              exact V.iret (jret_i dX1_faultAt_127 rfl) ⟨jsm (by (try simp only [jb0, jb1] at *); unfold jfau; (repeat' split) <;> first | rfl | omega), rfl⟩
            · refine V.aload_n dX1_faultAt_110 rfl ?_
              refine V.getR fa_X1_32 rfl dX1_faultAt_111 ?_
              refine V.cV [] rfl kc_X1_136 rfl dX1_faultAt_114 (by decide) rfl rfl (sp_X3_isFull) (fun _ => ?_)
              refine V.if_eq (tgt := 125) dX1_faultAt_117 (by decide) (fun h117 => ?_) (fun h117 => ?_)
              · refine V.bipush dX1_faultAt_125 ⟨by decide, by decide⟩ ?_
                exact V.iret (jret_i dX1_faultAt_127 rfl) ⟨jsm (by (try simp only [jb0, jb1] at *); unfold jfau; (repeat' split) <;> first | rfl | omega), rfl⟩
              · refine V.bipush dX1_faultAt_120 ⟨by decide, by decide⟩ ?_
                refine V.goto (tgt := 127) dX1_faultAt_122 (by decide) ?_
                exact V.iret (jret_i dX1_faultAt_127 rfl) ⟨jsm (by (try simp only [jb0, jb1] at *); unfold jfau; (repeat' split) <;> first | rfl | omega), rfl⟩
        · refine V.iload_n dX1_faultAt_81 rfl ?_
          refine V.cN [_] rfl kc_X1_108 dX1_faultAt_82 (by decide) rfl rfl (sp_X6_beginsGroup) (fun _ => ?_)
          refine V.if_ne (tgt := 92) dX1_faultAt_85 (by decide) (fun h85 => ?_) (fun h85 => ?_)
          · refine V.iconst dX1_faultAt_92 ⟨by decide, by decide⟩ ?_
            refine V.istore (L' := [_, _, _, _, _, _]) dX1_faultAt_93 rfl rfl ?_
            refine V.aload_n dX1_faultAt_95 rfl ?_
            refine V.getI fa_X1_56 (by decide) rfl dX1_faultAt_96 (fun _ => ?_)
            refine V.sipush dX1_faultAt_99 ⟨by decide, by decide⟩ ?_
            refine V.icmp_ge (tgt := 120) dX1_faultAt_102 (by decide) (fun h102 => ?_) (fun h102 => ?_)
            · refine V.bipush dX1_faultAt_120 ⟨by decide, by decide⟩ ?_
              refine V.goto (tgt := 127) dX1_faultAt_122 (by decide) ?_
              exact V.iret (jret_i dX1_faultAt_127 rfl) ⟨jsm (by (try simp only [jb0, jb1] at *); unfold jfau; (repeat' split) <;> first | rfl | omega), rfl⟩
            · refine V.iload dX1_faultAt_105 rfl ?_
              refine V.if_eq (tgt := 125) dX1_faultAt_107 (by decide) (fun h107 => ?_) (fun h107 => ?_)
              · refine V.bipush dX1_faultAt_125 ⟨by decide, by decide⟩ ?_
                exact V.iret (jret_i dX1_faultAt_127 rfl) ⟨jsm (by (try simp only [jb0, jb1] at *); unfold jfau; (repeat' split) <;> first | rfl | omega), rfl⟩
              · refine V.aload_n dX1_faultAt_110 rfl ?_
                refine V.getR fa_X1_32 rfl dX1_faultAt_111 ?_
                refine V.cV [] rfl kc_X1_136 rfl dX1_faultAt_114 (by decide) rfl rfl (sp_X3_isFull) (fun _ => ?_)
                refine V.if_eq (tgt := 125) dX1_faultAt_117 (by decide) (fun h117 => ?_) (fun h117 => ?_)
                · refine V.bipush dX1_faultAt_125 ⟨by decide, by decide⟩ ?_
                  exact V.iret (jret_i dX1_faultAt_127 rfl) ⟨jsm (by (try simp only [jb0, jb1] at *); unfold jfau; (repeat' split) <;> first | rfl | omega), rfl⟩
                · refine V.bipush dX1_faultAt_120 ⟨by decide, by decide⟩ ?_
                  refine V.goto (tgt := 127) dX1_faultAt_122 (by decide) ?_
                  exact V.iret (jret_i dX1_faultAt_127 rfl) ⟨jsm (by (try simp only [jb0, jb1] at *); unfold jfau; (repeat' split) <;> first | rfl | omega), rfl⟩
          · refine V.iconst dX1_faultAt_88 ⟨by decide, by decide⟩ ?_
            refine V.goto (tgt := 93) dX1_faultAt_89 (by decide) ?_
            refine V.istore (L' := [_, _, _, _, _, _]) dX1_faultAt_93 rfl rfl ?_
            refine V.aload_n dX1_faultAt_95 rfl ?_
            refine V.getI fa_X1_56 (by decide) rfl dX1_faultAt_96 (fun _ => ?_)
            refine V.sipush dX1_faultAt_99 ⟨by decide, by decide⟩ ?_
            refine V.icmp_ge (tgt := 120) dX1_faultAt_102 (by decide) (fun h102 => ?_) (fun h102 => ?_)
            · refine V.bipush dX1_faultAt_120 ⟨by decide, by decide⟩ ?_
              refine V.goto (tgt := 127) dX1_faultAt_122 (by decide) ?_
              exact V.iret (jret_i dX1_faultAt_127 rfl) ⟨jsm (by (try simp only [jb0, jb1] at *); unfold jfau; (repeat' split) <;> first | rfl | omega), rfl⟩
            · refine V.iload dX1_faultAt_105 rfl ?_
              refine V.if_eq (tgt := 125) dX1_faultAt_107 (by decide) (fun h107 => ?_) (fun h107 => ?_)
              · refine V.bipush dX1_faultAt_125 ⟨by decide, by decide⟩ ?_
                exact V.iret (jret_i dX1_faultAt_127 rfl) ⟨jsm (by (try simp only [jb0, jb1] at *); unfold jfau; (repeat' split) <;> first | rfl | omega), rfl⟩
              · refine V.aload_n dX1_faultAt_110 rfl ?_
                refine V.getR fa_X1_32 rfl dX1_faultAt_111 ?_
                refine V.cV [] rfl kc_X1_136 rfl dX1_faultAt_114 (by decide) rfl rfl (sp_X3_isFull) (fun _ => ?_)
                refine V.if_eq (tgt := 125) dX1_faultAt_117 (by decide) (fun h117 => ?_) (fun h117 => ?_)
                · refine V.bipush dX1_faultAt_125 ⟨by decide, by decide⟩ ?_
                  exact V.iret (jret_i dX1_faultAt_127 rfl) ⟨jsm (by (try simp only [jb0, jb1] at *); unfold jfau; (repeat' split) <;> first | rfl | omega), rfl⟩
                · refine V.bipush dX1_faultAt_120 ⟨by decide, by decide⟩ ?_
                  refine V.goto (tgt := 127) dX1_faultAt_122 (by decide) ?_
                  exact V.iret (jret_i dX1_faultAt_127 rfl) ⟨jsm (by (try simp only [jb0, jb1] at *); unfold jfau; (repeat' split) <;> first | rfl | omega), rfl⟩
      · refine V.aload_n dX1_faultAt_51 rfl ?_
        refine V.getR fa_X1_36 rfl dX1_faultAt_52 ?_
        refine V.aload_n dX1_faultAt_55 rfl ?_
        refine V.iload_n dX1_faultAt_56 rfl ?_
        refine V.cV [_] rfl kc_X1_130 rfl dX1_faultAt_57 (by decide) rfl rfl (sp_X1_scopeOf h0 h1 h2 h3) (fun _ => ?_)
        refine V.aload_n dX1_faultAt_60 rfl ?_
        refine V.iload_n dX1_faultAt_61 rfl ?_
        refine V.cV [_] rfl kc_X1_124 rfl dX1_faultAt_62 (by decide) rfl rfl (sp_X1_valueOf h0 h1) (fun _ => ?_)
        refine V.cV [_, _] rfl kc_X1_133 rfl dX1_faultAt_65 (by decide) rfl rfl (sp_X4_labelIn (hs h48).1 (hs h48).2) (fun _ => ?_)
        refine V.iconst dX1_faultAt_68 ⟨by decide, by decide⟩ ?_
        refine V.icmp_eq (tgt := 75) dX1_faultAt_69 (by decide) (fun h69 => ?_) (fun h69 => ?_)
        · refine V.iload_n dX1_faultAt_75 rfl ?_
          refine V.bipush dX1_faultAt_76 ⟨by decide, by decide⟩ ?_
          refine V.icmp_eq (tgt := 92) dX1_faultAt_78 (by decide) (fun h78 => ?_) (fun h78 => ?_)
          · refine V.iconst dX1_faultAt_92 ⟨by decide, by decide⟩ ?_
            refine V.istore (L' := [_, _, _, _, _, _]) dX1_faultAt_93 rfl rfl ?_
            refine V.aload_n dX1_faultAt_95 rfl ?_
            refine V.getI fa_X1_56 (by decide) rfl dX1_faultAt_96 (fun _ => ?_)
            refine V.sipush dX1_faultAt_99 ⟨by decide, by decide⟩ ?_
            refine V.icmp_ge (tgt := 120) dX1_faultAt_102 (by decide) (fun h102 => ?_) (fun h102 => ?_)
            · refine V.bipush dX1_faultAt_120 ⟨by decide, by decide⟩ ?_
              refine V.goto (tgt := 127) dX1_faultAt_122 (by decide) ?_
              exact V.iret (jret_i dX1_faultAt_127 rfl) ⟨jsm (by (try simp only [jb0, jb1] at *); unfold jfau; (repeat' split) <;> first | rfl | omega), rfl⟩
            · refine V.iload dX1_faultAt_105 rfl ?_
              refine V.if_eq (tgt := 125) dX1_faultAt_107 (by decide) (fun h107 => ?_) (fun h107 => ?_)
              · refine V.bipush dX1_faultAt_125 ⟨by decide, by decide⟩ ?_
                exact V.iret (jret_i dX1_faultAt_127 rfl) ⟨jsm (by (try simp only [jb0, jb1] at *); unfold jfau; (repeat' split) <;> first | rfl | omega), rfl⟩
              · refine V.aload_n dX1_faultAt_110 rfl ?_
                refine V.getR fa_X1_32 rfl dX1_faultAt_111 ?_
                refine V.cV [] rfl kc_X1_136 rfl dX1_faultAt_114 (by decide) rfl rfl (sp_X3_isFull) (fun _ => ?_)
                refine V.if_eq (tgt := 125) dX1_faultAt_117 (by decide) (fun h117 => ?_) (fun h117 => ?_)
                · refine V.bipush dX1_faultAt_125 ⟨by decide, by decide⟩ ?_
                  exact V.iret (jret_i dX1_faultAt_127 rfl) ⟨jsm (by (try simp only [jb0, jb1] at *); unfold jfau; (repeat' split) <;> first | rfl | omega), rfl⟩
                · refine V.bipush dX1_faultAt_120 ⟨by decide, by decide⟩ ?_
                  refine V.goto (tgt := 127) dX1_faultAt_122 (by decide) ?_
                  exact V.iret (jret_i dX1_faultAt_127 rfl) ⟨jsm (by (try simp only [jb0, jb1] at *); unfold jfau; (repeat' split) <;> first | rfl | omega), rfl⟩
          · refine V.iload_n dX1_faultAt_81 rfl ?_
            refine V.cN [_] rfl kc_X1_108 dX1_faultAt_82 (by decide) rfl rfl (sp_X6_beginsGroup) (fun _ => ?_)
            refine V.if_ne (tgt := 92) dX1_faultAt_85 (by decide) (fun h85 => ?_) (fun h85 => ?_)
            · refine V.iconst dX1_faultAt_92 ⟨by decide, by decide⟩ ?_
              refine V.istore (L' := [_, _, _, _, _, _]) dX1_faultAt_93 rfl rfl ?_
              refine V.aload_n dX1_faultAt_95 rfl ?_
              refine V.getI fa_X1_56 (by decide) rfl dX1_faultAt_96 (fun _ => ?_)
              refine V.sipush dX1_faultAt_99 ⟨by decide, by decide⟩ ?_
              refine V.icmp_ge (tgt := 120) dX1_faultAt_102 (by decide) (fun h102 => ?_) (fun h102 => ?_)
              · refine V.bipush dX1_faultAt_120 ⟨by decide, by decide⟩ ?_
                refine V.goto (tgt := 127) dX1_faultAt_122 (by decide) ?_
                exact V.iret (jret_i dX1_faultAt_127 rfl) ⟨jsm (by (try simp only [jb0, jb1] at *); unfold jfau; (repeat' split) <;> first | rfl | omega), rfl⟩
              · refine V.iload dX1_faultAt_105 rfl ?_
                refine V.if_eq (tgt := 125) dX1_faultAt_107 (by decide) (fun h107 => ?_) (fun h107 => ?_)
                · refine V.bipush dX1_faultAt_125 ⟨by decide, by decide⟩ ?_
                  exact V.iret (jret_i dX1_faultAt_127 rfl) ⟨jsm (by (try simp only [jb0, jb1] at *); unfold jfau; (repeat' split) <;> first | rfl | omega), rfl⟩
                · refine V.aload_n dX1_faultAt_110 rfl ?_
                  refine V.getR fa_X1_32 rfl dX1_faultAt_111 ?_
                  refine V.cV [] rfl kc_X1_136 rfl dX1_faultAt_114 (by decide) rfl rfl (sp_X3_isFull) (fun _ => ?_)
                  refine V.if_eq (tgt := 125) dX1_faultAt_117 (by decide) (fun h117 => ?_) (fun h117 => ?_)
                  · refine V.bipush dX1_faultAt_125 ⟨by decide, by decide⟩ ?_
                    exact V.iret (jret_i dX1_faultAt_127 rfl) ⟨jsm (by (try simp only [jb0, jb1] at *); unfold jfau; (repeat' split) <;> first | rfl | omega), rfl⟩
                  · refine V.bipush dX1_faultAt_120 ⟨by decide, by decide⟩ ?_
                    refine V.goto (tgt := 127) dX1_faultAt_122 (by decide) ?_
                    exact V.iret (jret_i dX1_faultAt_127 rfl) ⟨jsm (by (try simp only [jb0, jb1] at *); unfold jfau; (repeat' split) <;> first | rfl | omega), rfl⟩
            · refine V.iconst dX1_faultAt_88 ⟨by decide, by decide⟩ ?_
              refine V.goto (tgt := 93) dX1_faultAt_89 (by decide) ?_
              refine V.istore (L' := [_, _, _, _, _, _]) dX1_faultAt_93 rfl rfl ?_
              refine V.aload_n dX1_faultAt_95 rfl ?_
              refine V.getI fa_X1_56 (by decide) rfl dX1_faultAt_96 (fun _ => ?_)
              refine V.sipush dX1_faultAt_99 ⟨by decide, by decide⟩ ?_
              refine V.icmp_ge (tgt := 120) dX1_faultAt_102 (by decide) (fun h102 => ?_) (fun h102 => ?_)
              · refine V.bipush dX1_faultAt_120 ⟨by decide, by decide⟩ ?_
                refine V.goto (tgt := 127) dX1_faultAt_122 (by decide) ?_
                exact V.iret (jret_i dX1_faultAt_127 rfl) ⟨jsm (by (try simp only [jb0, jb1] at *); unfold jfau; (repeat' split) <;> first | rfl | omega), rfl⟩
              · refine V.iload dX1_faultAt_105 rfl ?_
                refine V.if_eq (tgt := 125) dX1_faultAt_107 (by decide) (fun h107 => ?_) (fun h107 => ?_)
                · refine V.bipush dX1_faultAt_125 ⟨by decide, by decide⟩ ?_
                  exact V.iret (jret_i dX1_faultAt_127 rfl) ⟨jsm (by (try simp only [jb0, jb1] at *); unfold jfau; (repeat' split) <;> first | rfl | omega), rfl⟩
                · refine V.aload_n dX1_faultAt_110 rfl ?_
                  refine V.getR fa_X1_32 rfl dX1_faultAt_111 ?_
                  refine V.cV [] rfl kc_X1_136 rfl dX1_faultAt_114 (by decide) rfl rfl (sp_X3_isFull) (fun _ => ?_)
                  refine V.if_eq (tgt := 125) dX1_faultAt_117 (by decide) (fun h117 => ?_) (fun h117 => ?_)
                  · refine V.bipush dX1_faultAt_125 ⟨by decide, by decide⟩ ?_
                    exact V.iret (jret_i dX1_faultAt_127 rfl) ⟨jsm (by (try simp only [jb0, jb1] at *); unfold jfau; (repeat' split) <;> first | rfl | omega), rfl⟩
                  · refine V.bipush dX1_faultAt_120 ⟨by decide, by decide⟩ ?_
                    refine V.goto (tgt := 127) dX1_faultAt_122 (by decide) ?_
                    exact V.iret (jret_i dX1_faultAt_127 rfl) ⟨jsm (by (try simp only [jb0, jb1] at *); unfold jfau; (repeat' split) <;> first | rfl | omega), rfl⟩
        · refine V.bipush dX1_faultAt_72 ⟨by decide, by decide⟩ ?_
          exact V.iret (jret_i dX1_faultAt_74 rfl) ⟨jsm (by (try simp only [jb0, jb1] at *); unfold jfau; (repeat' split) <;> first | rfl | omega), rfl⟩
    · refine V.bipush dX1_faultAt_42 ⟨by decide, by decide⟩ ?_
      exact V.iret (jret_i dX1_faultAt_44 rfl) ⟨jsm (by (try simp only [jb0, jb1] at *); unfold jfau; (repeat' split) <;> first | rfl | omega), rfl⟩
def jAdd2 (σ : JM) (x k : Int) : JM :=
  let v := jval σ (jat σ 9 80 x)
  let s := jsco σ (jat σ 9 80 x)
  let σ1 := jItm σ x k (σ 4 7) (jvi k (jat σ 11 80 x) v)
  let σ2 := if k = 108 then jset σ1 21 (s * 20 + v) (σ 2 6) else σ1
  jset σ2 24 (σ 2 6) (if jref k then s else -1)
theorem sp_X1_addItem {σ : JM} {x k : Int} (h0 : 0 ≤ σ 4 7) (h1 : σ 4 7 ≤ 8) (h2 : 0 ≤ σ 3 5) (h3 : σ 3 5 ≤ 81) (h4 : 0 ≤ σ 2 6) (h5 : σ 2 6 < 200) (hx : 0 ≤ jat σ 11 80 x ∧ jat σ 11 80 x ≤ 1000) (hv : 0 ≤ jval σ (jat σ 9 80 x) ∧ jval σ (jat σ 9 80 x) ≤ 1000)
    (hs : k = 108 → (0 ≤ jsco σ (jat σ 9 80 x) ∧ jsco σ (jat σ 9 80 x) < 81) ∧ jval σ (jat σ 9 80 x) < 20) : JSp mX1_addItem 3 0 [(2, 4), (0, x), (0, k)] σ (jvv (jAdd2 σ x k)) jno := by
  obtain ⟨τ, hτ⟩ : ∃ τ, jItm σ x k (σ 4 7) (jvi k (jat σ 11 80 x) (jval σ (jat σ 9 80 x))) = τ := ⟨_, rfl⟩
  have e1 : jsco τ (jat σ 9 80 x) = jsco σ (jat σ 9 80 x) := by rw [← hτ]; rfl
  have e2 : ∀ y v, jsco (jset τ 21 y v) (jat σ 9 80 x) = jsco σ (jat σ 9 80 x) := fun y v => by rw [← hτ]; rfl
  have e3 : 0 ≤ τ 4 7 ∧ τ 4 7 ≤ 8 ∧ 0 ≤ τ 3 5 ∧ τ 3 5 ≤ 81 := by rw [← hτ]; exact ⟨h0, h1, h2, h3⟩
  have eF : jAdd2 σ x k = jset (if k = 108 then jset τ 21 (jsco σ (jat σ 9 80 x) * 20 + jval σ (jat σ 9 80 x)) (σ 2 6) else τ) 24 (σ 2 6) (if jref k then jsco σ (jat σ 9 80 x) else -1) := by rw [← hτ]; rfl
  rw [eF]
  refine JSp.of [(2, 4), (0, x), (0, k), (9, 0), (9, 0), (9, 0)] rfl (by decide +kernel) rfl rfl rfl (fun l E hA => ?_)
  refine V.aload_n dX1_addItem_0 rfl ?_
  refine V.getR fa_X1_28 rfl dX1_addItem_1 ?_
  refine V.iload_n dX1_addItem_4 rfl ?_
  refine V.cV [_] rfl kc_X1_118 rfl dX1_addItem_5 (by decide) rfl rfl (sp_X5_first) (fun _ => ?_)
  refine V.istore_n (L' := [_, _, _, _, _, _]) dX1_addItem_8 rfl rfl ?_
  refine V.aload_n dX1_addItem_9 rfl ?_
  refine V.iload_n dX1_addItem_10 rfl ?_
  refine V.cV [_] rfl kc_X1_124 rfl dX1_addItem_11 (by decide) rfl rfl (sp_X1_valueOf h0 h1) (fun _ => ?_)
  refine V.istore (L' := [_, _, _, _, _, _]) dX1_addItem_14 rfl rfl ?_
  refine V.aload_n dX1_addItem_16 rfl ?_
  refine V.getR fa_X1_32 rfl dX1_addItem_17 ?_
  refine V.iload_n dX1_addItem_20 rfl ?_
  refine V.iload_n dX1_addItem_21 rfl ?_
  refine V.aload_n dX1_addItem_22 rfl ?_
  refine V.getI fa_X1_53 (by decide) rfl dX1_addItem_23 (fun _ => ?_)
  refine V.iload_n dX1_addItem_26 rfl ?_
  refine V.aload_n dX1_addItem_27 rfl ?_
  refine V.getR fa_X1_28 rfl dX1_addItem_28 ?_
  refine V.iload_n dX1_addItem_31 rfl ?_
  refine V.cV [_] rfl kc_X1_140 rfl dX1_addItem_32 (by decide) rfl rfl (sp_X5_fixed) (fun _ => ?_)
  refine V.iload dX1_addItem_35 rfl ?_
  refine V.cS [_, _, _] rfl kc_X1_143 dX1_addItem_37 (by decide) rfl rfl (sp_X1_valueOfItem hx hv) (fun _ => ?_)
  refine V.cV [_, _, _, _] rfl kc_X1_147 rfl dX1_addItem_40 (by decide) rfl rfl (sp_X3_add h4 h5) (fun _ => ?_)
  rw [hτ]
  refine V.istore (L' := [_, _, _, _, _, _]) dX1_addItem_43 rfl rfl ?_
  refine V.iload_n dX1_addItem_45 rfl ?_
  refine V.bipush dX1_addItem_46 ⟨by decide, by decide⟩ ?_
  refine V.icmp_ne (tgt := 67) dX1_addItem_48 (by decide) (fun h48 => ?_) (fun h48 => ?_)
  · refine V.aload_n dX1_addItem_67 rfl ?_
    refine V.getR fa_X1_36 rfl dX1_addItem_68 ?_
    refine V.iload dX1_addItem_71 rfl ?_
    refine V.iload_n dX1_addItem_73 rfl ?_
    refine V.cN [_] rfl kc_X1_155 dX1_addItem_74 (by decide) rfl rfl (sp_X6_isReference) (fun _ => ?_)
    refine V.if_eq (tgt := 88) dX1_addItem_77 (by decide) (fun h77 => ?_) (fun h77 => ?_)
    · refine V.iconst dX1_addItem_88 ⟨by decide, by decide⟩ ?_
      refine V.cV0 [_, _] rfl kc_X1_158 rfl dX1_addItem_89 (by decide) rfl rfl (sp_X4_setHome h4 h5) ?_
      exact V.vret (jret_v dX1_addItem_92 rfl) ⟨rfl, by (try simp only [jb0, jb1] at *); first | (rw [if_pos h48, if_pos h77]) | (rw [if_pos h48, if_neg h77]) | (rw [if_neg h48, if_pos h77]) | (rw [if_neg h48, if_neg h77])⟩
    · refine V.aload_n dX1_addItem_80 rfl ?_
      refine V.iload_n dX1_addItem_81 rfl ?_
      refine V.cV [_] rfl kc_X1_130 rfl dX1_addItem_82 (by decide) rfl rfl (sp_X1_scopeOf (by first | exact e3.1 | (show 0 ≤ τ 4 7; exact e3.1)) (by first | exact e3.2.1 | (show τ 4 7 ≤ 8; exact e3.2.1)) (by first | exact e3.2.2.1 | (show 0 ≤ τ 3 5; exact e3.2.2.1)) (by first | exact e3.2.2.2 | (show τ 3 5 ≤ 81; exact e3.2.2.2))) (fun _ => ?_)
      first
      | rw [e1]
      | rw [e2]
      refine V.goto (tgt := 89) dX1_addItem_85 (by decide) ?_
      refine V.cV0 [_, _] rfl kc_X1_158 rfl dX1_addItem_89 (by decide) rfl rfl (sp_X4_setHome h4 h5) ?_
      exact V.vret (jret_v dX1_addItem_92 rfl) ⟨rfl, by (try simp only [jb0, jb1] at *); first | (rw [if_pos h48, if_pos h77]) | (rw [if_pos h48, if_neg h77]) | (rw [if_neg h48, if_pos h77]) | (rw [if_neg h48, if_neg h77])⟩
  · refine V.aload_n dX1_addItem_51 rfl ?_
    refine V.getR fa_X1_36 rfl dX1_addItem_52 ?_
    refine V.aload_n dX1_addItem_55 rfl ?_
    refine V.iload_n dX1_addItem_56 rfl ?_
    refine V.cV [_] rfl kc_X1_130 rfl dX1_addItem_57 (by decide) rfl rfl (sp_X1_scopeOf e3.1 e3.2.1 e3.2.2.1 e3.2.2.2) (fun _ => ?_)
    rw [e1]
    refine V.iload dX1_addItem_60 rfl ?_
    refine V.iload dX1_addItem_62 rfl ?_
    refine V.cV0 [_, _, _] rfl kc_X1_151 rfl dX1_addItem_64 (by decide) rfl rfl (sp_X4_define (hs h48).1.1 (hs h48).1.2 hv.1 (hs h48).2) ?_
    refine V.aload_n dX1_addItem_67 rfl ?_
    refine V.getR fa_X1_36 rfl dX1_addItem_68 ?_
    refine V.iload dX1_addItem_71 rfl ?_
    refine V.iload_n dX1_addItem_73 rfl ?_
    refine V.cN [_] rfl kc_X1_155 dX1_addItem_74 (by decide) rfl rfl (sp_X6_isReference) (fun _ => ?_)
    refine V.if_eq (tgt := 88) dX1_addItem_77 (by decide) (fun h77 => ?_) (fun h77 => ?_)
    · refine V.iconst dX1_addItem_88 ⟨by decide, by decide⟩ ?_
      refine V.cV0 [_, _] rfl kc_X1_158 rfl dX1_addItem_89 (by decide) rfl rfl (sp_X4_setHome h4 h5) ?_
      exact V.vret (jret_v dX1_addItem_92 rfl) ⟨rfl, by (try simp only [jb0, jb1] at *); first | (rw [if_pos h48, if_pos h77]) | (rw [if_pos h48, if_neg h77]) | (rw [if_neg h48, if_pos h77]) | (rw [if_neg h48, if_neg h77])⟩
    · refine V.aload_n dX1_addItem_80 rfl ?_
      refine V.iload_n dX1_addItem_81 rfl ?_
      refine V.cV [_] rfl kc_X1_130 rfl dX1_addItem_82 (by decide) rfl rfl (sp_X1_scopeOf (by first | exact e3.1 | (show 0 ≤ τ 4 7; exact e3.1)) (by first | exact e3.2.1 | (show τ 4 7 ≤ 8; exact e3.2.1)) (by first | exact e3.2.2.1 | (show 0 ≤ τ 3 5; exact e3.2.2.1)) (by first | exact e3.2.2.2 | (show τ 3 5 ≤ 81; exact e3.2.2.2))) (fun _ => ?_)
      first
      | rw [e1]
      | rw [e2]
      refine V.goto (tgt := 89) dX1_addItem_85 (by decide) ?_
      refine V.cV0 [_, _] rfl kc_X1_158 rfl dX1_addItem_89 (by decide) rfl rfl (sp_X4_setHome h4 h5) ?_
      exact V.vret (jret_v dX1_addItem_92 rfl) ⟨rfl, by (try simp only [jb0, jb1] at *); first | (rw [if_pos h48, if_pos h77]) | (rw [if_pos h48, if_neg h77]) | (rw [if_neg h48, if_pos h77]) | (rw [if_neg h48, if_neg h77])⟩
def jrn (σ : JM) (x : Int) : Int := jrnd σ x (jat σ 27 18 (2 * σ 4 7)) (jat σ 27 18 (2 * σ 4 7 + 1))
theorem sp_X1_beginGroup0 {σ : JM} {x k : Int} (h0 : 0 ≤ σ 4 7) (h1 : σ 4 7 ≤ 8) (hr : jrn σ x = 0) (hp : 0 ≤ jat σ 12 80 x ∧ jat σ 12 80 x ≤ 1000) : JSp mX1_beginGroup 4 0 [(2, 4), (0, x), (0, k)] σ (jrv (jat σ 12 80 x + 1) σ) jno := by
  refine JSp.of [(2, 4), (0, x), (0, k), (9, 0)] rfl (by decide +kernel) rfl rfl rfl (fun l E hA => ?_)
  refine V.aload_n dX1_beginGroup_0 rfl ?_
  refine V.getR fa_X1_28 rfl dX1_beginGroup_1 ?_
  refine V.iload_n dX1_beginGroup_4 rfl ?_
  refine V.aload_n dX1_beginGroup_5 rfl ?_
  refine V.iconst dX1_beginGroup_6 ⟨by decide, by decide⟩ ?_
  refine V.cV [_] rfl kc_X1_161 rfl dX1_beginGroup_7 (by decide) rfl rfl (sp_X1_argument h0 h1) (fun _ => ?_)
  refine V.aload_n dX1_beginGroup_10 rfl ?_
  refine V.bipush dX1_beginGroup_11 ⟨by decide, by decide⟩ ?_
  refine V.cV [_] rfl kc_X1_161 rfl dX1_beginGroup_13 (by decide) rfl rfl (sp_X1_argument h0 h1) (fun _ => ?_)
  refine V.cV [_, _, _] rfl kc_X1_164 rfl dX1_beginGroup_16 (by decide) rfl rfl (sp_X5_rounds) (fun _ => ?_)
  rw [show jslot (-1) = 0 from rfl, show jslot (-2) = 1 from rfl, Int.add_zero, show jrnd σ x (jat σ 27 18 (2 * σ 4 7)) (jat σ 27 18 (2 * σ 4 7 + 1)) = jrn σ x from rfl]
  refine V.istore_n (L' := [_, _, _, _]) dX1_beginGroup_19 rfl rfl ?_
  refine V.iload_n dX1_beginGroup_20 rfl ?_
  refine V.if_ne (tgt := 35) dX1_beginGroup_21 (by decide) (fun hh => ?_) (fun hh => ?_)
  · exact absurd hr hh
  · refine V.aload_n dX1_beginGroup_24 rfl ?_
    refine V.getR fa_X1_28 rfl dX1_beginGroup_25 ?_
    refine V.iload_n dX1_beginGroup_28 rfl ?_
    refine V.cV [_] rfl kc_X1_92 rfl dX1_beginGroup_29 (by decide) rfl rfl (sp_X5_partner) (fun _ => ?_)
    refine V.iconst dX1_beginGroup_32 ⟨by decide, by decide⟩ ?_
    refine V.iadd dX1_beginGroup_33 ⟨(by omega), (by omega)⟩ ?_
    exact V.iret (jret_i dX1_beginGroup_34 rfl) ⟨rfl, rfl⟩
theorem sp_X1_beginGroupW {σ : JM} {x : Int} (h0 : 0 ≤ σ 4 7) (h1 : σ 4 7 ≤ 8) (hr : jrn σ x ≠ 0) (hx : 0 ≤ x ∧ x < 80) : JSp mX1_beginGroup 4 0 [(2, 4), (0, x), (0, 87)] σ (jrv (x + 1) σ) jno := by
  refine JSp.of [(2, 4), (0, x), (0, 87), (9, 0)] rfl (by decide +kernel) rfl rfl rfl (fun l E hA => ?_)
  refine V.aload_n dX1_beginGroup_0 rfl ?_
  refine V.getR fa_X1_28 rfl dX1_beginGroup_1 ?_
  refine V.iload_n dX1_beginGroup_4 rfl ?_
  refine V.aload_n dX1_beginGroup_5 rfl ?_
  refine V.iconst dX1_beginGroup_6 ⟨by decide, by decide⟩ ?_
  refine V.cV [_] rfl kc_X1_161 rfl dX1_beginGroup_7 (by decide) rfl rfl (sp_X1_argument h0 h1) (fun _ => ?_)
  refine V.aload_n dX1_beginGroup_10 rfl ?_
  refine V.bipush dX1_beginGroup_11 ⟨by decide, by decide⟩ ?_
  refine V.cV [_] rfl kc_X1_161 rfl dX1_beginGroup_13 (by decide) rfl rfl (sp_X1_argument h0 h1) (fun _ => ?_)
  refine V.cV [_, _, _] rfl kc_X1_164 rfl dX1_beginGroup_16 (by decide) rfl rfl (sp_X5_rounds) (fun _ => ?_)
  rw [show jslot (-1) = 0 from rfl, show jslot (-2) = 1 from rfl, Int.add_zero, show jrnd σ x (jat σ 27 18 (2 * σ 4 7)) (jat σ 27 18 (2 * σ 4 7 + 1)) = jrn σ x from rfl]
  refine V.istore_n (L' := [_, _, _, _]) dX1_beginGroup_19 rfl rfl ?_
  refine V.iload_n dX1_beginGroup_20 rfl ?_
  refine V.if_ne (tgt := 35) dX1_beginGroup_21 (by decide) (fun hh => ?_) (fun hh => ?_)
  · refine V.iload_n dX1_beginGroup_35 rfl ?_
    refine V.bipush dX1_beginGroup_36 ⟨by decide, by decide⟩ ?_
    refine V.icmp_eq (tgt := 64) dX1_beginGroup_38 (by decide) (fun hh => ?_) (fun hh => ?_)
    · refine V.iload_n dX1_beginGroup_64 rfl ?_
      refine V.iconst dX1_beginGroup_65 ⟨by decide, by decide⟩ ?_
      refine V.iadd dX1_beginGroup_66 ⟨(by omega), (by omega)⟩ ?_
      exact V.iret (jret_i dX1_beginGroup_67 rfl) ⟨rfl, rfl⟩
    · exact absurd rfl hh
  · exact absurd hh hr
theorem sp_X1_beginGroup {σ : JM} {x k : Int} (h0 : 0 ≤ σ 4 7) (h1 : σ 4 7 ≤ 8) (h2 : 0 ≤ σ 3 5) (h3 : σ 3 5 < 81) (hr : jrn σ x ≠ 0) (hk : k ≠ 87) (hx : 0 ≤ x ∧ x < 80) : JSp mX1_beginGroup 4 0 [(2, 4), (0, x), (0, k)] σ (jrv (x + 1) (jset (jOpn σ (σ 3 5 - 1)) 25 x (jrn σ x))) jno := by
  refine JSp.of [(2, 4), (0, x), (0, k), (9, 0)] rfl (by decide +kernel) rfl rfl rfl (fun l E hA => ?_)
  refine V.aload_n dX1_beginGroup_0 rfl ?_
  refine V.getR fa_X1_28 rfl dX1_beginGroup_1 ?_
  refine V.iload_n dX1_beginGroup_4 rfl ?_
  refine V.aload_n dX1_beginGroup_5 rfl ?_
  refine V.iconst dX1_beginGroup_6 ⟨by decide, by decide⟩ ?_
  refine V.cV [_] rfl kc_X1_161 rfl dX1_beginGroup_7 (by decide) rfl rfl (sp_X1_argument h0 h1) (fun _ => ?_)
  refine V.aload_n dX1_beginGroup_10 rfl ?_
  refine V.bipush dX1_beginGroup_11 ⟨by decide, by decide⟩ ?_
  refine V.cV [_] rfl kc_X1_161 rfl dX1_beginGroup_13 (by decide) rfl rfl (sp_X1_argument h0 h1) (fun _ => ?_)
  refine V.cV [_, _, _] rfl kc_X1_164 rfl dX1_beginGroup_16 (by decide) rfl rfl (sp_X5_rounds) (fun _ => ?_)
  rw [show jslot (-1) = 0 from rfl, show jslot (-2) = 1 from rfl, Int.add_zero, show jrnd σ x (jat σ 27 18 (2 * σ 4 7)) (jat σ 27 18 (2 * σ 4 7 + 1)) = jrn σ x from rfl]
  refine V.istore_n (L' := [_, _, _, _]) dX1_beginGroup_19 rfl rfl ?_
  refine V.iload_n dX1_beginGroup_20 rfl ?_
  refine V.if_ne (tgt := 35) dX1_beginGroup_21 (by decide) (fun hh => ?_) (fun hh => ?_)
  · refine V.iload_n dX1_beginGroup_35 rfl ?_
    refine V.bipush dX1_beginGroup_36 ⟨by decide, by decide⟩ ?_
    refine V.icmp_eq (tgt := 64) dX1_beginGroup_38 (by decide) (fun hh => ?_) (fun hh => ?_)
    · exact absurd hh hk
    · refine V.aload_n dX1_beginGroup_41 rfl ?_
      refine V.getR fa_X1_36 rfl dX1_beginGroup_42 ?_
      refine V.aload_n dX1_beginGroup_45 rfl ?_
      refine V.getR fa_X1_36 rfl dX1_beginGroup_46 ?_
      refine V.cV [] rfl kc_X1_167 rfl dX1_beginGroup_49 (by decide) rfl rfl (sp_X4_current h2 (by omega)) (fun _ => ?_)
      refine V.cV0 [_] rfl kc_X1_170 rfl dX1_beginGroup_52 (by decide) rfl rfl (sp_X4_open h2 h3) ?_
      refine V.aload_n dX1_beginGroup_55 rfl ?_
      refine V.getR fa_X1_9 rfl dX1_beginGroup_56 ?_
      refine V.iload_n dX1_beginGroup_59 rfl ?_
      refine V.iload_n dX1_beginGroup_60 rfl ?_
      refine V.cN0 [_, _, _] rfl kc_X1_174 dX1_beginGroup_61 (by decide) rfl rfl (sp_X6_setAt (k := 25) (N := 80) rfl rfl rfl rfl (hx.1) (hx.2)) ?_
      refine V.iload_n dX1_beginGroup_64 rfl ?_
      refine V.iconst dX1_beginGroup_65 ⟨by decide, by decide⟩ ?_
      refine V.iadd dX1_beginGroup_66 ⟨(by omega), (by omega)⟩ ?_
      exact V.iret (jret_i dX1_beginGroup_67 rfl) ⟨rfl, rfl⟩
  · exact absurd hh hr
theorem sp_X1_endRoundW {σ : JM} {y : Int} (hk : jat σ 8 80 (jat σ 12 80 y) = 87) (hy : 0 ≤ y ∧ y < 80) : JSp mX1_endRound 3 0 [(2, 4), (0, y)] σ (jrv (y + 1) σ) jno := by
  refine JSp.of [(2, 4), (0, y), (9, 0), (9, 0)] rfl (by decide +kernel) rfl rfl rfl (fun l E hA => ?_)
  refine V.aload_n dX1_endRound_0 rfl ?_
  refine V.getR fa_X1_28 rfl dX1_endRound_1 ?_
  refine V.iload_n dX1_endRound_4 rfl ?_
  refine V.cV [_] rfl kc_X1_92 rfl dX1_endRound_5 (by decide) rfl rfl (sp_X5_partner) (fun _ => ?_)
  refine V.istore_n (L' := [_, _, _, _]) dX1_endRound_8 rfl rfl ?_
  refine V.aload_n dX1_endRound_9 rfl ?_
  refine V.getR fa_X1_28 rfl dX1_endRound_10 ?_
  refine V.iload_n dX1_endRound_13 rfl ?_
  refine V.cV [_] rfl kc_X1_89 rfl dX1_endRound_14 (by decide) rfl rfl (sp_X5_kind) (fun _ => ?_)
  refine V.bipush dX1_endRound_17 ⟨by decide, by decide⟩ ?_
  refine V.icmp_ne (tgt := 26) dX1_endRound_19 (by decide) (fun hh => ?_) (fun hh => ?_)
  · exact absurd hk hh
  · refine V.iload_n dX1_endRound_22 rfl ?_
    refine V.iconst dX1_endRound_23 ⟨by decide, by decide⟩ ?_
    refine V.iadd dX1_endRound_24 ⟨(by omega), (by omega)⟩ ?_
    exact V.iret (jret_i dX1_endRound_25 rfl) ⟨rfl, rfl⟩
/-- an end of a round, when no more are left, and when some are -/
def jEr (σ : JM) (b : Int) : JM := jset (jCls σ) 25 b (σ 25 b - 1)
theorem sp_X1_endRound {σ : JM} {y b : Int} (hb : jat σ 12 80 y = b) (hb0 : 0 ≤ b ∧ b < 80) (hk : jat σ 8 80 b ≠ 87) (hy : 0 ≤ y ∧ y < 80) (h0 : 0 < σ 3 5) (h1 : σ 3 5 ≤ 81) (h2 : 0 ≤ σ 23 (σ 3 5 - 1)) (h3 : σ 23 (σ 3 5 - 1) ≤ σ 2 6) (h4 : σ 2 6 ≤ 200) (hr : 0 ≤ σ 25 b ∧ σ 25 b ≤ 1000) :
    JSp mX1_endRound 4 0 [(2, 4), (0, y)] σ (jrv (if σ 25 b - 1 ≤ 0 then y + 1 else b + 1) (if σ 25 b - 1 ≤ 0 then jEr σ b else jOpn (jEr σ b) (σ 3 5 - 2))) jno := by
  have e1 : jat (jCls σ) 25 80 b = σ 25 b := by
    rw [jat_in hb0.1 hb0.2]
    unfold jCls
    rw [jset_nk _ (by decide), jcl2_ne _ _ (by decide)]
  have e2 : jEr σ b 3 5 = σ 3 5 - 1 := by
    unfold jEr jCls
    rw [jset_nk _ (by decide), jset_eq]
  refine JSp.of [(2, 4), (0, y), (9, 0), (9, 0)] rfl (by decide +kernel) rfl rfl rfl (fun l E hA => ?_)
  refine V.aload_n dX1_endRound_0 rfl ?_
  refine V.getR fa_X1_28 rfl dX1_endRound_1 ?_
  refine V.iload_n dX1_endRound_4 rfl ?_
  refine V.cV [_] rfl kc_X1_92 rfl dX1_endRound_5 (by decide) rfl rfl (sp_X5_partner) (fun _ => ?_)
  rw [hb]
  refine V.istore_n (L' := [_, _, _, _]) dX1_endRound_8 rfl rfl ?_
  refine V.aload_n dX1_endRound_9 rfl ?_
  refine V.getR fa_X1_28 rfl dX1_endRound_10 ?_
  refine V.iload_n dX1_endRound_13 rfl ?_
  refine V.cV [_] rfl kc_X1_89 rfl dX1_endRound_14 (by decide) rfl rfl (sp_X5_kind) (fun _ => ?_)
  refine V.bipush dX1_endRound_17 ⟨by decide, by decide⟩ ?_
  refine V.icmp_ne (tgt := 26) dX1_endRound_19 (by decide) (fun hh => ?_) (fun hh => ?_)
  · refine V.aload_n dX1_endRound_26 rfl ?_
    refine V.getR fa_X1_36 rfl dX1_endRound_27 ?_
    refine V.cV0 [] rfl kc_X1_80 rfl dX1_endRound_30 (by decide) rfl rfl (sp_X4_close h0 h1 h2 h3 h4) ?_
    refine V.aload_n dX1_endRound_33 rfl ?_
    refine V.getR fa_X1_9 rfl dX1_endRound_34 ?_
    refine V.iload_n dX1_endRound_37 rfl ?_
    refine V.cN [_, _] rfl kc_X1_178 dX1_endRound_38 (by decide) rfl rfl (show JSp mX6_at 0 0 [(2, 25), (0, b)] (jCls σ) (jrv (jat (jCls σ) 25 80 b) (jCls σ)) jno from sp_X6_at (N := 80) rfl rfl rfl) (fun _ => ?_)
    rw [e1]
    refine V.iconst dX1_endRound_41 ⟨by decide, by decide⟩ ?_
    refine V.isub dX1_endRound_42 ⟨(by omega), (by omega)⟩ ?_
    refine V.istore_n (L' := [_, _, _, _]) dX1_endRound_43 rfl rfl ?_
    refine V.aload_n dX1_endRound_44 rfl ?_
    refine V.getR fa_X1_9 rfl dX1_endRound_45 ?_
    refine V.iload_n dX1_endRound_48 rfl ?_
    refine V.iload_n dX1_endRound_49 rfl ?_
    refine V.cN0 [_, _, _] rfl kc_X1_174 dX1_endRound_50 (by decide) rfl rfl (sp_X6_setAt (k := 25) (N := 80) rfl rfl rfl rfl (hb0.1) (hb0.2)) ?_
    rw [show jset (jCls σ) 25 b (σ 25 b - 1) = jEr σ b from rfl]
    refine V.iload_n dX1_endRound_53 rfl ?_
    refine V.if_gt (tgt := 61) dX1_endRound_54 (by decide) (fun h51 => ?_) (fun h51 => ?_)
    · refine V.aload_n dX1_endRound_61 rfl ?_
      refine V.getR fa_X1_36 rfl dX1_endRound_62 ?_
      refine V.aload_n dX1_endRound_65 rfl ?_
      refine V.getR fa_X1_36 rfl dX1_endRound_66 ?_
      refine V.cV [] rfl kc_X1_167 rfl dX1_endRound_69 (by decide) rfl rfl (sp_X4_current (by omega) (by omega)) (fun _ => ?_)
      rw [e2]
      refine V.cV0 [_] rfl kc_X1_170 rfl dX1_endRound_72 (by decide) rfl rfl (sp_X4_open (by omega) (by omega)) ?_
      refine V.iload_n dX1_endRound_75 rfl ?_
      refine V.iconst dX1_endRound_76 ⟨by decide, by decide⟩ ?_
      refine V.iadd dX1_endRound_77 ⟨(by omega), (by omega)⟩ ?_
      exact V.iret (jret_i dX1_endRound_78 rfl) ⟨jsm (by rw [if_neg (by omega)]), by rw [if_neg (by omega), show σ 3 5 - 1 - 1 = σ 3 5 - 2 by omega]⟩
    · refine V.iload_n dX1_endRound_57 rfl ?_
      refine V.iconst dX1_endRound_58 ⟨by decide, by decide⟩ ?_
      refine V.iadd dX1_endRound_59 ⟨(by omega), (by omega)⟩ ?_
      exact V.iret (jret_i dX1_endRound_60 rfl) ⟨jsm (by rw [if_pos h51]), by rw [if_pos h51]⟩
  · exact absurd hh hk
theorem jpas_val {σ : JM} {o v s q : Int} (hd : 0 ≤ σ 4 7) : jval (jpas σ o v s) q = jval σ q ∧ jsco (jpas σ o v s) q = jsco σ q := by
  have a := jslot_b o
  have b := jslot_b q
  unfold jval jsco
  constructor
  · split
    · unfold jat
      rw [show jpas σ o v s 4 7 = σ 4 7 from rfl]
      split
      · unfold jpas; rw [jset_nk _ (by decide), jset_nj _ (by omega)]
      · rfl
    · rfl
  · split
    · unfold jat
      rw [show jpas σ o v s 4 7 = σ 4 7 from rfl]
      split
      · unfold jpas; rw [jset_nj _ (by omega), jset_nk _ (by decide)]
      · rfl
    · rfl
def jEnt (σ : JM) (x : Int) : JM := jset (jset (jOpn (jpas (jpas σ (-1) (jval σ (jat σ 9 80 x)) (jsco σ (jat σ 9 80 x))) (-2) (jval σ (jat σ 10 80 x)) (jsco σ (jat σ 10 80 x))) 0) 4 7 (σ 4 7 + 1)) 26 (σ 4 7 + 1) x
theorem sp_X1_enterMacro {σ : JM} {x : Int} (h0 : 0 ≤ σ 4 7) (h1 : σ 4 7 < 8) (h2 : 0 ≤ σ 3 5) (h3 : σ 3 5 < 81) (hm : 0 ≤ jat σ 14 8 (jat σ 11 80 x) ∧ jat σ 14 8 (jat σ 11 80 x) ≤ 1000) : JSp mX1_enterMacro 4 0 [(2, 4), (0, x)] σ (jrv (jat σ 14 8 (jat σ 11 80 x) + 1) (jEnt σ x)) jno := by
  obtain ⟨τ, hτ⟩ : ∃ τ, jpas σ (-1) (jval σ (jat σ 9 80 x)) (jsco σ (jat σ 9 80 x)) = τ := ⟨_, rfl⟩
  have e1 : ∀ q, jval τ q = jval σ q ∧ jsco τ q = jsco σ q := fun q => by rw [← hτ]; exact jpas_val h0
  have e3 : 0 ≤ τ 4 7 ∧ τ 4 7 < 8 ∧ 0 ≤ τ 3 5 ∧ τ 3 5 < 81 := by rw [← hτ]; exact ⟨h0, h1, h2, h3⟩
  have eF : jEnt σ x = jset (jset (jOpn (jpas τ (-2) (jval σ (jat σ 10 80 x)) (jsco σ (jat σ 10 80 x))) 0) 4 7 (σ 4 7 + 1)) 26 (σ 4 7 + 1) x := by rw [← hτ]; rfl
  have e4 : τ 4 7 = σ 4 7 := by rw [← hτ]; rfl
  obtain ⟨ρ, hρ⟩ : ∃ ρ, jOpn (jpas τ (-2) (jval σ (jat σ 10 80 x)) (jsco σ (jat σ 10 80 x))) 0 = ρ := ⟨_, rfl⟩
  have r1 : ρ 4 7 = σ 4 7 := by rw [← hρ]; show τ 4 7 = _; exact e4
  have r2 : ∀ v w, jat (jset (jset ρ 4 7 v) 26 w x) 11 80 x = jat σ 11 80 x := fun v w => by rw [← hρ, ← hτ]; rfl
  have r3 : ∀ v w m, jat (jset (jset ρ 4 7 v) 26 w x) 14 8 m = jat σ 14 8 m := fun v w m => by rw [← hρ, ← hτ]; rfl
  rw [eF, hρ]
  refine JSp.of [(2, 4), (0, x), (9, 0), (9, 0)] rfl (by decide +kernel) rfl rfl rfl (fun l E hA => ?_)
  refine V.aload_n dX1_enterMacro_0 rfl ?_
  refine V.getI fa_X1_53 (by decide) rfl dX1_enterMacro_1 (fun _ => ?_)
  refine V.bipush dX1_enterMacro_4 ⟨by decide, by decide⟩ ?_
  refine V.icmp_lt (tgt := 13) dX1_enterMacro_6 (by decide) (fun hh => ?_) (fun hh => ?_)
  · refine V.aload_n dX1_enterMacro_13 rfl ?_
    refine V.getR fa_X1_28 rfl dX1_enterMacro_14 ?_
    refine V.iload_n dX1_enterMacro_17 rfl ?_
    refine V.cV [_] rfl kc_X1_118 rfl dX1_enterMacro_18 (by decide) rfl rfl (sp_X5_first) (fun _ => ?_)
    refine V.istore_n (L' := [_, _, _, _]) dX1_enterMacro_21 rfl rfl ?_
    refine V.aload_n dX1_enterMacro_22 rfl ?_
    refine V.getR fa_X1_28 rfl dX1_enterMacro_23 ?_
    refine V.iload_n dX1_enterMacro_26 rfl ?_
    refine V.cV [_] rfl kc_X1_127 rfl dX1_enterMacro_27 (by decide) rfl rfl (sp_X5_second) (fun _ => ?_)
    refine V.istore_n (L' := [_, _, _, _]) dX1_enterMacro_30 rfl rfl ?_
    refine V.aload_n dX1_enterMacro_31 rfl ?_
    refine V.iconst dX1_enterMacro_32 ⟨by decide, by decide⟩ ?_
    refine V.aload_n dX1_enterMacro_33 rfl ?_
    refine V.iload_n dX1_enterMacro_34 rfl ?_
    refine V.cV [_] rfl kc_X1_124 rfl dX1_enterMacro_35 (by decide) rfl rfl (sp_X1_valueOf h0 (by omega)) (fun _ => ?_)
    refine V.aload_n dX1_enterMacro_38 rfl ?_
    refine V.iload_n dX1_enterMacro_39 rfl ?_
    refine V.cV [_] rfl kc_X1_130 rfl dX1_enterMacro_40 (by decide) rfl rfl (sp_X1_scopeOf h0 (by omega) h2 (by omega)) (fun _ => ?_)
    refine V.cV0 [_, _, _] rfl kc_X1_182 rfl dX1_enterMacro_43 (by decide) rfl rfl (sp_X1_pass h0 h1) ?_
    rw [hτ]
    refine V.aload_n dX1_enterMacro_46 rfl ?_
    refine V.bipush dX1_enterMacro_47 ⟨by decide, by decide⟩ ?_
    refine V.aload_n dX1_enterMacro_49 rfl ?_
    refine V.iload_n dX1_enterMacro_50 rfl ?_
    refine V.cV [_] rfl kc_X1_124 rfl dX1_enterMacro_51 (by decide) rfl rfl (sp_X1_valueOf e3.1 (by omega)) (fun _ => ?_)
    rw [(e1 _).1]
    refine V.aload_n dX1_enterMacro_54 rfl ?_
    refine V.iload_n dX1_enterMacro_55 rfl ?_
    refine V.cV [_] rfl kc_X1_130 rfl dX1_enterMacro_56 (by decide) rfl rfl (sp_X1_scopeOf e3.1 (by omega) e3.2.2.1 (by omega)) (fun _ => ?_)
    rw [(e1 _).2]
    refine V.cV0 [_, _, _] rfl kc_X1_182 rfl dX1_enterMacro_59 (by decide) rfl rfl (sp_X1_pass e3.1 e3.2.1) ?_
    refine V.aload_n dX1_enterMacro_62 rfl ?_
    refine V.getR fa_X1_36 rfl dX1_enterMacro_63 ?_
    refine V.iconst dX1_enterMacro_66 ⟨by decide, by decide⟩ ?_
    refine V.cV0 [_] rfl kc_X1_170 rfl dX1_enterMacro_67 (by decide) rfl rfl (sp_X4_open (show 0 ≤ τ 3 5 from e3.2.2.1) (show τ 3 5 < 81 from e3.2.2.2)) ?_
    rw [hρ]
    refine V.aload_n dX1_enterMacro_70 rfl ?_
    refine V.dup dX1_enterMacro_71 rfl ?_
    refine V.getI fa_X1_53 (by decide) rfl dX1_enterMacro_72 (fun _ => ?_)
    rw [r1]
    refine V.iconst dX1_enterMacro_75 ⟨by decide, by decide⟩ ?_
    refine V.iadd dX1_enterMacro_76 ⟨(by omega), (by omega)⟩ ?_
    refine V.putI fa_X1_53 (by decide) rfl dX1_enterMacro_77 (Or.inl rfl) ?_
    refine V.aload_n dX1_enterMacro_80 rfl ?_
    refine V.getR fa_X1_15 rfl dX1_enterMacro_81 ?_
    refine V.aload_n dX1_enterMacro_84 rfl ?_
    refine V.getI fa_X1_53 (by decide) rfl dX1_enterMacro_85 (fun _ => ?_)
    rw [show jset ρ 4 7 (σ 4 7 + 1) 4 7 = σ 4 7 + 1 from jset_eq _ _ _ _]
    refine V.iload_n dX1_enterMacro_88 rfl ?_
    refine V.cN0 [_, _, _] rfl kc_X1_174 dX1_enterMacro_89 (by decide) rfl rfl (sp_X6_setAt (k := 26) (N := 9) rfl rfl rfl rfl (by omega) (by omega)) ?_
    refine V.aload_n dX1_enterMacro_92 rfl ?_
    refine V.getR fa_X1_28 rfl dX1_enterMacro_93 ?_
    refine V.aload_n dX1_enterMacro_96 rfl ?_
    refine V.getR fa_X1_28 rfl dX1_enterMacro_97 ?_
    refine V.iload_n dX1_enterMacro_100 rfl ?_
    refine V.cV [_] rfl kc_X1_140 rfl dX1_enterMacro_101 (by decide) rfl rfl (sp_X5_fixed) (fun _ => ?_)
    rw [r2]
    refine V.cV [_] rfl kc_X1_185 rfl dX1_enterMacro_104 (by decide) rfl rfl (sp_X5_macroLine) (fun _ => ?_)
    rw [r3]
    refine V.iconst dX1_enterMacro_107 ⟨by decide, by decide⟩ ?_
    refine V.iadd dX1_enterMacro_108 ⟨(by omega), (by omega)⟩ ?_
    exact V.iret (jret_i dX1_enterMacro_109 rfl) ⟨rfl, rfl⟩
  · exact absurd hh (by omega)
def jLea (σ : JM) : JM := jset (jCls σ) 4 7 (σ 4 7 - 1)
theorem sp_X1_leaveMacro {σ : JM} {y : Int} (hd : 0 < σ 4 7) (hd2 : σ 4 7 ≤ 8) (h0 : 0 < σ 3 5) (h1 : σ 3 5 ≤ 81) (h2 : 0 ≤ σ 23 (σ 3 5 - 1)) (h3 : σ 23 (σ 3 5 - 1) ≤ σ 2 6) (h4 : σ 2 6 ≤ 200) (hc : 0 ≤ σ 26 (σ 4 7) ∧ σ 26 (σ 4 7) ≤ 1000) : JSp mX1_leaveMacro 4 0 [(2, 4), (0, y)] σ (jrv (σ 26 (σ 4 7) + 1) (jLea σ)) jno := by
  have e0 : ∀ b, jCls σ 4 b = σ 4 b := fun b => by unfold jCls; rw [jset_nk _ (by decide), jcl2_ne _ _ (by decide)]
  have e1 : jat (jCls σ) 26 9 (σ 4 7) = σ 26 (σ 4 7) := by
    rw [jat_in (by omega) (by omega)]
    unfold jCls
    rw [jset_nk _ (by decide), jcl2_ne _ _ (by decide)]
  refine JSp.of [(2, 4), (0, y), (9, 0)] rfl (by decide +kernel) rfl rfl rfl (fun l E hA => ?_)
  refine V.aload_n dX1_leaveMacro_0 rfl ?_
  refine V.getI fa_X1_53 (by decide) rfl dX1_leaveMacro_1 (fun _ => ?_)
  refine V.if_gt (tgt := 11) dX1_leaveMacro_4 (by decide) (fun hh => ?_) (fun hh => ?_)
  · refine V.aload_n dX1_leaveMacro_11 rfl ?_
    refine V.getR fa_X1_36 rfl dX1_leaveMacro_12 ?_
    refine V.cV0 [] rfl kc_X1_80 rfl dX1_leaveMacro_15 (by decide) rfl rfl (sp_X4_close h0 h1 h2 h3 h4) ?_
    refine V.aload_n dX1_leaveMacro_18 rfl ?_
    refine V.getR fa_X1_15 rfl dX1_leaveMacro_19 ?_
    refine V.aload_n dX1_leaveMacro_22 rfl ?_
    refine V.getI fa_X1_53 (by decide) rfl dX1_leaveMacro_23 (fun _ => ?_)
    rw [e0]
    refine V.cN [_, _] rfl kc_X1_178 dX1_leaveMacro_26 (by decide) rfl rfl (show JSp mX6_at 0 0 [(2, 26), (0, σ 4 7)] (jCls σ) (jrv (jat (jCls σ) 26 9 (σ 4 7)) (jCls σ)) jno from sp_X6_at (N := 9) rfl rfl rfl) (fun _ => ?_)
    rw [e1]
    refine V.istore_n (L' := [_, _, _]) dX1_leaveMacro_29 rfl rfl ?_
    refine V.aload_n dX1_leaveMacro_30 rfl ?_
    refine V.dup dX1_leaveMacro_31 rfl ?_
    refine V.getI fa_X1_53 (by decide) rfl dX1_leaveMacro_32 (fun _ => ?_)
    rw [e0]
    refine V.iconst dX1_leaveMacro_35 ⟨by decide, by decide⟩ ?_
    refine V.isub dX1_leaveMacro_36 ⟨(by omega), (by omega)⟩ ?_
    refine V.putI fa_X1_53 (by decide) rfl dX1_leaveMacro_37 (Or.inl rfl) ?_
    refine V.iload_n dX1_leaveMacro_40 rfl ?_
    refine V.iconst dX1_leaveMacro_41 ⟨by decide, by decide⟩ ?_
    refine V.iadd dX1_leaveMacro_42 ⟨(by omega), (by omega)⟩ ?_
    exact V.iret (jret_i dX1_leaveMacro_43 rfl) ⟨rfl, rfl⟩
  · exact absurd hh (by omega)
