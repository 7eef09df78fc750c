theorem sp_X1_expandLineM {τ τ' : JM} {x r k : Int} (hk : jat τ 8 80 x = k) (hm : k = 77) (hp : 0 ≤ jat τ 12 80 x ∧ jat τ 12 80 x ≤ 1000) (hr : r = jat τ 12 80 x + 1) (ht : τ' = τ) : JSp mX1_expandLine 5 0 [(2, 4), (0, x)] τ (jrv r τ') jno := by
  subst hm hr ht
  refine JSp.of [(2, 4), (0, x), (9, 0), (9, 0)] rfl (by decide +kernel) rfl rfl rfl (fun l E hA => ?_)
  refine V.aload_n dX1_expandLine_0 rfl ?_
  refine V.getR fa_X1_28 rfl dX1_expandLine_1 ?_
  refine V.iload_n dX1_expandLine_4 rfl ?_
  refine V.cV [_] rfl kc_X1_89 rfl dX1_expandLine_5 (by decide) rfl rfl (sp_X5_kind) (fun _ => ?_)
  rw [hk]
  refine V.istore_n (L' := [_, _, _, _]) dX1_expandLine_8 rfl rfl ?_
  refine V.iload_n dX1_expandLine_9 rfl ?_
  refine V.bipush dX1_expandLine_10 ⟨by decide, by decide⟩ ?_
  refine V.icmp_ne (tgt := 26) dX1_expandLine_12 (by decide) (fun hh => ?_) (fun hh => ?_)
  · first | exact absurd rfl hh | exact absurd hh (by decide) | exact absurd hh (by omega)
  · refine V.aload_n dX1_expandLine_15 rfl ?_
    refine V.getR fa_X1_28 rfl dX1_expandLine_16 ?_
    refine V.iload_n dX1_expandLine_19 rfl ?_
    refine V.cV [_] rfl kc_X1_92 rfl dX1_expandLine_20 (by decide) rfl rfl (sp_X5_partner) (fun _ => ?_)
    refine V.iconst dX1_expandLine_23 ⟨by decide, by decide⟩ ?_
    refine V.iadd dX1_expandLine_24 ⟨(by omega), (by omega)⟩ ?_
    exact V.iret (jret_i dX1_expandLine_25 rfl) ⟨rfl, rfl⟩
theorem sp_X1_expandLineN {τ τ' : JM} {x r k : Int} (hk : jat τ 8 80 x = k) (hm : k = 78) (h : JSp mX1_leaveMacro 4 0 [(2, 4), (0, x)] τ (jrv r τ') jno) : JSp mX1_expandLine 5 0 [(2, 4), (0, x)] τ (jrv r τ') jno := by
  subst hm
  refine JSp.of [(2, 4), (0, x), (9, 0), (9, 0)] rfl (by decide +kernel) rfl rfl rfl (fun l E hA => ?_)
  refine V.aload_n dX1_expandLine_0 rfl ?_
  refine V.getR fa_X1_28 rfl dX1_expandLine_1 ?_
  refine V.iload_n dX1_expandLine_4 rfl ?_
  refine V.cV [_] rfl kc_X1_89 rfl dX1_expandLine_5 (by decide) rfl rfl (sp_X5_kind) (fun _ => ?_)
  rw [hk]
  refine V.istore_n (L' := [_, _, _, _]) dX1_expandLine_8 rfl rfl ?_
  refine V.iload_n dX1_expandLine_9 rfl ?_
  refine V.bipush dX1_expandLine_10 ⟨by decide, by decide⟩ ?_
  refine V.icmp_ne (tgt := 26) dX1_expandLine_12 (by decide) (fun hh => ?_) (fun hh => ?_)
  · refine V.iload_n dX1_expandLine_26 rfl ?_
    refine V.bipush dX1_expandLine_27 ⟨by decide, by decide⟩ ?_
    refine V.icmp_ne (tgt := 38) dX1_expandLine_29 (by decide) (fun hh => ?_) (fun hh => ?_)
    · first | exact absurd rfl hh | exact absurd hh (by decide) | exact absurd hh (by omega)
    · refine V.aload_n dX1_expandLine_32 rfl ?_
      refine V.iload_n dX1_expandLine_33 rfl ?_
      refine V.cV [_] rfl kc_X1_95 rfl dX1_expandLine_34 (by decide) rfl rfl (h) (fun _ => ?_)
      exact V.iret (jret_i dX1_expandLine_37 rfl) ⟨rfl, rfl⟩
  · first | exact absurd rfl hh | exact absurd hh (by decide) | exact absurd hh (by omega)
theorem sp_X1_expandLineE {τ τ' : JM} {x r k : Int} (hk : jat τ 8 80 x = k) {dd : Nat} (hm : k = 69) (h : JSp mX1_endRound dd 0 [(2, 4), (0, x)] τ (jrv r τ') jno) (hdd : dd < 5) : JSp mX1_expandLine 5 0 [(2, 4), (0, x)] τ (jrv r τ') jno := by
  subst hm
  refine JSp.of [(2, 4), (0, x), (9, 0), (9, 0)] rfl (by decide +kernel) rfl rfl rfl (fun l E hA => ?_)
  refine V.aload_n dX1_expandLine_0 rfl ?_
  refine V.getR fa_X1_28 rfl dX1_expandLine_1 ?_
  refine V.iload_n dX1_expandLine_4 rfl ?_
  refine V.cV [_] rfl kc_X1_89 rfl dX1_expandLine_5 (by decide) rfl rfl (sp_X5_kind) (fun _ => ?_)
  rw [hk]
  refine V.istore_n (L' := [_, _, _, _]) dX1_expandLine_8 rfl rfl ?_
  refine V.iload_n dX1_expandLine_9 rfl ?_
  refine V.bipush dX1_expandLine_10 ⟨by decide, by decide⟩ ?_
  refine V.icmp_ne (tgt := 26) dX1_expandLine_12 (by decide) (fun hh => ?_) (fun hh => ?_)
  · refine V.iload_n dX1_expandLine_26 rfl ?_
    refine V.bipush dX1_expandLine_27 ⟨by decide, by decide⟩ ?_
    refine V.icmp_ne (tgt := 38) dX1_expandLine_29 (by decide) (fun hh => ?_) (fun hh => ?_)
    · refine V.iload_n dX1_expandLine_38 rfl ?_
      refine V.bipush dX1_expandLine_39 ⟨by decide, by decide⟩ ?_
      refine V.icmp_ne (tgt := 50) dX1_expandLine_41 (by decide) (fun hh => ?_) (fun hh => ?_)
      · first | exact absurd rfl hh | exact absurd hh (by decide) | exact absurd hh (by omega)
      · refine V.aload_n dX1_expandLine_44 rfl ?_
        refine V.iload_n dX1_expandLine_45 rfl ?_
        refine V.cV [_] rfl kc_X1_98 rfl dX1_expandLine_46 (hdd) rfl rfl (h) (fun _ => ?_)
        exact V.iret (jret_i dX1_expandLine_49 rfl) ⟨rfl, rfl⟩
    · first | exact absurd rfl hh | exact absurd hh (by decide) | exact absurd hh (by omega)
  · first | exact absurd rfl hh | exact absurd hh (by decide) | exact absurd hh (by omega)
theorem sp_X1_expandLineF {τ τ' : JM} {x r k : Int} (hk : jat τ 8 80 x = k) (hn : k ≠ 77 ∧ k ≠ 78 ∧ k ≠ 69) (h0 : 0 ≤ τ 4 7) (h1 : τ 4 7 ≤ 8) (h2 : 0 ≤ τ 3 5) (h3 : τ 3 5 ≤ 81) (hs : k = 108 → -100 ≤ jsco τ (jat τ 9 80 x) ∧ jsco τ (jat τ 9 80 x) ≤ 1000) (hf : jfau τ x k ≠ 110) (hr : x = r) (ht : τ' = jset (jset τ 4 9 (jfau τ x k)) 4 10 x) : JSp mX1_expandLine 5 0 [(2, 4), (0, x)] τ (jrv r τ') jno := by
  subst hr ht
  refine JSp.of [(2, 4), (0, x), (9, 0), (9, 0)] rfl (by decide +kernel) rfl rfl rfl (fun l E hA => ?_)
  refine V.aload_n dX1_expandLine_0 rfl ?_
  refine V.getR fa_X1_28 rfl dX1_expandLine_1 ?_
  refine V.iload_n dX1_expandLine_4 rfl ?_
  refine V.cV [_] rfl kc_X1_89 rfl dX1_expandLine_5 (by decide) rfl rfl (sp_X5_kind) (fun _ => ?_)
  rw [hk]
  refine V.istore_n (L' := [_, _, _, _]) dX1_expandLine_8 rfl rfl ?_
  refine V.iload_n dX1_expandLine_9 rfl ?_
  refine V.bipush dX1_expandLine_10 ⟨by decide, by decide⟩ ?_
  refine V.icmp_ne (tgt := 26) dX1_expandLine_12 (by decide) (fun hh => ?_) (fun hh => ?_)
  · refine V.iload_n dX1_expandLine_26 rfl ?_
    refine V.bipush dX1_expandLine_27 ⟨by decide, by decide⟩ ?_
    refine V.icmp_ne (tgt := 38) dX1_expandLine_29 (by decide) (fun hh => ?_) (fun hh => ?_)
    · refine V.iload_n dX1_expandLine_38 rfl ?_
      refine V.bipush dX1_expandLine_39 ⟨by decide, by decide⟩ ?_
      refine V.icmp_ne (tgt := 50) dX1_expandLine_41 (by decide) (fun hh => ?_) (fun hh => ?_)
      · refine V.aload_n dX1_expandLine_50 rfl ?_
        refine V.iload_n dX1_expandLine_51 rfl ?_
        refine V.iload_n dX1_expandLine_52 rfl ?_
        refine V.cV [_, _] rfl kc_X1_101 rfl dX1_expandLine_53 (by decide) rfl rfl (sp_X1_faultAt h0 h1 h2 h3 hs) (fun _ => ?_)
        refine V.istore_n (L' := [_, _, _, _]) dX1_expandLine_56 rfl rfl ?_
        refine V.iload_n dX1_expandLine_57 rfl ?_
        refine V.bipush dX1_expandLine_58 ⟨by decide, by decide⟩ ?_
        refine V.icmp_eq (tgt := 71) dX1_expandLine_60 (by decide) (fun hh => ?_) (fun hh => ?_)
        · exact absurd hh hf
        · refine V.aload_n dX1_expandLine_63 rfl ?_
          refine V.iload_n dX1_expandLine_64 rfl ?_
          refine V.iload_n dX1_expandLine_65 rfl ?_
          refine V.cV0 [_, _] rfl kc_X1_65 rfl dX1_expandLine_66 (by decide) rfl rfl (sp_X1_fail) ?_
          refine V.iload_n dX1_expandLine_69 rfl ?_
          exact V.iret (jret_i dX1_expandLine_70 rfl) ⟨rfl, rfl⟩
      · first | exact absurd rfl hh | exact absurd hh (by decide) | exact absurd hh (by omega)
    · first | exact absurd rfl hh | exact absurd hh (by decide) | exact absurd hh (by omega)
  · first | exact absurd rfl hh | exact absurd hh (by decide) | exact absurd hh (by omega)
theorem sp_X1_expandLineC {τ τ' : JM} {x r k : Int} (hk : jat τ 8 80 x = k) (hn : k ≠ 77 ∧ k ≠ 78 ∧ k ≠ 69) (h0 : 0 ≤ τ 4 7) (h1 : τ 4 7 ≤ 8) (h2 : 0 ≤ τ 3 5) (h3 : τ 3 5 ≤ 81) (hs : k = 108 → -100 ≤ jsco τ (jat τ 9 80 x) ∧ jsco τ (jat τ 9 80 x) ≤ 1000) (hf : jfau τ x k = 110) (hc : 0 ≤ τ 4 8 ∧ τ 4 8 ≤ 1000) (hm : k = 67) (h : JSp mX1_enterMacro 4 0 [(2, 4), (0, x)] (jset τ 4 8 (τ 4 8 + 1)) (jrv r τ') jno) : JSp mX1_expandLine 5 0 [(2, 4), (0, x)] τ (jrv r τ') jno := by
  subst hm
  refine JSp.of [(2, 4), (0, x), (9, 0), (9, 0)] rfl (by decide +kernel) rfl rfl rfl (fun l E hA => ?_)
  refine V.aload_n dX1_expandLine_0 rfl ?_
  refine V.getR fa_X1_28 rfl dX1_expandLine_1 ?_
  refine V.iload_n dX1_expandLine_4 rfl ?_
  refine V.cV [_] rfl kc_X1_89 rfl dX1_expandLine_5 (by decide) rfl rfl (sp_X5_kind) (fun _ => ?_)
  rw [hk]
  refine V.istore_n (L' := [_, _, _, _]) dX1_expandLine_8 rfl rfl ?_
  refine V.iload_n dX1_expandLine_9 rfl ?_
  refine V.bipush dX1_expandLine_10 ⟨by decide, by decide⟩ ?_
  refine V.icmp_ne (tgt := 26) dX1_expandLine_12 (by decide) (fun hh => ?_) (fun hh => ?_)
  · refine V.iload_n dX1_expandLine_26 rfl ?_
    refine V.bipush dX1_expandLine_27 ⟨by decide, by decide⟩ ?_
    refine V.icmp_ne (tgt := 38) dX1_expandLine_29 (by decide) (fun hh => ?_) (fun hh => ?_)
    · refine V.iload_n dX1_expandLine_38 rfl ?_
      refine V.bipush dX1_expandLine_39 ⟨by decide, by decide⟩ ?_
      refine V.icmp_ne (tgt := 50) dX1_expandLine_41 (by decide) (fun hh => ?_) (fun hh => ?_)
      · refine V.aload_n dX1_expandLine_50 rfl ?_
        refine V.iload_n dX1_expandLine_51 rfl ?_
        refine V.iload_n dX1_expandLine_52 rfl ?_
        refine V.cV [_, _] rfl kc_X1_101 rfl dX1_expandLine_53 (by decide) rfl rfl (sp_X1_faultAt h0 h1 h2 h3 hs) (fun _ => ?_)
        rw [hf]
        refine V.istore_n (L' := [_, _, _, _]) dX1_expandLine_56 rfl rfl ?_
        refine V.iload_n dX1_expandLine_57 rfl ?_
        refine V.bipush dX1_expandLine_58 ⟨by decide, by decide⟩ ?_
        refine V.icmp_eq (tgt := 71) dX1_expandLine_60 (by decide) (fun hh => ?_) (fun hh => ?_)
        · refine V.aload_n dX1_expandLine_71 rfl ?_
          refine V.dup dX1_expandLine_72 rfl ?_
          refine V.getI fa_X1_56 (by decide) rfl dX1_expandLine_73 (fun _ => ?_)
          refine V.iconst dX1_expandLine_76 ⟨by decide, by decide⟩ ?_
          refine V.iadd dX1_expandLine_77 ⟨(by omega), (by omega)⟩ ?_
          refine V.putI fa_X1_56 (by decide) rfl dX1_expandLine_78 (Or.inl rfl) ?_
          refine V.iload_n dX1_expandLine_81 rfl ?_
          refine V.bipush dX1_expandLine_82 ⟨by decide, by decide⟩ ?_
          refine V.icmp_ne (tgt := 93) dX1_expandLine_84 (by decide) (fun hh => ?_) (fun hh => ?_)
          · first | exact absurd rfl hh | exact absurd hh (by decide) | exact absurd hh (by omega)
          · refine V.aload_n dX1_expandLine_87 rfl ?_
            refine V.iload_n dX1_expandLine_88 rfl ?_
            refine V.cV [_] rfl kc_X1_105 rfl dX1_expandLine_89 (by decide) rfl rfl (h) (fun _ => ?_)
            exact V.iret (jret_i dX1_expandLine_92 rfl) ⟨rfl, rfl⟩
        · first | exact absurd rfl hh | exact absurd hh (by decide) | exact absurd hh (by omega)
      · first | exact absurd rfl hh | exact absurd hh (by decide) | exact absurd hh (by omega)
    · first | exact absurd rfl hh | exact absurd hh (by decide) | exact absurd hh (by omega)
  · first | exact absurd rfl hh | exact absurd hh (by decide) | exact absurd hh (by omega)
theorem sp_X1_expandLineG {τ τ' : JM} {x r k : Int} (hk : jat τ 8 80 x = k) (hn : k ≠ 77 ∧ k ≠ 78 ∧ k ≠ 69) (h0 : 0 ≤ τ 4 7) (h1 : τ 4 7 ≤ 8) (h2 : 0 ≤ τ 3 5) (h3 : τ 3 5 ≤ 81) (hs : k = 108 → -100 ≤ jsco τ (jat τ 9 80 x) ∧ jsco τ (jat τ 9 80 x) ≤ 1000) (hf : jfau τ x k = 110) (hc : 0 ≤ τ 4 8 ∧ τ 4 8 ≤ 1000) (hm : k = 66 ∨ k = 76 ∨ k = 87) (h : JSp mX1_beginGroup 4 0 [(2, 4), (0, x), (0, k)] (jset τ 4 8 (τ 4 8 + 1)) (jrv r τ') jno) : JSp mX1_expandLine 5 0 [(2, 4), (0, x)] τ (jrv r τ') jno := by
  refine JSp.of [(2, 4), (0, x), (9, 0), (9, 0)] rfl (by decide +kernel) rfl rfl rfl (fun l E hA => ?_)
  refine V.aload_n dX1_expandLine_0 rfl ?_
  refine V.getR fa_X1_28 rfl dX1_expandLine_1 ?_
  refine V.iload_n dX1_expandLine_4 rfl ?_
  refine V.cV [_] rfl kc_X1_89 rfl dX1_expandLine_5 (by decide) rfl rfl (sp_X5_kind) (fun _ => ?_)
  rw [hk]
  refine V.istore_n (L' := [_, _, _, _]) dX1_expandLine_8 rfl rfl ?_
  refine V.iload_n dX1_expandLine_9 rfl ?_
  refine V.bipush dX1_expandLine_10 ⟨by decide, by decide⟩ ?_
  refine V.icmp_ne (tgt := 26) dX1_expandLine_12 (by decide) (fun hh => ?_) (fun hh => ?_)
  · refine V.iload_n dX1_expandLine_26 rfl ?_
    refine V.bipush dX1_expandLine_27 ⟨by decide, by decide⟩ ?_
    refine V.icmp_ne (tgt := 38) dX1_expandLine_29 (by decide) (fun hh => ?_) (fun hh => ?_)
    · refine V.iload_n dX1_expandLine_38 rfl ?_
      refine V.bipush dX1_expandLine_39 ⟨by decide, by decide⟩ ?_
      refine V.icmp_ne (tgt := 50) dX1_expandLine_41 (by decide) (fun hh => ?_) (fun hh => ?_)
      · refine V.aload_n dX1_expandLine_50 rfl ?_
        refine V.iload_n dX1_expandLine_51 rfl ?_
        refine V.iload_n dX1_expandLine_52 rfl ?_
        refine V.cV [_, _] rfl kc_X1_101 rfl dX1_expandLine_53 (by decide) rfl rfl (sp_X1_faultAt h0 h1 h2 h3 hs) (fun _ => ?_)
        rw [hf]
        refine V.istore_n (L' := [_, _, _, _]) dX1_expandLine_56 rfl rfl ?_
        refine V.iload_n dX1_expandLine_57 rfl ?_
        refine V.bipush dX1_expandLine_58 ⟨by decide, by decide⟩ ?_
        refine V.icmp_eq (tgt := 71) dX1_expandLine_60 (by decide) (fun hh => ?_) (fun hh => ?_)
        · refine V.aload_n dX1_expandLine_71 rfl ?_
          refine V.dup dX1_expandLine_72 rfl ?_
          refine V.getI fa_X1_56 (by decide) rfl dX1_expandLine_73 (fun _ => ?_)
          refine V.iconst dX1_expandLine_76 ⟨by decide, by decide⟩ ?_
          refine V.iadd dX1_expandLine_77 ⟨(by omega), (by omega)⟩ ?_
          refine V.putI fa_X1_56 (by decide) rfl dX1_expandLine_78 (Or.inl rfl) ?_
          refine V.iload_n dX1_expandLine_81 rfl ?_
          refine V.bipush dX1_expandLine_82 ⟨by decide, by decide⟩ ?_
          refine V.icmp_ne (tgt := 93) dX1_expandLine_84 (by decide) (fun hh => ?_) (fun hh => ?_)
          · refine V.iload_n dX1_expandLine_93 rfl ?_
            refine V.cN [_] rfl kc_X1_108 dX1_expandLine_94 (by decide) rfl rfl (sp_X6_beginsGroup) (fun _ => ?_)
            rw [if_pos hm]
            refine V.if_eq (tgt := 107) dX1_expandLine_97 (by decide) (fun hh => ?_) (fun hh => ?_)
            · first | exact absurd rfl hh | exact absurd hh (by decide) | exact absurd hh (by omega)
            · refine V.aload_n dX1_expandLine_100 rfl ?_
              refine V.iload_n dX1_expandLine_101 rfl ?_
              refine V.iload_n dX1_expandLine_102 rfl ?_
              refine V.cV [_, _] rfl kc_X1_112 rfl dX1_expandLine_103 (by decide) rfl rfl (h) (fun _ => ?_)
              exact V.iret (jret_i dX1_expandLine_106 rfl) ⟨rfl, rfl⟩
          · exact absurd hh (by omega)
        · first | exact absurd rfl hh | exact absurd hh (by decide) | exact absurd hh (by omega)
      · first | exact absurd rfl hh | exact absurd hh (by decide) | exact absurd hh (by omega)
    · first | exact absurd rfl hh | exact absurd hh (by decide) | exact absurd hh (by omega)
  · first | exact absurd rfl hh | exact absurd hh (by decide) | exact absurd hh (by omega)
theorem sp_X1_expandLineI {τ τ' : JM} {x r k : Int} (hk : jat τ 8 80 x = k) (hn : k ≠ 77 ∧ k ≠ 78 ∧ k ≠ 69) (h0 : 0 ≤ τ 4 7) (h1 : τ 4 7 ≤ 8) (h2 : 0 ≤ τ 3 5) (h3 : τ 3 5 ≤ 81) (hs : k = 108 → -100 ≤ jsco τ (jat τ 9 80 x) ∧ jsco τ (jat τ 9 80 x) ≤ 1000) (hf : jfau τ x k = 110) (hc : 0 ≤ τ 4 8 ∧ τ 4 8 ≤ 1000) (hm : ¬ (k = 66 ∨ k = 76 ∨ k = 87)) (hm2 : k ≠ 67) (hx : 0 ≤ x ∧ x < 80) (hr : r = x + 1) (h : JSp mX1_addItem 3 0 [(2, 4), (0, x), (0, k)] (jset τ 4 8 (τ 4 8 + 1)) (jvv τ') jno) : JSp mX1_expandLine 5 0 [(2, 4), (0, x)] τ (jrv r τ') jno := by
  subst hr
  refine JSp.of [(2, 4), (0, x), (9, 0), (9, 0)] rfl (by decide +kernel) rfl rfl rfl (fun l E hA => ?_)
  refine V.aload_n dX1_expandLine_0 rfl ?_
  refine V.getR fa_X1_28 rfl dX1_expandLine_1 ?_
  refine V.iload_n dX1_expandLine_4 rfl ?_
  refine V.cV [_] rfl kc_X1_89 rfl dX1_expandLine_5 (by decide) rfl rfl (sp_X5_kind) (fun _ => ?_)
  rw [hk]
  refine V.istore_n (L' := [_, _, _, _]) dX1_expandLine_8 rfl rfl ?_
  refine V.iload_n dX1_expandLine_9 rfl ?_
  refine V.bipush dX1_expandLine_10 ⟨by decide, by decide⟩ ?_
  refine V.icmp_ne (tgt := 26) dX1_expandLine_12 (by decide) (fun hh => ?_) (fun hh => ?_)
  · refine V.iload_n dX1_expandLine_26 rfl ?_
    refine V.bipush dX1_expandLine_27 ⟨by decide, by decide⟩ ?_
    refine V.icmp_ne (tgt := 38) dX1_expandLine_29 (by decide) (fun hh => ?_) (fun hh => ?_)
    · refine V.iload_n dX1_expandLine_38 rfl ?_
      refine V.bipush dX1_expandLine_39 ⟨by decide, by decide⟩ ?_
      refine V.icmp_ne (tgt := 50) dX1_expandLine_41 (by decide) (fun hh => ?_) (fun hh => ?_)
      · refine V.aload_n dX1_expandLine_50 rfl ?_
        refine V.iload_n dX1_expandLine_51 rfl ?_
        refine V.iload_n dX1_expandLine_52 rfl ?_
        refine V.cV [_, _] rfl kc_X1_101 rfl dX1_expandLine_53 (by decide) rfl rfl (sp_X1_faultAt h0 h1 h2 h3 hs) (fun _ => ?_)
        rw [hf]
        refine V.istore_n (L' := [_, _, _, _]) dX1_expandLine_56 rfl rfl ?_
        refine V.iload_n dX1_expandLine_57 rfl ?_
        refine V.bipush dX1_expandLine_58 ⟨by decide, by decide⟩ ?_
        refine V.icmp_eq (tgt := 71) dX1_expandLine_60 (by decide) (fun hh => ?_) (fun hh => ?_)
        · refine V.aload_n dX1_expandLine_71 rfl ?_
          refine V.dup dX1_expandLine_72 rfl ?_
          refine V.getI fa_X1_56 (by decide) rfl dX1_expandLine_73 (fun _ => ?_)
          refine V.iconst dX1_expandLine_76 ⟨by decide, by decide⟩ ?_
          refine V.iadd dX1_expandLine_77 ⟨(by omega), (by omega)⟩ ?_
          refine V.putI fa_X1_56 (by decide) rfl dX1_expandLine_78 (Or.inl rfl) ?_
          refine V.iload_n dX1_expandLine_81 rfl ?_
          refine V.bipush dX1_expandLine_82 ⟨by decide, by decide⟩ ?_
          refine V.icmp_ne (tgt := 93) dX1_expandLine_84 (by decide) (fun hh => ?_) (fun hh => ?_)
          · refine V.iload_n dX1_expandLine_93 rfl ?_
            refine V.cN [_] rfl kc_X1_108 dX1_expandLine_94 (by decide) rfl rfl (sp_X6_beginsGroup) (fun _ => ?_)
            rw [if_neg hm]
            refine V.if_eq (tgt := 107) dX1_expandLine_97 (by decide) (fun hh => ?_) (fun hh => ?_)
            · refine V.aload_n dX1_expandLine_107 rfl ?_
              refine V.iload_n dX1_expandLine_108 rfl ?_
              refine V.iload_n dX1_expandLine_109 rfl ?_
              refine V.cV0 [_, _] rfl kc_X1_115 rfl dX1_expandLine_110 (by decide) rfl rfl (h) ?_
              refine V.iload_n dX1_expandLine_113 rfl ?_
              refine V.iconst dX1_expandLine_114 ⟨by decide, by decide⟩ ?_
              refine V.iadd dX1_expandLine_115 ⟨(by omega), (by omega)⟩ ?_
              exact V.iret (jret_i dX1_expandLine_116 rfl) ⟨rfl, rfl⟩
            · first | exact absurd rfl hh | exact absurd hh (by decide) | exact absurd hh (by omega)
          · exact absurd hh hm2
        · first | exact absurd rfl hh | exact absurd hh (by decide) | exact absurd hh (by omega)
      · first | exact absurd rfl hh | exact absurd hh (by decide) | exact absurd hh (by omega)
    · first | exact absurd rfl hh | exact absurd hh (by decide) | exact absurd hh (by omega)
  · first | exact absurd rfl hh | exact absurd hh (by decide) | exact absurd hh (by omega)
theorem sp_X1_findNames0 {τ : JM} (h0 : 0 < τ 3 5) (h1 : τ 3 5 ≤ 81) (h2 : 0 ≤ τ 23 (τ 3 5 - 1)) (h3 : τ 23 (τ 3 5 - 1) ≤ τ 2 6) (h4 : τ 2 6 ≤ 200) (hm : ∀ i, 0 ≤ i → i < τ 2 6 → ¬ jmis (jCls τ) i) : JSp mX1_findNames 3 0 [(2, 4)] τ (jvv (jCls τ)) jno := by
  have e : jCls τ 2 6 = τ 2 6 := by unfold jCls; rw [jset_nk _ (by decide), jcl2_ne _ _ (by decide)]
  refine JSp.of [(2, 4), (9, 0)] rfl (by decide +kernel) rfl rfl rfl (fun l E hA => ?_)
  refine V.aload_n dX1_findNames_0 rfl ?_
  refine V.getR fa_X1_36 rfl dX1_findNames_1 ?_
  refine V.cV0 [] rfl kc_X1_80 rfl dX1_findNames_4 (by decide) rfl rfl (sp_X4_close h0 h1 h2 h3 h4) ?_
  refine V.aload_n dX1_findNames_7 rfl ?_
  refine V.getR fa_X1_32 rfl dX1_findNames_8 ?_
  refine V.callV [] rfl kc_X1_83 rfl dX1_findNames_11 (d' := 1) (by decide) (Nat.le_refl _) rfl (fun _ _ => sp_X3_firstWithoutTarget (by omega) (by omega)) rfl (fun v σ' hq hv => ?_) (fun X σ' hx => hx.elim)
  obtain ⟨r, rfl, hr, rfl⟩ := hq
  have er : r = -1 := by
    rcases hr with hr | hr
    · exact hr.1
    · exact absurd hr.2.2.1 (hm r hr.1 (by omega))
  subst er
  refine V.istore_n (L' := [_, _]) dX1_findNames_14 rfl rfl ?_
  refine V.iload_n dX1_findNames_15 rfl ?_
  refine V.iconst dX1_findNames_16 ⟨by decide, by decide⟩ ?_
  refine V.icmp_eq (tgt := 34) dX1_findNames_17 (by decide) (fun hh => ?_) (fun hh => ?_)
  · exact V.vret (jret_v dX1_findNames_34 rfl) ⟨rfl, rfl⟩
  · exact absurd rfl hh
theorem sp_X1_findNamesU {τ : JM} {i : Int} (h0 : 0 < τ 3 5) (h1 : τ 3 5 ≤ 81) (h2 : 0 ≤ τ 23 (τ 3 5 - 1)) (h3 : τ 23 (τ 3 5 - 1) ≤ τ 2 6) (h4 : τ 2 6 ≤ 200) (hi : 0 ≤ i ∧ i < τ 2 6) (hm : jmis (jCls τ) i) (hn : ∀ j, 0 ≤ j → j < i → ¬ jmis (jCls τ) j) : JSp mX1_findNames 3 0 [(2, 4)] τ (jvv (jset (jset (jCls τ) 4 9 117) 4 10 (τ 15 i))) jno := by
  have e : jCls τ 2 6 = τ 2 6 := by unfold jCls; rw [jset_nk _ (by decide), jcl2_ne _ _ (by decide)]
  have e2 : jat (jCls τ) 15 200 i = τ 15 i := by rw [jat_in (by omega) (by omega)]; unfold jCls; rw [jset_nk _ (by decide), jcl2_ne _ _ (by decide)]
  refine JSp.of [(2, 4), (9, 0)] rfl (by decide +kernel) rfl rfl rfl (fun l E hA => ?_)
  refine V.aload_n dX1_findNames_0 rfl ?_
  refine V.getR fa_X1_36 rfl dX1_findNames_1 ?_
  refine V.cV0 [] rfl kc_X1_80 rfl dX1_findNames_4 (by decide) rfl rfl (sp_X4_close h0 h1 h2 h3 h4) ?_
  refine V.aload_n dX1_findNames_7 rfl ?_
  refine V.getR fa_X1_32 rfl dX1_findNames_8 ?_
  refine V.callV [] rfl kc_X1_83 rfl dX1_findNames_11 (d' := 1) (by decide) (Nat.le_refl _) rfl (fun _ _ => sp_X3_firstWithoutTarget (by omega) (by omega)) rfl (fun v σ' hq hv => ?_) (fun X σ' hx => hx.elim)
  obtain ⟨r, rfl, hr, rfl⟩ := hq
  have er : r = i := by
    rcases hr with hr | hr
    · exact absurd hm (hr.2 i hi.1 (by omega))
    · rcases Int.lt_trichotomy r i with q | q | q
      · exact absurd hr.2.2.1 (hn r hr.1 q)
      · exact q
      · exact absurd hm (hr.2.2.2 i hi.1 q)
  subst er
  refine V.istore_n (L' := [_, _]) dX1_findNames_14 rfl rfl ?_
  refine V.iload_n dX1_findNames_15 rfl ?_
  refine V.iconst dX1_findNames_16 ⟨by decide, by decide⟩ ?_
  refine V.icmp_eq (tgt := 34) dX1_findNames_17 (by decide) (fun hh => ?_) (fun hh => ?_)
  · exact absurd hh (by omega)
  · refine V.aload_n dX1_findNames_20 rfl ?_
    refine V.bipush dX1_findNames_21 ⟨by decide, by decide⟩ ?_
    refine V.aload_n dX1_findNames_23 rfl ?_
    refine V.getR fa_X1_32 rfl dX1_findNames_24 ?_
    refine V.iload_n dX1_findNames_27 rfl ?_
    refine V.cV [_] rfl kc_X1_86 rfl dX1_findNames_28 (by decide) rfl rfl (sp_X3_line) (fun _ => ?_)
    rw [e2]
    refine V.cV0 [_, _] rfl kc_X1_65 rfl dX1_findNames_31 (by decide) rfl rfl (sp_X1_fail) ?_
    exact V.vret (jret_v dX1_findNames_34 rfl) ⟨rfl, rfl⟩
