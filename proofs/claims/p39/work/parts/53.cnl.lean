/-- the loop of countLines: the line, the count, the factor, the memory -/
def jYZ (l : Launch) (E : JE) (dd : Nat) (Qr : Option JV → JM → Prop) (fr en cl P Q : Int) (x cnt fac : Int) (τ : JM) : Prop := ∀ L9 L10 : JV, V l E mX0_countLines dd 0 Qr jno 9 [(2, 6), (0, fr), (0, en), (0, cl), (0, P), (0, Q), (0, cnt), (0, fac), (0, x), L9, L10] [] τ
section YZ
variable {l : Launch} {E : JE} {dd : Nat} {Qr : Option JV → JM → Prop} {fr en cl P Q x cnt fac k : Int} {τ : JM}
theorem yz_exit (hx : en ≤ x) (hq : Qr (some (0, cnt)) τ) : jYZ l E dd Qr fr en cl P Q x cnt fac τ := by
  intro L9 L10
  refine V.iload dX0_countLines_9 rfl ?_
  refine V.iload_n dX0_countLines_11 rfl ?_
  refine V.icmp_ge (tgt := 216) dX0_countLines_12 (by decide) (fun hh => ?_) (fun hh => ?_)
  · refine V.iload dX0_countLines_216 rfl ?_
    exact V.iret (jret_i dX0_countLines_218 rfl) hq
  · first | exact absurd rfl hh | exact absurd hh (by decide) | exact absurd hh (by omega) | (exfalso; omega)
theorem yz_M (d4 : 4 ≤ dd) (hx : x < en) (x0 : 0 ≤ x ∧ x < 80) (hk : jat τ 8 80 x = k) (hm : k = 77) (hp : x ≤ jat τ 12 80 x ∧ jat τ 12 80 x ≤ 1000) (kk : jYZ l E dd Qr fr en cl P Q (jat τ 12 80 x + 1) cnt fac τ) : jYZ l E dd Qr fr en cl P Q x cnt fac τ := by
  intro L9 L10
  subst hm
  refine V.iload dX0_countLines_9 rfl ?_
  refine V.iload_n dX0_countLines_11 rfl ?_
  refine V.icmp_ge (tgt := 216) dX0_countLines_12 (by decide) (fun hh => ?_) (fun hh => ?_)
  · first | exact absurd rfl hh | exact absurd hh (by decide) | exact absurd hh (by omega) | (exfalso; omega)
  · refine V.aload_n dX0_countLines_15 rfl ?_
    refine V.getR fa_X0_26 rfl dX0_countLines_16 ?_
    refine V.iload dX0_countLines_19 rfl ?_
    refine V.cV [_] rfl kc_X0_59 rfl dX0_countLines_21 (by omega) rfl rfl (sp_X5_kind) (fun _ => ?_)
    refine V.istore (L' := [_, _, _, _, _, _, _, _, _, _, _]) dX0_countLines_24 rfl rfl ?_
    rw [hk]
    refine V.iload dX0_countLines_26 rfl ?_
    refine V.bipush dX0_countLines_28 ⟨by decide, by decide⟩ ?_
    refine V.icmp_ne (tgt := 52) dX0_countLines_30 (by decide) (fun hh => ?_) (fun hh => ?_)
    · first | exact absurd rfl hh | exact absurd hh (by decide) | exact absurd hh (by omega) | (exfalso; omega)
    · refine V.iload dX0_countLines_33 rfl ?_
      refine V.aload_n dX0_countLines_35 rfl ?_
      refine V.getR fa_X0_26 rfl dX0_countLines_36 ?_
      refine V.iload dX0_countLines_39 rfl ?_
      refine V.cV [_] rfl kc_X0_52 rfl dX0_countLines_41 (by omega) rfl rfl (sp_X5_partner) (fun _ => ?_)
      refine V.mmaxI dX0_countLines_44 kg1221 kg396 kg23 kg397 (by omega) rfl ?_
      rw [Int.max_eq_right hp.1]
      refine V.istore (L' := [_, _, _, _, _, _, _, _, _, _, _]) dX0_countLines_47 rfl rfl ?_
      refine V.goto (tgt := 210) dX0_countLines_49 (by decide) ?_
      refine V.iinc (L' := [_, _, _, _, _, _, _, _, _, _, _]) dX0_countLines_210 rfl ⟨(by omega), (by omega)⟩ rfl ?_
      refine V.goto (tgt := 9) dX0_countLines_213 (by decide) ?_
      exact kk _ _
theorem yz_E (d4 : 4 ≤ dd) (hx : x < en) (x0 : 0 ≤ x ∧ x < 80) (hk : jat τ 8 80 x = k) (hm : k = 69) (kk : jYZ l E dd Qr fr en cl P Q (x + 1) cnt (jat τ 31 80 (jat τ 12 80 x)) τ) : jYZ l E dd Qr fr en cl P Q x cnt fac τ := by
  intro L9 L10
  subst hm
  refine V.iload dX0_countLines_9 rfl ?_
  refine V.iload_n dX0_countLines_11 rfl ?_
  refine V.icmp_ge (tgt := 216) dX0_countLines_12 (by decide) (fun hh => ?_) (fun hh => ?_)
  · first | exact absurd rfl hh | exact absurd hh (by decide) | exact absurd hh (by omega) | (exfalso; omega)
  · refine V.aload_n dX0_countLines_15 rfl ?_
    refine V.getR fa_X0_26 rfl dX0_countLines_16 ?_
    refine V.iload dX0_countLines_19 rfl ?_
    refine V.cV [_] rfl kc_X0_59 rfl dX0_countLines_21 (by omega) rfl rfl (sp_X5_kind) (fun _ => ?_)
    refine V.istore (L' := [_, _, _, _, _, _, _, _, _, _, _]) dX0_countLines_24 rfl rfl ?_
    rw [hk]
    refine V.iload dX0_countLines_26 rfl ?_
    refine V.bipush dX0_countLines_28 ⟨by decide, by decide⟩ ?_
    refine V.icmp_ne (tgt := 52) dX0_countLines_30 (by decide) (fun hh => ?_) (fun hh => ?_)
    · refine V.iload dX0_countLines_52 rfl ?_
      refine V.bipush dX0_countLines_54 ⟨by decide, by decide⟩ ?_
      refine V.icmp_ne (tgt := 80) dX0_countLines_56 (by decide) (fun hh => ?_) (fun hh => ?_)
      · first | exact absurd rfl hh | exact absurd hh (by decide) | exact absurd hh (by omega) | (exfalso; omega)
      · refine V.aload_n dX0_countLines_59 rfl ?_
        refine V.getR fa_X0_11 rfl dX0_countLines_60 ?_
        refine V.aload_n dX0_countLines_63 rfl ?_
        refine V.getR fa_X0_26 rfl dX0_countLines_64 ?_
        refine V.iload dX0_countLines_67 rfl ?_
        refine V.cV [_] rfl kc_X0_52 rfl dX0_countLines_69 (by omega) rfl rfl (sp_X5_partner) (fun _ => ?_)
        refine V.cN [_, _] rfl kc_X0_68 dX0_countLines_72 (by omega) rfl rfl (show JSp mX6_at 0 0 [(2, 31), (0, jat τ 12 80 x)] τ (jrv (jat τ 31 80 (jat τ 12 80 x)) τ) jno from sp_X6_at (N := 80) rfl rfl rfl) (fun _ => ?_)
        refine V.istore (L' := [_, _, _, _, _, _, _, _, _, _, _]) dX0_countLines_75 rfl rfl ?_
        refine V.goto (tgt := 210) dX0_countLines_77 (by decide) ?_
        refine V.iinc (L' := [_, _, _, _, _, _, _, _, _, _, _]) dX0_countLines_210 rfl ⟨(by omega), (by omega)⟩ rfl ?_
        refine V.goto (tgt := 9) dX0_countLines_213 (by decide) ?_
        exact kk _ _
    · first | exact absurd rfl hh | exact absurd hh (by decide) | exact absurd hh (by omega) | (exfalso; omega)
theorem yz_G0 (d4 : 4 ≤ dd) (hx : x < en) (x0 : 0 ≤ x ∧ x < 80) (hk : jat τ 8 80 x = k) (hn : k ≠ 77 ∧ k ≠ 69) (hm : k = 66 ∨ k = 76 ∨ k = 87) (hr : jrnd τ x P Q = 0) (hp : x ≤ jat τ 12 80 x ∧ jat τ 12 80 x ≤ 1000) (kk : jYZ l E dd Qr fr en cl P Q (jat τ 12 80 x + 1) cnt fac τ) : jYZ l E dd Qr fr en cl P Q x cnt fac τ := by
  intro L9 L10
  refine V.iload dX0_countLines_9 rfl ?_
  refine V.iload_n dX0_countLines_11 rfl ?_
  refine V.icmp_ge (tgt := 216) dX0_countLines_12 (by decide) (fun hh => ?_) (fun hh => ?_)
  · first | exact absurd rfl hh | exact absurd hh (by decide) | exact absurd hh (by omega) | (exfalso; omega)
  · refine V.aload_n dX0_countLines_15 rfl ?_
    refine V.getR fa_X0_26 rfl dX0_countLines_16 ?_
    refine V.iload dX0_countLines_19 rfl ?_
    refine V.cV [_] rfl kc_X0_59 rfl dX0_countLines_21 (by omega) rfl rfl (sp_X5_kind) (fun _ => ?_)
    refine V.istore (L' := [_, _, _, _, _, _, _, _, _, _, _]) dX0_countLines_24 rfl rfl ?_
    rw [hk]
    refine V.iload dX0_countLines_26 rfl ?_
    refine V.bipush dX0_countLines_28 ⟨by decide, by decide⟩ ?_
    refine V.icmp_ne (tgt := 52) dX0_countLines_30 (by decide) (fun hh => ?_) (fun hh => ?_)
    · refine V.iload dX0_countLines_52 rfl ?_
      refine V.bipush dX0_countLines_54 ⟨by decide, by decide⟩ ?_
      refine V.icmp_ne (tgt := 80) dX0_countLines_56 (by decide) (fun hh => ?_) (fun hh => ?_)
      · refine V.iload dX0_countLines_80 rfl ?_
        refine V.cN [_] rfl kc_X0_72 dX0_countLines_82 (by omega) rfl rfl (sp_X6_beginsGroup) (fun _ => ?_)
        rw [if_pos hm]
        refine V.if_eq (tgt := 162) dX0_countLines_85 (by decide) (fun hh => ?_) (fun hh => ?_)
        · first | exact absurd rfl hh | exact absurd hh (by decide) | exact absurd hh (by omega) | (exfalso; omega)
        · refine V.aload_n dX0_countLines_88 rfl ?_
          refine V.getR fa_X0_26 rfl dX0_countLines_89 ?_
          refine V.iload dX0_countLines_92 rfl ?_
          refine V.iload dX0_countLines_94 rfl ?_
          refine V.iload dX0_countLines_96 rfl ?_
          refine V.cV [_, _, _] rfl kc_X0_76 rfl dX0_countLines_98 (by omega) rfl rfl (sp_X5_rounds) (fun _ => ?_)
          refine V.istore (L' := [_, _, _, _, _, _, _, _, _, _, _]) dX0_countLines_101 rfl rfl ?_
          refine V.iload dX0_countLines_103 rfl ?_
          refine V.bipush dX0_countLines_105 ⟨by decide, by decide⟩ ?_
          refine V.icmp_le (tgt := 112) dX0_countLines_107 (by decide) (fun hh => ?_) (fun hh => ?_)
          · refine V.iload dX0_countLines_112 rfl ?_
            refine V.if_ne (tgt := 136) dX0_countLines_114 (by decide) (fun hh => ?_) (fun hh => ?_)
            · exact absurd hr hh
            · refine V.iload dX0_countLines_117 rfl ?_
              refine V.aload_n dX0_countLines_119 rfl ?_
              refine V.getR fa_X0_26 rfl dX0_countLines_120 ?_
              refine V.iload dX0_countLines_123 rfl ?_
              refine V.cV [_] rfl kc_X0_52 rfl dX0_countLines_125 (by omega) rfl rfl (sp_X5_partner) (fun _ => ?_)
              refine V.mmaxI dX0_countLines_128 kg1221 kg396 kg23 kg397 (by omega) rfl ?_
              rw [Int.max_eq_right hp.1]
              refine V.istore (L' := [_, _, _, _, _, _, _, _, _, _, _]) dX0_countLines_131 rfl rfl ?_
              refine V.goto (tgt := 159) dX0_countLines_133 (by decide) ?_
              refine V.goto (tgt := 210) dX0_countLines_159 (by decide) ?_
              refine V.iinc (L' := [_, _, _, _, _, _, _, _, _, _, _]) dX0_countLines_210 rfl ⟨(by omega), (by omega)⟩ rfl ?_
              refine V.goto (tgt := 9) dX0_countLines_213 (by decide) ?_
              exact kk _ _
          · exact absurd hh (by rw [hr]; decide)
      · first | exact absurd rfl hh | exact absurd hh (by decide) | exact absurd hh (by omega) | (exfalso; omega)
    · first | exact absurd rfl hh | exact absurd hh (by decide) | exact absurd hh (by omega) | (exfalso; omega)
theorem yz_GB (d4 : 4 ≤ dd) (hx : x < en) (x0 : 0 ≤ x ∧ x < 80) (hk : jat τ 8 80 x = k) (hn : k ≠ 77 ∧ k ≠ 69) (hm : k = 66 ∨ k = 76 ∨ k = 87) (hr : 9 < jrnd τ x P Q) (hq : Qr (some (0, -1)) τ) : jYZ l E dd Qr fr en cl P Q x cnt fac τ := by
  intro L9 L10
  refine V.iload dX0_countLines_9 rfl ?_
  refine V.iload_n dX0_countLines_11 rfl ?_
  refine V.icmp_ge (tgt := 216) dX0_countLines_12 (by decide) (fun hh => ?_) (fun hh => ?_)
  · first | exact absurd rfl hh | exact absurd hh (by decide) | exact absurd hh (by omega) | (exfalso; omega)
  · refine V.aload_n dX0_countLines_15 rfl ?_
    refine V.getR fa_X0_26 rfl dX0_countLines_16 ?_
    refine V.iload dX0_countLines_19 rfl ?_
    refine V.cV [_] rfl kc_X0_59 rfl dX0_countLines_21 (by omega) rfl rfl (sp_X5_kind) (fun _ => ?_)
    refine V.istore (L' := [_, _, _, _, _, _, _, _, _, _, _]) dX0_countLines_24 rfl rfl ?_
    rw [hk]
    refine V.iload dX0_countLines_26 rfl ?_
    refine V.bipush dX0_countLines_28 ⟨by decide, by decide⟩ ?_
    refine V.icmp_ne (tgt := 52) dX0_countLines_30 (by decide) (fun hh => ?_) (fun hh => ?_)
    · refine V.iload dX0_countLines_52 rfl ?_
      refine V.bipush dX0_countLines_54 ⟨by decide, by decide⟩ ?_
      refine V.icmp_ne (tgt := 80) dX0_countLines_56 (by decide) (fun hh => ?_) (fun hh => ?_)
      · refine V.iload dX0_countLines_80 rfl ?_
        refine V.cN [_] rfl kc_X0_72 dX0_countLines_82 (by omega) rfl rfl (sp_X6_beginsGroup) (fun _ => ?_)
        rw [if_pos hm]
        refine V.if_eq (tgt := 162) dX0_countLines_85 (by decide) (fun hh => ?_) (fun hh => ?_)
        · first | exact absurd rfl hh | exact absurd hh (by decide) | exact absurd hh (by omega) | (exfalso; omega)
        · refine V.aload_n dX0_countLines_88 rfl ?_
          refine V.getR fa_X0_26 rfl dX0_countLines_89 ?_
          refine V.iload dX0_countLines_92 rfl ?_
          refine V.iload dX0_countLines_94 rfl ?_
          refine V.iload dX0_countLines_96 rfl ?_
          refine V.cV [_, _, _] rfl kc_X0_76 rfl dX0_countLines_98 (by omega) rfl rfl (sp_X5_rounds) (fun _ => ?_)
          refine V.istore (L' := [_, _, _, _, _, _, _, _, _, _, _]) dX0_countLines_101 rfl rfl ?_
          refine V.iload dX0_countLines_103 rfl ?_
          refine V.bipush dX0_countLines_105 ⟨by decide, by decide⟩ ?_
          refine V.icmp_le (tgt := 112) dX0_countLines_107 (by decide) (fun hh => ?_) (fun hh => ?_)
          · first | exact absurd rfl hh | exact absurd hh (by decide) | exact absurd hh (by omega) | (exfalso; omega)
          · refine V.iconst dX0_countLines_110 ⟨by decide, by decide⟩ ?_
            exact V.iret (jret_i dX0_countLines_111 rfl) hq
      · first | exact absurd rfl hh | exact absurd hh (by decide) | exact absurd hh (by omega) | (exfalso; omega)
    · first | exact absurd rfl hh | exact absurd hh (by decide) | exact absurd hh (by omega) | (exfalso; omega)
theorem yz_G (d4 : 4 ≤ dd) (hx : x < en) (x0 : 0 ≤ x ∧ x < 80) (hk : jat τ 8 80 x = k) (hn : k ≠ 77 ∧ k ≠ 69) (hm : k = 66 ∨ k = 76 ∨ k = 87) (hr : 0 < jrnd τ x P Q ∧ jrnd τ x P Q ≤ 9) (hf : 1 ≤ fac ∧ fac ≤ 1000000) (kk : jYZ l E dd Qr fr en cl P Q (x + 1) cnt (min (fac * jrnd τ x P Q) 1000000) (jset τ 31 x fac)) : jYZ l E dd Qr fr en cl P Q x cnt fac τ := by
  intro L9 L10
  have hm0 : 0 ≤ fac * jrnd τ x P Q := Int.mul_nonneg (by omega) (by omega)
  have hm1 : fac * jrnd τ x P Q ≤ 1000000 * 9 := Int.mul_le_mul hf.2 hr.2 (by omega) (by omega)
  refine V.iload dX0_countLines_9 rfl ?_
  refine V.iload_n dX0_countLines_11 rfl ?_
  refine V.icmp_ge (tgt := 216) dX0_countLines_12 (by decide) (fun hh => ?_) (fun hh => ?_)
  · first | exact absurd rfl hh | exact absurd hh (by decide) | exact absurd hh (by omega) | (exfalso; omega)
  · refine V.aload_n dX0_countLines_15 rfl ?_
    refine V.getR fa_X0_26 rfl dX0_countLines_16 ?_
    refine V.iload dX0_countLines_19 rfl ?_
    refine V.cV [_] rfl kc_X0_59 rfl dX0_countLines_21 (by omega) rfl rfl (sp_X5_kind) (fun _ => ?_)
    refine V.istore (L' := [_, _, _, _, _, _, _, _, _, _, _]) dX0_countLines_24 rfl rfl ?_
    rw [hk]
    refine V.iload dX0_countLines_26 rfl ?_
    refine V.bipush dX0_countLines_28 ⟨by decide, by decide⟩ ?_
    refine V.icmp_ne (tgt := 52) dX0_countLines_30 (by decide) (fun hh => ?_) (fun hh => ?_)
    · refine V.iload dX0_countLines_52 rfl ?_
      refine V.bipush dX0_countLines_54 ⟨by decide, by decide⟩ ?_
      refine V.icmp_ne (tgt := 80) dX0_countLines_56 (by decide) (fun hh => ?_) (fun hh => ?_)
      · refine V.iload dX0_countLines_80 rfl ?_
        refine V.cN [_] rfl kc_X0_72 dX0_countLines_82 (by omega) rfl rfl (sp_X6_beginsGroup) (fun _ => ?_)
        rw [if_pos hm]
        refine V.if_eq (tgt := 162) dX0_countLines_85 (by decide) (fun hh => ?_) (fun hh => ?_)
        · first | exact absurd rfl hh | exact absurd hh (by decide) | exact absurd hh (by omega) | (exfalso; omega)
        · refine V.aload_n dX0_countLines_88 rfl ?_
          refine V.getR fa_X0_26 rfl dX0_countLines_89 ?_
          refine V.iload dX0_countLines_92 rfl ?_
          refine V.iload dX0_countLines_94 rfl ?_
          refine V.iload dX0_countLines_96 rfl ?_
          refine V.cV [_, _, _] rfl kc_X0_76 rfl dX0_countLines_98 (by omega) rfl rfl (sp_X5_rounds) (fun _ => ?_)
          refine V.istore (L' := [_, _, _, _, _, _, _, _, _, _, _]) dX0_countLines_101 rfl rfl ?_
          refine V.iload dX0_countLines_103 rfl ?_
          refine V.bipush dX0_countLines_105 ⟨by decide, by decide⟩ ?_
          refine V.icmp_le (tgt := 112) dX0_countLines_107 (by decide) (fun hh => ?_) (fun hh => ?_)
          · refine V.iload dX0_countLines_112 rfl ?_
            refine V.if_ne (tgt := 136) dX0_countLines_114 (by decide) (fun hh => ?_) (fun hh => ?_)
            · refine V.aload_n dX0_countLines_136 rfl ?_
              refine V.getR fa_X0_11 rfl dX0_countLines_137 ?_
              refine V.iload dX0_countLines_140 rfl ?_
              refine V.iload dX0_countLines_142 rfl ?_
              refine V.cN0 [_, _, _] rfl kc_X0_80 dX0_countLines_144 (by omega) rfl rfl (sp_X6_setAt (k := 31) (N := 80) rfl rfl rfl rfl (x0.1) (x0.2)) ?_
              refine V.iload dX0_countLines_147 rfl ?_
              refine V.i2l dX0_countLines_149 ?_
              refine V.iload dX0_countLines_150 rfl ?_
              refine V.i2l dX0_countLines_152 ?_
              refine V.lmul dX0_countLines_153 ⟨by omega, by omega⟩ ?_
              refine V.cS [_] rfl kc_X0_84 dX0_countLines_154 (by omega) rfl rfl (sp_X0_limited (by omega)) (fun _ => ?_)
              refine V.istore (L' := [_, _, _, _, _, _, _, _, _, _, _]) dX0_countLines_157 rfl rfl ?_
              refine V.goto (tgt := 210) dX0_countLines_159 (by decide) ?_
              refine V.iinc (L' := [_, _, _, _, _, _, _, _, _, _, _]) dX0_countLines_210 rfl ⟨(by omega), (by omega)⟩ rfl ?_
              refine V.goto (tgt := 9) dX0_countLines_213 (by decide) ?_
              exact kk _ _
            · exact absurd hh (by omega)
          · first | exact absurd rfl hh | exact absurd hh (by decide) | exact absurd hh (by omega) | (exfalso; omega)
      · first | exact absurd rfl hh | exact absurd hh (by decide) | exact absurd hh (by omega) | (exfalso; omega)
    · first | exact absurd rfl hh | exact absurd hh (by decide) | exact absurd hh (by omega) | (exfalso; omega)
theorem yz_I (d4 : 4 ≤ dd) (hx : x < en) (x0 : 0 ≤ x ∧ x < 80) (hk : jat τ 8 80 x = k) (hn : k ≠ 77 ∧ k ≠ 69) (hm : ¬ (k = 66 ∨ k = 76 ∨ k = 87)) (hf : 1 ≤ fac ∧ fac ≤ 1000000) (hc : 0 ≤ cnt ∧ cnt ≤ 1000000) (h67 : k ≠ 67) (kk : jYZ l E dd Qr fr en cl P Q (x + 1) (min (cnt + fac * 1) 1000000) fac τ) : jYZ l E dd Qr fr en cl P Q x cnt fac τ := by
  intro L9 L10
  refine V.iload dX0_countLines_9 rfl ?_
  refine V.iload_n dX0_countLines_11 rfl ?_
  refine V.icmp_ge (tgt := 216) dX0_countLines_12 (by decide) (fun hh => ?_) (fun hh => ?_)
  · first | exact absurd rfl hh | exact absurd hh (by decide) | exact absurd hh (by omega) | (exfalso; omega)
  · refine V.aload_n dX0_countLines_15 rfl ?_
    refine V.getR fa_X0_26 rfl dX0_countLines_16 ?_
    refine V.iload dX0_countLines_19 rfl ?_
    refine V.cV [_] rfl kc_X0_59 rfl dX0_countLines_21 (by omega) rfl rfl (sp_X5_kind) (fun _ => ?_)
    refine V.istore (L' := [_, _, _, _, _, _, _, _, _, _, _]) dX0_countLines_24 rfl rfl ?_
    rw [hk]
    refine V.iload dX0_countLines_26 rfl ?_
    refine V.bipush dX0_countLines_28 ⟨by decide, by decide⟩ ?_
    refine V.icmp_ne (tgt := 52) dX0_countLines_30 (by decide) (fun hh => ?_) (fun hh => ?_)
    · refine V.iload dX0_countLines_52 rfl ?_
      refine V.bipush dX0_countLines_54 ⟨by decide, by decide⟩ ?_
      refine V.icmp_ne (tgt := 80) dX0_countLines_56 (by decide) (fun hh => ?_) (fun hh => ?_)
      · refine V.iload dX0_countLines_80 rfl ?_
        refine V.cN [_] rfl kc_X0_72 dX0_countLines_82 (by omega) rfl rfl (sp_X6_beginsGroup) (fun _ => ?_)
        rw [if_neg hm]
        refine V.if_eq (tgt := 162) dX0_countLines_85 (by decide) (fun hh => ?_) (fun hh => ?_)
        · refine V.iload dX0_countLines_162 rfl ?_
          refine V.bipush dX0_countLines_164 ⟨by decide, by decide⟩ ?_
          refine V.icmp_ne (tgt := 183) dX0_countLines_166 (by decide) (fun hh => ?_) (fun hh => ?_)
          · refine V.iconst dX0_countLines_183 ⟨by decide, by decide⟩ ?_
            refine V.istore (L' := [_, _, _, _, _, _, _, _, _, _, _]) dX0_countLines_184 rfl rfl ?_
            refine V.iload dX0_countLines_186 rfl ?_
            refine V.iconst dX0_countLines_188 ⟨by decide, by decide⟩ ?_
            refine V.icmp_ne (tgt := 194) dX0_countLines_189 (by decide) (fun hh => ?_) (fun hh => ?_)
            · refine V.iload dX0_countLines_194 rfl ?_
              refine V.i2l dX0_countLines_196 ?_
              refine V.iload dX0_countLines_197 rfl ?_
              refine V.i2l dX0_countLines_199 ?_
              refine V.iload dX0_countLines_200 rfl ?_
              refine V.i2l dX0_countLines_202 ?_
              refine V.lmul dX0_countLines_203 ⟨by omega, by omega⟩ ?_
              refine V.ladd dX0_countLines_204 ⟨by omega, by omega⟩ ?_
              refine V.cS [_] rfl kc_X0_84 dX0_countLines_205 (by omega) rfl rfl (sp_X0_limited (by omega)) (fun _ => ?_)
              refine V.istore (L' := [_, _, _, _, _, _, _, _, _, _, _]) dX0_countLines_208 rfl rfl ?_
              refine V.iinc (L' := [_, _, _, _, _, _, _, _, _, _, _]) dX0_countLines_210 rfl ⟨(by omega), (by omega)⟩ rfl ?_
              refine V.goto (tgt := 9) dX0_countLines_213 (by decide) ?_
              exact kk _ _
            · exact absurd hh (by decide)
          · exact absurd hh h67
        · first | exact absurd rfl hh | exact absurd hh (by decide) | exact absurd hh (by omega) | (exfalso; omega)
      · first | exact absurd rfl hh | exact absurd hh (by decide) | exact absurd hh (by omega) | (exfalso; omega)
    · first | exact absurd rfl hh | exact absurd hh (by decide) | exact absurd hh (by omega) | (exfalso; omega)
theorem yz_C (d4 : 4 ≤ dd) (hx : x < en) (x0 : 0 ≤ x ∧ x < 80) (hk : jat τ 8 80 x = k) (hn : k ≠ 77 ∧ k ≠ 69) (hm : ¬ (k = 66 ∨ k = 76 ∨ k = 87)) (hf : 1 ≤ fac ∧ fac ≤ 1000000) (hc : 0 ≤ cnt ∧ cnt ≤ 1000000) (h67 : k = 67) {d5 : Nat} (hd5 : d5 < dd) {QC : Option JV → JM → Prop} (hC : JSp mX0_countCall d5 0 [(2, 6), (0, x), (0, cl), (0, P), (0, Q)] τ QC jno) (hQ : ∀ v t, QC v t → ∃ c, v = some (0, c) ∧ (-1 ≤ c ∧ c ≤ 1000000) ∧ (c = -1 → Qr (some (0, -1)) t) ∧ (c ≠ -1 → jYZ l E dd Qr fr en cl P Q (x + 1) (min (cnt + fac * c) 1000000) fac t)) : jYZ l E dd Qr fr en cl P Q x cnt fac τ := by
  intro L9 L10
  refine V.iload dX0_countLines_9 rfl ?_
  refine V.iload_n dX0_countLines_11 rfl ?_
  refine V.icmp_ge (tgt := 216) dX0_countLines_12 (by decide) (fun hh => ?_) (fun hh => ?_)
  · first | exact absurd rfl hh | exact absurd hh (by decide) | exact absurd hh (by omega) | (exfalso; omega)
  · refine V.aload_n dX0_countLines_15 rfl ?_
    refine V.getR fa_X0_26 rfl dX0_countLines_16 ?_
    refine V.iload dX0_countLines_19 rfl ?_
    refine V.cV [_] rfl kc_X0_59 rfl dX0_countLines_21 (by omega) rfl rfl (sp_X5_kind) (fun _ => ?_)
    refine V.istore (L' := [_, _, _, _, _, _, _, _, _, _, _]) dX0_countLines_24 rfl rfl ?_
    rw [hk]
    refine V.iload dX0_countLines_26 rfl ?_
    refine V.bipush dX0_countLines_28 ⟨by decide, by decide⟩ ?_
    refine V.icmp_ne (tgt := 52) dX0_countLines_30 (by decide) (fun hh => ?_) (fun hh => ?_)
    · refine V.iload dX0_countLines_52 rfl ?_
      refine V.bipush dX0_countLines_54 ⟨by decide, by decide⟩ ?_
      refine V.icmp_ne (tgt := 80) dX0_countLines_56 (by decide) (fun hh => ?_) (fun hh => ?_)
      · refine V.iload dX0_countLines_80 rfl ?_
        refine V.cN [_] rfl kc_X0_72 dX0_countLines_82 (by omega) rfl rfl (sp_X6_beginsGroup) (fun _ => ?_)
        rw [if_neg hm]
        refine V.if_eq (tgt := 162) dX0_countLines_85 (by decide) (fun hh => ?_) (fun hh => ?_)
        · refine V.iload dX0_countLines_162 rfl ?_
          refine V.bipush dX0_countLines_164 ⟨by decide, by decide⟩ ?_
          refine V.icmp_ne (tgt := 183) dX0_countLines_166 (by decide) (fun hh => ?_) (fun hh => ?_)
          · exact absurd h67 hh
          · refine V.aload_n dX0_countLines_169 rfl ?_
            refine V.iload dX0_countLines_170 rfl ?_
            refine V.iload_n dX0_countLines_172 rfl ?_
            refine V.iload dX0_countLines_173 rfl ?_
            refine V.iload dX0_countLines_175 rfl ?_
            refine V.callV [_, _, _, _] rfl kc_X0_87 rfl dX0_countLines_177 (d' := d5) (by omega) (Nat.le_refl _) rfl (fun _ _ => hC) rfl (fun v τ2 hq hv => ?_) (fun X σ' hx => hx.elim)
            obtain ⟨c, rfl, c0, hP⟩ := hQ v τ2 hq
            have hm0 : c ≠ -1 → 0 ≤ fac * c ∧ fac * c ≤ 1000000 * 1000000 := fun q => ⟨Int.mul_nonneg (by omega) (by omega), Int.mul_le_mul hf.2 (by omega) (by omega) (by omega)⟩
            refine V.goto (tgt := 184) dX0_countLines_180 (by decide) ?_
            refine V.istore (L' := [_, _, _, _, _, _, _, _, _, _, _]) dX0_countLines_184 rfl rfl ?_
            refine V.iload dX0_countLines_186 rfl ?_
            refine V.iconst dX0_countLines_188 ⟨by decide, by decide⟩ ?_
            refine V.icmp_ne (tgt := 194) dX0_countLines_189 (by decide) (fun h186 => ?_) (fun h186 => ?_)
            · refine V.iload dX0_countLines_194 rfl ?_
              refine V.i2l dX0_countLines_196 ?_
              refine V.iload dX0_countLines_197 rfl ?_
              refine V.i2l dX0_countLines_199 ?_
              refine V.iload dX0_countLines_200 rfl ?_
              refine V.i2l dX0_countLines_202 ?_
              refine V.lmul dX0_countLines_203 ⟨by have := hm0 h186; omega, by have := hm0 h186; omega⟩ ?_
              refine V.ladd dX0_countLines_204 ⟨by have := hm0 h186; omega, by have := hm0 h186; omega⟩ ?_
              refine V.cS [_] rfl kc_X0_84 dX0_countLines_205 (by omega) rfl rfl (sp_X0_limited (by have := hm0 h186; omega)) (fun _ => ?_)
              refine V.istore (L' := [_, _, _, _, _, _, _, _, _, _, _]) dX0_countLines_208 rfl rfl ?_
              refine V.iinc (L' := [_, _, _, _, _, _, _, _, _, _, _]) dX0_countLines_210 rfl ⟨(by omega), (by omega)⟩ rfl ?_
              refine V.goto (tgt := 9) dX0_countLines_213 (by decide) ?_
              exact hP.2 h186 _ _
            · refine V.iconst dX0_countLines_192 ⟨by decide, by decide⟩ ?_
              exact V.iret (jret_i dX0_countLines_193 rfl) (hP.1 h186)
        · first | exact absurd rfl hh | exact absurd hh (by decide) | exact absurd hh (by omega) | (exfalso; omega)
      · first | exact absurd rfl hh | exact absurd hh (by decide) | exact absurd hh (by omega) | (exfalso; omega)
    · first | exact absurd rfl hh | exact absurd hh (by decide) | exact absurd hh (by omega) | (exfalso; omega)
end YZ
theorem yz_start {dd : Nat} {Qr : Option JV → JM → Prop} {fr en cl P Q : Int} {τ : JM} (h : ∀ (l : Launch) (E : JE), jYZ l E dd Qr fr en cl P Q fr 0 1 τ) : JSp mX0_countLines dd 0 [(2, 6), (0, fr), (0, en), (0, cl), (0, P), (0, Q)] τ Qr jno := by
  refine JSp.of [(2, 6), (0, fr), (0, en), (0, cl), (0, P), (0, Q), (9, 0), (9, 0), (9, 0), (9, 0), (9, 0)] rfl (by decide +kernel) rfl rfl rfl (fun l E hA => ?_)
  refine V.iconst dX0_countLines_0 ⟨by decide, by decide⟩ ?_
  refine V.istore (L' := [_, _, _, _, _, _, _, _, _, _, _]) dX0_countLines_1 rfl rfl ?_
  refine V.iconst dX0_countLines_3 ⟨by decide, by decide⟩ ?_
  refine V.istore (L' := [_, _, _, _, _, _, _, _, _, _, _]) dX0_countLines_4 rfl rfl ?_
  refine V.iload_n dX0_countLines_6 rfl ?_
  refine V.istore (L' := [_, _, _, _, _, _, _, _, _, _, _]) dX0_countLines_7 rfl rfl ?_
  exact h l E _ _
/-- what counting keeps; counts that are right; keys; the kept counts -/
def jck (σ0 τ : JM) : Prop := ∀ a b, ¬ (31 ≤ a ∧ a ≤ 33) → τ a b = σ0 a b
theorem jck.rf (σ : JM) : jck σ σ := fun _ _ _ => rfl
theorem jck.set {σ0 τ : JM} (h : jck σ0 τ) {k : Nat} (j v : Int) (hk : 31 ≤ k ∧ k ≤ 33) : jck σ0 (jset τ k j v) := fun a b h1 => by
  rw [jset_ne τ (fun q => h1 (by rw [q.1]; exact hk))]; exact h a b h1
def jcvR (r : Int × Prop) (v : Int) : Prop := (r.2 ∧ v = -1) ∨ (¬ r.2 ∧ v = min r.1 1000000)
def jky (g m a b : Int) : Int := ((g * 8 + m) * 1000 + a) * 1000 + b
theorem jky_inj {g m a b m' a' b' : Int} (h1 : (0 ≤ a ∧ a ≤ 999) ∧ (0 ≤ b ∧ b ≤ 999)) (h2 : (0 ≤ a' ∧ a' ≤ 999) ∧ (0 ≤ b' ∧ b' ≤ 999)) (e : jky g m a b = jky g m' a' b') : m = m' ∧ a = a' ∧ b = b' := by unfold jky at e; omega
def jcmo (σ0 τ : JM) : Prop := ∀ i, 0 ≤ i → i < 4096 → τ 32 i < (σ0 6 4 + 1) * 8000000 ∧ ∀ m a b, (0 ≤ m ∧ m < 8) → (0 ≤ a ∧ a ≤ 999) → (0 ≤ b ∧ b ≤ 999) → τ 32 i = jky (σ0 6 4) m a b → m < σ0 7 2 ∧ jcvR (jcm σ0 m a b) (τ 33 i)
theorem jcmo.put {σ0 τ : JM} {i m a b c : Int} (h : jcmo σ0 τ) (hm : (0 ≤ m ∧ m < 8) ∧ m < σ0 7 2) (ha : 0 ≤ a ∧ a ≤ 999) (hb : 0 ≤ b ∧ b ≤ 999) (hc : jcvR (jcm σ0 m a b) c) : jcmo σ0 (jset (jset τ 32 i (jky (σ0 6 4) m a b)) 33 i c) := fun j j0 j1 => by
  by_cases e : j = i
  · subst e
    rw [jset_nk _ (by decide), jset_eq, jset_eq]
    refine ⟨by unfold jky; omega, fun m' a' b' h1 h2 h3 h4 => ?_⟩
    obtain ⟨e1, e2, e3⟩ := jky_inj ⟨ha, hb⟩ ⟨h2, h3⟩ h4
    subst e1 e2 e3
    exact ⟨hm.2, hc⟩
  · rw [jset_nk _ (by decide), jset_nj _ e, jset_nj _ e, jset_nk _ (by decide)]
    exact h j j0 j1
theorem jcmo.s31 {σ0 τ : JM} (h : jcmo σ0 τ) (x v : Int) : jcmo σ0 (jset τ 31 x v) := h
/-- what a count answers and leaves -/
def jyW (σ0 τ : JM) (x to : Int) (r : Int × Prop) : Option JV → JM → Prop := fun v t => (jck σ0 t ∧ jcmo σ0 t ∧ ∀ z, jprt σ0 x to z → t 31 z = τ 31 z) ∧ ∃ c, v = some (0, c) ∧ jcvR r c
theorem jcvR_b {r : Int × Prop} {c : Int} (h : jcvR r c) (h0 : 0 ≤ r.1) : -1 ≤ c ∧ c ≤ 1000000 := by
  rcases h with ⟨-, h⟩ | ⟨-, h⟩ <;> omega
theorem sp_X0_countMacro {σ0 τ : JM} (hs : jSC σ0) (hw : jwf σ0) (hg : 0 ≤ σ0 6 4 ∧ σ0 6 4 ≤ 1000000) {m a b : Int} (hm : 0 ≤ m ∧ m < σ0 7 2) (ha : 0 ≤ a ∧ a ≤ 999) (hb : 0 ≤ b ∧ b ≤ 999) (k : jck σ0 τ) (i : jcmo σ0 τ) {dd : Nat} (hd : 2 < dd) (hc : JSp mX0_countLines (dd - 1) 0 [(2, 6), (0, σ0 40 m + 1), (0, σ0 41 m), (0, m), (0, a), (0, b)] τ (jyW σ0 τ (σ0 40 m + 1) (σ0 41 m) (jcm σ0 m a b)) jno) : JSp mX0_countMacro dd 0 [(2, 6), (0, m), (0, a), (0, b)] τ (jyW σ0 τ (σ0 40 m + 1) (σ0 41 m) (jcm σ0 m a b)) jno := by
  have mc := hw.mc
  have ln := hw.ln
  have mm := hw.mm m hm.1 hm.2
  have g4 : τ 6 4 = σ0 6 4 := k 6 4 (by decide)
  have e14 : jat τ 14 8 m = σ0 40 m := by rw [jat_in hm.1 (by omega), k 14 m (by decide)]; exact hs.2.2.2.1 m hm.1 hm.2
  have op : jop (σ0 34 (σ0 40 m)) := by omega
  have e12 : jat τ 12 80 (σ0 40 m) = σ0 41 m := by
    rw [jat_in mm.1 (by omega), k 12 _ (by decide), (hs.2.2.1 _ mm.1 (by omega) op).1]; exact mm.2.2.2.2
  refine JSp.of [(2, 6), (0, m), (0, a), (0, b), (9, 0), (9, 0), (9, 0), (9, 0), (9, 0)] rfl (by decide +kernel) rfl rfl rfl (fun l E hA => ?_)
  refine V.aload_n dX0_countMacro_0 rfl ?_
  refine V.getL fa_X0_22 rfl dX0_countMacro_1 (fun _ => ?_)
  rw [g4]
  refine V.ldc2 (x := 8) dX0_countMacro_4 ⟨by decide, by decide⟩ (by have h := kg1245; rwa [show (8 : Int64) = jL (8) by decide +kernel] at h) ?_
  refine V.lmul dX0_countMacro_7 ⟨by omega, by omega⟩ ?_
  refine V.iload_n dX0_countMacro_8 rfl ?_
  refine V.i2l dX0_countMacro_9 ?_
  refine V.ladd dX0_countMacro_10 ⟨by omega, by omega⟩ ?_
  refine V.ldc2 (x := 1000) dX0_countMacro_11 ⟨by decide, by decide⟩ (by have h := kg1246; rwa [show (1000 : Int64) = jL (1000) by decide +kernel] at h) ?_
  refine V.lmul dX0_countMacro_14 ⟨by omega, by omega⟩ ?_
  refine V.iload_n dX0_countMacro_15 rfl ?_
  refine V.i2l dX0_countMacro_16 ?_
  refine V.ladd dX0_countMacro_17 ⟨by omega, by omega⟩ ?_
  refine V.ldc2 (x := 1000) dX0_countMacro_18 ⟨by decide, by decide⟩ (by have h := kg1246; rwa [show (1000 : Int64) = jL (1000) by decide +kernel] at h) ?_
  refine V.lmul dX0_countMacro_21 ⟨by omega, by omega⟩ ?_
  refine V.iload_n dX0_countMacro_22 rfl ?_
  refine V.i2l dX0_countMacro_23 ?_
  refine V.ladd dX0_countMacro_24 ⟨by omega, by omega⟩ ?_
  rw [show ((σ0 6 4 * 8 + m) * 1000 + a) * 1000 + b = jky (σ0 6 4) m a b from rfl]
  refine V.lstore (L' := [_, _, _, _, _, _, _, _, _]) dX0_countMacro_25 rfl rfl ?_
  refine V.aload_n dX0_countMacro_27 rfl ?_
  refine V.lload dX0_countMacro_28 rfl ?_
  refine V.callV [_] rfl kc_X0_44 rfl dX0_countMacro_30 (d' := 1) (by omega) (Nat.le_refl _) rfl (fun _ _ => sp_X0_recall (by rw [g4]; exact hg)) rfl (fun v τ2 hq hv => ?_) (fun X σ' hx => hx.elim)
  obtain ⟨r, rfl, hr, rfl⟩ := hq
  refine V.istore (L' := [_, _, _, _, _, _, _, _, _]) dX0_countMacro_33 rfl rfl ?_
  refine V.iload dX0_countMacro_35 rfl ?_
  refine V.bipush dX0_countMacro_37 ⟨by decide, by decide⟩ ?_
  refine V.icmp_eq (tgt := 45) dX0_countMacro_39 (by decide) (fun h39 => ?_) (fun h39 => ?_)
  · refine V.aload_n dX0_countMacro_45 rfl ?_
    refine V.getR fa_X0_26 rfl dX0_countMacro_46 ?_
    refine V.iload_n dX0_countMacro_49 rfl ?_
    refine V.cV [_] rfl kc_X0_48 rfl dX0_countMacro_50 (by omega) rfl rfl (sp_X5_macroLine) (fun _ => ?_)
    rw [e14]
    refine V.istore (L' := [_, _, _, _, _, _, _, _, _]) dX0_countMacro_53 rfl rfl ?_
    refine V.aload_n dX0_countMacro_55 rfl ?_
    refine V.iload dX0_countMacro_56 rfl ?_
    refine V.iconst dX0_countMacro_58 ⟨by decide, by decide⟩ ?_
    refine V.iadd dX0_countMacro_59 ⟨by omega, by omega⟩ ?_
    refine V.aload_n dX0_countMacro_60 rfl ?_
    refine V.getR fa_X0_26 rfl dX0_countMacro_61 ?_
    refine V.iload dX0_countMacro_64 rfl ?_
    refine V.cV [_] rfl kc_X0_52 rfl dX0_countMacro_66 (by omega) rfl rfl (sp_X5_partner) (fun _ => ?_)
    rw [e12]
    refine V.iload_n dX0_countMacro_69 rfl ?_
    refine V.iload_n dX0_countMacro_70 rfl ?_
    refine V.iload_n dX0_countMacro_71 rfl ?_
    refine V.callV [_, _, _, _, _] rfl kc_X0_36 rfl dX0_countMacro_72 (d' := dd - 1) (by omega) (Nat.le_refl _) rfl (fun _ _ => hc) rfl (fun v τ2 hq hv => ?_) (fun X σ' hx => hx.elim)
    obtain ⟨⟨k2, i2, f2⟩, c, rfl, hcv⟩ := hq
    have g5 : τ2 6 4 = σ0 6 4 := k2 6 4 (by decide)
    refine V.istore (L' := [_, _, _, _, _, _, _, _, _]) dX0_countMacro_75 rfl rfl ?_
    refine V.aload_n dX0_countMacro_77 rfl ?_
    refine V.lload dX0_countMacro_78 rfl ?_
    refine V.iload dX0_countMacro_80 rfl ?_
    refine V.callV [_, _] rfl kc_X0_55 rfl dX0_countMacro_82 (d' := 1) (by omega) (Nat.le_refl _) rfl (fun _ _ => sp_X0_remember (by rw [g5]; exact hg)) rfl (fun v τ3 hq hv => ?_) (fun X σ' hx => hx.elim)
    obtain ⟨rfl, pp, hpp, rfl⟩ := hq
    refine V.iload dX0_countMacro_85 rfl ?_
    exact V.iret (jret_i dX0_countMacro_87 rfl) ⟨⟨(k2.set _ _ (by decide)).set _ _ (by decide), i2.put ⟨⟨hm.1, by omega⟩, hm.2⟩ ha hb hcv, f2⟩, c, rfl, hcv⟩
  · refine V.iload dX0_countMacro_42 rfl ?_
    exact V.iret (jret_i dX0_countMacro_44 rfl) (by
      rcases hr with hr | ⟨pp, hpp, h32, h33⟩
      · exact absurd hr h39
      · have := (i pp hpp.1 hpp.2).2 m a b ⟨hm.1, by omega⟩ ha hb h32
        rw [← h33] at this
        exact ⟨⟨k, i, fun _ _ => rfl⟩, r, rfl, this.2⟩)
theorem sp_X0_countCall {τ : JM} {x cl P Q m a b : Int} {QC : Option JV → JM → Prop} (h11 : jat τ 11 80 x = m) (hm : 0 ≤ m ∧ m < cl) (ha : jvo (jat τ 9 80 x) P Q = a) (hb : jvo (jat τ 10 80 x) P Q = b) {dd : Nat} (hd : 2 < dd) (hQ : ∀ v t, QC v t → ∃ c, v = some (0, c)) (hc : JSp mX0_countMacro (dd - 1) 0 [(2, 6), (0, m), (0, a), (0, b)] τ QC jno) : JSp mX0_countCall dd 0 [(2, 6), (0, x), (0, cl), (0, P), (0, Q)] τ QC jno := by
  refine JSp.of [(2, 6), (0, x), (0, cl), (0, P), (0, Q), (9, 0), (9, 0), (9, 0)] rfl (by decide +kernel) rfl rfl rfl (fun l E hA => ?_)
  refine V.aload_n dX0_countCall_0 rfl ?_
  refine V.getR fa_X0_26 rfl dX0_countCall_1 ?_
  refine V.iload_n dX0_countCall_4 rfl ?_
  refine V.cV [_] rfl kc_X0_91 rfl dX0_countCall_5 (by omega) rfl rfl (sp_X5_fixed) (fun _ => ?_)
  rw [h11]
  refine V.istore (L' := [_, _, _, _, _, _, _, _]) dX0_countCall_8 rfl rfl ?_
  refine V.iload dX0_countCall_10 rfl ?_
  refine V.if_lt (tgt := 21) dX0_countCall_12 (by decide) (fun hh => ?_) (fun hh => ?_)
  · exfalso; omega
  · refine V.iload dX0_countCall_15 rfl ?_
    refine V.iload_n dX0_countCall_17 rfl ?_
    refine V.icmp_lt (tgt := 23) dX0_countCall_18 (by decide) (fun hh => ?_) (fun hh => ?_)
    · refine V.aload_n dX0_countCall_23 rfl ?_
      refine V.getR fa_X0_26 rfl dX0_countCall_24 ?_
      refine V.iload_n dX0_countCall_27 rfl ?_
      refine V.cV [_] rfl kc_X0_94 rfl dX0_countCall_28 (by omega) rfl rfl (sp_X5_first) (fun _ => ?_)
      refine V.iload_n dX0_countCall_31 rfl ?_
      refine V.iload dX0_countCall_32 rfl ?_
      refine V.cN [_, _, _] rfl kc_X0_97 dX0_countCall_34 (by omega) rfl rfl (sp_X6_valueOfOperand) (fun _ => ?_)
      rw [ha]
      refine V.istore (L' := [_, _, _, _, _, _, _, _]) dX0_countCall_37 rfl rfl ?_
      refine V.aload_n dX0_countCall_39 rfl ?_
      refine V.getR fa_X0_26 rfl dX0_countCall_40 ?_
      refine V.iload_n dX0_countCall_43 rfl ?_
      refine V.cV [_] rfl kc_X0_100 rfl dX0_countCall_44 (by omega) rfl rfl (sp_X5_second) (fun _ => ?_)
      refine V.iload_n dX0_countCall_47 rfl ?_
      refine V.iload dX0_countCall_48 rfl ?_
      refine V.cN [_, _, _] rfl kc_X0_97 dX0_countCall_50 (by omega) rfl rfl (sp_X6_valueOfOperand) (fun _ => ?_)
      rw [hb]
      refine V.istore (L' := [_, _, _, _, _, _, _, _]) dX0_countCall_53 rfl rfl ?_
      refine V.aload_n dX0_countCall_55 rfl ?_
      refine V.iload dX0_countCall_56 rfl ?_
      refine V.iload dX0_countCall_58 rfl ?_
      refine V.iload dX0_countCall_60 rfl ?_
      refine V.callV [_, _, _] rfl kc_X0_103 rfl dX0_countCall_62 (d' := dd - 1) (by omega) (Nat.le_refl _) rfl (fun _ _ => hc) rfl (fun v τ2 hq hv => ?_) (fun X σ' hx => hx.elim)
      obtain ⟨c, rfl⟩ := hQ v τ2 hq
      exact V.iret (jret_i dX0_countCall_65 rfl) hq
    · exfalso; omega
