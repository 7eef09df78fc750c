theorem lcmp_0 {a b : Int} (h : (if b < a then (1 : Int) else if a = b then 0 else -1) = 0) : a = b := by
  by_cases c : b < a
  · rw [if_pos c] at h; exact absurd h (by decide)
  · rw [if_neg c] at h
    by_cases e : a = b
    · exact e
    · rw [if_neg e] at h; exact absurd h (by decide)
theorem sp_X0_recall {σ : JM} {key : Int} (hg : 0 ≤ σ 6 4 ∧ σ 6 4 ≤ 1000000) : JSp mX0_recall 1 0 [(2, 6), (1, key)] σ (jrp (fun r => r = -2 ∨ ∃ p, (0 ≤ p ∧ p < 4096) ∧ σ 32 p = key ∧ r = σ 33 p) σ) jno := by
  refine JSp.of [(2, 6), (1, key), (9, 0), (9, 0), (9, 0)] rfl (by decide +kernel) rfl rfl rfl (fun l E hA => ?_)
  refine V.aload_n dX0_recall_0 rfl ?_
  refine V.lload_n dX0_recall_1 rfl ?_
  refine V.callV [_] rfl kc_X0_112 rfl dX0_recall_2 (d' := 0) (by decide) (Nat.zero_le 0) rfl (fun _ _ => sp_X0_placeOf hg) rfl (fun v τ hτ hv => ?_) (fun X σ' hx => hx.elim)
  obtain ⟨r, rfl, hr, rfl⟩ := hτ
  refine V.istore_n (L' := [_, _, _, _, _]) dX0_recall_5 rfl rfl ?_
  refine V.iload_n dX0_recall_6 rfl ?_
  refine V.if_lt (tgt := 32) dX0_recall_7 (by decide) (fun h7 => ?_) (fun h7 => ?_)
  · refine V.iconst dX0_recall_32 ⟨by decide, by decide⟩ ?_
    refine V.istore (L' := [_, _, _, _, _]) dX0_recall_33 rfl rfl ?_
    refine V.iload dX0_recall_35 rfl ?_
    refine V.if_eq (tgt := 49) dX0_recall_37 (by decide) (fun h37 => ?_) (fun h37 => ?_)
    · refine V.bipush dX0_recall_49 ⟨by decide, by decide⟩ ?_
      exact V.iret (jret_i dX0_recall_51 rfl) (by first | exact ⟨_, rfl, Or.inl rfl, rfl⟩ | exact ⟨_, rfl, Or.inr ⟨r, hr, lcmp_0 h25, rfl⟩, rfl⟩ | exact absurd rfl h37)
    · refine V.aload_n dX0_recall_40 rfl ?_
      refine V.getR fa_X0_19 rfl dX0_recall_41 ?_
      refine V.iload_n dX0_recall_44 rfl ?_
      refine V.iald (cell := 33) 0 rfl rfl rfl rfl dX0_recall_45 (by omega) (by omega) (fun _ => ?_)
      refine V.goto (tgt := 51) dX0_recall_46 (by decide) ?_
      exact V.iret (jret_i dX0_recall_51 rfl) (by first | exact ⟨_, rfl, Or.inl rfl, rfl⟩ | exact ⟨_, rfl, Or.inr ⟨r, hr, lcmp_0 h25, rfl⟩, rfl⟩ | exact absurd rfl h37)
  · refine V.iload_n dX0_recall_10 rfl ?_
    refine V.sipush dX0_recall_11 ⟨by decide, by decide⟩ ?_
    refine V.icmp_ge (tgt := 32) dX0_recall_14 (by decide) (fun h14 => ?_) (fun h14 => ?_)
    · refine V.iconst dX0_recall_32 ⟨by decide, by decide⟩ ?_
      refine V.istore (L' := [_, _, _, _, _]) dX0_recall_33 rfl rfl ?_
      refine V.iload dX0_recall_35 rfl ?_
      refine V.if_eq (tgt := 49) dX0_recall_37 (by decide) (fun h37 => ?_) (fun h37 => ?_)
      · refine V.bipush dX0_recall_49 ⟨by decide, by decide⟩ ?_
        exact V.iret (jret_i dX0_recall_51 rfl) (by first | exact ⟨_, rfl, Or.inl rfl, rfl⟩ | exact ⟨_, rfl, Or.inr ⟨r, hr, lcmp_0 h25, rfl⟩, rfl⟩ | exact absurd rfl h37)
      · refine V.aload_n dX0_recall_40 rfl ?_
        refine V.getR fa_X0_19 rfl dX0_recall_41 ?_
        refine V.iload_n dX0_recall_44 rfl ?_
        refine V.iald (cell := 33) 0 rfl rfl rfl rfl dX0_recall_45 (by omega) (by omega) (fun _ => ?_)
        refine V.goto (tgt := 51) dX0_recall_46 (by decide) ?_
        exact V.iret (jret_i dX0_recall_51 rfl) (by first | exact ⟨_, rfl, Or.inl rfl, rfl⟩ | exact ⟨_, rfl, Or.inr ⟨r, hr, lcmp_0 h25, rfl⟩, rfl⟩ | exact absurd rfl h37)
    · refine V.aload_n dX0_recall_17 rfl ?_
      refine V.getR fa_X0_15 rfl dX0_recall_18 ?_
      refine V.iload_n dX0_recall_21 rfl ?_
      refine V.lald (cell := 32) 0 rfl rfl rfl rfl dX0_recall_22 (by omega) (by omega) (fun _ => ?_)
      refine V.lload_n dX0_recall_23 rfl ?_
      refine V.lcmp dX0_recall_24 ?_
      refine V.if_ne (tgt := 32) dX0_recall_25 (by decide) (fun h25 => ?_) (fun h25 => ?_)
      · refine V.iconst dX0_recall_32 ⟨by decide, by decide⟩ ?_
        refine V.istore (L' := [_, _, _, _, _]) dX0_recall_33 rfl rfl ?_
        refine V.iload dX0_recall_35 rfl ?_
        refine V.if_eq (tgt := 49) dX0_recall_37 (by decide) (fun h37 => ?_) (fun h37 => ?_)
        · refine V.bipush dX0_recall_49 ⟨by decide, by decide⟩ ?_
          exact V.iret (jret_i dX0_recall_51 rfl) (by first | exact ⟨_, rfl, Or.inl rfl, rfl⟩ | exact ⟨_, rfl, Or.inr ⟨r, hr, lcmp_0 h25, rfl⟩, rfl⟩ | exact absurd rfl h37)
        · refine V.aload_n dX0_recall_40 rfl ?_
          refine V.getR fa_X0_19 rfl dX0_recall_41 ?_
          refine V.iload_n dX0_recall_44 rfl ?_
          refine V.iald (cell := 33) 0 rfl rfl rfl rfl dX0_recall_45 (by omega) (by omega) (fun _ => ?_)
          refine V.goto (tgt := 51) dX0_recall_46 (by decide) ?_
          exact V.iret (jret_i dX0_recall_51 rfl) (by first | exact ⟨_, rfl, Or.inl rfl, rfl⟩ | exact ⟨_, rfl, Or.inr ⟨r, hr, lcmp_0 h25, rfl⟩, rfl⟩ | exact absurd rfl h37)
      · refine V.iconst dX0_recall_28 ⟨by decide, by decide⟩ ?_
        refine V.goto (tgt := 33) dX0_recall_29 (by decide) ?_
        refine V.istore (L' := [_, _, _, _, _]) dX0_recall_33 rfl rfl ?_
        refine V.iload dX0_recall_35 rfl ?_
        refine V.if_eq (tgt := 49) dX0_recall_37 (by decide) (fun h37 => ?_) (fun h37 => ?_)
        · refine V.bipush dX0_recall_49 ⟨by decide, by decide⟩ ?_
          exact V.iret (jret_i dX0_recall_51 rfl) (by first | exact ⟨_, rfl, Or.inl rfl, rfl⟩ | exact ⟨_, rfl, Or.inr ⟨r, hr, lcmp_0 h25, rfl⟩, rfl⟩ | exact absurd rfl h37)
        · refine V.aload_n dX0_recall_40 rfl ?_
          refine V.getR fa_X0_19 rfl dX0_recall_41 ?_
          refine V.iload_n dX0_recall_44 rfl ?_
          refine V.iald (cell := 33) 0 rfl rfl rfl rfl dX0_recall_45 (by omega) (by omega) (fun _ => ?_)
          refine V.goto (tgt := 51) dX0_recall_46 (by decide) ?_
          exact V.iret (jret_i dX0_recall_51 rfl) (by first | exact ⟨_, rfl, Or.inl rfl, rfl⟩ | exact ⟨_, rfl, Or.inr ⟨r, hr, lcmp_0 h25, rfl⟩, rfl⟩ | exact absurd rfl h37)
theorem sp_X0_remember {σ : JM} {key c : Int} (hg : 0 ≤ σ 6 4 ∧ σ 6 4 ≤ 1000000) : JSp mX0_remember 1 0 [(2, 6), (1, key), (0, c)] σ (fun v t => v = none ∧ ∃ p, (0 ≤ p ∧ p < 4096) ∧ t = jset (jset σ 32 p key) 33 p c) jno := by
  refine JSp.of [(2, 6), (1, key), (9, 0), (0, c), (9, 0)] rfl (by decide +kernel) rfl rfl rfl (fun l E hA => ?_)
  refine V.aload_n dX0_remember_0 rfl ?_
  refine V.lload_n dX0_remember_1 rfl ?_
  refine V.callV [_] rfl kc_X0_112 rfl dX0_remember_2 (d' := 0) (by decide) (Nat.zero_le 0) rfl (fun _ _ => sp_X0_placeOf hg) rfl (fun v τ hτ hv => ?_) (fun X σ' hx => hx.elim)
  obtain ⟨r, rfl, hr, rfl⟩ := hτ
  refine V.istore (L' := [_, _, _, _, _]) dX0_remember_5 rfl rfl ?_
  refine V.iload dX0_remember_7 rfl ?_
  refine V.if_lt (tgt := 36) dX0_remember_9 (by decide) (fun h9 => ?_) (fun h9 => ?_)
  · exact V.vret (jret_v dX0_remember_36 rfl) (by first | exact ⟨rfl, r, hr, rfl⟩ | (exfalso; omega))
  · refine V.iload dX0_remember_12 rfl ?_
    refine V.sipush dX0_remember_14 ⟨by decide, by decide⟩ ?_
    refine V.icmp_ge (tgt := 36) dX0_remember_17 (by decide) (fun h17 => ?_) (fun h17 => ?_)
    · exact V.vret (jret_v dX0_remember_36 rfl) (by first | exact ⟨rfl, r, hr, rfl⟩ | (exfalso; omega))
    · refine V.aload_n dX0_remember_20 rfl ?_
      refine V.getR fa_X0_15 rfl dX0_remember_21 ?_
      refine V.iload dX0_remember_24 rfl ?_
      refine V.lload_n dX0_remember_26 rfl ?_
      refine V.last (cell := 32) 0 rfl rfl rfl rfl dX0_remember_27 (by omega) (by omega) ?_
      refine V.aload_n dX0_remember_28 rfl ?_
      refine V.getR fa_X0_19 rfl dX0_remember_29 ?_
      refine V.iload dX0_remember_32 rfl ?_
      refine V.iload_n dX0_remember_34 rfl ?_
      refine V.iast (cell := 33) 0 rfl rfl rfl rfl dX0_remember_35 (by omega) (by omega) ?_
      exact V.vret (jret_v dX0_remember_36 rfl) (by first | exact ⟨rfl, r, hr, rfl⟩ | (exfalso; omega))
theorem sp_X0_forgetMacros {σ : JM} (hg : 0 ≤ σ 6 4 ∧ σ 6 4 ≤ 1000000) : JSp mX0_forgetMacros 0 0 [(2, 6)] σ (jvv (jset σ 6 4 (σ 6 4 + 1))) jno := by
  refine JSp.of [(2, 6)] rfl (by decide +kernel) rfl rfl rfl (fun l E hA => ?_)
  refine V.aload_n dX0_forgetMacros_0 rfl ?_
  refine V.dup dX0_forgetMacros_1 rfl ?_
  refine V.getL fa_X0_22 rfl dX0_forgetMacros_2 (fun _ => ?_)
  refine V.lconst dX0_forgetMacros_5 ?_
  refine V.ladd dX0_forgetMacros_6 ⟨(by have : (((1 : Fin 2) : Nat) : Int) = 1 := rfl; omega), (by have : (((1 : Fin 2) : Nat) : Int) = 1 := rfl; omega)⟩ ?_
  refine V.putL fa_X0_22 rfl dX0_forgetMacros_7 ?_
  exact V.vret (jret_v dX0_forgetMacros_10 rfl) ⟨rfl, rfl⟩
