theorem sp_X6_call {σ : JM} {a b c : Int} {n : Nat} {Qr : Option JV → JM → Prop} {Qx : String → JM → Prop} (h8 : 0 ≤ σ 1 8 ∧ σ 1 8 ≤ 8) (ha : jended σ a) (h : JSp mX5_feed 9 n [(2, 1), (0, 67), (0, b), (0, c), (0, a)] σ Qr Qx) (hr : ∀ v t, Qr v t → ∃ r, v = some (0, r)) : JSp mX6_call 10 n [(2, 0), (0, a), (0, b), (0, c)] σ Qr Qx := by
  refine JSp.of [(2, 0), (0, a), (0, b), (0, c)] rfl (by decide +kernel) rfl rfl rfl (fun l E hA => ?_)
  refine V.aload_n dX6_call_0 rfl ?_
  refine V.getR fa_X6_12 rfl dX6_call_1 ?_
  refine V.iload_n dX6_call_4 rfl ?_
  refine V.cV [_] rfl kc_X6_70 rfl dX6_call_5 (by decide) rfl rfl (sp_X5_isEndedMacro h8) (fun _ => ?_)
  rw [if_pos ha]
  refine V.if_ne (tgt := 21) dX6_call_8 (by decide) (fun h8 => ?_) (fun h8 => ?_)
  · refine V.aload_n dX6_call_21 rfl ?_
    refine V.getR fa_X6_12 rfl dX6_call_22 ?_
    refine V.bipush dX6_call_25 ⟨by decide, by decide⟩ ?_
    refine V.iload_n dX6_call_27 rfl ?_
    refine V.iload_n dX6_call_28 rfl ?_
    refine V.iload_n dX6_call_29 rfl ?_
    refine V.callV [_, _, _, _] rfl kc_X6_57 rfl dX6_call_30 (d' := 9) (by decide) (Nat.le_refl n) rfl (fun _ _ => h) rfl (fun v τ hτ hv => ?_) (fun X σ' hx => hx)
    obtain ⟨r, rfl⟩ := hr v τ hτ
    exact V.iret (jret_i dX6_call_33 rfl) hτ
  · exfalso; omega
theorem sp_X6_clear {σ : JM} (hg : 0 ≤ σ 6 4 ∧ σ 6 4 ≤ 1000000) : JSp mX6_clear 1 0 [(2, 0)] σ (jrv (σ 1 7) (jClr (jset σ 6 4 (σ 6 4 + 1)))) jno := by
  refine JSp.of [(2, 0)] rfl (by decide +kernel) rfl rfl rfl (fun l E hA => ?_)
  refine V.aload_n dX6_clear_0 rfl ?_
  refine V.getR fa_X6_53 rfl dX6_clear_1 ?_
  refine V.cV0 [] rfl kc_X6_89 rfl dX6_clear_4 (by decide) rfl rfl (sp_X0_forgetMacros hg) ?_
  refine V.aload_n dX6_clear_7 rfl ?_
  refine V.getR fa_X6_12 rfl dX6_clear_8 ?_
  refine V.cV [] rfl kc_X6_92 rfl dX6_clear_11 (by decide) rfl rfl (sp_X5_removeAll (σ := jset σ 6 4 (σ 6 4 + 1))) (fun _ => ?_)
  exact V.iret (jret_i dX6_clear_14 rfl) ⟨rfl, rfl⟩
