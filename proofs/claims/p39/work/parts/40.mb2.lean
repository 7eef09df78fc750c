theorem sp_X6_align {σ : JM} {a : Int} {n : Nat} {Qr : Option JV → JM → Prop} {Qx : String → JM → Prop} (ha : 2 ≤ a ∧ a ≤ 8) (h : JSp mX5_feed 9 n [(2, 1), (0, 103), (0, 0), (0, 0), (0, a)] σ Qr Qx) (hr : ∀ v t, Qr v t → ∃ r, v = some (0, r)) : JSp mX6_align 10 n [(2, 0), (0, a)] σ Qr Qx := by
  refine JSp.of [(2, 0), (0, a)] rfl (by decide +kernel) rfl rfl rfl (fun l E hA => ?_)
  refine V.iload_n dX6_align_0 rfl ?_
  refine V.iconst dX6_align_1 ⟨by decide, by decide⟩ ?_
  refine V.icmp_lt (tgt := 11) dX6_align_2 (by decide) (fun h2 => ?_) (fun h2 => ?_)
  · exfalso; omega
  · refine V.iload_n dX6_align_5 rfl ?_
    refine V.bipush dX6_align_6 ⟨by decide, by decide⟩ ?_
    refine V.icmp_le (tgt := 21) dX6_align_8 (by decide) (fun h8 => ?_) (fun h8 => ?_)
    · refine V.aload_n dX6_align_21 rfl ?_
      refine V.getR fa_X6_12 rfl dX6_align_22 ?_
      refine V.bipush dX6_align_25 ⟨by decide, by decide⟩ ?_
      refine V.iconst dX6_align_27 ⟨by decide, by decide⟩ ?_
      refine V.iconst dX6_align_28 ⟨by decide, by decide⟩ ?_
      refine V.iload_n dX6_align_29 rfl ?_
      refine V.callV [_, _, _, _] rfl kc_X6_57 rfl dX6_align_30 (d' := 9) (by decide) (Nat.le_refl n) rfl (fun _ _ => h) rfl (fun v τ hτ hv => ?_) (fun X σ' hx => hx)
      obtain ⟨r, rfl⟩ := hr v τ hτ
      exact V.iret (jret_i dX6_align_33 rfl) hτ
    · exfalso; omega
theorem sp_X6_alignA {σ : JM} {a : Int} (ha : ¬ (2 ≤ a ∧ a ≤ 8)) : JSp mX6_align 10 1 [(2, 0), (0, a)] σ jnr (jxx "java/lang/IllegalArgumentException" σ) := by
  refine JSp.of [(2, 0), (0, a)] rfl (by decide +kernel) rfl rfl rfl (fun l E hA => ?_)
  refine V.iload_n dX6_align_0 rfl ?_
  refine V.iconst dX6_align_1 ⟨by decide, by decide⟩ ?_
  refine V.icmp_lt (tgt := 11) dX6_align_2 (by decide) (fun h2 => ?_) (fun h2 => ?_)
  · exact V.throw tt_X6_align_11 rfl (by decide) ⟨rfl, rfl⟩ dX6_align_11 dX6_align_14 dX6_align_15 dX6_align_17 dX6_align_20
  · refine V.iload_n dX6_align_5 rfl ?_
    refine V.bipush dX6_align_6 ⟨by decide, by decide⟩ ?_
    refine V.icmp_le (tgt := 21) dX6_align_8 (by decide) (fun h8 => ?_) (fun h8 => ?_)
    · exfalso; omega
    · exact V.throw tt_X6_align_11 rfl (by decide) ⟨rfl, rfl⟩ dX6_align_11 dX6_align_14 dX6_align_15 dX6_align_17 dX6_align_20
theorem sp_X6_operation {σ : JM} {a b : Int} {n : Nat} {Qr : Option JV → JM → Prop} {Qx : String → JM → Prop} (ha : 10 ≤ a ∧ a ≤ 99) (h : JSp mX5_feed 9 n [(2, 1), (0, 111), (0, b), (0, 0), (0, a)] σ Qr Qx) (hr : ∀ v t, Qr v t → ∃ r, v = some (0, r)) : JSp mX6_operation 10 n [(2, 0), (0, a), (0, b)] σ Qr Qx := by
  refine JSp.of [(2, 0), (0, a), (0, b)] rfl (by decide +kernel) rfl rfl rfl (fun l E hA => ?_)
  refine V.iload_n dX6_operation_0 rfl ?_
  refine V.bipush dX6_operation_1 ⟨by decide, by decide⟩ ?_
  refine V.icmp_lt (tgt := 12) dX6_operation_3 (by decide) (fun h3 => ?_) (fun h3 => ?_)
  · exfalso; omega
  · refine V.iload_n dX6_operation_6 rfl ?_
    refine V.bipush dX6_operation_7 ⟨by decide, by decide⟩ ?_
    refine V.icmp_le (tgt := 22) dX6_operation_9 (by decide) (fun h9 => ?_) (fun h9 => ?_)
    · refine V.aload_n dX6_operation_22 rfl ?_
      refine V.getR fa_X6_12 rfl dX6_operation_23 ?_
      refine V.bipush dX6_operation_26 ⟨by decide, by decide⟩ ?_
      refine V.iload_n dX6_operation_28 rfl ?_
      refine V.iconst dX6_operation_29 ⟨by decide, by decide⟩ ?_
      refine V.iload_n dX6_operation_30 rfl ?_
      refine V.callV [_, _, _, _] rfl kc_X6_57 rfl dX6_operation_31 (d' := 9) (by decide) (Nat.le_refl n) rfl (fun _ _ => h) rfl (fun v τ hτ hv => ?_) (fun X σ' hx => hx)
      obtain ⟨r, rfl⟩ := hr v τ hτ
      exact V.iret (jret_i dX6_operation_34 rfl) hτ
    · exfalso; omega
theorem sp_X6_operationA {σ : JM} {a b : Int} (ha : ¬ (10 ≤ a ∧ a ≤ 99)) : JSp mX6_operation 10 1 [(2, 0), (0, a), (0, b)] σ jnr (jxx "java/lang/IllegalArgumentException" σ) := by
  refine JSp.of [(2, 0), (0, a), (0, b)] rfl (by decide +kernel) rfl rfl rfl (fun l E hA => ?_)
  refine V.iload_n dX6_operation_0 rfl ?_
  refine V.bipush dX6_operation_1 ⟨by decide, by decide⟩ ?_
  refine V.icmp_lt (tgt := 12) dX6_operation_3 (by decide) (fun h3 => ?_) (fun h3 => ?_)
  · exact V.throw tt_X6_operation_12 rfl (by decide) ⟨rfl, rfl⟩ dX6_operation_12 dX6_operation_15 dX6_operation_16 dX6_operation_18 dX6_operation_21
  · refine V.iload_n dX6_operation_6 rfl ?_
    refine V.bipush dX6_operation_7 ⟨by decide, by decide⟩ ?_
    refine V.icmp_le (tgt := 22) dX6_operation_9 (by decide) (fun h9 => ?_) (fun h9 => ?_)
    · exfalso; omega
    · exact V.throw tt_X6_operation_12 rfl (by decide) ⟨rfl, rfl⟩ dX6_operation_12 dX6_operation_15 dX6_operation_16 dX6_operation_18 dX6_operation_21
