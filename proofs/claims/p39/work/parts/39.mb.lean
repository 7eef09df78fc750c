theorem sp_X6_lines {σ : JM} : JSp mX6_lines 1 0 [(2, 0)] σ (jrv (σ 1 7) σ) jno := by
  refine JSp.of [(2, 0)] rfl (by decide +kernel) rfl rfl rfl (fun l E hA => ?_)
  refine V.aload_n dX6_lines_0 rfl ?_
  refine V.getR fa_X6_12 rfl dX6_lines_1 ?_
  refine V.cV [] rfl kc_X6_95 rfl dX6_lines_4 (by decide) rfl rfl (sp_X5_size) (fun _ => ?_)
  exact V.iret (jret_i dX6_lines_7 rfl) ⟨rfl, rfl⟩
theorem sp_X6_macros {σ : JM} : JSp mX6_macros 1 0 [(2, 0)] σ (jrv (σ 1 8) σ) jno := by
  refine JSp.of [(2, 0)] rfl (by decide +kernel) rfl rfl rfl (fun l E hA => ?_)
  refine V.aload_n dX6_macros_0 rfl ?_
  refine V.getR fa_X6_12 rfl dX6_macros_1 ?_
  refine V.cV [] rfl kc_X6_98 rfl dX6_macros_4 (by decide) rfl rfl (sp_X5_sizeOfMacros) (fun _ => ?_)
  exact V.iret (jret_i dX6_macros_7 rfl) ⟨rfl, rfl⟩
theorem sp_X6_label {σ : JM} {a0 : Int} {n : Nat} {Qr : Option JV → JM → Prop} {Qx : String → JM → Prop} (h : JSp mX5_feed 9 n [(2, 1), (0, 108), (0, a0), (0, 0), (0, 0)] σ Qr Qx) (hr : ∀ v t, Qr v t → ∃ r, v = some (0, r)) : JSp mX6_label 10 n [(2, 0), (0, a0)] σ Qr Qx := by
  refine JSp.of [(2, 0), (0, a0)] rfl (by decide +kernel) rfl rfl rfl (fun l E hA => ?_)
  refine V.aload_n dX6_label_0 rfl ?_
  refine V.getR fa_X6_12 rfl dX6_label_1 ?_
  refine V.bipush dX6_label_4 ⟨by decide, by decide⟩ ?_
  refine V.iload_n dX6_label_6 rfl ?_
  refine V.iconst dX6_label_7 ⟨by decide, by decide⟩ ?_
  refine V.iconst dX6_label_8 ⟨by decide, by decide⟩ ?_
  refine V.callV [_, _, _, _] rfl kc_X6_57 rfl dX6_label_9 (d' := 9) (by decide) (Nat.le_refl n) rfl (fun _ _ => h) rfl (fun v τ hτ hv => ?_) (fun X σ' hx => hx)
  obtain ⟨r, rfl⟩ := hr v τ hτ
  exact V.iret (jret_i dX6_label_12 rfl) hτ
theorem sp_X6_word {σ : JM} {a0 : Int} {n : Nat} {Qr : Option JV → JM → Prop} {Qx : String → JM → Prop} (h : JSp mX5_feed 9 n [(2, 1), (0, 119), (0, a0), (0, 0), (0, 0)] σ Qr Qx) (hr : ∀ v t, Qr v t → ∃ r, v = some (0, r)) : JSp mX6_word 10 n [(2, 0), (0, a0)] σ Qr Qx := by
  refine JSp.of [(2, 0), (0, a0)] rfl (by decide +kernel) rfl rfl rfl (fun l E hA => ?_)
  refine V.aload_n dX6_word_0 rfl ?_
  refine V.getR fa_X6_12 rfl dX6_word_1 ?_
  refine V.bipush dX6_word_4 ⟨by decide, by decide⟩ ?_
  refine V.iload_n dX6_word_6 rfl ?_
  refine V.iconst dX6_word_7 ⟨by decide, by decide⟩ ?_
  refine V.iconst dX6_word_8 ⟨by decide, by decide⟩ ?_
  refine V.callV [_, _, _, _] rfl kc_X6_57 rfl dX6_word_9 (d' := 9) (by decide) (Nat.le_refl n) rfl (fun _ _ => h) rfl (fun v τ hτ hv => ?_) (fun X σ' hx => hx)
  obtain ⟨r, rfl⟩ := hr v τ hτ
  exact V.iret (jret_i dX6_word_12 rfl) hτ
theorem sp_X6_jump {σ : JM} {a0 : Int} {n : Nat} {Qr : Option JV → JM → Prop} {Qx : String → JM → Prop} (h : JSp mX5_feed 9 n [(2, 1), (0, 106), (0, a0), (0, 0), (0, 0)] σ Qr Qx) (hr : ∀ v t, Qr v t → ∃ r, v = some (0, r)) : JSp mX6_jump 10 n [(2, 0), (0, a0)] σ Qr Qx := by
  refine JSp.of [(2, 0), (0, a0)] rfl (by decide +kernel) rfl rfl rfl (fun l E hA => ?_)
  refine V.aload_n dX6_jump_0 rfl ?_
  refine V.getR fa_X6_12 rfl dX6_jump_1 ?_
  refine V.bipush dX6_jump_4 ⟨by decide, by decide⟩ ?_
  refine V.iload_n dX6_jump_6 rfl ?_
  refine V.iconst dX6_jump_7 ⟨by decide, by decide⟩ ?_
  refine V.iconst dX6_jump_8 ⟨by decide, by decide⟩ ?_
  refine V.callV [_, _, _, _] rfl kc_X6_57 rfl dX6_jump_9 (d' := 9) (by decide) (Nat.le_refl n) rfl (fun _ _ => h) rfl (fun v τ hτ hv => ?_) (fun X σ' hx => hx)
  obtain ⟨r, rfl⟩ := hr v τ hτ
  exact V.iret (jret_i dX6_jump_12 rfl) hτ
theorem sp_X6_address {σ : JM} {a0 : Int} {n : Nat} {Qr : Option JV → JM → Prop} {Qx : String → JM → Prop} (h : JSp mX5_feed 9 n [(2, 1), (0, 97), (0, a0), (0, 0), (0, 0)] σ Qr Qx) (hr : ∀ v t, Qr v t → ∃ r, v = some (0, r)) : JSp mX6_address 10 n [(2, 0), (0, a0)] σ Qr Qx := by
  refine JSp.of [(2, 0), (0, a0)] rfl (by decide +kernel) rfl rfl rfl (fun l E hA => ?_)
  refine V.aload_n dX6_address_0 rfl ?_
  refine V.getR fa_X6_12 rfl dX6_address_1 ?_
  refine V.bipush dX6_address_4 ⟨by decide, by decide⟩ ?_
  refine V.iload_n dX6_address_6 rfl ?_
  refine V.iconst dX6_address_7 ⟨by decide, by decide⟩ ?_
  refine V.iconst dX6_address_8 ⟨by decide, by decide⟩ ?_
  refine V.callV [_, _, _, _] rfl kc_X6_57 rfl dX6_address_9 (d' := 9) (by decide) (Nat.le_refl n) rfl (fun _ _ => h) rfl (fun v τ hτ hv => ?_) (fun X σ' hx => hx)
  obtain ⟨r, rfl⟩ := hr v τ hτ
  exact V.iret (jret_i dX6_address_12 rfl) hτ
theorem sp_X6_block {σ : JM} {n : Nat} {Qr : Option JV → JM → Prop} {Qx : String → JM → Prop} (h : JSp mX5_feed 9 n [(2, 1), (0, 66), (0, 0), (0, 0), (0, 0)] σ Qr Qx) (hr : ∀ v t, Qr v t → ∃ r, v = some (0, r)) : JSp mX6_block 10 n [(2, 0)] σ Qr Qx := by
  refine JSp.of [(2, 0)] rfl (by decide +kernel) rfl rfl rfl (fun l E hA => ?_)
  refine V.aload_n dX6_block_0 rfl ?_
  refine V.getR fa_X6_12 rfl dX6_block_1 ?_
  refine V.bipush dX6_block_4 ⟨by decide, by decide⟩ ?_
  refine V.iconst dX6_block_6 ⟨by decide, by decide⟩ ?_
  refine V.iconst dX6_block_7 ⟨by decide, by decide⟩ ?_
  refine V.iconst dX6_block_8 ⟨by decide, by decide⟩ ?_
  refine V.callV [_, _, _, _] rfl kc_X6_57 rfl dX6_block_9 (d' := 9) (by decide) (Nat.le_refl n) rfl (fun _ _ => h) rfl (fun v τ hτ hv => ?_) (fun X σ' hx => hx)
  obtain ⟨r, rfl⟩ := hr v τ hτ
  exact V.iret (jret_i dX6_block_12 rfl) hτ
theorem sp_X6_loop {σ : JM} {a0 : Int} {n : Nat} {Qr : Option JV → JM → Prop} {Qx : String → JM → Prop} (h : JSp mX5_feed 9 n [(2, 1), (0, 76), (0, a0), (0, 0), (0, 0)] σ Qr Qx) (hr : ∀ v t, Qr v t → ∃ r, v = some (0, r)) : JSp mX6_loop 10 n [(2, 0), (0, a0)] σ Qr Qx := by
  refine JSp.of [(2, 0), (0, a0)] rfl (by decide +kernel) rfl rfl rfl (fun l E hA => ?_)
  refine V.aload_n dX6_loop_0 rfl ?_
  refine V.getR fa_X6_12 rfl dX6_loop_1 ?_
  refine V.bipush dX6_loop_4 ⟨by decide, by decide⟩ ?_
  refine V.iload_n dX6_loop_6 rfl ?_
  refine V.iconst dX6_loop_7 ⟨by decide, by decide⟩ ?_
  refine V.iconst dX6_loop_8 ⟨by decide, by decide⟩ ?_
  refine V.callV [_, _, _, _] rfl kc_X6_57 rfl dX6_loop_9 (d' := 9) (by decide) (Nat.le_refl n) rfl (fun _ _ => h) rfl (fun v τ hτ hv => ?_) (fun X σ' hx => hx)
  obtain ⟨r, rfl⟩ := hr v τ hτ
  exact V.iret (jret_i dX6_loop_12 rfl) hτ
theorem sp_X6_when {σ : JM} {a0 a1 : Int} {n : Nat} {Qr : Option JV → JM → Prop} {Qx : String → JM → Prop} (h : JSp mX5_feed 9 n [(2, 1), (0, 87), (0, a0), (0, a1), (0, 0)] σ Qr Qx) (hr : ∀ v t, Qr v t → ∃ r, v = some (0, r)) : JSp mX6_when 10 n [(2, 0), (0, a0), (0, a1)] σ Qr Qx := by
  refine JSp.of [(2, 0), (0, a0), (0, a1)] rfl (by decide +kernel) rfl rfl rfl (fun l E hA => ?_)
  refine V.aload_n dX6_when_0 rfl ?_
  refine V.getR fa_X6_12 rfl dX6_when_1 ?_
  refine V.bipush dX6_when_4 ⟨by decide, by decide⟩ ?_
  refine V.iload_n dX6_when_6 rfl ?_
  refine V.iload_n dX6_when_7 rfl ?_
  refine V.iconst dX6_when_8 ⟨by decide, by decide⟩ ?_
  refine V.callV [_, _, _, _] rfl kc_X6_57 rfl dX6_when_9 (d' := 9) (by decide) (Nat.le_refl n) rfl (fun _ _ => h) rfl (fun v τ hτ hv => ?_) (fun X σ' hx => hx)
  obtain ⟨r, rfl⟩ := hr v τ hτ
  exact V.iret (jret_i dX6_when_12 rfl) hτ
theorem sp_X6_end {σ : JM} {n : Nat} {Qr : Option JV → JM → Prop} {Qx : String → JM → Prop} (h : JSp mX5_endGroup 9 n [(2, 1)] σ Qr Qx) (hr : ∀ v t, Qr v t → ∃ r, v = some (0, r)) : JSp mX6_end 10 n [(2, 0)] σ Qr Qx := by
  refine JSp.of [(2, 0)] rfl (by decide +kernel) rfl rfl rfl (fun l E hA => ?_)
  refine V.aload_n dX6_end_0 rfl ?_
  refine V.getR fa_X6_12 rfl dX6_end_1 ?_
  refine V.callV [] rfl kc_X6_79 rfl dX6_end_4 (d' := 9) (by decide) (Nat.le_refl n) rfl (fun _ _ => h) rfl (fun v τ hτ hv => ?_) (fun X σ' hx => hx)
  obtain ⟨r, rfl⟩ := hr v τ hτ
  exact V.iret (jret_i dX6_end_7 rfl) hτ
theorem sp_X6_macro {σ : JM} {n : Nat} {Qr : Option JV → JM → Prop} {Qx : String → JM → Prop} (h : JSp mX5_beginMacro 9 n [(2, 1)] σ Qr Qx) (hr : ∀ v t, Qr v t → ∃ r, v = some (0, r)) : JSp mX6_macro 10 n [(2, 0)] σ Qr Qx := by
  refine JSp.of [(2, 0)] rfl (by decide +kernel) rfl rfl rfl (fun l E hA => ?_)
  refine V.aload_n dX6_macro_0 rfl ?_
  refine V.getR fa_X6_12 rfl dX6_macro_1 ?_
  refine V.callV [] rfl kc_X6_83 rfl dX6_macro_4 (d' := 9) (by decide) (Nat.le_refl n) rfl (fun _ _ => h) rfl (fun v τ hτ hv => ?_) (fun X σ' hx => hx)
  obtain ⟨r, rfl⟩ := hr v τ hτ
  exact V.iret (jret_i dX6_macro_7 rfl) hτ
theorem sp_X6_endMacro {σ : JM} {n : Nat} {Qr : Option JV → JM → Prop} {Qx : String → JM → Prop} (h : JSp mX5_finishMacro 9 n [(2, 1)] σ Qr Qx) (hr : ∀ v t, Qr v t → ∃ r, v = some (0, r)) : JSp mX6_endMacro 10 n [(2, 0)] σ Qr Qx := by
  refine JSp.of [(2, 0)] rfl (by decide +kernel) rfl rfl rfl (fun l E hA => ?_)
  refine V.aload_n dX6_endMacro_0 rfl ?_
  refine V.getR fa_X6_12 rfl dX6_endMacro_1 ?_
  refine V.callV [] rfl kc_X6_86 rfl dX6_endMacro_4 (d' := 9) (by decide) (Nat.le_refl n) rfl (fun _ _ => h) rfl (fun v τ hτ hv => ?_) (fun X σ' hx => hx)
  obtain ⟨r, rfl⟩ := hr v τ hτ
  exact V.iret (jret_i dX6_endMacro_7 rfl) hτ
