def jIC (σ : JM) (v : Option JV) (t : JM) : Prop := (jbad σ ∧ v = some (1, 0) ∧ t = jq σ 1) ∨ (¬ jbad σ ∧ (∀ a b, a ≠ 53 → a ≠ 54 → ¬ (a = 7 ∧ (b = 0 ∨ b = 34)) → t a b = σ a b) ∧ (((jcn 7000 σ 0 (σ 7 1) 0 0).2 ∧ v = some (1, 0) ∧ t 7 0 = 2) ∨ (¬ (jcn 7000 σ 0 (σ 7 1) 0 0).2 ∧ v = some (1, jM6 (jcn 7000 σ 0 (σ 7 1) 0 0).1) ∧ t 7 0 = 0)))
theorem sp_X7_itemsByCounting {σ : JM} (hw : jwf σ) (hg : 0 ≤ σ 7 4) : JSp mX7_itemsByCounting 85 0 [(2, 7)] σ (jIC σ) jno := by
  have ln := hw.ln
  refine JSp.of [(2, 7), (9, 0)] rfl (by decide +kernel) rfl rfl rfl (fun l E hA => ?_)
  obtain ⟨σ1, h1⟩ : ∃ σ1, jset σ 7 34 0 = σ1 := ⟨_, rfl⟩
  obtain ⟨τ, ht⟩ : ∃ τ, jfill σ1 53 4096 (fun _ => 0) = τ := ⟨_, rfl⟩
  have kτ : jckp σ τ := fun a b n1 n2 n3 => by rw [← ht, jfill_ne _ n1, ← h1, jset_ne _ n3]
  have e34 : τ 7 34 = 0 := by rw [← ht, jfill_ne _ (by decide), ← h1, jset_eq]
  have iτ : jmem σ τ := ⟨Or.inl e34, fun i i0 i1 hi => absurd (by rw [← ht, jfill_in σ1 53 i0 i1]) hi⟩
  have sp := sp_X7_counts hw (x := 0) (to := σ 7 1) (p := 0) (q := 0) kτ iτ (by omega) hw.al (dd := 84) (by omega)
  have e1 : τ 7 1 = σ 7 1 := kτ 7 1 (by decide) (by decide) (by omega)
  have fin : ¬ jbad σ → V l E mX7_itemsByCounting 85 0 (jIC σ) jno 49 [(2, 7), (9, 0)] [] τ := by
    intro hb
    refine V.aload_n dX7_itemsByCounting_49 rfl ?_
    refine V.iconst dX7_itemsByCounting_50 ⟨by decide, by decide⟩ ?_
    refine V.aload_n dX7_itemsByCounting_51 rfl ?_
    refine V.getI fa_X7_89 (by decide) rfl dX7_itemsByCounting_52 (fun _ => ?_)
    rw [e1]
    refine V.iconst dX7_itemsByCounting_55 ⟨by decide, by decide⟩ ?_
    refine V.iconst dX7_itemsByCounting_56 ⟨by decide, by decide⟩ ?_
    refine V.callV [_, _, _, _] rfl kc_X7_202 rfl dX7_itemsByCounting_57 (d' := 84) (by decide) (Nat.zero_le 0) rfl (fun _ _ => sp) rfl (fun v ρ hρ hv => ?_) (fun X σ' hx => hx.elim)
    obtain ⟨kρ, iρ, fρ, rfl⟩ := hρ
    have fr : ∀ c, ∀ a b, a ≠ 53 → a ≠ 54 → ¬ (a = 7 ∧ (b = 0 ∨ b = 34)) → jset ρ 7 0 c a b = σ a b := fun c a b n1 n2 n3 => by rw [jset_ne _ (by omega)]; exact kρ a b n1 n2 (by omega)
    have i1 := iρ.1
    refine V.istore_n (L' := [_, _]) dX7_itemsByCounting_60 rfl rfl ?_
    refine V.aload_n dX7_itemsByCounting_61 rfl ?_
    refine V.aload_n dX7_itemsByCounting_62 rfl ?_
    refine V.getI fa_X7_199 (by decide) rfl dX7_itemsByCounting_63 (fun _ => ?_)
    refine V.if_eq (tgt := 73) dX7_itemsByCounting_66 (by decide) (fun h66 => ?_) (fun h66 => ?_)
    · refine V.iconst dX7_itemsByCounting_73 ⟨by decide, by decide⟩ ?_
      refine V.putI fa_X7_82 (by decide) rfl dX7_itemsByCounting_74 (Or.inl rfl) ?_
      refine V.aload_n dX7_itemsByCounting_77 rfl ?_
      refine V.getI fa_X7_199 (by decide) rfl dX7_itemsByCounting_78 (fun _ => ?_)
      first | rw [show jset ρ 7 0 2 7 34 = ρ 7 34 from rfl] | rw [show jset ρ 7 0 0 7 34 = ρ 7 34 from rfl]
      refine V.if_eq (tgt := 88) dX7_itemsByCounting_81 (by decide) (fun h81 => ?_) (fun h81 => ?_)
      · refine V.iload_n dX7_itemsByCounting_88 rfl ?_
        refine V.i2l dX7_itemsByCounting_89 ?_
        exact V.lret (jret_l dX7_itemsByCounting_90 rfl) (by first | (exfalso; omega) | (have f2 : (jcn 7000 σ 0 (σ 7 1) 0 0).2 := (fρ.mp (by omega)).resolve_left (by omega); exact Or.inr ⟨hb, fr 2, Or.inl ⟨f2, rfl, jset_eq _ _ _ _⟩⟩) | (have f2 : ¬ (jcn 7000 σ 0 (σ 7 1) 0 0).2 := fun z => (by have := fρ.mpr (Or.inr z); omega); exact Or.inr ⟨hb, fr 0, Or.inr ⟨f2, rfl, jset_eq _ _ _ _⟩⟩))
      · refine V.lconst dX7_itemsByCounting_84 ?_
        refine V.goto (tgt := 90) dX7_itemsByCounting_85 (by decide) ?_
        exact V.lret (jret_l dX7_itemsByCounting_90 rfl) (by first | (exfalso; omega) | (have f2 : (jcn 7000 σ 0 (σ 7 1) 0 0).2 := (fρ.mp (by omega)).resolve_left (by omega); exact Or.inr ⟨hb, fr 2, Or.inl ⟨f2, rfl, jset_eq _ _ _ _⟩⟩) | (have f2 : ¬ (jcn 7000 σ 0 (σ 7 1) 0 0).2 := fun z => (by have := fρ.mpr (Or.inr z); omega); exact Or.inr ⟨hb, fr 0, Or.inr ⟨f2, rfl, jset_eq _ _ _ _⟩⟩))
    · refine V.iconst dX7_itemsByCounting_69 ⟨by decide, by decide⟩ ?_
      refine V.goto (tgt := 74) dX7_itemsByCounting_70 (by decide) ?_
      refine V.putI fa_X7_82 (by decide) rfl dX7_itemsByCounting_74 (Or.inl rfl) ?_
      refine V.aload_n dX7_itemsByCounting_77 rfl ?_
      refine V.getI fa_X7_199 (by decide) rfl dX7_itemsByCounting_78 (fun _ => ?_)
      first | rw [show jset ρ 7 0 2 7 34 = ρ 7 34 from rfl] | rw [show jset ρ 7 0 0 7 34 = ρ 7 34 from rfl]
      refine V.if_eq (tgt := 88) dX7_itemsByCounting_81 (by decide) (fun h81 => ?_) (fun h81 => ?_)
      · refine V.iload_n dX7_itemsByCounting_88 rfl ?_
        refine V.i2l dX7_itemsByCounting_89 ?_
        exact V.lret (jret_l dX7_itemsByCounting_90 rfl) (by first | (exfalso; omega) | (have f2 : (jcn 7000 σ 0 (σ 7 1) 0 0).2 := (fρ.mp (by omega)).resolve_left (by omega); exact Or.inr ⟨hb, fr 2, Or.inl ⟨f2, rfl, jset_eq _ _ _ _⟩⟩) | (have f2 : ¬ (jcn 7000 σ 0 (σ 7 1) 0 0).2 := fun z => (by have := fρ.mpr (Or.inr z); omega); exact Or.inr ⟨hb, fr 0, Or.inr ⟨f2, rfl, jset_eq _ _ _ _⟩⟩))
      · refine V.lconst dX7_itemsByCounting_84 ?_
        refine V.goto (tgt := 90) dX7_itemsByCounting_85 (by decide) ?_
        exact V.lret (jret_l dX7_itemsByCounting_90 rfl) (by first | (exfalso; omega) | (have f2 : (jcn 7000 σ 0 (σ 7 1) 0 0).2 := (fρ.mp (by omega)).resolve_left (by omega); exact Or.inr ⟨hb, fr 2, Or.inl ⟨f2, rfl, jset_eq _ _ _ _⟩⟩) | (have f2 : ¬ (jcn 7000 σ 0 (σ 7 1) 0 0).2 := fun z => (by have := fρ.mpr (Or.inr z); omega); exact Or.inr ⟨hb, fr 0, Or.inr ⟨f2, rfl, jset_eq _ _ _ _⟩⟩))
  have loop : ¬ jbad σ → ∀ (m : Nat) (x : Int), 0 ≤ x → x ≤ 4096 → 4096 - x < m → V l E mX7_itemsByCounting 85 0 (jIC σ) jno 29 [(2, 7), (0, x)] [] (jfill σ1 53 x (fun _ => 0)) := by
    intro hb m
    induction m with
    | zero => intro x a1 a2 a3; omega
    | succ m ih =>
      intro x a1 a2 a3
      have b4 := jfill_s σ1 53 a1 (fun _ => 0)
      refine V.iload_n dX7_itemsByCounting_29 rfl ?_
      refine V.sipush dX7_itemsByCounting_30 ⟨by decide, by decide⟩ ?_
      refine V.icmp_ge (tgt := 49) dX7_itemsByCounting_33 (by decide) (fun h33 => ?_) (fun h33 => ?_)
      · refine V.fg [1] rfl ?_
        rw [show x = 4096 by omega, ht]
        exact fin hb
      · refine V.aload_n dX7_itemsByCounting_36 rfl ?_
        refine V.getR fa_X7_76 rfl dX7_itemsByCounting_37 ?_
        refine V.iload_n dX7_itemsByCounting_40 rfl ?_
        refine V.iconst dX7_itemsByCounting_41 ⟨by decide, by decide⟩ ?_
        refine V.iast (cell := 53) 0 rfl rfl rfl rfl dX7_itemsByCounting_42 (by omega) (by omega) ?_
        refine V.iinc (L' := [_, _]) dX7_itemsByCounting_43 rfl ⟨(by omega), (by omega)⟩ rfl ?_
        refine V.goto (tgt := 29) dX7_itemsByCounting_46 (by decide) ?_
        rw [b4]
        exact ih (x + 1) (by omega) (by omega) (by omega)
  refine V.aload_n dX7_itemsByCounting_0 rfl ?_
  refine V.getI fa_X7_111 (by decide) rfl dX7_itemsByCounting_1 (fun _ => ?_)
  refine V.if_gt (tgt := 15) dX7_itemsByCounting_4 (by decide) (fun h4 => ?_) (fun h4 => ?_)
  · have hb : jbad σ := by unfold jbad; omega
    refine V.aload_n dX7_itemsByCounting_15 rfl ?_
    refine V.iconst dX7_itemsByCounting_16 ⟨by decide, by decide⟩ ?_
    refine V.cV [_] rfl kc_X7_92 rfl dX7_itemsByCounting_17 (by decide) rfl rfl (sp_X7_fails) (fun _ => ?_)
    refine V.i2l dX7_itemsByCounting_20 ?_
    exact V.lret (jret_l dX7_itemsByCounting_21 rfl) (Or.inl ⟨hb, rfl, rfl⟩)
  · refine V.aload_n dX7_itemsByCounting_7 rfl ?_
    refine V.getI fa_X7_7 (by decide) rfl dX7_itemsByCounting_8 (fun _ => ?_)
    refine V.iconst dX7_itemsByCounting_11 ⟨by decide, by decide⟩ ?_
    refine V.icmp_eq (tgt := 22) dX7_itemsByCounting_12 (by decide) (fun h12 => ?_) (fun h12 => ?_)
    · refine V.aload_n dX7_itemsByCounting_22 rfl ?_
      refine V.iconst dX7_itemsByCounting_23 ⟨by decide, by decide⟩ ?_
      refine V.putI fa_X7_199 (by decide) rfl dX7_itemsByCounting_24 (Or.inr (by first | exact Or.inl rfl | exact Or.inr rfl)) ?_
      rw [h1]
      refine V.iconst dX7_itemsByCounting_27 ⟨by decide, by decide⟩ ?_
      refine V.istore_n (L' := [_, _]) dX7_itemsByCounting_28 rfl rfl ?_
      have z := loop (fun z => by unfold jbad at z; omega) 4097 0 (by decide) (by decide) (by decide)
      rw [jfill_0] at z
      exact z
    · have hb : jbad σ := by unfold jbad; omega
      refine V.aload_n dX7_itemsByCounting_15 rfl ?_
      refine V.iconst dX7_itemsByCounting_16 ⟨by decide, by decide⟩ ?_
      refine V.cV [_] rfl kc_X7_92 rfl dX7_itemsByCounting_17 (by decide) rfl rfl (sp_X7_fails) (fun _ => ?_)
      refine V.i2l dX7_itemsByCounting_20 ?_
      exact V.lret (jret_l dX7_itemsByCounting_21 rfl) (Or.inl ⟨hb, rfl, rfl⟩)
