def jcM (σ : JM) : Int := if jcT σ ≠ 0 then jcT σ else if σ 7 19 = 0 then 2 else 0
theorem sp_X7_meanWord {σ : JM} (hn : 0 ≤ σ 7 19 ∧ σ 7 19 ≤ 1400) (hv : ∀ i, 0 ≤ i → i < σ 7 19 → 0 ≤ σ 51 i ∧ σ 51 i ≤ 100000) : JSp mX7_meanWord 1 0 [(2, 7)] σ (fun v t => v = some (5, if jcM σ = 0 then jDd (jsum (σ 51) (σ 7 19)) (σ 7 19) else 0) ∧ t = jq σ (jcM σ)) jno := by
  by_cases hc : jcT σ = 0
  · have e19 : jq σ (jcT σ) 7 19 = σ 7 19 := rfl
    refine JSp.of [(2, 7), (9, 0), (9, 0), (9, 0)] rfl (by decide +kernel) rfl rfl rfl (fun l E hA => ?_)
    have loop : ∀ (m : Nat) (x : Int), 0 ≤ x → x ≤ σ 7 19 → σ 7 19 - x < m → V l E mX7_meanWord 1 0 (fun v t => v = some (5, if jcM σ = 0 then jDd (jsum (σ 51) (σ 7 19)) (σ 7 19) else 0) ∧ t = jq σ (jcM σ)) jno 13 [(2, 7), (1, jsum (σ 51) x), (9, 0), (0, x)] [] (jq σ (jcT σ)) := by
      intro m
      induction m with
      | zero => intro x a1 a2 a3; omega
      | succ m ih =>
        intro x a1 a2 a3
        have b1 := jsum_s (σ 51) a1
        have b2 := jsum_le (g := σ 51) (c := 100000) a1 (fun i i0 i1 => hv i i0 (by omega))
        have b3 := ih (x + 1) (by omega)
        rw [b1] at b3
        refine V.iload_n dX7_meanWord_13 rfl ?_
        refine V.aload_n dX7_meanWord_14 rfl ?_
        refine V.getI fa_X7_162 (by decide) rfl dX7_meanWord_15 (fun _ => ?_)
        rw [e19]
        refine V.icmp_ge (tgt := 37) dX7_meanWord_18 (by decide) (fun h18 => ?_) (fun h18 => ?_)
        · refine V.aload_n dX7_meanWord_37 rfl ?_
          refine V.getI fa_X7_162 (by decide) rfl dX7_meanWord_38 (fun _ => ?_)
          rw [e19]
          refine V.if_ne (tgt := 53) dX7_meanWord_41 (by decide) (fun h41 => ?_) (fun h41 => ?_)
          · refine V.lload_n dX7_meanWord_53 rfl ?_
            refine V.l2d dX7_meanWord_54 ?_
            refine V.aload_n dX7_meanWord_55 rfl ?_
            refine V.getI fa_X7_162 (by decide) rfl dX7_meanWord_56 (fun _ => ?_)
            rw [e19]
            refine V.i2d dX7_meanWord_59 ?_
            refine V.ddiv dX7_meanWord_60 (by rw [jD_u, jD_u]; exact nn_ddiv ⟨b2.1, by omega⟩ ⟨by omega, by omega⟩) ?_
            rw [jD_u, jD_u]
            exact V.dret ⟨dX7_meanWord_61, rfl⟩ (by first | (have hz : jcM σ = 2 := by { unfold jcM; rw [if_neg (by omega), if_pos h41] }; rw [hz]; exact ⟨by rw [if_neg (by decide), show (((FP.i2d (jI 0)).toNat : Nat) : Int) = 0 by decide +kernel], jq_q σ _ 2⟩) | (have hz : jcM σ = 0 := by { unfold jcM; rw [if_neg (by omega), if_neg h41] }; rw [hz, hc]; exact ⟨by rw [if_pos rfl, show x = σ 7 19 by omega]; rfl, rfl⟩))
          · refine V.aload_n dX7_meanWord_44 rfl ?_
            refine V.iconst dX7_meanWord_45 ⟨by decide, by decide⟩ ?_
            refine V.cV [_] rfl kc_X7_92 rfl dX7_meanWord_46 (by decide) rfl rfl (sp_X7_fails) (fun _ => ?_)
            refine V.i2d dX7_meanWord_49 ?_
            refine V.goto (tgt := 61) dX7_meanWord_50 (by decide) ?_
            exact V.dret ⟨dX7_meanWord_61, rfl⟩ (by first | (have hz : jcM σ = 2 := by { unfold jcM; rw [if_neg (by omega), if_pos h41] }; rw [hz]; exact ⟨by rw [if_neg (by decide), show (((FP.i2d (jI 0)).toNat : Nat) : Int) = 0 by decide +kernel], jq_q σ _ 2⟩) | (have hz : jcM σ = 0 := by { unfold jcM; rw [if_neg (by omega), if_neg h41] }; rw [hz, hc]; exact ⟨by rw [if_pos rfl, show x = σ 7 19 by omega]; rfl, rfl⟩))
        · refine V.lload_n dX7_meanWord_21 rfl ?_
          refine V.aload_n dX7_meanWord_22 rfl ?_
          refine V.getR fa_X7_70 rfl dX7_meanWord_23 ?_
          refine V.iload_n dX7_meanWord_26 rfl ?_
          refine V.iald (cell := 51) 0 rfl rfl rfl rfl dX7_meanWord_27 (by omega) (by omega) (fun _ => ?_)
          have b5 := hv x a1 (by omega)
          rw [show jq σ (jcT σ) 51 x = σ 51 x from rfl]
          refine V.i2l dX7_meanWord_28 ?_
          refine V.ladd dX7_meanWord_29 ⟨(by omega), (by omega)⟩ ?_
          refine V.lstore_n (L' := [_, _, _, _]) dX7_meanWord_30 rfl rfl ?_
          refine V.iinc (L' := [_, _, _, _]) dX7_meanWord_31 rfl ⟨(by omega), (by omega)⟩ rfl ?_
          refine V.goto (tgt := 13) dX7_meanWord_34 (by decide) ?_
          exact b3 (by omega) (by omega)
    refine V.aload_n dX7_meanWord_0 rfl ?_
    refine V.cV [] rfl kc_X7_209 rfl dX7_meanWord_1 (by decide) rfl rfl (sp_X7_isThere) (fun _ => ?_)
    rw [if_pos hc]
    refine V.if_ne (tgt := 9) dX7_meanWord_4 (by decide) (fun h4 => ?_) (fun h4 => ?_)
    · refine V.lconst dX7_meanWord_9 ?_
      refine V.lstore_n (L' := [_, _, _, _]) dX7_meanWord_10 rfl rfl ?_
      refine V.iconst dX7_meanWord_11 ⟨by decide, by decide⟩ ?_
      refine V.istore_n (L' := [_, _, _, _]) dX7_meanWord_12 rfl rfl ?_
      exact loop ((σ 7 19).toNat + 1) 0 (by omega) hn.1 (by omega)
    · exfalso; omega
  · have hz : jcM σ = jcT σ := by unfold jcM; rw [if_pos hc]
    rw [hz, if_neg hc]
    refine JSp.of [(2, 7), (9, 0), (9, 0), (9, 0)] rfl (by decide +kernel) rfl rfl rfl (fun l E hA => ?_)
    refine V.aload_n dX7_meanWord_0 rfl ?_
    refine V.cV [] rfl kc_X7_209 rfl dX7_meanWord_1 (by decide) rfl rfl (sp_X7_isThere) (fun _ => ?_)
    rw [if_neg hc]
    refine V.if_ne (tgt := 9) dX7_meanWord_4 (by decide) (fun h4 => ?_) (fun h4 => ?_)
    · exact absurd rfl h4
    · refine V.dconst0 dX7_meanWord_7 ?_
      exact V.dret ⟨dX7_meanWord_8, rfl⟩ ⟨by rw [show ((FP.dconst0.toNat : Nat) : Int) = 0 by decide +kernel], rfl⟩
