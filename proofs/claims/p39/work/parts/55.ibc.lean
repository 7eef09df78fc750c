theorem sp_X6_itemsByCountingX {σ : JM} (h9 : 0 ≤ σ 1 9 ∧ σ 1 9 ≤ 80) (h8 : 0 ≤ σ 1 8 ∧ σ 1 8 ≤ 8) (hu : junf σ ≠ -1) : JSp mX6_itemsByCounting 31 1 [(2, 0)] σ jnr (jxx "java/lang/IllegalStateException" σ) := by
  refine JSp.of [(2, 0), (9, 0)] rfl (by decide +kernel) rfl rfl rfl (fun l E hA => ?_)
  refine V.aload_n dX6_itemsByCounting_0 rfl ?_
  refine V.getR fa_X6_12 rfl dX6_itemsByCounting_1 ?_
  refine V.cV [] rfl kc_X6_121 rfl dX6_itemsByCounting_4 (by decide) rfl rfl (sp_X5_unfinishedLine h9 h8) (fun _ => ?_)
  refine V.iconst dX6_itemsByCounting_7 ⟨by decide, by decide⟩ ?_
  refine V.icmp_eq (tgt := 21) dX6_itemsByCounting_8 (by decide) (fun hh => ?_) (fun hh => ?_)
  · exact absurd hh hu
  · exact V.throw tt_X6_itemsByCounting_11 rfl (by decide) ⟨rfl, rfl⟩ dX6_itemsByCounting_11 dX6_itemsByCounting_14 dX6_itemsByCounting_15 dX6_itemsByCounting_17 dX6_itemsByCounting_20
/-- what the class's itemsByCounting answers and leaves -/
def jyR (σ : JM) (v : Option JV) (t : JM) : Prop := (jck σ t ∧ jcmo σ t) ∧ ¬ (jcn 7000 σ 0 (σ 7 1) 0 0).2 ∧ v = some (1, min (jcn 7000 σ 0 (σ 7 1) 0 0).1 1000000)
def jyX (σ : JM) (X : String) (t : JM) : Prop := X = "java/lang/UnsupportedOperationException" ∧ (jck σ t ∧ jcmo σ t) ∧ (jcn 7000 σ 0 (σ 7 1) 0 0).2
theorem sp_X6_itemsByCounting {σ : JM} (h9 : 0 ≤ σ 1 9 ∧ σ 1 9 ≤ 80) (h8 : 0 ≤ σ 1 8 ∧ σ 1 8 ≤ 8) (hu : junf σ = -1) (hs : jSC σ) (hw : jwf σ) (hg : 0 ≤ σ 6 4 ∧ σ 6 4 ≤ 1000000) (i : jcmo σ σ) : JSp mX6_itemsByCounting 31 1 [(2, 0)] σ (jyR σ) (jyX σ) := by
  have ln := hw.ln
  have nb := (jcn_b hw 7000 0 (σ 7 1) 0 0 ⟨by omega, by omega, by omega, by omega, by omega, by omega, by omega⟩ hw.al).1
  refine JSp.of [(2, 0), (9, 0)] rfl (by decide +kernel) rfl rfl rfl (fun l E hA => ?_)
  refine V.aload_n dX6_itemsByCounting_0 rfl ?_
  refine V.getR fa_X6_12 rfl dX6_itemsByCounting_1 ?_
  refine V.cV [] rfl kc_X6_121 rfl dX6_itemsByCounting_4 (by decide) rfl rfl (sp_X5_unfinishedLine h9 h8) (fun _ => ?_)
  refine V.iconst dX6_itemsByCounting_7 ⟨by decide, by decide⟩ ?_
  refine V.icmp_eq (tgt := 21) dX6_itemsByCounting_8 (by decide) (fun hh => ?_) (fun hh => ?_)
  · refine V.aload_n dX6_itemsByCounting_21 rfl ?_
    refine V.getR fa_X6_53 rfl dX6_itemsByCounting_22 ?_
    refine V.callV [] rfl kc_X6_129 rfl dX6_itemsByCounting_25 (d' := 30) (by decide) (Nat.zero_le _) rfl (fun _ _ => sp_X0_countProgram hs hw hg i) rfl (fun v t hq hv => ?_) (fun X σ' hx => hx.elim)
    obtain ⟨⟨k1, k2, k3⟩, c, rfl, hc⟩ := hq
    refine V.istore_n (L' := [_, _]) dX6_itemsByCounting_28 rfl rfl ?_
    refine V.iload_n dX6_itemsByCounting_29 rfl ?_
    refine V.iconst dX6_itemsByCounting_30 ⟨by decide, by decide⟩ ?_
    refine V.icmp_ne (tgt := 44) dX6_itemsByCounting_31 (by decide) (fun h31 => ?_) (fun h31 => ?_)
    · refine V.iload_n dX6_itemsByCounting_44 rfl ?_
      refine V.i2l dX6_itemsByCounting_45 ?_
      exact V.lret (jret_l dX6_itemsByCounting_46 rfl) ⟨⟨k1, k2⟩, (by rcases hc with q | q; exact absurd q.2 h31; exact q.1), (by rcases hc with q | q; exact absurd q.2 h31; rw [q.2])⟩
    · exact V.throw tt_X6_itemsByCounting_34 rfl (by decide) ⟨rfl, ⟨k1, k2⟩, (by rcases hc with q | q; exact q.1; exfalso; omega)⟩ dX6_itemsByCounting_34 dX6_itemsByCounting_37 dX6_itemsByCounting_38 dX6_itemsByCounting_40 dX6_itemsByCounting_43
  · exact absurd hu hh
