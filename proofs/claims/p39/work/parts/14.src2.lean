theorem jb0 {P : Prop} [Decidable P] : (if P then (1 : Int) else 0) = 0 ↔ ¬ P := by by_cases h : P <;> simp [h]
theorem jb1 {P : Prop} [Decidable P] : (if P then (1 : Int) else 0) ≠ 0 ↔ P := by by_cases h : P <;> simp [h]
section JR7
variable {l : Launch} {E : JE} {i : JI} {d n : Nat} {Qr Qr' : Option JV → JM → Prop} {Qx Qx' : String → JM → Prop} {pc : Nat} {L L' st : List JV} {σ τ : JM} {r : Int}
/-- a call that throws, not caught -/
theorem V.cX {k : JI} {ix cell d' n' : Nat} {q : Int} (As : List JV) {st0 : List JV} (hst0 : st0 = As.reverse ++ (2, q) :: st) (kv : jKV i.1.cls ix cell k As.length) (hq : q.toNat = cell) (hd : decode i.2.1 pc = .ok (.invokevirtual ix, 3)) (hlt : d' < d) (hw : Nat.ble (jwt st) 8 = true) (hh : i.2.2.2.2.1 = []) (hn : n' ≤ n) (hl : JSp k d' n' ((2, q) :: As) σ jnr Qx) : V l E i d n Qr Qx pc L st0 σ :=
  V.callV As hst0 kv hq hd hlt hn hw (fun _ _ => hl) hh (fun v σ' hq hv => hq.elim) (fun X σ' hx => hx)
end JR7
abbrev jisop (σ : JM) (o g : Int) : Prop := (0 ≤ o ∧ o ≤ g) ∨ (σ 1 10 ≠ 0 ∧ (o = -1 ∨ o = -2))
abbrev jgrp (k : Int) : Prop := k = 66 ∨ k = 76 ∨ k = 87
theorem sp_X5_isOperand {σ : JM} {o g : Int} : JSp mX5_isOperand 1 0 [(2, 1), (0, o), (0, g)] σ (jrv (if jisop σ o g then 1 else 0) σ) jno := by
  refine JSp.of [(2, 1), (0, o), (0, g)] rfl (by decide +kernel) rfl rfl rfl (fun l E hA => ?_)
  refine V.iload_n dX5_isOperand_0 rfl ?_
  refine V.if_lt (tgt := 9) dX5_isOperand_1 (by decide) (fun h1 => ?_) (fun h1 => ?_)
  · refine V.aload_n dX5_isOperand_9 rfl ?_
    refine V.getI fa_X5_44 (by decide) rfl dX5_isOperand_10 (fun _ => ?_)
    refine V.if_eq (tgt := 27) dX5_isOperand_13 (by decide) (fun h13 => ?_) (fun h13 => ?_)
    · refine V.iconst dX5_isOperand_27 ⟨by decide, by decide⟩ ?_
      exact V.iret (jret_z dX5_isOperand_28 rfl (by decide)) ⟨jsm (by (try simp only [jb0, jb1] at *); split <;> omega), rfl⟩
    · refine V.iload_n dX5_isOperand_16 rfl ?_
      refine V.cN [_] rfl kc_X5_113 dX5_isOperand_17 (by decide) rfl rfl (sp_X6_isArgument) (fun _ => ?_)
      
      refine V.if_eq (tgt := 27) dX5_isOperand_20 (by decide) (fun h20 => ?_) (fun h20 => ?_)
      · refine V.iconst dX5_isOperand_27 ⟨by decide, by decide⟩ ?_
        exact V.iret (jret_z dX5_isOperand_28 rfl (by decide)) ⟨jsm (by (try simp only [jb0, jb1] at *); split <;> omega), rfl⟩
      · refine V.iconst dX5_isOperand_23 ⟨by decide, by decide⟩ ?_
        refine V.goto (tgt := 28) dX5_isOperand_24 (by decide) ?_
        exact V.iret (jret_z dX5_isOperand_28 rfl (by decide)) ⟨jsm (by (try simp only [jb0, jb1] at *); split <;> omega), rfl⟩
  · refine V.iload_n dX5_isOperand_4 rfl ?_
    refine V.iload_n dX5_isOperand_5 rfl ?_
    refine V.icmp_le (tgt := 23) dX5_isOperand_6 (by decide) (fun h6 => ?_) (fun h6 => ?_)
    · refine V.iconst dX5_isOperand_23 ⟨by decide, by decide⟩ ?_
      refine V.goto (tgt := 28) dX5_isOperand_24 (by decide) ?_
      exact V.iret (jret_z dX5_isOperand_28 rfl (by decide)) ⟨jsm (by (try simp only [jb0, jb1] at *); split <;> omega), rfl⟩
    · refine V.aload_n dX5_isOperand_9 rfl ?_
      refine V.getI fa_X5_44 (by decide) rfl dX5_isOperand_10 (fun _ => ?_)
      refine V.if_eq (tgt := 27) dX5_isOperand_13 (by decide) (fun h13 => ?_) (fun h13 => ?_)
      · refine V.iconst dX5_isOperand_27 ⟨by decide, by decide⟩ ?_
        exact V.iret (jret_z dX5_isOperand_28 rfl (by decide)) ⟨jsm (by (try simp only [jb0, jb1] at *); split <;> omega), rfl⟩
      · refine V.iload_n dX5_isOperand_16 rfl ?_
        refine V.cN [_] rfl kc_X5_113 dX5_isOperand_17 (by decide) rfl rfl (sp_X6_isArgument) (fun _ => ?_)
        
        refine V.if_eq (tgt := 27) dX5_isOperand_20 (by decide) (fun h20 => ?_) (fun h20 => ?_)
        · refine V.iconst dX5_isOperand_27 ⟨by decide, by decide⟩ ?_
          exact V.iret (jret_z dX5_isOperand_28 rfl (by decide)) ⟨jsm (by (try simp only [jb0, jb1] at *); split <;> omega), rfl⟩
        · refine V.iconst dX5_isOperand_23 ⟨by decide, by decide⟩ ?_
          refine V.goto (tgt := 28) dX5_isOperand_24 (by decide) ?_
          exact V.iret (jret_z dX5_isOperand_28 rfl (by decide)) ⟨jsm (by (try simp only [jb0, jb1] at *); split <;> omega), rfl⟩
def junf (σ : JM) : Int := if 0 < σ 1 9 then jat σ 13 80 (σ 1 9 - 1) else if σ 1 10 ≠ 0 then jat σ 14 8 (σ 1 8 - 1) else -1
theorem sp_X5_unfinishedLine {σ : JM} (h9 : 0 ≤ σ 1 9 ∧ σ 1 9 ≤ 80) (h8 : 0 ≤ σ 1 8 ∧ σ 1 8 ≤ 8) : JSp mX5_unfinishedLine 1 0 [(2, 1)] σ (jrv (junf σ) σ) jno := by
  refine JSp.of [(2, 1)] rfl (by decide +kernel) rfl rfl rfl (fun l E hA => ?_)
  refine V.aload_n dX5_unfinishedLine_0 rfl ?_
  refine V.getI fa_X5_48 (by decide) rfl dX5_unfinishedLine_1 (fun _ => ?_)
  refine V.if_le (tgt := 21) dX5_unfinishedLine_4 (by decide) (fun h4 => ?_) (fun h4 => ?_)
  · refine V.aload_n dX5_unfinishedLine_21 rfl ?_
    refine V.getI fa_X5_44 (by decide) rfl dX5_unfinishedLine_22 (fun _ => ?_)
    refine V.if_eq (tgt := 44) dX5_unfinishedLine_25 (by decide) (fun h25 => ?_) (fun h25 => ?_)
    · refine V.iconst dX5_unfinishedLine_44 ⟨by decide, by decide⟩ ?_
      exact V.iret (jret_i dX5_unfinishedLine_45 rfl) ⟨jsm (by unfold junf; split <;> first | omega | rfl | (split <;> first | omega | rfl)), rfl⟩
    · refine V.aload_n dX5_unfinishedLine_28 rfl ?_
      refine V.getR fa_X5_30 rfl dX5_unfinishedLine_29 ?_
      refine V.aload_n dX5_unfinishedLine_32 rfl ?_
      refine V.getI fa_X5_37 (by decide) rfl dX5_unfinishedLine_33 (fun _ => ?_)
      refine V.iconst dX5_unfinishedLine_36 ⟨by decide, by decide⟩ ?_
      refine V.isub dX5_unfinishedLine_37 ⟨(by omega), (by omega)⟩ ?_
      refine V.cN [_, _] rfl kc_X5_40 dX5_unfinishedLine_38 (by decide) rfl rfl (sp_X6_at (N := 8) rfl rfl rfl) (fun _ => ?_)
      refine V.goto (tgt := 45) dX5_unfinishedLine_41 (by decide) ?_
      exact V.iret (jret_i dX5_unfinishedLine_45 rfl) ⟨jsm (by unfold junf; split <;> first | omega | rfl | (split <;> first | omega | rfl)), rfl⟩
  · refine V.aload_n dX5_unfinishedLine_7 rfl ?_
    refine V.getR fa_X5_27 rfl dX5_unfinishedLine_8 ?_
    refine V.aload_n dX5_unfinishedLine_11 rfl ?_
    refine V.getI fa_X5_48 (by decide) rfl dX5_unfinishedLine_12 (fun _ => ?_)
    refine V.iconst dX5_unfinishedLine_15 ⟨by decide, by decide⟩ ?_
    refine V.isub dX5_unfinishedLine_16 ⟨(by omega), (by omega)⟩ ?_
    refine V.cN [_, _] rfl kc_X5_40 dX5_unfinishedLine_17 (by decide) rfl rfl (sp_X6_at (N := 80) rfl rfl rfl) (fun _ => ?_)
    exact V.iret (jret_i dX5_unfinishedLine_20 rfl) ⟨jsm (by unfold junf; split <;> first | omega | rfl | (split <;> first | omega | rfl)), rfl⟩
theorem sp_X5_pair {σ : JM} {b e : Int} (h0 : 0 ≤ b) (h1 : b < e) (h2 : e < 80) : JSp mX5_pair 1 0 [(2, 1), (0, b), (0, e)] σ (jvv (jset (jset σ 12 b e) 12 e b)) jno := by
  refine JSp.of [(2, 1), (0, b), (0, e)] rfl (by decide +kernel) rfl rfl rfl (fun l E hA => ?_)
  refine V.aload_n dX5_pair_0 rfl ?_
  refine V.getR fa_X5_24 rfl dX5_pair_1 ?_
  refine V.iload_n dX5_pair_4 rfl ?_
  refine V.iload_n dX5_pair_5 rfl ?_
  refine V.cN0 [_, _, _] rfl kc_X5_74 dX5_pair_6 (by decide) rfl rfl (sp_X6_setAt (k := 12) (N := 80) rfl rfl rfl rfl (h0) (by omega)) ?_
  refine V.aload_n dX5_pair_9 rfl ?_
  refine V.getR fa_X5_24 rfl dX5_pair_10 ?_
  refine V.iload_n dX5_pair_13 rfl ?_
  refine V.iload_n dX5_pair_14 rfl ?_
  refine V.cN0 [_, _, _] rfl kc_X5_74 dX5_pair_15 (by decide) rfl rfl (sp_X6_setAt (k := 12) (N := 80) rfl rfl rfl rfl (by omega) (h2)) ?_
  exact V.vret (jret_v dX5_pair_18 rfl) ⟨rfl, rfl⟩
def jFeed (σ : JM) (k f s x : Int) : JM := if jgrp k then jset (jset (jApp σ k f s x) 13 (σ 1 9) (σ 1 7)) 1 9 (σ 1 9 + 1) else jApp σ k f s x
theorem sp_X5_feed {σ : JM} {k f s x : Int} (h0 : 0 ≤ σ 1 7) (h1 : σ 1 7 < 80) (h2 : 0 ≤ σ 1 9) (h3 : σ 1 9 < 80) (hf : jisop σ f (jgo k)) (hs : jisop σ s (jgo k)) : JSp mX5_feed 9 0 [(2, 1), (0, k), (0, f), (0, s), (0, x)] σ (jrv (σ 1 7) (jFeed σ k f s x)) jno := by
  refine JSp.of [(2, 1), (0, k), (0, f), (0, s), (0, x), (9, 0), (9, 0)] rfl (by decide +kernel) rfl rfl rfl (fun l E hA => ?_)
  refine V.iload_n dX5_feed_0 rfl ?_
  refine V.cN [_] rfl kc_X5_51 dX5_feed_1 (by decide) rfl rfl (sp_X6_greatestOperand) (fun _ => ?_)
  refine V.istore (L' := [_, _, _, _, _, _, _]) dX5_feed_4 rfl rfl ?_
  refine V.aload_n dX5_feed_6 rfl ?_
  refine V.iload_n dX5_feed_7 rfl ?_
  refine V.iload dX5_feed_8 rfl ?_
  refine V.cV [_, _] rfl kc_X5_55 rfl dX5_feed_10 (by decide) rfl rfl (sp_X5_isOperand) (fun _ => ?_)
  refine V.if_eq (tgt := 26) dX5_feed_13 (by decide) (fun hh => ?_) (fun hh => ?_)
  · exact absurd hf (jb0.mp hh)
  · refine V.aload_n dX5_feed_16 rfl ?_
    refine V.iload_n dX5_feed_17 rfl ?_
    refine V.iload dX5_feed_18 rfl ?_
    refine V.cV [_, _] rfl kc_X5_55 rfl dX5_feed_20 (by decide) rfl rfl (sp_X5_isOperand) (fun _ => ?_)
    refine V.if_ne (tgt := 36) dX5_feed_23 (by decide) (fun hh => ?_) (fun hh => ?_)
    · refine V.aload_n dX5_feed_36 rfl ?_
      refine V.iload_n dX5_feed_37 rfl ?_
      refine V.iload_n dX5_feed_38 rfl ?_
      refine V.iload_n dX5_feed_39 rfl ?_
      refine V.iload dX5_feed_40 rfl ?_
      refine V.cV [_, _, _, _] rfl kc_X5_66 rfl dX5_feed_42 (by decide) rfl rfl (sp_X5_append h0 h1) (fun _ => ?_)
      refine V.istore (L' := [_, _, _, _, _, _, _]) dX5_feed_45 rfl rfl ?_
      refine V.iload_n dX5_feed_47 rfl ?_
      refine V.cN [_] rfl kc_X5_70 dX5_feed_48 (by decide) rfl rfl (sp_X6_beginsGroup) (fun _ => ?_)
      refine V.if_eq (tgt := 77) dX5_feed_51 (by decide) (fun hg => ?_) (fun hg => ?_)
      · refine V.iload dX5_feed_77 rfl ?_
        exact V.iret (jret_i dX5_feed_79 rfl) ⟨rfl, by unfold jFeed; first | (rw [if_pos (jb1.mp hg)]; rfl) | (rw [if_neg (jb0.mp hg)])⟩
      · refine V.aload_n dX5_feed_54 rfl ?_
        refine V.getR fa_X5_27 rfl dX5_feed_55 ?_
        refine V.aload_n dX5_feed_58 rfl ?_
        refine V.getI fa_X5_48 (by decide) rfl dX5_feed_59 (fun _ => ?_)
        refine V.iload dX5_feed_62 rfl ?_
        refine V.cN0 [_, _, _] rfl kc_X5_74 dX5_feed_64 (by decide) rfl rfl (sp_X6_setAt (k := 13) (N := 80) rfl rfl rfl rfl (show (0 : Int) ≤ σ 1 9 from h2) (show σ 1 9 < 80 from h3)) ?_
        refine V.aload_n dX5_feed_67 rfl ?_
        refine V.dup dX5_feed_68 rfl ?_
        refine V.getI fa_X5_48 (by decide) rfl dX5_feed_69 (fun _ => ?_)
        refine V.iconst dX5_feed_72 ⟨by decide, by decide⟩ ?_
        refine V.iadd dX5_feed_73 ⟨(by first | omega | (show _ ≤ σ 1 9 + 1; omega) | (show σ 1 9 + 1 ≤ _; omega)), (by first | omega | (show _ ≤ σ 1 9 + 1; omega) | (show σ 1 9 + 1 ≤ _; omega))⟩ ?_
        refine V.putI fa_X5_48 (by decide) rfl dX5_feed_74 (Or.inl rfl) ?_
        refine V.iload dX5_feed_77 rfl ?_
        exact V.iret (jret_i dX5_feed_79 rfl) ⟨rfl, by unfold jFeed; first | (rw [if_pos (jb1.mp hg)]; rfl) | (rw [if_neg (jb0.mp hg)])⟩
    · exact absurd hs (jb0.mp hh)
theorem sp_X5_feedA {σ : JM} {k f s x : Int} (hb : ¬ (jisop σ f (jgo k) ∧ jisop σ s (jgo k))) : JSp mX5_feed 9 1 [(2, 1), (0, k), (0, f), (0, s), (0, x)] σ jnr (jxx "java/lang/IllegalArgumentException" σ) := by
  refine JSp.of [(2, 1), (0, k), (0, f), (0, s), (0, x), (9, 0), (9, 0)] rfl (by decide +kernel) rfl rfl rfl (fun l E hA => ?_)
  refine V.iload_n dX5_feed_0 rfl ?_
  refine V.cN [_] rfl kc_X5_51 dX5_feed_1 (by decide) rfl rfl (sp_X6_greatestOperand) (fun _ => ?_)
  refine V.istore (L' := [_, _, _, _, _, _, _]) dX5_feed_4 rfl rfl ?_
  refine V.aload_n dX5_feed_6 rfl ?_
  refine V.iload_n dX5_feed_7 rfl ?_
  refine V.iload dX5_feed_8 rfl ?_
  refine V.cV [_, _] rfl kc_X5_55 rfl dX5_feed_10 (by decide) rfl rfl (sp_X5_isOperand) (fun _ => ?_)
  refine V.if_eq (tgt := 26) dX5_feed_13 (by decide) (fun hf => ?_) (fun hf => ?_)
  · exact V.throw tt_X5_feed_26 rfl (by decide) ⟨rfl, rfl⟩ dX5_feed_26 dX5_feed_29 dX5_feed_30 dX5_feed_32 dX5_feed_35
  · refine V.aload_n dX5_feed_16 rfl ?_
    refine V.iload_n dX5_feed_17 rfl ?_
    refine V.iload dX5_feed_18 rfl ?_
    refine V.cV [_, _] rfl kc_X5_55 rfl dX5_feed_20 (by decide) rfl rfl (sp_X5_isOperand) (fun _ => ?_)
    refine V.if_ne (tgt := 36) dX5_feed_23 (by decide) (fun hs => ?_) (fun hs => ?_)
    · exact absurd ⟨jb1.mp hf, jb1.mp hs⟩ hb
    · exact V.throw tt_X5_feed_26 rfl (by decide) ⟨rfl, rfl⟩ dX5_feed_26 dX5_feed_29 dX5_feed_30 dX5_feed_32 dX5_feed_35
theorem sp_X5_feedX {σ : JM} {k f s x : Int} (h1 : 80 ≤ σ 1 7) (hf : jisop σ f (jgo k)) (hs : jisop σ s (jgo k)) : JSp mX5_feed 9 1 [(2, 1), (0, k), (0, f), (0, s), (0, x)] σ jnr (jxx "java/lang/IllegalStateException" σ) := by
  refine JSp.of [(2, 1), (0, k), (0, f), (0, s), (0, x), (9, 0), (9, 0)] rfl (by decide +kernel) rfl rfl rfl (fun l E hA => ?_)
  refine V.iload_n dX5_feed_0 rfl ?_
  refine V.cN [_] rfl kc_X5_51 dX5_feed_1 (by decide) rfl rfl (sp_X6_greatestOperand) (fun _ => ?_)
  refine V.istore (L' := [_, _, _, _, _, _, _]) dX5_feed_4 rfl rfl ?_
  refine V.aload_n dX5_feed_6 rfl ?_
  refine V.iload_n dX5_feed_7 rfl ?_
  refine V.iload dX5_feed_8 rfl ?_
  refine V.cV [_, _] rfl kc_X5_55 rfl dX5_feed_10 (by decide) rfl rfl (sp_X5_isOperand) (fun _ => ?_)
  refine V.if_eq (tgt := 26) dX5_feed_13 (by decide) (fun hh => ?_) (fun hh => ?_)
  · exact absurd hf (jb0.mp hh)
  · refine V.aload_n dX5_feed_16 rfl ?_
    refine V.iload_n dX5_feed_17 rfl ?_
    refine V.iload dX5_feed_18 rfl ?_
    refine V.cV [_, _] rfl kc_X5_55 rfl dX5_feed_20 (by decide) rfl rfl (sp_X5_isOperand) (fun _ => ?_)
    refine V.if_ne (tgt := 36) dX5_feed_23 (by decide) (fun hh => ?_) (fun hh => ?_)
    · refine V.aload_n dX5_feed_36 rfl ?_
      refine V.iload_n dX5_feed_37 rfl ?_
      refine V.iload_n dX5_feed_38 rfl ?_
      refine V.iload_n dX5_feed_39 rfl ?_
      refine V.iload dX5_feed_40 rfl ?_
      exact V.cX [_, _, _, _] rfl kc_X5_66 rfl dX5_feed_42 (by decide) rfl rfl (by decide) (sp_X5_appendX h1)
    · exact absurd hs (jb0.mp hh)
def jEnd (σ : JM) : JM := jset (jset (jset (jApp σ 69 0 0 0) 12 (σ 13 (σ 1 9 - 1)) (σ 1 7)) 12 (σ 1 7) (σ 13 (σ 1 9 - 1))) 1 9 (σ 1 9 - 1)
theorem junf_o {σ : JM} (h2 : 0 < σ 1 9) (h3 : σ 1 9 ≤ 80) : junf σ = σ 13 (σ 1 9 - 1) := by
  unfold junf jat
  rw [if_pos h2, if_pos ⟨by omega, by omega⟩]
theorem sp_X5_endGroup {σ : JM} (h0 : 0 ≤ σ 1 7) (h1 : σ 1 7 < 80) (h2 : 0 < σ 1 9) (h3 : σ 1 9 ≤ 80) (h8 : 0 ≤ σ 1 8 ∧ σ 1 8 ≤ 8) (hg : 0 ≤ σ 13 (σ 1 9 - 1) ∧ σ 13 (σ 1 9 - 1) < σ 1 7) : JSp mX5_endGroup 9 0 [(2, 1)] σ (jrv (σ 1 7) (jEnd σ)) jno := by
  have e : junf (jApp σ 69 0 0 0) = σ 13 (σ 1 9 - 1) := junf_o (σ := jApp σ 69 0 0 0) h2 h3
  refine JSp.of [(2, 1), (9, 0)] rfl (by decide +kernel) rfl rfl rfl (fun l E hA => ?_)
  refine V.aload_n dX5_endGroup_0 rfl ?_
  refine V.getI fa_X5_48 (by decide) rfl dX5_endGroup_1 (fun _ => ?_)
  refine V.if_ne (tgt := 17) dX5_endGroup_4 (by decide) (fun hh => ?_) (fun hh => ?_)
  · refine V.aload_n dX5_endGroup_17 rfl ?_
    refine V.bipush dX5_endGroup_18 ⟨by decide, by decide⟩ ?_
    refine V.iconst dX5_endGroup_20 ⟨by decide, by decide⟩ ?_
    refine V.iconst dX5_endGroup_21 ⟨by decide, by decide⟩ ?_
    refine V.iconst dX5_endGroup_22 ⟨by decide, by decide⟩ ?_
    refine V.cV [_, _, _, _] rfl kc_X5_66 rfl dX5_endGroup_23 (by decide) rfl rfl (sp_X5_append h0 h1) (fun _ => ?_)
    refine V.istore_n (L' := [_, _]) dX5_endGroup_26 rfl rfl ?_
    refine V.aload_n dX5_endGroup_27 rfl ?_
    refine V.aload_n dX5_endGroup_28 rfl ?_
    refine V.cV [] rfl kc_X5_83 rfl dX5_endGroup_29 (by decide) rfl rfl (sp_X5_unfinishedLine (σ := jApp σ 69 0 0 0) ⟨Int.le_of_lt h2, h3⟩ h8) (fun _ => ?_)
    rw [e]
    refine V.iload_n dX5_endGroup_32 rfl ?_
    refine V.cV0 [_, _] rfl kc_X5_87 rfl dX5_endGroup_33 (by decide) rfl rfl (sp_X5_pair hg.1 hg.2 h1) ?_
    refine V.aload_n dX5_endGroup_36 rfl ?_
    refine V.dup dX5_endGroup_37 rfl ?_
    refine V.getI fa_X5_48 (by decide) rfl dX5_endGroup_38 (fun _ => ?_)
    refine V.iconst dX5_endGroup_41 ⟨by decide, by decide⟩ ?_
    refine V.isub dX5_endGroup_42 ⟨(by first | omega | (show _ ≤ σ 1 9 - 1; omega) | (show σ 1 9 - 1 ≤ _; omega)), (by first | omega | (show _ ≤ σ 1 9 - 1; omega) | (show σ 1 9 - 1 ≤ _; omega))⟩ ?_
    refine V.putI fa_X5_48 (by decide) rfl dX5_endGroup_43 (Or.inl rfl) ?_
    refine V.iload_n dX5_endGroup_46 rfl ?_
    exact V.iret (jret_i dX5_endGroup_47 rfl) ⟨rfl, rfl⟩
  · exact absurd hh (by omega)
theorem sp_X5_endGroupU {σ : JM} (h2 : σ 1 9 = 0) : JSp mX5_endGroup 9 1 [(2, 1)] σ jnr (jxx "java/lang/UnsupportedOperationException" σ) := by
  refine JSp.of [(2, 1), (9, 0)] rfl (by decide +kernel) rfl rfl rfl (fun l E hA => ?_)
  refine V.aload_n dX5_endGroup_0 rfl ?_
  refine V.getI fa_X5_48 (by decide) rfl dX5_endGroup_1 (fun _ => ?_)
  refine V.if_ne (tgt := 17) dX5_endGroup_4 (by decide) (fun hh => ?_) (fun hh => ?_)
  · exact absurd h2 hh
  · exact V.throw tt_X5_endGroup_7 rfl (by decide) ⟨rfl, rfl⟩ dX5_endGroup_7 dX5_endGroup_10 dX5_endGroup_11 dX5_endGroup_13 dX5_endGroup_16
theorem sp_X5_endGroupX {σ : JM} (h1 : 80 ≤ σ 1 7) (h2 : σ 1 9 ≠ 0) : JSp mX5_endGroup 9 1 [(2, 1)] σ jnr (jxx "java/lang/IllegalStateException" σ) := by
  refine JSp.of [(2, 1), (9, 0)] rfl (by decide +kernel) rfl rfl rfl (fun l E hA => ?_)
  refine V.aload_n dX5_endGroup_0 rfl ?_
  refine V.getI fa_X5_48 (by decide) rfl dX5_endGroup_1 (fun _ => ?_)
  refine V.if_ne (tgt := 17) dX5_endGroup_4 (by decide) (fun hh => ?_) (fun hh => ?_)
  · refine V.aload_n dX5_endGroup_17 rfl ?_
    refine V.bipush dX5_endGroup_18 ⟨by decide, by decide⟩ ?_
    refine V.iconst dX5_endGroup_20 ⟨by decide, by decide⟩ ?_
    refine V.iconst dX5_endGroup_21 ⟨by decide, by decide⟩ ?_
    refine V.iconst dX5_endGroup_22 ⟨by decide, by decide⟩ ?_
    exact V.cX [_, _, _, _] rfl kc_X5_66 rfl dX5_endGroup_23 (by decide) rfl rfl (by decide) (sp_X5_appendX h1)
  · exact absurd hh h2
def jMac (σ : JM) : JM := jset (jset (jset (jApp σ 77 0 0 0) 14 (σ 1 8) (σ 1 7)) 1 8 (σ 1 8 + 1)) 1 10 1
theorem sp_X5_beginMacro {σ : JM} (h0 : 0 ≤ σ 1 7) (h1 : σ 1 7 < 80) (h2 : σ 1 9 = 0) (h3 : σ 1 10 = 0) (h8 : 0 ≤ σ 1 8 ∧ σ 1 8 < 8) : JSp mX5_beginMacro 9 0 [(2, 1)] σ (jrv (σ 1 8) (jMac σ)) jno := by
  have e : junf σ = -1 := by unfold junf; rw [if_neg (by omega), if_neg (by omega)]
  refine JSp.of [(2, 1), (9, 0)] rfl (by decide +kernel) rfl rfl rfl (fun l E hA => ?_)
  refine V.aload_n dX5_beginMacro_0 rfl ?_
  refine V.cV [] rfl kc_X5_83 rfl dX5_beginMacro_1 (by decide) rfl rfl (sp_X5_unfinishedLine (by omega) (by omega)) (fun _ => ?_)
  refine V.iconst dX5_beginMacro_4 ⟨by decide, by decide⟩ ?_
  refine V.icmp_eq (tgt := 18) dX5_beginMacro_5 (by decide) (fun hh => ?_) (fun hh => ?_)
  · refine V.aload_n dX5_beginMacro_18 rfl ?_
    refine V.getI fa_X5_37 (by decide) rfl dX5_beginMacro_19 (fun _ => ?_)
    refine V.bipush dX5_beginMacro_22 ⟨by decide, by decide⟩ ?_
    refine V.icmp_lt (tgt := 37) dX5_beginMacro_24 (by decide) (fun hh => ?_) (fun hh => ?_)
    · refine V.aload_n dX5_beginMacro_37 rfl ?_
      refine V.bipush dX5_beginMacro_38 ⟨by decide, by decide⟩ ?_
      refine V.iconst dX5_beginMacro_40 ⟨by decide, by decide⟩ ?_
      refine V.iconst dX5_beginMacro_41 ⟨by decide, by decide⟩ ?_
      refine V.iconst dX5_beginMacro_42 ⟨by decide, by decide⟩ ?_
      refine V.cV [_, _, _, _] rfl kc_X5_66 rfl dX5_beginMacro_43 (by decide) rfl rfl (sp_X5_append h0 h1) (fun _ => ?_)
      refine V.istore_n (L' := [_, _]) dX5_beginMacro_46 rfl rfl ?_
      refine V.aload_n dX5_beginMacro_47 rfl ?_
      refine V.getR fa_X5_30 rfl dX5_beginMacro_48 ?_
      refine V.aload_n dX5_beginMacro_51 rfl ?_
      refine V.getI fa_X5_37 (by decide) rfl dX5_beginMacro_52 (fun _ => ?_)
      refine V.iload_n dX5_beginMacro_55 rfl ?_
      refine V.cN0 [_, _, _] rfl kc_X5_74 dX5_beginMacro_56 (by decide) rfl rfl (sp_X6_setAt (k := 14) (N := 8) rfl rfl rfl rfl (show (0 : Int) ≤ σ 1 8 from h8.1) (show σ 1 8 < 8 from h8.2)) ?_
      refine V.aload_n dX5_beginMacro_59 rfl ?_
      refine V.dup dX5_beginMacro_60 rfl ?_
      refine V.getI fa_X5_37 (by decide) rfl dX5_beginMacro_61 (fun _ => ?_)
      refine V.iconst dX5_beginMacro_64 ⟨by decide, by decide⟩ ?_
      refine V.iadd dX5_beginMacro_65 ⟨(by first | omega | (show _ ≤ σ 1 8 + 1; omega) | (show σ 1 8 + 1 ≤ _; omega)), (by first | omega | (show _ ≤ σ 1 8 + 1; omega) | (show σ 1 8 + 1 ≤ _; omega))⟩ ?_
      refine V.putI fa_X5_37 (by decide) rfl dX5_beginMacro_66 (Or.inl rfl) ?_
      refine V.aload_n dX5_beginMacro_69 rfl ?_
      refine V.iconst dX5_beginMacro_70 ⟨by decide, by decide⟩ ?_
      refine V.putI fa_X5_44 (by decide) rfl dX5_beginMacro_71 (Or.inr (by first | exact Or.inl rfl | exact Or.inr rfl)) ?_
      refine V.aload_n dX5_beginMacro_74 rfl ?_
      refine V.getI fa_X5_37 (by decide) rfl dX5_beginMacro_75 (fun _ => ?_)
      refine V.iconst dX5_beginMacro_78 ⟨by decide, by decide⟩ ?_
      refine V.isub dX5_beginMacro_79 ⟨(by first | omega | (show _ ≤ σ 1 8 + 1 - 1; omega) | (show σ 1 8 + 1 - 1 ≤ _; omega)), (by first | omega | (show _ ≤ σ 1 8 + 1 - 1; omega) | (show σ 1 8 + 1 - 1 ≤ _; omega))⟩ ?_
      exact V.iret (jret_i dX5_beginMacro_80 rfl) ⟨jsm (show σ 1 8 + 1 - 1 = σ 1 8 by omega), rfl⟩
    · exact absurd hh (by omega)
  · exact absurd e hh
theorem sp_X5_beginMacroU {σ : JM} (h9 : 0 ≤ σ 1 9 ∧ σ 1 9 ≤ 80) (h8 : 0 ≤ σ 1 8 ∧ σ 1 8 ≤ 8) (hu : junf σ ≠ -1) : JSp mX5_beginMacro 9 1 [(2, 1)] σ jnr (jxx "java/lang/UnsupportedOperationException" σ) := by
  refine JSp.of [(2, 1), (9, 0)] rfl (by decide +kernel) rfl rfl rfl (fun l E hA => ?_)
  refine V.aload_n dX5_beginMacro_0 rfl ?_
  refine V.cV [] rfl kc_X5_83 rfl dX5_beginMacro_1 (by decide) rfl rfl (sp_X5_unfinishedLine h9 h8) (fun _ => ?_)
  refine V.iconst dX5_beginMacro_4 ⟨by decide, by decide⟩ ?_
  refine V.icmp_eq (tgt := 18) dX5_beginMacro_5 (by decide) (fun hh => ?_) (fun hh => ?_)
  · exact absurd hh hu
  · exact V.throw tt_X5_beginMacro_8 rfl (by decide) ⟨rfl, rfl⟩ dX5_beginMacro_8 dX5_beginMacro_11 dX5_beginMacro_12 dX5_beginMacro_14 dX5_beginMacro_17
theorem sp_X5_beginMacroX {σ : JM} (h2 : σ 1 9 = 0) (h3 : σ 1 10 = 0) (h8 : 0 ≤ σ 1 8 ∧ σ 1 8 ≤ 8) (hu : 80 ≤ σ 1 7 ∨ σ 1 8 = 8) : JSp mX5_beginMacro 9 1 [(2, 1)] σ jnr (jxx "java/lang/IllegalStateException" σ) := by
  have e : junf σ = -1 := by unfold junf; rw [if_neg (by omega), if_neg (by omega)]
  refine JSp.of [(2, 1), (9, 0)] rfl (by decide +kernel) rfl rfl rfl (fun l E hA => ?_)
  refine V.aload_n dX5_beginMacro_0 rfl ?_
  refine V.cV [] rfl kc_X5_83 rfl dX5_beginMacro_1 (by decide) rfl rfl (sp_X5_unfinishedLine (by omega) (by omega)) (fun _ => ?_)
  refine V.iconst dX5_beginMacro_4 ⟨by decide, by decide⟩ ?_
  refine V.icmp_eq (tgt := 18) dX5_beginMacro_5 (by decide) (fun hh => ?_) (fun hh => ?_)
  · refine V.aload_n dX5_beginMacro_18 rfl ?_
    refine V.getI fa_X5_37 (by decide) rfl dX5_beginMacro_19 (fun _ => ?_)
    refine V.bipush dX5_beginMacro_22 ⟨by decide, by decide⟩ ?_
    refine V.icmp_lt (tgt := 37) dX5_beginMacro_24 (by decide) (fun hh => ?_) (fun hh => ?_)
    · refine V.aload_n dX5_beginMacro_37 rfl ?_
      refine V.bipush dX5_beginMacro_38 ⟨by decide, by decide⟩ ?_
      refine V.iconst dX5_beginMacro_40 ⟨by decide, by decide⟩ ?_
      refine V.iconst dX5_beginMacro_41 ⟨by decide, by decide⟩ ?_
      refine V.iconst dX5_beginMacro_42 ⟨by decide, by decide⟩ ?_
      exact V.cX [_, _, _, _] rfl kc_X5_66 rfl dX5_beginMacro_43 (by decide) rfl rfl (by decide) (sp_X5_appendX (by omega))
    · exact V.throw tt_X5_beginMacro_27 rfl (by decide) ⟨rfl, rfl⟩ dX5_beginMacro_27 dX5_beginMacro_30 dX5_beginMacro_31 dX5_beginMacro_33 dX5_beginMacro_36
  · exact absurd e hh
def jEndM (σ : JM) : JM := jset (jset (jset (jApp σ 78 0 0 0) 12 (σ 14 (σ 1 8 - 1)) (σ 1 7)) 12 (σ 1 7) (σ 14 (σ 1 8 - 1))) 1 10 0
theorem junf_m {σ : JM} (h2 : σ 1 9 = 0) (h3 : σ 1 10 ≠ 0) (h8 : 0 < σ 1 8 ∧ σ 1 8 ≤ 8) : junf σ = σ 14 (σ 1 8 - 1) := by
  unfold junf jat
  rw [if_neg (by omega), if_pos h3, if_pos ⟨by omega, by omega⟩]
theorem sp_X5_finishMacro {σ : JM} (h0 : 0 ≤ σ 1 7) (h1 : σ 1 7 < 80) (h2 : σ 1 9 = 0) (h3 : σ 1 10 ≠ 0) (h8 : 0 < σ 1 8 ∧ σ 1 8 ≤ 8) (hg : 0 ≤ σ 14 (σ 1 8 - 1) ∧ σ 14 (σ 1 8 - 1) < σ 1 7) : JSp mX5_finishMacro 9 0 [(2, 1)] σ (jrv (σ 1 8 - 1) (jEndM σ)) jno := by
  have e : junf (jApp σ 78 0 0 0) = σ 14 (σ 1 8 - 1) := junf_m (σ := jApp σ 78 0 0 0) h2 h3 h8
  refine JSp.of [(2, 1), (9, 0)] rfl (by decide +kernel) rfl rfl rfl (fun l E hA => ?_)
  refine V.aload_n dX5_finishMacro_0 rfl ?_
  refine V.getI fa_X5_44 (by decide) rfl dX5_finishMacro_1 (fun _ => ?_)
  refine V.if_eq (tgt := 14) dX5_finishMacro_4 (by decide) (fun hh => ?_) (fun hh => ?_)
  · exact absurd hh h3
  · refine V.aload_n dX5_finishMacro_7 rfl ?_
    refine V.getI fa_X5_48 (by decide) rfl dX5_finishMacro_8 (fun _ => ?_)
    refine V.if_le (tgt := 24) dX5_finishMacro_11 (by decide) (fun hh => ?_) (fun hh => ?_)
    · refine V.aload_n dX5_finishMacro_24 rfl ?_
      refine V.bipush dX5_finishMacro_25 ⟨by decide, by decide⟩ ?_
      refine V.iconst dX5_finishMacro_27 ⟨by decide, by decide⟩ ?_
      refine V.iconst dX5_finishMacro_28 ⟨by decide, by decide⟩ ?_
      refine V.iconst dX5_finishMacro_29 ⟨by decide, by decide⟩ ?_
      refine V.cV [_, _, _, _] rfl kc_X5_66 rfl dX5_finishMacro_30 (by decide) rfl rfl (sp_X5_append h0 h1) (fun _ => ?_)
      refine V.istore_n (L' := [_, _]) dX5_finishMacro_33 rfl rfl ?_
      refine V.aload_n dX5_finishMacro_34 rfl ?_
      refine V.aload_n dX5_finishMacro_35 rfl ?_
      refine V.cV [] rfl kc_X5_83 rfl dX5_finishMacro_36 (by decide) rfl rfl (sp_X5_unfinishedLine (σ := jApp σ 78 0 0 0) (show 0 ≤ σ 1 9 ∧ σ 1 9 ≤ 80 by omega) (show 0 ≤ σ 1 8 ∧ σ 1 8 ≤ 8 by omega)) (fun _ => ?_)
      rw [e]
      refine V.iload_n dX5_finishMacro_39 rfl ?_
      refine V.cV0 [_, _] rfl kc_X5_87 rfl dX5_finishMacro_40 (by decide) rfl rfl (sp_X5_pair hg.1 hg.2 h1) ?_
      refine V.aload_n dX5_finishMacro_43 rfl ?_
      refine V.iconst dX5_finishMacro_44 ⟨by decide, by decide⟩ ?_
      refine V.putI fa_X5_44 (by decide) rfl dX5_finishMacro_45 (Or.inr (by first | exact Or.inl rfl | exact Or.inr rfl)) ?_
      refine V.aload_n dX5_finishMacro_48 rfl ?_
      refine V.getI fa_X5_37 (by decide) rfl dX5_finishMacro_49 (fun _ => ?_)
      refine V.iconst dX5_finishMacro_52 ⟨by decide, by decide⟩ ?_
      refine V.isub dX5_finishMacro_53 ⟨(by first | omega | (show _ ≤ σ 1 8 - 1; omega) | (show σ 1 8 - 1 ≤ _; omega)), (by first | omega | (show _ ≤ σ 1 8 - 1; omega) | (show σ 1 8 - 1 ≤ _; omega))⟩ ?_
      exact V.iret (jret_i dX5_finishMacro_54 rfl) ⟨rfl, rfl⟩
    · exact absurd hh (by omega)
theorem sp_X5_finishMacroU {σ : JM} (hu : σ 1 10 = 0 ∨ 0 < σ 1 9) : JSp mX5_finishMacro 9 1 [(2, 1)] σ jnr (jxx "java/lang/UnsupportedOperationException" σ) := by
  refine JSp.of [(2, 1), (9, 0)] rfl (by decide +kernel) rfl rfl rfl (fun l E hA => ?_)
  refine V.aload_n dX5_finishMacro_0 rfl ?_
  refine V.getI fa_X5_44 (by decide) rfl dX5_finishMacro_1 (fun _ => ?_)
  refine V.if_eq (tgt := 14) dX5_finishMacro_4 (by decide) (fun h4 => ?_) (fun h4 => ?_)
  · exact V.throw tt_X5_finishMacro_14 rfl (by decide) ⟨rfl, rfl⟩ dX5_finishMacro_14 dX5_finishMacro_17 dX5_finishMacro_18 dX5_finishMacro_20 dX5_finishMacro_23
  · refine V.aload_n dX5_finishMacro_7 rfl ?_
    refine V.getI fa_X5_48 (by decide) rfl dX5_finishMacro_8 (fun _ => ?_)
    refine V.if_le (tgt := 24) dX5_finishMacro_11 (by decide) (fun hh => ?_) (fun hh => ?_)
    · exact absurd hh (by omega)
    · exact V.throw tt_X5_finishMacro_14 rfl (by decide) ⟨rfl, rfl⟩ dX5_finishMacro_14 dX5_finishMacro_17 dX5_finishMacro_18 dX5_finishMacro_20 dX5_finishMacro_23
theorem sp_X5_finishMacroX {σ : JM} (h1 : 80 ≤ σ 1 7) (h2 : σ 1 9 = 0) (h3 : σ 1 10 ≠ 0) : JSp mX5_finishMacro 9 1 [(2, 1)] σ jnr (jxx "java/lang/IllegalStateException" σ) := by
  refine JSp.of [(2, 1), (9, 0)] rfl (by decide +kernel) rfl rfl rfl (fun l E hA => ?_)
  refine V.aload_n dX5_finishMacro_0 rfl ?_
  refine V.getI fa_X5_44 (by decide) rfl dX5_finishMacro_1 (fun _ => ?_)
  refine V.if_eq (tgt := 14) dX5_finishMacro_4 (by decide) (fun hh => ?_) (fun hh => ?_)
  · exact absurd hh h3
  · refine V.aload_n dX5_finishMacro_7 rfl ?_
    refine V.getI fa_X5_48 (by decide) rfl dX5_finishMacro_8 (fun _ => ?_)
    refine V.if_le (tgt := 24) dX5_finishMacro_11 (by decide) (fun hh => ?_) (fun hh => ?_)
    · refine V.aload_n dX5_finishMacro_24 rfl ?_
      refine V.bipush dX5_finishMacro_25 ⟨by decide, by decide⟩ ?_
      refine V.iconst dX5_finishMacro_27 ⟨by decide, by decide⟩ ?_
      refine V.iconst dX5_finishMacro_28 ⟨by decide, by decide⟩ ?_
      refine V.iconst dX5_finishMacro_29 ⟨by decide, by decide⟩ ?_
      exact V.cX [_, _, _, _] rfl kc_X5_66 rfl dX5_finishMacro_30 (by decide) rfl rfl (by decide) (sp_X5_appendX h1)
    · exact absurd hh (by omega)
def jClr (σ : JM) : JM := jset (jset (jset (jset σ 1 7 0) 1 8 0) 1 9 0) 1 10 0
theorem sp_X5_removeAll {σ : JM} : JSp mX5_removeAll 0 0 [(2, 1)] σ (jrv (σ 1 7) (jClr σ)) jno := by
  refine JSp.of [(2, 1), (9, 0)] rfl (by decide +kernel) rfl rfl rfl (fun l E hA => ?_)
  refine V.aload_n dX5_removeAll_0 rfl ?_
  refine V.getI fa_X5_33 (by decide) rfl dX5_removeAll_1 (fun _ => ?_)
  refine V.istore_n (L' := [_, _]) dX5_removeAll_4 rfl rfl ?_
  refine V.aload_n dX5_removeAll_5 rfl ?_
  refine V.iconst dX5_removeAll_6 ⟨by decide, by decide⟩ ?_
  refine V.putI fa_X5_33 (by decide) rfl dX5_removeAll_7 (Or.inl rfl) ?_
  refine V.aload_n dX5_removeAll_10 rfl ?_
  refine V.iconst dX5_removeAll_11 ⟨by decide, by decide⟩ ?_
  refine V.putI fa_X5_37 (by decide) rfl dX5_removeAll_12 (Or.inl rfl) ?_
  refine V.aload_n dX5_removeAll_15 rfl ?_
  refine V.iconst dX5_removeAll_16 ⟨by decide, by decide⟩ ?_
  refine V.putI fa_X5_48 (by decide) rfl dX5_removeAll_17 (Or.inl rfl) ?_
  refine V.aload_n dX5_removeAll_20 rfl ?_
  refine V.iconst dX5_removeAll_21 ⟨by decide, by decide⟩ ?_
  refine V.putI fa_X5_44 (by decide) rfl dX5_removeAll_22 (Or.inr (by first | exact Or.inl rfl | exact Or.inr rfl)) ?_
  refine V.iload_n dX5_removeAll_25 rfl ?_
  exact V.iret (jret_i dX5_removeAll_26 rfl) ⟨rfl, rfl⟩
/-- how often the lines of a group are expanded -/
def jrnd (σ : JM) (x a b : Int) : Int := if jat σ 8 80 x = 76 then jvo (jat σ 9 80 x) a b else if jat σ 8 80 x = 87 then (if jvo (jat σ 9 80 x) a b = jvo (jat σ 10 80 x) a b then 1 else 0) else 1
theorem sp_X5_rounds {σ : JM} {x a b : Int} : JSp mX5_rounds 2 0 [(2, 1), (0, x), (0, a), (0, b)] σ (jrv (jrnd σ x a b) σ) jno := by
  refine JSp.of [(2, 1), (0, x), (0, a), (0, b), (9, 0), (9, 0)] rfl (by decide +kernel) rfl rfl rfl (fun l E hA => ?_)
  refine V.aload_n dX5_rounds_0 rfl ?_
  refine V.iload_n dX5_rounds_1 rfl ?_
  refine V.cV [_] rfl kc_X5_100 rfl dX5_rounds_2 (by decide) rfl rfl (sp_X5_first) (fun _ => ?_)
  refine V.iload_n dX5_rounds_5 rfl ?_
  refine V.iload_n dX5_rounds_6 rfl ?_
  refine V.cN [_, _, _] rfl kc_X5_103 dX5_rounds_7 (by decide) rfl rfl (sp_X6_valueOfOperand) (fun _ => ?_)
  refine V.istore (L' := [_, _, _, _, _, _]) dX5_rounds_10 rfl rfl ?_
  refine V.aload_n dX5_rounds_12 rfl ?_
  refine V.iload_n dX5_rounds_13 rfl ?_
  refine V.cV [_] rfl kc_X5_107 rfl dX5_rounds_14 (by decide) rfl rfl (sp_X5_second) (fun _ => ?_)
  refine V.iload_n dX5_rounds_17 rfl ?_
  refine V.iload_n dX5_rounds_18 rfl ?_
  refine V.cN [_, _, _] rfl kc_X5_103 dX5_rounds_19 (by decide) rfl rfl (sp_X6_valueOfOperand) (fun _ => ?_)
  refine V.istore (L' := [_, _, _, _, _, _]) dX5_rounds_22 rfl rfl ?_
  refine V.aload_n dX5_rounds_24 rfl ?_
  refine V.iload_n dX5_rounds_25 rfl ?_
  refine V.cV [_] rfl kc_X5_110 rfl dX5_rounds_26 (by decide) rfl rfl (sp_X5_kind) (fun _ => ?_)
  by_cases h76 : jat σ 8 80 x = 76
  · rw [h76]
    refine V.lookup (tgt := 56) dX5_rounds_29 (by decide) (off := 27) (by decide) (by decide) ?_
    refine V.iload dX5_rounds_56 rfl ?_
    exact V.iret (jret_i dX5_rounds_58 rfl) ⟨jsm (by simp_all [jrnd]), rfl⟩
  by_cases h87 : jat σ 8 80 x = 87
  · rw [h87]
    refine V.lookup (tgt := 59) dX5_rounds_29 (by decide) (off := 30) (by decide) (by decide) ?_
    refine V.iload dX5_rounds_59 rfl ?_
    refine V.iload dX5_rounds_61 rfl ?_
    refine V.icmp_ne (tgt := 70) dX5_rounds_63 (by decide) (fun h63 => ?_) (fun h63 => ?_)
    · refine V.iconst dX5_rounds_70 ⟨by decide, by decide⟩ ?_
      exact V.iret (jret_i dX5_rounds_71 rfl) ⟨jsm (by simp_all [jrnd]), rfl⟩
    · refine V.iconst dX5_rounds_66 ⟨by decide, by decide⟩ ?_
      refine V.goto (tgt := 71) dX5_rounds_67 (by decide) ?_
      exact V.iret (jret_i dX5_rounds_71 rfl) ⟨jsm (by simp_all [jrnd]), rfl⟩
  refine V.lookup (tgt := 72) dX5_rounds_29 (by decide) (off := 43) (by simp [Op.lookupswitch.offset, Ne.symm h76, Ne.symm h87]) (by decide) ?_
  refine V.iconst dX5_rounds_72 ⟨by decide, by decide⟩ ?_
  exact V.iret (jret_i dX5_rounds_73 rfl) ⟨jsm (by simp_all [jrnd]), rfl⟩
abbrev jended (σ : JM) (m : Int) : Prop := 0 ≤ m ∧ m < (if σ 1 10 ≠ 0 then σ 1 8 - 1 else σ 1 8)
theorem sp_X5_isEndedMacro {σ : JM} {m : Int} (h8 : 0 ≤ σ 1 8 ∧ σ 1 8 ≤ 8) : JSp mX5_isEndedMacro 0 0 [(2, 1), (0, m)] σ (jrv (if jended σ m then 1 else 0) σ) jno := by
  refine JSp.of [(2, 1), (0, m), (9, 0)] rfl (by decide +kernel) rfl rfl rfl (fun l E hA => ?_)
  refine V.aload_n dX5_isEndedMacro_0 rfl ?_
  refine V.getI fa_X5_44 (by decide) rfl dX5_isEndedMacro_1 (fun _ => ?_)
  refine V.if_eq (tgt := 16) dX5_isEndedMacro_4 (by decide) (fun h4 => ?_) (fun h4 => ?_)
  · refine V.aload_n dX5_isEndedMacro_16 rfl ?_
    refine V.getI fa_X5_37 (by decide) rfl dX5_isEndedMacro_17 (fun _ => ?_)
    refine V.istore_n (L' := [_, _, _]) dX5_isEndedMacro_20 rfl rfl ?_
    refine V.iload_n dX5_isEndedMacro_21 rfl ?_
    refine V.if_lt (tgt := 34) dX5_isEndedMacro_22 (by decide) (fun h22 => ?_) (fun h22 => ?_)
    · refine V.iconst dX5_isEndedMacro_34 ⟨by decide, by decide⟩ ?_
      exact V.iret (jret_z dX5_isEndedMacro_35 rfl (by decide)) ⟨jsm (by unfold jended; simp_all <;> omega), rfl⟩
    · refine V.iload_n dX5_isEndedMacro_25 rfl ?_
      refine V.iload_n dX5_isEndedMacro_26 rfl ?_
      refine V.icmp_ge (tgt := 34) dX5_isEndedMacro_27 (by decide) (fun h27 => ?_) (fun h27 => ?_)
      · refine V.iconst dX5_isEndedMacro_34 ⟨by decide, by decide⟩ ?_
        exact V.iret (jret_z dX5_isEndedMacro_35 rfl (by decide)) ⟨jsm (by unfold jended; simp_all <;> omega), rfl⟩
      · refine V.iconst dX5_isEndedMacro_30 ⟨by decide, by decide⟩ ?_
        refine V.goto (tgt := 35) dX5_isEndedMacro_31 (by decide) ?_
        exact V.iret (jret_z dX5_isEndedMacro_35 rfl (by decide)) ⟨jsm (by unfold jended; simp_all <;> omega), rfl⟩
  · refine V.aload_n dX5_isEndedMacro_7 rfl ?_
    refine V.getI fa_X5_37 (by decide) rfl dX5_isEndedMacro_8 (fun _ => ?_)
    refine V.iconst dX5_isEndedMacro_11 ⟨by decide, by decide⟩ ?_
    refine V.isub dX5_isEndedMacro_12 ⟨(by omega), (by omega)⟩ ?_
    refine V.goto (tgt := 20) dX5_isEndedMacro_13 (by decide) ?_
    refine V.istore_n (L' := [_, _, _]) dX5_isEndedMacro_20 rfl rfl ?_
    refine V.iload_n dX5_isEndedMacro_21 rfl ?_
    refine V.if_lt (tgt := 34) dX5_isEndedMacro_22 (by decide) (fun h22 => ?_) (fun h22 => ?_)
    · refine V.iconst dX5_isEndedMacro_34 ⟨by decide, by decide⟩ ?_
      exact V.iret (jret_z dX5_isEndedMacro_35 rfl (by decide)) ⟨jsm (by unfold jended; simp_all <;> omega), rfl⟩
    · refine V.iload_n dX5_isEndedMacro_25 rfl ?_
      refine V.iload_n dX5_isEndedMacro_26 rfl ?_
      refine V.icmp_ge (tgt := 34) dX5_isEndedMacro_27 (by decide) (fun h27 => ?_) (fun h27 => ?_)
      · refine V.iconst dX5_isEndedMacro_34 ⟨by decide, by decide⟩ ?_
        exact V.iret (jret_z dX5_isEndedMacro_35 rfl (by decide)) ⟨jsm (by unfold jended; simp_all <;> omega), rfl⟩
      · refine V.iconst dX5_isEndedMacro_30 ⟨by decide, by decide⟩ ?_
        refine V.goto (tgt := 35) dX5_isEndedMacro_31 (by decide) ?_
        exact V.iret (jret_z dX5_isEndedMacro_35 rfl (by decide)) ⟨jsm (by unfold jended; simp_all <;> omega), rfl⟩
