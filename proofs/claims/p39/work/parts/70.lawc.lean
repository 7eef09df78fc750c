section LAW2
variable {l : Launch} {E : JE} {nn : Nat} {q nm k n kd m a : Int} {l9 l10 l11 l12 l13 l14 l15 l16 : JV} {σ : JM}
/-- the head of the law's first loop -/
def jLw (l : Launch) (E : JE) (N : Nat) (q nm n : Int) : Prop := ∀ (nn : Nat) (l9 l10 l11 l12 l13 l14 l15 l16 : JV) (σ : JM), N ≤ nn → jINV 1 σ → V l E mL_law 60 nn jQt jno 37 [(7, q), (2, 0), (0, nm), (0, 1 + 2 * n), (0, σ 1 9), (0, σ 1 10), (0, 1), (2, 7), (0, n), l9, l10, l11, l12, l13, l14, l15, l16] [] σ
/-- every eleventh time: assembled and looked at -/
theorem la_730 {τ : JM} {r : Int} (hT : jINV 1 τ) (hn : 0 ≤ n ∧ n < 60) {N : Nat} (hN : N + 230 ≤ nn) (kk : jLw l E N q nm (n + 1)) : V l E mL_law 60 nn jQt jno 730 [(7, q), (2, 0), (0, nm), (0, 1 + 2 * (n + 1)), (0, τ 1 9), (0, τ 1 10), (0, 1), (2, 7), (0, n), l9, l10, l11, l12, l13, l14, (0, r), l16] [] τ := by
  have op := jI.op hT
  refine V.iload dL_law_730 rfl ?_
  refine V.bipush dL_law_732 ⟨by decide, by decide⟩ ?_
  refine V.irem dL_law_734 (by omega) (by decide) ?_
  refine V.bipush dL_law_735 ⟨by decide, by decide⟩ ?_
  refine V.icmp_ne (tgt := 784) dL_law_737 (by decide) (fun h737 => ?_) (fun h737 => ?_)
  · refine V.iinc (L' := [_, _, _, _, _, _, _, _, _, _, _, _, _, _, _, _, _]) dL_law_784 rfl ⟨by omega, by omega⟩ rfl ?_
    refine V.goto (tgt := 37) dL_law_787 (by decide) ?_
    exact kk _ _ _ _ _ _ _ _ _ τ (by omega) hT
  · refine V.aload_n dL_law_740 rfl ?_
    refine V.callV [] rfl kc_L_179 rfl dL_law_741 (d' := 7) (by decide) (Nat.zero_le _) rfl (fun _ _ => sp_X6_assemble op.2.2.2.1 op.2.2.1 (fun z => ⟨⟨hT.1.sc (by have := hT.1.unf.1.mp z; omega) (by have := hT.1.unf.1.mp z; omega), hT.1.wf (by have := hT.1.unf.1.mp z; omega) (by have := hT.1.unf.1.mp z; omega)⟩, hT.2.2.1⟩)) rfl (fun v w qa hv => ?_) (fun X t hx => hx.elim)
    have AS := as_all hT qa
    have cw := jcA_w qa
    obtain ⟨hI, AS⟩ := AS
    have w9 : w 1 9 = τ 1 9 := cw 1 9 (by omega)
    have w10 : w 1 10 = τ 1 10 := cw 1 10 (by omega)
    have ow := jI.op hI
    rcases AS with ⟨rfl, fl⟩ | ⟨rfl, wh⟩
    · refine V.istore (L' := [_, _, _, _, _, _, _, _, _, _, _, _, _, _, _, _, _]) dL_law_744 rfl rfl ?_
      refine V.iload dL_law_746 rfl ?_
      refine V.iload dL_law_748 rfl ?_
      refine V.if_ge (tgt := 775) dL_law_750 (by decide) (fun hh => ?_) (fun hh => ?_)
      · exfalso; omega
      · refine V.aload_n dL_law_753 rfl ?_
        refine V.iload dL_law_754 rfl ?_
        refine V.if_ne (tgt := 764) dL_law_756 (by decide) (fun h756 => ?_) (fun h756 => ?_)
        · refine V.iconst dL_law_764 ⟨by decide, by decide⟩ ?_
          refine V.goto (tgt := 769) dL_law_765 (by decide) ?_
          refine V.callS [_, _] rfl kc_L_182 dL_law_769 (d' := 12) (by decide) (by omega) rfl (fun _ _ => sp_L_isFault fl hI.2.2.2.2.1.2 (by have := ow.1; omega)) rfl (fun v t q2 hv => ?_) (fun X t hx => hx.elim)
          obtain ⟨rfl, ht⟩ := q2
          rw [ht]
          refine V.goto (tgt := 781) dL_law_772 (by decide) ?_
          refine V.iandB dL_law_781 (Or.inr rfl) (Or.inr rfl) ?_
          rw [if_pos ⟨rfl, rfl⟩]
          refine V.istore (L' := [_, _, _, _, _, _, _, _, _, _, _, _, _, _, _, _, _]) dL_law_782 rfl rfl ?_
          refine V.iinc (L' := [_, _, _, _, _, _, _, _, _, _, _, _, _, _, _, _, _]) dL_law_784 rfl ⟨by omega, by omega⟩ rfl ?_
          refine V.goto (tgt := 37) dL_law_787 (by decide) ?_
          rw [← w9, ← w10]
          exact kk _ _ _ _ _ _ _ _ _ w (by omega) hI
        · refine V.iload dL_law_759 rfl ?_
          refine V.if_le (tgt := 768) dL_law_761 (by decide) (fun h761 => ?_) (fun h761 => ?_)
          · refine V.iconst dL_law_768 ⟨by decide, by decide⟩ ?_
            refine V.callS [_, _] rfl kc_L_182 dL_law_769 (d' := 12) (by decide) (by omega) rfl (fun _ _ => sp_L_isFault fl hI.2.2.2.2.1.2 (by have := ow.1; omega)) rfl (fun v t q2 hv => ?_) (fun X t hx => hx.elim)
            obtain ⟨rfl, ht⟩ := q2
            rw [ht]
            refine V.goto (tgt := 781) dL_law_772 (by decide) ?_
            refine V.iandB dL_law_781 (Or.inr rfl) (Or.inr rfl) ?_
            rw [if_pos ⟨rfl, rfl⟩]
            refine V.istore (L' := [_, _, _, _, _, _, _, _, _, _, _, _, _, _, _, _, _]) dL_law_782 rfl rfl ?_
            refine V.iinc (L' := [_, _, _, _, _, _, _, _, _, _, _, _, _, _, _, _, _]) dL_law_784 rfl ⟨by omega, by omega⟩ rfl ?_
            refine V.goto (tgt := 37) dL_law_787 (by decide) ?_
            rw [← w9, ← w10]
            exact kk _ _ _ _ _ _ _ _ _ w (by omega) hI
          · refine V.iconst dL_law_764 ⟨by decide, by decide⟩ ?_
            refine V.goto (tgt := 769) dL_law_765 (by decide) ?_
            refine V.callS [_, _] rfl kc_L_182 dL_law_769 (d' := 12) (by decide) (by omega) rfl (fun _ _ => sp_L_isFault fl hI.2.2.2.2.1.2 (by have := ow.1; omega)) rfl (fun v t q2 hv => ?_) (fun X t hx => hx.elim)
            obtain ⟨rfl, ht⟩ := q2
            rw [ht]
            refine V.goto (tgt := 781) dL_law_772 (by decide) ?_
            refine V.iandB dL_law_781 (Or.inr rfl) (Or.inr rfl) ?_
            rw [if_pos ⟨rfl, rfl⟩]
            refine V.istore (L' := [_, _, _, _, _, _, _, _, _, _, _, _, _, _, _, _, _]) dL_law_782 rfl rfl ?_
            refine V.iinc (L' := [_, _, _, _, _, _, _, _, _, _, _, _, _, _, _, _, _]) dL_law_784 rfl ⟨by omega, by omega⟩ rfl ?_
            refine V.goto (tgt := 37) dL_law_787 (by decide) ?_
            rw [← w9, ← w10]
            exact kk _ _ _ _ _ _ _ _ _ w (by omega) hI
    · refine V.istore (L' := [_, _, _, _, _, _, _, _, _, _, _, _, _, _, _, _, _]) dL_law_744 rfl rfl ?_
      refine V.iload dL_law_746 rfl ?_
      refine V.iload dL_law_748 rfl ?_
      refine V.if_ge (tgt := 775) dL_law_750 (by decide) (fun hh => ?_) (fun hh => ?_)
      · refine V.aload_n dL_law_775 rfl ?_
        refine V.iload dL_law_776 rfl ?_
        refine V.callS [_, _] rfl kc_L_186 dL_law_778 (d' := 40) (by decide) (by omega) rfl (fun _ _ => sp_L_isWhole hI (by decide) wh) rfl (fun v t q2 hv => ?_) (fun X t hx => hx.elim)
        obtain ⟨rfl, It, kt⟩ := q2
        refine V.iandB dL_law_781 (Or.inr rfl) (Or.inr rfl) ?_
        rw [if_pos ⟨rfl, rfl⟩]
        refine V.istore (L' := [_, _, _, _, _, _, _, _, _, _, _, _, _, _, _, _, _]) dL_law_782 rfl rfl ?_
        refine V.iinc (L' := [_, _, _, _, _, _, _, _, _, _, _, _, _, _, _, _, _]) dL_law_784 rfl ⟨by omega, by omega⟩ rfl ?_
        refine V.goto (tgt := 37) dL_law_787 (by decide) ?_
        rw [← show t 1 9 = τ 1 9 from (kt 1 9 (by decide)).trans w9, ← show t 1 10 = τ 1 10 from (kt 1 10 (by decide)).trans w10]
        exact kk _ _ _ _ _ _ _ _ _ t (by omega) It
      · exfalso; have := wh.w1; omega
theorem la_636 {τ : JM} {r : Int} (hT : jTold σ τ kd r) (hn : 0 ≤ n ∧ n < 60) {N : Nat} (hN : N + 240 ≤ nn) (kk : jLw l E N q nm (n + 1)) : V l E mL_law 60 nn jQt jno 636 [(7, q), (2, 0), (0, nm), (0, 1 + 2 * n), (0, τ 1 9), (0, τ 1 10), (0, 1), (2, 7), (0, n), (0, σ 1 7), (0, σ 1 8), (0, jsmv σ), (0, kd), (0, m), (0, a), (0, r), l16] [] τ := by
  have op := jI.op hT.1
  have sm := hT.2.1.sum
  have ek : 1 + 2 * n + 2 = 1 + 2 * (n + 1) := by omega
  have h3 := hT.2.2
  refine V.iinc (L' := [_, _, _, _, _, _, _, _, _, _, _, _, _, _, _, _, _]) dL_law_636 rfl ⟨by omega, by omega⟩ rfl ?_
  rw [ek]
  refine V.iload dL_law_639 rfl ?_
  refine V.iload dL_law_641 rfl ?_
  refine V.if_ge (tgt := 681) dL_law_643 (by decide) (fun h643 => ?_) (fun h643 => ?_)
  · refine V.aload_n dL_law_681 rfl ?_
    refine V.cV [] rfl kc_L_140 rfl dL_law_682 (by decide) rfl rfl (sp_X6_lines) (fun _ => ?_)
    refine V.iload dL_law_685 rfl ?_
    refine V.iconst dL_law_687 ⟨by decide, by decide⟩ ?_
    refine V.iadd dL_law_688 ⟨by omega, by omega⟩ ?_
    refine V.icmp_ne (tgt := 726) dL_law_689 (by decide) (fun hh => ?_) (fun hh => ?_)
    · exfalso; omega
    · refine V.iload dL_law_692 rfl ?_
      refine V.bipush dL_law_694 ⟨by decide, by decide⟩ ?_
      refine V.icmp_eq (tgt := 713) dL_law_696 (by decide) (fun h696 => ?_) (fun h696 => ?_)
      · refine V.aload_n dL_law_713 rfl ?_
        refine V.callS [_] rfl kc_L_146 dL_law_714 (d' := 12) (by decide) (by omega) rfl (fun _ _ => sp_L_sum hT.1.2.2.2.2) rfl (fun v t q2 hv => ?_) (fun X t hx => hx.elim)
        obtain ⟨rfl, ht⟩ := q2
        rw [ht]
        rw [sm]
        refine V.iload dL_law_717 rfl ?_
        refine V.icmp_ne (tgt := 726) dL_law_719 (by decide) (fun hh => ?_) (fun hh => ?_)
        · exact absurd rfl hh
        · refine V.iconst dL_law_722 ⟨by decide, by decide⟩ ?_
          refine V.goto (tgt := 727) dL_law_723 (by decide) ?_
          refine V.iandB dL_law_727 (Or.inr rfl) (Or.inr rfl) ?_
          rw [if_pos ⟨rfl, rfl⟩]
          refine V.istore (L' := [_, _, _, _, _, _, _, _, _, _, _, _, _, _, _, _, _]) dL_law_728 rfl rfl ?_
          exact la_730 hT.1 hn (by omega) kk
      · refine V.iload dL_law_699 rfl ?_
        refine V.bipush dL_law_701 ⟨by decide, by decide⟩ ?_
        refine V.icmp_eq (tgt := 713) dL_law_703 (by decide) (fun h703 => ?_) (fun h703 => ?_)
        · refine V.aload_n dL_law_713 rfl ?_
          refine V.callS [_] rfl kc_L_146 dL_law_714 (d' := 12) (by decide) (by omega) rfl (fun _ _ => sp_L_sum hT.1.2.2.2.2) rfl (fun v t q2 hv => ?_) (fun X t hx => hx.elim)
          obtain ⟨rfl, ht⟩ := q2
          rw [ht]
          rw [sm]
          refine V.iload dL_law_717 rfl ?_
          refine V.icmp_ne (tgt := 726) dL_law_719 (by decide) (fun hh => ?_) (fun hh => ?_)
          · exact absurd rfl hh
          · refine V.iconst dL_law_722 ⟨by decide, by decide⟩ ?_
            refine V.goto (tgt := 727) dL_law_723 (by decide) ?_
            refine V.iandB dL_law_727 (Or.inr rfl) (Or.inr rfl) ?_
            rw [if_pos ⟨rfl, rfl⟩]
            refine V.istore (L' := [_, _, _, _, _, _, _, _, _, _, _, _, _, _, _, _, _]) dL_law_728 rfl rfl ?_
            exact la_730 hT.1 hn (by omega) kk
        · refine V.iload dL_law_706 rfl ?_
          refine V.iload dL_law_708 rfl ?_
          refine V.icmp_ne (tgt := 726) dL_law_710 (by decide) (fun hh => ?_) (fun hh => ?_)
          · exfalso; omega
          · refine V.aload_n dL_law_713 rfl ?_
            refine V.callS [_] rfl kc_L_146 dL_law_714 (d' := 12) (by decide) (by omega) rfl (fun _ _ => sp_L_sum hT.1.2.2.2.2) rfl (fun v t q2 hv => ?_) (fun X t hx => hx.elim)
            obtain ⟨rfl, ht⟩ := q2
            rw [ht]
            rw [sm]
            refine V.iload dL_law_717 rfl ?_
            refine V.icmp_ne (tgt := 726) dL_law_719 (by decide) (fun hh => ?_) (fun hh => ?_)
            · exact absurd rfl hh
            · refine V.iconst dL_law_722 ⟨by decide, by decide⟩ ?_
              refine V.goto (tgt := 727) dL_law_723 (by decide) ?_
              refine V.iandB dL_law_727 (Or.inr rfl) (Or.inr rfl) ?_
              rw [if_pos ⟨rfl, rfl⟩]
              refine V.istore (L' := [_, _, _, _, _, _, _, _, _, _, _, _, _, _, _, _, _]) dL_law_728 rfl rfl ?_
              exact la_730 hT.1 hn (by omega) kk
  · refine V.aload_n dL_law_646 rfl ?_
    refine V.cV [] rfl kc_L_140 rfl dL_law_647 (by decide) rfl rfl (sp_X6_lines) (fun _ => ?_)
    refine V.iload dL_law_650 rfl ?_
    refine V.icmp_ne (tgt := 677) dL_law_652 (by decide) (fun hh => ?_) (fun hh => ?_)
    · exfalso; omega
    · refine V.aload_n dL_law_655 rfl ?_
      refine V.cV [] rfl kc_L_143 rfl dL_law_656 (by decide) rfl rfl (sp_X6_macros) (fun _ => ?_)
      refine V.iload dL_law_659 rfl ?_
      refine V.icmp_ne (tgt := 677) dL_law_661 (by decide) (fun hh => ?_) (fun hh => ?_)
      · exfalso; omega
      · refine V.aload_n dL_law_664 rfl ?_
        refine V.callS [_] rfl kc_L_146 dL_law_665 (d' := 12) (by decide) (by omega) rfl (fun _ _ => sp_L_sum hT.1.2.2.2.2) rfl (fun v t q2 hv => ?_) (fun X t hx => hx.elim)
        obtain ⟨rfl, ht⟩ := q2
        rw [ht]
        rw [sm]
        refine V.iload dL_law_668 rfl ?_
        refine V.icmp_ne (tgt := 677) dL_law_670 (by decide) (fun hh => ?_) (fun hh => ?_)
        · exact absurd rfl hh
        · refine V.iconst dL_law_673 ⟨by decide, by decide⟩ ?_
          refine V.goto (tgt := 727) dL_law_674 (by decide) ?_
          refine V.iandB dL_law_727 (Or.inr rfl) (Or.inr rfl) ?_
          rw [if_pos ⟨rfl, rfl⟩]
          refine V.istore (L' := [_, _, _, _, _, _, _, _, _, _, _, _, _, _, _, _, _]) dL_law_728 rfl rfl ?_
          exact la_730 hT.1 hn (by omega) kk
theorem la_37 (hL : E.2.2.2.2.1 ≤ 2048) (hnm : 1 ≤ nm ∧ nm ≤ 5) (hI : jINV 1 σ) (hn : 0 ≤ n ∧ n < 60) {N : Nat} (hN : N + 250 ≤ nn) (kk : jLw l E N q nm (n + 1)) : V l E mL_law 60 nn jQt jno 37 [(7, q), (2, 0), (0, nm), (0, 1 + 2 * n), (0, σ 1 9), (0, σ 1 10), (0, 1), (2, 7), (0, n), l9, l10, l11, l12, l13, l14, l15, l16] [] σ := by
  have op := jI.op hI
  refine V.iload dL_law_37 rfl ?_
  refine V.bipush dL_law_39 ⟨by decide, by decide⟩ ?_
  refine V.icmp_ge (tgt := 790) dL_law_41 (by decide) (fun hh => ?_) (fun hh => ?_)
  · exfalso; omega
  · refine V.iload dL_law_44 rfl ?_
    refine V.if_eq (tgt := 790) dL_law_46 (by decide) (fun hh => ?_) (fun hh => ?_)
    · exfalso; omega
    · refine V.aload_n dL_law_49 rfl ?_
      refine V.cV [] rfl kc_L_140 rfl dL_law_50 (by decide) rfl rfl (sp_X6_lines) (fun _ => ?_)
      refine V.istore (L' := [_, _, _, _, _, _, _, _, _, _, _, _, _, _, _, _, _]) dL_law_53 rfl rfl ?_
      refine V.aload_n dL_law_55 rfl ?_
      refine V.cV [] rfl kc_L_143 rfl dL_law_56 (by decide) rfl rfl (sp_X6_macros) (fun _ => ?_)
      refine V.istore (L' := [_, _, _, _, _, _, _, _, _, _, _, _, _, _, _, _, _]) dL_law_59 rfl rfl ?_
      refine V.aload_n dL_law_61 rfl ?_
      refine V.callS [_] rfl kc_L_146 dL_law_62 (d' := 12) (by decide) (by omega) rfl (fun _ _ => sp_L_sum hI.2.2.2.2) rfl (fun v t q2 hv => ?_) (fun X t hx => hx.elim)
      obtain ⟨rfl, ht⟩ := q2
      rw [ht]
      refine V.istore (L' := [_, _, _, _, _, _, _, _, _, _, _, _, _, _, _, _, _]) dL_law_65 rfl rfl ?_
      refine V.aload_s dL_law_67 rfl ?_
      refine V.iload_n dL_law_68 rfl ?_
      refine V.bipush dL_law_69 ⟨by decide, by decide⟩ ?_
      refine V.pick rfl hL kc_L_136 rfl dL_law_71 (by decide) ⟨by omega, by omega⟩ ⟨by decide, by decide⟩ (fun kd kd0 kd1 => ?_)
      refine V.istore (L' := [_, _, _, _, _, _, _, _, _, _, _, _, _, _, _, _, _]) dL_law_74 rfl rfl ?_
      refine V.aload_s dL_law_76 rfl ?_
      refine V.iload_n dL_law_77 rfl ?_
      refine V.iconst dL_law_78 ⟨by decide, by decide⟩ ?_
      refine V.iadd dL_law_79 ⟨by omega, by omega⟩ ?_
      refine V.sipush dL_law_80 ⟨by decide, by decide⟩ ?_
      refine V.pick rfl hL kc_L_136 rfl dL_law_83 (by decide) ⟨by omega, by omega⟩ ⟨by decide, by decide⟩ (fun m m0 m1 => ?_)
      refine V.istore (L' := [_, _, _, _, _, _, _, _, _, _, _, _, _, _, _, _, _]) dL_law_86 rfl rfl ?_
      refine V.iload dL_law_88 rfl ?_
      refine V.if_eq (tgt := 104) dL_law_90 (by decide) (fun h90 => ?_) (fun h90 => ?_)
      · refine V.iload dL_law_104 rfl ?_
        refine V.bipush dL_law_106 ⟨by decide, by decide⟩ ?_
        refine V.irem dL_law_108 (by omega) (by decide) ?_
        refine V.if_ne (tgt := 117) dL_law_109 (by decide) (fun h109 => ?_) (fun h109 => ?_)
        · refine V.iload dL_law_117 rfl ?_
          refine V.iload_n dL_law_119 rfl ?_
          refine V.irem dL_law_120 (by omega) (by omega) ?_
          have b120 := Int.emod_nonneg m (show nm ≠ 0 by omega)
          have c120 := Int.emod_lt_of_pos m (show 0 < nm by omega)
          refine V.istore (L' := [_, _, _, _, _, _, _, _, _, _, _, _, _, _, _, _, _]) dL_law_121 rfl rfl ?_
          refine V.iconst dL_law_123 ⟨by decide, by decide⟩ ?_
          refine V.istore (L' := [_, _, _, _, _, _, _, _, _, _, _, _, _, _, _, _, _]) dL_law_124 rfl rfl ?_
          exact lb_126 (N := N + 240) hI ⟨kd0, kd1⟩ ⟨m0, m1⟩ (by omega) (by omega) (fun nn2 r τ h2 hT => la_636 hT hn h2 kk)
        · refine V.bipush dL_law_112 ⟨by decide, by decide⟩ ?_
          refine V.goto (tgt := 121) dL_law_114 (by decide) ?_
          refine V.istore (L' := [_, _, _, _, _, _, _, _, _, _, _, _, _, _, _, _, _]) dL_law_121 rfl rfl ?_
          refine V.iconst dL_law_123 ⟨by decide, by decide⟩ ?_
          refine V.istore (L' := [_, _, _, _, _, _, _, _, _, _, _, _, _, _, _, _, _]) dL_law_124 rfl rfl ?_
          exact lb_126 (N := N + 240) hI ⟨kd0, kd1⟩ ⟨m0, m1⟩ (by omega) (by omega) (fun nn2 r τ h2 hT => la_636 hT hn h2 kk)
      · refine V.iload dL_law_93 rfl ?_
        refine V.iconst dL_law_95 ⟨by decide, by decide⟩ ?_
        refine V.irem dL_law_96 (by omega) (by decide) ?_
        refine V.if_ne (tgt := 104) dL_law_97 (by decide) (fun h97 => ?_) (fun h97 => ?_)
        · refine V.iload dL_law_104 rfl ?_
          refine V.bipush dL_law_106 ⟨by decide, by decide⟩ ?_
          refine V.irem dL_law_108 (by omega) (by decide) ?_
          refine V.if_ne (tgt := 117) dL_law_109 (by decide) (fun h109 => ?_) (fun h109 => ?_)
          · refine V.iload dL_law_117 rfl ?_
            refine V.iload_n dL_law_119 rfl ?_
            refine V.irem dL_law_120 (by omega) (by omega) ?_
            have b120 := Int.emod_nonneg m (show nm ≠ 0 by omega)
            have c120 := Int.emod_lt_of_pos m (show 0 < nm by omega)
            refine V.istore (L' := [_, _, _, _, _, _, _, _, _, _, _, _, _, _, _, _, _]) dL_law_121 rfl rfl ?_
            refine V.iconst dL_law_123 ⟨by decide, by decide⟩ ?_
            refine V.istore (L' := [_, _, _, _, _, _, _, _, _, _, _, _, _, _, _, _, _]) dL_law_124 rfl rfl ?_
            exact lb_126 (N := N + 240) hI ⟨kd0, kd1⟩ ⟨m0, m1⟩ (by omega) (by omega) (fun nn2 r τ h2 hT => la_636 hT hn h2 kk)
          · refine V.bipush dL_law_112 ⟨by decide, by decide⟩ ?_
            refine V.goto (tgt := 121) dL_law_114 (by decide) ?_
            refine V.istore (L' := [_, _, _, _, _, _, _, _, _, _, _, _, _, _, _, _, _]) dL_law_121 rfl rfl ?_
            refine V.iconst dL_law_123 ⟨by decide, by decide⟩ ?_
            refine V.istore (L' := [_, _, _, _, _, _, _, _, _, _, _, _, _, _, _, _, _]) dL_law_124 rfl rfl ?_
            exact lb_126 (N := N + 240) hI ⟨kd0, kd1⟩ ⟨m0, m1⟩ (by omega) (by omega) (fun nn2 r τ h2 hT => la_636 hT hn h2 kk)
        · refine V.iconst dL_law_100 ⟨by decide, by decide⟩ ?_
          refine V.goto (tgt := 121) dL_law_101 (by decide) ?_
          refine V.istore (L' := [_, _, _, _, _, _, _, _, _, _, _, _, _, _, _, _, _]) dL_law_121 rfl rfl ?_
          refine V.iconst dL_law_123 ⟨by decide, by decide⟩ ?_
          refine V.istore (L' := [_, _, _, _, _, _, _, _, _, _, _, _, _, _, _, _, _]) dL_law_124 rfl rfl ?_
          exact lb_126 (N := N + 240) hI ⟨kd0, kd1⟩ ⟨m0, m1⟩ (by omega) (by omega) (fun nn2 r τ h2 hT => la_636 hT hn h2 kk)
theorem la_all (hL : E.2.2.2.2.1 ≤ 2048) (hnm : 1 ≤ nm ∧ nm ≤ 5) {N : Nat} (fin : ∀ (nn : Nat) (k : Int) (l9 l10 l11 l12 l13 l14 l15 l16 : JV) (σ : JM), N ≤ nn → jINV 1 σ → V l E mL_law 60 nn jQt jno 790 [(7, q), (2, 0), (0, nm), (0, k), (0, σ 1 9), (0, σ 1 10), (0, 1), (2, 7), (0, 60), l9, l10, l11, l12, l13, l14, l15, l16] [] σ) : ∀ (j : Nat) (n : Int), 0 ≤ n → n ≤ 60 → 60 - n < j → jLw l E (N + 250 * (60 - n).toNat) q nm n := by
  intro j
  induction j with
  | zero => intro n h0 h1 h2; omega
  | succ j ih =>
    intro n h0 h1 h2 nn l9 l10 l11 l12 l13 l14 l15 l16 σ hN hI
    by_cases c : n < 60
    · exact la_37 hL hnm hI ⟨h0, c⟩ (N := N + 250 * (60 - (n + 1)).toNat) (by omega) (ih (n + 1) (by omega) (by omega) (by omega))
    · have en : n = 60 := by omega
      subst en
      refine V.iload dL_law_37 rfl ?_
      refine V.bipush dL_law_39 ⟨by decide, by decide⟩ ?_
      refine V.icmp_ge (tgt := 790) dL_law_41 (by decide) (fun hh => ?_) (fun hh => ?_)
      · exact fin _ _ _ _ _ _ _ _ _ _ σ (by omega) hI
      · exfalso; omega
theorem lc_793 {N : Nat} (fin : ∀ (nn : Nat) (l8 l9 l10 l11 l12 l13 l14 l15 l16 : JV) (σ : JM), N ≤ nn → jINV 1 σ → V l E mL_law 60 nn jQt jno 894 [(7, q), (2, 0), (0, nm), (0, k), (0, σ 1 9), (0, σ 1 10), (0, 1), (2, 7), l8, l9, l10, l11, l12, l13, l14, l15, l16] [] σ) : ∀ (j : Nat) (n : Int) (nn : Nat) (l9 l10 l11 l12 l13 l14 l15 l16 : JV) (σ : JM), 0 ≤ n → n ≤ 90 → 90 - n < j → N + (90 - n).toNat ≤ nn → jINV 1 σ → V l E mL_law 60 nn jQt jno 793 [(7, q), (2, 0), (0, nm), (0, k), (0, σ 1 9), (0, σ 1 10), (0, 1), (2, 7), (0, n), l9, l10, l11, l12, l13, l14, l15, l16] [] σ := by
  intro j
  induction j with
  | zero => intro n nn l9 l10 l11 l12 l13 l14 l15 l16 σ h0 h1 h2 h3 hI; omega
  | succ j ih =>
    intro n nn l9 l10 l11 l12 l13 l14 l15 l16 σ h0 h1 h2 h3 hI
    have op := jI.op hI
    by_cases dp : 0 < σ 1 9
    · refine V.iload dL_law_793 rfl ?_
      refine V.bipush dL_law_795 ⟨by decide, by decide⟩ ?_
      refine V.icmp_ge (tgt := 894) dL_law_797 (by decide) (fun h797 => ?_) (fun h797 => ?_)
      · exact fin _ _ _ _ _ _ _ _ _ _ σ (by omega) hI
      · refine V.iload dL_law_800 rfl ?_
        refine V.iload dL_law_802 rfl ?_
        refine V.if_le (tgt := 811) dL_law_804 (by decide) (fun h804 => ?_) (fun h804 => ?_)
        · exfalso; omega
        · refine V.iconst dL_law_807 ⟨by decide, by decide⟩ ?_
          refine V.goto (tgt := 812) dL_law_808 (by decide) ?_
          refine V.iorB dL_law_812 op.2.2.2.2 (by decide) ?_
          rw [if_pos (Or.inr rfl)]
          refine V.if_eq (tgt := 894) dL_law_813 (by decide) (fun hh => ?_) (fun hh => ?_)
          · exfalso; omega
          · refine V.aload_n dL_law_816 rfl ?_
            refine V.cV [] rfl kc_L_140 rfl dL_law_817 (by decide) rfl rfl (sp_X6_lines) (fun _ => ?_)
            refine V.bipush dL_law_820 ⟨by decide, by decide⟩ ?_
            refine V.icmp_ge (tgt := 894) dL_law_822 (by decide) (fun h822 => ?_) (fun h822 => ?_)
            · exact fin _ _ _ _ _ _ _ _ _ _ σ (by omega) hI
            · refine V.iload dL_law_825 rfl ?_
              refine V.if_le (tgt := 837) dL_law_827 (by decide) (fun h827 => ?_) (fun h827 => ?_)
              · exfalso; omega
              · refine V.aload_n dL_law_830 rfl ?_
                obtain ⟨dL, nL, hd, hn1, QL, hL, hq⟩ := of_end hI
                refine V.callH [_] rfl kc_L_168 dL_law_831 (d' := dL) hd (by omega) rfl (fun _ _ => hL) rfl (fun v t z0 hv => ?_) (fun X t hx => hx.elim)
                obtain ⟨r, rfl, z⟩ := hq v t z0
                rcases z with y | ⟨r1, r2, ac, ρ, gh, Iρ, sm, e7, e8, e9, e10⟩
                · exfalso
                  have := y.2.2
                  omega
                refine V.gh gh ?_
                refine V.goto (tgt := 841) dL_law_834 (by decide) ?_
                refine V.istore (L' := [_, _, _, _, _, _, _, _, _, _, _, _, _, _, _, _, _]) dL_law_841 rfl rfl ?_
                refine V.iload dL_law_843 rfl ?_
                refine V.iload dL_law_845 rfl ?_
                refine V.if_lt (tgt := 854) dL_law_847 (by decide) (fun hh => ?_) (fun hh => ?_)
                · exfalso; omega
                · refine V.iconst dL_law_850 ⟨by decide, by decide⟩ ?_
                  refine V.goto (tgt := 855) dL_law_851 (by decide) ?_
                  refine V.iandB dL_law_855 (Or.inr rfl) (Or.inr rfl) ?_
                  rw [if_pos ⟨rfl, rfl⟩]
                  refine V.istore (L' := [_, _, _, _, _, _, _, _, _, _, _, _, _, _, _, _, _]) dL_law_856 rfl rfl ?_
                  refine V.iload dL_law_858 rfl ?_
                  refine V.iload dL_law_860 rfl ?_
                  refine V.if_le (tgt := 869) dL_law_862 (by decide) (fun h862 => ?_) (fun h862 => ?_)
                  · exfalso; omega
                  · refine V.iconst dL_law_865 ⟨by decide, by decide⟩ ?_
                    refine V.goto (tgt := 870) dL_law_866 (by decide) ?_
                    refine V.iandB dL_law_870 op.2.2.2.2 (by decide) ?_
                    rw [and_1 op.2.2.2.2]
                    refine V.istore (L' := [_, _, _, _, _, _, _, _, _, _, _, _, _, _, _, _, _]) dL_law_871 rfl rfl ?_
                    refine V.iload dL_law_873 rfl ?_
                    refine V.iload dL_law_875 rfl ?_
                    refine V.if_le (tgt := 884) dL_law_877 (by decide) (fun h877 => ?_) (fun h877 => ?_)
                    · exfalso; omega
                    · refine V.iconst dL_law_880 ⟨by decide, by decide⟩ ?_
                      refine V.goto (tgt := 885) dL_law_881 (by decide) ?_
                      refine V.isub dL_law_885 ⟨by omega, by omega⟩ ?_
                      refine V.istore (L' := [_, _, _, _, _, _, _, _, _, _, _, _, _, _, _, _, _]) dL_law_886 rfl rfl ?_
                      refine V.iinc (L' := [_, _, _, _, _, _, _, _, _, _, _, _, _, _, _, _, _]) dL_law_888 rfl ⟨by omega, by omega⟩ rfl ?_
                      refine V.goto (tgt := 793) dL_law_891 (by decide) ?_
                      have key := ih (n + 1) (nn - nL) (0, r) l10 l11 l12 l13 l14 l15 l16 ρ (by omega) (by omega) (by omega) (by omega) Iρ
                      rw [e9, e10] at key
                      exact key
    · refine V.iload dL_law_793 rfl ?_
      refine V.bipush dL_law_795 ⟨by decide, by decide⟩ ?_
      refine V.icmp_ge (tgt := 894) dL_law_797 (by decide) (fun h797 => ?_) (fun h797 => ?_)
      · exact fin _ _ _ _ _ _ _ _ _ _ σ (by omega) hI
      · refine V.iload dL_law_800 rfl ?_
        refine V.iload dL_law_802 rfl ?_
        refine V.if_le (tgt := 811) dL_law_804 (by decide) (fun h804 => ?_) (fun h804 => ?_)
        · refine V.iconst dL_law_811 ⟨by decide, by decide⟩ ?_
          refine V.iorB dL_law_812 op.2.2.2.2 (by decide) ?_
          rw [or_0 op.2.2.2.2]
          refine V.if_eq (tgt := 894) dL_law_813 (by decide) (fun h813 => ?_) (fun h813 => ?_)
          · exact fin _ _ _ _ _ _ _ _ _ _ σ (by omega) hI
          · refine V.aload_n dL_law_816 rfl ?_
            refine V.cV [] rfl kc_L_140 rfl dL_law_817 (by decide) rfl rfl (sp_X6_lines) (fun _ => ?_)
            refine V.bipush dL_law_820 ⟨by decide, by decide⟩ ?_
            refine V.icmp_ge (tgt := 894) dL_law_822 (by decide) (fun h822 => ?_) (fun h822 => ?_)
            · exact fin _ _ _ _ _ _ _ _ _ _ σ (by omega) hI
            · refine V.iload dL_law_825 rfl ?_
              refine V.if_le (tgt := 837) dL_law_827 (by decide) (fun h827 => ?_) (fun h827 => ?_)
              · refine V.aload_n dL_law_837 rfl ?_
                obtain ⟨dL, nL, hd, hn1, QL, hL, hq⟩ := of_endMacro hI
                refine V.callH [_] rfl kc_L_172 dL_law_838 (d' := dL) hd (by omega) rfl (fun _ _ => hL) rfl (fun v t z0 hv => ?_) (fun X t hx => hx.elim)
                obtain ⟨r, rfl, z⟩ := hq v t z0
                rcases z with y | ⟨r1, r2, ac, ρ, gh, Iρ, sm, e7, e8, e9, e10⟩
                · exfalso
                  have := y.2.2
                  omega
                refine V.gh gh ?_
                refine V.istore (L' := [_, _, _, _, _, _, _, _, _, _, _, _, _, _, _, _, _]) dL_law_841 rfl rfl ?_
                refine V.iload dL_law_843 rfl ?_
                refine V.iload dL_law_845 rfl ?_
                refine V.if_lt (tgt := 854) dL_law_847 (by decide) (fun hh => ?_) (fun hh => ?_)
                · exfalso; omega
                · refine V.iconst dL_law_850 ⟨by decide, by decide⟩ ?_
                  refine V.goto (tgt := 855) dL_law_851 (by decide) ?_
                  refine V.iandB dL_law_855 (Or.inr rfl) (Or.inr rfl) ?_
                  rw [if_pos ⟨rfl, rfl⟩]
                  refine V.istore (L' := [_, _, _, _, _, _, _, _, _, _, _, _, _, _, _, _, _]) dL_law_856 rfl rfl ?_
                  refine V.iload dL_law_858 rfl ?_
                  refine V.iload dL_law_860 rfl ?_
                  refine V.if_le (tgt := 869) dL_law_862 (by decide) (fun h862 => ?_) (fun h862 => ?_)
                  · refine V.iconst dL_law_869 ⟨by decide, by decide⟩ ?_
                    refine V.iandB dL_law_870 op.2.2.2.2 (by decide) ?_
                    rw [if_neg (fun z => absurd z.2 (by decide))]
                    refine V.istore (L' := [_, _, _, _, _, _, _, _, _, _, _, _, _, _, _, _, _]) dL_law_871 rfl rfl ?_
                    refine V.iload dL_law_873 rfl ?_
                    refine V.iload dL_law_875 rfl ?_
                    refine V.if_le (tgt := 884) dL_law_877 (by decide) (fun h877 => ?_) (fun h877 => ?_)
                    · refine V.iconst dL_law_884 ⟨by decide, by decide⟩ ?_
                      refine V.isub dL_law_885 ⟨by omega, by omega⟩ ?_
                      rw [Int.sub_zero]
                      refine V.istore (L' := [_, _, _, _, _, _, _, _, _, _, _, _, _, _, _, _, _]) dL_law_886 rfl rfl ?_
                      refine V.iinc (L' := [_, _, _, _, _, _, _, _, _, _, _, _, _, _, _, _, _]) dL_law_888 rfl ⟨by omega, by omega⟩ rfl ?_
                      refine V.goto (tgt := 793) dL_law_891 (by decide) ?_
                      have key := ih (n + 1) (nn - nL) (0, r) l10 l11 l12 l13 l14 l15 l16 ρ (by omega) (by omega) (by omega) (by omega) Iρ
                      rw [e9, e10] at key
                      exact key
                    · exfalso; omega
                  · exfalso; omega
              · exfalso; omega
        · exfalso; omega
theorem ld_897 (hnm : 1 ≤ nm ∧ nm ≤ 5) {N : Nat} (fin : ∀ (nn : Nat) (l8 l9 l10 l11 l12 l13 l14 l15 l16 : JV) (σ : JM), N ≤ nn → jINV 1 σ → V l E mL_law 60 nn jQt jno 955 [(7, q), (2, 0), (0, nm), (0, k), (0, σ 1 9), (0, σ 1 10), (0, 1), (2, 7), l8, l9, l10, l11, l12, l13, l14, l15, l16] [] σ) : ∀ (j : Nat) (n : Int) (nn : Nat) (l9 l10 l11 l12 l13 l14 l15 l16 : JV) (σ : JM), 0 ≤ n → n ≤ nm → nm - n < j → N + (nm - n).toNat ≤ nn → jINV 1 σ → V l E mL_law 60 nn jQt jno 897 [(7, q), (2, 0), (0, nm), (0, k), (0, σ 1 9), (0, σ 1 10), (0, 1), (2, 7), (0, n), l9, l10, l11, l12, l13, l14, l15, l16] [] σ := by
  intro j
  induction j with
  | zero => intro n nn l9 l10 l11 l12 l13 l14 l15 l16 σ h0 h1 h2 h3 hI; omega
  | succ j ih =>
    intro n nn l9 l10 l11 l12 l13 l14 l15 l16 σ h0 h1 h2 h3 hI
    have op := jI.op hI
    refine V.iload dL_law_897 rfl ?_
    refine V.iload_n dL_law_899 rfl ?_
    refine V.icmp_ge (tgt := 955) dL_law_900 (by decide) (fun h900 => ?_) (fun h900 => ?_)
    · exact fin _ _ _ _ _ _ _ _ _ _ σ (by omega) hI
    · refine V.iload dL_law_903 rfl ?_
      refine V.if_ne (tgt := 955) dL_law_905 (by decide) (fun h905 => ?_) (fun h905 => ?_)
      · exact fin _ _ _ _ _ _ _ _ _ _ σ (by omega) hI
      · refine V.iload dL_law_908 rfl ?_
        refine V.if_ne (tgt := 955) dL_law_910 (by decide) (fun h910 => ?_) (fun h910 => ?_)
        · exact fin _ _ _ _ _ _ _ _ _ _ σ (by omega) hI
        · refine V.aload_n dL_law_913 rfl ?_
          refine V.cV [] rfl kc_L_140 rfl dL_law_914 (by decide) rfl rfl (sp_X6_lines) (fun _ => ?_)
          refine V.bipush dL_law_917 ⟨by decide, by decide⟩ ?_
          refine V.icmp_ge (tgt := 955) dL_law_919 (by decide) (fun h919 => ?_) (fun h919 => ?_)
          · exact fin _ _ _ _ _ _ _ _ _ _ σ (by omega) hI
          · refine V.iload dL_law_922 rfl ?_
            refine V.aload dL_law_924 rfl ?_
            refine V.iload dL_law_926 rfl ?_
            refine V.hald dL_law_928 (by omega) (by omega) (fun hv => ?_)
            refine V.if_ne (tgt := 941) dL_law_929 (by decide) (fun h929 => ?_) (fun h929 => ?_)
            · refine V.iconst dL_law_941 ⟨by decide, by decide⟩ ?_
              refine V.goto (tgt := 946) dL_law_942 (by decide) ?_
              refine V.iandB dL_law_946 (Or.inr rfl) (Or.inr rfl) ?_
              rw [if_pos ⟨rfl, rfl⟩]
              refine V.istore (L' := [_, _, _, _, _, _, _, _, _, _, _, _, _, _, _, _, _]) dL_law_947 rfl rfl ?_
              refine V.iinc (L' := [_, _, _, _, _, _, _, _, _, _, _, _, _, _, _, _, _]) dL_law_949 rfl ⟨by omega, by omega⟩ rfl ?_
              refine V.goto (tgt := 897) dL_law_952 (by decide) ?_
              first
              | exact ih (n + 1) _ l9 l10 l11 l12 l13 l14 l15 l16 σ (by omega) (by omega) (by omega) (by omega) hI
              | (have key := ih (n + 1) (nn - nL) l9 l10 l11 l12 l13 l14 l15 l16 ρ (by omega) (by omega) (by omega) (by omega) Iρ; rw [e9, e10] at key; exact key)
            · refine V.aload_n dL_law_932 rfl ?_
              refine V.iload dL_law_933 rfl ?_
              obtain ⟨dL, nL, hd, hn1, QL, hL, hq⟩ := of_label (p := n) hI
              refine V.callH [_, _] rfl kc_L_150 dL_law_935 (d' := dL) hd (by omega) rfl (fun _ _ => hL) rfl (fun v t z0 hv => ?_) (fun X t hx => hx.elim)
              obtain ⟨r, rfl, z⟩ := hq v t z0
              rcases z with y | ⟨r1, r2, ac, ρ, gh, Iρ, sm, e7, e8, e9, e10⟩
              · exfalso
                have := y.2.2
                omega
              refine V.gh gh ?_
              refine V.if_lt (tgt := 945) dL_law_938 (by decide) (fun hh => ?_) (fun hh => ?_)
              · exfalso; omega
              · refine V.iconst dL_law_941 ⟨by decide, by decide⟩ ?_
                refine V.goto (tgt := 946) dL_law_942 (by decide) ?_
                refine V.iandB dL_law_946 (Or.inr rfl) (Or.inr rfl) ?_
                rw [if_pos ⟨rfl, rfl⟩]
                refine V.istore (L' := [_, _, _, _, _, _, _, _, _, _, _, _, _, _, _, _, _]) dL_law_947 rfl rfl ?_
                refine V.iinc (L' := [_, _, _, _, _, _, _, _, _, _, _, _, _, _, _, _, _]) dL_law_949 rfl ⟨by omega, by omega⟩ rfl ?_
                refine V.goto (tgt := 897) dL_law_952 (by decide) ?_
                first
                | exact ih (n + 1) _ l9 l10 l11 l12 l13 l14 l15 l16 σ (by omega) (by omega) (by omega) (by omega) hI
                | (have key := ih (n + 1) (nn - nL) l9 l10 l11 l12 l13 l14 l15 l16 ρ (by omega) (by omega) (by omega) (by omega) Iρ; rw [e9, e10] at key; exact key)
theorem le_999 {w t : JM} {v8 : Int} (hI : jINV 1 σ) {va : Option JV} (qa : jcA σ va w) (ev : va = some (0, v8)) (It : jINV 1 t) (kt : jck w t) {N : Nat} (hN : 20 ≤ nn) : V l E mL_law 60 nn jQt jno 999 [(7, q), (2, 0), (0, nm), (0, k), (0, σ 1 9), (0, σ 1 10), (0, 1), (2, 7), (0, v8), l9, l10, l11, l12, l13, l14, l15, l16] [] t := by
  have op := jI.op It
  have cw := jcA_w qa
  have et : ∀ a b, (a = 7 ∨ 34 ≤ a ∨ a = 1 ∨ a = 13 ∨ a = 14) → t a b = σ a b := fun a b z => (kt a b (by omega)).trans (cw a b (by omega))
  have s1 : jsmv t = jsmv w := (kt.sm).sum
  refine V.aload_n dL_law_999 rfl ?_
  refine V.callS [_] rfl kc_L_146 dL_law_1000 (d' := 12) (by decide) (by omega) rfl (fun _ _ => sp_L_sum It.2.2.2.2) rfl (fun v t q2 hv => ?_) (fun X t hx => hx.elim)
  obtain ⟨rfl, ht⟩ := q2
  rw [ht]
  refine V.istore (L' := [_, _, _, _, _, _, _, _, _, _, _, _, _, _, _, _, _]) dL_law_1003 rfl rfl ?_
  refine V.iload dL_law_1005 rfl ?_
  refine V.aload_n dL_law_1007 rfl ?_
  refine V.callV [] rfl kc_L_179 rfl dL_law_1008 (d' := 7) (by decide) (Nat.zero_le _) rfl (fun _ _ => sp_X6_assemble op.2.2.2.1 op.2.2.1 (fun z => ⟨⟨It.1.sc (by have := It.1.unf.1.mp z; omega) (by have := It.1.unf.1.mp z; omega), It.1.wf (by have := It.1.unf.1.mp z; omega) (by have := It.1.unf.1.mp z; omega)⟩, It.2.2.1⟩)) rfl (fun v2 w2 q2 hv => ?_) (fun X t hx => hx.elim)
  have I2 := (as_all It q2).1
  obtain ⟨ev2, s2⟩ := as_two hI qa et q2
  rw [ev] at ev2
  subst ev2
  have o2 := jI.op I2
  refine V.iload dL_law_1011 rfl ?_
  refine V.icmp_ne (tgt := 1029) dL_law_1013 (by decide) (fun hh => ?_) (fun hh => ?_)
  · exact absurd rfl hh
  · refine V.aload_n dL_law_1016 rfl ?_
    refine V.callS [_] rfl kc_L_146 dL_law_1017 (d' := 12) (by decide) (by omega) rfl (fun _ _ => sp_L_sum I2.2.2.2.2) rfl (fun v t q2 hv => ?_) (fun X t hx => hx.elim)
    obtain ⟨rfl, ht⟩ := q2
    rw [ht]
    refine V.iload dL_law_1020 rfl ?_
    refine V.icmp_ne (tgt := 1029) dL_law_1022 (by decide) (fun hh => ?_) (fun hh => ?_)
    · exact absurd (s2.trans s1.symm) hh
    · refine V.iconst dL_law_1025 ⟨by decide, by decide⟩ ?_
      refine V.goto (tgt := 1030) dL_law_1026 (by decide) ?_
      refine V.iandB dL_law_1030 (Or.inr rfl) (Or.inr rfl) ?_
      rw [if_pos ⟨rfl, rfl⟩]
      refine V.istore (L' := [_, _, _, _, _, _, _, _, _, _, _, _, _, _, _, _, _]) dL_law_1031 rfl rfl ?_
      refine V.iload dL_law_1033 rfl ?_
      refine V.if_eq (tgt := 1067) dL_law_1035 (by decide) (fun hh => ?_) (fun hh => ?_)
      · exfalso; omega
      · refine V.aload_n dL_law_1038 rfl ?_
        refine V.cV [] rfl kc_L_190 rfl dL_law_1039 (by decide) rfl rfl (sp_X6_clear (by have := I2.2.2.2.1; omega)) (fun _ => ?_)
        have Ac : jAsm (jClr (jset w2 6 4 (w2 6 4 + 1))) := I2.2.2.2.2
        have s3 : jsmv (jClr (jset w2 6 4 (w2 6 4 + 1))) = jsmv w2 := jSm.sum ⟨rfl, rfl, rfl, rfl, fun _ => rfl⟩
        refine V.bipush dL_law_1042 ⟨by decide, by decide⟩ ?_
        refine V.icmp_gt (tgt := 1067) dL_law_1044 (by decide) (fun hh => ?_) (fun hh => ?_)
        · exfalso; omega
        · refine V.aload_n dL_law_1047 rfl ?_
          refine V.callS [_] rfl kc_L_146 dL_law_1048 (d' := 12) (by decide) (by omega) rfl (fun _ _ => sp_L_sum Ac) rfl (fun v t q2 hv => ?_) (fun X t hx => hx.elim)
          obtain ⟨rfl, ht⟩ := q2
          rw [ht]
          refine V.iload dL_law_1051 rfl ?_
          refine V.icmp_ne (tgt := 1067) dL_law_1053 (by decide) (fun hh => ?_) (fun hh => ?_)
          · exact absurd (s3.trans (s2.trans s1.symm)) hh
          · refine V.aload_n dL_law_1056 rfl ?_
            refine V.cV [] rfl kc_L_140 rfl dL_law_1057 (by decide) rfl rfl (sp_X6_lines) (fun _ => ?_)
            refine V.if_ne (tgt := 1067) dL_law_1060 (by decide) (fun hh => ?_) (fun hh => ?_)
            · exact absurd rfl hh
            · refine V.iconst dL_law_1063 ⟨by decide, by decide⟩ ?_
              refine V.goto (tgt := 1068) dL_law_1064 (by decide) ?_
              exact V.iret (jret_z dL_law_1068 rfl (by decide)) rfl
theorem le_955 (hI0 : jINV 1 σ) {l8 : JV} (hN : 260 ≤ nn) : V l E mL_law 60 nn jQt jno 955 [(7, q), (2, 0), (0, nm), (0, k), (0, σ 1 9), (0, σ 1 10), (0, 1), (2, 7), l8, l9, l10, l11, l12, l13, l14, l15, l16] [] σ := by
  have op := jI.op hI0
  refine V.aload_n dL_law_955 rfl ?_
  refine V.callV [] rfl kc_L_179 rfl dL_law_956 (d' := 7) (by decide) (Nat.zero_le _) rfl (fun _ _ => sp_X6_assemble op.2.2.2.1 op.2.2.1 (fun z => ⟨⟨hI0.1.sc (by have := hI0.1.unf.1.mp z; omega) (by have := hI0.1.unf.1.mp z; omega), hI0.1.wf (by have := hI0.1.unf.1.mp z; omega) (by have := hI0.1.unf.1.mp z; omega)⟩, hI0.2.2.1⟩)) rfl (fun v w qa hv => ?_) (fun X t hx => hx.elim)
  have qa2 := qa
  have AS := as_all hI0 qa
  have cw := jcA_w qa
  obtain ⟨hI, AS⟩ := AS
  have w9 : w 1 9 = σ 1 9 := cw 1 9 (by omega)
  have w10 : w 1 10 = σ 1 10 := cw 1 10 (by omega)
  have ow := jI.op hI
  rcases AS with ⟨ev, fl⟩ | ⟨ev, wh⟩
  · rw [ev]
    refine V.istore (L' := [_, _, _, _, _, _, _, _, _, _, _, _, _, _, _, _, _]) dL_law_959 rfl rfl ?_
    refine V.iload dL_law_961 rfl ?_
    refine V.iload dL_law_963 rfl ?_
    refine V.if_ge (tgt := 990) dL_law_965 (by decide) (fun hh => ?_) (fun hh => ?_)
    · exfalso; omega
    · refine V.aload_n dL_law_968 rfl ?_
      refine V.iload dL_law_969 rfl ?_
      refine V.if_ne (tgt := 979) dL_law_971 (by decide) (fun h971 => ?_) (fun h971 => ?_)
      · refine V.iconst dL_law_979 ⟨by decide, by decide⟩ ?_
        refine V.goto (tgt := 984) dL_law_980 (by decide) ?_
        refine V.callS [_, _] rfl kc_L_182 dL_law_984 (d' := 12) (by decide) (by omega) rfl (fun _ _ => sp_L_isFault fl hI.2.2.2.2.1.2 (by have := ow.1; omega)) rfl (fun v t q2 hv => ?_) (fun X t hx => hx.elim)
        obtain ⟨rfl, ht⟩ := q2
        rw [ht]
        refine V.goto (tgt := 996) dL_law_987 (by decide) ?_
        refine V.iandB dL_law_996 (Or.inr rfl) (Or.inr rfl) ?_
        rw [if_pos ⟨rfl, rfl⟩]
        refine V.istore (L' := [_, _, _, _, _, _, _, _, _, _, _, _, _, _, _, _, _]) dL_law_997 rfl rfl ?_
        exact le_999 hI0 qa ev hI (fun _ _ _ => rfl) (N := 0) (by omega)
      · refine V.iload dL_law_974 rfl ?_
        refine V.if_le (tgt := 983) dL_law_976 (by decide) (fun h976 => ?_) (fun h976 => ?_)
        · refine V.iconst dL_law_983 ⟨by decide, by decide⟩ ?_
          refine V.callS [_, _] rfl kc_L_182 dL_law_984 (d' := 12) (by decide) (by omega) rfl (fun _ _ => sp_L_isFault fl hI.2.2.2.2.1.2 (by have := ow.1; omega)) rfl (fun v t q2 hv => ?_) (fun X t hx => hx.elim)
          obtain ⟨rfl, ht⟩ := q2
          rw [ht]
          refine V.goto (tgt := 996) dL_law_987 (by decide) ?_
          refine V.iandB dL_law_996 (Or.inr rfl) (Or.inr rfl) ?_
          rw [if_pos ⟨rfl, rfl⟩]
          refine V.istore (L' := [_, _, _, _, _, _, _, _, _, _, _, _, _, _, _, _, _]) dL_law_997 rfl rfl ?_
          exact le_999 hI0 qa ev hI (fun _ _ _ => rfl) (N := 0) (by omega)
        · refine V.iconst dL_law_979 ⟨by decide, by decide⟩ ?_
          refine V.goto (tgt := 984) dL_law_980 (by decide) ?_
          refine V.callS [_, _] rfl kc_L_182 dL_law_984 (d' := 12) (by decide) (by omega) rfl (fun _ _ => sp_L_isFault fl hI.2.2.2.2.1.2 (by have := ow.1; omega)) rfl (fun v t q2 hv => ?_) (fun X t hx => hx.elim)
          obtain ⟨rfl, ht⟩ := q2
          rw [ht]
          refine V.goto (tgt := 996) dL_law_987 (by decide) ?_
          refine V.iandB dL_law_996 (Or.inr rfl) (Or.inr rfl) ?_
          rw [if_pos ⟨rfl, rfl⟩]
          refine V.istore (L' := [_, _, _, _, _, _, _, _, _, _, _, _, _, _, _, _, _]) dL_law_997 rfl rfl ?_
          exact le_999 hI0 qa ev hI (fun _ _ _ => rfl) (N := 0) (by omega)
  · rw [ev]
    refine V.istore (L' := [_, _, _, _, _, _, _, _, _, _, _, _, _, _, _, _, _]) dL_law_959 rfl rfl ?_
    refine V.iload dL_law_961 rfl ?_
    refine V.iload dL_law_963 rfl ?_
    refine V.if_ge (tgt := 990) dL_law_965 (by decide) (fun hh => ?_) (fun hh => ?_)
    · refine V.aload_n dL_law_990 rfl ?_
      refine V.iload dL_law_991 rfl ?_
      refine V.callS [_, _] rfl kc_L_186 dL_law_993 (d' := 40) (by decide) (by omega) rfl (fun _ _ => sp_L_isWhole hI (by decide) wh) rfl (fun v t q2 hv => ?_) (fun X t hx => hx.elim)
      obtain ⟨rfl, It, kt⟩ := q2
      refine V.iandB dL_law_996 (Or.inr rfl) (Or.inr rfl) ?_
      rw [if_pos ⟨rfl, rfl⟩]
      refine V.istore (L' := [_, _, _, _, _, _, _, _, _, _, _, _, _, _, _, _, _]) dL_law_997 rfl rfl ?_
      exact le_999 hI0 qa ev It kt (N := 0) (by omega)
    · exfalso; have := wh.w1; omega
/-- the law's body behind the row had -/
theorem lw_body {l8 : JV} (hL : E.2.2.2.2.1 ≤ 2048) (hnm : 1 ≤ nm ∧ nm ≤ 5) (hI : jINV 1 σ) (hN : 16000 ≤ nn) (e9 : σ 1 9 = 0) (e10 : σ 1 10 = 0) : V l E mL_law 60 nn jQt jno 34 [(7, q), (2, 0), (0, nm), (0, 1), (0, 0), (0, 0), (0, 1), (2, 7), l8, l9, l10, l11, l12, l13, l14, l15, l16] [] σ := by
  have F3 : ∀ (nn : Nat) (l8 l9 l10 l11 l12 l13 l14 l15 l16 : JV) (k : Int) (σ : JM), 270 ≤ nn → jINV 1 σ → V l E mL_law 60 nn jQt jno 894 [(7, q), (2, 0), (0, nm), (0, k), (0, σ 1 9), (0, σ 1 10), (0, 1), (2, 7), l8, l9, l10, l11, l12, l13, l14, l15, l16] [] σ := by
    intro nn l8 l9 l10 l11 l12 l13 l14 l15 l16 k σ hN hI
    refine V.iconst dL_law_894 ⟨by decide, by decide⟩ ?_
    refine V.istore (L' := [_, _, _, _, _, _, _, _, _, _, _, _, _, _, _, _, _]) dL_law_895 rfl rfl ?_
    exact ld_897 (N := 260) hnm (fun nn l8 l9 l10 l11 l12 l13 l14 l15 l16 σ h1 h2 => le_955 h2 h1) (nm.toNat + 1) 0 _ _ _ _ _ _ _ _ _ σ (Int.le_refl 0) (by omega) (by omega) (by omega) hI
  have F2 : ∀ (nn : Nat) (k : Int) (l9 l10 l11 l12 l13 l14 l15 l16 : JV) (σ : JM), 400 ≤ nn → jINV 1 σ → V l E mL_law 60 nn jQt jno 790 [(7, q), (2, 0), (0, nm), (0, k), (0, σ 1 9), (0, σ 1 10), (0, 1), (2, 7), (0, 60), l9, l10, l11, l12, l13, l14, l15, l16] [] σ := by
    intro nn k l9 l10 l11 l12 l13 l14 l15 l16 σ hN hI
    refine V.iconst dL_law_790 ⟨by decide, by decide⟩ ?_
    refine V.istore (L' := [_, _, _, _, _, _, _, _, _, _, _, _, _, _, _, _, _]) dL_law_791 rfl rfl ?_
    exact lc_793 (N := 270) (fun nn l8 l9 l10 l11 l12 l13 l14 l15 l16 σ h1 h2 => F3 nn l8 l9 l10 l11 l12 l13 l14 l15 l16 _ σ h1 h2) 91 0 _ _ _ _ _ _ _ _ _ σ (Int.le_refl 0) (by decide) (by decide) (by show 270 + 90 ≤ _; omega) hI
  have F1 := la_all (l := l) (E := E) (q := q) hL hnm F2 61 0 (Int.le_refl 0) (by decide) (by decide)
  refine V.iconst dL_law_34 ⟨by decide, by decide⟩ ?_
  refine V.istore (L' := [_, _, _, _, _, _, _, _, _, _, _, _, _, _, _, _, _]) dL_law_35 rfl rfl ?_
  have key := F1 nn l9 l10 l11 l12 l13 l14 l15 l16 σ (by show 400 + 250 * 60 ≤ nn; omega) hI
  rw [e9, e10] at key
  exact key
end LAW2
