theorem lw_7 {l : Launch} {E : JE} {n : Nat} {q i : Int} {a b c : JV} {σ : JM} (hL : E.2.2.2.2.1 ≤ 2048) (hI : jINV (i + 1) σ) (i0 : 0 ≤ i) (i4 : i + 4 ≤ (E.2.2.2.2.1 : Int)) (hn : 1 ≤ n) (next : jNx l E n q i) : V l E mL_law 100 n jQt jno 632 [(7, q), (2, 0), (2, 7), (2, 55), (2, 56), (0, i), a, b, c] [] σ := by
  obtain ⟨dL, dX, h1, h2, QL, hC, hk⟩ := op_block hI
  refine V.aload_n dL_law_632 rfl ?_
  refine V.aload_n dL_law_633 rfl ?_
  refine V.callH [_, _] rfl kc_L_159 dL_law_634 (d' := dL) h1 hn rfl (fun _ _ => hC) rfl (fun v τ hq hv => ?_) (fun X t hx => hx.elim)
  obtain ⟨k, rfl, QM, hX, hm⟩ := hk v τ hq
  refine V.istore (L' := [_, _, _, _, _, _, _, _, _]) dL_law_637 rfl rfl ?_
  refine V.aload_n dL_law_639 rfl ?_
  refine V.callV [] rfl kc_L_162 rfl dL_law_640 (d' := dX) h2 (Nat.zero_le _) rfl (fun _ _ => hX) rfl (fun w ρ hq2 hv2 => ?_) (fun X t hx => hx.elim)
  obtain ⟨x, rfl, h0, ho, hI2⟩ := hm w ρ hq2
  refine V.istore (L' := [_, _, _, _, _, _, _, _, _]) dL_law_643 rfl rfl ?_
  refine V.aload_n dL_law_645 rfl ?_
  refine V.cV [] rfl kc_L_136 rfl dL_law_646 (by decide) rfl rfl (sp_X7_thrown) (fun _ => ?_)
  refine V.iload dL_law_649 rfl ?_
  refine V.icmp_eq (tgt := 656) dL_law_651 (by decide) (fun he => ?_) (fun he => ?_)
  · refine V.iload dL_law_656 rfl ?_
    refine V.if_ne (tgt := 673) dL_law_658 (by decide) (fun hz => ?_) (fun hz => ?_)
    · refine V.goto (tgt := 1982) dL_law_673 (by decide) ?_
      exact next _ _ _ _ _ (by omega) (hI2.up (by omega))
    · refine V.aload_n dL_law_661 rfl ?_
      refine V.iconst dL_law_662 ⟨by decide, by decide⟩ ?_
      refine V.lald (cell := 55) 0 rfl rfl rfl rfl dL_law_663 (by omega) (by omega) (fun _ => ?_)
      rw [show ρ 55 0 = x from ho hz]
      refine V.iload dL_law_664 rfl ?_
      refine V.i2l dL_law_666 ?_
      refine V.lcmp dL_law_667 ?_
      rw [if_neg (Int.lt_irrefl x), if_pos rfl]
      refine V.if_eq (tgt := 673) dL_law_668 (by decide) (fun hy => ?_) (fun hy => ?_)
      · refine V.goto (tgt := 1982) dL_law_673 (by decide) ?_
        exact next _ _ _ _ _ (by omega) (hI2.up (by omega))
      · exact absurd rfl hy
  · exact absurd h0 he
theorem lw_8 {l : Launch} {E : JE} {n : Nat} {q i : Int} {a b c : JV} {σ : JM} (hL : E.2.2.2.2.1 ≤ 2048) (hI : jINV (i + 1) σ) (i0 : 0 ≤ i) (i4 : i + 4 ≤ (E.2.2.2.2.1 : Int)) (hn : 1 ≤ n) (next : jNx l E n q i) : V l E mL_law 100 n jQt jno 676 [(7, q), (2, 0), (2, 7), (2, 55), (2, 56), (0, i), a, b, c] [] σ := by
  obtain ⟨p1, hp1⟩ : ∃ p, (E.2.2.2.2.2 (i + 1).toNat).toInt = p := ⟨_, rfl⟩
  obtain ⟨dL, dX, h1, h2, QL, hC, hk⟩ := op_loop (p := p1) hI
  refine V.aload_n dL_law_676 rfl ?_
  refine V.aload_s dL_law_677 rfl ?_
  refine V.iload dL_law_678 rfl ?_
  refine V.iconst dL_law_680 ⟨by decide, by decide⟩ ?_
  refine V.iadd dL_law_681 ⟨(by omega), (by omega)⟩ ?_
  refine V.sld rfl hL dL_law_682 (by omega) (by omega) ?_
  rw [hp1]
  refine V.aload_n dL_law_683 rfl ?_
  refine V.callH [_, _, _] rfl kc_L_163 dL_law_684 (d' := dL) h1 hn rfl (fun _ _ => hC) rfl (fun v τ hq hv => ?_) (fun X t hx => hx.elim)
  obtain ⟨k, rfl, QM, hX, hm⟩ := hk v τ hq
  refine V.istore (L' := [_, _, _, _, _, _, _, _, _]) dL_law_687 rfl rfl ?_
  refine V.aload_n dL_law_689 rfl ?_
  refine V.aload_s dL_law_690 rfl ?_
  refine V.iload dL_law_691 rfl ?_
  refine V.iconst dL_law_693 ⟨by decide, by decide⟩ ?_
  refine V.iadd dL_law_694 ⟨(by omega), (by omega)⟩ ?_
  refine V.sld rfl hL dL_law_695 (by omega) (by omega) ?_
  rw [hp1]
  refine V.callV [_] rfl kc_L_165 rfl dL_law_696 (d' := dX) h2 (Nat.zero_le _) rfl (fun _ _ => hX) rfl (fun w ρ hq2 hv2 => ?_) (fun X t hx => hx.elim)
  obtain ⟨x, rfl, h0, ho, hI2⟩ := hm w ρ hq2
  refine V.istore (L' := [_, _, _, _, _, _, _, _, _]) dL_law_699 rfl rfl ?_
  refine V.aload_n dL_law_701 rfl ?_
  refine V.cV [] rfl kc_L_136 rfl dL_law_702 (by decide) rfl rfl (sp_X7_thrown) (fun _ => ?_)
  refine V.iload dL_law_705 rfl ?_
  refine V.icmp_eq (tgt := 712) dL_law_707 (by decide) (fun he => ?_) (fun he => ?_)
  · refine V.iload dL_law_712 rfl ?_
    refine V.if_ne (tgt := 729) dL_law_714 (by decide) (fun hz => ?_) (fun hz => ?_)
    · refine V.goto (tgt := 1982) dL_law_729 (by decide) ?_
      exact next _ _ _ _ _ (by omega) (hI2.up (by omega))
    · refine V.aload_n dL_law_717 rfl ?_
      refine V.iconst dL_law_718 ⟨by decide, by decide⟩ ?_
      refine V.lald (cell := 55) 0 rfl rfl rfl rfl dL_law_719 (by omega) (by omega) (fun _ => ?_)
      rw [show ρ 55 0 = x from ho hz]
      refine V.iload dL_law_720 rfl ?_
      refine V.i2l dL_law_722 ?_
      refine V.lcmp dL_law_723 ?_
      rw [if_neg (Int.lt_irrefl x), if_pos rfl]
      refine V.if_eq (tgt := 729) dL_law_724 (by decide) (fun hy => ?_) (fun hy => ?_)
      · refine V.goto (tgt := 1982) dL_law_729 (by decide) ?_
        exact next _ _ _ _ _ (by omega) (hI2.up (by omega))
      · exact absurd rfl hy
  · exact absurd h0 he
theorem lw_9 {l : Launch} {E : JE} {n : Nat} {q i : Int} {a b c : JV} {σ : JM} (hL : E.2.2.2.2.1 ≤ 2048) (hI : jINV (i + 1) σ) (i0 : 0 ≤ i) (i4 : i + 4 ≤ (E.2.2.2.2.1 : Int)) (hn : 1 ≤ n) (next : jNx l E n q i) : V l E mL_law 100 n jQt jno 732 [(7, q), (2, 0), (2, 7), (2, 55), (2, 56), (0, i), a, b, c] [] σ := by
  obtain ⟨p1, hp1⟩ : ∃ p, (E.2.2.2.2.2 (i + 1).toNat).toInt = p := ⟨_, rfl⟩
  obtain ⟨p2, hp2⟩ : ∃ p, (E.2.2.2.2.2 (i + 2).toNat).toInt = p := ⟨_, rfl⟩
  obtain ⟨dL, dX, h1, h2, QL, hC, hk⟩ := op_when (p := p1) (q := p2) hI
  refine V.aload_n dL_law_732 rfl ?_
  refine V.aload_s dL_law_733 rfl ?_
  refine V.iload dL_law_734 rfl ?_
  refine V.iconst dL_law_736 ⟨by decide, by decide⟩ ?_
  refine V.iadd dL_law_737 ⟨(by omega), (by omega)⟩ ?_
  refine V.sld rfl hL dL_law_738 (by omega) (by omega) ?_
  rw [hp1]
  refine V.aload_s dL_law_739 rfl ?_
  refine V.iload dL_law_740 rfl ?_
  refine V.iconst dL_law_742 ⟨by decide, by decide⟩ ?_
  refine V.iadd dL_law_743 ⟨(by omega), (by omega)⟩ ?_
  refine V.sld rfl hL dL_law_744 (by omega) (by omega) ?_
  rw [hp2]
  refine V.aload_n dL_law_745 rfl ?_
  refine V.callH [_, _, _, _] rfl kc_L_166 dL_law_746 (d' := dL) h1 hn rfl (fun _ _ => hC) rfl (fun v τ hq hv => ?_) (fun X t hx => hx.elim)
  obtain ⟨k, rfl, QM, hX, hm⟩ := hk v τ hq
  refine V.istore (L' := [_, _, _, _, _, _, _, _, _]) dL_law_749 rfl rfl ?_
  refine V.aload_n dL_law_751 rfl ?_
  refine V.aload_s dL_law_752 rfl ?_
  refine V.iload dL_law_753 rfl ?_
  refine V.iconst dL_law_755 ⟨by decide, by decide⟩ ?_
  refine V.iadd dL_law_756 ⟨(by omega), (by omega)⟩ ?_
  refine V.sld rfl hL dL_law_757 (by omega) (by omega) ?_
  rw [hp1]
  refine V.aload_s dL_law_758 rfl ?_
  refine V.iload dL_law_759 rfl ?_
  refine V.iconst dL_law_761 ⟨by decide, by decide⟩ ?_
  refine V.iadd dL_law_762 ⟨(by omega), (by omega)⟩ ?_
  refine V.sld rfl hL dL_law_763 (by omega) (by omega) ?_
  rw [hp2]
  refine V.callV [_, _] rfl kc_L_168 rfl dL_law_764 (d' := dX) h2 (Nat.zero_le _) rfl (fun _ _ => hX) rfl (fun w ρ hq2 hv2 => ?_) (fun X t hx => hx.elim)
  obtain ⟨x, rfl, h0, ho, hI2⟩ := hm w ρ hq2
  refine V.istore (L' := [_, _, _, _, _, _, _, _, _]) dL_law_767 rfl rfl ?_
  refine V.aload_n dL_law_769 rfl ?_
  refine V.cV [] rfl kc_L_136 rfl dL_law_770 (by decide) rfl rfl (sp_X7_thrown) (fun _ => ?_)
  refine V.iload dL_law_773 rfl ?_
  refine V.icmp_eq (tgt := 780) dL_law_775 (by decide) (fun he => ?_) (fun he => ?_)
  · refine V.iload dL_law_780 rfl ?_
    refine V.if_ne (tgt := 797) dL_law_782 (by decide) (fun hz => ?_) (fun hz => ?_)
    · refine V.goto (tgt := 1982) dL_law_797 (by decide) ?_
      exact next _ _ _ _ _ (by omega) (hI2.up (by omega))
    · refine V.aload_n dL_law_785 rfl ?_
      refine V.iconst dL_law_786 ⟨by decide, by decide⟩ ?_
      refine V.lald (cell := 55) 0 rfl rfl rfl rfl dL_law_787 (by omega) (by omega) (fun _ => ?_)
      rw [show ρ 55 0 = x from ho hz]
      refine V.iload dL_law_788 rfl ?_
      refine V.i2l dL_law_790 ?_
      refine V.lcmp dL_law_791 ?_
      rw [if_neg (Int.lt_irrefl x), if_pos rfl]
      refine V.if_eq (tgt := 797) dL_law_792 (by decide) (fun hy => ?_) (fun hy => ?_)
      · refine V.goto (tgt := 1982) dL_law_797 (by decide) ?_
        exact next _ _ _ _ _ (by omega) (hI2.up (by omega))
      · exact absurd rfl hy
  · exact absurd h0 he
theorem lw_10 {l : Launch} {E : JE} {n : Nat} {q i : Int} {a b c : JV} {σ : JM} (hL : E.2.2.2.2.1 ≤ 2048) (hI : jINV (i + 1) σ) (i0 : 0 ≤ i) (i4 : i + 4 ≤ (E.2.2.2.2.1 : Int)) (hn : 1 ≤ n) (next : jNx l E n q i) : V l E mL_law 100 n jQt jno 800 [(7, q), (2, 0), (2, 7), (2, 55), (2, 56), (0, i), a, b, c] [] σ := by
  obtain ⟨dL, dX, h1, h2, QL, hC, hk⟩ := op_end hI
  refine V.aload_n dL_law_800 rfl ?_
  refine V.aload_n dL_law_801 rfl ?_
  refine V.callH [_, _] rfl kc_L_169 dL_law_802 (d' := dL) h1 hn rfl (fun _ _ => hC) rfl (fun v τ hq hv => ?_) (fun X t hx => hx.elim)
  obtain ⟨k, rfl, QM, hX, hm⟩ := hk v τ hq
  refine V.istore (L' := [_, _, _, _, _, _, _, _, _]) dL_law_805 rfl rfl ?_
  refine V.aload_n dL_law_807 rfl ?_
  refine V.callV [] rfl kc_L_171 rfl dL_law_808 (d' := dX) h2 (Nat.zero_le _) rfl (fun _ _ => hX) rfl (fun w ρ hq2 hv2 => ?_) (fun X t hx => hx.elim)
  obtain ⟨x, rfl, h0, ho, hI2⟩ := hm w ρ hq2
  refine V.istore (L' := [_, _, _, _, _, _, _, _, _]) dL_law_811 rfl rfl ?_
  refine V.aload_n dL_law_813 rfl ?_
  refine V.cV [] rfl kc_L_136 rfl dL_law_814 (by decide) rfl rfl (sp_X7_thrown) (fun _ => ?_)
  refine V.iload dL_law_817 rfl ?_
  refine V.icmp_eq (tgt := 824) dL_law_819 (by decide) (fun he => ?_) (fun he => ?_)
  · refine V.iload dL_law_824 rfl ?_
    refine V.if_ne (tgt := 841) dL_law_826 (by decide) (fun hz => ?_) (fun hz => ?_)
    · refine V.goto (tgt := 1982) dL_law_841 (by decide) ?_
      exact next _ _ _ _ _ (by omega) (hI2.up (by omega))
    · refine V.aload_n dL_law_829 rfl ?_
      refine V.iconst dL_law_830 ⟨by decide, by decide⟩ ?_
      refine V.lald (cell := 55) 0 rfl rfl rfl rfl dL_law_831 (by omega) (by omega) (fun _ => ?_)
      rw [show ρ 55 0 = x from ho hz]
      refine V.iload dL_law_832 rfl ?_
      refine V.i2l dL_law_834 ?_
      refine V.lcmp dL_law_835 ?_
      rw [if_neg (Int.lt_irrefl x), if_pos rfl]
      refine V.if_eq (tgt := 841) dL_law_836 (by decide) (fun hy => ?_) (fun hy => ?_)
      · refine V.goto (tgt := 1982) dL_law_841 (by decide) ?_
        exact next _ _ _ _ _ (by omega) (hI2.up (by omega))
      · exact absurd rfl hy
  · exact absurd h0 he
theorem lw_11 {l : Launch} {E : JE} {n : Nat} {q i : Int} {a b c : JV} {σ : JM} (hL : E.2.2.2.2.1 ≤ 2048) (hI : jINV (i + 1) σ) (i0 : 0 ≤ i) (i4 : i + 4 ≤ (E.2.2.2.2.1 : Int)) (hn : 1 ≤ n) (next : jNx l E n q i) : V l E mL_law 100 n jQt jno 844 [(7, q), (2, 0), (2, 7), (2, 55), (2, 56), (0, i), a, b, c] [] σ := by
  obtain ⟨dL, dX, h1, h2, QL, hC, hk⟩ := op_macro hI
  refine V.aload_n dL_law_844 rfl ?_
  refine V.aload_n dL_law_845 rfl ?_
  refine V.callH [_, _] rfl kc_L_172 dL_law_846 (d' := dL) h1 hn rfl (fun _ _ => hC) rfl (fun v τ hq hv => ?_) (fun X t hx => hx.elim)
  obtain ⟨k, rfl, QM, hX, hm⟩ := hk v τ hq
  refine V.istore (L' := [_, _, _, _, _, _, _, _, _]) dL_law_849 rfl rfl ?_
  refine V.aload_n dL_law_851 rfl ?_
  refine V.callV [] rfl kc_L_174 rfl dL_law_852 (d' := dX) h2 (Nat.zero_le _) rfl (fun _ _ => hX) rfl (fun w ρ hq2 hv2 => ?_) (fun X t hx => hx.elim)
  obtain ⟨x, rfl, h0, ho, hI2⟩ := hm w ρ hq2
  refine V.istore (L' := [_, _, _, _, _, _, _, _, _]) dL_law_855 rfl rfl ?_
  refine V.aload_n dL_law_857 rfl ?_
  refine V.cV [] rfl kc_L_136 rfl dL_law_858 (by decide) rfl rfl (sp_X7_thrown) (fun _ => ?_)
  refine V.iload dL_law_861 rfl ?_
  refine V.icmp_eq (tgt := 868) dL_law_863 (by decide) (fun he => ?_) (fun he => ?_)
  · refine V.iload dL_law_868 rfl ?_
    refine V.if_ne (tgt := 885) dL_law_870 (by decide) (fun hz => ?_) (fun hz => ?_)
    · refine V.goto (tgt := 1982) dL_law_885 (by decide) ?_
      exact next _ _ _ _ _ (by omega) (hI2.up (by omega))
    · refine V.aload_n dL_law_873 rfl ?_
      refine V.iconst dL_law_874 ⟨by decide, by decide⟩ ?_
      refine V.lald (cell := 55) 0 rfl rfl rfl rfl dL_law_875 (by omega) (by omega) (fun _ => ?_)
      rw [show ρ 55 0 = x from ho hz]
      refine V.iload dL_law_876 rfl ?_
      refine V.i2l dL_law_878 ?_
      refine V.lcmp dL_law_879 ?_
      rw [if_neg (Int.lt_irrefl x), if_pos rfl]
      refine V.if_eq (tgt := 885) dL_law_880 (by decide) (fun hy => ?_) (fun hy => ?_)
      · refine V.goto (tgt := 1982) dL_law_885 (by decide) ?_
        exact next _ _ _ _ _ (by omega) (hI2.up (by omega))
      · exact absurd rfl hy
  · exact absurd h0 he
theorem lw_12 {l : Launch} {E : JE} {n : Nat} {q i : Int} {a b c : JV} {σ : JM} (hL : E.2.2.2.2.1 ≤ 2048) (hI : jINV (i + 1) σ) (i0 : 0 ≤ i) (i4 : i + 4 ≤ (E.2.2.2.2.1 : Int)) (hn : 1 ≤ n) (next : jNx l E n q i) : V l E mL_law 100 n jQt jno 888 [(7, q), (2, 0), (2, 7), (2, 55), (2, 56), (0, i), a, b, c] [] σ := by
  obtain ⟨dL, dX, h1, h2, QL, hC, hk⟩ := op_endMacro hI
  refine V.aload_n dL_law_888 rfl ?_
  refine V.aload_n dL_law_889 rfl ?_
  refine V.callH [_, _] rfl kc_L_175 dL_law_890 (d' := dL) h1 hn rfl (fun _ _ => hC) rfl (fun v τ hq hv => ?_) (fun X t hx => hx.elim)
  obtain ⟨k, rfl, QM, hX, hm⟩ := hk v τ hq
  refine V.istore (L' := [_, _, _, _, _, _, _, _, _]) dL_law_893 rfl rfl ?_
  refine V.aload_n dL_law_895 rfl ?_
  refine V.callV [] rfl kc_L_177 rfl dL_law_896 (d' := dX) h2 (Nat.zero_le _) rfl (fun _ _ => hX) rfl (fun w ρ hq2 hv2 => ?_) (fun X t hx => hx.elim)
  obtain ⟨x, rfl, h0, ho, hI2⟩ := hm w ρ hq2
  refine V.istore (L' := [_, _, _, _, _, _, _, _, _]) dL_law_899 rfl rfl ?_
  refine V.aload_n dL_law_901 rfl ?_
  refine V.cV [] rfl kc_L_136 rfl dL_law_902 (by decide) rfl rfl (sp_X7_thrown) (fun _ => ?_)
  refine V.iload dL_law_905 rfl ?_
  refine V.icmp_eq (tgt := 912) dL_law_907 (by decide) (fun he => ?_) (fun he => ?_)
  · refine V.iload dL_law_912 rfl ?_
    refine V.if_ne (tgt := 929) dL_law_914 (by decide) (fun hz => ?_) (fun hz => ?_)
    · refine V.goto (tgt := 1982) dL_law_929 (by decide) ?_
      exact next _ _ _ _ _ (by omega) (hI2.up (by omega))
    · refine V.aload_n dL_law_917 rfl ?_
      refine V.iconst dL_law_918 ⟨by decide, by decide⟩ ?_
      refine V.lald (cell := 55) 0 rfl rfl rfl rfl dL_law_919 (by omega) (by omega) (fun _ => ?_)
      rw [show ρ 55 0 = x from ho hz]
      refine V.iload dL_law_920 rfl ?_
      refine V.i2l dL_law_922 ?_
      refine V.lcmp dL_law_923 ?_
      rw [if_neg (Int.lt_irrefl x), if_pos rfl]
      refine V.if_eq (tgt := 929) dL_law_924 (by decide) (fun hy => ?_) (fun hy => ?_)
      · refine V.goto (tgt := 1982) dL_law_929 (by decide) ?_
        exact next _ _ _ _ _ (by omega) (hI2.up (by omega))
      · exact absurd rfl hy
  · exact absurd h0 he
theorem lw_13 {l : Launch} {E : JE} {n : Nat} {q i : Int} {a b c : JV} {σ : JM} (hL : E.2.2.2.2.1 ≤ 2048) (hI : jINV (i + 1) σ) (i0 : 0 ≤ i) (i4 : i + 4 ≤ (E.2.2.2.2.1 : Int)) (hn : 1 ≤ n) (next : jNx l E n q i) : V l E mL_law 100 n jQt jno 932 [(7, q), (2, 0), (2, 7), (2, 55), (2, 56), (0, i), a, b, c] [] σ := by
  obtain ⟨dL, dX, h1, h2, QL, hC, hk⟩ := op_clear hI (by omega)
  refine V.aload_n dL_law_932 rfl ?_
  refine V.callV [] rfl kc_L_178 rfl dL_law_933 (d' := dL) h1 (Nat.zero_le _) rfl (fun _ _ => hC) rfl (fun v τ hq hv => ?_) (fun X t hx => hx.elim)
  obtain ⟨x, rfl, QM, hX, hm⟩ := hk v τ hq
  refine V.aload_n dL_law_936 rfl ?_
  refine V.callV [] rfl kc_L_181 rfl dL_law_937 (d' := dX) h2 (Nat.zero_le _) rfl (fun _ _ => hX) rfl (fun w ρ hq2 hv2 => ?_) (fun X t hx => hx.elim)
  obtain ⟨rfl, hI2⟩ := hm w ρ hq2
  refine V.icmp_eq (tgt := 1982) dL_law_940 (by decide) (fun he => ?_) (fun he => ?_)
  · exact next _ _ _ _ _ (by omega) (hI2.up (by omega))
  · exact absurd rfl he
theorem lw_14 {l : Launch} {E : JE} {n : Nat} {q i : Int} {a b c : JV} {σ : JM} (hL : E.2.2.2.2.1 ≤ 2048) (hI : jINV (i + 1) σ) (i0 : 0 ≤ i) (i4 : i + 4 ≤ (E.2.2.2.2.1 : Int)) (hn : 1 ≤ n) (next : jNx l E n q i) : V l E mL_law 100 n jQt jno 945 [(7, q), (2, 0), (2, 7), (2, 55), (2, 56), (0, i), a, b, c] [] σ := by
  obtain ⟨dL, dX, h1, h2, QL, hC, hk⟩ := op_lines hI
  refine V.aload_n dL_law_945 rfl ?_
  refine V.callV [] rfl kc_L_182 rfl dL_law_946 (d' := dL) h1 (Nat.zero_le _) rfl (fun _ _ => hC) rfl (fun v τ hq hv => ?_) (fun X t hx => hx.elim)
  obtain ⟨x, rfl, QM, hX, hm⟩ := hk v τ hq
  refine V.aload_n dL_law_949 rfl ?_
  refine V.callV [] rfl kc_L_185 rfl dL_law_950 (d' := dX) h2 (Nat.zero_le _) rfl (fun _ _ => hX) rfl (fun w ρ hq2 hv2 => ?_) (fun X t hx => hx.elim)
  obtain ⟨rfl, hI2⟩ := hm w ρ hq2
  refine V.icmp_eq (tgt := 1982) dL_law_953 (by decide) (fun he => ?_) (fun he => ?_)
  · exact next _ _ _ _ _ (by omega) (hI2.up (by omega))
  · exact absurd rfl he
theorem lw_15 {l : Launch} {E : JE} {n : Nat} {q i : Int} {a b c : JV} {σ : JM} (hL : E.2.2.2.2.1 ≤ 2048) (hI : jINV (i + 1) σ) (i0 : 0 ≤ i) (i4 : i + 4 ≤ (E.2.2.2.2.1 : Int)) (hn : 1 ≤ n) (next : jNx l E n q i) : V l E mL_law 100 n jQt jno 958 [(7, q), (2, 0), (2, 7), (2, 55), (2, 56), (0, i), a, b, c] [] σ := by
  obtain ⟨dL, dX, h1, h2, QL, hC, hk⟩ := op_macros hI
  refine V.aload_n dL_law_958 rfl ?_
  refine V.callV [] rfl kc_L_186 rfl dL_law_959 (d' := dL) h1 (Nat.zero_le _) rfl (fun _ _ => hC) rfl (fun v τ hq hv => ?_) (fun X t hx => hx.elim)
  obtain ⟨x, rfl, QM, hX, hm⟩ := hk v τ hq
  refine V.aload_n dL_law_962 rfl ?_
  refine V.callV [] rfl kc_L_189 rfl dL_law_963 (d' := dX) h2 (Nat.zero_le _) rfl (fun _ _ => hX) rfl (fun w ρ hq2 hv2 => ?_) (fun X t hx => hx.elim)
  obtain ⟨rfl, hI2⟩ := hm w ρ hq2
  refine V.icmp_eq (tgt := 1982) dL_law_966 (by decide) (fun he => ?_) (fun he => ?_)
  · exact next _ _ _ _ _ (by omega) (hI2.up (by omega))
  · exact absurd rfl he
theorem lw_16 {l : Launch} {E : JE} {n : Nat} {q i : Int} {a b c : JV} {σ : JM} (hL : E.2.2.2.2.1 ≤ 2048) (hI : jINV (i + 1) σ) (i0 : 0 ≤ i) (i4 : i + 4 ≤ (E.2.2.2.2.1 : Int)) (hn : 1 ≤ n) (next : jNx l E n q i) : V l E mL_law 100 n jQt jno 971 [(7, q), (2, 0), (2, 7), (2, 55), (2, 56), (0, i), a, b, c] [] σ := by
  obtain ⟨dL, dX, h1, h2, QL, hC, hk⟩ := op_assemble hI
  refine V.aload_n dL_law_971 rfl ?_
  refine V.callV [] rfl kc_L_190 rfl dL_law_972 (d' := dL) h1 (Nat.zero_le _) rfl (fun _ _ => hC) rfl (fun v τ hq hv => ?_) (fun X t hx => hx.elim)
  obtain ⟨x, rfl, QM, hX, hm⟩ := hk v τ hq
  refine V.aload_n dL_law_975 rfl ?_
  refine V.callV [] rfl kc_L_193 rfl dL_law_976 (d' := dX) h2 (Nat.zero_le _) rfl (fun _ _ => hX) rfl (fun w ρ hq2 hv2 => ?_) (fun X t hx => hx.elim)
  refine V.okm (fun ok => ?_)
  obtain ⟨rfl, hI2⟩ := hm w ρ hq2 ok
  refine V.icmp_eq (tgt := 1982) dL_law_979 (by decide) (fun he => ?_) (fun he => ?_)
  · exact next _ _ _ _ _ (by omega) (hI2.up (by omega))
  · exact absurd rfl he
