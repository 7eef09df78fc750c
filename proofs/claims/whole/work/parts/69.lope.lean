theorem lw_30 {l : Launch} {E : JE} {n : Nat} {q i : Int} {a b c : JV} {σ : JM} (hL : E.2.2.2.2.1 ≤ 2048) (hI : jINV (i + 1) σ) (i0 : 0 ≤ i) (i4 : i + 4 ≤ (E.2.2.2.2.1 : Int)) (hn : 1 ≤ n) (next : jNx l E n q i) : V l E mL_law 100 n jQt jno 1627 [(7, q), (2, 0), (2, 7), (2, 55), (2, 56), (0, i), a, b, c] [] σ := by
  obtain ⟨p1, hp1⟩ : ∃ p, (E.2.2.2.2.2 (i + 1).toNat).toInt = p := ⟨_, rfl⟩
  obtain ⟨dL, dX, h1, h2, QL, hC, hk⟩ := op_depthOf (x := p1) hI
  refine V.aload_n dL_law_1627 rfl ?_
  refine V.aload_s dL_law_1628 rfl ?_
  refine V.iload dL_law_1629 rfl ?_
  refine V.iconst dL_law_1631 ⟨by decide, by decide⟩ ?_
  refine V.iadd dL_law_1632 ⟨(by omega), (by omega)⟩ ?_
  refine V.sld rfl hL dL_law_1633 (by omega) (by omega) ?_
  rw [hp1]
  refine V.aload_n dL_law_1634 rfl ?_
  refine V.callH [_, _, _] rfl kc_L_233 dL_law_1635 (d' := dL) h1 hn rfl (fun _ _ => hC) rfl (fun v τ hq hv => ?_) (fun X t hx => hx.elim)
  obtain ⟨k, rfl, QM, hX, hm⟩ := hk v τ hq
  refine V.istore (L' := [_, _, _, _, _, _, _, _, _]) dL_law_1638 rfl rfl ?_
  refine V.aload_n dL_law_1640 rfl ?_
  refine V.aload_s dL_law_1641 rfl ?_
  refine V.iload dL_law_1642 rfl ?_
  refine V.iconst dL_law_1644 ⟨by decide, by decide⟩ ?_
  refine V.iadd dL_law_1645 ⟨(by omega), (by omega)⟩ ?_
  refine V.sld rfl hL dL_law_1646 (by omega) (by omega) ?_
  rw [hp1]
  refine V.callV [_] rfl kc_L_235 rfl dL_law_1647 (d' := dX) h2 (Nat.zero_le _) rfl (fun _ _ => hX) rfl (fun w ρ hq2 hv2 => ?_) (fun X t hx => hx.elim)
  obtain ⟨x, rfl, h0, ho, hI2⟩ := hm w ρ hq2
  refine V.istore (L' := [_, _, _, _, _, _, _, _, _]) dL_law_1650 rfl rfl ?_
  refine V.aload_n dL_law_1652 rfl ?_
  refine V.cV [] rfl kc_L_136 rfl dL_law_1653 (by decide) rfl rfl (sp_X7_thrown) (fun _ => ?_)
  refine V.iload dL_law_1656 rfl ?_
  refine V.icmp_eq (tgt := 1663) dL_law_1658 (by decide) (fun he => ?_) (fun he => ?_)
  · refine V.iload dL_law_1663 rfl ?_
    refine V.if_ne (tgt := 1680) dL_law_1665 (by decide) (fun hz => ?_) (fun hz => ?_)
    · refine V.goto (tgt := 1982) dL_law_1680 (by decide) ?_
      exact next _ _ _ _ _ (by omega) (hI2.up (by omega))
    · refine V.aload_n dL_law_1668 rfl ?_
      refine V.iconst dL_law_1669 ⟨by decide, by decide⟩ ?_
      refine V.lald (cell := 55) 0 rfl rfl rfl rfl dL_law_1670 (by omega) (by omega) (fun _ => ?_)
      rw [show ρ 55 0 = x from ho hz]
      refine V.iload dL_law_1671 rfl ?_
      refine V.i2l dL_law_1673 ?_
      refine V.lcmp dL_law_1674 ?_
      rw [if_neg (Int.lt_irrefl x), if_pos rfl]
      refine V.if_eq (tgt := 1680) dL_law_1675 (by decide) (fun hy => ?_) (fun hy => ?_)
      · refine V.goto (tgt := 1982) dL_law_1680 (by decide) ?_
        exact next _ _ _ _ _ (by omega) (hI2.up (by omega))
      · exact absurd rfl hy
  · exact absurd h0 he
theorem lw_31 {l : Launch} {E : JE} {n : Nat} {q i : Int} {a b c : JV} {σ : JM} (hL : E.2.2.2.2.1 ≤ 2048) (hI : jINV (i + 1) σ) (i0 : 0 ≤ i) (i4 : i + 4 ≤ (E.2.2.2.2.1 : Int)) (hn : 1 ≤ n) (next : jNx l E n q i) : V l E mL_law 100 n jQt jno 1683 [(7, q), (2, 0), (2, 7), (2, 55), (2, 56), (0, i), a, b, c] [] σ := by
  obtain ⟨p1, hp1⟩ : ∃ p, (E.2.2.2.2.2 (i + 1).toNat).toInt = p := ⟨_, rfl⟩
  obtain ⟨dL, dX, h1, h2, QL, hC, hk⟩ := op_addressOf (x := p1) hI
  refine V.aload_n dL_law_1683 rfl ?_
  refine V.aload_s dL_law_1684 rfl ?_
  refine V.iload dL_law_1685 rfl ?_
  refine V.iconst dL_law_1687 ⟨by decide, by decide⟩ ?_
  refine V.iadd dL_law_1688 ⟨(by omega), (by omega)⟩ ?_
  refine V.sld rfl hL dL_law_1689 (by omega) (by omega) ?_
  rw [hp1]
  refine V.aload_n dL_law_1690 rfl ?_
  refine V.callH [_, _, _] rfl kc_L_236 dL_law_1691 (d' := dL) h1 hn rfl (fun _ _ => hC) rfl (fun v τ hq hv => ?_) (fun X t hx => hx.elim)
  obtain ⟨k, rfl, QM, hX, hm⟩ := hk v τ hq
  refine V.istore (L' := [_, _, _, _, _, _, _, _, _]) dL_law_1694 rfl rfl ?_
  refine V.aload_n dL_law_1696 rfl ?_
  refine V.aload_s dL_law_1697 rfl ?_
  refine V.iload dL_law_1698 rfl ?_
  refine V.iconst dL_law_1700 ⟨by decide, by decide⟩ ?_
  refine V.iadd dL_law_1701 ⟨(by omega), (by omega)⟩ ?_
  refine V.sld rfl hL dL_law_1702 (by omega) (by omega) ?_
  rw [hp1]
  refine V.callV [_] rfl kc_L_238 rfl dL_law_1703 (d' := dX) h2 (Nat.zero_le _) rfl (fun _ _ => hX) rfl (fun w ρ hq2 hv2 => ?_) (fun X t hx => hx.elim)
  obtain ⟨x, rfl, h0, ho, hI2⟩ := hm w ρ hq2
  refine V.istore (L' := [_, _, _, _, _, _, _, _, _]) dL_law_1706 rfl rfl ?_
  refine V.aload_n dL_law_1708 rfl ?_
  refine V.cV [] rfl kc_L_136 rfl dL_law_1709 (by decide) rfl rfl (sp_X7_thrown) (fun _ => ?_)
  refine V.iload dL_law_1712 rfl ?_
  refine V.icmp_eq (tgt := 1719) dL_law_1714 (by decide) (fun he => ?_) (fun he => ?_)
  · refine V.iload dL_law_1719 rfl ?_
    refine V.if_ne (tgt := 1736) dL_law_1721 (by decide) (fun hz => ?_) (fun hz => ?_)
    · refine V.goto (tgt := 1982) dL_law_1736 (by decide) ?_
      exact next _ _ _ _ _ (by omega) (hI2.up (by omega))
    · refine V.aload_n dL_law_1724 rfl ?_
      refine V.iconst dL_law_1725 ⟨by decide, by decide⟩ ?_
      refine V.lald (cell := 55) 0 rfl rfl rfl rfl dL_law_1726 (by omega) (by omega) (fun _ => ?_)
      rw [show ρ 55 0 = x from ho hz]
      refine V.iload dL_law_1727 rfl ?_
      refine V.i2l dL_law_1729 ?_
      refine V.lcmp dL_law_1730 ?_
      rw [if_neg (Int.lt_irrefl x), if_pos rfl]
      refine V.if_eq (tgt := 1736) dL_law_1731 (by decide) (fun hy => ?_) (fun hy => ?_)
      · refine V.goto (tgt := 1982) dL_law_1736 (by decide) ?_
        exact next _ _ _ _ _ (by omega) (hI2.up (by omega))
      · exact absurd rfl hy
  · exact absurd h0 he
theorem lw_32 {l : Launch} {E : JE} {n : Nat} {q i : Int} {a b c : JV} {σ : JM} (hL : E.2.2.2.2.1 ≤ 2048) (hI : jINV (i + 1) σ) (i0 : 0 ≤ i) (i4 : i + 4 ≤ (E.2.2.2.2.1 : Int)) (hn : 1 ≤ n) (next : jNx l E n q i) : V l E mL_law 100 n jQt jno 1739 [(7, q), (2, 0), (2, 7), (2, 55), (2, 56), (0, i), a, b, c] [] σ := by
  obtain ⟨p1, hp1⟩ : ∃ p, (E.2.2.2.2.2 (i + 1).toNat).toInt = p := ⟨_, rfl⟩
  obtain ⟨dL, dX, h1, h2, QL, hC, hk⟩ := op_addressByAdding (x := p1) hI
  refine V.aload_n dL_law_1739 rfl ?_
  refine V.aload_s dL_law_1740 rfl ?_
  refine V.iload dL_law_1741 rfl ?_
  refine V.iconst dL_law_1743 ⟨by decide, by decide⟩ ?_
  refine V.iadd dL_law_1744 ⟨(by omega), (by omega)⟩ ?_
  refine V.sld rfl hL dL_law_1745 (by omega) (by omega) ?_
  rw [hp1]
  refine V.aload_n dL_law_1746 rfl ?_
  refine V.callH [_, _, _] rfl kc_L_239 dL_law_1747 (d' := dL) h1 hn rfl (fun _ _ => hC) rfl (fun v τ hq hv => ?_) (fun X t hx => hx.elim)
  obtain ⟨k, rfl, QM, hX, hm⟩ := hk v τ hq
  refine V.istore (L' := [_, _, _, _, _, _, _, _, _]) dL_law_1750 rfl rfl ?_
  refine V.aload_n dL_law_1752 rfl ?_
  refine V.aload_s dL_law_1753 rfl ?_
  refine V.iload dL_law_1754 rfl ?_
  refine V.iconst dL_law_1756 ⟨by decide, by decide⟩ ?_
  refine V.iadd dL_law_1757 ⟨(by omega), (by omega)⟩ ?_
  refine V.sld rfl hL dL_law_1758 (by omega) (by omega) ?_
  rw [hp1]
  refine V.callV [_] rfl kc_L_241 rfl dL_law_1759 (d' := dX) h2 (Nat.zero_le _) rfl (fun _ _ => hX) rfl (fun w ρ hq2 hv2 => ?_) (fun X t hx => hx.elim)
  obtain ⟨x, rfl, h0, ho, hI2⟩ := hm w ρ hq2
  refine V.istore (L' := [_, _, _, _, _, _, _, _, _]) dL_law_1762 rfl rfl ?_
  refine V.aload_n dL_law_1764 rfl ?_
  refine V.cV [] rfl kc_L_136 rfl dL_law_1765 (by decide) rfl rfl (sp_X7_thrown) (fun _ => ?_)
  refine V.iload dL_law_1768 rfl ?_
  refine V.icmp_eq (tgt := 1775) dL_law_1770 (by decide) (fun he => ?_) (fun he => ?_)
  · refine V.iload dL_law_1775 rfl ?_
    refine V.if_ne (tgt := 1792) dL_law_1777 (by decide) (fun hz => ?_) (fun hz => ?_)
    · refine V.goto (tgt := 1982) dL_law_1792 (by decide) ?_
      exact next _ _ _ _ _ (by omega) (hI2.up (by omega))
    · refine V.aload_n dL_law_1780 rfl ?_
      refine V.iconst dL_law_1781 ⟨by decide, by decide⟩ ?_
      refine V.lald (cell := 55) 0 rfl rfl rfl rfl dL_law_1782 (by omega) (by omega) (fun _ => ?_)
      rw [show ρ 55 0 = x from ho hz]
      refine V.iload dL_law_1783 rfl ?_
      refine V.i2l dL_law_1785 ?_
      refine V.lcmp dL_law_1786 ?_
      rw [if_neg (Int.lt_irrefl x), if_pos rfl]
      refine V.if_eq (tgt := 1792) dL_law_1787 (by decide) (fun hy => ?_) (fun hy => ?_)
      · refine V.goto (tgt := 1982) dL_law_1792 (by decide) ?_
        exact next _ _ _ _ _ (by omega) (hI2.up (by omega))
      · exact absurd rfl hy
  · exact absurd h0 he
theorem lw_33 {l : Launch} {E : JE} {n : Nat} {q i : Int} {a b c : JV} {σ : JM} (hL : E.2.2.2.2.1 ≤ 2048) (hI : jINV (i + 1) σ) (i0 : 0 ≤ i) (i4 : i + 4 ≤ (E.2.2.2.2.1 : Int)) (hn : 1 ≤ n) (next : jNx l E n q i) : V l E mL_law 100 n jQt jno 1795 [(7, q), (2, 0), (2, 7), (2, 55), (2, 56), (0, i), a, b, c] [] σ := by
  obtain ⟨p1, hp1⟩ : ∃ p, (E.2.2.2.2.2 (i + 1).toNat).toInt = p := ⟨_, rfl⟩
  obtain ⟨dL, dX, h1, h2, QL, hC, hk⟩ := op_targetOf (x := p1) hI
  refine V.aload_n dL_law_1795 rfl ?_
  refine V.aload_s dL_law_1796 rfl ?_
  refine V.iload dL_law_1797 rfl ?_
  refine V.iconst dL_law_1799 ⟨by decide, by decide⟩ ?_
  refine V.iadd dL_law_1800 ⟨(by omega), (by omega)⟩ ?_
  refine V.sld rfl hL dL_law_1801 (by omega) (by omega) ?_
  rw [hp1]
  refine V.aload_n dL_law_1802 rfl ?_
  refine V.callH [_, _, _] rfl kc_L_242 dL_law_1803 (d' := dL) h1 hn rfl (fun _ _ => hC) rfl (fun v τ hq hv => ?_) (fun X t hx => hx.elim)
  obtain ⟨k, rfl, QM, hX, hm⟩ := hk v τ hq
  refine V.istore (L' := [_, _, _, _, _, _, _, _, _]) dL_law_1806 rfl rfl ?_
  refine V.aload_n dL_law_1808 rfl ?_
  refine V.aload_s dL_law_1809 rfl ?_
  refine V.iload dL_law_1810 rfl ?_
  refine V.iconst dL_law_1812 ⟨by decide, by decide⟩ ?_
  refine V.iadd dL_law_1813 ⟨(by omega), (by omega)⟩ ?_
  refine V.sld rfl hL dL_law_1814 (by omega) (by omega) ?_
  rw [hp1]
  refine V.callV [_] rfl kc_L_244 rfl dL_law_1815 (d' := dX) h2 (Nat.zero_le _) rfl (fun _ _ => hX) rfl (fun w ρ hq2 hv2 => ?_) (fun X t hx => hx.elim)
  obtain ⟨x, rfl, h0, ho, hI2⟩ := hm w ρ hq2
  refine V.istore (L' := [_, _, _, _, _, _, _, _, _]) dL_law_1818 rfl rfl ?_
  refine V.aload_n dL_law_1820 rfl ?_
  refine V.cV [] rfl kc_L_136 rfl dL_law_1821 (by decide) rfl rfl (sp_X7_thrown) (fun _ => ?_)
  refine V.iload dL_law_1824 rfl ?_
  refine V.icmp_eq (tgt := 1831) dL_law_1826 (by decide) (fun he => ?_) (fun he => ?_)
  · refine V.iload dL_law_1831 rfl ?_
    refine V.if_ne (tgt := 1848) dL_law_1833 (by decide) (fun hz => ?_) (fun hz => ?_)
    · refine V.goto (tgt := 1982) dL_law_1848 (by decide) ?_
      exact next _ _ _ _ _ (by omega) (hI2.up (by omega))
    · refine V.aload_n dL_law_1836 rfl ?_
      refine V.iconst dL_law_1837 ⟨by decide, by decide⟩ ?_
      refine V.lald (cell := 55) 0 rfl rfl rfl rfl dL_law_1838 (by omega) (by omega) (fun _ => ?_)
      rw [show ρ 55 0 = x from ho hz]
      refine V.iload dL_law_1839 rfl ?_
      refine V.i2l dL_law_1841 ?_
      refine V.lcmp dL_law_1842 ?_
      rw [if_neg (Int.lt_irrefl x), if_pos rfl]
      refine V.if_eq (tgt := 1848) dL_law_1843 (by decide) (fun hy => ?_) (fun hy => ?_)
      · refine V.goto (tgt := 1982) dL_law_1848 (by decide) ?_
        exact next _ _ _ _ _ (by omega) (hI2.up (by omega))
      · exact absurd rfl hy
  · exact absurd h0 he
theorem lw_34 {l : Launch} {E : JE} {n : Nat} {q i : Int} {a b c : JV} {σ : JM} (hL : E.2.2.2.2.1 ≤ 2048) (hI : jINV (i + 1) σ) (i0 : 0 ≤ i) (i4 : i + 4 ≤ (E.2.2.2.2.1 : Int)) (hn : 1 ≤ n) (next : jNx l E n q i) : V l E mL_law 100 n jQt jno 1851 [(7, q), (2, 0), (2, 7), (2, 55), (2, 56), (0, i), a, b, c] [] σ := by
  obtain ⟨dL, dX, h1, h2, QL, hC, hk⟩ := op_shortShare hI
  refine V.aload_n dL_law_1851 rfl ?_
  refine V.aload dL_law_1852 rfl ?_
  refine V.callH [_, _] rfl kc_L_245 dL_law_1854 (d' := dL) h1 hn rfl (fun _ _ => hC) rfl (fun v τ hq hv => ?_) (fun X t hx => hx.elim)
  obtain ⟨k, rfl, QM, hX, hm⟩ := hk v τ hq
  refine V.istore (L' := [_, _, _, _, _, _, _, _, _]) dL_law_1857 rfl rfl ?_
  refine V.aload_n dL_law_1859 rfl ?_
  refine V.callV [] rfl kc_L_248 rfl dL_law_1860 (d' := dX) h2 (Nat.zero_le _) rfl (fun _ _ => hX) rfl (fun w ρ hq2 hv2 => ?_) (fun X t hx => hx.elim)
  obtain ⟨x, rfl, h0, ho, hI2⟩ := hm w ρ hq2
  refine V.fstore (L' := [_, _, _, _, _, _, _, _, _]) dL_law_1863 rfl rfl ?_
  refine V.aload_n dL_law_1865 rfl ?_
  refine V.cV [] rfl kc_L_136 rfl dL_law_1866 (by decide) rfl rfl (sp_X7_thrown) (fun _ => ?_)
  refine V.iload dL_law_1869 rfl ?_
  refine V.icmp_eq (tgt := 1876) dL_law_1871 (by decide) (fun he => ?_) (fun he => ?_)
  · refine V.iload dL_law_1876 rfl ?_
    refine V.if_ne (tgt := 1914) dL_law_1878 (by decide) (fun hz => ?_) (fun hz => ?_)
    · refine V.goto (tgt := 1982) dL_law_1914 (by decide) ?_
      exact next _ _ _ _ _ (by omega) (hI2.up (by omega))
    · refine V.aload dL_law_1881 rfl ?_
      refine V.iconst dL_law_1883 ⟨by decide, by decide⟩ ?_
      refine V.dald (cell := 56) 0 rfl rfl rfl rfl dL_law_1884 (by omega) (by omega) ?_
      rw [(ho hz).1]
      refine V.fload dL_law_1885 rfl ?_
      refine V.f2d dL_law_1887 (jcvf_n (ho hz).2) ?_
      refine V.dcmp dL_law_1888 ?_
      rw [show (Op.cmpValue (FP.dcmp (jD (jcvf x)) (jD (jcvf x))) .l).toInt = 0 from by rw [(ho hz).2.cmp]; decide]
      refine V.if_eq (tgt := 1914) dL_law_1889 (by decide) (fun hy => ?_) (fun hy => ?_)
      · refine V.goto (tgt := 1982) dL_law_1914 (by decide) ?_
        exact next _ _ _ _ _ (by omega) (hI2.up (by omega))
      · exact absurd rfl hy
  · exact absurd h0 he
theorem lw_35 {l : Launch} {E : JE} {n : Nat} {q i : Int} {a b c : JV} {σ : JM} (hL : E.2.2.2.2.1 ≤ 2048) (hI : jINV (i + 1) σ) (i0 : 0 ≤ i) (i4 : i + 4 ≤ (E.2.2.2.2.1 : Int)) (hn : 1 ≤ n) (next : jNx l E n q i) : V l E mL_law 100 n jQt jno 1917 [(7, q), (2, 0), (2, 7), (2, 55), (2, 56), (0, i), a, b, c] [] σ := by
  obtain ⟨dL, dX, h1, h2, QL, hC, hk⟩ := op_meanWord hI
  refine V.aload_n dL_law_1917 rfl ?_
  refine V.aload dL_law_1918 rfl ?_
  refine V.callH [_, _] rfl kc_L_249 dL_law_1920 (d' := dL) h1 hn rfl (fun _ _ => hC) rfl (fun v τ hq hv => ?_) (fun X t hx => hx.elim)
  obtain ⟨k, rfl, QM, hX, hm⟩ := hk v τ hq
  refine V.istore (L' := [_, _, _, _, _, _, _, _, _]) dL_law_1923 rfl rfl ?_
  refine V.aload_n dL_law_1925 rfl ?_
  refine V.callV [] rfl kc_L_251 rfl dL_law_1926 (d' := dX) h2 (Nat.zero_le _) rfl (fun _ _ => hX) rfl (fun w ρ hq2 hv2 => ?_) (fun X t hx => hx.elim)
  obtain ⟨x, rfl, h0, ho, hI2⟩ := hm w ρ hq2
  refine V.dstore (L' := [_, _, _, _, _, _, _, _, _]) dL_law_1929 rfl rfl ?_
  refine V.aload_n dL_law_1931 rfl ?_
  refine V.cV [] rfl kc_L_136 rfl dL_law_1932 (by decide) rfl rfl (sp_X7_thrown) (fun _ => ?_)
  refine V.iload dL_law_1935 rfl ?_
  refine V.icmp_eq (tgt := 1942) dL_law_1937 (by decide) (fun he => ?_) (fun he => ?_)
  · refine V.iload dL_law_1942 rfl ?_
    refine V.if_ne (tgt := 1979) dL_law_1944 (by decide) (fun hz => ?_) (fun hz => ?_)
    · refine V.goto (tgt := 1982) dL_law_1979 (by decide) ?_
      exact next _ _ _ _ _ (by omega) (hI2.up (by omega))
    · refine V.aload dL_law_1947 rfl ?_
      refine V.iconst dL_law_1949 ⟨by decide, by decide⟩ ?_
      refine V.dald (cell := 56) 0 rfl rfl rfl rfl dL_law_1950 (by omega) (by omega) ?_
      rw [(ho hz).1]
      refine V.dload dL_law_1951 rfl ?_
      refine V.dcmp dL_law_1953 ?_
      rw [show (Op.cmpValue (FP.dcmp (jD (jid x)) (jD (jid x))) .l).toInt = 0 from by rw [(ho hz).2.cmp]; decide]
      refine V.if_eq (tgt := 1979) dL_law_1954 (by decide) (fun hy => ?_) (fun hy => ?_)
      · refine V.goto (tgt := 1982) dL_law_1979 (by decide) ?_
        exact next _ _ _ _ _ (by omega) (hI2.up (by omega))
      · exact absurd rfl hy
  · exact absurd h0 he
