theorem lw_sw {l : Launch} {E : JE} {n : Nat} {q i s : Int} {a b c : JV} {σ : JM} (hL : E.2.2.2.2.1 ≤ 2048) (hI : jINV (i + 1) σ) (i0 : 0 ≤ i) (i4 : i + 4 ≤ (E.2.2.2.2.1 : Int)) (hn : 1 ≤ n) (next : jNx l E n q i) (s0 : 0 ≤ s) : V l E mL_law 100 n jQt jno 44 [(7, q), (2, 0), (2, 7), (2, 55), (2, 56), (0, i), a, b, c] [(0, s)] σ := by
  by_cases h : s ≤ 35
  · have e : s = 0 ∨ s = 1 ∨ s = 2 ∨ s = 3 ∨ s = 4 ∨ s = 5 ∨ s = 6 ∨ s = 7 ∨ s = 8 ∨ s = 9 ∨ s = 10 ∨ s = 11 ∨ s = 12 ∨ s = 13 ∨ s = 14 ∨ s = 15 ∨ s = 16 ∨ s = 17 ∨ s = 18 ∨ s = 19 ∨ s = 20 ∨ s = 21 ∨ s = 22 ∨ s = 23 ∨ s = 24 ∨ s = 25 ∨ s = 26 ∨ s = 27 ∨ s = 28 ∨ s = 29 ∨ s = 30 ∨ s = 31 ∨ s = 32 ∨ s = 33 ∨ s = 34 ∨ s = 35 := by omega
    rcases e with rfl | rfl | rfl | rfl | rfl | rfl | rfl | rfl | rfl | rfl | rfl | rfl | rfl | rfl | rfl | rfl | rfl | rfl | rfl | rfl | rfl | rfl | rfl | rfl | rfl | rfl | rfl | rfl | rfl | rfl | rfl | rfl | rfl | rfl | rfl | rfl
    · exact V.tableIn (tgt := 204) (off := 160) dL_law_44 (by decide) (by decide) rfl (by decide) (lw_0 hL hI i0 i4 hn next)
    · exact V.tableIn (tgt := 260) (off := 216) dL_law_44 (by decide) (by decide) rfl (by decide) (lw_1 hL hI i0 i4 hn next)
    · exact V.tableIn (tgt := 316) (off := 272) dL_law_44 (by decide) (by decide) rfl (by decide) (lw_2 hL hI i0 i4 hn next)
    · exact V.tableIn (tgt := 384) (off := 340) dL_law_44 (by decide) (by decide) rfl (by decide) (lw_3 hL hI i0 i4 hn next)
    · exact V.tableIn (tgt := 440) (off := 396) dL_law_44 (by decide) (by decide) rfl (by decide) (lw_4 hL hI i0 i4 hn next)
    · exact V.tableIn (tgt := 496) (off := 452) dL_law_44 (by decide) (by decide) rfl (by decide) (lw_5 hL hI i0 i4 hn next)
    · exact V.tableIn (tgt := 552) (off := 508) dL_law_44 (by decide) (by decide) rfl (by decide) (lw_6 hL hI i0 i4 hn next)
    · exact V.tableIn (tgt := 632) (off := 588) dL_law_44 (by decide) (by decide) rfl (by decide) (lw_7 hL hI i0 i4 hn next)
    · exact V.tableIn (tgt := 676) (off := 632) dL_law_44 (by decide) (by decide) rfl (by decide) (lw_8 hL hI i0 i4 hn next)
    · exact V.tableIn (tgt := 732) (off := 688) dL_law_44 (by decide) (by decide) rfl (by decide) (lw_9 hL hI i0 i4 hn next)
    · exact V.tableIn (tgt := 800) (off := 756) dL_law_44 (by decide) (by decide) rfl (by decide) (lw_10 hL hI i0 i4 hn next)
    · exact V.tableIn (tgt := 844) (off := 800) dL_law_44 (by decide) (by decide) rfl (by decide) (lw_11 hL hI i0 i4 hn next)
    · exact V.tableIn (tgt := 888) (off := 844) dL_law_44 (by decide) (by decide) rfl (by decide) (lw_12 hL hI i0 i4 hn next)
    · exact V.tableIn (tgt := 932) (off := 888) dL_law_44 (by decide) (by decide) rfl (by decide) (lw_13 hL hI i0 i4 hn next)
    · exact V.tableIn (tgt := 945) (off := 901) dL_law_44 (by decide) (by decide) rfl (by decide) (lw_14 hL hI i0 i4 hn next)
    · exact V.tableIn (tgt := 958) (off := 914) dL_law_44 (by decide) (by decide) rfl (by decide) (lw_15 hL hI i0 i4 hn next)
    · exact V.tableIn (tgt := 971) (off := 927) dL_law_44 (by decide) (by decide) rfl (by decide) (lw_16 hL hI i0 i4 hn next)
    · exact V.tableIn (tgt := 984) (off := 940) dL_law_44 (by decide) (by decide) rfl (by decide) (lw_17 hL hI i0 i4 hn next)
    · exact V.tableIn (tgt := 1028) (off := 984) dL_law_44 (by decide) (by decide) rfl (by decide) (lw_18 hL hI i0 i4 hn next)
    · exact V.tableIn (tgt := 1072) (off := 1028) dL_law_44 (by decide) (by decide) rfl (by decide) (lw_19 hL hI i0 i4 hn next)
    · exact V.tableIn (tgt := 1115) (off := 1071) dL_law_44 (by decide) (by decide) rfl (by decide) (lw_20 hL hI i0 i4 hn next)
    · exact V.tableIn (tgt := 1159) (off := 1115) dL_law_44 (by decide) (by decide) rfl (by decide) (lw_21 hL hI i0 i4 hn next)
    · exact V.tableIn (tgt := 1215) (off := 1171) dL_law_44 (by decide) (by decide) rfl (by decide) (lw_22 hL hI i0 i4 hn next)
    · exact V.tableIn (tgt := 1259) (off := 1215) dL_law_44 (by decide) (by decide) rfl (by decide) (lw_23 hL hI i0 i4 hn next)
    · exact V.tableIn (tgt := 1327) (off := 1283) dL_law_44 (by decide) (by decide) rfl (by decide) (lw_24 hL hI i0 i4 hn next)
    · exact V.tableIn (tgt := 1383) (off := 1339) dL_law_44 (by decide) (by decide) rfl (by decide) (lw_25 hL hI i0 i4 hn next)
    · exact V.tableIn (tgt := 1427) (off := 1383) dL_law_44 (by decide) (by decide) rfl (by decide) (lw_26 hL hI i0 i4 hn next)
    · exact V.tableIn (tgt := 1471) (off := 1427) dL_law_44 (by decide) (by decide) rfl (by decide) (lw_27 hL hI i0 i4 hn next)
    · exact V.tableIn (tgt := 1515) (off := 1471) dL_law_44 (by decide) (by decide) rfl (by decide) (lw_28 hL hI i0 i4 hn next)
    · exact V.tableIn (tgt := 1571) (off := 1527) dL_law_44 (by decide) (by decide) rfl (by decide) (lw_29 hL hI i0 i4 hn next)
    · exact V.tableIn (tgt := 1627) (off := 1583) dL_law_44 (by decide) (by decide) rfl (by decide) (lw_30 hL hI i0 i4 hn next)
    · exact V.tableIn (tgt := 1683) (off := 1639) dL_law_44 (by decide) (by decide) rfl (by decide) (lw_31 hL hI i0 i4 hn next)
    · exact V.tableIn (tgt := 1739) (off := 1695) dL_law_44 (by decide) (by decide) rfl (by decide) (lw_32 hL hI i0 i4 hn next)
    · exact V.tableIn (tgt := 1795) (off := 1751) dL_law_44 (by decide) (by decide) rfl (by decide) (lw_33 hL hI i0 i4 hn next)
    · exact V.tableIn (tgt := 1851) (off := 1807) dL_law_44 (by decide) (by decide) rfl (by decide) (lw_34 hL hI i0 i4 hn next)
    · exact V.tableIn (tgt := 1917) (off := 1873) dL_law_44 (by decide) (by decide) rfl (by decide) (lw_35 hL hI i0 i4 hn next)
  · exact V.tableOut (tgt := 1982) dL_law_44 (Or.inr (by omega)) (by decide) (next a b c n σ (by omega) (hI.up (by omega)))
theorem lw_loop {l : Launch} {E : JE} {q : Int} (hL : E.2.2.2.2.1 ≤ 2048) : ∀ (m : Nat) (i : Int) (n : Nat) (a b c : JV) (σ : JM), 0 ≤ i → i ≤ (E.2.2.2.2.1 : Int) → (E.2.2.2.2.1 : Int) - i < m → (E.2.2.2.2.1 : Int) ≤ i + 4 * n + 3 → jINV (i + 1) σ → V l E mL_law 100 n jQt jno 28 [(7, q), (2, 0), (2, 7), (2, 55), (2, 56), (0, i), a, b, c] [] σ := by
  intro m
  induction m with
  | zero => intro i n a b c σ h0 h1 h2; omega
  | succ m ih =>
    intro i n a b c σ h0 h1 h2 h3 hI
    refine V.iload dL_law_28 rfl ?_
    refine V.aload_s dL_law_30 rfl ?_
    refine V.slen rfl hL dL_law_31 ?_
    refine V.iconst dL_law_32 ⟨by decide, by decide⟩ ?_
    refine V.isub dL_law_33 ⟨(by omega), (by omega)⟩ ?_
    refine V.icmp_gt (tgt := 1988) dL_law_34 (by decide) (fun h => ?_) (fun h => ?_)
    · refine V.iconst dL_law_1988 ⟨by decide, by decide⟩ ?_
      exact V.iret (jret_z dL_law_1989 rfl (by decide)) rfl
    · refine V.aload_s dL_law_37 rfl ?_
      refine V.iload dL_law_38 rfl ?_
      refine V.sld rfl hL dL_law_40 (by omega) (by omega) ?_
      refine V.bipush dL_law_41 ⟨by decide, by decide⟩ ?_
      refine V.iand64 dL_law_43 ?_
      refine lw_sw hL hI h0 (by omega) (by omega) (fun a b c n' σ' hn hI' => ?_) (Int.emod_nonneg _ (by decide))
      refine V.iinc (L' := [_, _, _, _, _, _, _, _, _]) dL_law_1982 rfl ⟨(by omega), (by omega)⟩ rfl ?_
      refine V.goto (tgt := 28) dL_law_1985 (by decide) ?_
      exact ih (i + 4) n' a b c σ' (by omega) (by omega) (by omega) (by omega) (hI'.up (by omega))
