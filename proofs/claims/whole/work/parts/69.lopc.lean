theorem lw_17 {l : Launch} {E : JE} {n : Nat} {q i : Int} {a b c : JV} {σ : JM} (hL : E.2.2.2.2.1 ≤ 2048) (hI : jINV (i + 1) σ) (i0 : 0 ≤ i) (i4 : i + 4 ≤ (E.2.2.2.2.1 : Int)) (hn : 1 ≤ n) (next : jNx l E n q i) : V l E mL_law 100 n jQt jno 984 [(7, q), (2, 0), (2, 7), (2, 55), (2, 56), (0, i), a, b, c] [] σ := by
  obtain ⟨dL, dX, h1, h2, QL, hC, hk⟩ := op_fault hI
  refine V.aload_n dL_law_984 rfl ?_
  refine V.aload_n dL_law_985 rfl ?_
  refine V.callH [_, _] rfl kc_L_194 dL_law_986 (d' := dL) h1 hn rfl (fun _ _ => hC) rfl (fun v τ hq hv => ?_) (fun X t hx => hx.elim)
  obtain ⟨k, rfl, QM, hX, hm⟩ := hk v τ hq
  refine V.istore (L' := [_, _, _, _, _, _, _, _, _]) dL_law_989 rfl rfl ?_
  refine V.aload_n dL_law_991 rfl ?_
  refine V.callV [] rfl kc_L_196 rfl dL_law_992 (d' := dX) h2 (Nat.zero_le _) rfl (fun _ _ => hX) rfl (fun w ρ hq2 hv2 => ?_) (fun X t hx => hx.elim)
  obtain ⟨x, rfl, h0, ho, hI2⟩ := hm w ρ hq2
  refine V.istore (L' := [_, _, _, _, _, _, _, _, _]) dL_law_995 rfl rfl ?_
  refine V.aload_n dL_law_997 rfl ?_
  refine V.cV [] rfl kc_L_136 rfl dL_law_998 (by decide) rfl rfl (sp_X7_thrown) (fun _ => ?_)
  refine V.iload dL_law_1001 rfl ?_
  refine V.icmp_eq (tgt := 1008) dL_law_1003 (by decide) (fun he => ?_) (fun he => ?_)
  · refine V.iload dL_law_1008 rfl ?_
    refine V.if_ne (tgt := 1025) dL_law_1010 (by decide) (fun hz => ?_) (fun hz => ?_)
    · refine V.goto (tgt := 1982) dL_law_1025 (by decide) ?_
      exact next _ _ _ _ _ (by omega) (hI2.up (by omega))
    · refine V.aload_n dL_law_1013 rfl ?_
      refine V.iconst dL_law_1014 ⟨by decide, by decide⟩ ?_
      refine V.lald (cell := 55) 0 rfl rfl rfl rfl dL_law_1015 (by omega) (by omega) (fun _ => ?_)
      rw [show ρ 55 0 = x from ho hz]
      refine V.iload dL_law_1016 rfl ?_
      refine V.i2l dL_law_1018 ?_
      refine V.lcmp dL_law_1019 ?_
      rw [if_neg (Int.lt_irrefl x), if_pos rfl]
      refine V.if_eq (tgt := 1025) dL_law_1020 (by decide) (fun hy => ?_) (fun hy => ?_)
      · refine V.goto (tgt := 1982) dL_law_1025 (by decide) ?_
        exact next _ _ _ _ _ (by omega) (hI2.up (by omega))
      · exact absurd rfl hy
  · exact absurd h0 he
theorem lw_18 {l : Launch} {E : JE} {n : Nat} {q i : Int} {a b c : JV} {σ : JM} (hL : E.2.2.2.2.1 ≤ 2048) (hI : jINV (i + 1) σ) (i0 : 0 ≤ i) (i4 : i + 4 ≤ (E.2.2.2.2.1 : Int)) (hn : 1 ≤ n) (next : jNx l E n q i) : V l E mL_law 100 n jQt jno 1028 [(7, q), (2, 0), (2, 7), (2, 55), (2, 56), (0, i), a, b, c] [] σ := by
  obtain ⟨dL, dX, h1, h2, QL, hC, hk⟩ := op_faultLine hI
  refine V.aload_n dL_law_1028 rfl ?_
  refine V.aload_n dL_law_1029 rfl ?_
  refine V.callH [_, _] rfl kc_L_197 dL_law_1030 (d' := dL) h1 hn rfl (fun _ _ => hC) rfl (fun v τ hq hv => ?_) (fun X t hx => hx.elim)
  obtain ⟨k, rfl, QM, hX, hm⟩ := hk v τ hq
  refine V.istore (L' := [_, _, _, _, _, _, _, _, _]) dL_law_1033 rfl rfl ?_
  refine V.aload_n dL_law_1035 rfl ?_
  refine V.callV [] rfl kc_L_199 rfl dL_law_1036 (d' := dX) h2 (Nat.zero_le _) rfl (fun _ _ => hX) rfl (fun w ρ hq2 hv2 => ?_) (fun X t hx => hx.elim)
  obtain ⟨x, rfl, h0, ho, hI2⟩ := hm w ρ hq2
  refine V.istore (L' := [_, _, _, _, _, _, _, _, _]) dL_law_1039 rfl rfl ?_
  refine V.aload_n dL_law_1041 rfl ?_
  refine V.cV [] rfl kc_L_136 rfl dL_law_1042 (by decide) rfl rfl (sp_X7_thrown) (fun _ => ?_)
  refine V.iload dL_law_1045 rfl ?_
  refine V.icmp_eq (tgt := 1052) dL_law_1047 (by decide) (fun he => ?_) (fun he => ?_)
  · refine V.iload dL_law_1052 rfl ?_
    refine V.if_ne (tgt := 1069) dL_law_1054 (by decide) (fun hz => ?_) (fun hz => ?_)
    · refine V.goto (tgt := 1982) dL_law_1069 (by decide) ?_
      exact next _ _ _ _ _ (by omega) (hI2.up (by omega))
    · refine V.aload_n dL_law_1057 rfl ?_
      refine V.iconst dL_law_1058 ⟨by decide, by decide⟩ ?_
      refine V.lald (cell := 55) 0 rfl rfl rfl rfl dL_law_1059 (by omega) (by omega) (fun _ => ?_)
      rw [show ρ 55 0 = x from ho hz]
      refine V.iload dL_law_1060 rfl ?_
      refine V.i2l dL_law_1062 ?_
      refine V.lcmp dL_law_1063 ?_
      rw [if_neg (Int.lt_irrefl x), if_pos rfl]
      refine V.if_eq (tgt := 1069) dL_law_1064 (by decide) (fun hy => ?_) (fun hy => ?_)
      · refine V.goto (tgt := 1982) dL_law_1069 (by decide) ?_
        exact next _ _ _ _ _ (by omega) (hI2.up (by omega))
      · exact absurd rfl hy
  · exact absurd h0 he
theorem lw_19 {l : Launch} {E : JE} {n : Nat} {q i : Int} {a b c : JV} {σ : JM} (hL : E.2.2.2.2.1 ≤ 2048) (hI : jINV (i + 1) σ) (i0 : 0 ≤ i) (i4 : i + 4 ≤ (E.2.2.2.2.1 : Int)) (hn : 1 ≤ n) (next : jNx l E n q i) : V l E mL_law 100 n jQt jno 1072 [(7, q), (2, 0), (2, 7), (2, 55), (2, 56), (0, i), a, b, c] [] σ := by
  obtain ⟨dL, dX, h1, h2, QL, hC, hk⟩ := op_itemsByCounting hI (by omega)
  refine V.aload_n dL_law_1072 rfl ?_
  refine V.aload_n dL_law_1073 rfl ?_
  refine V.callH [_, _] rfl kc_L_200 dL_law_1074 (d' := dL) h1 hn rfl (fun _ _ => hC) rfl (fun v τ hq hv => ?_) (fun X t hx => hx.elim)
  obtain ⟨k, rfl, QM, hX, hm⟩ := hk v τ hq
  refine V.istore (L' := [_, _, _, _, _, _, _, _, _]) dL_law_1077 rfl rfl ?_
  refine V.aload_n dL_law_1079 rfl ?_
  refine V.callV [] rfl kc_L_202 rfl dL_law_1080 (d' := dX) h2 (Nat.zero_le _) rfl (fun _ _ => hX) rfl (fun w ρ hq2 hv2 => ?_) (fun X t hx => hx.elim)
  obtain ⟨x, rfl, h0, ho, hI2⟩ := hm w ρ hq2
  refine V.lstore (L' := [_, _, _, _, _, _, _, _, _]) dL_law_1083 rfl rfl ?_
  refine V.aload_n dL_law_1085 rfl ?_
  refine V.cV [] rfl kc_L_136 rfl dL_law_1086 (by decide) rfl rfl (sp_X7_thrown) (fun _ => ?_)
  refine V.iload dL_law_1089 rfl ?_
  refine V.icmp_eq (tgt := 1096) dL_law_1091 (by decide) (fun he => ?_) (fun he => ?_)
  · refine V.iload dL_law_1096 rfl ?_
    refine V.if_ne (tgt := 1112) dL_law_1098 (by decide) (fun hz => ?_) (fun hz => ?_)
    · refine V.goto (tgt := 1982) dL_law_1112 (by decide) ?_
      exact next _ _ _ _ _ (by omega) (hI2.up (by omega))
    · refine V.aload_n dL_law_1101 rfl ?_
      refine V.iconst dL_law_1102 ⟨by decide, by decide⟩ ?_
      refine V.lald (cell := 55) 0 rfl rfl rfl rfl dL_law_1103 (by omega) (by omega) (fun _ => ?_)
      rw [show ρ 55 0 = x from ho hz]
      refine V.lload dL_law_1104 rfl ?_
      refine V.lcmp dL_law_1106 ?_
      rw [if_neg (Int.lt_irrefl x), if_pos rfl]
      refine V.if_eq (tgt := 1112) dL_law_1107 (by decide) (fun hy => ?_) (fun hy => ?_)
      · refine V.goto (tgt := 1982) dL_law_1112 (by decide) ?_
        exact next _ _ _ _ _ (by omega) (hI2.up (by omega))
      · exact absurd rfl hy
  · exact absurd h0 he
theorem lw_20 {l : Launch} {E : JE} {n : Nat} {q i : Int} {a b c : JV} {σ : JM} (hL : E.2.2.2.2.1 ≤ 2048) (hI : jINV (i + 1) σ) (i0 : 0 ≤ i) (i4 : i + 4 ≤ (E.2.2.2.2.1 : Int)) (hn : 1 ≤ n) (next : jNx l E n q i) : V l E mL_law 100 n jQt jno 1115 [(7, q), (2, 0), (2, 7), (2, 55), (2, 56), (0, i), a, b, c] [] σ := by
  obtain ⟨dL, dX, h1, h2, QL, hC, hk⟩ := op_words hI
  refine V.aload_n dL_law_1115 rfl ?_
  refine V.aload_n dL_law_1116 rfl ?_
  refine V.callH [_, _] rfl kc_L_203 dL_law_1117 (d' := dL) h1 hn rfl (fun _ _ => hC) rfl (fun v τ hq hv => ?_) (fun X t hx => hx.elim)
  obtain ⟨k, rfl, QM, hX, hm⟩ := hk v τ hq
  refine V.istore (L' := [_, _, _, _, _, _, _, _, _]) dL_law_1120 rfl rfl ?_
  refine V.aload_n dL_law_1122 rfl ?_
  refine V.callV [] rfl kc_L_205 rfl dL_law_1123 (d' := dX) h2 (Nat.zero_le _) rfl (fun _ _ => hX) rfl (fun w ρ hq2 hv2 => ?_) (fun X t hx => hx.elim)
  obtain ⟨x, rfl, h0, ho, hI2⟩ := hm w ρ hq2
  refine V.istore (L' := [_, _, _, _, _, _, _, _, _]) dL_law_1126 rfl rfl ?_
  refine V.aload_n dL_law_1128 rfl ?_
  refine V.cV [] rfl kc_L_136 rfl dL_law_1129 (by decide) rfl rfl (sp_X7_thrown) (fun _ => ?_)
  refine V.iload dL_law_1132 rfl ?_
  refine V.icmp_eq (tgt := 1139) dL_law_1134 (by decide) (fun he => ?_) (fun he => ?_)
  · refine V.iload dL_law_1139 rfl ?_
    refine V.if_ne (tgt := 1156) dL_law_1141 (by decide) (fun hz => ?_) (fun hz => ?_)
    · refine V.goto (tgt := 1982) dL_law_1156 (by decide) ?_
      exact next _ _ _ _ _ (by omega) (hI2.up (by omega))
    · refine V.aload_n dL_law_1144 rfl ?_
      refine V.iconst dL_law_1145 ⟨by decide, by decide⟩ ?_
      refine V.lald (cell := 55) 0 rfl rfl rfl rfl dL_law_1146 (by omega) (by omega) (fun _ => ?_)
      rw [show ρ 55 0 = x from ho hz]
      refine V.iload dL_law_1147 rfl ?_
      refine V.i2l dL_law_1149 ?_
      refine V.lcmp dL_law_1150 ?_
      rw [if_neg (Int.lt_irrefl x), if_pos rfl]
      refine V.if_eq (tgt := 1156) dL_law_1151 (by decide) (fun hy => ?_) (fun hy => ?_)
      · refine V.goto (tgt := 1982) dL_law_1156 (by decide) ?_
        exact next _ _ _ _ _ (by omega) (hI2.up (by omega))
      · exact absurd rfl hy
  · exact absurd h0 he
theorem lw_21 {l : Launch} {E : JE} {n : Nat} {q i : Int} {a b c : JV} {σ : JM} (hL : E.2.2.2.2.1 ≤ 2048) (hI : jINV (i + 1) σ) (i0 : 0 ≤ i) (i4 : i + 4 ≤ (E.2.2.2.2.1 : Int)) (hn : 1 ≤ n) (next : jNx l E n q i) : V l E mL_law 100 n jQt jno 1159 [(7, q), (2, 0), (2, 7), (2, 55), (2, 56), (0, i), a, b, c] [] σ := by
  obtain ⟨p1, hp1⟩ : ∃ p, (E.2.2.2.2.2 (i + 1).toNat).toInt = p := ⟨_, rfl⟩
  obtain ⟨dL, dX, h1, h2, QL, hC, hk⟩ := op_wordAt (x := p1) hI
  refine V.aload_n dL_law_1159 rfl ?_
  refine V.aload_s dL_law_1160 rfl ?_
  refine V.iload dL_law_1161 rfl ?_
  refine V.iconst dL_law_1163 ⟨by decide, by decide⟩ ?_
  refine V.iadd dL_law_1164 ⟨(by omega), (by omega)⟩ ?_
  refine V.sld rfl hL dL_law_1165 (by omega) (by omega) ?_
  rw [hp1]
  refine V.aload_n dL_law_1166 rfl ?_
  refine V.callH [_, _, _] rfl kc_L_206 dL_law_1167 (d' := dL) h1 hn rfl (fun _ _ => hC) rfl (fun v τ hq hv => ?_) (fun X t hx => hx.elim)
  obtain ⟨k, rfl, QM, hX, hm⟩ := hk v τ hq
  refine V.istore (L' := [_, _, _, _, _, _, _, _, _]) dL_law_1170 rfl rfl ?_
  refine V.aload_n dL_law_1172 rfl ?_
  refine V.aload_s dL_law_1173 rfl ?_
  refine V.iload dL_law_1174 rfl ?_
  refine V.iconst dL_law_1176 ⟨by decide, by decide⟩ ?_
  refine V.iadd dL_law_1177 ⟨(by omega), (by omega)⟩ ?_
  refine V.sld rfl hL dL_law_1178 (by omega) (by omega) ?_
  rw [hp1]
  refine V.callV [_] rfl kc_L_208 rfl dL_law_1179 (d' := dX) h2 (Nat.zero_le _) rfl (fun _ _ => hX) rfl (fun w ρ hq2 hv2 => ?_) (fun X t hx => hx.elim)
  obtain ⟨x, rfl, h0, ho, hI2⟩ := hm w ρ hq2
  refine V.istore (L' := [_, _, _, _, _, _, _, _, _]) dL_law_1182 rfl rfl ?_
  refine V.aload_n dL_law_1184 rfl ?_
  refine V.cV [] rfl kc_L_136 rfl dL_law_1185 (by decide) rfl rfl (sp_X7_thrown) (fun _ => ?_)
  refine V.iload dL_law_1188 rfl ?_
  refine V.icmp_eq (tgt := 1195) dL_law_1190 (by decide) (fun he => ?_) (fun he => ?_)
  · refine V.iload dL_law_1195 rfl ?_
    refine V.if_ne (tgt := 1212) dL_law_1197 (by decide) (fun hz => ?_) (fun hz => ?_)
    · refine V.goto (tgt := 1982) dL_law_1212 (by decide) ?_
      exact next _ _ _ _ _ (by omega) (hI2.up (by omega))
    · refine V.aload_n dL_law_1200 rfl ?_
      refine V.iconst dL_law_1201 ⟨by decide, by decide⟩ ?_
      refine V.lald (cell := 55) 0 rfl rfl rfl rfl dL_law_1202 (by omega) (by omega) (fun _ => ?_)
      rw [show ρ 55 0 = x from ho hz]
      refine V.iload dL_law_1203 rfl ?_
      refine V.i2l dL_law_1205 ?_
      refine V.lcmp dL_law_1206 ?_
      rw [if_neg (Int.lt_irrefl x), if_pos rfl]
      refine V.if_eq (tgt := 1212) dL_law_1207 (by decide) (fun hy => ?_) (fun hy => ?_)
      · refine V.goto (tgt := 1982) dL_law_1212 (by decide) ?_
        exact next _ _ _ _ _ (by omega) (hI2.up (by omega))
      · exact absurd rfl hy
  · exact absurd h0 he
theorem lw_22 {l : Launch} {E : JE} {n : Nat} {q i : Int} {a b c : JV} {σ : JM} (hL : E.2.2.2.2.1 ≤ 2048) (hI : jINV (i + 1) σ) (i0 : 0 ≤ i) (i4 : i + 4 ≤ (E.2.2.2.2.1 : Int)) (hn : 1 ≤ n) (next : jNx l E n q i) : V l E mL_law 100 n jQt jno 1215 [(7, q), (2, 0), (2, 7), (2, 55), (2, 56), (0, i), a, b, c] [] σ := by
  obtain ⟨dL, dX, h1, h2, QL, hC, hk⟩ := op_relocations hI
  refine V.aload_n dL_law_1215 rfl ?_
  refine V.aload_n dL_law_1216 rfl ?_
  refine V.callH [_, _] rfl kc_L_209 dL_law_1217 (d' := dL) h1 hn rfl (fun _ _ => hC) rfl (fun v τ hq hv => ?_) (fun X t hx => hx.elim)
  obtain ⟨k, rfl, QM, hX, hm⟩ := hk v τ hq
  refine V.istore (L' := [_, _, _, _, _, _, _, _, _]) dL_law_1220 rfl rfl ?_
  refine V.aload_n dL_law_1222 rfl ?_
  refine V.callV [] rfl kc_L_211 rfl dL_law_1223 (d' := dX) h2 (Nat.zero_le _) rfl (fun _ _ => hX) rfl (fun w ρ hq2 hv2 => ?_) (fun X t hx => hx.elim)
  obtain ⟨x, rfl, h0, ho, hI2⟩ := hm w ρ hq2
  refine V.istore (L' := [_, _, _, _, _, _, _, _, _]) dL_law_1226 rfl rfl ?_
  refine V.aload_n dL_law_1228 rfl ?_
  refine V.cV [] rfl kc_L_136 rfl dL_law_1229 (by decide) rfl rfl (sp_X7_thrown) (fun _ => ?_)
  refine V.iload dL_law_1232 rfl ?_
  refine V.icmp_eq (tgt := 1239) dL_law_1234 (by decide) (fun he => ?_) (fun he => ?_)
  · refine V.iload dL_law_1239 rfl ?_
    refine V.if_ne (tgt := 1256) dL_law_1241 (by decide) (fun hz => ?_) (fun hz => ?_)
    · refine V.goto (tgt := 1982) dL_law_1256 (by decide) ?_
      exact next _ _ _ _ _ (by omega) (hI2.up (by omega))
    · refine V.aload_n dL_law_1244 rfl ?_
      refine V.iconst dL_law_1245 ⟨by decide, by decide⟩ ?_
      refine V.lald (cell := 55) 0 rfl rfl rfl rfl dL_law_1246 (by omega) (by omega) (fun _ => ?_)
      rw [show ρ 55 0 = x from ho hz]
      refine V.iload dL_law_1247 rfl ?_
      refine V.i2l dL_law_1249 ?_
      refine V.lcmp dL_law_1250 ?_
      rw [if_neg (Int.lt_irrefl x), if_pos rfl]
      refine V.if_eq (tgt := 1256) dL_law_1251 (by decide) (fun hy => ?_) (fun hy => ?_)
      · refine V.goto (tgt := 1982) dL_law_1256 (by decide) ?_
        exact next _ _ _ _ _ (by omega) (hI2.up (by omega))
      · exact absurd rfl hy
  · exact absurd h0 he
theorem lw_23 {l : Launch} {E : JE} {n : Nat} {q i : Int} {a b c : JV} {σ : JM} (hL : E.2.2.2.2.1 ≤ 2048) (hI : jINV (i + 1) σ) (i0 : 0 ≤ i) (i4 : i + 4 ≤ (E.2.2.2.2.1 : Int)) (hn : 1 ≤ n) (next : jNx l E n q i) : V l E mL_law 100 n jQt jno 1259 [(7, q), (2, 0), (2, 7), (2, 55), (2, 56), (0, i), a, b, c] [] σ := by
  obtain ⟨p1, hp1⟩ : ∃ p, (E.2.2.2.2.2 (i + 1).toNat).toInt = p := ⟨_, rfl⟩
  obtain ⟨p2, hp2⟩ : ∃ p, (E.2.2.2.2.2 (i + 2).toNat).toInt = p := ⟨_, rfl⟩
  obtain ⟨dL, dX, h1, h2, QL, hC, hk⟩ := op_loadedWord (x := p1) (b := p2) hI
  refine V.aload_n dL_law_1259 rfl ?_
  refine V.aload_s dL_law_1260 rfl ?_
  refine V.iload dL_law_1261 rfl ?_
  refine V.iconst dL_law_1263 ⟨by decide, by decide⟩ ?_
  refine V.iadd dL_law_1264 ⟨(by omega), (by omega)⟩ ?_
  refine V.sld rfl hL dL_law_1265 (by omega) (by omega) ?_
  rw [hp1]
  refine V.aload_s dL_law_1266 rfl ?_
  refine V.iload dL_law_1267 rfl ?_
  refine V.iconst dL_law_1269 ⟨by decide, by decide⟩ ?_
  refine V.iadd dL_law_1270 ⟨(by omega), (by omega)⟩ ?_
  refine V.sld rfl hL dL_law_1271 (by omega) (by omega) ?_
  rw [hp2]
  refine V.aload_n dL_law_1272 rfl ?_
  refine V.callH [_, _, _, _] rfl kc_L_212 dL_law_1273 (d' := dL) h1 hn rfl (fun _ _ => hC) rfl (fun v τ hq hv => ?_) (fun X t hx => hx.elim)
  obtain ⟨k, rfl, QM, hX, hm⟩ := hk v τ hq
  refine V.istore (L' := [_, _, _, _, _, _, _, _, _]) dL_law_1276 rfl rfl ?_
  refine V.aload_n dL_law_1278 rfl ?_
  refine V.aload_s dL_law_1279 rfl ?_
  refine V.iload dL_law_1280 rfl ?_
  refine V.iconst dL_law_1282 ⟨by decide, by decide⟩ ?_
  refine V.iadd dL_law_1283 ⟨(by omega), (by omega)⟩ ?_
  refine V.sld rfl hL dL_law_1284 (by omega) (by omega) ?_
  rw [hp1]
  refine V.aload_s dL_law_1285 rfl ?_
  refine V.iload dL_law_1286 rfl ?_
  refine V.iconst dL_law_1288 ⟨by decide, by decide⟩ ?_
  refine V.iadd dL_law_1289 ⟨(by omega), (by omega)⟩ ?_
  refine V.sld rfl hL dL_law_1290 (by omega) (by omega) ?_
  rw [hp2]
  refine V.callV [_, _] rfl kc_L_214 rfl dL_law_1291 (d' := dX) h2 (Nat.zero_le _) rfl (fun _ _ => hX) rfl (fun w ρ hq2 hv2 => ?_) (fun X t hx => hx.elim)
  obtain ⟨x, rfl, h0, ho, hI2⟩ := hm w ρ hq2
  refine V.istore (L' := [_, _, _, _, _, _, _, _, _]) dL_law_1294 rfl rfl ?_
  refine V.aload_n dL_law_1296 rfl ?_
  refine V.cV [] rfl kc_L_136 rfl dL_law_1297 (by decide) rfl rfl (sp_X7_thrown) (fun _ => ?_)
  refine V.iload dL_law_1300 rfl ?_
  refine V.icmp_eq (tgt := 1307) dL_law_1302 (by decide) (fun he => ?_) (fun he => ?_)
  · refine V.iload dL_law_1307 rfl ?_
    refine V.if_ne (tgt := 1324) dL_law_1309 (by decide) (fun hz => ?_) (fun hz => ?_)
    · refine V.goto (tgt := 1982) dL_law_1324 (by decide) ?_
      exact next _ _ _ _ _ (by omega) (hI2.up (by omega))
    · refine V.aload_n dL_law_1312 rfl ?_
      refine V.iconst dL_law_1313 ⟨by decide, by decide⟩ ?_
      refine V.lald (cell := 55) 0 rfl rfl rfl rfl dL_law_1314 (by omega) (by omega) (fun _ => ?_)
      rw [show ρ 55 0 = x from ho hz]
      refine V.iload dL_law_1315 rfl ?_
      refine V.i2l dL_law_1317 ?_
      refine V.lcmp dL_law_1318 ?_
      rw [if_neg (Int.lt_irrefl x), if_pos rfl]
      refine V.if_eq (tgt := 1324) dL_law_1319 (by decide) (fun hy => ?_) (fun hy => ?_)
      · refine V.goto (tgt := 1982) dL_law_1324 (by decide) ?_
        exact next _ _ _ _ _ (by omega) (hI2.up (by omega))
      · exact absurd rfl hy
  · exact absurd h0 he
