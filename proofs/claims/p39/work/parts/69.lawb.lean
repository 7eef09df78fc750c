section LAW
variable {l : Launch} {E : JE} {nn : Nat} {q nm k dp isn n kd m a : Int} {l9 l10 l11 l12 l13 l14 l15 l16 : JV} {σ : JM}
theorem lb_had {r x : Int} {τ : JM} (hT : jTold σ τ kd r) (hx : 0 ≤ x ∧ x ≤ 20) {N : Nat} (hn : N ≤ nn) (kk : jK6 l E N q nm k n kd m a l16 σ) : V l E mL_law 60 nn jQt jno 177 [(7, q), (2, 0), (0, nm), (0, k), (0, τ 1 9), (0, τ 1 10), (0, 1), (2, 7), (0, n), (0, σ 1 7), (0, σ 1 8), (0, jsmv σ), (0, kd), (0, m), (0, a), (0, r), l16] [(0, x), (2, 7)] τ := by
  have op := jI.op hT.1
  refine V.dup2 dL_law_177 rfl rfl ?_
  refine V.hald dL_law_178 (by omega) (by omega) (fun hv => ?_)
  refine V.iload dL_law_179 rfl ?_
  refine V.if_lt (tgt := 198) dL_law_181 (by decide) (fun h181 => ?_) (fun h181 => ?_)
  · refine V.iconst dL_law_198 ⟨by decide, by decide⟩ ?_
    refine V.iorB dL_law_199 hv (by decide) ?_
    refine V.hast dL_law_200 (by omega) (by omega) (by split <;> decide) ?_
    refine V.goto (tgt := 636) dL_law_201 (by decide) ?_
    exact kk _ r _ (by omega) ⟨hT.1.had hx.1 _, hT.2.1.had _ _, hT.2.2⟩
  · refine V.iload dL_law_184 rfl ?_
    refine V.if_ne (tgt := 198) dL_law_186 (by decide) (fun h186 => ?_) (fun h186 => ?_)
    · refine V.iconst dL_law_198 ⟨by decide, by decide⟩ ?_
      refine V.iorB dL_law_199 hv (by decide) ?_
      refine V.hast dL_law_200 (by omega) (by omega) (by split <;> decide) ?_
      refine V.goto (tgt := 636) dL_law_201 (by decide) ?_
      exact kk _ r _ (by omega) ⟨hT.1.had hx.1 _, hT.2.1.had _ _, hT.2.2⟩
    · refine V.iload dL_law_189 rfl ?_
      refine V.if_ne (tgt := 198) dL_law_191 (by decide) (fun h191 => ?_) (fun h191 => ?_)
      · refine V.iconst dL_law_198 ⟨by decide, by decide⟩ ?_
        refine V.iorB dL_law_199 hv (by decide) ?_
        refine V.hast dL_law_200 (by omega) (by omega) (by split <;> decide) ?_
        refine V.goto (tgt := 636) dL_law_201 (by decide) ?_
        exact kk _ r _ (by omega) ⟨hT.1.had hx.1 _, hT.2.1.had _ _, hT.2.2⟩
      · refine V.iconst dL_law_194 ⟨by decide, by decide⟩ ?_
        refine V.goto (tgt := 199) dL_law_195 (by decide) ?_
        refine V.iorB dL_law_199 hv (by decide) ?_
        refine V.hast dL_law_200 (by omega) (by omega) (by split <;> decide) ?_
        refine V.goto (tgt := 636) dL_law_201 (by decide) ?_
        exact kk _ r _ (by omega) ⟨hT.1.had hx.1 _, hT.2.1.had _ _, hT.2.2⟩
theorem lb_label (hI : jINV 1 σ) (ha : -1 ≤ a ∧ a ≤ 20) {N : Nat} (hn : N + 1 ≤ nn) (kk : jK6 l E N q nm k n kd m a l16 σ) : V l E mL_law 60 nn jQt jno 155 [(7, q), (2, 0), (0, nm), (0, k), (0, σ 1 9), (0, σ 1 10), (0, 1), (2, 7), (0, n), (0, σ 1 7), (0, σ 1 8), (0, jsmv σ), (0, kd), (0, m), (0, a), (0, 0), l16] [] σ := by
  have op := jI.op hI
  refine V.aload_n dL_law_155 rfl ?_
  refine V.iload dL_law_156 rfl ?_
  obtain ⟨dL, nL, hd, hn1, QL, hL, hq⟩ := of_label (p := a) hI
  refine V.callH [_, _] rfl kc_L_150 dL_law_158 (d' := dL) hd (by omega) rfl (fun _ _ => hL) rfl (fun v t z0 hv => ?_) (fun X t hx => hx.elim)
  obtain ⟨r, rfl, z⟩ := hq v t z0
  rcases z with ⟨r1, ht, rf⟩ | ⟨r1, r2, ac, ρ, gh, Iρ, sm, e7, e8, e9, e10⟩
  · rw [ht]
    refine V.istore (L' := [_, _, _, _, _, _, _, _, _, _, _, _, _, _, _, _, _]) dL_law_161 rfl rfl ?_
    refine V.aload dL_law_163 rfl ?_
    refine V.iload dL_law_165 rfl ?_
    refine V.if_ge (tgt := 175) dL_law_167 (by decide) (fun h167 => ?_) (fun h167 => ?_)
    · refine V.iload dL_law_175 rfl ?_
      exact lb_had (σ := σ) (kd := kd) ⟨hI, jSm.rf σ, Or.inl ⟨r1, rfl, rfl⟩⟩ (by omega) (by omega) kk
    · refine V.bipush dL_law_170 ⟨by decide, by decide⟩ ?_
      refine V.goto (tgt := 177) dL_law_172 (by decide) ?_
      exact lb_had (σ := σ) (kd := kd) ⟨hI, jSm.rf σ, Or.inl ⟨r1, rfl, rfl⟩⟩ (by omega) (by omega) kk
  · refine V.gh gh ?_
    refine V.istore (L' := [_, _, _, _, _, _, _, _, _, _, _, _, _, _, _, _, _]) dL_law_161 rfl rfl ?_
    refine V.aload dL_law_163 rfl ?_
    refine V.iload dL_law_165 rfl ?_
    refine V.if_ge (tgt := 175) dL_law_167 (by decide) (fun h167 => ?_) (fun h167 => ?_)
    · refine V.iload dL_law_175 rfl ?_
      first
      | (have hT : jTold σ ρ kd r := ⟨Iρ, sm, Or.inr ⟨r2, e7, Or.inr (Or.inr r1)⟩⟩; have key := lb_had (nn := nn - nL) (l := l) (E := E) (q := q) (nm := nm) (k := k) (n := n) (m := m) (a := a) (l16 := l16) (x := 20) hT (by omega) (by omega) kk; rw [e9, e10] at key; exact key)
      | (have hT : jTold σ ρ kd r := ⟨Iρ, sm, Or.inr ⟨r2, e7, Or.inr (Or.inr r1)⟩⟩; have key := lb_had (nn := nn - nL) (l := l) (E := E) (q := q) (nm := nm) (k := k) (n := n) (m := m) (a := a) (l16 := l16) (x := a) hT (by omega) (by omega) kk; rw [e9, e10] at key; exact key)
    · refine V.bipush dL_law_170 ⟨by decide, by decide⟩ ?_
      refine V.goto (tgt := 177) dL_law_172 (by decide) ?_
      first
      | (have hT : jTold σ ρ kd r := ⟨Iρ, sm, Or.inr ⟨r2, e7, Or.inr (Or.inr r1)⟩⟩; have key := lb_had (nn := nn - nL) (l := l) (E := E) (q := q) (nm := nm) (k := k) (n := n) (m := m) (a := a) (l16 := l16) (x := 20) hT (by omega) (by omega) kk; rw [e9, e10] at key; exact key)
      | (have hT : jTold σ ρ kd r := ⟨Iρ, sm, Or.inr ⟨r2, e7, Or.inr (Or.inr r1)⟩⟩; have key := lb_had (nn := nn - nL) (l := l) (E := E) (q := q) (nm := nm) (k := k) (n := n) (m := m) (a := a) (l16 := l16) (x := a) hT (by omega) (by omega) kk; rw [e9, e10] at key; exact key)
theorem lb_204 (hI : jINV 1 σ) (hk : 0 ≤ kd ∧ kd < 26) (hm : 0 ≤ m ∧ m < 1000) (ha : -1 ≤ a ∧ a ≤ 20) {N : Nat} (hn : N + 1 ≤ nn) (kk : jK6 l E N q nm k n kd m a l16 σ) : V l E mL_law 60 nn jQt jno 204 [(7, q), (2, 0), (0, nm), (0, k), (0, σ 1 9), (0, σ 1 10), (0, 1), (2, 7), (0, n), (0, σ 1 7), (0, σ 1 8), (0, jsmv σ), (0, kd), (0, m), (0, a), (0, 0), l16] [] σ := by
  refine V.iload dL_law_204 rfl ?_
  refine V.bipush dL_law_206 ⟨by decide, by decide⟩ ?_
  refine V.icmp_ge (tgt := 222) dL_law_208 (by decide) (fun h208 => ?_) (fun h208 => ?_)
  · refine V.iload dL_law_222 rfl ?_
    refine V.bipush dL_law_224 ⟨by decide, by decide⟩ ?_
    refine V.icmp_ge (tgt := 240) dL_law_226 (by decide) (fun h226 => ?_) (fun h226 => ?_)
    · refine V.iload dL_law_240 rfl ?_
      refine V.bipush dL_law_242 ⟨by decide, by decide⟩ ?_
      refine V.icmp_ge (tgt := 286) dL_law_244 (by decide) (fun h244 => ?_) (fun h244 => ?_)
      · refine V.iload dL_law_286 rfl ?_
        refine V.bipush dL_law_288 ⟨by decide, by decide⟩ ?_
        refine V.icmp_ne (tgt := 307) dL_law_290 (by decide) (fun h290 => ?_) (fun h290 => ?_)
        · refine V.iload dL_law_307 rfl ?_
          refine V.bipush dL_law_309 ⟨by decide, by decide⟩ ?_
          refine V.icmp_ne (tgt := 360) dL_law_311 (by decide) (fun h311 => ?_) (fun h311 => ?_)
          · refine V.iload dL_law_360 rfl ?_
            refine V.bipush dL_law_362 ⟨by decide, by decide⟩ ?_
            refine V.icmp_ne (tgt := 396) dL_law_364 (by decide) (fun h364 => ?_) (fun h364 => ?_)
            · refine V.iload dL_law_396 rfl ?_
              refine V.bipush dL_law_398 ⟨by decide, by decide⟩ ?_
              refine V.icmp_ge (tgt := 464) dL_law_400 (by decide) (fun h400 => ?_) (fun h400 => ?_)
              · refine V.iload dL_law_464 rfl ?_
                refine V.bipush dL_law_466 ⟨by decide, by decide⟩ ?_
                refine V.icmp_ne (tgt := 524) dL_law_468 (by decide) (fun h468 => ?_) (fun h468 => ?_)
                · refine V.iload dL_law_524 rfl ?_
                  refine V.bipush dL_law_526 ⟨by decide, by decide⟩ ?_
                  refine V.icmp_ne (tgt := 586) dL_law_528 (by decide) (fun h528 => ?_) (fun h528 => ?_)
                  · refine V.iload dL_law_586 rfl ?_
                    refine V.bipush dL_law_588 ⟨by decide, by decide⟩ ?_
                    refine V.icmp_ge (tgt := 623) dL_law_590 (by decide) (fun h590 => ?_) (fun h590 => ?_)
                    · exact lb_word hI hm ha hn kk
                    · exact lb_call hI hm hn kk
                  · exact lb_endMacro hI (by omega) hn kk
                · exact lb_macro hI (by omega) hn kk
              · exact lb_end hI hn kk
            · exact lb_loop hI hm hn kk
          · refine V.iload dL_law_314 rfl ?_
            refine V.iconst dL_law_316 ⟨by decide, by decide⟩ ?_
            refine V.irem dL_law_317 (by omega) (by decide) ?_
            refine V.if_ne (tgt := 328) dL_law_318 (by decide) (fun h318 => ?_) (fun h318 => ?_)
            · exact lb_when hI hm hn kk
            · exact lb_block hI hm hn kk
        · exact lb_align hI hm ha hn kk
      · exact lb_operation hI hm hn kk
    · exact lb_address hI hm ha hn kk
  · exact lb_jump hI hm ha hn kk
theorem lb_126 (hI : jINV 1 σ) (hk : 0 ≤ kd ∧ kd < 26) (hm : 0 ≤ m ∧ m < 1000) (ha : -1 ≤ a ∧ a ≤ 20) {N : Nat} (hn : N + 1 ≤ nn) (kk : jK6 l E N q nm k n kd m a l16 σ) : V l E mL_law 60 nn jQt jno 126 [(7, q), (2, 0), (0, nm), (0, k), (0, σ 1 9), (0, σ 1 10), (0, 1), (2, 7), (0, n), (0, σ 1 7), (0, σ 1 8), (0, jsmv σ), (0, kd), (0, m), (0, a), (0, 0), l16] [] σ := by
  refine V.iload dL_law_126 rfl ?_
  refine V.iconst dL_law_128 ⟨by decide, by decide⟩ ?_
  refine V.icmp_ge (tgt := 204) dL_law_129 (by decide) (fun h129 => ?_) (fun h129 => ?_)
  · exact lb_204 hI hk hm ha hn kk
  · refine V.iload dL_law_132 rfl ?_
    refine V.if_ne (tgt := 155) dL_law_134 (by decide) (fun h134 => ?_) (fun h134 => ?_)
    · exact lb_label hI ha hn kk
    · refine V.iload dL_law_137 rfl ?_
      refine V.if_gt (tgt := 155) dL_law_139 (by decide) (fun h139 => ?_) (fun h139 => ?_)
      · exact lb_label hI ha hn kk
      · refine V.iload dL_law_142 rfl ?_
        refine V.if_lt (tgt := 155) dL_law_144 (by decide) (fun h144 => ?_) (fun h144 => ?_)
        · exact lb_label hI ha hn kk
        · refine V.aload dL_law_147 rfl ?_
          refine V.iload dL_law_149 rfl ?_
          refine V.hald dL_law_151 (by omega) (by omega) (fun _ => ?_)
          refine V.if_ne (tgt := 204) dL_law_152 (by decide) (fun h152 => ?_) (fun h152 => ?_)
          · exact lb_204 hI hk hm ha hn kk
          · exact lb_label hI ha hn kk
end LAW
