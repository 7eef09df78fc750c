def jmp (τ : JM) (w v m : Int) : JM := jset (jset τ 51 w v) 52 w m
theorem sp_X7_puts {σ : JM} {w v m : Int} (hw : 0 ≤ w ∧ w < 1700) (hm : m = 0 ∨ m = 1) : JSp mX7_puts 0 0 [(2, 7), (0, w), (0, v), (0, m)] σ (jvv (jmp σ w v m)) jno := by
  refine JSp.of [(2, 7), (0, w), (0, v), (0, m)] rfl (by decide +kernel) rfl rfl rfl (fun l E hA => ?_)
  refine V.aload_n dX7_puts_0 rfl ?_
  refine V.getR fa_X7_70 rfl dX7_puts_1 ?_
  refine V.iload_n dX7_puts_4 rfl ?_
  refine V.iload_n dX7_puts_5 rfl ?_
  refine V.iast (cell := 51) 0 rfl rfl rfl rfl dX7_puts_6 (by omega) (by omega) ?_
  refine V.aload_n dX7_puts_7 rfl ?_
  refine V.getR fa_X7_73 rfl dX7_puts_8 ?_
  refine V.iload_n dX7_puts_11 rfl ?_
  refine V.iload_n dX7_puts_12 rfl ?_
  refine V.zast (cell := 52) 0 rfl rfl rfl rfl dX7_puts_13 (by omega) (by omega) hm ?_
  exact V.vret (jret_v dX7_puts_14 rfl) ⟨rfl, rfl⟩
/-- so far written: the words below w, and those from w + n up to w + z -/
def jMd (σ τ : JM) (F G : Int → Int) (w n z : Int) : Prop := (∀ a b, a ≠ 51 → a ≠ 52 → τ a b = σ a b) ∧ ∀ b, ((0 ≤ b ∧ b < w) ∨ (w + n ≤ b ∧ b < w + z)) → τ 51 b = F b ∧ τ 52 b = G b
abbrev jMb (σ τ : JM) (F G : Int → Int) (w : Int) : Prop := jMd σ τ F G w 0 0
theorem jMd_put {σ τ : JM} {F G : Int → Int} {w n z v m : Int} (h : jMd σ τ F G w n z) (hF : F (w + n - 1) = v) (hG : G (w + n - 1) = m) : jMd σ (jmp τ (w + n - 1) v m) F G w (n - 1) z := by
  refine ⟨fun a b n1 n2 => ?_, fun b hb => ?_⟩
  · unfold jmp
    rw [jset_nk _ n2, jset_nk _ n1]
    exact h.1 a b n1 n2
  · unfold jmp
    by_cases e : b = w + n - 1
    · subst e; exact ⟨by rw [jset_nk _ (by decide), jset_eq, hF], by rw [jset_eq, hG]⟩
    · have := h.2 b (by omega)
      exact ⟨by rw [jset_nk _ (by decide), jset_nj _ e]; exact this.1, by rw [jset_nj _ e, jset_nk _ (by decide)]; exact this.2⟩
theorem jMb_put {σ τ : JM} {F G : Int → Int} {w v m : Int} (h : jMb σ τ F G w) (hF : F w = v) (hG : G w = m) : jMb σ (jmp τ w v m) F G (w + 1) := by
  refine ⟨fun a b n1 n2 => ?_, fun b hb => ?_⟩
  · unfold jmp
    rw [jset_nk _ n2, jset_nk _ n1]
    exact h.1 a b n1 n2
  · unfold jmp
    by_cases e : b = w
    · subst e; exact ⟨by rw [jset_nk _ (by decide), jset_eq, hF], by rw [jset_eq, hG]⟩
    · have := h.2 b (by omega)
      exact ⟨by rw [jset_nk _ (by decide), jset_nj _ e]; exact this.1, by rw [jset_nj _ e, jset_nk _ (by decide)]; exact this.2⟩
theorem jMd_full {σ τ : JM} {F G : Int → Int} {w z : Int} (h0 : 0 ≤ w) (hz : 0 ≤ z) (h : jMd σ τ F G w 0 z) : jMb σ τ F G (w + z) := ⟨h.1, fun b hb => h.2 b (by omega)⟩
theorem jMd_none {σ τ : JM} {F G : Int → Int} {w : Int} (z : Int) (h : jMb σ τ F G w) : jMd σ τ F G w z z := ⟨h.1, fun b hb => h.2 b (by omega)⟩
def jmLok (σ : JM) : Prop := jlok (jmK σ) (jmV σ) (σ 49) (σ 7 16) ∧ (∀ i, 0 ≤ i → i < σ 7 16 → (0 ≤ σ 44 i ∧ σ 44 i ≤ 5) ∧ (0 ≤ σ 43 i ∧ σ 43 i < 80) ∧ (0 ≤ σ 45 i ∧ σ 45 i ≤ 999) ∧ (σ 44 i = 5 → 2 ≤ σ 45 i ∧ σ 45 i ≤ 8) ∧ (σ 44 i = 2 → 0 ≤ σ 36 (σ 43 i) ∧ σ 36 (σ 43 i) ≤ 99)) ∧ ∀ i, 0 ≤ i → i < σ 7 16 → σ 48 i = jad (jmK σ) (jmV σ) i

theorem wr_0 {σ τ : JM} {x w : Int} (hl : jmLok σ) (h0 : 0 ≤ x) (h1 : x < σ 7 16) (hw : w = jad (jmK σ) (jmV σ) x) {F G : Int → Int} (hF : jFN (jmK σ) (jmV σ) (σ 49) (σ 7 16).toNat = F) (hG : jGN (jmK σ) (jmV σ) (σ 7 16).toNat = G) (hW : jMb σ τ F G w) (hc : σ 44 x = 0) : JSp mX7_writes 1 0 [(2, 7), (0, x)] τ (fun v t => v = none ∧ jMb σ t F G (jad (jmK σ) (jmV σ) (x + 1))) jno := by
  have hFG : ∀ b, w ≤ b → b < jad (jmK σ) (jmV σ) (x + 1) → F b = jwv (jmK σ) (jmV σ) (σ 49) x (b - w) ∧ G b = jwm (jmK σ) x (b - w) := fun b b0 b1 => by
    have := jFN_at hl.1 h0 (σ 7 16).toNat (by omega) (by have := hl.1.1; omega) b (by omega) b1
    rw [← hF, ← hG, hw]; exact this
  have hs := jad_s (jmK σ) (jmV σ) h0
  have n200 := hl.1.2.1
  have bnd : ∀ i, 0 ≤ i → i < σ 7 16 → 0 ≤ σ 48 i ∧ σ 48 i ≤ 1400 := fun i i0 i1 => by
    rw [hl.2.2 i i0 i1]
    have := jad_b (K := jmK σ) (v := jmV σ) (N := σ 7 16) (fun i i0 i1 => (hl.1.2.2 i i0 i1).1) i0 (Int.le_of_lt i1)
    omega
  obtain ⟨g1, g2, g3, g4, g5⟩ := hl.2.1 x h0 h1
  have hk := hl.1.2.2 x h0 h1
  have hx := bnd x h0 h1
  have rr := hW.1
  have e43 : τ 43 x = σ 43 x := rr 43 x (by decide) (by decide)
  have e44 : τ 44 x = σ 44 x := rr 44 x (by decide) (by decide)
  have e45 : τ 45 x = σ 45 x := rr 45 x (by decide) (by decide)
  have e49 : τ 49 x = σ 49 x := rr 49 x (by decide) (by decide)
  have e50 : τ 50 x = σ 50 x := rr 50 x (by decide) (by decide)
  have e48 : τ 48 x = w := by rw [rr 48 x (by decide) (by decide), hl.2.2 x h0 h1, hw]
  have eT : (σ 44 x = 3 ∨ σ 44 x = 4) → (0 ≤ σ 49 x ∧ σ 49 x < σ 7 16) ∧ τ 48 (σ 49 x) = jtd (jmK σ) (jmV σ) (σ 49) x ∧ 0 ≤ τ 48 (σ 49 x) ∧ τ 48 (σ 49 x) ≤ 1400 := fun q => by
    have t := hk.2.1 (by unfold jmK jkof; rcases q with q | q <;> rw [q] <;> simp; by_cases z : σ 50 x = 0 <;> simp [z])
    have e : τ 48 (σ 49 x) = σ 48 (σ 49 x) := rr 48 _ (by decide) (by decide)
    have b := bnd _ t.1 t.2
    rw [e]
    exact ⟨t, hl.2.2 _ t.1 t.2, b.1, b.2⟩
  rw [hl.2.2 x h0 h1, ← hw] at hx
  have hK : jmK σ x = 108 := by unfold jmK jkof; rw [hc]; rfl
  have z : jMb σ τ F G (jad (jmK σ) (jmV σ) (x + 1)) := by rw [hs, hK, ← hw, show jtk 108 (jmV σ x) w = 0 by simp [jtk], Int.add_zero]; exact hW
  refine JSp.of [(2, 7), (0, x), (9, 0), (9, 0), (9, 0)] rfl (by decide +kernel) rfl rfl rfl (fun l E hA => ?_)
  refine V.aload_n dX7_writes_0 rfl ?_
  refine V.getR fa_X7_60 rfl dX7_writes_1 ?_
  refine V.iload_n dX7_writes_4 rfl ?_
  refine V.iald (cell := 48) 0 rfl rfl rfl rfl dX7_writes_5 (by omega) (by omega) (fun _ => ?_)
  rw [e48]
  refine V.istore_n (L' := [_, _, _, _, _]) dX7_writes_6 rfl rfl ?_
  refine V.aload_n dX7_writes_7 rfl ?_
  refine V.getR fa_X7_48 rfl dX7_writes_8 ?_
  refine V.iload_n dX7_writes_11 rfl ?_
  refine V.iald (cell := 44) 0 rfl rfl rfl rfl dX7_writes_12 (by omega) (by omega) (fun _ => ?_)
  rw [e44, hc]
  refine V.istore_n (L' := [_, _, _, _, _]) dX7_writes_13 rfl rfl ?_
  refine V.iload_n dX7_writes_14 rfl ?_
  refine V.iconst dX7_writes_15 ⟨by decide, by decide⟩ ?_
  refine V.icmp_ne (tgt := 31) dX7_writes_16 (by decide) (fun h16 => ?_) (fun h16 => ?_)
  · refine V.iload_n dX7_writes_31 rfl ?_
    refine V.iconst dX7_writes_32 ⟨by decide, by decide⟩ ?_
    refine V.icmp_ne (tgt := 63) dX7_writes_33 (by decide) (fun h33 => ?_) (fun h33 => ?_)
    · refine V.iload_n dX7_writes_63 rfl ?_
      refine V.iconst dX7_writes_64 ⟨by decide, by decide⟩ ?_
      refine V.icmp_ne (tgt := 85) dX7_writes_65 (by decide) (fun h65 => ?_) (fun h65 => ?_)
      · refine V.iload_n dX7_writes_85 rfl ?_
        refine V.iconst dX7_writes_86 ⟨by decide, by decide⟩ ?_
        refine V.icmp_ne (tgt := 114) dX7_writes_87 (by decide) (fun h87 => ?_) (fun h87 => ?_)
        · refine V.iload_n dX7_writes_114 rfl ?_
          refine V.iconst dX7_writes_115 ⟨by decide, by decide⟩ ?_
          refine V.icmp_ne (tgt := 156) dX7_writes_116 (by decide) (fun h116 => ?_) (fun h116 => ?_)
          · refine V.aload_n dX7_writes_156 rfl ?_
            refine V.iload_n dX7_writes_157 rfl ?_
            refine V.iload_n dX7_writes_158 rfl ?_
            refine V.cV [_, _] rfl kc_X7_158 rfl dX7_writes_159 (by decide) rfl rfl (sp_X7_sizeOf (x := x) ⟨h0, by omega⟩ hx.1 (show 0 ≤ τ 44 x ∧ τ 44 x ≤ 5 by omega) (show τ 44 x = 5 → 2 ≤ τ 45 x ∧ τ 45 x ≤ 8 from fun q => by omega)) (fun _ => ?_)
            refine V.istore (L' := [_, _, _, _, _]) dX7_writes_162 rfl rfl ?_
            refine V.iload_n dX7_writes_164 rfl ?_
            refine V.iconst dX7_writes_165 ⟨by decide, by decide⟩ ?_
            refine V.icmp_ne (tgt := 192) dX7_writes_166 (by decide) (fun h166 => ?_) (fun h166 => ?_)
            · exact V.vret (jret_v dX7_writes_192 rfl) ⟨rfl, z⟩
            · exfalso; omega
          · exfalso; omega
        · exfalso; omega
      · exfalso; omega
    · exfalso; omega
  · exfalso; omega
theorem wr_1 {σ τ : JM} {x w : Int} (hl : jmLok σ) (h0 : 0 ≤ x) (h1 : x < σ 7 16) (hw : w = jad (jmK σ) (jmV σ) x) {F G : Int → Int} (hF : jFN (jmK σ) (jmV σ) (σ 49) (σ 7 16).toNat = F) (hG : jGN (jmK σ) (jmV σ) (σ 7 16).toNat = G) (hW : jMb σ τ F G w) (hc : σ 44 x = 1) : JSp mX7_writes 1 0 [(2, 7), (0, x)] τ (fun v t => v = none ∧ jMb σ t F G (jad (jmK σ) (jmV σ) (x + 1))) jno := by
  have hFG : ∀ b, w ≤ b → b < jad (jmK σ) (jmV σ) (x + 1) → F b = jwv (jmK σ) (jmV σ) (σ 49) x (b - w) ∧ G b = jwm (jmK σ) x (b - w) := fun b b0 b1 => by
    have := jFN_at hl.1 h0 (σ 7 16).toNat (by omega) (by have := hl.1.1; omega) b (by omega) b1
    rw [← hF, ← hG, hw]; exact this
  have hs := jad_s (jmK σ) (jmV σ) h0
  have n200 := hl.1.2.1
  have bnd : ∀ i, 0 ≤ i → i < σ 7 16 → 0 ≤ σ 48 i ∧ σ 48 i ≤ 1400 := fun i i0 i1 => by
    rw [hl.2.2 i i0 i1]
    have := jad_b (K := jmK σ) (v := jmV σ) (N := σ 7 16) (fun i i0 i1 => (hl.1.2.2 i i0 i1).1) i0 (Int.le_of_lt i1)
    omega
  obtain ⟨g1, g2, g3, g4, g5⟩ := hl.2.1 x h0 h1
  have hk := hl.1.2.2 x h0 h1
  have hx := bnd x h0 h1
  have rr := hW.1
  have e43 : τ 43 x = σ 43 x := rr 43 x (by decide) (by decide)
  have e44 : τ 44 x = σ 44 x := rr 44 x (by decide) (by decide)
  have e45 : τ 45 x = σ 45 x := rr 45 x (by decide) (by decide)
  have e49 : τ 49 x = σ 49 x := rr 49 x (by decide) (by decide)
  have e50 : τ 50 x = σ 50 x := rr 50 x (by decide) (by decide)
  have e48 : τ 48 x = w := by rw [rr 48 x (by decide) (by decide), hl.2.2 x h0 h1, hw]
  have eT : (σ 44 x = 3 ∨ σ 44 x = 4) → (0 ≤ σ 49 x ∧ σ 49 x < σ 7 16) ∧ τ 48 (σ 49 x) = jtd (jmK σ) (jmV σ) (σ 49) x ∧ 0 ≤ τ 48 (σ 49 x) ∧ τ 48 (σ 49 x) ≤ 1400 := fun q => by
    have t := hk.2.1 (by unfold jmK jkof; rcases q with q | q <;> rw [q] <;> simp; by_cases z : σ 50 x = 0 <;> simp [z])
    have e : τ 48 (σ 49 x) = σ 48 (σ 49 x) := rr 48 _ (by decide) (by decide)
    have b := bnd _ t.1 t.2
    rw [e]
    exact ⟨t, hl.2.2 _ t.1 t.2, b.1, b.2⟩
  rw [hl.2.2 x h0 h1, ← hw] at hx
  have hK : jmK σ x = 119 := by unfold jmK jkof; rw [hc]; rfl
  have z0 := hFG w (by omega) (by rw [hs, hK, ← hw, show jtk 119 (jmV σ x) w = 1 by simp [jtk]]; omega)
  rw [Int.sub_self] at z0
  have z : jMb σ (jmp τ w (σ 45 x) 0) F G (jad (jmK σ) (jmV σ) (x + 1)) := by
    rw [hs, hK, ← hw, show jtk 119 (jmV σ x) w = 1 by simp [jtk]]
    exact jMb_put hW (by rw [z0.1]; simp [jwv, hK, jmV, hc]) (by rw [z0.2]; simp [jwm, hK])
  refine JSp.of [(2, 7), (0, x), (9, 0), (9, 0), (9, 0)] rfl (by decide +kernel) rfl rfl rfl (fun l E hA => ?_)
  refine V.aload_n dX7_writes_0 rfl ?_
  refine V.getR fa_X7_60 rfl dX7_writes_1 ?_
  refine V.iload_n dX7_writes_4 rfl ?_
  refine V.iald (cell := 48) 0 rfl rfl rfl rfl dX7_writes_5 (by omega) (by omega) (fun _ => ?_)
  rw [e48]
  refine V.istore_n (L' := [_, _, _, _, _]) dX7_writes_6 rfl rfl ?_
  refine V.aload_n dX7_writes_7 rfl ?_
  refine V.getR fa_X7_48 rfl dX7_writes_8 ?_
  refine V.iload_n dX7_writes_11 rfl ?_
  refine V.iald (cell := 44) 0 rfl rfl rfl rfl dX7_writes_12 (by omega) (by omega) (fun _ => ?_)
  rw [e44, hc]
  refine V.istore_n (L' := [_, _, _, _, _]) dX7_writes_13 rfl rfl ?_
  refine V.iload_n dX7_writes_14 rfl ?_
  refine V.iconst dX7_writes_15 ⟨by decide, by decide⟩ ?_
  refine V.icmp_ne (tgt := 31) dX7_writes_16 (by decide) (fun h16 => ?_) (fun h16 => ?_)
  · exfalso; omega
  · refine V.aload_n dX7_writes_19 rfl ?_
    refine V.iload_n dX7_writes_20 rfl ?_
    refine V.aload_n dX7_writes_21 rfl ?_
    refine V.getR fa_X7_51 rfl dX7_writes_22 ?_
    refine V.iload_n dX7_writes_25 rfl ?_
    refine V.iald (cell := 45) 0 rfl rfl rfl rfl dX7_writes_26 (by omega) (by omega) (fun _ => ?_)
    rw [e45]
    refine V.iconst dX7_writes_27 ⟨by decide, by decide⟩ ?_
    refine V.cV0 [_, _, _] rfl kc_X7_171 rfl dX7_writes_28 (by decide) rfl rfl (sp_X7_puts (by omega) (by omega)) ?_
    refine V.iload_n dX7_writes_31 rfl ?_
    refine V.iconst dX7_writes_32 ⟨by decide, by decide⟩ ?_
    refine V.icmp_ne (tgt := 63) dX7_writes_33 (by decide) (fun h33 => ?_) (fun h33 => ?_)
    · refine V.iload_n dX7_writes_63 rfl ?_
      refine V.iconst dX7_writes_64 ⟨by decide, by decide⟩ ?_
      refine V.icmp_ne (tgt := 85) dX7_writes_65 (by decide) (fun h65 => ?_) (fun h65 => ?_)
      · refine V.iload_n dX7_writes_85 rfl ?_
        refine V.iconst dX7_writes_86 ⟨by decide, by decide⟩ ?_
        refine V.icmp_ne (tgt := 114) dX7_writes_87 (by decide) (fun h87 => ?_) (fun h87 => ?_)
        · refine V.iload_n dX7_writes_114 rfl ?_
          refine V.iconst dX7_writes_115 ⟨by decide, by decide⟩ ?_
          refine V.icmp_ne (tgt := 156) dX7_writes_116 (by decide) (fun h116 => ?_) (fun h116 => ?_)
          · refine V.aload_n dX7_writes_156 rfl ?_
            refine V.iload_n dX7_writes_157 rfl ?_
            refine V.iload_n dX7_writes_158 rfl ?_
            refine V.cV [_, _] rfl kc_X7_158 rfl dX7_writes_159 (by decide) rfl rfl (sp_X7_sizeOf (x := x) ⟨h0, by omega⟩ hx.1 (show 0 ≤ τ 44 x ∧ τ 44 x ≤ 5 by omega) (show τ 44 x = 5 → 2 ≤ τ 45 x ∧ τ 45 x ≤ 8 from fun q => by omega)) (fun _ => ?_)
            refine V.istore (L' := [_, _, _, _, _]) dX7_writes_162 rfl rfl ?_
            refine V.iload_n dX7_writes_164 rfl ?_
            refine V.iconst dX7_writes_165 ⟨by decide, by decide⟩ ?_
            refine V.icmp_ne (tgt := 192) dX7_writes_166 (by decide) (fun h166 => ?_) (fun h166 => ?_)
            · exact V.vret (jret_v dX7_writes_192 rfl) ⟨rfl, z⟩
            · exfalso; omega
          · exfalso; omega
        · exfalso; omega
      · exfalso; omega
    · exfalso; omega
theorem wr_2 {σ τ : JM} {x w : Int} (hl : jmLok σ) (h0 : 0 ≤ x) (h1 : x < σ 7 16) (hw : w = jad (jmK σ) (jmV σ) x) {F G : Int → Int} (hF : jFN (jmK σ) (jmV σ) (σ 49) (σ 7 16).toNat = F) (hG : jGN (jmK σ) (jmV σ) (σ 7 16).toNat = G) (hW : jMb σ τ F G w) (hc : σ 44 x = 2) : JSp mX7_writes 1 0 [(2, 7), (0, x)] τ (fun v t => v = none ∧ jMb σ t F G (jad (jmK σ) (jmV σ) (x + 1))) jno := by
  have hFG : ∀ b, w ≤ b → b < jad (jmK σ) (jmV σ) (x + 1) → F b = jwv (jmK σ) (jmV σ) (σ 49) x (b - w) ∧ G b = jwm (jmK σ) x (b - w) := fun b b0 b1 => by
    have := jFN_at hl.1 h0 (σ 7 16).toNat (by omega) (by have := hl.1.1; omega) b (by omega) b1
    rw [← hF, ← hG, hw]; exact this
  have hs := jad_s (jmK σ) (jmV σ) h0
  have n200 := hl.1.2.1
  have bnd : ∀ i, 0 ≤ i → i < σ 7 16 → 0 ≤ σ 48 i ∧ σ 48 i ≤ 1400 := fun i i0 i1 => by
    rw [hl.2.2 i i0 i1]
    have := jad_b (K := jmK σ) (v := jmV σ) (N := σ 7 16) (fun i i0 i1 => (hl.1.2.2 i i0 i1).1) i0 (Int.le_of_lt i1)
    omega
  obtain ⟨g1, g2, g3, g4, g5⟩ := hl.2.1 x h0 h1
  have hk := hl.1.2.2 x h0 h1
  have hx := bnd x h0 h1
  have rr := hW.1
  have e43 : τ 43 x = σ 43 x := rr 43 x (by decide) (by decide)
  have e44 : τ 44 x = σ 44 x := rr 44 x (by decide) (by decide)
  have e45 : τ 45 x = σ 45 x := rr 45 x (by decide) (by decide)
  have e49 : τ 49 x = σ 49 x := rr 49 x (by decide) (by decide)
  have e50 : τ 50 x = σ 50 x := rr 50 x (by decide) (by decide)
  have e48 : τ 48 x = w := by rw [rr 48 x (by decide) (by decide), hl.2.2 x h0 h1, hw]
  have eT : (σ 44 x = 3 ∨ σ 44 x = 4) → (0 ≤ σ 49 x ∧ σ 49 x < σ 7 16) ∧ τ 48 (σ 49 x) = jtd (jmK σ) (jmV σ) (σ 49) x ∧ 0 ≤ τ 48 (σ 49 x) ∧ τ 48 (σ 49 x) ≤ 1400 := fun q => by
    have t := hk.2.1 (by unfold jmK jkof; rcases q with q | q <;> rw [q] <;> simp; by_cases z : σ 50 x = 0 <;> simp [z])
    have e : τ 48 (σ 49 x) = σ 48 (σ 49 x) := rr 48 _ (by decide) (by decide)
    have b := bnd _ t.1 t.2
    rw [e]
    exact ⟨t, hl.2.2 _ t.1 t.2, b.1, b.2⟩
  rw [hl.2.2 x h0 h1, ← hw] at hx
  have hK : jmK σ x = 111 := by unfold jmK jkof; rw [hc]; rfl
  have z0 := hFG w (by omega) (by rw [hs, hK, ← hw, show jtk 111 (jmV σ x) w = 1 by simp [jtk]]; omega)
  rw [Int.sub_self] at z0
  have z : jMb σ (jmp τ w (100 * σ 36 (σ 43 x) + σ 45 x) 0) F G (jad (jmK σ) (jmV σ) (x + 1)) := by
    rw [hs, hK, ← hw, show jtk 111 (jmV σ x) w = 1 by simp [jtk]]
    exact jMb_put hW (by rw [z0.1]; simp [jwv, hK, jmV, hc]) (by rw [z0.2]; simp [jwm, hK])
  refine JSp.of [(2, 7), (0, x), (9, 0), (9, 0), (9, 0)] rfl (by decide +kernel) rfl rfl rfl (fun l E hA => ?_)
  refine V.aload_n dX7_writes_0 rfl ?_
  refine V.getR fa_X7_60 rfl dX7_writes_1 ?_
  refine V.iload_n dX7_writes_4 rfl ?_
  refine V.iald (cell := 48) 0 rfl rfl rfl rfl dX7_writes_5 (by omega) (by omega) (fun _ => ?_)
  rw [e48]
  refine V.istore_n (L' := [_, _, _, _, _]) dX7_writes_6 rfl rfl ?_
  refine V.aload_n dX7_writes_7 rfl ?_
  refine V.getR fa_X7_48 rfl dX7_writes_8 ?_
  refine V.iload_n dX7_writes_11 rfl ?_
  refine V.iald (cell := 44) 0 rfl rfl rfl rfl dX7_writes_12 (by omega) (by omega) (fun _ => ?_)
  rw [e44, hc]
  refine V.istore_n (L' := [_, _, _, _, _]) dX7_writes_13 rfl rfl ?_
  refine V.iload_n dX7_writes_14 rfl ?_
  refine V.iconst dX7_writes_15 ⟨by decide, by decide⟩ ?_
  refine V.icmp_ne (tgt := 31) dX7_writes_16 (by decide) (fun h16 => ?_) (fun h16 => ?_)
  · refine V.iload_n dX7_writes_31 rfl ?_
    refine V.iconst dX7_writes_32 ⟨by decide, by decide⟩ ?_
    refine V.icmp_ne (tgt := 63) dX7_writes_33 (by decide) (fun h33 => ?_) (fun h33 => ?_)
    · exfalso; omega
    · refine V.aload_n dX7_writes_36 rfl ?_
      refine V.iload_n dX7_writes_37 rfl ?_
      refine V.bipush dX7_writes_38 ⟨by decide, by decide⟩ ?_
      refine V.aload_n dX7_writes_40 rfl ?_
      refine V.getR fa_X7_20 rfl dX7_writes_41 ?_
      refine V.aload_n dX7_writes_44 rfl ?_
      refine V.getR fa_X7_45 rfl dX7_writes_45 ?_
      refine V.iload_n dX7_writes_48 rfl ?_
      refine V.iald (cell := 43) 0 rfl rfl rfl rfl dX7_writes_49 (by omega) (by omega) (fun _ => ?_)
      rw [e43]
      refine V.iald (cell := 36) 0 rfl rfl rfl rfl dX7_writes_50 (by omega) (by omega) (fun _ => ?_)
      rw [rr 36 (σ 43 x) (by decide) (by decide)]
      refine V.imul dX7_writes_51 ⟨(by have := g5 hc; omega), (by have := g5 hc; omega)⟩ ?_
      refine V.aload_n dX7_writes_52 rfl ?_
      refine V.getR fa_X7_51 rfl dX7_writes_53 ?_
      refine V.iload_n dX7_writes_56 rfl ?_
      refine V.iald (cell := 45) 0 rfl rfl rfl rfl dX7_writes_57 (by omega) (by omega) (fun _ => ?_)
      rw [e45]
      refine V.iadd dX7_writes_58 ⟨(by have := g5 hc; omega), (by have := g5 hc; omega)⟩ ?_
      refine V.iconst dX7_writes_59 ⟨by decide, by decide⟩ ?_
      refine V.cV0 [_, _, _] rfl kc_X7_171 rfl dX7_writes_60 (by decide) rfl rfl (sp_X7_puts (by omega) (by omega)) ?_
      refine V.iload_n dX7_writes_63 rfl ?_
      refine V.iconst dX7_writes_64 ⟨by decide, by decide⟩ ?_
      refine V.icmp_ne (tgt := 85) dX7_writes_65 (by decide) (fun h65 => ?_) (fun h65 => ?_)
      · refine V.iload_n dX7_writes_85 rfl ?_
        refine V.iconst dX7_writes_86 ⟨by decide, by decide⟩ ?_
        refine V.icmp_ne (tgt := 114) dX7_writes_87 (by decide) (fun h87 => ?_) (fun h87 => ?_)
        · refine V.iload_n dX7_writes_114 rfl ?_
          refine V.iconst dX7_writes_115 ⟨by decide, by decide⟩ ?_
          refine V.icmp_ne (tgt := 156) dX7_writes_116 (by decide) (fun h116 => ?_) (fun h116 => ?_)
          · refine V.aload_n dX7_writes_156 rfl ?_
            refine V.iload_n dX7_writes_157 rfl ?_
            refine V.iload_n dX7_writes_158 rfl ?_
            refine V.cV [_, _] rfl kc_X7_158 rfl dX7_writes_159 (by decide) rfl rfl (sp_X7_sizeOf (x := x) ⟨h0, by omega⟩ hx.1 (show 0 ≤ τ 44 x ∧ τ 44 x ≤ 5 by omega) (show τ 44 x = 5 → 2 ≤ τ 45 x ∧ τ 45 x ≤ 8 from fun q => by omega)) (fun _ => ?_)
            refine V.istore (L' := [_, _, _, _, _]) dX7_writes_162 rfl rfl ?_
            refine V.iload_n dX7_writes_164 rfl ?_
            refine V.iconst dX7_writes_165 ⟨by decide, by decide⟩ ?_
            refine V.icmp_ne (tgt := 192) dX7_writes_166 (by decide) (fun h166 => ?_) (fun h166 => ?_)
            · exact V.vret (jret_v dX7_writes_192 rfl) ⟨rfl, z⟩
            · exfalso; omega
          · exfalso; omega
        · exfalso; omega
      · exfalso; omega
  · exfalso; omega
theorem wr_4 {σ τ : JM} {x w : Int} (hl : jmLok σ) (h0 : 0 ≤ x) (h1 : x < σ 7 16) (hw : w = jad (jmK σ) (jmV σ) x) {F G : Int → Int} (hF : jFN (jmK σ) (jmV σ) (σ 49) (σ 7 16).toNat = F) (hG : jGN (jmK σ) (jmV σ) (σ 7 16).toNat = G) (hW : jMb σ τ F G w) (hc : σ 44 x = 4) : JSp mX7_writes 1 0 [(2, 7), (0, x)] τ (fun v t => v = none ∧ jMb σ t F G (jad (jmK σ) (jmV σ) (x + 1))) jno := by
  have hFG : ∀ b, w ≤ b → b < jad (jmK σ) (jmV σ) (x + 1) → F b = jwv (jmK σ) (jmV σ) (σ 49) x (b - w) ∧ G b = jwm (jmK σ) x (b - w) := fun b b0 b1 => by
    have := jFN_at hl.1 h0 (σ 7 16).toNat (by omega) (by have := hl.1.1; omega) b (by omega) b1
    rw [← hF, ← hG, hw]; exact this
  have hs := jad_s (jmK σ) (jmV σ) h0
  have n200 := hl.1.2.1
  have bnd : ∀ i, 0 ≤ i → i < σ 7 16 → 0 ≤ σ 48 i ∧ σ 48 i ≤ 1400 := fun i i0 i1 => by
    rw [hl.2.2 i i0 i1]
    have := jad_b (K := jmK σ) (v := jmV σ) (N := σ 7 16) (fun i i0 i1 => (hl.1.2.2 i i0 i1).1) i0 (Int.le_of_lt i1)
    omega
  obtain ⟨g1, g2, g3, g4, g5⟩ := hl.2.1 x h0 h1
  have hk := hl.1.2.2 x h0 h1
  have hx := bnd x h0 h1
  have rr := hW.1
  have e43 : τ 43 x = σ 43 x := rr 43 x (by decide) (by decide)
  have e44 : τ 44 x = σ 44 x := rr 44 x (by decide) (by decide)
  have e45 : τ 45 x = σ 45 x := rr 45 x (by decide) (by decide)
  have e49 : τ 49 x = σ 49 x := rr 49 x (by decide) (by decide)
  have e50 : τ 50 x = σ 50 x := rr 50 x (by decide) (by decide)
  have e48 : τ 48 x = w := by rw [rr 48 x (by decide) (by decide), hl.2.2 x h0 h1, hw]
  have eT : (σ 44 x = 3 ∨ σ 44 x = 4) → (0 ≤ σ 49 x ∧ σ 49 x < σ 7 16) ∧ τ 48 (σ 49 x) = jtd (jmK σ) (jmV σ) (σ 49) x ∧ 0 ≤ τ 48 (σ 49 x) ∧ τ 48 (σ 49 x) ≤ 1400 := fun q => by
    have t := hk.2.1 (by unfold jmK jkof; rcases q with q | q <;> rw [q] <;> simp; by_cases z : σ 50 x = 0 <;> simp [z])
    have e : τ 48 (σ 49 x) = σ 48 (σ 49 x) := rr 48 _ (by decide) (by decide)
    have b := bnd _ t.1 t.2
    rw [e]
    exact ⟨t, hl.2.2 _ t.1 t.2, b.1, b.2⟩
  rw [hl.2.2 x h0 h1, ← hw] at hx
  have hK : jmK σ x = 97 := by unfold jmK jkof; rw [hc]; rfl
  have e4 := eT (Or.inr hc)
  have z0 := hFG w (by omega) (by rw [hs, hK, ← hw, show jtk 97 (jmV σ x) w = 1 by simp [jtk]]; omega)
  rw [Int.sub_self] at z0
  have z : jMb σ (jmp τ w (jtd (jmK σ) (jmV σ) (σ 49) x) 1) F G (jad (jmK σ) (jmV σ) (x + 1)) := by
    rw [hs, hK, ← hw, show jtk 97 (jmV σ x) w = 1 by simp [jtk]]
    exact jMb_put hW (by rw [z0.1]; simp [jwv, hK]) (by rw [z0.2]; simp [jwm, hK])
  refine JSp.of [(2, 7), (0, x), (9, 0), (9, 0), (9, 0)] rfl (by decide +kernel) rfl rfl rfl (fun l E hA => ?_)
  refine V.aload_n dX7_writes_0 rfl ?_
  refine V.getR fa_X7_60 rfl dX7_writes_1 ?_
  refine V.iload_n dX7_writes_4 rfl ?_
  refine V.iald (cell := 48) 0 rfl rfl rfl rfl dX7_writes_5 (by omega) (by omega) (fun _ => ?_)
  rw [e48]
  refine V.istore_n (L' := [_, _, _, _, _]) dX7_writes_6 rfl rfl ?_
  refine V.aload_n dX7_writes_7 rfl ?_
  refine V.getR fa_X7_48 rfl dX7_writes_8 ?_
  refine V.iload_n dX7_writes_11 rfl ?_
  refine V.iald (cell := 44) 0 rfl rfl rfl rfl dX7_writes_12 (by omega) (by omega) (fun _ => ?_)
  rw [e44, hc]
  refine V.istore_n (L' := [_, _, _, _, _]) dX7_writes_13 rfl rfl ?_
  refine V.iload_n dX7_writes_14 rfl ?_
  refine V.iconst dX7_writes_15 ⟨by decide, by decide⟩ ?_
  refine V.icmp_ne (tgt := 31) dX7_writes_16 (by decide) (fun h16 => ?_) (fun h16 => ?_)
  · refine V.iload_n dX7_writes_31 rfl ?_
    refine V.iconst dX7_writes_32 ⟨by decide, by decide⟩ ?_
    refine V.icmp_ne (tgt := 63) dX7_writes_33 (by decide) (fun h33 => ?_) (fun h33 => ?_)
    · refine V.iload_n dX7_writes_63 rfl ?_
      refine V.iconst dX7_writes_64 ⟨by decide, by decide⟩ ?_
      refine V.icmp_ne (tgt := 85) dX7_writes_65 (by decide) (fun h65 => ?_) (fun h65 => ?_)
      · exfalso; omega
      · refine V.aload_n dX7_writes_68 rfl ?_
        refine V.iload_n dX7_writes_69 rfl ?_
        refine V.aload_n dX7_writes_70 rfl ?_
        refine V.getR fa_X7_60 rfl dX7_writes_71 ?_
        refine V.aload_n dX7_writes_74 rfl ?_
        refine V.getR fa_X7_63 rfl dX7_writes_75 ?_
        refine V.iload_n dX7_writes_78 rfl ?_
        refine V.iald (cell := 49) 0 rfl rfl rfl rfl dX7_writes_79 (by omega) (by omega) (fun _ => ?_)
        rw [e49]
        refine V.iald (cell := 48) 0 rfl rfl rfl rfl dX7_writes_80 (by omega) (by omega) (fun _ => ?_)
        rw [e4.2.1]
        refine V.iconst dX7_writes_81 ⟨by decide, by decide⟩ ?_
        refine V.cV0 [_, _, _] rfl kc_X7_171 rfl dX7_writes_82 (by decide) rfl rfl (sp_X7_puts (by omega) (by omega)) ?_
        refine V.iload_n dX7_writes_85 rfl ?_
        refine V.iconst dX7_writes_86 ⟨by decide, by decide⟩ ?_
        refine V.icmp_ne (tgt := 114) dX7_writes_87 (by decide) (fun h87 => ?_) (fun h87 => ?_)
        · refine V.iload_n dX7_writes_114 rfl ?_
          refine V.iconst dX7_writes_115 ⟨by decide, by decide⟩ ?_
          refine V.icmp_ne (tgt := 156) dX7_writes_116 (by decide) (fun h116 => ?_) (fun h116 => ?_)
          · refine V.aload_n dX7_writes_156 rfl ?_
            refine V.iload_n dX7_writes_157 rfl ?_
            refine V.iload_n dX7_writes_158 rfl ?_
            refine V.cV [_, _] rfl kc_X7_158 rfl dX7_writes_159 (by decide) rfl rfl (sp_X7_sizeOf (x := x) ⟨h0, by omega⟩ hx.1 (show 0 ≤ τ 44 x ∧ τ 44 x ≤ 5 by omega) (show τ 44 x = 5 → 2 ≤ τ 45 x ∧ τ 45 x ≤ 8 from fun q => by omega)) (fun _ => ?_)
            refine V.istore (L' := [_, _, _, _, _]) dX7_writes_162 rfl rfl ?_
            refine V.iload_n dX7_writes_164 rfl ?_
            refine V.iconst dX7_writes_165 ⟨by decide, by decide⟩ ?_
            refine V.icmp_ne (tgt := 192) dX7_writes_166 (by decide) (fun h166 => ?_) (fun h166 => ?_)
            · exact V.vret (jret_v dX7_writes_192 rfl) ⟨rfl, z⟩
            · exfalso; omega
          · exfalso; omega
        · exfalso; omega
    · exfalso; omega
  · exfalso; omega
theorem wr_3 {σ τ : JM} {x w : Int} (hl : jmLok σ) (h0 : 0 ≤ x) (h1 : x < σ 7 16) (hw : w = jad (jmK σ) (jmV σ) x) {F G : Int → Int} (hF : jFN (jmK σ) (jmV σ) (σ 49) (σ 7 16).toNat = F) (hG : jGN (jmK σ) (jmV σ) (σ 7 16).toNat = G) (hW : jMb σ τ F G w) (hc : σ 44 x = 3) (hL : σ 50 x = 0) : JSp mX7_writes 1 0 [(2, 7), (0, x)] τ (fun v t => v = none ∧ jMb σ t F G (jad (jmK σ) (jmV σ) (x + 1))) jno := by
  have hFG : ∀ b, w ≤ b → b < jad (jmK σ) (jmV σ) (x + 1) → F b = jwv (jmK σ) (jmV σ) (σ 49) x (b - w) ∧ G b = jwm (jmK σ) x (b - w) := fun b b0 b1 => by
    have := jFN_at hl.1 h0 (σ 7 16).toNat (by omega) (by have := hl.1.1; omega) b (by omega) b1
    rw [← hF, ← hG, hw]; exact this
  have hs := jad_s (jmK σ) (jmV σ) h0
  have n200 := hl.1.2.1
  have bnd : ∀ i, 0 ≤ i → i < σ 7 16 → 0 ≤ σ 48 i ∧ σ 48 i ≤ 1400 := fun i i0 i1 => by
    rw [hl.2.2 i i0 i1]
    have := jad_b (K := jmK σ) (v := jmV σ) (N := σ 7 16) (fun i i0 i1 => (hl.1.2.2 i i0 i1).1) i0 (Int.le_of_lt i1)
    omega
  obtain ⟨g1, g2, g3, g4, g5⟩ := hl.2.1 x h0 h1
  have hk := hl.1.2.2 x h0 h1
  have hx := bnd x h0 h1
  have rr := hW.1
  have e43 : τ 43 x = σ 43 x := rr 43 x (by decide) (by decide)
  have e44 : τ 44 x = σ 44 x := rr 44 x (by decide) (by decide)
  have e45 : τ 45 x = σ 45 x := rr 45 x (by decide) (by decide)
  have e49 : τ 49 x = σ 49 x := rr 49 x (by decide) (by decide)
  have e50 : τ 50 x = σ 50 x := rr 50 x (by decide) (by decide)
  have e48 : τ 48 x = w := by rw [rr 48 x (by decide) (by decide), hl.2.2 x h0 h1, hw]
  have eT : (σ 44 x = 3 ∨ σ 44 x = 4) → (0 ≤ σ 49 x ∧ σ 49 x < σ 7 16) ∧ τ 48 (σ 49 x) = jtd (jmK σ) (jmV σ) (σ 49) x ∧ 0 ≤ τ 48 (σ 49 x) ∧ τ 48 (σ 49 x) ≤ 1400 := fun q => by
    have t := hk.2.1 (by unfold jmK jkof; rcases q with q | q <;> rw [q] <;> simp; by_cases z : σ 50 x = 0 <;> simp [z])
    have e : τ 48 (σ 49 x) = σ 48 (σ 49 x) := rr 48 _ (by decide) (by decide)
    have b := bnd _ t.1 t.2
    rw [e]
    exact ⟨t, hl.2.2 _ t.1 t.2, b.1, b.2⟩
  rw [hl.2.2 x h0 h1, ← hw] at hx
  have hK : jmK σ x = 106 := by unfold jmK jkof; rw [hc, hL]; rfl
  have e4 := eT (Or.inl hc)
  have ed : jmds τ x = jtd (jmK σ) (jmV σ) (σ 49) x - w - 1 := by unfold jmds; rw [e49, e48, e4.2.1]
  have z0 := hFG w (by omega) (by rw [hs, hK, ← hw, show jtk 106 (jmV σ x) w = 1 by simp [jtk]]; omega)
  rw [Int.sub_self] at z0
  have z : jMb σ (jmp τ w (10008 + (jtd (jmK σ) (jmV σ) (σ 49) x - w - 1)) 0) F G (jad (jmK σ) (jmV σ) (x + 1)) := by
    rw [hs, hK, ← hw, show jtk 106 (jmV σ x) w = 1 by simp [jtk]]
    exact jMb_put hW (by rw [z0.1]; rw [hw]; simp [jwv, hK]) (by rw [z0.2]; simp [jwm, hK])
  refine JSp.of [(2, 7), (0, x), (9, 0), (9, 0), (9, 0)] rfl (by decide +kernel) rfl rfl rfl (fun l E hA => ?_)
  refine V.aload_n dX7_writes_0 rfl ?_
  refine V.getR fa_X7_60 rfl dX7_writes_1 ?_
  refine V.iload_n dX7_writes_4 rfl ?_
  refine V.iald (cell := 48) 0 rfl rfl rfl rfl dX7_writes_5 (by omega) (by omega) (fun _ => ?_)
  rw [e48]
  refine V.istore_n (L' := [_, _, _, _, _]) dX7_writes_6 rfl rfl ?_
  refine V.aload_n dX7_writes_7 rfl ?_
  refine V.getR fa_X7_48 rfl dX7_writes_8 ?_
  refine V.iload_n dX7_writes_11 rfl ?_
  refine V.iald (cell := 44) 0 rfl rfl rfl rfl dX7_writes_12 (by omega) (by omega) (fun _ => ?_)
  rw [e44, hc]
  refine V.istore_n (L' := [_, _, _, _, _]) dX7_writes_13 rfl rfl ?_
  refine V.iload_n dX7_writes_14 rfl ?_
  refine V.iconst dX7_writes_15 ⟨by decide, by decide⟩ ?_
  refine V.icmp_ne (tgt := 31) dX7_writes_16 (by decide) (fun h16 => ?_) (fun h16 => ?_)
  · refine V.iload_n dX7_writes_31 rfl ?_
    refine V.iconst dX7_writes_32 ⟨by decide, by decide⟩ ?_
    refine V.icmp_ne (tgt := 63) dX7_writes_33 (by decide) (fun h33 => ?_) (fun h33 => ?_)
    · refine V.iload_n dX7_writes_63 rfl ?_
      refine V.iconst dX7_writes_64 ⟨by decide, by decide⟩ ?_
      refine V.icmp_ne (tgt := 85) dX7_writes_65 (by decide) (fun h65 => ?_) (fun h65 => ?_)
      · refine V.iload_n dX7_writes_85 rfl ?_
        refine V.iconst dX7_writes_86 ⟨by decide, by decide⟩ ?_
        refine V.icmp_ne (tgt := 114) dX7_writes_87 (by decide) (fun h87 => ?_) (fun h87 => ?_)
        · exfalso; omega
        · refine V.aload_n dX7_writes_90 rfl ?_
          refine V.getR fa_X7_66 rfl dX7_writes_91 ?_
          refine V.iload_n dX7_writes_94 rfl ?_
          refine V.zald (cell := 50) 0 rfl rfl rfl rfl dX7_writes_95 (by omega) (by omega) (fun _ => ?_)
          rw [e50]
          refine V.if_ne (tgt := 114) dX7_writes_96 (by decide) (fun h96 => ?_) (fun h96 => ?_)
          · exact absurd hL h96
          · refine V.aload_n dX7_writes_99 rfl ?_
            refine V.iload_n dX7_writes_100 rfl ?_
            refine V.sipush dX7_writes_101 ⟨by decide, by decide⟩ ?_
            refine V.aload_n dX7_writes_104 rfl ?_
            refine V.iload_n dX7_writes_105 rfl ?_
            refine V.cV [_] rfl kc_X7_168 rfl dX7_writes_106 (by decide) rfl rfl (sp_X7_distance (σ := τ) ⟨h0, by omega⟩ (by rw [e49]; omega) (by rw [e49]; omega) (by rw [e48]; omega)) (fun _ => ?_)
            rw [ed]
            refine V.iadd dX7_writes_109 ⟨(by rw [← e4.2.1]; omega), (by rw [← e4.2.1]; omega)⟩ ?_
            refine V.iconst dX7_writes_110 ⟨by decide, by decide⟩ ?_
            refine V.cV0 [_, _, _] rfl kc_X7_171 rfl dX7_writes_111 (by decide) rfl rfl (sp_X7_puts (by omega) (by omega)) ?_
            refine V.iload_n dX7_writes_114 rfl ?_
            refine V.iconst dX7_writes_115 ⟨by decide, by decide⟩ ?_
            refine V.icmp_ne (tgt := 156) dX7_writes_116 (by decide) (fun h116 => ?_) (fun h116 => ?_)
            · exfalso; omega
            · refine V.aload_n dX7_writes_119 rfl ?_
              refine V.getR fa_X7_66 rfl dX7_writes_120 ?_
              refine V.iload_n dX7_writes_123 rfl ?_
              refine V.zald (cell := 50) 0 rfl rfl rfl rfl dX7_writes_124 (by omega) (by omega) (fun _ => ?_)
              rw [show jmp τ w (10008 + (jtd (jmK σ) (jmV σ) (σ 49) x - w - 1)) 0 50 x = τ 50 x from rfl, e50]
              refine V.if_eq (tgt := 156) dX7_writes_125 (by decide) (fun h125 => ?_) (fun h125 => ?_)
              · refine V.aload_n dX7_writes_156 rfl ?_
                refine V.iload_n dX7_writes_157 rfl ?_
                refine V.iload_n dX7_writes_158 rfl ?_
                refine V.cV [_, _] rfl kc_X7_158 rfl dX7_writes_159 (by decide) rfl rfl (sp_X7_sizeOf (x := x) ⟨h0, by omega⟩ hx.1 (show 0 ≤ τ 44 x ∧ τ 44 x ≤ 5 by omega) (show τ 44 x = 5 → 2 ≤ τ 45 x ∧ τ 45 x ≤ 8 from fun q => by omega)) (fun _ => ?_)
                refine V.istore (L' := [_, _, _, _, _]) dX7_writes_162 rfl rfl ?_
                refine V.iload_n dX7_writes_164 rfl ?_
                refine V.iconst dX7_writes_165 ⟨by decide, by decide⟩ ?_
                refine V.icmp_ne (tgt := 192) dX7_writes_166 (by decide) (fun h166 => ?_) (fun h166 => ?_)
                · exact V.vret (jret_v dX7_writes_192 rfl) ⟨rfl, z⟩
                · exfalso; omega
              · exact absurd hL h125
      · exfalso; omega
    · exfalso; omega
  · exfalso; omega
theorem wr_J {σ τ : JM} {x w : Int} (hl : jmLok σ) (h0 : 0 ≤ x) (h1 : x < σ 7 16) (hw : w = jad (jmK σ) (jmV σ) x) {F G : Int → Int} (hF : jFN (jmK σ) (jmV σ) (σ 49) (σ 7 16).toNat = F) (hG : jGN (jmK σ) (jmV σ) (σ 7 16).toNat = G) (hW : jMb σ τ F G w) (hc : σ 44 x = 3) (hL : ¬ σ 50 x = 0) : JSp mX7_writes 1 0 [(2, 7), (0, x)] τ (fun v t => v = none ∧ jMb σ t F G (jad (jmK σ) (jmV σ) (x + 1))) jno := by
  have hFG : ∀ b, w ≤ b → b < jad (jmK σ) (jmV σ) (x + 1) → F b = jwv (jmK σ) (jmV σ) (σ 49) x (b - w) ∧ G b = jwm (jmK σ) x (b - w) := fun b b0 b1 => by
    have := jFN_at hl.1 h0 (σ 7 16).toNat (by omega) (by have := hl.1.1; omega) b (by omega) b1
    rw [← hF, ← hG, hw]; exact this
  have hs := jad_s (jmK σ) (jmV σ) h0
  have n200 := hl.1.2.1
  have bnd : ∀ i, 0 ≤ i → i < σ 7 16 → 0 ≤ σ 48 i ∧ σ 48 i ≤ 1400 := fun i i0 i1 => by
    rw [hl.2.2 i i0 i1]
    have := jad_b (K := jmK σ) (v := jmV σ) (N := σ 7 16) (fun i i0 i1 => (hl.1.2.2 i i0 i1).1) i0 (Int.le_of_lt i1)
    omega
  obtain ⟨g1, g2, g3, g4, g5⟩ := hl.2.1 x h0 h1
  have hk := hl.1.2.2 x h0 h1
  have hx := bnd x h0 h1
  have rr := hW.1
  have e43 : τ 43 x = σ 43 x := rr 43 x (by decide) (by decide)
  have e44 : τ 44 x = σ 44 x := rr 44 x (by decide) (by decide)
  have e45 : τ 45 x = σ 45 x := rr 45 x (by decide) (by decide)
  have e49 : τ 49 x = σ 49 x := rr 49 x (by decide) (by decide)
  have e50 : τ 50 x = σ 50 x := rr 50 x (by decide) (by decide)
  have e48 : τ 48 x = w := by rw [rr 48 x (by decide) (by decide), hl.2.2 x h0 h1, hw]
  have eT : (σ 44 x = 3 ∨ σ 44 x = 4) → (0 ≤ σ 49 x ∧ σ 49 x < σ 7 16) ∧ τ 48 (σ 49 x) = jtd (jmK σ) (jmV σ) (σ 49) x ∧ 0 ≤ τ 48 (σ 49 x) ∧ τ 48 (σ 49 x) ≤ 1400 := fun q => by
    have t := hk.2.1 (by unfold jmK jkof; rcases q with q | q <;> rw [q] <;> simp; by_cases z : σ 50 x = 0 <;> simp [z])
    have e : τ 48 (σ 49 x) = σ 48 (σ 49 x) := rr 48 _ (by decide) (by decide)
    have b := bnd _ t.1 t.2
    rw [e]
    exact ⟨t, hl.2.2 _ t.1 t.2, b.1, b.2⟩
  rw [hl.2.2 x h0 h1, ← hw] at hx
  have hK : jmK σ x = 74 := by unfold jmK jkof; rw [hc]; simp [hL]
  have e4 := eT (Or.inl hc)
  have h2 : jad (jmK σ) (jmV σ) (x + 1) = w + 1 + 1 := by rw [hs, hK, ← hw, show jtk 74 (jmV σ x) w = 2 by simp [jtk]]; omega
  have z0 := hFG w (by omega) (by omega)
  have z1 := hFG (w + 1) (by omega) (by omega)
  rw [Int.sub_self] at z0
  rw [show w + 1 - w = 1 by omega] at z1
  have z : jMb σ (jmp (jmp τ w 20000 0) (w + 1) (jtd (jmK σ) (jmV σ) (σ 49) x) 1) F G (jad (jmK σ) (jmV σ) (x + 1)) := by
    rw [h2]
    exact jMb_put (jMb_put hW (by rw [z0.1]; simp [jwv, hK]) (by rw [z0.2]; simp [jwm, hK])) (by rw [z1.1]; simp [jwv, hK]) (by rw [z1.2]; simp [jwm, hK])
  refine JSp.of [(2, 7), (0, x), (9, 0), (9, 0), (9, 0)] rfl (by decide +kernel) rfl rfl rfl (fun l E hA => ?_)
  refine V.aload_n dX7_writes_0 rfl ?_
  refine V.getR fa_X7_60 rfl dX7_writes_1 ?_
  refine V.iload_n dX7_writes_4 rfl ?_
  refine V.iald (cell := 48) 0 rfl rfl rfl rfl dX7_writes_5 (by omega) (by omega) (fun _ => ?_)
  rw [e48]
  refine V.istore_n (L' := [_, _, _, _, _]) dX7_writes_6 rfl rfl ?_
  refine V.aload_n dX7_writes_7 rfl ?_
  refine V.getR fa_X7_48 rfl dX7_writes_8 ?_
  refine V.iload_n dX7_writes_11 rfl ?_
  refine V.iald (cell := 44) 0 rfl rfl rfl rfl dX7_writes_12 (by omega) (by omega) (fun _ => ?_)
  rw [e44, hc]
  refine V.istore_n (L' := [_, _, _, _, _]) dX7_writes_13 rfl rfl ?_
  refine V.iload_n dX7_writes_14 rfl ?_
  refine V.iconst dX7_writes_15 ⟨by decide, by decide⟩ ?_
  refine V.icmp_ne (tgt := 31) dX7_writes_16 (by decide) (fun h16 => ?_) (fun h16 => ?_)
  · refine V.iload_n dX7_writes_31 rfl ?_
    refine V.iconst dX7_writes_32 ⟨by decide, by decide⟩ ?_
    refine V.icmp_ne (tgt := 63) dX7_writes_33 (by decide) (fun h33 => ?_) (fun h33 => ?_)
    · refine V.iload_n dX7_writes_63 rfl ?_
      refine V.iconst dX7_writes_64 ⟨by decide, by decide⟩ ?_
      refine V.icmp_ne (tgt := 85) dX7_writes_65 (by decide) (fun h65 => ?_) (fun h65 => ?_)
      · refine V.iload_n dX7_writes_85 rfl ?_
        refine V.iconst dX7_writes_86 ⟨by decide, by decide⟩ ?_
        refine V.icmp_ne (tgt := 114) dX7_writes_87 (by decide) (fun h87 => ?_) (fun h87 => ?_)
        · exfalso; omega
        · refine V.aload_n dX7_writes_90 rfl ?_
          refine V.getR fa_X7_66 rfl dX7_writes_91 ?_
          refine V.iload_n dX7_writes_94 rfl ?_
          refine V.zald (cell := 50) 0 rfl rfl rfl rfl dX7_writes_95 (by omega) (by omega) (fun _ => ?_)
          rw [e50]
          refine V.if_ne (tgt := 114) dX7_writes_96 (by decide) (fun h96 => ?_) (fun h96 => ?_)
          · refine V.iload_n dX7_writes_114 rfl ?_
            refine V.iconst dX7_writes_115 ⟨by decide, by decide⟩ ?_
            refine V.icmp_ne (tgt := 156) dX7_writes_116 (by decide) (fun h116 => ?_) (fun h116 => ?_)
            · exfalso; omega
            · refine V.aload_n dX7_writes_119 rfl ?_
              refine V.getR fa_X7_66 rfl dX7_writes_120 ?_
              refine V.iload_n dX7_writes_123 rfl ?_
              refine V.zald (cell := 50) 0 rfl rfl rfl rfl dX7_writes_124 (by omega) (by omega) (fun _ => ?_)
              rw [e50]
              refine V.if_eq (tgt := 156) dX7_writes_125 (by decide) (fun h125 => ?_) (fun h125 => ?_)
              · exact absurd h125 hL
              · refine V.aload_n dX7_writes_128 rfl ?_
                refine V.iload_n dX7_writes_129 rfl ?_
                refine V.sipush dX7_writes_130 ⟨by decide, by decide⟩ ?_
                refine V.iconst dX7_writes_133 ⟨by decide, by decide⟩ ?_
                refine V.cV0 [_, _, _] rfl kc_X7_171 rfl dX7_writes_134 (by decide) rfl rfl (sp_X7_puts (by omega) (by omega)) ?_
                refine V.aload_n dX7_writes_137 rfl ?_
                refine V.iload_n dX7_writes_138 rfl ?_
                refine V.iconst dX7_writes_139 ⟨by decide, by decide⟩ ?_
                refine V.iadd dX7_writes_140 ⟨(by omega), (by omega)⟩ ?_
                refine V.aload_n dX7_writes_141 rfl ?_
                refine V.getR fa_X7_60 rfl dX7_writes_142 ?_
                refine V.aload_n dX7_writes_145 rfl ?_
                refine V.getR fa_X7_63 rfl dX7_writes_146 ?_
                refine V.iload_n dX7_writes_149 rfl ?_
                refine V.iald (cell := 49) 0 rfl rfl rfl rfl dX7_writes_150 (by omega) (by omega) (fun _ => ?_)
                rw [show jmp τ w 20000 0 49 x = τ 49 x from rfl, e49]
                refine V.iald (cell := 48) 0 rfl rfl rfl rfl dX7_writes_151 (by omega) (by omega) (fun _ => ?_)
                rw [show jmp τ w 20000 0 48 (σ 49 x) = τ 48 (σ 49 x) from rfl, e4.2.1]
                refine V.iconst dX7_writes_152 ⟨by decide, by decide⟩ ?_
                refine V.cV0 [_, _, _] rfl kc_X7_171 rfl dX7_writes_153 (by decide) rfl rfl (sp_X7_puts (by omega) (by omega)) ?_
                refine V.aload_n dX7_writes_156 rfl ?_
                refine V.iload_n dX7_writes_157 rfl ?_
                refine V.iload_n dX7_writes_158 rfl ?_
                refine V.cV [_, _] rfl kc_X7_158 rfl dX7_writes_159 (by decide) rfl rfl (sp_X7_sizeOf (x := x) ⟨h0, by omega⟩ hx.1 (show 0 ≤ τ 44 x ∧ τ 44 x ≤ 5 by omega) (show τ 44 x = 5 → 2 ≤ τ 45 x ∧ τ 45 x ≤ 8 from fun q => by omega)) (fun _ => ?_)
                refine V.istore (L' := [_, _, _, _, _]) dX7_writes_162 rfl rfl ?_
                refine V.iload_n dX7_writes_164 rfl ?_
                refine V.iconst dX7_writes_165 ⟨by decide, by decide⟩ ?_
                refine V.icmp_ne (tgt := 192) dX7_writes_166 (by decide) (fun h166 => ?_) (fun h166 => ?_)
                · exact V.vret (jret_v dX7_writes_192 rfl) ⟨rfl, z⟩
                · exfalso; omega
          · exact absurd h96 hL
      · exfalso; omega
    · exfalso; omega
  · exfalso; omega
theorem wr_5 {σ τ : JM} {x w : Int} (hl : jmLok σ) (h0 : 0 ≤ x) (h1 : x < σ 7 16) (hw : w = jad (jmK σ) (jmV σ) x) {F G : Int → Int} (hF : jFN (jmK σ) (jmV σ) (σ 49) (σ 7 16).toNat = F) (hG : jGN (jmK σ) (jmV σ) (σ 7 16).toNat = G) (hW : jMb σ τ F G w) (hc : σ 44 x = 5) : JSp mX7_writes 1 0 [(2, 7), (0, x)] τ (fun v t => v = none ∧ jMb σ t F G (jad (jmK σ) (jmV σ) (x + 1))) jno := by
  have hFG : ∀ b, w ≤ b → b < jad (jmK σ) (jmV σ) (x + 1) → F b = jwv (jmK σ) (jmV σ) (σ 49) x (b - w) ∧ G b = jwm (jmK σ) x (b - w) := fun b b0 b1 => by
    have := jFN_at hl.1 h0 (σ 7 16).toNat (by omega) (by have := hl.1.1; omega) b (by omega) b1
    rw [← hF, ← hG, hw]; exact this
  have hs := jad_s (jmK σ) (jmV σ) h0
  have n200 := hl.1.2.1
  have bnd : ∀ i, 0 ≤ i → i < σ 7 16 → 0 ≤ σ 48 i ∧ σ 48 i ≤ 1400 := fun i i0 i1 => by
    rw [hl.2.2 i i0 i1]
    have := jad_b (K := jmK σ) (v := jmV σ) (N := σ 7 16) (fun i i0 i1 => (hl.1.2.2 i i0 i1).1) i0 (Int.le_of_lt i1)
    omega
  obtain ⟨g1, g2, g3, g4, g5⟩ := hl.2.1 x h0 h1
  have hk := hl.1.2.2 x h0 h1
  have hx := bnd x h0 h1
  have rr := hW.1
  have e43 : τ 43 x = σ 43 x := rr 43 x (by decide) (by decide)
  have e44 : τ 44 x = σ 44 x := rr 44 x (by decide) (by decide)
  have e45 : τ 45 x = σ 45 x := rr 45 x (by decide) (by decide)
  have e49 : τ 49 x = σ 49 x := rr 49 x (by decide) (by decide)
  have e50 : τ 50 x = σ 50 x := rr 50 x (by decide) (by decide)
  have e48 : τ 48 x = w := by rw [rr 48 x (by decide) (by decide), hl.2.2 x h0 h1, hw]
  have eT : (σ 44 x = 3 ∨ σ 44 x = 4) → (0 ≤ σ 49 x ∧ σ 49 x < σ 7 16) ∧ τ 48 (σ 49 x) = jtd (jmK σ) (jmV σ) (σ 49) x ∧ 0 ≤ τ 48 (σ 49 x) ∧ τ 48 (σ 49 x) ≤ 1400 := fun q => by
    have t := hk.2.1 (by unfold jmK jkof; rcases q with q | q <;> rw [q] <;> simp; by_cases z : σ 50 x = 0 <;> simp [z])
    have e : τ 48 (σ 49 x) = σ 48 (σ 49 x) := rr 48 _ (by decide) (by decide)
    have b := bnd _ t.1 t.2
    rw [e]
    exact ⟨t, hl.2.2 _ t.1 t.2, b.1, b.2⟩
  rw [hl.2.2 x h0 h1, ← hw] at hx
  have hK : jmK σ x = 103 := by unfold jmK jkof; rw [hc]; rfl
  have hV : jmV σ x = σ 45 x := by unfold jmV; rw [if_neg (by omega)]
  have t0 := jtk_le (k := jmK σ x) (v := jmV σ x) (a := w) hk.1 hx.1
  have h2 : jad (jmK σ) (jmV σ) (x + 1) = w + jtk (jmK σ x) (jmV σ x) w := by rw [hs, ← hw]
  have eK : jmK τ x = jmK σ x := by unfold jmK; rw [e44, e50]
  have eV : jmV τ x = jmV σ x := by unfold jmV; rw [e44, e43, e45, rr 36 (σ 43 x) (by decide) (by decide)]
  obtain ⟨t, ht⟩ : ∃ t, jtk (jmK σ x) (jmV σ x) w = t := ⟨_, rfl⟩
  rw [ht] at t0 h2
  have zz : ∀ b, w ≤ b → b < w + t → F b = 0 ∧ G b = 0 := fun b b0 b1 => by
    have := hFG b b0 (by omega)
    rw [this.1, this.2]
    simp [jwv, jwm, hK]
  refine JSp.of [(2, 7), (0, x), (9, 0), (9, 0), (9, 0)] rfl (by decide +kernel) rfl rfl rfl (fun l E hA => ?_)
  have loop : ∀ (m : Nat) (n : Int) (ρ : JM), 0 ≤ n → n ≤ t → n < m → jMd σ ρ F G w n t → V l E mX7_writes 1 0 (fun v u => v = none ∧ jMb σ u F G (jad (jmK σ) (jmV σ) (x + 1))) jno 164 [(2, 7), (0, x), (0, w), (0, 5), (0, n)] [] ρ := by
    intro m
    induction m with
    | zero => intro n ρ a1 a2 a3; omega
    | succ m ih =>
      intro n ρ a1 a2 a3 a4
      refine V.iload_n dX7_writes_164 rfl ?_
      refine V.iconst dX7_writes_165 ⟨by decide, by decide⟩ ?_
      refine V.icmp_ne (tgt := 192) dX7_writes_166 (by decide) (fun h166 => ?_) (fun h166 => ?_)
      · exfalso; omega
      · refine V.iload dX7_writes_169 rfl ?_
        refine V.if_le (tgt := 192) dX7_writes_171 (by decide) (fun h171 => ?_) (fun h171 => ?_)
        · exact V.vret (jret_v dX7_writes_192 rfl) ⟨rfl, by rw [h2]; rw [show n = 0 by omega] at a4; exact jMd_full hx.1 t0.1 a4⟩
        · have z0 := zz (w + n - 1) (by omega) (by omega)
          refine V.aload_n dX7_writes_174 rfl ?_
          refine V.iload_n dX7_writes_175 rfl ?_
          refine V.iload dX7_writes_176 rfl ?_
          refine V.iadd dX7_writes_178 ⟨(by omega), (by omega)⟩ ?_
          refine V.iconst dX7_writes_179 ⟨by decide, by decide⟩ ?_
          refine V.isub dX7_writes_180 ⟨(by omega), (by omega)⟩ ?_
          refine V.iconst dX7_writes_181 ⟨by decide, by decide⟩ ?_
          refine V.iconst dX7_writes_182 ⟨by decide, by decide⟩ ?_
          refine V.cV0 [_, _, _] rfl kc_X7_171 rfl dX7_writes_183 (by decide) rfl rfl (sp_X7_puts (by omega) (by omega)) ?_
          refine V.iinc (L' := [_, _, _, _, _]) dX7_writes_186 rfl ⟨(by omega), (by omega)⟩ rfl ?_
          refine V.goto (tgt := 164) dX7_writes_189 (by decide) ?_
          rw [show n + -1 = n - 1 by omega]
          exact ih (n - 1) _ (by omega) (by omega) (by omega) (jMd_put a4 z0.1 z0.2)
  refine V.aload_n dX7_writes_0 rfl ?_
  refine V.getR fa_X7_60 rfl dX7_writes_1 ?_
  refine V.iload_n dX7_writes_4 rfl ?_
  refine V.iald (cell := 48) 0 rfl rfl rfl rfl dX7_writes_5 (by omega) (by omega) (fun _ => ?_)
  rw [e48]
  refine V.istore_n (L' := [_, _, _, _, _]) dX7_writes_6 rfl rfl ?_
  refine V.aload_n dX7_writes_7 rfl ?_
  refine V.getR fa_X7_48 rfl dX7_writes_8 ?_
  refine V.iload_n dX7_writes_11 rfl ?_
  refine V.iald (cell := 44) 0 rfl rfl rfl rfl dX7_writes_12 (by omega) (by omega) (fun _ => ?_)
  rw [e44, hc]
  refine V.istore_n (L' := [_, _, _, _, _]) dX7_writes_13 rfl rfl ?_
  refine V.iload_n dX7_writes_14 rfl ?_
  refine V.iconst dX7_writes_15 ⟨by decide, by decide⟩ ?_
  refine V.icmp_ne (tgt := 31) dX7_writes_16 (by decide) (fun h16 => ?_) (fun h16 => ?_)
  · refine V.iload_n dX7_writes_31 rfl ?_
    refine V.iconst dX7_writes_32 ⟨by decide, by decide⟩ ?_
    refine V.icmp_ne (tgt := 63) dX7_writes_33 (by decide) (fun h33 => ?_) (fun h33 => ?_)
    · refine V.iload_n dX7_writes_63 rfl ?_
      refine V.iconst dX7_writes_64 ⟨by decide, by decide⟩ ?_
      refine V.icmp_ne (tgt := 85) dX7_writes_65 (by decide) (fun h65 => ?_) (fun h65 => ?_)
      · refine V.iload_n dX7_writes_85 rfl ?_
        refine V.iconst dX7_writes_86 ⟨by decide, by decide⟩ ?_
        refine V.icmp_ne (tgt := 114) dX7_writes_87 (by decide) (fun h87 => ?_) (fun h87 => ?_)
        · refine V.iload_n dX7_writes_114 rfl ?_
          refine V.iconst dX7_writes_115 ⟨by decide, by decide⟩ ?_
          refine V.icmp_ne (tgt := 156) dX7_writes_116 (by decide) (fun h116 => ?_) (fun h116 => ?_)
          · refine V.aload_n dX7_writes_156 rfl ?_
            refine V.iload_n dX7_writes_157 rfl ?_
            refine V.iload_n dX7_writes_158 rfl ?_
            refine V.cV [_, _] rfl kc_X7_158 rfl dX7_writes_159 (by decide) rfl rfl (sp_X7_sizeOf (σ := τ) (x := x) ⟨h0, by omega⟩ hx.1 (show 0 ≤ τ 44 x ∧ τ 44 x ≤ 5 by omega) (show τ 44 x = 5 → 2 ≤ τ 45 x ∧ τ 45 x ≤ 8 from fun q => by omega)) (fun _ => ?_)
            rw [eK, eV, ht]
            refine V.istore (L' := [_, _, _, _, _]) dX7_writes_162 rfl rfl ?_
            exact loop (t.toNat + 1) t τ t0.1 (Int.le_refl _) (by omega) (jMd_none t hW)
          · exfalso; omega
        · exfalso; omega
      · exfalso; omega
    · exfalso; omega
  · exfalso; omega
theorem sp_X7_writes {σ τ : JM} {x : Int} (hl : jmLok σ) (h0 : 0 ≤ x) (h1 : x < σ 7 16) (hW : jMb σ τ (jFN (jmK σ) (jmV σ) (σ 49) (σ 7 16).toNat) (jGN (jmK σ) (jmV σ) (σ 7 16).toNat) (jad (jmK σ) (jmV σ) x)) : JSp mX7_writes 1 0 [(2, 7), (0, x)] τ (fun v t => v = none ∧ jMb σ t (jFN (jmK σ) (jmV σ) (σ 49) (σ 7 16).toNat) (jGN (jmK σ) (jmV σ) (σ 7 16).toNat) (jad (jmK σ) (jmV σ) (x + 1))) jno := by
  obtain ⟨g1, -⟩ := hl.2.1 x h0 h1
  have : σ 44 x = 0 ∨ σ 44 x = 1 ∨ σ 44 x = 2 ∨ σ 44 x = 3 ∨ σ 44 x = 4 ∨ σ 44 x = 5 := by omega
  rcases this with c | c | c | c | c | c
  · exact wr_0 hl h0 h1 rfl rfl rfl hW c
  · exact wr_1 hl h0 h1 rfl rfl rfl hW c
  · exact wr_2 hl h0 h1 rfl rfl rfl hW c
  · by_cases g : σ 50 x = 0
    · exact wr_3 hl h0 h1 rfl rfl rfl hW c g
    · exact wr_J hl h0 h1 rfl rfl rfl hW c g
  · exact wr_4 hl h0 h1 rfl rfl rfl hW c
  · exact wr_5 hl h0 h1 rfl rfl rfl hW c
