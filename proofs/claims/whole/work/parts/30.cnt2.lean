/-- the answer of a counting -/
def jcQ (σ0 σ : JM) (r : Int × Prop) : Option JV → JM → Prop := fun v t => jckp σ0 t ∧ jmem σ0 t ∧ (t 7 34 = 1 ↔ σ 7 34 = 1 ∨ r.2) ∧ v = some (0, jM6 r.1)
theorem jmem_put {σ0 τ : JM} {f m a b : Int} (h : jmem σ0 τ) (hm : 0 ≤ m ∧ m < σ0 7 2) (ha : 0 ≤ a ∧ a ≤ 999) (hb : 0 ≤ b ∧ b ≤ 999) (hf : (jcm σ0 m a b).2 → τ 7 34 = 1) : jmem σ0 (jset (jset τ 53 f (jkey m a b)) 54 f (jM6 (jcm σ0 m a b).1)) := by
  refine ⟨h.1, fun i i0 i1 hi => ?_⟩
  have e53 : jset (jset τ 53 f (jkey m a b)) 54 f (jM6 (jcm σ0 m a b).1) 53 i = jset τ 53 f (jkey m a b) 53 i := rfl
  have e54 : jset (jset τ 53 f (jkey m a b)) 54 f (jM6 (jcm σ0 m a b).1) 54 i = jset τ 54 f (jM6 (jcm σ0 m a b).1) 54 i := rfl
  have e34 : jset (jset τ 53 f (jkey m a b)) 54 f (jM6 (jcm σ0 m a b).1) 7 34 = τ 7 34 := rfl
  rw [e53] at hi
  rw [e53, e54, e34]
  by_cases e : i = f
  · rw [e, jset_eq, jset_eq]
    exact ⟨m, a, b, hm, ha, hb, rfl, rfl, hf⟩
  · rw [jset_nj _ e] at hi
    rw [jset_nj _ e, jset_nj _ e]
    exact h.2 i i0 i1 hi
theorem jckp_put {σ0 τ : JM} {f u v : Int} (h : jckp σ0 τ) : jckp σ0 (jset (jset τ 53 f u) 54 f v) := fun a b h1 h2 h3 => by
  rw [jset_nk _ h2, jset_nk _ h1]; exact h a b h1 h2 h3
set_option maxHeartbeats 4000000 in
theorem sp_X7_countsMacro {σ0 σ : JM} (hw : jwf σ0) {m a b : Int} (hm : 0 ≤ m ∧ m < σ0 7 2) (ha : 0 ≤ a ∧ a ≤ 999) (hb : 0 ≤ b ∧ b ≤ 999) (k : jckp σ0 σ) (i : jmem σ0 σ) {dd : Nat} (hd : 0 < dd) (hc : JSp mX7_counts (dd - 1) 0 [(2, 7), (0, σ0 40 m + 1), (0, σ0 41 m), (0, a), (0, b)] σ (jcQ σ0 σ (jcm σ0 m a b)) jno) : JSp mX7_countsMacro dd 0 [(2, 7), (0, m), (0, a), (0, b)] σ (jcQ σ0 σ (jcm σ0 m a b)) jno := by
  have mc := hw.mc
  have mm := hw.mm m hm.1 hm.2
  have ln := hw.ln
  have e40 : σ 40 m = σ0 40 m := k 40 m (by decide) (by decide) (by omega)
  have e41 : σ 41 m = σ0 41 m := k 41 m (by decide) (by decide) (by omega)
  have ek : 1 + b + 1000 * (a + 1000 * m) = jkey m a b := rfl
  refine JSp.of [(2, 7), (0, m), (0, a), (0, b), (9, 0), (9, 0), (9, 0), (9, 0), (9, 0)] rfl (by decide +kernel) rfl rfl rfl (fun l E hA => ?_)
  have h187 : ∀ (τ : JM) (f o u : Int), jckp σ0 τ → jmem σ0 τ → (τ 7 34 = 1 ↔ σ 7 34 = 1 ∨ (jcm σ0 m a b).2) → 0 ≤ f → f < 4096 → V l E mX7_countsMacro dd 0 (jcQ σ0 σ (jcm σ0 m a b)) jno 187 [(2, 7), (0, m), (0, a), (0, b), (0, jkey m a b), (0, u), (0, o), (0, jM6 (jcm σ0 m a b).1), (0, f)] [] τ := by
    intro τ f o u kτ iτ fτ f0 f1
    refine V.iload dX7_countsMacro_187 rfl ?_
    refine V.sipush dX7_countsMacro_189 ⟨by decide, by decide⟩ ?_
    refine V.icmp_ge (tgt := 213) dX7_countsMacro_192 (by decide) (fun h192 => ?_) (fun h192 => ?_)
    · refine V.iload dX7_countsMacro_213 rfl ?_
      exact V.iret (jret_i dX7_countsMacro_215 rfl) (by first | exact ⟨kτ, iτ, fτ, rfl⟩ | exact ⟨jckp_put kτ, jmem_put iτ hm ha hb (fun z => fτ.mpr (Or.inr z)), fτ, rfl⟩)
    · refine V.aload_n dX7_countsMacro_195 rfl ?_
      refine V.getR fa_X7_76 rfl dX7_countsMacro_196 ?_
      refine V.iload dX7_countsMacro_199 rfl ?_
      refine V.iload dX7_countsMacro_201 rfl ?_
      refine V.iast (cell := 53) 0 rfl rfl rfl rfl dX7_countsMacro_203 (by omega) (by omega) ?_
      refine V.aload_n dX7_countsMacro_204 rfl ?_
      refine V.getR fa_X7_79 rfl dX7_countsMacro_205 ?_
      refine V.iload dX7_countsMacro_208 rfl ?_
      refine V.iload dX7_countsMacro_210 rfl ?_
      refine V.iast (cell := 54) 0 rfl rfl rfl rfl dX7_countsMacro_212 (by omega) (by omega) ?_
      refine V.iload dX7_countsMacro_213 rfl ?_
      exact V.iret (jret_i dX7_countsMacro_215 rfl) (by first | exact ⟨kτ, iτ, fτ, rfl⟩ | exact ⟨jckp_put kτ, jmem_put iτ hm ha hb (fun z => fτ.mpr (Or.inr z)), fτ, rfl⟩)
  have l2 : ∀ (τ : JM) (u : Int), jckp σ0 τ → jmem σ0 τ → (τ 7 34 = 1 ↔ σ 7 34 = 1 ∨ (jcm σ0 m a b).2) → ∀ (n : Nat) (f o : Int), 0 ≤ f → f < 4096 → 0 ≤ o → o ≤ 4096 → 4096 - o < n → V l E mX7_countsMacro dd 0 (jcQ σ0 σ (jcm σ0 m a b)) jno 153 [(2, 7), (0, m), (0, a), (0, b), (0, jkey m a b), (0, u), (0, o), (0, jM6 (jcm σ0 m a b).1), (0, f)] [] τ := by
    intro τ u kτ iτ fτ n
    induction n with
    | zero => intro f o f0 f1 o0 o1 o2; omega
    | succ n ih =>
      intro f o f0 f1 o0 o1 o2
      have q0 := Int.emod_nonneg (f + 1) (show (4096 : Int) ≠ 0 by decide)
      have q1 := Int.emod_lt_of_pos (f + 1) (show (0 : Int) < 4096 by decide)
      refine V.iload dX7_countsMacro_153 rfl ?_
      refine V.sipush dX7_countsMacro_155 ⟨by decide, by decide⟩ ?_
      refine V.icmp_ge (tgt := 187) dX7_countsMacro_158 (by decide) (fun h158 => ?_) (fun h158 => ?_)
      · exact h187 τ f o u kτ iτ fτ f0 f1
      · refine V.aload_n dX7_countsMacro_161 rfl ?_
        refine V.getR fa_X7_76 rfl dX7_countsMacro_162 ?_
        refine V.iload dX7_countsMacro_165 rfl ?_
        refine V.iald (cell := 53) 0 rfl rfl rfl rfl dX7_countsMacro_167 (by omega) (by omega) (fun _ => ?_)
        refine V.if_eq (tgt := 187) dX7_countsMacro_168 (by decide) (fun h168 => ?_) (fun h168 => ?_)
        · exact h187 τ f o u kτ iτ fτ f0 f1
        · refine V.iload dX7_countsMacro_171 rfl ?_
          refine V.iconst dX7_countsMacro_173 ⟨by decide, by decide⟩ ?_
          refine V.iadd dX7_countsMacro_174 ⟨(by omega), (by omega)⟩ ?_
          refine V.sipush dX7_countsMacro_175 ⟨by decide, by decide⟩ ?_
          refine V.irem dX7_countsMacro_178 (by omega) (by omega) ?_
          refine V.istore (L' := [_, _, _, _, _, _, _, _, _]) dX7_countsMacro_179 rfl rfl ?_
          refine V.iinc (L' := [_, _, _, _, _, _, _, _, _]) dX7_countsMacro_181 rfl ⟨(by omega), (by omega)⟩ rfl ?_
          refine V.goto (tgt := 153) dX7_countsMacro_184 (by decide) ?_
          exact ih _ _ q0 q1 (by omega) (by omega) (by omega)
  have h107 : ∀ (t o : Int), V l E mX7_countsMacro dd 0 (jcQ σ0 σ (jcm σ0 m a b)) jno 107 [(2, 7), (0, m), (0, a), (0, b), (0, jkey m a b), (0, t), (0, o), (9, 0), (9, 0)] [] σ := by
    intro t o
    have q0 := Int.emod_nonneg (31 * b + 7 * a + 513 * m) (show (4096 : Int) ≠ 0 by decide)
    have q1 := Int.emod_lt_of_pos (31 * b + 7 * a + 513 * m) (show (0 : Int) < 4096 by decide)
    refine V.aload_n dX7_countsMacro_107 rfl ?_
    refine V.aload_n dX7_countsMacro_108 rfl ?_
    refine V.getR fa_X7_32 rfl dX7_countsMacro_109 ?_
    refine V.iload_n dX7_countsMacro_112 rfl ?_
    refine V.iald (cell := 40) 0 rfl rfl rfl rfl dX7_countsMacro_113 (by omega) (by omega) (fun _ => ?_)
    rw [e40]
    refine V.iconst dX7_countsMacro_114 ⟨by decide, by decide⟩ ?_
    refine V.iadd dX7_countsMacro_115 ⟨(by omega), (by omega)⟩ ?_
    refine V.aload_n dX7_countsMacro_116 rfl ?_
    refine V.getR fa_X7_35 rfl dX7_countsMacro_117 ?_
    refine V.iload_n dX7_countsMacro_120 rfl ?_
    refine V.iald (cell := 41) 0 rfl rfl rfl rfl dX7_countsMacro_121 (by omega) (by omega) (fun _ => ?_)
    rw [e41]
    refine V.iload_n dX7_countsMacro_122 rfl ?_
    refine V.iload_n dX7_countsMacro_123 rfl ?_
    refine V.callV [_, _, _, _] rfl kc_X7_202 rfl dX7_countsMacro_124 (d' := dd - 1) (by omega) (Nat.zero_le 0) rfl (fun _ _ => hc) rfl (fun v τ hτ hv => ?_) (fun X σ' hx => hx.elim)
    obtain ⟨kτ, iτ, fτ, rfl⟩ := hτ
    refine V.istore (L' := [_, _, _, _, _, _, _, _, _]) dX7_countsMacro_127 rfl rfl ?_
    refine V.bipush dX7_countsMacro_129 ⟨by decide, by decide⟩ ?_
    refine V.iload_n dX7_countsMacro_131 rfl ?_
    refine V.imul dX7_countsMacro_132 ⟨(by omega), (by omega)⟩ ?_
    refine V.bipush dX7_countsMacro_133 ⟨by decide, by decide⟩ ?_
    refine V.iload_n dX7_countsMacro_135 rfl ?_
    refine V.imul dX7_countsMacro_136 ⟨(by omega), (by omega)⟩ ?_
    refine V.iadd dX7_countsMacro_137 ⟨(by omega), (by omega)⟩ ?_
    refine V.sipush dX7_countsMacro_138 ⟨by decide, by decide⟩ ?_
    refine V.iload_n dX7_countsMacro_141 rfl ?_
    refine V.imul dX7_countsMacro_142 ⟨(by omega), (by omega)⟩ ?_
    refine V.iadd dX7_countsMacro_143 ⟨(by omega), (by omega)⟩ ?_
    refine V.sipush dX7_countsMacro_144 ⟨by decide, by decide⟩ ?_
    refine V.irem dX7_countsMacro_147 (by omega) (by omega) ?_
    refine V.istore (L' := [_, _, _, _, _, _, _, _, _]) dX7_countsMacro_148 rfl rfl ?_
    refine V.iconst dX7_countsMacro_150 ⟨by decide, by decide⟩ ?_
    refine V.istore (L' := [_, _, _, _, _, _, _, _, _]) dX7_countsMacro_151 rfl rfl ?_
    exact l2 τ t kτ iτ fτ 4097 _ 0 q0 q1 (by decide) (by decide) (by decide)
  have h87 : ∀ (t o : Int), 0 ≤ t → t < 4096 → V l E mX7_countsMacro dd 0 (jcQ σ0 σ (jcm σ0 m a b)) jno 87 [(2, 7), (0, m), (0, a), (0, b), (0, jkey m a b), (0, t), (0, o), (9, 0), (9, 0)] [] σ := by
    intro t o t0 t1
    refine V.aload_n dX7_countsMacro_87 rfl ?_
    refine V.getR fa_X7_76 rfl dX7_countsMacro_88 ?_
    refine V.iload dX7_countsMacro_91 rfl ?_
    refine V.iald (cell := 53) 0 rfl rfl rfl rfl dX7_countsMacro_93 (by omega) (by omega) (fun _ => ?_)
    refine V.iload dX7_countsMacro_94 rfl ?_
    refine V.icmp_ne (tgt := 107) dX7_countsMacro_96 (by decide) (fun h96 => ?_) (fun h96 => ?_)
    · exact h107 t o
    · obtain ⟨m', a', b', hm', ha', hb', g1, g2, g3⟩ := i.2 t t0 t1 (by rw [h96]; unfold jkey; omega)
      obtain ⟨rfl, rfl, rfl⟩ := jkey_inj ha' hb' ha hb (g1.symm.trans h96)
      refine V.aload_n dX7_countsMacro_99 rfl ?_
      refine V.getR fa_X7_79 rfl dX7_countsMacro_100 ?_
      refine V.iload dX7_countsMacro_103 rfl ?_
      refine V.iald (cell := 54) 0 rfl rfl rfl rfl dX7_countsMacro_105 (by omega) (by omega) (fun _ => ?_)
      exact V.iret (jret_i dX7_countsMacro_106 rfl) ⟨k, i, ⟨fun z => Or.inl z, fun z => z.elim id g3⟩, by rw [g2]⟩
  have l1 : ∀ (n : Nat) (t o : Int), 0 ≤ t → t < 4096 → 0 ≤ o → o ≤ 4096 → 4096 - o < n → V l E mX7_countsMacro dd 0 (jcQ σ0 σ (jcm σ0 m a b)) jno 41 [(2, 7), (0, m), (0, a), (0, b), (0, jkey m a b), (0, t), (0, o), (9, 0), (9, 0)] [] σ := by
    intro n
    induction n with
    | zero => intro f o f0 f1 o0 o1 o2; omega
    | succ n ih =>
      intro t o t0 t1 o0 o1 o2
      have q0 := Int.emod_nonneg (t + 1) (show (4096 : Int) ≠ 0 by decide)
      have q1 := Int.emod_lt_of_pos (t + 1) (show (0 : Int) < 4096 by decide)
      refine V.iload dX7_countsMacro_41 rfl ?_
      refine V.sipush dX7_countsMacro_43 ⟨by decide, by decide⟩ ?_
      refine V.icmp_ge (tgt := 87) dX7_countsMacro_46 (by decide) (fun h46 => ?_) (fun h46 => ?_)
      · exact h87 t o t0 t1
      · refine V.aload_n dX7_countsMacro_49 rfl ?_
        refine V.getR fa_X7_76 rfl dX7_countsMacro_50 ?_
        refine V.iload dX7_countsMacro_53 rfl ?_
        refine V.iald (cell := 53) 0 rfl rfl rfl rfl dX7_countsMacro_55 (by omega) (by omega) (fun _ => ?_)
        refine V.if_eq (tgt := 87) dX7_countsMacro_56 (by decide) (fun h56 => ?_) (fun h56 => ?_)
        · exact h87 t o t0 t1
        · refine V.aload_n dX7_countsMacro_59 rfl ?_
          refine V.getR fa_X7_76 rfl dX7_countsMacro_60 ?_
          refine V.iload dX7_countsMacro_63 rfl ?_
          refine V.iald (cell := 53) 0 rfl rfl rfl rfl dX7_countsMacro_65 (by omega) (by omega) (fun _ => ?_)
          refine V.iload dX7_countsMacro_66 rfl ?_
          refine V.icmp_eq (tgt := 87) dX7_countsMacro_68 (by decide) (fun h68 => ?_) (fun h68 => ?_)
          · exact h87 t o t0 t1
          · refine V.iload dX7_countsMacro_71 rfl ?_
            refine V.iconst dX7_countsMacro_73 ⟨by decide, by decide⟩ ?_
            refine V.iadd dX7_countsMacro_74 ⟨(by omega), (by omega)⟩ ?_
            refine V.sipush dX7_countsMacro_75 ⟨by decide, by decide⟩ ?_
            refine V.irem dX7_countsMacro_78 (by omega) (by omega) ?_
            refine V.istore (L' := [_, _, _, _, _, _, _, _, _]) dX7_countsMacro_79 rfl rfl ?_
            refine V.iinc (L' := [_, _, _, _, _, _, _, _, _]) dX7_countsMacro_81 rfl ⟨(by omega), (by omega)⟩ rfl ?_
            refine V.goto (tgt := 41) dX7_countsMacro_84 (by decide) ?_
            exact ih _ _ q0 q1 (by omega) (by omega) (by omega)
  have q0 := Int.emod_nonneg (31 * b + 7 * a + 513 * m) (show (4096 : Int) ≠ 0 by decide)
  have q1 := Int.emod_lt_of_pos (31 * b + 7 * a + 513 * m) (show (0 : Int) < 4096 by decide)
  refine V.iconst dX7_countsMacro_0 ⟨by decide, by decide⟩ ?_
  refine V.iload_n dX7_countsMacro_1 rfl ?_
  refine V.iadd dX7_countsMacro_2 ⟨(by omega), (by omega)⟩ ?_
  refine V.sipush dX7_countsMacro_3 ⟨by decide, by decide⟩ ?_
  refine V.iload_n dX7_countsMacro_6 rfl ?_
  refine V.sipush dX7_countsMacro_7 ⟨by decide, by decide⟩ ?_
  refine V.iload_n dX7_countsMacro_10 rfl ?_
  refine V.imul dX7_countsMacro_11 ⟨(by omega), (by omega)⟩ ?_
  refine V.iadd dX7_countsMacro_12 ⟨(by omega), (by omega)⟩ ?_
  refine V.imul dX7_countsMacro_13 ⟨(by omega), (by omega)⟩ ?_
  refine V.iadd dX7_countsMacro_14 ⟨(by omega), (by omega)⟩ ?_
  rw [ek]
  refine V.istore (L' := [_, _, _, _, _, _, _, _, _]) dX7_countsMacro_15 rfl rfl ?_
  refine V.bipush dX7_countsMacro_17 ⟨by decide, by decide⟩ ?_
  refine V.iload_n dX7_countsMacro_19 rfl ?_
  refine V.imul dX7_countsMacro_20 ⟨(by omega), (by omega)⟩ ?_
  refine V.bipush dX7_countsMacro_21 ⟨by decide, by decide⟩ ?_
  refine V.iload_n dX7_countsMacro_23 rfl ?_
  refine V.imul dX7_countsMacro_24 ⟨(by omega), (by omega)⟩ ?_
  refine V.iadd dX7_countsMacro_25 ⟨(by omega), (by omega)⟩ ?_
  refine V.sipush dX7_countsMacro_26 ⟨by decide, by decide⟩ ?_
  refine V.iload_n dX7_countsMacro_29 rfl ?_
  refine V.imul dX7_countsMacro_30 ⟨(by omega), (by omega)⟩ ?_
  refine V.iadd dX7_countsMacro_31 ⟨(by omega), (by omega)⟩ ?_
  refine V.sipush dX7_countsMacro_32 ⟨by decide, by decide⟩ ?_
  refine V.irem dX7_countsMacro_35 (by omega) (by omega) ?_
  refine V.istore (L' := [_, _, _, _, _, _, _, _, _]) dX7_countsMacro_36 rfl rfl ?_
  refine V.iconst dX7_countsMacro_38 ⟨by decide, by decide⟩ ?_
  refine V.istore (L' := [_, _, _, _, _, _, _, _, _]) dX7_countsMacro_39 rfl rfl ?_
  exact l1 4097 _ 0 q0 q1 (by decide) (by decide) (by decide)
