theorem sp_X7_less {σ : JM} {v : Int} (hv : 0 ≤ v) : JSp mX7_less 0 0 [(1, v)] σ (jrv (jM6 v) σ) jno := by
  refine JSp.of [(1, v), (9, 0)] rfl (by decide +kernel) rfl rfl rfl (fun l E hA => ?_)
  by_cases c : 1000000 < v
  · refine V.lload_n dX7_less_0 rfl ?_
    refine V.ldc2 (x := 1000000) dX7_less_1 ⟨by decide, by decide⟩ (by have h := kg1649; rwa [show (1000000 : Int64) = jL (1000000) by decide +kernel] at h) ?_
    refine V.lcmp dX7_less_4 ?_
    rw [if_pos c]
    refine V.if_le (tgt := 13) dX7_less_5 (by decide) (fun h5 => ?_) (fun h5 => ?_)
    · exfalso; omega
    · refine V.ldc (x := 1000000) dX7_less_8 ⟨by decide, by decide⟩ (by have h := kg1650; rwa [show (1000000 : Int32) = jI (1000000) by decide +kernel] at h) ?_
      refine V.goto (tgt := 15) dX7_less_10 (by decide) ?_
      exact V.iret (jret_i dX7_less_15 rfl) ⟨jsm (by unfold jM6; rw [if_pos (by omega)]), rfl⟩
  · refine V.lload_n dX7_less_0 rfl ?_
    refine V.ldc2 (x := 1000000) dX7_less_1 ⟨by decide, by decide⟩ (by have h := kg1649; rwa [show (1000000 : Int64) = jL (1000000) by decide +kernel] at h) ?_
    refine V.lcmp dX7_less_4 ?_
    rw [if_neg c]
    refine V.if_le (tgt := 13) dX7_less_5 (by decide) (fun h5 => ?_) (fun h5 => ?_)
    · refine V.lload_n dX7_less_13 rfl ?_
      refine V.l2i dX7_less_14 ⟨(by omega), (by omega)⟩ ?_
      exact V.iret (jret_i dX7_less_15 rfl) ⟨jsm (by unfold jM6; rw [if_neg (by omega)]), rfl⟩
    · exfalso; split at h5 <;> omega
def jcR (σ0 σ : JM) (s : Int) (r : Int × Prop) : Option JV → JM → Prop := fun v t => jckp σ0 t ∧ jmem σ0 t ∧ (t 7 34 = 1 ↔ σ 7 34 = 1 ∨ r.2) ∧ v = some (0, jM6 (s + r.1))
theorem jcR_t {σ0 σ τ : JM} {P : Prop} {s s' : Int} {r r' : Int × Prop} (h1 : τ 7 34 = 1 ↔ σ 7 34 = 1 ∨ P) (h2 : s + r.1 = s' + r'.1) (h3 : P ∨ r.2 ↔ r'.2) {v : Option JV} {t : JM} (h : jcR σ0 τ s r v t) : jcR σ0 σ s' r' v t := by
  obtain ⟨a, b, c, d⟩ := h
  refine ⟨a, b, ?_, by rw [d, h2]⟩
  rw [c, h1, ← h3, or_assoc]
theorem jcn_e {σ : JM} (hw : jwf σ) {n : Nat} {x to p q : Int} (c : jwc σ x to p q 0) (w : jW σ x to) (hn : to * 81 + (to - x) < n) : jcn n σ x to p q = jcn 7000 σ x to p q := by
  have ln := hw.ln
  have a := jcn_f hw (to * 81 + (to - x) + 1).toNat x to p q c w (by omega) n (by omega)
  have b := jcn_f hw (to * 81 + (to - x) + 1).toNat x to p q c w (by omega) 7000 (by omega)
  rw [a, b]
def jcLoop (σ0 : JM) (n : Nat) : Prop := ∀ (σ : JM) (x to p q s : Int), jckp σ0 σ → jmem σ0 σ → jwc σ0 x to p q 0 → jW σ0 x to → to * 81 + (to - x) < n → (0 ≤ s ∧ s ≤ 999000000 * (80 - (to - x))) → ∀ (dd : Nat), to + 4 ≤ dd → ∀ (l : Launch) (E : JE) (fr : Int), V l E mX7_counts dd 0 (jcR σ0 σ s (jcn n σ0 x to p q)) jno 6 [(2, 7), (0, fr), (0, to), (0, p), (0, q), (1, s), (9, 0), (0, x), (9, 0), (9, 0), (9, 0), (9, 0)] [] σ
theorem jcLoop.sp {σ0 : JM} (hw : jwf σ0) {n : Nat} (ih : jcLoop σ0 n) {σ : JM} {x to p q : Int} (k : jckp σ0 σ) (i : jmem σ0 σ) (c : jwc σ0 x to p q 0) (w : jW σ0 x to) (hn : to * 81 + (to - x) < n) {dd : Nat} (hd : to + 4 ≤ dd) : JSp mX7_counts dd 0 [(2, 7), (0, x), (0, to), (0, p), (0, q)] σ (jcQ σ0 σ (jcn 7000 σ0 x to p q)) jno := by
  have ln := hw.ln
  refine JSp.of [(2, 7), (0, x), (0, to), (0, p), (0, q), (9, 0), (9, 0), (9, 0), (9, 0), (9, 0), (9, 0), (9, 0)] rfl (by decide +kernel) rfl rfl rfl (fun l E hA => ?_)
  refine V.lconst dX7_counts_0 ?_
  refine V.lstore (L' := [_, _, _, _, _, _, _, _, _, _, _, _]) dX7_counts_1 rfl rfl ?_
  refine V.iload_n dX7_counts_3 rfl ?_
  refine V.istore (L' := [_, _, _, _, _, _, _, _, _, _, _, _]) dX7_counts_4 rfl rfl ?_
  exact (ih σ x to p q 0 k i c w hn ⟨Int.le_refl _, by omega⟩ dd hd l E x).monoR (fun v t h => by rw [jcn_e hw c w hn] at h; obtain ⟨a1, a2, a3, a4⟩ := h; exact ⟨a1, a2, a3, by rw [a4, Int.zero_add]⟩)
set_option maxHeartbeats 4000000 in
theorem ct_i {σ0 : JM} (hw : jwf σ0) {n : Nat} (ih : jcLoop σ0 n) {σ : JM} {x to p q s : Int} (k : jckp σ0 σ) (i : jmem σ0 σ) (c : jwc σ0 x to p q 0) (w : jW σ0 x to) (hn : to * 81 + (to - x) < (n + 1 : Nat)) (hs : 0 ≤ s ∧ s ≤ 999000000 * (80 - (to - x))) {dd : Nat} (hd : to + 4 ≤ dd) {l : Launch} {E : JE} {fr : Int} (h : x < to) (h5 : σ0 34 x < 6) : V l E mX7_counts dd 0 (jcR σ0 σ s (jcn (n + 1) σ0 x to p q)) jno 122 [(2, 7), (0, fr), (0, to), (0, p), (0, q), (1, s), (9, 0), (0, x), (0, σ0 34 x), (0, jwa σ0 x p q), (0, jwb σ0 x p q), (9, 0)] [] σ := by
  have ln := hw.ln
  have k34 : σ 34 x = σ0 34 x := k 34 x (by omega) (by omega) (by omega)
  have k35 : σ 35 x = σ0 35 x := k 35 x (by omega) (by omega) (by omega)
  have k36 : σ 36 x = σ0 36 x := k 36 x (by omega) (by omega) (by omega)
  have k37 : σ 37 x = σ0 37 x := k 37 x (by omega) (by omega) (by omega)
  have k38 : σ 38 x = σ0 38 x := k 38 x (by omega) (by omega) (by omega)
  have o1 := hw.one x c.1 (by omega)
  have o2 := hw.two x c.1 (by omega)
  have so := hw.so x c.1 (by omega)
  have ncl := w.ncl h
  have ab := jrga_b ⟨o1.1, o1.2.1⟩ c.2.2.2.1 c.2.2.2.2.1
  have bb := jrga_b o2 c.2.2.2.1 c.2.2.2.2.1
  rw [jcn_i h h5]
  refine V.lload dX7_counts_122 rfl ?_
  refine V.iload dX7_counts_124 rfl ?_
  refine V.bipush dX7_counts_126 ⟨by decide, by decide⟩ ?_
  refine V.icmp_ge (tgt := 135) dX7_counts_128 (by decide) (fun h128 => ?_) (fun h128 => ?_)
  · exfalso; omega
  · refine V.lconst dX7_counts_131 ?_
    refine V.goto (tgt := 162) dX7_counts_132 (by decide) ?_
    refine V.ladd dX7_counts_162 ⟨(by omega), (by omega)⟩ ?_
    refine V.lstore (L' := [_, _, _, _, _, _, _, _, _, _, _, _]) dX7_counts_163 rfl rfl ?_
    refine V.iload dX7_counts_165 rfl ?_
    refine V.bipush dX7_counts_167 ⟨by decide, by decide⟩ ?_
    refine V.icmp_ge (tgt := 175) dX7_counts_169 (by decide) (fun h169 => ?_) (fun h169 => ?_)
    · exfalso; omega
    · refine V.goto (tgt := 284) dX7_counts_172 (by decide) ?_
      refine V.iinc (L' := [_, _, _, _, _, _, _, _, _, _, _, _]) dX7_counts_284 rfl ⟨(by omega), (by omega)⟩ rfl ?_
      refine V.goto (tgt := 6) dX7_counts_287 (by decide) ?_
      refine V.fg [8, 9, 10, 11] rfl ?_
      exact (ih σ (x + 1) to p q (s + 1) k i (by omega) (w.suc (by omega)) (by omega) (by omega) dd hd l E fr).monoR (fun v t z => jcR_t (r := jcn n σ0 (x + 1) to p q) (r' := (1 + (jcn n σ0 (x + 1) to p q).1, (jcn n σ0 (x + 1) to p q).2)) (s := s + 1) (s' := s) (P := False) ⟨fun y => Or.inl y, fun y => y.elim id False.elim⟩ (Int.add_assoc s 1 _) ⟨fun y => y.elim False.elim id, fun y => Or.inr y⟩ z)
set_option maxHeartbeats 4000000 in
theorem ct_c {σ0 : JM} (hw : jwf σ0) {n : Nat} (ih : jcLoop σ0 n) {σ : JM} {x to p q s : Int} (k : jckp σ0 σ) (i : jmem σ0 σ) (c : jwc σ0 x to p q 0) (w : jW σ0 x to) (hn : to * 81 + (to - x) < (n + 1 : Nat)) (hs : 0 ≤ s ∧ s ≤ 999000000 * (80 - (to - x))) {dd : Nat} (hd : to + 4 ≤ dd) {l : Launch} {E : JE} {fr : Int} (h : x < to) (h6 : σ0 34 x = 6) : V l E mX7_counts dd 0 (jcR σ0 σ s (jcn (n + 1) σ0 x to p q)) jno 122 [(2, 7), (0, fr), (0, to), (0, p), (0, q), (1, s), (9, 0), (0, x), (0, σ0 34 x), (0, jwa σ0 x p q), (0, jwb σ0 x p q), (9, 0)] [] σ := by
  have ln := hw.ln
  have k34 : σ 34 x = σ0 34 x := k 34 x (by omega) (by omega) (by omega)
  have k35 : σ 35 x = σ0 35 x := k 35 x (by omega) (by omega) (by omega)
  have k36 : σ 36 x = σ0 36 x := k 36 x (by omega) (by omega) (by omega)
  have k37 : σ 37 x = σ0 37 x := k 37 x (by omega) (by omega) (by omega)
  have k38 : σ 38 x = σ0 38 x := k 38 x (by omega) (by omega) (by omega)
  have o1 := hw.one x c.1 (by omega)
  have o2 := hw.two x c.1 (by omega)
  have so := hw.so x c.1 (by omega)
  have ncl := w.ncl h
  have ab := jrga_b ⟨o1.1, o1.2.1⟩ c.2.2.2.1 c.2.2.2.2.1
  have bb := jrga_b o2 c.2.2.2.1 c.2.2.2.2.1
  rw [jcn_c h h6]
  have ca := hw.ca x c.1 (by omega) h6
  have mm := hw.mm (σ0 37 x) ca.1 ca.2.1
  have mc := hw.mc
  have wm := jW.mac hw ca.1 ca.2.1
  have cm : jwc σ0 (σ0 40 (σ0 37 x) + 1) (σ0 41 (σ0 37 x)) (jwa σ0 x p q) (jwb σ0 x p q) 0 := ⟨by omega, by omega, by omega, ab, bb, by omega, by omega⟩
  have em : jcC n σ0 x p q = jcm σ0 (σ0 37 x) (jwa σ0 x p q) (jwb σ0 x p q) := jcn_e hw cm wm (by omega)
  have sp := sp_X7_countsMacro (a := jwa σ0 x p q) (b := jwb σ0 x p q) hw (dd := dd - 1) ⟨ca.1, ca.2.1⟩ ab bb k i (by omega) (ih.sp hw k i cm wm (by omega) (by omega))
  have bd := jcn_b hw 7000 _ _ _ _ cm wm
  have b6 := jM6_b (x := (jcm σ0 (σ0 37 x) (jwa σ0 x p q) (jwb σ0 x p q)).1) bd.1
  rw [em]
  refine V.lload dX7_counts_122 rfl ?_
  refine V.iload dX7_counts_124 rfl ?_
  refine V.bipush dX7_counts_126 ⟨by decide, by decide⟩ ?_
  refine V.icmp_ge (tgt := 135) dX7_counts_128 (by decide) (fun h128 => ?_) (fun h128 => ?_)
  · refine V.iload dX7_counts_135 rfl ?_
    refine V.bipush dX7_counts_137 ⟨by decide, by decide⟩ ?_
    refine V.icmp_ne (tgt := 161) dX7_counts_139 (by decide) (fun h139 => ?_) (fun h139 => ?_)
    · exfalso; omega
    · refine V.aload_n dX7_counts_142 rfl ?_
      refine V.aload_n dX7_counts_143 rfl ?_
      refine V.getR fa_X7_23 rfl dX7_counts_144 ?_
      refine V.iload dX7_counts_147 rfl ?_
      refine V.iald (cell := 37) 0 rfl rfl rfl rfl dX7_counts_149 (by omega) (by omega) (fun _ => ?_)
      rw [k37]
      refine V.iload dX7_counts_150 rfl ?_
      refine V.iload dX7_counts_152 rfl ?_
      refine V.callV [_, _, _] rfl kc_X7_196 rfl dX7_counts_154 (d' := dd - 1) (by omega) (Nat.zero_le 0) rfl (fun _ _ => sp) rfl (fun v τ hτ hv => ?_) (fun X σ' hx => hx.elim)
      obtain ⟨kτ, iτ, fτ, rfl⟩ := hτ
      refine V.i2l dX7_counts_157 ?_
      refine V.goto (tgt := 162) dX7_counts_158 (by decide) ?_
      refine V.ladd dX7_counts_162 ⟨(by omega), (by omega)⟩ ?_
      refine V.lstore (L' := [_, _, _, _, _, _, _, _, _, _, _, _]) dX7_counts_163 rfl rfl ?_
      refine V.iload dX7_counts_165 rfl ?_
      refine V.bipush dX7_counts_167 ⟨by decide, by decide⟩ ?_
      refine V.icmp_ge (tgt := 175) dX7_counts_169 (by decide) (fun h169 => ?_) (fun h169 => ?_)
      · exfalso; omega
      · refine V.goto (tgt := 284) dX7_counts_172 (by decide) ?_
        refine V.iinc (L' := [_, _, _, _, _, _, _, _, _, _, _, _]) dX7_counts_284 rfl ⟨(by omega), (by omega)⟩ rfl ?_
        refine V.goto (tgt := 6) dX7_counts_287 (by decide) ?_
        refine V.fg [8, 9, 10, 11] rfl ?_
        exact (ih τ (x + 1) to p q _ kτ iτ (by omega) (w.suc (by omega)) (by omega) (by omega) dd hd l E fr).monoR (fun v t z => jcR_t fτ (Int.add_assoc s _ _) Iff.rfl z)
  · exfalso; omega
set_option maxHeartbeats 4000000 in
theorem ct_r {σ0 : JM} (hw : jwf σ0) {n : Nat} (ih : jcLoop σ0 n) {σ : JM} {x to p q s : Int} (k : jckp σ0 σ) (i : jmem σ0 σ) (c : jwc σ0 x to p q 0) (w : jW σ0 x to) (hn : to * 81 + (to - x) < (n + 1 : Nat)) (hs : 0 ≤ s ∧ s ≤ 999000000 * (80 - (to - x))) {dd : Nat} (hd : to + 4 ≤ dd) {l : Launch} {E : JE} {fr : Int} (h : x < to) (h1 : σ0 34 x ≠ 11) (h7 : 7 ≤ σ0 34 x) {τ : JM} (kτ : jckp σ0 τ) (iτ : jmem σ0 τ) (fτ : τ 7 34 = 1 ↔ σ 7 34 = 1 ∨ (σ0 34 x = 8 ∧ 9 < jwa σ0 x p q)) : V l E mX7_counts dd 0 (jcR σ0 σ s (jcn (n + 1) σ0 x to p q)) jno 242 [(2, 7), (0, fr), (0, to), (0, p), (0, q), (1, s), (9, 0), (0, x), (0, σ0 34 x), (0, jwa σ0 x p q), (0, jwb σ0 x p q), (0, jrd σ0 x p q)] [] τ := by
  have ln := hw.ln
  have k34 : σ 34 x = σ0 34 x := k 34 x (by omega) (by omega) (by omega)
  have k35 : σ 35 x = σ0 35 x := k 35 x (by omega) (by omega) (by omega)
  have k36 : σ 36 x = σ0 36 x := k 36 x (by omega) (by omega) (by omega)
  have k37 : σ 37 x = σ0 37 x := k 37 x (by omega) (by omega) (by omega)
  have k38 : σ 38 x = σ0 38 x := k 38 x (by omega) (by omega) (by omega)
  have o1 := hw.one x c.1 (by omega)
  have o2 := hw.two x c.1 (by omega)
  have so := hw.so x c.1 (by omega)
  have ncl := w.ncl h
  have ab := jrga_b ⟨o1.1, o1.2.1⟩ c.2.2.2.1 c.2.2.2.2.1
  have bb := jrga_b o2 c.2.2.2.1 c.2.2.2.2.1
  have op : jop (σ0 34 x) := by omega
  have g := jW.inn hw c.1 c.2.2.1 w (Int.le_refl _) h op
  have gn := jW.nxt hw c.1 c.2.2.1 w h op
  have rb := jrd_b hw (p := p) (q := q) ⟨c.1, by omega⟩ c.2.2.2.1 c.2.2.2.2.1
  have t38 : τ 38 x = σ0 38 x := kτ 38 x (by omega) (by omega) (by omega)
  by_cases hr : 0 < jrd σ0 x p q
  · rw [jcn_g h h1 h7 hr]
    have en := jcn_e hw (n := n) (x := x + 1) (to := σ0 38 x) (p := p) (q := q) (by omega) g.1 (by omega)
    have bd := jcn_b hw 7000 (x + 1) (σ0 38 x) p q (by omega) g.1
    have sp := ih.sp hw (dd := dd - 1) kτ iτ (x := x + 1) (to := σ0 38 x) (p := p) (q := q) (by omega) g.1 (by omega) (by omega)
    rw [en]
    generalize jcn 7000 σ0 (x + 1) (σ0 38 x) p q = R at sp bd ⊢
    have b6 := jM6_b bd.1
    have b7 := jmul_b rb b6
    refine V.iload dX7_counts_242 rfl ?_
    refine V.if_le (tgt := 275) dX7_counts_244 (by decide) (fun h244 => ?_) (fun h244 => ?_)
    · exfalso; omega
    · refine V.lload dX7_counts_247 rfl ?_
      refine V.iload dX7_counts_249 rfl ?_
      refine V.i2l dX7_counts_251 ?_
      refine V.aload_n dX7_counts_252 rfl ?_
      refine V.iload dX7_counts_253 rfl ?_
      refine V.iconst dX7_counts_255 ⟨by decide, by decide⟩ ?_
      refine V.iadd dX7_counts_256 ⟨(by omega), (by omega)⟩ ?_
      refine V.aload_n dX7_counts_257 rfl ?_
      refine V.getR fa_X7_26 rfl dX7_counts_258 ?_
      refine V.iload dX7_counts_261 rfl ?_
      refine V.iald (cell := 38) 0 rfl rfl rfl rfl dX7_counts_263 (by omega) (by omega) (fun _ => ?_)
      rw [t38]
      refine V.iload_n dX7_counts_264 rfl ?_
      refine V.iload dX7_counts_265 rfl ?_
      refine V.callV [_, _, _, _] rfl kc_X7_202 rfl dX7_counts_267 (d' := dd - 1) (by omega) (Nat.zero_le 0) rfl (fun _ _ => sp) rfl (fun v ρ hρ hv => ?_) (fun X σ' hx => hx.elim)
      obtain ⟨kρ, iρ, fρ, rfl⟩ := hρ
      refine V.i2l dX7_counts_270 ?_
      refine V.lmul dX7_counts_271 ⟨(by omega), (by omega)⟩ ?_
      refine V.ladd dX7_counts_272 ⟨(by omega), (by omega)⟩ ?_
      refine V.lstore (L' := [_, _, _, _, _, _, _, _, _, _, _, _]) dX7_counts_273 rfl rfl ?_
      refine V.aload_n dX7_counts_275 rfl ?_
      refine V.getR fa_X7_26 rfl dX7_counts_276 ?_
      refine V.iload dX7_counts_279 rfl ?_
      refine V.iald (cell := 38) 0 rfl rfl rfl rfl dX7_counts_281 (by omega) (by omega) (fun _ => ?_)
      rw [kρ 38 x (by omega) (by omega) (by omega)]
      refine V.istore (L' := [_, _, _, _, _, _, _, _, _, _, _, _]) dX7_counts_282 rfl rfl ?_
      refine V.iinc (L' := [_, _, _, _, _, _, _, _, _, _, _, _]) dX7_counts_284 rfl ⟨(by omega), (by omega)⟩ rfl ?_
      refine V.goto (tgt := 6) dX7_counts_287 (by decide) ?_
      refine V.fg [8, 9, 10, 11] rfl ?_
      exact (ih ρ (σ0 38 x + 1) to p q _ kρ iρ (by omega) gn (by omega) (by omega) dd hd l E fr).monoR (fun v t z => jcR_t (P := (σ0 34 x = 8 ∧ 9 < jwa σ0 x p q) ∨ R.2) (by rw [fρ, fτ, or_assoc]) (Int.add_assoc s _ _) (by show (_ ∨ _) ∨ _ ↔ _ ∨ _ ∨ _; rw [or_assoc]) z)
  · rw [jcn_z h h1 h7 hr]
    have nt : ¬ (σ0 34 x = 8 ∧ 9 < jwa σ0 x p q) := fun z => hr (by show 0 < jrds _ _ _; unfold jrds; rw [if_neg (by omega), if_pos z.1]; omega)
    refine V.iload dX7_counts_242 rfl ?_
    refine V.if_le (tgt := 275) dX7_counts_244 (by decide) (fun h244 => ?_) (fun h244 => ?_)
    · refine V.aload_n dX7_counts_275 rfl ?_
      refine V.getR fa_X7_26 rfl dX7_counts_276 ?_
      refine V.iload dX7_counts_279 rfl ?_
      refine V.iald (cell := 38) 0 rfl rfl rfl rfl dX7_counts_281 (by omega) (by omega) (fun _ => ?_)
      rw [t38]
      refine V.istore (L' := [_, _, _, _, _, _, _, _, _, _, _, _]) dX7_counts_282 rfl rfl ?_
      refine V.iinc (L' := [_, _, _, _, _, _, _, _, _, _, _, _]) dX7_counts_284 rfl ⟨(by omega), (by omega)⟩ rfl ?_
      refine V.goto (tgt := 6) dX7_counts_287 (by decide) ?_
      refine V.fg [8, 9, 10, 11] rfl ?_
      exact (ih τ (σ0 38 x + 1) to p q s kτ iτ (by omega) gn (by omega) (by omega) dd hd l E fr).monoR (fun v t z => jcR_t fτ rfl ⟨fun y => y.elim (fun y => absurd y nt) id, Or.inr⟩ z)
    · exfalso; omega
set_option maxHeartbeats 4000000 in
theorem ct_202 {σ0 : JM} (hw : jwf σ0) {n : Nat} (ih : jcLoop σ0 n) {σ : JM} {x to p q s : Int} (k : jckp σ0 σ) (i : jmem σ0 σ) (c : jwc σ0 x to p q 0) (w : jW σ0 x to) (hn : to * 81 + (to - x) < (n + 1 : Nat)) (hs : 0 ≤ s ∧ s ≤ 999000000 * (80 - (to - x))) {dd : Nat} (hd : to + 4 ≤ dd) {l : Launch} {E : JE} {fr : Int} (h : x < to) (h1 : σ0 34 x ≠ 11) (h7 : 7 ≤ σ0 34 x) {v : Int} (hv : v = 0 ∨ v = 1) (fv : v = 1 ↔ σ 7 34 = 1 ∨ (σ0 34 x = 8 ∧ 9 < jwa σ0 x p q)) : V l E mX7_counts dd 0 (jcR σ0 σ s (jcn (n + 1) σ0 x to p q)) jno 202 [(2, 7), (0, fr), (0, to), (0, p), (0, q), (1, s), (9, 0), (0, x), (0, σ0 34 x), (0, jwa σ0 x p q), (0, jwb σ0 x p q), (9, 0)] [(0, v), (2, 7)] σ := by
  have kτ : jckp σ0 (jset σ 7 34 v) := fun a b n1 n2 n3 => by rw [jset_ne _ n3]; exact k a b n1 n2 n3
  have iτ : jmem σ0 (jset σ 7 34 v) := ⟨by rw [jset_eq]; exact hv, fun i0 a0 a1 a2 => by
    obtain ⟨m, a, b, b1, b2, b3, b4, b5, b6⟩ := i.2 i0 a0 a1 a2
    exact ⟨m, a, b, b1, b2, b3, b4, b5, fun z => by rw [jset_eq]; exact fv.mpr (Or.inl (b6 z))⟩⟩
  have nx : ∀ r, r = jrd σ0 x p q → V l E mX7_counts dd 0 (jcR σ0 σ s (jcn (n + 1) σ0 x to p q)) jno 242 [(2, 7), (0, fr), (0, to), (0, p), (0, q), (1, s), (9, 0), (0, x), (0, σ0 34 x), (0, jwa σ0 x p q), (0, jwb σ0 x p q), (0, r)] [] (jset σ 7 34 v) := fun r e => by rw [e]; exact ct_r hw ih k i c w hn hs hd h h1 h7 kτ iτ (by rw [jset_eq]; exact fv)
  refine V.putI fa_X7_199 (by decide) rfl dX7_counts_202 (Or.inr hv) ?_
  refine V.iload dX7_counts_205 rfl ?_
  refine V.bipush dX7_counts_207 ⟨by decide, by decide⟩ ?_
  refine V.icmp_ne (tgt := 216) dX7_counts_209 (by decide) (fun h209 => ?_) (fun h209 => ?_)
  · refine V.iload dX7_counts_216 rfl ?_
    refine V.bipush dX7_counts_218 ⟨by decide, by decide⟩ ?_
    refine V.icmp_ne (tgt := 228) dX7_counts_220 (by decide) (fun h220 => ?_) (fun h220 => ?_)
    · refine V.iload dX7_counts_228 rfl ?_
      refine V.iload dX7_counts_230 rfl ?_
      refine V.icmp_ne (tgt := 239) dX7_counts_232 (by decide) (fun h232 => ?_) (fun h232 => ?_)
      · refine V.iconst dX7_counts_239 ⟨by decide, by decide⟩ ?_
        refine V.istore (L' := [_, _, _, _, _, _, _, _, _, _, _, _]) dX7_counts_240 rfl rfl ?_
        exact nx _ (by unfold jrd jrds; (repeat' split) <;> omega)
      · refine V.iconst dX7_counts_235 ⟨by decide, by decide⟩ ?_
        refine V.goto (tgt := 240) dX7_counts_236 (by decide) ?_
        refine V.istore (L' := [_, _, _, _, _, _, _, _, _, _, _, _]) dX7_counts_240 rfl rfl ?_
        exact nx _ (by unfold jrd jrds; (repeat' split) <;> omega)
    · refine V.iload dX7_counts_223 rfl ?_
      refine V.goto (tgt := 240) dX7_counts_225 (by decide) ?_
      refine V.istore (L' := [_, _, _, _, _, _, _, _, _, _, _, _]) dX7_counts_240 rfl rfl ?_
      exact nx _ (by unfold jrd jrds; (repeat' split) <;> omega)
  · refine V.iconst dX7_counts_212 ⟨by decide, by decide⟩ ?_
    refine V.goto (tgt := 240) dX7_counts_213 (by decide) ?_
    refine V.istore (L' := [_, _, _, _, _, _, _, _, _, _, _, _]) dX7_counts_240 rfl rfl ?_
    exact nx _ (by unfold jrd jrds; (repeat' split) <;> omega)
set_option maxHeartbeats 4000000 in
theorem ct_g {σ0 : JM} (hw : jwf σ0) {n : Nat} (ih : jcLoop σ0 n) {σ : JM} {x to p q s : Int} (k : jckp σ0 σ) (i : jmem σ0 σ) (c : jwc σ0 x to p q 0) (w : jW σ0 x to) (hn : to * 81 + (to - x) < (n + 1 : Nat)) (hs : 0 ≤ s ∧ s ≤ 999000000 * (80 - (to - x))) {dd : Nat} (hd : to + 4 ≤ dd) {l : Launch} {E : JE} {fr : Int} (h : x < to) (h1 : σ0 34 x ≠ 11) (h7 : 7 ≤ σ0 34 x) : V l E mX7_counts dd 0 (jcR σ0 σ s (jcn (n + 1) σ0 x to p q)) jno 122 [(2, 7), (0, fr), (0, to), (0, p), (0, q), (1, s), (9, 0), (0, x), (0, σ0 34 x), (0, jwa σ0 x p q), (0, jwb σ0 x p q), (9, 0)] [] σ := by
  have ln := hw.ln
  have k34 : σ 34 x = σ0 34 x := k 34 x (by omega) (by omega) (by omega)
  have k35 : σ 35 x = σ0 35 x := k 35 x (by omega) (by omega) (by omega)
  have k36 : σ 36 x = σ0 36 x := k 36 x (by omega) (by omega) (by omega)
  have k37 : σ 37 x = σ0 37 x := k 37 x (by omega) (by omega) (by omega)
  have k38 : σ 38 x = σ0 38 x := k 38 x (by omega) (by omega) (by omega)
  have o1 := hw.one x c.1 (by omega)
  have o2 := hw.two x c.1 (by omega)
  have so := hw.so x c.1 (by omega)
  have ncl := w.ncl h
  have ab := jrga_b ⟨o1.1, o1.2.1⟩ c.2.2.2.1 c.2.2.2.2.1
  have bb := jrga_b o2 c.2.2.2.1 c.2.2.2.2.1
  have i1 := i.1
  refine V.lload dX7_counts_122 rfl ?_
  refine V.iload dX7_counts_124 rfl ?_
  refine V.bipush dX7_counts_126 ⟨by decide, by decide⟩ ?_
  refine V.icmp_ge (tgt := 135) dX7_counts_128 (by decide) (fun h128 => ?_) (fun h128 => ?_)
  · refine V.iload dX7_counts_135 rfl ?_
    refine V.bipush dX7_counts_137 ⟨by decide, by decide⟩ ?_
    refine V.icmp_ne (tgt := 161) dX7_counts_139 (by decide) (fun h139 => ?_) (fun h139 => ?_)
    · refine V.lconst dX7_counts_161 ?_
      refine V.ladd dX7_counts_162 ⟨(by omega), (by omega)⟩ ?_
      rw [show s + (((0 : Fin 2) : Nat) : Int) = s from Int.add_zero s]
      refine V.lstore (L' := [_, _, _, _, _, _, _, _, _, _, _, _]) dX7_counts_163 rfl rfl ?_
      refine V.iload dX7_counts_165 rfl ?_
      refine V.bipush dX7_counts_167 ⟨by decide, by decide⟩ ?_
      refine V.icmp_ge (tgt := 175) dX7_counts_169 (by decide) (fun h169 => ?_) (fun h169 => ?_)
      · refine V.aload_n dX7_counts_175 rfl ?_
        refine V.aload_n dX7_counts_176 rfl ?_
        refine V.getI fa_X7_199 (by decide) rfl dX7_counts_177 (fun _ => ?_)
        refine V.if_ne (tgt := 197) dX7_counts_180 (by decide) (fun h180 => ?_) (fun h180 => ?_)
        · refine V.iconst dX7_counts_197 ⟨by decide, by decide⟩ ?_
          refine V.goto (tgt := 202) dX7_counts_198 (by decide) ?_
          exact ct_202 hw ih k i c w hn hs hd h h1 h7 (by omega) (by omega)
        · refine V.iload dX7_counts_183 rfl ?_
          refine V.bipush dX7_counts_185 ⟨by decide, by decide⟩ ?_
          refine V.icmp_ne (tgt := 201) dX7_counts_187 (by decide) (fun h187 => ?_) (fun h187 => ?_)
          · refine V.iconst dX7_counts_201 ⟨by decide, by decide⟩ ?_
            exact ct_202 hw ih k i c w hn hs hd h h1 h7 (by omega) (by omega)
          · refine V.iload dX7_counts_190 rfl ?_
            refine V.bipush dX7_counts_192 ⟨by decide, by decide⟩ ?_
            refine V.icmp_le (tgt := 201) dX7_counts_194 (by decide) (fun h194 => ?_) (fun h194 => ?_)
            · refine V.iconst dX7_counts_201 ⟨by decide, by decide⟩ ?_
              exact ct_202 hw ih k i c w hn hs hd h h1 h7 (by omega) (by omega)
            · refine V.iconst dX7_counts_197 ⟨by decide, by decide⟩ ?_
              refine V.goto (tgt := 202) dX7_counts_198 (by decide) ?_
              exact ct_202 hw ih k i c w hn hs hd h h1 h7 (by omega) (by omega)
      · exfalso; omega
    · exfalso; omega
  · exfalso; omega
set_option maxHeartbeats 4000000 in
theorem ct_122 {σ0 : JM} (hw : jwf σ0) {n : Nat} (ih : jcLoop σ0 n) {σ : JM} {x to p q s : Int} (k : jckp σ0 σ) (i : jmem σ0 σ) (c : jwc σ0 x to p q 0) (w : jW σ0 x to) (hn : to * 81 + (to - x) < (n + 1 : Nat)) (hs : 0 ≤ s ∧ s ≤ 999000000 * (80 - (to - x))) {dd : Nat} (hd : to + 4 ≤ dd) {l : Launch} {E : JE} {fr : Int} (h : x < to) (h1 : σ0 34 x ≠ 11) : V l E mX7_counts dd 0 (jcR σ0 σ s (jcn (n + 1) σ0 x to p q)) jno 122 [(2, 7), (0, fr), (0, to), (0, p), (0, q), (1, s), (9, 0), (0, x), (0, σ0 34 x), (0, jwa σ0 x p q), (0, jwb σ0 x p q), (9, 0)] [] σ := by
  by_cases h5 : σ0 34 x < 6
  · exact ct_i hw ih k i c w hn hs hd h h5
  · by_cases h6 : σ0 34 x = 6
    · exact ct_c hw ih k i c w hn hs hd h h6
    · exact ct_g hw ih k i c w hn hs hd h h1 (by omega)
set_option maxHeartbeats 4000000 in
theorem ct_81 {σ0 : JM} (hw : jwf σ0) {n : Nat} (ih : jcLoop σ0 n) {σ : JM} {x to p q s : Int} (k : jckp σ0 σ) (i : jmem σ0 σ) (c : jwc σ0 x to p q 0) (w : jW σ0 x to) (hn : to * 81 + (to - x) < (n + 1 : Nat)) (hs : 0 ≤ s ∧ s ≤ 999000000 * (80 - (to - x))) {dd : Nat} (hd : to + 4 ≤ dd) {l : Launch} {E : JE} {fr : Int} (h : x < to) (h1 : σ0 34 x ≠ 11) : V l E mX7_counts dd 0 (jcR σ0 σ s (jcn (n + 1) σ0 x to p q)) jno 81 [(2, 7), (0, fr), (0, to), (0, p), (0, q), (1, s), (9, 0), (0, x), (0, σ0 34 x), (0, jwa σ0 x p q), (9, 0), (9, 0)] [] σ := by
  have ln := hw.ln
  have kx : σ 36 x = σ0 36 x := k 36 x (by omega) (by omega) (by omega)
  have nx : ∀ u, u = jwb σ0 x p q → V l E mX7_counts dd 0 (jcR σ0 σ s (jcn (n + 1) σ0 x to p q)) jno 122 [(2, 7), (0, fr), (0, to), (0, p), (0, q), (1, s), (9, 0), (0, x), (0, σ0 34 x), (0, jwa σ0 x p q), (0, u), (9, 0)] [] σ := fun u e => by rw [e]; exact ct_122 hw ih k i c w hn hs hd h h1
  refine V.aload_n dX7_counts_81 rfl ?_
  refine V.getR fa_X7_20 rfl dX7_counts_82 ?_
  refine V.iload dX7_counts_85 rfl ?_
  refine V.iald (cell := 36) 0 rfl rfl rfl rfl dX7_counts_87 (by omega) (by omega) (fun _ => ?_)
  rw [kx]
  refine V.iconst dX7_counts_88 ⟨by decide, by decide⟩ ?_
  refine V.icmp_ne (tgt := 96) dX7_counts_89 (by decide) (fun h89 => ?_) (fun h89 => ?_)
  · refine V.aload_n dX7_counts_96 rfl ?_
    refine V.getR fa_X7_20 rfl dX7_counts_97 ?_
    refine V.iload dX7_counts_100 rfl ?_
    refine V.iald (cell := 36) 0 rfl rfl rfl rfl dX7_counts_102 (by omega) (by omega) (fun _ => ?_)
    rw [kx]
    refine V.bipush dX7_counts_103 ⟨by decide, by decide⟩ ?_
    refine V.icmp_ne (tgt := 113) dX7_counts_105 (by decide) (fun h105 => ?_) (fun h105 => ?_)
    · refine V.aload_n dX7_counts_113 rfl ?_
      refine V.getR fa_X7_20 rfl dX7_counts_114 ?_
      refine V.iload dX7_counts_117 rfl ?_
      refine V.iald (cell := 36) 0 rfl rfl rfl rfl dX7_counts_119 (by omega) (by omega) (fun _ => ?_)
      rw [kx]
      refine V.istore (L' := [_, _, _, _, _, _, _, _, _, _, _, _]) dX7_counts_120 rfl rfl ?_
      exact nx _ (by unfold jwb jrga; (repeat' split) <;> omega)
    · refine V.iload dX7_counts_108 rfl ?_
      refine V.goto (tgt := 120) dX7_counts_110 (by decide) ?_
      refine V.istore (L' := [_, _, _, _, _, _, _, _, _, _, _, _]) dX7_counts_120 rfl rfl ?_
      exact nx _ (by unfold jwb jrga; (repeat' split) <;> omega)
  · refine V.iload_n dX7_counts_92 rfl ?_
    refine V.goto (tgt := 120) dX7_counts_93 (by decide) ?_
    refine V.istore (L' := [_, _, _, _, _, _, _, _, _, _, _, _]) dX7_counts_120 rfl rfl ?_
    exact nx _ (by unfold jwb jrga; (repeat' split) <;> omega)
set_option maxHeartbeats 4000000 in
theorem ct_40 {σ0 : JM} (hw : jwf σ0) {n : Nat} (ih : jcLoop σ0 n) {σ : JM} {x to p q s : Int} (k : jckp σ0 σ) (i : jmem σ0 σ) (c : jwc σ0 x to p q 0) (w : jW σ0 x to) (hn : to * 81 + (to - x) < (n + 1 : Nat)) (hs : 0 ≤ s ∧ s ≤ 999000000 * (80 - (to - x))) {dd : Nat} (hd : to + 4 ≤ dd) {l : Launch} {E : JE} {fr : Int} (h : x < to) (h1 : σ0 34 x ≠ 11) : V l E mX7_counts dd 0 (jcR σ0 σ s (jcn (n + 1) σ0 x to p q)) jno 40 [(2, 7), (0, fr), (0, to), (0, p), (0, q), (1, s), (9, 0), (0, x), (0, σ0 34 x), (9, 0), (9, 0), (9, 0)] [] σ := by
  have ln := hw.ln
  have kx : σ 35 x = σ0 35 x := k 35 x (by omega) (by omega) (by omega)
  have nx : ∀ u, u = jwa σ0 x p q → V l E mX7_counts dd 0 (jcR σ0 σ s (jcn (n + 1) σ0 x to p q)) jno 81 [(2, 7), (0, fr), (0, to), (0, p), (0, q), (1, s), (9, 0), (0, x), (0, σ0 34 x), (0, u), (9, 0), (9, 0)] [] σ := fun u e => by rw [e]; exact ct_81 hw ih k i c w hn hs hd h h1
  refine V.aload_n dX7_counts_40 rfl ?_
  refine V.getR fa_X7_17 rfl dX7_counts_41 ?_
  refine V.iload dX7_counts_44 rfl ?_
  refine V.iald (cell := 35) 0 rfl rfl rfl rfl dX7_counts_46 (by omega) (by omega) (fun _ => ?_)
  rw [kx]
  refine V.iconst dX7_counts_47 ⟨by decide, by decide⟩ ?_
  refine V.icmp_ne (tgt := 55) dX7_counts_48 (by decide) (fun h48 => ?_) (fun h48 => ?_)
  · refine V.aload_n dX7_counts_55 rfl ?_
    refine V.getR fa_X7_17 rfl dX7_counts_56 ?_
    refine V.iload dX7_counts_59 rfl ?_
    refine V.iald (cell := 35) 0 rfl rfl rfl rfl dX7_counts_61 (by omega) (by omega) (fun _ => ?_)
    rw [kx]
    refine V.bipush dX7_counts_62 ⟨by decide, by decide⟩ ?_
    refine V.icmp_ne (tgt := 72) dX7_counts_64 (by decide) (fun h64 => ?_) (fun h64 => ?_)
    · refine V.aload_n dX7_counts_72 rfl ?_
      refine V.getR fa_X7_17 rfl dX7_counts_73 ?_
      refine V.iload dX7_counts_76 rfl ?_
      refine V.iald (cell := 35) 0 rfl rfl rfl rfl dX7_counts_78 (by omega) (by omega) (fun _ => ?_)
      rw [kx]
      refine V.istore (L' := [_, _, _, _, _, _, _, _, _, _, _, _]) dX7_counts_79 rfl rfl ?_
      exact nx _ (by unfold jwa jrga; (repeat' split) <;> omega)
    · refine V.iload dX7_counts_67 rfl ?_
      refine V.goto (tgt := 79) dX7_counts_69 (by decide) ?_
      refine V.istore (L' := [_, _, _, _, _, _, _, _, _, _, _, _]) dX7_counts_79 rfl rfl ?_
      exact nx _ (by unfold jwa jrga; (repeat' split) <;> omega)
  · refine V.iload_n dX7_counts_51 rfl ?_
    refine V.goto (tgt := 79) dX7_counts_52 (by decide) ?_
    refine V.istore (L' := [_, _, _, _, _, _, _, _, _, _, _, _]) dX7_counts_79 rfl rfl ?_
    exact nx _ (by unfold jwa jrga; (repeat' split) <;> omega)
set_option maxHeartbeats 4000000 in
theorem jcLoop.succ {σ0 : JM} (hw : jwf σ0) {n : Nat} (ih : jcLoop σ0 n) : jcLoop σ0 (n + 1) := by
  intro σ x to p q s k i c w hn hs dd hd l E fr
  by_cases h : to ≤ x
  · refine V.iload dX7_counts_6 rfl ?_
    refine V.iload_n dX7_counts_8 rfl ?_
    refine V.icmp_ge (tgt := 290) dX7_counts_9 (by decide) (fun h9 => ?_) (fun h9 => ?_)
    · refine V.lload dX7_counts_290 rfl ?_
      refine V.cS [_] rfl kc_X7_205 dX7_counts_292 (by omega) rfl rfl (sp_X7_less hs.1) (fun _ => ?_)
      exact V.iret (jret_i dX7_counts_295 rfl) ⟨k, i, by rw [jcn_0 h]; exact ⟨Or.inl, fun z => z.elim id False.elim⟩, by rw [jcn_0 h]; show _ = some ((0 : Nat), jM6 (s + 0)); rw [Int.add_zero]⟩
    · exfalso; omega
  have h : x < to := by omega
  have ln := hw.ln
  have k34 : σ 34 x = σ0 34 x := k 34 x (by omega) (by omega) (by omega)
  have k35 : σ 35 x = σ0 35 x := k 35 x (by omega) (by omega) (by omega)
  have k36 : σ 36 x = σ0 36 x := k 36 x (by omega) (by omega) (by omega)
  have k37 : σ 37 x = σ0 37 x := k 37 x (by omega) (by omega) (by omega)
  have k38 : σ 38 x = σ0 38 x := k 38 x (by omega) (by omega) (by omega)
  have o1 := hw.one x c.1 (by omega)
  have o2 := hw.two x c.1 (by omega)
  have so := hw.so x c.1 (by omega)
  have ncl := w.ncl h
  have ab := jrga_b ⟨o1.1, o1.2.1⟩ c.2.2.2.1 c.2.2.2.2.1
  have bb := jrga_b o2 c.2.2.2.1 c.2.2.2.2.1
  refine V.iload dX7_counts_6 rfl ?_
  refine V.iload_n dX7_counts_8 rfl ?_
  refine V.icmp_ge (tgt := 290) dX7_counts_9 (by decide) (fun h9 => ?_) (fun h9 => ?_)
  · exfalso; omega
  · refine V.aload_n dX7_counts_12 rfl ?_
    refine V.getR fa_X7_13 rfl dX7_counts_13 ?_
    refine V.iload dX7_counts_16 rfl ?_
    refine V.iald (cell := 34) 0 rfl rfl rfl rfl dX7_counts_18 (by omega) (by omega) (fun _ => ?_)
    rw [k34]
    refine V.istore (L' := [_, _, _, _, _, _, _, _, _, _, _, _]) dX7_counts_19 rfl rfl ?_
    refine V.iload dX7_counts_21 rfl ?_
    refine V.bipush dX7_counts_23 ⟨by decide, by decide⟩ ?_
    refine V.icmp_ne (tgt := 40) dX7_counts_25 (by decide) (fun h25 => ?_) (fun h25 => ?_)
    · exact ct_40 hw ih k i c w hn hs hd h h25
    · refine V.aload_n dX7_counts_28 rfl ?_
      refine V.getR fa_X7_26 rfl dX7_counts_29 ?_
      refine V.iload dX7_counts_32 rfl ?_
      refine V.iald (cell := 38) 0 rfl rfl rfl rfl dX7_counts_34 (by omega) (by omega) (fun _ => ?_)
      rw [k38]
      refine V.istore (L' := [_, _, _, _, _, _, _, _, _, _, _, _]) dX7_counts_35 rfl rfl ?_
      refine V.goto (tgt := 284) dX7_counts_37 (by decide) ?_
      refine V.iinc (L' := [_, _, _, _, _, _, _, _, _, _, _, _]) dX7_counts_284 rfl ⟨(by have := hw.op x c.1 (by omega) (by omega); omega), (by have := hw.op x c.1 (by omega) (by omega); omega)⟩ rfl ?_
      refine V.goto (tgt := 6) dX7_counts_287 (by decide) ?_
      refine V.fg [8, 9, 10, 11] rfl ?_
      have g := jW.inn hw c.1 c.2.2.1 w (Int.le_refl _) h (by omega)
      rw [jcn_m h h25]
      exact ih _ _ _ _ _ _ k i (by omega) (jW.nxt hw c.1 c.2.2.1 w h (by omega)) (by omega) (by omega) dd hd l E fr
theorem jcLoop.all {σ0 : JM} (hw : jwf σ0) : ∀ n : Nat, jcLoop σ0 n := by
  intro n
  induction n with
  | zero => intro σ x to p q s k i c w hn; omega
  | succ n ih => exact jcLoop.succ hw ih
/-- THE CONTRACT of the reference's counting -/
theorem sp_X7_counts {σ0 σ : JM} (hw : jwf σ0) {x to p q : Int} (k : jckp σ0 σ) (i : jmem σ0 σ) (c : jwc σ0 x to p q 0) (w : jW σ0 x to) {dd : Nat} (hd : to + 4 ≤ dd) : JSp mX7_counts dd 0 [(2, 7), (0, x), (0, to), (0, p), (0, q)] σ (jcQ σ0 σ (jcn 7000 σ0 x to p q)) jno := by
  have ln := hw.ln
  exact (jcLoop.all hw 7000).sp hw k i c w (by omega) hd
