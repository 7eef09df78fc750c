set_option maxHeartbeats 4000000 in
set_option maxRecDepth 10000 in
theorem sim_z {σ0 : JM} {Z : Int → Int → JM → Prop} (hs : jSC σ0) (hw : jwf σ0) (hz : jZst σ0 Z) {n : Nat} (ih : jSim σ0 Z n) {τ ρ : JM} {S : Int → Int} {x to sc p ps q qs d st : Int} (k : jkp σ0 ρ) (i : jwi ρ) (j : jit σ0 ρ) (c : jwc σ0 x to p q d) (w : jW σ0 x to) (hn : to * 81 + (to - x) < (n + 1 : Nat)) (h : jCD σ0 τ ρ S) (cx : jCx σ0 τ S to sc p ps q qs d) (st0 : 0 ≤ st) (sb : st + 721 * (1000 - ρ 7 18) + (to - x) ≤ 900000) (ka : jKa σ0 Z (jwk (n + 1) ρ x to sc p ps q qs d) τ ρ S x to st) (kb : jKb σ0 Z (jwk (n + 1) ρ x to sc p ps q qs d)) (hx : x < to) (h2 : ¬ jwFa ρ x p q) (h4 : ¬ jwFf ρ x) (h7 : 7 ≤ ρ 34 x) (h9 : ρ 34 x ≤ 9) (r0 : jrds (ρ 34 x) (jwa ρ x p q) (jwb ρ x p q) = 0) : Z x st τ := by
  have x0 : 0 ≤ x := c.1
  have x1 : x < σ0 7 1 := by omega
  have k34 : ρ 34 x = σ0 34 x := k 34 x (by omega) (by omega) (by omega)
  have k35 : ρ 35 x = σ0 35 x := k 35 x (by omega) (by omega) (by omega)
  have k36 : ρ 36 x = σ0 36 x := k 36 x (by omega) (by omega) (by omega)
  have k37 : ρ 37 x = σ0 37 x := k 37 x (by omega) (by omega) (by omega)
  have k38 : ρ 38 x = σ0 38 x := k 38 x (by omega) (by omega) (by omega)
  have so := hw.so x x0 x1
  have ln := hw.ln
  have l := jLnP.of hs h.kc k ln.2 x0 x1
  have e17 : τ 1 7 = σ0 7 1 := by rw [h.kc 1 7 (by omega)]; exact hs.1.1
  have h0 := h.s0
  have i8 := i.2.2
  have cd : 0 ≤ τ 4 7 ∧ τ 4 7 ≤ 8 ∧ τ 4 7 = d := by have := cx.1; omega
  have c35 := cx.2.2.2.2.2.1
  have o1 := hw.one x x0 x1
  have o2 := hw.two x x0 x1
  have ab : 0 ≤ jwa ρ x p q ∧ jwa ρ x p q ≤ 999 := by
    have := jrga_b ⟨o1.1, o1.2.1⟩ c.2.2.2.1 c.2.2.2.2.1
    rw [← k35] at this; exact this
  have bb : 0 ≤ jwb ρ x p q ∧ jwb ρ x p q ≤ 999 := by
    have := jrga_b o2 c.2.2.2.1 c.2.2.2.2.1
    rw [← k36] at this; exact this
  have ii := i
  obtain ⟨i5, i6, i7⟩ := ii
  have sss := cx.scs h
  have as := jrga_s (v := ρ 35 x) sss.2.1 sss.2.2 sss.1
  have bs := jrga_s (v := ρ 36 x) sss.2.1 sss.2.2 sss.1
  have i3 : ρ 7 18 < 1000 := by
    by_cases e : ρ 7 18 = 1000
    · exact absurd (Or.inl e) h4
    · omega
  have hjs : jch (ρ 34 x) = 108 → -100 ≤ jsco τ (jat τ 9 80 x) ∧ jsco τ (jat τ 9 80 x) ≤ 1000 := fun _ => by have := (cx.sco h0.1.1 (jat τ 9 80 x)).1; omega
  have h' := h.w1
  obtain ⟨τ1, hτ1⟩ : ∃ τ1, jset τ 4 8 (τ 4 8 + 1) = τ1 := ⟨_, rfl⟩
  have f1 : jFr σ0 τ τ1 S S x to := by rw [← hτ1]; exact jFr.rf σ0 τ S x to
  have cx1 := cx.fr f1 h0.1.1
  rw [hτ1] at h'
  have l' := jLnP.of hs h'.kc k ln.2 x0 x1
  have e34 : jw1 ρ 34 x = ρ 34 x := rfl
  have e35 : τ1 3 5 = τ 3 5 := f1.1.1
  have e47 : τ1 4 7 = τ 4 7 := f1.1.2
  have cc : 0 ≤ τ 4 8 ∧ τ 4 8 ≤ 1000 := by rw [h.nn.2.1]; omega
  have h3 : ¬ jwFd ρ x sc p ps q qs := fun z => by have := z.1; omega
  have hf : jfau τ x (jch (ρ 34 x)) = 110 := by rw [jfau_eq hs hw k i h cx x0 x1 (by omega) c.2.2.2.1 c.2.2.2.2.1, if_neg h2, if_neg h3, if_neg h4]
  have hk3 : jch (ρ 34 x) ≠ 77 ∧ jch (ρ 34 x) ≠ 78 ∧ jch (ρ 34 x) ≠ 69 ∧ (jch (ρ 34 x) = 66 ∨ jch (ρ 34 x) = 76 ∨ jch (ρ 34 x) = 87) := by have ja := jch_all (s := ρ 34 x) (by omega); omega
  have hk2 : jch (ρ 34 x) = 87 ↔ ρ 34 x = 9 := by have ja := jch_all (s := ρ 34 x) (by omega); omega
  have op : jop (σ0 34 x) := by omega
  have g := jW.inn hw c.1 c.2.2.1 w (Int.le_refl _) hx op
  have nx := jW.nxt hw c.1 c.2.2.1 w hx op
  have lp := jLp hs hw h'.kc x0 x1 op
  have m7 := jw1_7 ρ
  have iW : jwi (jw1 ρ) := by obtain ⟨i5, i6, i7⟩ := i; exact ⟨by omega, by omega, by omega⟩
  have er : jrn τ1 x = jrds (ρ 34 x) (jwa ρ x p q) (jwb ρ x p q) := jrn_eq (ρ := jw1 ρ) hs hw k.w1 h' cx1 x0 x1 ⟨h7, h9⟩
  rw [r0] at er
  have eG : jwG n ρ x sc p ps q qs d = (1, jw1 ρ) := by unfold jwG; rw [r0]; rfl
  rw [jwk_g hx (by omega) h2 h4 h7, if_neg (show ¬ (jwG n ρ x sc p ps q qs d).1 = 0 by rw [eG]; show ¬ (1 : Int) = 0; decide), eG, k38] at ka kb
  change jKa σ0 Z (jwk n (jw1 ρ) (σ0 38 x + 1) to sc p ps q qs d) τ ρ S x to st at ka
  change jKb σ0 Z (jwk n (jw1 ρ) (σ0 38 x + 1) to sc p ps q qs d) at kb
  have bg : JSp mX1_beginGroup 4 0 [(2, 4), (0, x), (0, jch (ρ 34 x))] τ1 (jrv (σ0 38 x + 1) τ1) jno := by
    have := sp_X1_beginGroup0 (σ := τ1) (x := x) (k := jch (ρ 34 x)) (by omega) (by omega) er (by rw [lp.1]; omega)
    rw [lp.1] at this; exact this
  refine hz x (σ0 38 x + 1) st τ τ1 x0 x1 st0 (by omega) h.nn.2.2.1 e17 (sp_X1_expandLineG l.1 ⟨hk3.1, hk3.2.1, hk3.2.2.1⟩ cd.1 cd.2.1 (by omega) h0.1.2 hjs hf cc hk3.2.2.2 (by rw [hτ1]; exact bg)) ?_
  exact ih τ1 (jw1 ρ) S (σ0 38 x + 1) to sc p ps q qs d (st + 1) k.w1 iW j (by omega) nx (by omega) h' cx1 (by omega) (by omega) (fun e τ' S' st' a b c1 c2 => ka e τ' S' st' a (f1.tr b (fun z hz => hz.mono (by omega) (Int.le_refl _))) c1 (by omega)) kb
set_option maxHeartbeats 4000000 in
set_option maxRecDepth 10000 in
theorem sim_w {σ0 : JM} {Z : Int → Int → JM → Prop} (hs : jSC σ0) (hw : jwf σ0) (hz : jZst σ0 Z) {n : Nat} (ih : jSim σ0 Z n) {τ ρ : JM} {S : Int → Int} {x to sc p ps q qs d st : Int} (k : jkp σ0 ρ) (i : jwi ρ) (j : jit σ0 ρ) (c : jwc σ0 x to p q d) (w : jW σ0 x to) (hn : to * 81 + (to - x) < (n + 1 : Nat)) (h : jCD σ0 τ ρ S) (cx : jCx σ0 τ S to sc p ps q qs d) (st0 : 0 ≤ st) (sb : st + 721 * (1000 - ρ 7 18) + (to - x) ≤ 900000) (ka : jKa σ0 Z (jwk (n + 1) ρ x to sc p ps q qs d) τ ρ S x to st) (kb : jKb σ0 Z (jwk (n + 1) ρ x to sc p ps q qs d)) (hx : x < to) (h2 : ¬ jwFa ρ x p q) (h4 : ¬ jwFf ρ x) (h7 : 7 ≤ ρ 34 x) (h9 : ρ 34 x ≤ 9) (s9 : ρ 34 x = 9) (r0 : jrds (ρ 34 x) (jwa ρ x p q) (jwb ρ x p q) = 1) : Z x st τ := by
  have x0 : 0 ≤ x := c.1
  have x1 : x < σ0 7 1 := by omega
  have k34 : ρ 34 x = σ0 34 x := k 34 x (by omega) (by omega) (by omega)
  have k35 : ρ 35 x = σ0 35 x := k 35 x (by omega) (by omega) (by omega)
  have k36 : ρ 36 x = σ0 36 x := k 36 x (by omega) (by omega) (by omega)
  have k37 : ρ 37 x = σ0 37 x := k 37 x (by omega) (by omega) (by omega)
  have k38 : ρ 38 x = σ0 38 x := k 38 x (by omega) (by omega) (by omega)
  have so := hw.so x x0 x1
  have ln := hw.ln
  have l := jLnP.of hs h.kc k ln.2 x0 x1
  have e17 : τ 1 7 = σ0 7 1 := by rw [h.kc 1 7 (by omega)]; exact hs.1.1
  have h0 := h.s0
  have i8 := i.2.2
  have cd : 0 ≤ τ 4 7 ∧ τ 4 7 ≤ 8 ∧ τ 4 7 = d := by have := cx.1; omega
  have c35 := cx.2.2.2.2.2.1
  have o1 := hw.one x x0 x1
  have o2 := hw.two x x0 x1
  have ab : 0 ≤ jwa ρ x p q ∧ jwa ρ x p q ≤ 999 := by
    have := jrga_b ⟨o1.1, o1.2.1⟩ c.2.2.2.1 c.2.2.2.2.1
    rw [← k35] at this; exact this
  have bb : 0 ≤ jwb ρ x p q ∧ jwb ρ x p q ≤ 999 := by
    have := jrga_b o2 c.2.2.2.1 c.2.2.2.2.1
    rw [← k36] at this; exact this
  have ii := i
  obtain ⟨i5, i6, i7⟩ := ii
  have sss := cx.scs h
  have as := jrga_s (v := ρ 35 x) sss.2.1 sss.2.2 sss.1
  have bs := jrga_s (v := ρ 36 x) sss.2.1 sss.2.2 sss.1
  have i3 : ρ 7 18 < 1000 := by
    by_cases e : ρ 7 18 = 1000
    · exact absurd (Or.inl e) h4
    · omega
  have hjs : jch (ρ 34 x) = 108 → -100 ≤ jsco τ (jat τ 9 80 x) ∧ jsco τ (jat τ 9 80 x) ≤ 1000 := fun _ => by have := (cx.sco h0.1.1 (jat τ 9 80 x)).1; omega
  have h' := h.w1
  obtain ⟨τ1, hτ1⟩ : ∃ τ1, jset τ 4 8 (τ 4 8 + 1) = τ1 := ⟨_, rfl⟩
  have f1 : jFr σ0 τ τ1 S S x to := by rw [← hτ1]; exact jFr.rf σ0 τ S x to
  have cx1 := cx.fr f1 h0.1.1
  rw [hτ1] at h'
  have l' := jLnP.of hs h'.kc k ln.2 x0 x1
  have e34 : jw1 ρ 34 x = ρ 34 x := rfl
  have e35 : τ1 3 5 = τ 3 5 := f1.1.1
  have e47 : τ1 4 7 = τ 4 7 := f1.1.2
  have cc : 0 ≤ τ 4 8 ∧ τ 4 8 ≤ 1000 := by rw [h.nn.2.1]; omega
  have h3 : ¬ jwFd ρ x sc p ps q qs := fun z => by have := z.1; omega
  have hf : jfau τ x (jch (ρ 34 x)) = 110 := by rw [jfau_eq hs hw k i h cx x0 x1 (by omega) c.2.2.2.1 c.2.2.2.2.1, if_neg h2, if_neg h3, if_neg h4]
  have hk3 : jch (ρ 34 x) ≠ 77 ∧ jch (ρ 34 x) ≠ 78 ∧ jch (ρ 34 x) ≠ 69 ∧ (jch (ρ 34 x) = 66 ∨ jch (ρ 34 x) = 76 ∨ jch (ρ 34 x) = 87) := by have ja := jch_all (s := ρ 34 x) (by omega); omega
  have hk2 : jch (ρ 34 x) = 87 ↔ ρ 34 x = 9 := by have ja := jch_all (s := ρ 34 x) (by omega); omega
  have op : jop (σ0 34 x) := by omega
  have g := jW.inn hw c.1 c.2.2.1 w (Int.le_refl _) hx op
  have nx := jW.nxt hw c.1 c.2.2.1 w hx op
  have lp := jLp hs hw h'.kc x0 x1 op
  have m7 := jw1_7 ρ
  have iW : jwi (jw1 ρ) := by obtain ⟨i5, i6, i7⟩ := i; exact ⟨by omega, by omega, by omega⟩
  have er : jrn τ1 x = jrds (ρ 34 x) (jwa ρ x p q) (jwb ρ x p q) := jrn_eq (ρ := jw1 ρ) hs hw k.w1 h' cx1 x0 x1 ⟨h7, h9⟩
  rw [r0] at er
  have eB : jwB n ρ x sc p ps q qs d (jw1 ρ) = jwk n (jw1 ρ) (x + 1) (σ0 38 x) sc p ps q qs d := by unfold jwB; rw [if_pos s9, k38]
  have ro := jwk_o hw n _ _ _ sc _ ps _ qs _ k.w1 iW (show jwc σ0 (x + 1) (σ0 38 x) p q d by omega) g.1
  have rj := jwk_j hw n _ _ _ sc _ ps _ qs _ k.w1 iW (show jwc σ0 (x + 1) (σ0 38 x) p q d by omega) g.1 sss.1 sss.2.1 sss.2.2 j
  have IH := ih τ1 (jw1 ρ) S (x + 1) (σ0 38 x) sc p ps q qs d (st + 1) k.w1 iW j (by omega) g.1 (by omega) h' (cx1.to (by omega)) (by omega) (by omega)
  have eG : jwG n ρ x sc p ps q qs d = if (jwk n (jw1 ρ) (x + 1) (σ0 38 x) sc p ps q qs d).1 = 0 then (0, (jwk n (jw1 ρ) (x + 1) (σ0 38 x) sc p ps q qs d).2) else (1, (jwk n (jw1 ρ) (x + 1) (σ0 38 x) sc p ps q qs d).2) := by
    unfold jwG
    rw [r0, show (1 : Int).toNat = 0 + 1 from rfl, jwr_s, eB, jwr_z]
  obtain ⟨rI, hI⟩ : ∃ r, jwk n (jw1 ρ) (x + 1) (σ0 38 x) sc p ps q qs d = r := ⟨_, rfl⟩
  rw [hI] at ro rj IH eG
  obtain ⟨ro1, ro2, ro3, ro4, ro5, ro6, ro7⟩ := ro
  rw [jwk_g hx (by omega) h2 h4 h7, eG, k38] at ka kb
  have bg : JSp mX1_beginGroup 4 0 [(2, 4), (0, x), (0, jch (ρ 34 x))] τ1 (jrv (x + 1) τ1) jno := by
    have := sp_X1_beginGroupW (σ := τ1) (x := x) (by omega) (by omega) (by omega) ⟨x0, by omega⟩
    rw [hk2.mpr s9]; exact this
  refine hz x (x + 1) st τ τ1 x0 x1 st0 (by omega) h.nn.2.2.1 e17 (sp_X1_expandLineG l.1 ⟨hk3.1, hk3.2.1, hk3.2.2.1⟩ cd.1 cd.2.1 (by omega) h0.1.2 hjs hf cc hk3.2.2.2 (by rw [hτ1]; exact bg)) ?_
  refine IH (fun e τ' S' st' g' f s1 s2 => ?_) (fun e => ?_)
  · rw [if_neg (show ¬ rI.1 = 0 by omega), if_neg (show ¬ (1 : Int) = 0 by decide)] at ka kb
    change jKa σ0 Z (jwk n rI.2 (σ0 38 x + 1) to sc p ps q qs d) τ ρ S x to st at ka
    change jKb σ0 Z (jwk n rI.2 (σ0 38 x + 1) to sc p ps q qs d) at kb
    have ro8 := ro2.2.2
    have y0 : 0 ≤ σ0 38 x := by clear l l' ka kb IH; omega
    have y1 : σ0 38 x < σ0 7 1 := by clear l l' ka kb IH; omega
    have y8 : σ0 38 x < 80 := by omega
    have s11 : σ0 34 x ≠ 11 := by omega
    have s3 : st' < 1000000 := by omega
    have lp' := jLp hs hw g'.kc x0 x1 op
    have e8 : jat τ' 8 80 x = 87 := by
      have := (jLn hs g'.kc ro1 ln.2 x0 x1).1
      rw [ro1 34 x (by omega) (by omega) (by omega), ← k34, s9] at this
      exact this
    have f2 := f1.tr f (fun z hz => jprt.mono (y' := x + 1) (to' := σ0 38 x) hz (by omega) (by omega))
    refine hz (σ0 38 x) (σ0 38 x + 1) st' τ' τ' y0 y1 s1 s3 g'.nn.2.2.1 (by rw [g'.kc 1 7 (by decide)]; exact hs.1.1) (sp_X1_expandLineE (k := 69) (by rw [lp'.2.2, if_neg s11]; rfl) rfl (sp_X1_endRoundW (by rw [lp'.2.1]; exact e8) ⟨y0, y8⟩) (by decide)) ?_
    clear lp' lp e8
    exact ih τ' rI.2 S' (σ0 38 x + 1) to sc p ps q qs d (st' + 1) ro1 ro2 rj (by omega) nx (by omega) g' (cx.fr f2 h0.1.1) (by omega) (by omega) (fun e τ'' S'' st'' a b c1 c2 => ka e τ'' S'' st'' a (f2.tr b (fun z hz => hz.mono (by omega) (Int.le_refl _))) c1 (by omega)) kb
  · rw [if_pos e] at kb
    intro τ' x' st' g' s1 s2
    exact kb rfl τ' x' st' g' s1 s2
set_option maxHeartbeats 4000000 in
set_option maxRecDepth 10000 in
/-- one round of a block or a loop, to its end -/
theorem sim_b {σ0 : JM} {Z : Int → Int → JM → Prop} (hs : jSC σ0) (hw : jwf σ0) (hz : jZst σ0 Z) {n : Nat} (ih : jSim σ0 Z n) {τ : JM} {S : Int → Int} {x to sc p ps q qs d : Int} (c : jwc σ0 x to p q d) (w : jW σ0 x to) (hn : to * 81 + (to - x) < (n + 1 : Nat)) (h35 : 1 ≤ τ 3 5) (cx : jCx σ0 τ S to sc p ps q qs d) (hx : x < to) (h7 : σ0 34 x = 7 ∨ σ0 34 x = 8) {τo ρ1 : JM} {So : Int → Int} {st1 v : Int} (k : jkp σ0 ρ1) (i : jwi ρ1) (j : jit σ0 ρ1) (i9 : ρ1 7 17 + 1 ≤ 9 * ρ1 7 18 + 1) (h : jCD σ0 τo (jnsc ρ1 sc) So) (e35 : τo 3 5 = τ 3 5 + 1) (f : jFr σ0 τ (jset τo 3 5 (τ 3 5)) S So x to) (es : So (τ 3 5) = ρ1 7 17) (ev : τo 25 x = v) (v1 : 1 ≤ v ∧ v ≤ 9) (ss : (0 ≤ sc ∧ sc < ρ1 7 17) ∧ (0 ≤ ps ∧ ps < ρ1 7 17) ∧ (0 ≤ qs ∧ qs < ρ1 7 17)) (st0 : 0 ≤ st1) (sb : st1 + 721 * (1000 - ρ1 7 18) + 80 ≤ 900000)
    (ke : (jwk n (jnsc ρ1 sc) (x + 1) (σ0 38 x) (ρ1 7 17) p ps q qs d).1 = 1 → jkp σ0 (jwk n (jnsc ρ1 sc) (x + 1) (σ0 38 x) (ρ1 7 17) p ps q qs d).2 → jwi (jwk n (jnsc ρ1 sc) (x + 1) (σ0 38 x) (ρ1 7 17) p ps q qs d).2 → jit σ0 (jwk n (jnsc ρ1 sc) (x + 1) (σ0 38 x) (ρ1 7 17) p ps q qs d).2 → (jwk n (jnsc ρ1 sc) (x + 1) (σ0 38 x) (ρ1 7 17) p ps q qs d).2 7 17 - 9 * (jwk n (jnsc ρ1 sc) (x + 1) (σ0 38 x) (ρ1 7 17) p ps q qs d).2 7 18 ≤ ρ1 7 17 + 1 - 9 * ρ1 7 18 → ρ1 7 18 ≤ (jwk n (jnsc ρ1 sc) (x + 1) (σ0 38 x) (ρ1 7 17) p ps q qs d).2 7 18 → ρ1 7 17 + 1 ≤ (jwk n (jnsc ρ1 sc) (x + 1) (σ0 38 x) (ρ1 7 17) p ps q qs d).2 7 17 → ∀ (τ1 : JM) (S1 : Int → Int) (st2 : Int), jCD σ0 τ1 (jwk n (jnsc ρ1 sc) (x + 1) (σ0 38 x) (ρ1 7 17) p ps q qs d).2 S1 → τ1 3 5 = τ 3 5 + 1 → jFr σ0 τ (jset τ1 3 5 (τ 3 5)) S S1 x to → τ1 25 x = v → 0 ≤ st2 → st2 ≤ st1 + 721 * ((jwk n (jnsc ρ1 sc) (x + 1) (σ0 38 x) (ρ1 7 17) p ps q qs d).2 7 18 - ρ1 7 18) + 79 → Z (if v - 1 ≤ 0 then σ0 38 x + 1 else x + 1) (st2 + 1) (if v - 1 ≤ 0 then jEr τ1 x else jOpn (jEr τ1 x) (τ1 3 5 - 2)))
    (kb : jKb σ0 Z (jwk n (jnsc ρ1 sc) (x + 1) (σ0 38 x) (ρ1 7 17) p ps q qs d)) : Z (x + 1) st1 τo := by
  have x0 : 0 ≤ x := c.1
  have x1 : x < σ0 7 1 := by omega
  have ln := hw.ln
  have op : jop (σ0 34 x) := by omega
  have g := jW.inn hw c.1 c.2.2.1 w (Int.le_refl _) hx op
  have s12 : 0 ≤ σ0 34 x ∧ σ0 34 x ≤ 12 := by omega
  have s11 : σ0 34 x ≠ 11 := by omega
  have y0 : 0 ≤ σ0 38 x := by omega
  have y1 : σ0 38 x < σ0 7 1 := by omega
  have y8 : σ0 38 x < 80 := by omega
  have x8 : x < 80 := by omega
  have m := jnsc_7 ρ1 sc
  have iN : jwi (jnsc ρ1 sc) := by obtain ⟨i5, i6, i7⟩ := i; exact ⟨by omega, by omega, by omega⟩
  have jN : jit σ0 (jnsc ρ1 sc) := j.nsc (by omega) (by omega)
  have cN : jwc σ0 (x + 1) (σ0 38 x) p q d := by omega
  have ro := jwk_o hw n _ _ _ (ρ1 7 17) _ ps _ qs _ (k.nsc sc) iN cN g.1
  have rj := jwk_j hw n _ _ _ (ρ1 7 17) _ ps _ qs _ (k.nsc sc) iN cN g.1 (by omega) (by omega) (by omega) jN
  obtain ⟨⟨f1, f2⟩, f3, f4, f5, f6⟩ := f
  have f2 : τo 4 7 = τ 4 7 := f2
  have f4 : ∀ j, 0 ≤ j → j ≤ 2 * τ 4 7 + 1 → τo 27 j = τ 27 j ∧ τo 28 j = τ 28 j := f4
  have f5 : ∀ j, 0 ≤ j → j ≤ τ 4 7 → τo 26 j = τ 26 j := f5
  have f6 : ∀ z, jprt σ0 x to z → τo 25 z = τ 25 z := f6
  obtain ⟨⟨c1, c2, c3⟩, c4, ⟨c5, c6⟩, ⟨c7, c8⟩, ⟨c9, c10⟩, c11, c12⟩ := cx
  have u := f4 (2 * d) (by omega) (by omega)
  have u2 := f4 (2 * d + 1) (by omega) (by omega)
  have ce : jCx σ0 τo So (σ0 38 x) (ρ1 7 17) p ps q qs d := by
    refine ⟨⟨by omega, c2, c3⟩, by rw [e35, Int.add_sub_cancel]; exact es, ⟨by rw [u.1]; exact c5, by rw [u2.1]; exact c6⟩, ⟨by rw [u.2]; omega, by rw [u.2, f3 _ c7.1 c7.2]; exact c8⟩, ⟨by rw [u2.2]; omega, by rw [u2.2, f3 _ c9.1 c9.2]; exact c10⟩, by omega, ?_⟩
    rcases c12 with e | ⟨m, m0, m1, m2⟩
    · exact Or.inl e
    · exact Or.inr ⟨m, m0, m1, by omega⟩
  have IH := ih τo (jnsc ρ1 sc) So (x + 1) (σ0 38 x) (ρ1 7 17) p ps q qs d st1 (k.nsc sc) iN jN cN g.1 (by omega) h ce st0 (by omega)
  obtain ⟨r1, hr1⟩ : ∃ r, jwk n (jnsc ρ1 sc) (x + 1) (σ0 38 x) (ρ1 7 17) p ps q qs d = r := ⟨_, rfl⟩
  rw [hr1] at ro rj IH ke kb
  obtain ⟨ro1, ro2, ro3, ro4, ro5, ro6, ro7⟩ := ro
  refine IH (fun e τ1 S1 st2 g' f' s1 s2 => ?_) kb
  obtain ⟨⟨g1, g2⟩, g3, g4, g5, g6⟩ := f'
  have lp := jLp hs hw g'.kc x0 x1 op
  have gs := g'.s0
  have gb := g'.sb (τ1 3 5 - 1) (by omega) (by omega)
  have pm : ∀ z, jprt σ0 x to z → jprt σ0 (x + 1) (σ0 38 x) z := fun z hz => hz.mono (by omega) (by omega)
  have e25 : τ1 25 x = v := by rw [g6 x ⟨⟨x0, x1⟩, op, Or.inl ⟨by omega, Int.le_refl _⟩⟩]; exact ev
  have F : jFr σ0 τ (jset τ1 3 5 (τ 3 5)) S S1 x to := by
    refine ⟨⟨rfl, (show τ1 4 7 = τ 4 7 by omega)⟩, fun j j0 j1 => (g3 j j0 (by omega)).trans (f3 j j0 j1), fun j j0 j1 => ?_, fun j j0 j1 => (show τ1 26 j = τ 26 j from (g5 j j0 (by omega)).trans (f5 j j0 j1)), fun z hz => (show τ1 25 z = τ 25 z from (g6 z (pm z hz)).trans (f6 z hz))⟩
    have a := f4 j j0 j1
    have b := g4 j j0 (by omega)
    exact ⟨(show τ1 27 j = τ 27 j from b.1.trans a.1), (show τ1 28 j = τ 28 j from b.2.trans a.2)⟩
  have e8 : jat τ1 8 80 x ≠ 87 := by
    have := (jLn hs g'.kc ro1 ln.2 x0 x1).1
    rw [ro1 34 x (by omega) (by omega) (by omega)] at this
    have ja := jch_all (s := σ0 34 x) s12
    clear u u2 ce c4 c5 c6 c7 c8 c9 c10 gb gs f4 f5 f6 m iN jN ro3 ro4 ro5 ro6 ro7 ss IH
    omega
  have en := sp_X1_endRound (σ := τ1) (y := σ0 38 x) (b := x) lp.2.1 ⟨x0, x8⟩ e8 ⟨y0, y8⟩ (by omega) (by omega) gb.2.1 (by rw [g'.nn.1]; exact gb.2.2) (by rw [g'.nn.1]; exact ro2.1.2) (by rw [e25]; omega)
  rw [e25] at en
  have ro8 := ro2.2.2
  have s3 : st2 < 1000000 := by clear lp u u2 ce c4 c5 c6 c7 c8 c9 c10 gb e8 en; omega
  refine hz (σ0 38 x) _ st2 τ1 _ y0 y1 s1 s3 g'.nn.2.2.1 (by rw [g'.kc 1 7 (by decide)]; exact hs.1.1) (sp_X1_expandLineE (k := 69) (by rw [lp.2.2, if_neg s11]; rfl) rfl en (by decide)) ?_
  clear lp u u2 ce c4 c5 c6 c7 c8 c9 c10 gb e8 en
  exact ke e ro1 ro2 rj (by omega) (by omega) (by omega) τ1 S1 st2 g' (by omega) F e25 s1 (by omega)
set_option maxHeartbeats 4000000 in
set_option maxRecDepth 10000 in
/-- the rounds of a block or a loop -/
theorem sim_r {σ0 : JM} {Z : Int → Int → JM → Prop} (hs : jSC σ0) (hw : jwf σ0) (hz : jZst σ0 Z) {n : Nat} (ih : jSim σ0 Z n) {τ : JM} {S : Int → Int} {x to sc p ps q qs d : Int} (c : jwc σ0 x to p q d) (w : jW σ0 x to) (hn : to * 81 + (to - x) < (n + 1 : Nat)) (h35 : 1 ≤ τ 3 5) (cx : jCx σ0 τ S to sc p ps q qs d) (hx : x < to) (h7 : σ0 34 x = 7 ∨ σ0 34 x = 8) {ρ : JM} (k34 : ρ 34 x = σ0 34 x) (k38 : ρ 38 x = σ0 38 x) : ∀ (r : Nat) (τo ρ1 : JM) (So : Int → Int) (st1 : Int), (r : Int) + 1 ≤ 9 → jkp σ0 ρ1 → jwi ρ1 → jit σ0 ρ1 → ρ1 7 17 + ((r : Int) + 1) ≤ 9 * ρ1 7 18 + 1 → jCD σ0 τo (jnsc ρ1 sc) So → τo 3 5 = τ 3 5 + 1 → jFr σ0 τ (jset τo 3 5 (τ 3 5)) S So x to → So (τ 3 5) = ρ1 7 17 → τo 25 x = (r : Int) + 1 → ((0 ≤ sc ∧ sc < ρ1 7 17) ∧ (0 ≤ ps ∧ ps < ρ1 7 17) ∧ (0 ≤ qs ∧ qs < ρ1 7 17)) → 0 ≤ st1 → st1 + 721 * (1000 - ρ1 7 18) + 80 * ((r : Int) + 1) ≤ 900000 →
    ((jwr (jwB n ρ x sc p ps q qs d) (r + 1) ρ1).1 = 1 → ∀ (τ' : JM) (S' : Int → Int) (st' : Int), jCD σ0 τ' (jwr (jwB n ρ x sc p ps q qs d) (r + 1) ρ1).2 S' → jFr σ0 τ τ' S S' x to → 0 ≤ st' → st' ≤ st1 + 721 * ((jwr (jwB n ρ x sc p ps q qs d) (r + 1) ρ1).2 7 18 - ρ1 7 18) + 80 * ((r : Int) + 1) → jwi (jwr (jwB n ρ x sc p ps q qs d) (r + 1) ρ1).2 → jit σ0 (jwr (jwB n ρ x sc p ps q qs d) (r + 1) ρ1).2 → jkp σ0 (jwr (jwB n ρ x sc p ps q qs d) (r + 1) ρ1).2 → ρ1 7 18 ≤ (jwr (jwB n ρ x sc p ps q qs d) (r + 1) ρ1).2 7 18 → Z (σ0 38 x + 1) st' τ') → jKb σ0 Z (jwr (jwB n ρ x sc p ps q qs d) (r + 1) ρ1) → Z (x + 1) st1 τo := by
  intro r
  have h35b : τ 3 5 < 81 := by have := cx.2.2.2.2.2.1; omega
  have eB : ∀ ρ1 : JM, jwB n ρ x sc p ps q qs d ρ1 = jwk n (jnsc ρ1 sc) (x + 1) (σ0 38 x) (ρ1 7 17) p ps q qs d := fun ρ1 => by unfold jwB; rw [if_neg (by omega), k38]
  have er0 : ∀ τ1 : JM, jEr τ1 x 3 5 = τ1 3 5 - 1 := fun τ1 => by unfold jEr; rw [jset_nk _ (by decide), jCls_35]
  have er1 : ∀ (τ1 : JM) {a : Nat} {b : Int}, a ≠ 19 ∧ a ≠ 24 → ¬ (a = 3 ∧ b = 5) → ¬ (a = 25 ∧ b = x) → jEr τ1 x a b = τ1 a b := fun τ1 a b h1 h2 h3 => by unfold jEr; rw [jset_ne _ h3, jCls_ne h1 h2]
  have np : ∀ z, jprt σ0 x to z → z ≠ x := fun z hz e => by have := hz.2.2; omega
  have FF : ∀ (τ1 : JM) (S1 : Int → Int), τ1 3 5 = τ 3 5 + 1 → jFr σ0 τ (jset τ1 3 5 (τ 3 5)) S S1 x to → jFr σ0 τ (jEr τ1 x) S S1 x to := fun τ1 S1 e1 F => by
    obtain ⟨⟨f1, f2⟩, f3, f4, f5, f6⟩ := F
    refine ⟨⟨by rw [er0]; omega, ?_⟩, f3, fun j j0 j1 => ?_, fun j j0 j1 => ?_, fun z hz => ?_⟩
    · rw [er1 τ1 (by decide) (by decide) (by omega)]; exact f2
    · rw [er1 τ1 (by decide) (by omega) (by omega), er1 τ1 (by decide) (by omega) (by omega)]; exact f4 j j0 j1
    · rw [er1 τ1 (by decide) (by omega) (by omega)]; exact f5 j j0 j1
    · rw [er1 τ1 (by decide) (by omega) (fun q => np z hz q.2)]; exact f6 z hz
  induction r with
  | zero =>
    intro τo ρ1 So st1 r9 k i j i9 h e35 f es ev ss st0 sb ka kb
    refine sim_b hs hw hz ih c w hn h35 cx hx h7 (v := 1) k i j (by omega) h e35 f es (by omega) (by omega) ss st0 (by omega) (fun e k' i' j' b1 b2 b3 τ1 S1 st2 g' e1 F e25 s1 s2 => ?_) (fun e => ?_)
    · have ew : jwr (jwB n ρ x sc p ps q qs d) (0 + 1) ρ1 = (1, (jwk n (jnsc ρ1 sc) (x + 1) (σ0 38 x) (ρ1 7 17) p ps q qs d).2) := by
        rw [jwr_s, eB, if_neg (by omega), jwr_z]
      rw [ew] at ka
      rw [if_pos (by decide), if_pos (by decide)]
      exact ka rfl (jEr τ1 x) S1 (st2 + 1) ((g'.cls j' (by omega)).s25 _ _) (FF τ1 S1 e1 F) (by omega) (by show st2 + 1 ≤ st1 + 721 * ((jwk n (jnsc ρ1 sc) (x + 1) (σ0 38 x) (ρ1 7 17) p ps q qs d).2 7 18 - ρ1 7 18) + 80 * (((0 : Nat) : Int) + 1); omega) i' j' k' b2
    · rw [jwr_s, eB, if_pos e] at kb
      exact kb rfl
  | succ r ihr =>
    intro τo ρ1 So st1 r9 k i j i9 h e35 f es ev ss st0 sb ka kb
    refine sim_b hs hw hz ih c w hn h35 cx hx h7 (v := (r : Int) + 2) k i j (by omega) h e35 f es (by omega) (by omega) ss st0 (by omega) (fun e k' i' j' b1 b2 b3 τ1 S1 st2 g' e1 F e25 s1 s2 => ?_) (fun e => ?_)
    · have ew : jwr (jwB n ρ x sc p ps q qs d) (r + 1 + 1) ρ1 = jwr (jwB n ρ x sc p ps q qs d) (r + 1) (jwk n (jnsc ρ1 sc) (x + 1) (σ0 38 x) (ρ1 7 17) p ps q qs d).2 := by
        rw [jwr_s, eB, if_neg (by omega)]
      rw [ew] at ka kb
      obtain ⟨ρ2, hρ2⟩ : ∃ t, (jwk n (jnsc ρ1 sc) (x + 1) (σ0 38 x) (ρ1 7 17) p ps q qs d).2 = t := ⟨_, rfl⟩
      rw [hρ2] at ka kb k' i' j' b1 b2 b3 g' s2
      rw [if_neg (by omega), if_neg (by omega)]
      have FE := FF τ1 S1 e1 F
      have gE : jCD σ0 (jEr τ1 x) ρ2 S1 := (g'.cls j' (by omega)).s25 _ _
      have eo : S1 (τ1 3 5 - 2) = sc := by
        rw [F.2.1 _ (by omega) (by omega), show τ1 3 5 - 2 = τ 3 5 - 1 by omega]; exact cx.2.1
      have gO := gE.opn j' i'.1.1 (by rw [er0]; omega) (o := τ1 3 5 - 2) ⟨by omega, by rw [er0]; omega⟩
      rw [eo] at gO
      obtain ⟨r22, r23, r21, r35⟩ := jOpn_row (jEr τ1 x) (τ1 3 5 - 2)
      refine ihr _ ρ2 _ (st2 + 1) (by omega) k' i' j' (by omega) gO (by rw [r35, er0]; omega) ?_ ?_ ?_ (by omega) (by omega) (by omega) (fun e τ' S' st' a b c1 c2 d1 d2 d3 d4 => ka e τ' S' st' a b c1 (by omega) d1 d2 d3 (by omega)) kb
      · obtain ⟨⟨f1, f2⟩, f3, f4, f5, f6⟩ := FE
        refine ⟨⟨rfl, f2⟩, fun j j0 j1 => ?_, f4, f5, f6⟩
        show (if j = jEr τ1 x 3 5 then ρ2 7 17 else S1 j) = S j
        rw [if_neg (by rw [er0]; omega)]; exact f3 j j0 j1
      · show (if τ 3 5 = jEr τ1 x 3 5 then ρ2 7 17 else S1 (τ 3 5)) = ρ2 7 17
        rw [if_pos (by rw [er0]; omega)]
      · show jEr τ1 x 25 x = (r : Int) + 1
        unfold jEr
        rw [jset_eq]; omega
    · rw [jwr_s, eB, if_pos e] at kb
      exact kb rfl
set_option maxHeartbeats 4000000 in
set_option maxRecDepth 10000 in
theorem sim_g {σ0 : JM} {Z : Int → Int → JM → Prop} (hs : jSC σ0) (hw : jwf σ0) (hz : jZst σ0 Z) {n : Nat} (ih : jSim σ0 Z n) {τ ρ : JM} {S : Int → Int} {x to sc p ps q qs d st : Int} (k : jkp σ0 ρ) (i : jwi ρ) (j : jit σ0 ρ) (c : jwc σ0 x to p q d) (w : jW σ0 x to) (hn : to * 81 + (to - x) < (n + 1 : Nat)) (h : jCD σ0 τ ρ S) (cx : jCx σ0 τ S to sc p ps q qs d) (st0 : 0 ≤ st) (sb : st + 721 * (1000 - ρ 7 18) + (to - x) ≤ 900000) (ka : jKa σ0 Z (jwk (n + 1) ρ x to sc p ps q qs d) τ ρ S x to st) (kb : jKb σ0 Z (jwk (n + 1) ρ x to sc p ps q qs d)) (hx : x < to) (h2 : ¬ jwFa ρ x p q) (h4 : ¬ jwFf ρ x) (h7 : 7 ≤ ρ 34 x) (h9 : ρ 34 x ≤ 9) (s9 : ρ 34 x ≠ 9) (r0 : 0 < jrds (ρ 34 x) (jwa ρ x p q) (jwb ρ x p q)) : Z x st τ := by
  have x0 : 0 ≤ x := c.1
  have x1 : x < σ0 7 1 := by omega
  have k34 : ρ 34 x = σ0 34 x := k 34 x (by omega) (by omega) (by omega)
  have k35 : ρ 35 x = σ0 35 x := k 35 x (by omega) (by omega) (by omega)
  have k36 : ρ 36 x = σ0 36 x := k 36 x (by omega) (by omega) (by omega)
  have k37 : ρ 37 x = σ0 37 x := k 37 x (by omega) (by omega) (by omega)
  have k38 : ρ 38 x = σ0 38 x := k 38 x (by omega) (by omega) (by omega)
  have so := hw.so x x0 x1
  have ln := hw.ln
  have l := jLnP.of hs h.kc k ln.2 x0 x1
  have e17 : τ 1 7 = σ0 7 1 := by rw [h.kc 1 7 (by omega)]; exact hs.1.1
  have h0 := h.s0
  have i8 := i.2.2
  have cd : 0 ≤ τ 4 7 ∧ τ 4 7 ≤ 8 ∧ τ 4 7 = d := by have := cx.1; omega
  have c35 := cx.2.2.2.2.2.1
  have o1 := hw.one x x0 x1
  have o2 := hw.two x x0 x1
  have ab : 0 ≤ jwa ρ x p q ∧ jwa ρ x p q ≤ 999 := by
    have := jrga_b ⟨o1.1, o1.2.1⟩ c.2.2.2.1 c.2.2.2.2.1
    rw [← k35] at this; exact this
  have bb : 0 ≤ jwb ρ x p q ∧ jwb ρ x p q ≤ 999 := by
    have := jrga_b o2 c.2.2.2.1 c.2.2.2.2.1
    rw [← k36] at this; exact this
  have ii := i
  obtain ⟨i5, i6, i7⟩ := ii
  have sss := cx.scs h
  have as := jrga_s (v := ρ 35 x) sss.2.1 sss.2.2 sss.1
  have bs := jrga_s (v := ρ 36 x) sss.2.1 sss.2.2 sss.1
  have i3 : ρ 7 18 < 1000 := by
    by_cases e : ρ 7 18 = 1000
    · exact absurd (Or.inl e) h4
    · omega
  have hjs : jch (ρ 34 x) = 108 → -100 ≤ jsco τ (jat τ 9 80 x) ∧ jsco τ (jat τ 9 80 x) ≤ 1000 := fun _ => by have := (cx.sco h0.1.1 (jat τ 9 80 x)).1; omega
  have h' := h.w1
  obtain ⟨τ1, hτ1⟩ : ∃ τ1, jset τ 4 8 (τ 4 8 + 1) = τ1 := ⟨_, rfl⟩
  have f1 : jFr σ0 τ τ1 S S x to := by rw [← hτ1]; exact jFr.rf σ0 τ S x to
  have cx1 := cx.fr f1 h0.1.1
  rw [hτ1] at h'
  have l' := jLnP.of hs h'.kc k ln.2 x0 x1
  have e34 : jw1 ρ 34 x = ρ 34 x := rfl
  have e35 : τ1 3 5 = τ 3 5 := f1.1.1
  have e47 : τ1 4 7 = τ 4 7 := f1.1.2
  have cc : 0 ≤ τ 4 8 ∧ τ 4 8 ≤ 1000 := by rw [h.nn.2.1]; omega
  have h3 : ¬ jwFd ρ x sc p ps q qs := fun z => by have := z.1; omega
  have hf : jfau τ x (jch (ρ 34 x)) = 110 := by rw [jfau_eq hs hw k i h cx x0 x1 (by omega) c.2.2.2.1 c.2.2.2.2.1, if_neg h2, if_neg h3, if_neg h4]
  have hk3 : jch (ρ 34 x) ≠ 77 ∧ jch (ρ 34 x) ≠ 78 ∧ jch (ρ 34 x) ≠ 69 ∧ (jch (ρ 34 x) = 66 ∨ jch (ρ 34 x) = 76 ∨ jch (ρ 34 x) = 87) := by have ja := jch_all (s := ρ 34 x) (by omega); omega
  have hk2 : jch (ρ 34 x) = 87 ↔ ρ 34 x = 9 := by have ja := jch_all (s := ρ 34 x) (by omega); omega
  have op : jop (σ0 34 x) := by omega
  have g := jW.inn hw c.1 c.2.2.1 w (Int.le_refl _) hx op
  have nx := jW.nxt hw c.1 c.2.2.1 w hx op
  have lp := jLp hs hw h'.kc x0 x1 op
  have m7 := jw1_7 ρ
  have iW : jwi (jw1 ρ) := by obtain ⟨i5, i6, i7⟩ := i; exact ⟨by omega, by omega, by omega⟩
  have er : jrn τ1 x = jrds (ρ 34 x) (jwa ρ x p q) (jwb ρ x p q) := jrn_eq (ρ := jw1 ρ) hs hw k.w1 h' cx1 x0 x1 ⟨h7, h9⟩
  have r9 := jrnd9 hw (p := p) (q := q) ⟨x0, x1⟩ c.2.2.2.1 c.2.2.2.2.1 (by unfold jwFa jwa; rw [← k35, ← k34]; exact h2)
  have eb : jrds (ρ 34 x) (jwa ρ x p q) (jwb ρ x p q) = jrds (σ0 34 x) (jwa σ0 x p q) (jwb σ0 x p q) := by unfold jwa jwb; rw [k34, k35, k36]
  rw [← eb] at r9
  obtain ⟨r, hr⟩ : ∃ r : Nat, jrds (ρ 34 x) (jwa ρ x p q) (jwb ρ x p q) = (r : Int) + 1 := ⟨(jrds (ρ 34 x) (jwa ρ x p q) (jwb ρ x p q) - 1).toNat, by omega⟩
  rw [hr] at er r9
  have eG : jwG n ρ x sc p ps q qs d = jwr (jwB n ρ x sc p ps q qs d) (r + 1) (jw1 ρ) := by
    unfold jwG
    rw [hr, show ((r : Int) + 1).toNat = r + 1 by omega]
  rw [jwk_g hx (by omega) h2 h4 h7, eG, k38] at ka kb
  have bg : JSp mX1_beginGroup 4 0 [(2, 4), (0, x), (0, jch (ρ 34 x))] τ1 (jrv (x + 1) (jset (jOpn τ1 (τ1 3 5 - 1)) 25 x ((r : Int) + 1))) jno := by
    have := sp_X1_beginGroup (σ := τ1) (x := x) (k := jch (ρ 34 x)) (by omega) (by omega) (by omega) (by omega) (by omega) (fun z => s9 (hk2.mp z)) ⟨x0, by omega⟩
    rw [er] at this; exact this
  refine hz x (x + 1) st τ _ x0 x1 st0 (by omega) h.nn.2.2.1 e17 (sp_X1_expandLineG l.1 ⟨hk3.1, hk3.2.1, hk3.2.2.1⟩ cd.1 cd.2.1 (by omega) h0.1.2 hjs hf cc hk3.2.2.2 (by rw [hτ1]; exact bg)) ?_
  have gO := h'.opn j (show 0 ≤ ρ 7 16 from i.1.1) (by omega) (o := τ1 3 5 - 1) ⟨by omega, by omega⟩
  rw [cx1.2.1] at gO
  obtain ⟨r22, r23, r21, r35⟩ := jOpn_row τ1 (τ1 3 5 - 1)
  have i6 := i.2.1
  have BO := jwB_o hw (n := n) (sc := sc) (ps := ps) (qs := qs) (p := p) (q := q) (d := d) k38 (by omega) g.1
  refine sim_r hs hw hz ih c w hn (τ := τ) (S := S) h0.1.1 cx hx (by omega) (ρ := ρ) k34 k38 r _ (jw1 ρ) _ (st + 1) r9.2 k.w1 iW j (by omega) (gO.s25 x ((r : Int) + 1)) (show jOpn τ1 (τ1 3 5 - 1) 3 5 = τ 3 5 + 1 by rw [r35]; omega) ?_ ?_ (jset_eq _ _ _ _) sss (by omega) (by omega) (fun e τ' S' st' a b c1 c2 d1 d2 d3 d4 => ?_) (fun e => ?_)
  · obtain ⟨⟨f1, f2⟩, f3, f4, f5, f6⟩ := f1
    refine ⟨⟨rfl, f2⟩, fun j j0 j1 => ?_, f4, f5, fun z hz => ?_⟩
    · show (if j = τ1 3 5 then jw1 ρ 7 17 else S j) = S j
      rw [if_neg (by omega)]
    · show jset (jOpn τ1 (τ1 3 5 - 1)) 25 x ((r : Int) + 1) 25 z = τ 25 z
      rw [jset_nj _ (by have := hz.2.2; omega)]; exact f6 z hz
  · show (if τ 3 5 = τ1 3 5 then jw1 ρ 7 17 else S (τ 3 5)) = ρ 7 17
    rw [if_pos e35.symm]; rfl
  · rw [if_neg (by omega)] at ka kb
    exact ih τ' _ S' (σ0 38 x + 1) to sc p ps q qs d st' d3 d1 d2 (by omega) nx (by omega) a (cx.fr b h0.1.1) c1 (by omega) (fun e τ'' S'' st'' a' b' c1' c2' => ka e τ'' S'' st'' a' (b.tr b' (fun z hz => hz.mono (by omega) (Int.le_refl _))) c1' (by omega)) kb
  · rw [if_pos e] at kb
    exact kb rfl
theorem jSim.succ {σ0 : JM} {Z : Int → Int → JM → Prop} (hs : jSC σ0) (hw : jwf σ0) (hz : jZst σ0 Z) {n : Nat} (ih : jSim σ0 Z n) : jSim σ0 Z (n + 1) := by
  intro τ ρ S x to sc p ps q qs d st k i j c w hn h cx st0 sb ka kb
  by_cases hx : to ≤ x
  · rw [jwk_0 hx] at ka
    have e : x = to := by omega
    subst e
    exact ka rfl τ S st h (jFr.rf _ _ _ _ _) st0 (by show st ≤ st + 721 * (ρ 7 18 - ρ 7 18) + (x - x); omega)
  have hx : x < to := by omega
  have ln := hw.ln
  have k34 : ρ 34 x = σ0 34 x := k 34 x (by omega) (by omega) (by omega)
  have so := hw.so x c.1 (by omega)
  have ncl := w.ncl hx
  by_cases h1 : ρ 34 x = 11
  · exact sim_m hs hw hz ih k i j c w hn h cx st0 sb ka kb hx h1
  have s9 : ρ 34 x ≤ 9 := by omega
  have fe := jfau_eq hs hw k i h cx c.1 (by omega) s9 c.2.2.2.1 c.2.2.2.2.1
  by_cases h2 : jwFa ρ x p q
  · rw [if_pos h2] at fe
    exact sim_f hs hw hz ih k i j c w hn h cx st0 sb ka kb hx s9 fe (by decide) (by decide) (jwk_a hx h1 h2)
  by_cases h3 : jwFd ρ x sc p ps q qs
  · rw [if_neg h2, if_pos h3] at fe
    exact sim_f hs hw hz ih k i j c w hn h cx st0 sb ka kb hx s9 fe (by decide) (by decide) (jwk_d hx h1 h2 h3)
  by_cases h4 : jwFf ρ x
  · rw [if_neg h2, if_neg h3, if_pos h4] at fe
    exact sim_f hs hw hz ih k i j c w hn h cx st0 sb ka kb hx s9 fe (by decide) (by decide) (jwk_f hx h1 h2 h3 h4)
  by_cases h5 : ρ 34 x < 6
  · exact sim_i hs hw hz ih k i j c w hn h cx st0 sb ka kb hx h2 h3 h4 h5
  by_cases h6 : ρ 34 x = 6
  · exact sim_c hs hw hz ih k i j c w hn h cx st0 sb ka kb hx h2 h4 h6
  have rb := jrds_b (s := ρ 34 x) (a := jwa ρ x p q) (b := jwb ρ x p q)
  by_cases r0 : jrds (ρ 34 x) (jwa ρ x p q) (jwb ρ x p q) = 0
  · exact sim_z hs hw hz ih k i j c w hn h cx st0 sb ka kb hx h2 h4 (by omega) s9 r0
  have r9 := jrnd9 hw (p := p) (q := q) ⟨c.1, by omega⟩ c.2.2.2.1 c.2.2.2.2.1 (x := x) (by
    unfold jwFa jwa
    rw [← k34, ← k 35 x (by omega) (by omega) (by omega)]; exact h2)
  have eb : jrds (ρ 34 x) (jwa ρ x p q) (jwb ρ x p q) = jrds (σ0 34 x) (jwa σ0 x p q) (jwb σ0 x p q) := by unfold jwa jwb; rw [k34, k 35 x (by omega) (by omega) (by omega), k 36 x (by omega) (by omega) (by omega)]
  rw [← eb] at r9
  by_cases e9 : ρ 34 x = 9
  · refine sim_w hs hw hz ih k i j c w hn h cx st0 sb ka kb hx h2 h4 (by omega) s9 e9 ?_
    have : jrds (ρ 34 x) (jwa ρ x p q) (jwb ρ x p q) = 0 ∨ jrds (ρ 34 x) (jwa ρ x p q) (jwb ρ x p q) = 1 := by
      unfold jrds
      rw [if_neg (by omega), if_neg (by omega)]
      split
      · exact Or.inr rfl
      · exact Or.inl rfl
    exact this.resolve_left r0
  · exact sim_g hs hw hz ih k i j c w hn h cx st0 sb ka kb hx h2 h4 (by omega) s9 e9 (by omega)
theorem jSim.all {σ0 : JM} {Z : Int → Int → JM → Prop} (hs : jSC σ0) (hw : jwf σ0) (hz : jZst σ0 Z) : ∀ n : Nat, jSim σ0 Z n := by
  intro n
  induction n with
  | zero => intro τ ρ S x to sc p ps q qs d st k i j c w hn; exact absurd hn (by omega)
  | succ n ih => exact ih.succ hs hw hz
