def jLnP (τ ρ : JM) (x : Int) : Prop := jat τ 8 80 x = jch (ρ 34 x) ∧ jat τ 9 80 x = (if ρ 34 x = 5 then 0 else ρ 35 x) ∧ jat τ 10 80 x = (if ρ 34 x = 2 then 0 else ρ 36 x) ∧ jat τ 11 80 x = (if ρ 34 x = 5 then ρ 35 x else if ρ 34 x = 2 then ρ 36 x else if ρ 34 x = 6 then ρ 37 x else 0) ∧ (-2 ≤ jat τ 9 80 x ∧ jat τ 9 80 x ≤ jgo (jch (ρ 34 x))) ∧ (-2 ≤ jat τ 10 80 x ∧ jat τ 10 80 x ≤ jgo (jch (ρ 34 x))) ∧ (ρ 34 x = 7 → jat τ 9 80 x = 0) ∧ (ρ 34 x ≠ 6 → ρ 34 x ≠ 9 → jat τ 10 80 x = 0)
theorem jLnP.of {σ0 τ ρ : JM} (hs : jSC σ0) (kc : jkc σ0 τ) (kr : jkp σ0 ρ) (ln : σ0 7 1 ≤ 80) {x : Int} (x0 : 0 ≤ x) (x1 : x < σ0 7 1) : jLnP τ ρ x := jLn hs kc kr ln x0 x1
/-- the loop of expandProgram, as the walk sees it: Z line steps memory -/
def jZst (σ0 : JM) (Z : Int → Int → JM → Prop) : Prop := ∀ (x r st : Int) (τ τ' : JM), 0 ≤ x → x < σ0 7 1 → 0 ≤ st → st < 1000000 → τ 4 9 = 110 → τ 1 7 = σ0 7 1 → JSp mX1_expandLine 5 0 [(2, 4), (0, x)] τ (jrv r τ') jno → Z r (st + 1) τ' → Z x st τ
/-- the memories at a fault -/
def jCF (σ0 τ ρ : JM) : Prop := jkc σ0 τ ∧ τ 4 9 = ρ 7 14 ∧ τ 4 10 = ρ 7 15 ∧ τ 4 9 ≠ 110 ∧ 0 < τ 4 9 ∧ τ 4 9 < 65536
def jKa (σ0 : JM) (Z : Int → Int → JM → Prop) (r : Int × JM) (τ ρ : JM) (S : Int → Int) (x to st : Int) : Prop := r.1 = 1 → ∀ (τ' : JM) (S' : Int → Int) (st' : Int), jCD σ0 τ' r.2 S' → jFr σ0 τ τ' S S' x to → 0 ≤ st' → st' ≤ st + 721 * (r.2 7 18 - ρ 7 18) + (to - x) → Z to st' τ'
def jKb (σ0 : JM) (Z : Int → Int → JM → Prop) (r : Int × JM) : Prop := r.1 = 0 → ∀ (τ' : JM) (x' st' : Int), jCF σ0 τ' r.2 → 0 ≤ st' → st' ≤ 1000000 → Z x' st' τ'
def jSim (σ0 : JM) (Z : Int → Int → JM → Prop) (n : Nat) : Prop := ∀ (τ ρ : JM) (S : Int → Int) (x to sc p ps q qs d st : Int), jkp σ0 ρ → jwi ρ → jit σ0 ρ → jwc σ0 x to p q d → jW σ0 x to → to * 81 + (to - x) < n → jCD σ0 τ ρ S → jCx σ0 τ S to sc p ps q qs d → 0 ≤ st → st + 721 * (1000 - ρ 7 18) + (to - x) ≤ 900000 → jKa σ0 Z (jwk n ρ x to sc p ps q qs d) τ ρ S x to st → jKb σ0 Z (jwk n ρ x to sc p ps q qs d) → Z x st τ
theorem jprt.mono {σ0 : JM} {y to y' to' z : Int} (h : jprt σ0 y to z) (h1 : y ≤ y') (h2 : to' ≤ to) : jprt σ0 y' to' z := ⟨h.1, h.2.1, by have := h.2.2; omega⟩
theorem jCx.scs {σ0 τ ρ : JM} {S : Int → Int} {to sc p ps q qs d : Int} (cx : jCx σ0 τ S to sc p ps q qs d) (h : jCD σ0 τ ρ S) : (0 ≤ sc ∧ sc < ρ 7 17) ∧ (0 ≤ ps ∧ ps < ρ 7 17) ∧ (0 ≤ qs ∧ qs < ρ 7 17) := by
  obtain ⟨-, c4, -, ⟨c7, c8⟩, ⟨c9, c10⟩, -⟩ := cx
  have s0 := h.s0.1
  refine ⟨?_, ?_, ?_⟩
  · rw [← c4]; exact (h.sb _ (by omega) (by omega)).1
  · rw [← c8]; exact (h.sb _ c7.1 c7.2).1
  · rw [← c10]; exact (h.sb _ c9.1 c9.2).1
theorem jCx.to {σ0 τ : JM} {S : Int → Int} {to sc p ps q qs d to' : Int} (c : jCx σ0 τ S to sc p ps q qs d) (h : to' ≤ to) : jCx σ0 τ S to' sc p ps q qs d := by
  obtain ⟨c1, c2, c3, c4, c5, c6, c7⟩ := c
  refine ⟨c1, c2, c3, c4, c5, by omega, ?_⟩
  rcases c7 with e | ⟨m, m0, m1, m2⟩
  · exact Or.inl e
  · exact Or.inr ⟨m, m0, m1, by omega⟩
theorem jrn_eq {σ0 τ ρ : JM} {S : Int → Int} {x to sc p ps q qs d : Int} (hs : jSC σ0) (hw : jwf σ0) (k : jkp σ0 ρ) (h : jCD σ0 τ ρ S) (cx : jCx σ0 τ S to sc p ps q qs d) (x0 : 0 ≤ x) (x1 : x < σ0 7 1) (s9 : 7 ≤ ρ 34 x ∧ ρ 34 x ≤ 9) : jrn τ x = jrds (ρ 34 x) (jwa ρ x p q) (jwb ρ x p q) := by
  obtain ⟨l1, l2, l3, -⟩ := jLn hs h.kc k hw.ln.2 x0 x1
  have ja := jch_all (s := ρ 34 x) (by omega)
  obtain ⟨⟨c1, c2, c3⟩, -, ⟨c5, c6⟩, -⟩ := cx
  have e1 : jat τ 27 18 (2 * τ 4 7) = p := by rw [jat_in (by omega) (by omega), c1]; exact c5
  have e2 : jat τ 27 18 (2 * τ 4 7 + 1) = q := by rw [jat_in (by omega) (by omega), c1]; exact c6
  rw [if_neg (by omega)] at l2 l3
  unfold jrn jrnd
  rw [e1, e2, l1, l2, l3]
  show (if jch (ρ 34 x) = 76 then jwa ρ x p q else if jch (ρ 34 x) = 87 then (if jwa ρ x p q = jwb ρ x p q then 1 else 0) else 1) = _
  unfold jrds
  by_cases a : ρ 34 x = 7
  · rw [if_neg (by omega), if_neg (by omega), if_pos a]
  · by_cases b : ρ 34 x = 8
    · rw [if_pos (by omega), if_neg a, if_pos b]
    · rw [if_neg (by omega), if_pos (by omega), if_neg a, if_neg b]
set_option maxHeartbeats 4000000 in
theorem sim_m {σ0 : JM} {Z : Int → Int → JM → Prop} (hs : jSC σ0) (hw : jwf σ0) (hz : jZst σ0 Z) {n : Nat} (ih : jSim σ0 Z n) {τ ρ : JM} {S : Int → Int} {x to sc p ps q qs d st : Int} (k : jkp σ0 ρ) (i : jwi ρ) (j : jit σ0 ρ) (c : jwc σ0 x to p q d) (w : jW σ0 x to) (hn : to * 81 + (to - x) < (n + 1 : Nat)) (h : jCD σ0 τ ρ S) (cx : jCx σ0 τ S to sc p ps q qs d) (st0 : 0 ≤ st) (sb : st + 721 * (1000 - ρ 7 18) + (to - x) ≤ 900000) (ka : jKa σ0 Z (jwk (n + 1) ρ x to sc p ps q qs d) τ ρ S x to st) (kb : jKb σ0 Z (jwk (n + 1) ρ x to sc p ps q qs d)) (hx : x < to) (h1 : ρ 34 x = 11) : Z x st τ := by
  have x0 : 0 ≤ x := c.1
  have x1 : x < σ0 7 1 := by omega
  have k34 : ρ 34 x = σ0 34 x := k 34 x (by omega) (by omega) (by omega)
  have k35 : ρ 35 x = σ0 35 x := k 35 x (by omega) (by omega) (by omega)
  have k36 : ρ 36 x = σ0 36 x := k 36 x (by omega) (by omega) (by omega)
  have k37 : ρ 37 x = σ0 37 x := k 37 x (by omega) (by omega) (by omega)
  have k38 : ρ 38 x = σ0 38 x := k 38 x (by omega) (by omega) (by omega)
  have so := hw.so x x0 x1
  have ln := hw.ln
  have l := jLnP.of hs h.kc k ln.2 x0 x1
  have e17 : τ 1 7 = σ0 7 1 := by rw [h.kc 1 7 (by omega)]; exact hs.1.1
  have h0 := h.s0
  have i8 := i.2.2
  have cd : 0 ≤ τ 4 7 ∧ τ 4 7 ≤ 8 ∧ τ 4 7 = d := by have := cx.1; omega
  have c35 := cx.2.2.2.2.2.1
  have op : jop (σ0 34 x) := by omega
  have g := jW.inn hw c.1 c.2.2.1 w (Int.le_refl _) hx op
  have lp := jLp hs hw h.kc x0 x1 op
  rw [jwk_m hx h1, k38] at ka kb
  refine hz x (σ0 38 x + 1) st τ τ x0 x1 st0 (by omega) h.nn.2.2.1 e17 (sp_X1_expandLineM l.1 (by have ja := jch_all (s := ρ 34 x) (by omega); omega) (by rw [lp.1]; omega) (by rw [lp.1]) rfl) ?_
  exact ih τ ρ S _ to sc p ps q qs d (st + 1) k i j (by omega) (jW.nxt hw c.1 c.2.2.1 w hx op) (by omega) h cx (by omega) (by omega) (fun e τ' S' st' a b c1 c2 => ka e τ' S' st' a ((jFr.rf σ0 τ S x to).tr b (fun z hz => hz.mono (by omega) (Int.le_refl _))) c1 (by omega)) kb
set_option maxHeartbeats 4000000 in
theorem sim_f {σ0 : JM} {Z : Int → Int → JM → Prop} (hs : jSC σ0) (hw : jwf σ0) (hz : jZst σ0 Z) {n : Nat} (ih : jSim σ0 Z n) {τ ρ : JM} {S : Int → Int} {x to sc p ps q qs d st : Int} (k : jkp σ0 ρ) (i : jwi ρ) (j : jit σ0 ρ) (c : jwc σ0 x to p q d) (w : jW σ0 x to) (hn : to * 81 + (to - x) < (n + 1 : Nat)) (h : jCD σ0 τ ρ S) (cx : jCx σ0 τ S to sc p ps q qs d) (st0 : 0 ≤ st) (sb : st + 721 * (1000 - ρ 7 18) + (to - x) ≤ 900000) (ka : jKa σ0 Z (jwk (n + 1) ρ x to sc p ps q qs d) τ ρ S x to st) (kb : jKb σ0 Z (jwk (n + 1) ρ x to sc p ps q qs d)) (hx : x < to) (s9 : ρ 34 x ≤ 9) {f : Int} (hf : jfau τ x (jch (ρ 34 x)) = f) (f1 : f ≠ 110) (f2 : 0 < f ∧ f < 65536) (e : jwk (n + 1) ρ x to sc p ps q qs d = (0, jstp ρ f x)) : Z x st τ := by
  have x0 : 0 ≤ x := c.1
  have x1 : x < σ0 7 1 := by omega
  have k34 : ρ 34 x = σ0 34 x := k 34 x (by omega) (by omega) (by omega)
  have k35 : ρ 35 x = σ0 35 x := k 35 x (by omega) (by omega) (by omega)
  have k36 : ρ 36 x = σ0 36 x := k 36 x (by omega) (by omega) (by omega)
  have k37 : ρ 37 x = σ0 37 x := k 37 x (by omega) (by omega) (by omega)
  have k38 : ρ 38 x = σ0 38 x := k 38 x (by omega) (by omega) (by omega)
  have so := hw.so x x0 x1
  have ln := hw.ln
  have l := jLnP.of hs h.kc k ln.2 x0 x1
  have e17 : τ 1 7 = σ0 7 1 := by rw [h.kc 1 7 (by omega)]; exact hs.1.1
  have h0 := h.s0
  have i8 := i.2.2
  have cd : 0 ≤ τ 4 7 ∧ τ 4 7 ≤ 8 ∧ τ 4 7 = d := by have := cx.1; omega
  have c35 := cx.2.2.2.2.2.1
  have hk3 : jch (ρ 34 x) ≠ 77 ∧ jch (ρ 34 x) ≠ 78 ∧ jch (ρ 34 x) ≠ 69 := by have ja := jch_all (s := ρ 34 x) (by omega); omega
  rw [e] at kb
  refine hz x x st τ (jset (jset τ 4 9 f) 4 10 x) x0 x1 st0 (by omega) h.nn.2.2.1 e17 (sp_X1_expandLineF l.1 hk3 cd.1 cd.2.1 (by omega) h0.1.2 (fun _ => by have := (cx.sco h0.1.1 (jat τ 9 80 x)).1; omega) (by rw [hf]; exact f1) rfl (by rw [hf])) ?_
  exact kb rfl _ x (st + 1) ⟨(h.kc.set _ _ (by omega)).set _ _ (by omega), rfl, rfl, f1, f2⟩ (by omega) (by omega)
set_option maxHeartbeats 4000000 in
theorem sim_i {σ0 : JM} {Z : Int → Int → JM → Prop} (hs : jSC σ0) (hw : jwf σ0) (hz : jZst σ0 Z) {n : Nat} (ih : jSim σ0 Z n) {τ ρ : JM} {S : Int → Int} {x to sc p ps q qs d st : Int} (k : jkp σ0 ρ) (i : jwi ρ) (j : jit σ0 ρ) (c : jwc σ0 x to p q d) (w : jW σ0 x to) (hn : to * 81 + (to - x) < (n + 1 : Nat)) (h : jCD σ0 τ ρ S) (cx : jCx σ0 τ S to sc p ps q qs d) (st0 : 0 ≤ st) (sb : st + 721 * (1000 - ρ 7 18) + (to - x) ≤ 900000) (ka : jKa σ0 Z (jwk (n + 1) ρ x to sc p ps q qs d) τ ρ S x to st) (kb : jKb σ0 Z (jwk (n + 1) ρ x to sc p ps q qs d)) (hx : x < to) (h2 : ¬ jwFa ρ x p q) (h3 : ¬ jwFd ρ x sc p ps q qs) (h4 : ¬ jwFf ρ x) (h5 : ρ 34 x < 6) : Z x st τ := by
  have x0 : 0 ≤ x := c.1
  have x1 : x < σ0 7 1 := by omega
  have k34 : ρ 34 x = σ0 34 x := k 34 x (by omega) (by omega) (by omega)
  have k35 : ρ 35 x = σ0 35 x := k 35 x (by omega) (by omega) (by omega)
  have k36 : ρ 36 x = σ0 36 x := k 36 x (by omega) (by omega) (by omega)
  have k37 : ρ 37 x = σ0 37 x := k 37 x (by omega) (by omega) (by omega)
  have k38 : ρ 38 x = σ0 38 x := k 38 x (by omega) (by omega) (by omega)
  have so := hw.so x x0 x1
  have ln := hw.ln
  have l := jLnP.of hs h.kc k ln.2 x0 x1
  have e17 : τ 1 7 = σ0 7 1 := by rw [h.kc 1 7 (by omega)]; exact hs.1.1
  have h0 := h.s0
  have i8 := i.2.2
  have cd : 0 ≤ τ 4 7 ∧ τ 4 7 ≤ 8 ∧ τ 4 7 = d := by have := cx.1; omega
  have c35 := cx.2.2.2.2.2.1
  have o1 := hw.one x x0 x1
  have o2 := hw.two x x0 x1
  have ab : 0 ≤ jwa ρ x p q ∧ jwa ρ x p q ≤ 999 := by
    have := jrga_b ⟨o1.1, o1.2.1⟩ c.2.2.2.1 c.2.2.2.2.1
    rw [← k35] at this; exact this
  have bb : 0 ≤ jwb ρ x p q ∧ jwb ρ x p q ≤ 999 := by
    have := jrga_b o2 c.2.2.2.1 c.2.2.2.2.1
    rw [← k36] at this; exact this
  have ii := i
  obtain ⟨i5, i6, i7⟩ := ii
  have sss := cx.scs h
  have as := jrga_s (v := ρ 35 x) sss.2.1 sss.2.2 sss.1
  have bs := jrga_s (v := ρ 36 x) sss.2.1 sss.2.2 sss.1
  have i3 : ρ 7 18 < 1000 := by
    by_cases e : ρ 7 18 = 1000
    · exact absurd (Or.inl e) h4
    · omega
  have hjs : jch (ρ 34 x) = 108 → -100 ≤ jsco τ (jat τ 9 80 x) ∧ jsco τ (jat τ 9 80 x) ≤ 1000 := fun _ => by have := (cx.sco h0.1.1 (jat τ 9 80 x)).1; omega
  have h' := h.w1
  obtain ⟨τ1, hτ1⟩ : ∃ τ1, jset τ 4 8 (τ 4 8 + 1) = τ1 := ⟨_, rfl⟩
  have f1 : jFr σ0 τ τ1 S S x to := by rw [← hτ1]; exact jFr.rf σ0 τ S x to
  have cx1 := cx.fr f1 h0.1.1
  rw [hτ1] at h'
  have l' := jLnP.of hs h'.kc k ln.2 x0 x1
  have e34 : jw1 ρ 34 x = ρ 34 x := rfl
  have e35 : τ1 3 5 = τ 3 5 := f1.1.1
  have e47 : τ1 4 7 = τ 4 7 := f1.1.2
  have cc : 0 ≤ τ 4 8 ∧ τ 4 8 ≤ 1000 := by rw [h.nn.2.1]; omega
  have hf : jfau τ x (jch (ρ 34 x)) = 110 := by rw [jfau_eq hs hw k i h cx x0 x1 (by omega) c.2.2.2.1 c.2.2.2.2.1, if_neg h2, if_neg h3, if_neg h4]
  have hk3 : jch (ρ 34 x) ≠ 77 ∧ jch (ρ 34 x) ≠ 78 ∧ jch (ρ 34 x) ≠ 69 ∧ ¬ (jch (ρ 34 x) = 66 ∨ jch (ρ 34 x) = 76 ∨ jch (ρ 34 x) = 87) ∧ jch (ρ 34 x) ≠ 67 := by have ja := jch_all (s := ρ 34 x) (by omega); omega
  have hk2 : (jch (ρ 34 x) = 111 ↔ ρ 34 x = 2) ∧ (jch (ρ 34 x) = 103 ↔ ρ 34 x = 5) ∧ (jch (ρ 34 x) = 108 ↔ ρ 34 x = 0) := by have ja := jch_all (s := ρ 34 x) (by omega); omega
  have i4 : ρ 7 16 < 200 := by
    have := i.1
    by_cases e : ρ 7 16 = 200
    · exact absurd (Or.inr ⟨h5, e⟩) h4
    · omega
  have e5 : ρ 34 x = 5 → jwa ρ x p q = ρ 35 x ∧ 2 ≤ ρ 35 x ∧ ρ 35 x ≤ 8 := fun e => by
    have := hw.al5 x x0 x1 (by rw [← k34]; exact e)
    rw [← k35] at this
    unfold jwa jrga
    rw [if_neg (by omega), if_neg (by omega)]
    exact ⟨rfl, this⟩
  have e2 : ρ 34 x = 2 → 0 ≤ ρ 36 x ∧ ρ 36 x ≤ 99 := fun e => by rw [k36]; exact hw.op2 x x0 x1 (by rw [← k34]; exact e)
  have ea : ρ 34 x ≠ 5 → jval τ1 (jat τ1 9 80 x) = jwa ρ x p q := fun e => by rw [cx1.val, l'.2.1, if_neg e]
  have es : ρ 34 x ≠ 5 → (0 ≤ jsco τ1 (jat τ1 9 80 x) ∧ jsco τ1 (jat τ1 9 80 x) < τ1 3 5) ∧ S (jsco τ1 (jat τ1 9 80 x)) = jrga (ρ 35 x) ps qs sc := fun e => by
    have := cx1.sco (by omega) (jat τ1 9 80 x)
    rw [l'.2.1, if_neg e] at this ⊢
    exact this
  have ev5 : ρ 34 x = 5 → jval τ1 (jat τ1 9 80 x) = 0 := fun e => by rw [cx1.val, l'.2.1, if_pos e]; rfl
  have av : (ρ 34 x = 0 ∨ jrk (ρ 34 x)) → 0 ≤ jwa ρ x p q ∧ jwa ρ x p q < 20 := fun e => by
    refine ⟨ab.1, ?_⟩
    by_cases z : ρ 35 x < 0
    · have : ¬ jmost (ρ 34 x) < jwa ρ x p q := fun y => h2 ⟨z, y⟩
      have ja := jch_all (s := ρ 34 x) (by omega)
      omega
    · have l5 := l.2.2.2.2.1
      have ja := jch_all (s := ρ 34 x) (by omega)
      have l2 := l.2.1
      rw [if_neg (by omega)] at l2
      have : jwa ρ x p q = ρ 35 x := by unfold jwa jrga; rw [if_neg (by omega), if_neg (by omega)]
      omega
  have ev : jvi (jch (ρ 34 x)) (jat τ1 11 80 x) (jval τ1 (jat τ1 9 80 x)) = if ρ 34 x = 2 then 100 * ρ 36 x + jwa ρ x p q else jwa ρ x p q := by
    have l4 := l'.2.2.2.1
    unfold jvi
    by_cases a : ρ 34 x = 2
    · rw [if_pos (hk2.1.mpr a), if_pos a, ea (by omega), l4, if_neg (by omega), if_pos a]
    · rw [if_neg (fun z => a (hk2.1.mp z)), if_neg a]
      by_cases b : ρ 34 x = 5
      · rw [if_pos (hk2.2.1.mpr b), l4, if_pos b, (e5 b).1]
      · rw [if_neg (fun z => b (hk2.2.1.mp z)), ea b]
  have hlk : ρ 34 x = 0 → jlk (jw1 ρ) (jwa ρ x p q) (jrga (ρ 35 x) ps qs sc) = -1 := fun e => by
    by_cases z : jlk ρ (jwa ρ x p q) (jrga (ρ 35 x) ps qs sc) = -1
    · exact z
    · exact absurd ⟨e, (jfs_ex i.1.1).mp z⟩ h3
  have g : jCD σ0 (jAdd2 τ1 x (jch (ρ 34 x))) (jmk (jw1 ρ) x (jwa ρ x p q) (jrga (ρ 35 x) ps qs sc) d) S := h'.add (show 0 ≤ ρ 7 16 from i.1.1) rfl ⟨by omega, h5⟩ ea es (by rw [e47]; exact cd.2.2) ev hlk av
  have ne : ∀ {a : Nat} {b : Int}, ¬ (15 ≤ a ∧ a ≤ 19) ∧ a ≠ 21 ∧ a ≠ 24 → ¬ (a = 2 ∧ b = 6) → jAdd2 τ1 x (jch (ρ 34 x)) a b = τ1 a b := fun a b => jAdd2_ne a b
  have f2 : jFr σ0 τ1 (jAdd2 τ1 x (jch (ρ 34 x))) S S x to := ⟨⟨ne (by decide) (by decide), ne (by decide) (by decide)⟩, fun _ _ _ => rfl, fun _ _ _ => ⟨ne (by decide) (by omega), ne (by decide) (by omega)⟩, fun _ _ _ => ne (by decide) (by omega), fun _ _ => ne (by decide) (by omega)⟩
  have f3 := f1.tr f2 (fun z hz => hz)
  rw [jwk_i hx h2 h3 h4 h5] at ka kb
  have m := jmk_7 (jw1 ρ) x (jwa ρ x p q) (jrga (ρ 35 x) ps qs sc) d
  rw [(jw1_7 ρ).1, (jw1_7 ρ).2.1, (jw1_7 ρ).2.2] at m
  have hj2 : jit σ0 (jmk (jw1 ρ) x (jwa ρ x p q) (jrga (ρ 35 x) ps qs sc) d) := jit.mk (σ := jw1 ρ) j (show 0 ≤ ρ 7 16 from i.1.1) ⟨x0, x1⟩ k34 h5 ab (fun e => by have := e5 e; omega) as
  have ad : JSp mX1_addItem 3 0 [(2, 4), (0, x), (0, jch (ρ 34 x))] τ1 (jvv (jAdd2 τ1 x (jch (ρ 34 x)))) jno := by
    refine sp_X1_addItem (by omega) (by omega) (by omega) (by omega) (by rw [h'.nn.1]; exact i.1.1) (by rw [h'.nn.1]; exact i4) ?_ ?_ (fun e => ?_)
    · rw [l'.2.2.2.1]
      show 0 ≤ (if ρ 34 x = 5 then ρ 35 x else if ρ 34 x = 2 then ρ 36 x else if ρ 34 x = 6 then ρ 37 x else 0) ∧ (if ρ 34 x = 5 then ρ 35 x else if ρ 34 x = 2 then ρ 36 x else if ρ 34 x = 6 then ρ 37 x else 0) ≤ 1000
      by_cases a : ρ 34 x = 5
      · have := e5 a; rw [if_pos a]; omega
      · rw [if_neg a]
        by_cases b : ρ 34 x = 2
        · have := e2 b; rw [if_pos b]; omega
        · rw [if_neg b, if_neg (by omega)]; omega
    · by_cases a : ρ 34 x = 5
      · rw [ev5 a]; omega
      · rw [ea a]; omega
    · have e0 : ρ 34 x = 0 := hk2.2.2.mp e
      have := (es (by omega)).1
      have := av (Or.inl e0)
      rw [ea (by omega)]
      omega
  refine hz x (x + 1) st τ (jAdd2 τ1 x (jch (ρ 34 x))) x0 x1 st0 (by omega) h.nn.2.2.1 e17 (sp_X1_expandLineI l.1 ⟨hk3.1, hk3.2.1, hk3.2.2.1⟩ cd.1 cd.2.1 (by omega) h0.1.2 hjs hf cc hk3.2.2.2.1 hk3.2.2.2.2 ⟨x0, by omega⟩ rfl (by rw [hτ1]; exact ad)) ?_
  exact ih _ _ S (x + 1) to sc p ps q qs d (st + 1) (k.w1.mk _ _ _ _) ⟨by omega, by omega, by omega⟩ hj2 (by omega) (w.suc (by omega)) (by omega) g (cx.fr f3 h0.1.1) (by omega) (by omega) (fun e τ' S' st' a b c1 c2 => ka e τ' S' st' a (f3.tr b (fun z hz => hz.mono (by omega) (Int.le_refl _))) c1 (by omega)) kb
set_option maxHeartbeats 4000000 in
theorem sim_c {σ0 : JM} {Z : Int → Int → JM → Prop} (hs : jSC σ0) (hw : jwf σ0) (hz : jZst σ0 Z) {n : Nat} (ih : jSim σ0 Z n) {τ ρ : JM} {S : Int → Int} {x to sc p ps q qs d st : Int} (k : jkp σ0 ρ) (i : jwi ρ) (j : jit σ0 ρ) (c : jwc σ0 x to p q d) (w : jW σ0 x to) (hn : to * 81 + (to - x) < (n + 1 : Nat)) (h : jCD σ0 τ ρ S) (cx : jCx σ0 τ S to sc p ps q qs d) (st0 : 0 ≤ st) (sb : st + 721 * (1000 - ρ 7 18) + (to - x) ≤ 900000) (ka : jKa σ0 Z (jwk (n + 1) ρ x to sc p ps q qs d) τ ρ S x to st) (kb : jKb σ0 Z (jwk (n + 1) ρ x to sc p ps q qs d)) (hx : x < to) (h2 : ¬ jwFa ρ x p q) (h4 : ¬ jwFf ρ x) (h5 : ρ 34 x = 6) : Z x st τ := by
  have x0 : 0 ≤ x := c.1
  have x1 : x < σ0 7 1 := by omega
  have k34 : ρ 34 x = σ0 34 x := k 34 x (by omega) (by omega) (by omega)
  have k35 : ρ 35 x = σ0 35 x := k 35 x (by omega) (by omega) (by omega)
  have k36 : ρ 36 x = σ0 36 x := k 36 x (by omega) (by omega) (by omega)
  have k37 : ρ 37 x = σ0 37 x := k 37 x (by omega) (by omega) (by omega)
  have k38 : ρ 38 x = σ0 38 x := k 38 x (by omega) (by omega) (by omega)
  have so := hw.so x x0 x1
  have ln := hw.ln
  have l := jLnP.of hs h.kc k ln.2 x0 x1
  have e17 : τ 1 7 = σ0 7 1 := by rw [h.kc 1 7 (by omega)]; exact hs.1.1
  have h0 := h.s0
  have i8 := i.2.2
  have cd : 0 ≤ τ 4 7 ∧ τ 4 7 ≤ 8 ∧ τ 4 7 = d := by have := cx.1; omega
  have c35 := cx.2.2.2.2.2.1
  have o1 := hw.one x x0 x1
  have o2 := hw.two x x0 x1
  have ab : 0 ≤ jwa ρ x p q ∧ jwa ρ x p q ≤ 999 := by
    have := jrga_b ⟨o1.1, o1.2.1⟩ c.2.2.2.1 c.2.2.2.2.1
    rw [← k35] at this; exact this
  have bb : 0 ≤ jwb ρ x p q ∧ jwb ρ x p q ≤ 999 := by
    have := jrga_b o2 c.2.2.2.1 c.2.2.2.2.1
    rw [← k36] at this; exact this
  have ii := i
  obtain ⟨i5, i6, i7⟩ := ii
  have sss := cx.scs h
  have as := jrga_s (v := ρ 35 x) sss.2.1 sss.2.2 sss.1
  have bs := jrga_s (v := ρ 36 x) sss.2.1 sss.2.2 sss.1
  have i3 : ρ 7 18 < 1000 := by
    by_cases e : ρ 7 18 = 1000
    · exact absurd (Or.inl e) h4
    · omega
  have hjs : jch (ρ 34 x) = 108 → -100 ≤ jsco τ (jat τ 9 80 x) ∧ jsco τ (jat τ 9 80 x) ≤ 1000 := fun _ => by have := (cx.sco h0.1.1 (jat τ 9 80 x)).1; omega
  have h' := h.w1
  obtain ⟨τ1, hτ1⟩ : ∃ τ1, jset τ 4 8 (τ 4 8 + 1) = τ1 := ⟨_, rfl⟩
  have f1 : jFr σ0 τ τ1 S S x to := by rw [← hτ1]; exact jFr.rf σ0 τ S x to
  have cx1 := cx.fr f1 h0.1.1
  rw [hτ1] at h'
  have l' := jLnP.of hs h'.kc k ln.2 x0 x1
  have e34 : jw1 ρ 34 x = ρ 34 x := rfl
  have e35 : τ1 3 5 = τ 3 5 := f1.1.1
  have e47 : τ1 4 7 = τ 4 7 := f1.1.2
  have cc : 0 ≤ τ 4 8 ∧ τ 4 8 ≤ 1000 := by rw [h.nn.2.1]; omega
  have h3 : ¬ jwFd ρ x sc p ps q qs := fun z => by have := z.1; omega
  have hf : jfau τ x (jch (ρ 34 x)) = 110 := by rw [jfau_eq hs hw k i h cx x0 x1 (by omega) c.2.2.2.1 c.2.2.2.2.1, if_neg h2, if_neg h3, if_neg h4]
  have hk3 : jch (ρ 34 x) ≠ 77 ∧ jch (ρ 34 x) ≠ 78 ∧ jch (ρ 34 x) ≠ 69 ∧ jch (ρ 34 x) = 67 := by have ja := jch_all (s := ρ 34 x) (by omega); omega
  have ca := hw.ca x x0 x1 (by omega)
  have mm := hw.mm (σ0 37 x) ca.1 ca.2.1
  have f40 : ρ 40 (ρ 37 x) = σ0 40 (σ0 37 x) := by rw [k 40 _ (by omega) (by omega) (by omega), k37]
  have f41 : ρ 41 (ρ 37 x) = σ0 41 (σ0 37 x) := by rw [k 41 _ (by omega) (by omega) (by omega), k37]
  have mc := hw.mc
  have dm : (d + 1) + σ0 37 x ≤ 8 := by
    rcases cx.2.2.2.2.2.2 with e | ⟨m, m0, m1, m2⟩
    · omega
    · by_cases z : σ0 37 x < m
      · omega
      · by_cases y : σ0 37 x = m
        · rw [y] at ca; omega
        · have := hs.2.2.2.2 m (σ0 37 x) m0.1 (by omega) ca.2.1
          omega
  have l4 := l'.2.2.2.1
  rw [if_neg (by omega), if_neg (by omega), if_pos h5] at l4
  have l4 : jat τ1 11 80 x = σ0 37 x := l4.trans k37
  have e14 : jat τ1 14 8 (σ0 37 x) = σ0 40 (σ0 37 x) := by
    rw [jat_in ca.1 (by omega), h'.kc 14 _ (by omega)]
    exact hs.2.2.2.1 _ ca.1 ca.2.1
  have l2 := l'.2.1
  rw [if_neg (by omega)] at l2
  have l3 := l'.2.2.1
  rw [if_neg (by omega)] at l3
  have va : jval τ1 (jat τ1 9 80 x) = jwa ρ x p q := by rw [cx1.val, l2]
  have vb : jval τ1 (jat τ1 10 80 x) = jwb ρ x p q := by rw [cx1.val, l3]
  have sa : (0 ≤ jsco τ1 (jat τ1 9 80 x) ∧ jsco τ1 (jat τ1 9 80 x) < τ1 3 5) ∧ S (jsco τ1 (jat τ1 9 80 x)) = jrga (ρ 35 x) ps qs sc := by
    have := cx1.sco (by omega) (jat τ1 9 80 x)
    rw [l2] at this ⊢; exact this
  have sb2 : (0 ≤ jsco τ1 (jat τ1 10 80 x) ∧ jsco τ1 (jat τ1 10 80 x) < τ1 3 5) ∧ S (jsco τ1 (jat τ1 10 80 x)) = jrga (ρ 36 x) ps qs sc := by
    have := cx1.sco (by omega) (jat τ1 10 80 x)
    rw [l3] at this ⊢; exact this
  have en : JSp mX1_enterMacro 4 0 [(2, 4), (0, x)] τ1 (jrv (σ0 40 (σ0 37 x) + 1) (jEnt τ1 x)) jno := by
    have := sp_X1_enterMacro (σ := τ1) (x := x) (by omega) (by omega) (by omega) (by omega) (by rw [l4, e14]; omega)
    rw [l4, e14] at this; exact this
  obtain ⟨r27, r28, r26, r35, r47, r25⟩ := jEnt_row τ1 x
  have ge := h'.ent j (show 0 ≤ ρ 7 16 from i.1.1) (by omega) (by have := cx1.1; omega) x
  obtain ⟨τe, hτe⟩ : ∃ t, jEnt τ1 x = t := ⟨_, rfl⟩
  obtain ⟨Se, hSe⟩ : ∃ t : Int → Int, (fun j => if j = τ1 3 5 then jw1 ρ 7 17 else S j) = t := ⟨_, rfl⟩
  rw [hτe] at r27 r28 r26 r35 r47 r25 ge en
  rw [hSe] at ge
  have se0 : Se (τ1 3 5) = ρ 7 17 := by rw [← hSe]; exact if_pos rfl
  have se1 : ∀ j, j < τ1 3 5 → Se j = S j := fun j hj => by rw [← hSe]; exact if_neg (by omega)
  have eC : jwC n ρ x sc p ps q qs d = jwk n (jnsc (jw1 ρ) 0) (σ0 40 (σ0 37 x) + 1) (σ0 41 (σ0 37 x)) (ρ 7 17) (jwa ρ x p q) (jrga (ρ 35 x) ps qs sc) (jwb ρ x p q) (jrga (ρ 36 x) ps qs sc) (d + 1) := by unfold jwC; rw [f40, f41]
  rw [jwk_c hx h2 h4 h5, eC] at ka kb
  have m := jnsc_7 (jw1 ρ) 0
  rw [(jw1_7 ρ).1, (jw1_7 ρ).2.1, (jw1_7 ρ).2.2] at m
  have iN : jwi (jnsc (jw1 ρ) 0) := by obtain ⟨i5, i6, i7⟩ := i; exact ⟨by omega, by omega, by omega⟩
  have jN : jit σ0 (jnsc (jw1 ρ) 0) := jit.nsc (σ := jw1 ρ) j (show 0 ≤ ρ 7 17 by omega) (show -1 ≤ (0 : Int) ∧ 0 < ρ 7 17 by omega)
  have cN : jwc σ0 (σ0 40 (σ0 37 x) + 1) (σ0 41 (σ0 37 x)) (jwa ρ x p q) (jwb ρ x p q) (d + 1) := ⟨by omega, by omega, by omega, ab, bb, by omega, by omega⟩
  have wN := jW.mac hw ca.1 ca.2.1
  have ro := jwk_o hw n _ _ _ (ρ 7 17) _ (jrga (ρ 35 x) ps qs sc) _ (jrga (ρ 36 x) ps qs sc) _ (k.w1.nsc 0) iN cN wN
  have rj := jwk_j hw n _ _ _ (ρ 7 17) _ (jrga (ρ 35 x) ps qs sc) _ (jrga (ρ 36 x) ps qs sc) _ (k.w1.nsc 0) iN cN wN (by omega) (by omega) (by omega) jN
  have IH := ih τe (jnsc (jw1 ρ) 0) Se (σ0 40 (σ0 37 x) + 1) (σ0 41 (σ0 37 x)) (ρ 7 17) (jwa ρ x p q) (jrga (ρ 35 x) ps qs sc) (jwb ρ x p q) (jrga (ρ 36 x) ps qs sc) (d + 1) (st + 1) (k.w1.nsc 0) iN jN cN wN (by omega) ge
  obtain ⟨rC, hC⟩ : ∃ r, jwk n (jnsc (jw1 ρ) 0) (σ0 40 (σ0 37 x) + 1) (σ0 41 (σ0 37 x)) (ρ 7 17) (jwa ρ x p q) (jrga (ρ 35 x) ps qs sc) (jwb ρ x p q) (jrga (ρ 36 x) ps qs sc) (d + 1) = r := ⟨_, rfl⟩
  rw [hC] at ro rj IH ka kb
  obtain ⟨ro1, ro2, ro3, ro4, ro5, ro6, ro7⟩ := ro
  have ce : jCx σ0 τe Se (σ0 41 (σ0 37 x)) (ρ 7 17) (jwa ρ x p q) (jrga (ρ 35 x) ps qs sc) (jwb ρ x p q) (jrga (ρ 36 x) ps qs sc) (d + 1) := by
    refine ⟨⟨by omega, by omega, by omega⟩, by rw [r35, Int.add_sub_cancel]; exact se0, ⟨?_, ?_⟩, ⟨?_, ?_⟩, ⟨?_, ?_⟩, by omega, Or.inr ⟨σ0 37 x, ⟨ca.1, ca.2.1⟩, dm, Int.le_refl _⟩⟩
    · rw [r27, if_neg (by omega), if_pos (by omega)]; exact va
    · rw [r27, if_pos (by omega)]; exact vb
    · rw [r28, if_neg (by omega), if_pos (by omega)]; omega
    · rw [r28, if_neg (by omega), if_pos (by omega), se1 _ sa.1.2]; exact sa.2
    · rw [r28, if_pos (by omega)]; omega
    · rw [r28, if_pos (by omega), se1 _ sb2.1.2]; exact sb2.2
  refine hz x (σ0 40 (σ0 37 x) + 1) st τ τe x0 x1 st0 (by omega) h.nn.2.2.1 e17 (sp_X1_expandLineC l.1 ⟨hk3.1, hk3.2.1, hk3.2.2.1⟩ cd.1 cd.2.1 (by omega) h0.1.2 hjs hf cc hk3.2.2.2 (by rw [hτ1]; exact en)) ?_
  refine IH ce (by omega) (by omega) (fun e τ' S' st' g f s1 s2 => ?_) (fun e τ' x' st' g s1 s2 => kb (by rw [if_pos e]) τ' x' st' (by rw [if_pos e]; exact g) s1 s2)
  rw [if_neg (by omega)] at ka kb
  have ro8 := ro2.2.2
  obtain ⟨⟨g1, g2⟩, g3, g4, g5, g6⟩ := f
  have gs := g.s0
  have gb := g.sb (τ' 3 5 - 1) (by omega) (by omega)
  have op : jop (σ0 34 (σ0 40 (σ0 37 x))) := by omega
  have lp := jLp hs hw g.kc (by omega) (by omega) op
  have y26 : τ' 26 (τ' 4 7) = x := by rw [g5 _ (by omega) (by omega), r26, if_pos (by omega)]
  have cl : ∀ {a : Nat} {b : Int}, a ≠ 19 ∧ a ≠ 24 → ¬ (a = 3 ∧ b = 5) → ¬ (a = 4 ∧ b = 7) → jLea τ' a b = τ' a b := fun a b e => by unfold jLea; rw [jset_ne _ e, jCls_ne a b]
  have F : jFr σ0 τ (jLea τ') S S' x to := by
    refine ⟨⟨?_, ?_⟩, fun j j0 j1 => ?_, fun j j0 j1 => ?_, fun j j0 j1 => ?_, fun z hz => ?_⟩
    · unfold jLea; rw [jset_nk _ (by decide), jCls_35]; omega
    · unfold jLea; rw [jset_eq]; omega
    · rw [g3 j j0 (by omega), se1 j (by omega)]
    · rw [cl (by decide) (by omega) (by omega), cl (by decide) (by omega) (by omega), (g4 j j0 (by omega)).1, (g4 j j0 (by omega)).2, r27, r28, if_neg (by omega), if_neg (by omega), if_neg (by omega), if_neg (by omega)]
      exact f1.2.2.1 j j0 j1
    · rw [cl (by decide) (by omega) (by omega), g5 j j0 (by omega), r26, if_neg (by omega)]
      exact f1.2.2.2.1 j j0 j1
    · rw [cl (by decide) (by omega) (by omega), g6 z ?_, r25]
      · exact f1.2.2.2.2 z hz
      · refine ⟨hz.1, hz.2.1, ?_⟩
        have hz2 := hz.2.2
        by_cases z1 : σ0 41 (σ0 37 x) ≤ z
        · exact Or.inr z1
        · by_cases z2 : σ0 40 (σ0 37 x) < z
          · have := (hw.op (σ0 40 (σ0 37 x)) mm.1 (by omega) op).2.2.2 z z2 (by omega) hz.2.1
            omega
          · left; omega
  refine hz (σ0 41 (σ0 37 x)) (x + 1) st' τ' (jLea τ') (by omega) (by omega) s1 (by omega) g.nn.2.2.1 (by rw [g.kc 1 7 (by omega)]; exact hs.1.1) (sp_X1_expandLineN (k := 78) ?_ rfl ?_) ?_
  · rw [← mm.2.2.2.2, lp.2.2, if_pos mm.2.2.2.1]; rfl
  · have := sp_X1_leaveMacro (σ := τ') (y := σ0 41 (σ0 37 x)) (by omega) (by omega) (by omega) (by omega) gb.2.1 (by rw [g.nn.1]; exact gb.2.2) (by rw [g.nn.1]; exact ro2.1.2) (by rw [y26]; omega)
    rw [y26] at this; exact this
  exact ih _ _ S' (x + 1) to sc p ps q qs d (st' + 1) ro1 ro2 rj (by omega) (w.suc (by omega)) (by omega) ((g.cls rj (by omega)).s47 _) (cx.fr F h0.1.1) (by omega) (by omega) (fun e τ'' S'' st'' a b c1 c2 => ka e τ'' S'' st'' a (F.tr b (fun z hz => hz.mono (by omega) (Int.le_refl _))) c1 (by omega)) kb
