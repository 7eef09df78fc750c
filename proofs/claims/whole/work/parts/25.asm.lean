/-- what is true of the walk's items and scopes -/
def jit (σ0 σ : JM) : Prop := (∀ s, 0 ≤ s → s < σ 7 17 → -1 ≤ σ 42 s ∧ σ 42 s < s) ∧ ∀ i, 0 ≤ i → i < σ 7 16 → (0 ≤ σ 43 i ∧ σ 43 i < σ0 7 1) ∧ σ 44 i = σ0 34 (σ 43 i) ∧ σ 44 i < 6 ∧ (0 ≤ σ 45 i ∧ σ 45 i ≤ 999) ∧ (σ 44 i = 5 → σ 45 i ≤ 8 ∧ 2 ≤ σ 45 i) ∧ (0 ≤ σ 46 i ∧ σ 46 i < σ 7 17) ∧ σ 50 i = 0
theorem jit.stp {σ0 σ : JM} (h : jit σ0 σ) (k x : Int) : jit σ0 (jstp σ k x) := h
theorem jit.w1 {σ0 σ : JM} (h : jit σ0 σ) : jit σ0 (jw1 σ) := h
theorem jit.nsc {σ0 σ : JM} (h : jit σ0 σ) (h0 : 0 ≤ σ 7 17) {o : Int} (ho : -1 ≤ o ∧ o < σ 7 17) : jit σ0 (jnsc σ o) := by
  refine ⟨fun s s0 s1 => ?_, fun i i0 i1 => ?_⟩
  · have e : jnsc σ o 7 17 = σ 7 17 + 1 := rfl
    rw [e] at s1
    have e2 : jnsc σ o 42 s = (jset σ 42 (σ 7 17) o) 42 s := rfl
    rw [e2]
    by_cases c : s = σ 7 17
    · rw [c, jset_eq]; exact ho
    · rw [jset_nj σ c]; exact h.1 s s0 (by omega)
  · have z := h.2 i i0 i1
    have e : jnsc σ o 7 17 = σ 7 17 + 1 := rfl
    rw [e]
    refine ⟨z.1, z.2.1, z.2.2.1, z.2.2.2.1, z.2.2.2.2.1, ⟨z.2.2.2.2.2.1.1, ?_⟩, z.2.2.2.2.2.2⟩
    have := z.2.2.2.2.2.1.2
    show σ 46 i < σ 7 17 + 1
    omega
theorem jit.mk {σ0 σ : JM} (h : jit σ0 σ) (h0 : 0 ≤ σ 7 16) {x v s d : Int} (hx : 0 ≤ x ∧ x < σ0 7 1) (h34 : σ 34 x = σ0 34 x) (h6 : σ 34 x < 6) (hv : 0 ≤ v ∧ v ≤ 999) (h5 : σ 34 x = 5 → v ≤ 8 ∧ 2 ≤ v) (hs : 0 ≤ s ∧ s < σ 7 17) : jit σ0 (jmk σ x v s d) := by
  refine ⟨h.1, fun i i0 i1 => ?_⟩
  have e : jmk σ x v s d 7 16 = σ 7 16 + 1 := rfl
  rw [e] at i1
  have e17 : jmk σ x v s d 7 17 = σ 7 17 := rfl
  have e43 : jmk σ x v s d 43 i = jset σ 43 (σ 7 16) x 43 i := rfl
  have e44 : jmk σ x v s d 44 i = jset σ 44 (σ 7 16) (σ 34 x) 44 i := rfl
  have e45 : jmk σ x v s d 45 i = jset σ 45 (σ 7 16) v 45 i := rfl
  have e46 : jmk σ x v s d 46 i = jset σ 46 (σ 7 16) s 46 i := rfl
  have e50 : jmk σ x v s d 50 i = jset σ 50 (σ 7 16) 0 50 i := rfl
  rw [e17, e43, e44, e45, e46, e50]
  by_cases c : i = σ 7 16
  · rw [c, jset_eq, jset_eq, jset_eq, jset_eq, jset_eq]
    exact ⟨hx, h34, h6, hv, h5, hs, rfl⟩
  · rw [jset_nj σ c, jset_nj σ c, jset_nj σ c, jset_nj σ c, jset_nj σ c]
    exact h.2 i i0 (by omega)
theorem jrga_s {v a b c m : Int} (ha : 0 ≤ a ∧ a < m) (hb : 0 ≤ b ∧ b < m) (hc : 0 ≤ c ∧ c < m) : 0 ≤ jrga v a b c ∧ jrga v a b c < m := by
  unfold jrga; (repeat' split) <;> omega
theorem jwr_j {σ0 : JM} {f : JM → Int × JM} (m : Int) (hf : ∀ ρ, jkp σ0 ρ → jwi ρ → ρ 7 17 ≤ 9 * ρ 7 18 → jwo σ0 (jset ρ 7 17 (ρ 7 17 + 1)) (f ρ) ∨ jwo σ0 ρ (f ρ)) (hj : ∀ ρ, jkp σ0 ρ → jwi ρ → ρ 7 17 ≤ 9 * ρ 7 18 → m ≤ ρ 7 17 → jit σ0 ρ → jit σ0 (f ρ).2) : ∀ (r : Nat) (σ : JM), jkp σ0 σ → jwi σ → σ 7 17 + r ≤ 9 * σ 7 18 + 1 → m ≤ σ 7 17 → jit σ0 σ → jit σ0 (jwr f r σ).2 := by
  intro r
  induction r with
  | zero => intro σ k i b hm h; exact h
  | succ r ih =>
    intro σ k i b hm h
    rw [jwr_s]
    have g : jkp σ0 (f σ).2 ∧ jwi (f σ).2 ∧ (f σ).2 7 17 - 9 * (f σ).2 7 18 ≤ σ 7 17 + 1 - 9 * σ 7 18 ∧ σ 7 17 ≤ (f σ).2 7 17 := by
      rcases hf σ k i (by omega) with ⟨g1, g2, g3, g4, g5, g6, g7⟩ | ⟨g1, g2, g3, g4, g5, g6, g7⟩
      · have e1 : jset σ 7 17 (σ 7 17 + 1) 7 17 = σ 7 17 + 1 := rfl
        have e2 : jset σ 7 17 (σ 7 17 + 1) 7 18 = σ 7 18 := rfl
        rw [e1, e2] at g3; rw [e1] at g6
        exact ⟨g1, g2, by omega, by omega⟩
      · exact ⟨g1, g2, by omega, by omega⟩
    have j := hj σ k i (by omega) hm h
    split
    · exact j
    · exact ih _ g.1 g.2.1 (by omega) (by omega) j
theorem jwB_o {σ0 : JM} (hw : jwf σ0) {n : Nat} {σ : JM} {x sc p ps q qs d : Int} (k38 : σ 38 x = σ0 38 x) (c : jwc σ0 (x + 1) (σ0 38 x) p q d) (g : jW σ0 (x + 1) (σ0 38 x)) : ∀ ρ, jkp σ0 ρ → jwi ρ → ρ 7 17 ≤ 9 * ρ 7 18 → jwo σ0 (jset ρ 7 17 (ρ 7 17 + 1)) (jwB n σ x sc p ps q qs d ρ) ∨ jwo σ0 ρ (jwB n σ x sc p ps q qs d ρ) := by
  intro ρ kρ iρ bρ
  unfold jwB
  rw [k38]
  split
  · exact Or.inr (jwk_o hw _ _ _ _ _ _ _ _ _ _ kρ iρ c g)
  · obtain ⟨j5, j6, j7⟩ := iρ
    have m := jnsc_7 ρ sc
    refine Or.inl (jwo.tr (τ := jnsc ρ sc) (Int.le_refl _) (Int.le_refl _) (Int.le_refl _) (Int.le_refl _) (jwk_o hw _ _ _ _ _ _ _ _ _ _ (kρ.nsc _) ⟨by omega, by omega, by omega⟩ c g))
theorem jwk_j {σ0 : JM} (hw : jwf σ0) : ∀ (n : Nat) (σ : JM) (x to sc p ps q qs d : Int), jkp σ0 σ → jwi σ → jwc σ0 x to p q d → jW σ0 x to → (0 ≤ sc ∧ sc < σ 7 17) → (0 ≤ ps ∧ ps < σ 7 17) → (0 ≤ qs ∧ qs < σ 7 17) → jit σ0 σ → jit σ0 (jwk n σ x to sc p ps q qs d).2 := by
  intro n
  induction n with
  | zero => intro σ x to sc p ps q qs d k i c w s1 s2 s3 hj; exact hj
  | succ n ih =>
    intro σ x to sc p ps q qs d k i c w s1 s2 s3 hj
    by_cases h : to ≤ x
    · rw [jwk_0 h]; exact hj
    have h : x < to := by omega
    have k34 : σ 34 x = σ0 34 x := k 34 x (by omega) (by omega) (by omega)
    have k35 : σ 35 x = σ0 35 x := k 35 x (by omega) (by omega) (by omega)
    have k36 : σ 36 x = σ0 36 x := k 36 x (by omega) (by omega) (by omega)
    have k37 : σ 37 x = σ0 37 x := k 37 x (by omega) (by omega) (by omega)
    have k38 : σ 38 x = σ0 38 x := k 38 x (by omega) (by omega) (by omega)
    have o1 := hw.one x c.1 (by omega)
    have o2 := hw.two x c.1 (by omega)
    have so := hw.so x c.1 (by omega)
    have ncl := w.ncl h
    have ab := jrga_b ⟨o1.1, o1.2.1⟩ c.2.2.2.1 c.2.2.2.2.1
    have bb := jrga_b o2 c.2.2.2.1 c.2.2.2.2.1
    by_cases h1 : σ 34 x = 11
    · rw [jwk_m h h1]
      have g := jW.inn hw c.1 c.2.2.1 w (Int.le_refl _) h (by omega)
      rw [k38]
      exact ih _ _ _ _ _ _ _ _ _ k i (by omega) (jW.nxt hw c.1 c.2.2.1 w h (by omega)) s1 s2 s3 hj
    by_cases h2 : jwFa σ x p q
    · rw [jwk_a h h1 h2]; exact hj
    by_cases h3 : jwFd σ x sc p ps q qs
    · rw [jwk_d h h1 h2 h3]; exact hj
    by_cases h4 : jwFf σ x
    · rw [jwk_f h h1 h2 h3 h4]; exact hj
    have i3 : σ 7 18 < 1000 := by
      have := i.2.2
      by_cases e : σ 7 18 = 1000
      · exact absurd (Or.inl e) h4
      · omega
    have as := jrga_s (v := σ 35 x) s2 s3 s1
    have bs := jrga_s (v := σ 36 x) s2 s3 s1
    have ia := i
    obtain ⟨i5, i6, i7⟩ := i
    by_cases h5 : σ 34 x < 6
    · rw [jwk_i h h2 h3 h4 h5]
      have i4 : σ 7 16 < 200 := by
        by_cases e : σ 7 16 = 200
        · exact absurd (Or.inr ⟨h5, e⟩) h4
        · omega
      have m := jmk_7 (jw1 σ) x (jwa σ x p q) (jrga (σ 35 x) ps qs sc) d
      rw [(jw1_7 σ).1, (jw1_7 σ).2.1, (jw1_7 σ).2.2] at m
      have hj2 : jit σ0 (jmk (jw1 σ) x (jwa σ x p q) (jrga (σ 35 x) ps qs sc) d) := by
        refine jit.mk (σ := jw1 σ) hj (show 0 ≤ σ 7 16 by omega) ⟨c.1, by omega⟩ k34 h5 ?_ (fun e => ?_) as
        · show 0 ≤ jwa σ x p q ∧ jwa σ x p q ≤ 999
          unfold jwa; rw [k35]; exact ab
        · have e : σ0 34 x = 5 := k34.symm.trans e
          have := hw.al5 x c.1 (by omega) e
          unfold jwa jrga
          rw [k35, if_neg (by omega), if_neg (by omega)]
          omega
      exact ih _ _ _ _ _ _ _ _ _ (k.w1.mk _ _ _ _) ⟨by omega, by omega, by omega⟩ (by omega) (w.suc (by omega)) (by omega) (by omega) (by omega) hj2
    by_cases h6 : σ 34 x = 6
    · rw [jwk_c h h2 h4 h6]
      have ca := hw.ca x c.1 (by omega) (by omega)
      have mm := hw.mm (σ0 37 x) ca.1 ca.2.1
      have m := jnsc_7 (jw1 σ) 0
      rw [(jw1_7 σ).1, (jw1_7 σ).2.1, (jw1_7 σ).2.2] at m
      have f40 : σ 40 (σ 37 x) = σ0 40 (σ0 37 x) := by rw [k 40 _ (by omega) (by omega) (by omega), k37]
      have f41 : σ 41 (σ 37 x) = σ0 41 (σ0 37 x) := by rw [k 41 _ (by omega) (by omega) (by omega), k37]
      have cI : jwi (jnsc (jw1 σ) 0) := ⟨by omega, by omega, by omega⟩
      have cW : jW σ0 (σ 40 (σ 37 x) + 1) (σ 41 (σ 37 x)) := by rw [f40, f41]; exact jW.mac hw ca.1 ca.2.1
      have cC : jwc σ0 (σ 40 (σ 37 x) + 1) (σ 41 (σ 37 x)) (jwa σ x p q) (jwb σ x p q) (d + 1) := ⟨by omega, by omega, by omega, by unfold jwa; rw [k35]; exact ab, by unfold jwb; rw [k36]; exact bb, by omega, by omega⟩
      have g : jwo σ0 σ (jwC n σ x sc p ps q qs d) := jwo.tr (τ := jnsc (jw1 σ) 0) (by omega) (by omega) (by omega) (by omega) (jwk_o hw _ _ _ _ _ _ _ _ _ _ (k.w1.nsc _) cI cC cW)
      have jj : jit σ0 (jwC n σ x sc p ps q qs d).2 := ih _ _ _ _ _ _ _ _ _ (k.w1.nsc _) cI cC cW (by omega) (by omega) (by omega) (jit.nsc (σ := jw1 σ) hj (show 0 ≤ σ 7 17 by omega) (show -1 ≤ (0 : Int) ∧ 0 < σ 7 17 by omega))
      generalize jwC n σ x sc p ps q qs d = r at g jj
      have g6 := g.2.2.2.2.2.1
      split
      · exact jj
      · exact ih _ _ _ _ _ _ _ _ _ g.1 g.2.1 (by omega) (w.suc (by omega)) (by omega) (by omega) (by omega) jj
    · have h7 : 7 ≤ σ 34 x := by omega
      rw [jwk_g h h1 h2 h4 h7]
      have op : jop (σ0 34 x) := by omega
      have g := jW.inn hw c.1 c.2.2.1 w (Int.le_refl _) h op
      have r9 := jrnd9 hw (p := p) (q := q) ⟨c.1, by omega⟩ c.2.2.2.1 c.2.2.2.2.1 (by unfold jwFa jwa; rw [← k35, ← k34]; exact h2)
      have eb : jrds (σ 34 x) (jwa σ x p q) (jwb σ x p q) = jrds (σ0 34 x) (jwa σ0 x p q) (jwb σ0 x p q) := by unfold jwa jwb; rw [k34, k35, k36]
      rw [← eb] at r9
      have m := jw1_7 σ
      have bo := jwB_o hw (n := n) (sc := sc) (ps := ps) (qs := qs) (p := p) (q := q) (d := d) k38 (by omega) g.1
      have z := jwr_o bo (jrds (σ 34 x) (jwa σ x p q) (jwb σ x p q)).toNat (jw1 σ) k.w1 ⟨by omega, by omega, by omega⟩ (by omega)
      have jj := jwr_j (σ 7 17) bo (fun ρ kρ iρ bρ mρ hρ => by
        unfold jwB
        rw [k38]
        split
        · exact ih _ _ _ _ _ _ _ _ _ kρ iρ (by omega) g.1 (by omega) (by omega) (by omega) hρ
        · obtain ⟨j5, j6, j7⟩ := iρ
          have m := jnsc_7 ρ sc
          exact ih _ _ _ _ _ _ _ _ _ (kρ.nsc _) ⟨by omega, by omega, by omega⟩ (by omega) g.1 (by omega) (by omega) (by omega) (hρ.nsc (by omega) (by omega))) (jrds (σ 34 x) (jwa σ x p q) (jwb σ x p q)).toNat (jw1 σ) k.w1 ⟨by omega, by omega, by omega⟩ (by omega) (by omega) hj
      have g' : jwo σ0 σ (jwG n σ x sc p ps q qs d) := ⟨z.1, z.2.1, by unfold jwG; omega, z.2.2.2.1, by unfold jwG; omega, by unfold jwG; omega, by unfold jwG; omega⟩
      have jj : jit σ0 (jwG n σ x sc p ps q qs d).2 := jj
      generalize jwG n σ x sc p ps q qs d = r at g' jj
      have g6 := g'.2.2.2.2.2.1
      split
      · exact jj
      · rw [k38]
        exact ih _ _ _ _ _ _ _ _ _ g'.1 g'.2.1 (by omega) (jW.nxt hw c.1 c.2.2.1 w h op) (by omega) (by omega) (by omega) jj

