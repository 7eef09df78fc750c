/-! ===== a walk that ends well makes as many items as are counted, meets no loop of more than 9 rounds, and each item has a depth ===== -/
def jdpt (σ : JM) : Prop := ∀ i, 0 ≤ i → i < σ 7 16 → 0 ≤ σ 47 i
/-- a fault that a walk names, and its line -/
def jfok (σ0 τ : JM) : Prop := (τ 7 14 = 97 ∨ τ 7 14 = 100 ∨ τ 7 14 = 102) ∧ 0 ≤ τ 7 15 ∧ τ 7 15 < σ0 7 1
def jct (σ0 σ : JM) (c : Int) (F : Prop) (r : Int × JM) : Prop := (r.1 ≠ 0 → r.2 7 16 = σ 7 16 + c ∧ ¬ F ∧ jdpt r.2 ∧ r.2 7 14 = σ 7 14) ∧ (r.1 = 0 → σ 7 14 = 110 → r.2 7 14 = 110 ∨ jfok σ0 r.2)
theorem jwr_ct {σ0 : JM} {f : JM → Int × JM} {c : Int} {F : Prop} (hf : ∀ ρ, jkp σ0 ρ → jwi ρ → ρ 7 17 ≤ 9 * ρ 7 18 → jwo σ0 (jset ρ 7 17 (ρ 7 17 + 1)) (f ρ) ∨ jwo σ0 ρ (f ρ)) (hc : ∀ ρ, jkp σ0 ρ → jwi ρ → ρ 7 17 ≤ 9 * ρ 7 18 → jdpt ρ → jct σ0 ρ c F (f ρ)) : ∀ (r : Nat) (σ : JM), jkp σ0 σ → jwi σ → σ 7 17 + r ≤ 9 * σ 7 18 + 1 → jdpt σ → ((jwr f r σ).1 ≠ 0 → (jwr f r σ).2 7 16 = σ 7 16 + r * c ∧ (0 < r → ¬ F) ∧ jdpt (jwr f r σ).2 ∧ (jwr f r σ).2 7 14 = σ 7 14) ∧ ((jwr f r σ).1 = 0 → σ 7 14 = 110 → (jwr f r σ).2 7 14 = 110 ∨ jfok σ0 (jwr f r σ).2) := by
  intro r
  induction r with
  | zero => intro σ k i b hd; exact ⟨fun _ => ⟨by show σ 7 16 = σ 7 16 + ((0 : Nat) : Int) * c; rw [show ((0 : Nat) : Int) = 0 from rfl, Int.zero_mul, Int.add_zero], fun q => absurd q (by decide), hd, rfl⟩, fun q => absurd (show (1 : Int) = 0 from q) (by decide)⟩
  | succ r ih =>
    intro σ k i b hd
    rw [jwr_s]
    have g : jkp σ0 (f σ).2 ∧ jwi (f σ).2 ∧ (f σ).2 7 17 - 9 * (f σ).2 7 18 ≤ σ 7 17 + 1 - 9 * σ 7 18 ∧ σ 7 17 ≤ (f σ).2 7 17 := by
      rcases hf σ k i (by omega) with ⟨g1, g2, g3, g4, g5, g6, g7⟩ | ⟨g1, g2, g3, g4, g5, g6, g7⟩
      · have e1 : jset σ 7 17 (σ 7 17 + 1) 7 17 = σ 7 17 + 1 := rfl
        have e2 : jset σ 7 17 (σ 7 17 + 1) 7 18 = σ 7 18 := rfl
        rw [e1, e2] at g3; rw [e1] at g6
        exact ⟨g1, g2, by omega, by omega⟩
      · exact ⟨g1, g2, by omega, by omega⟩
    have j := hc σ k i (by omega) hd
    split
    · rename_i h0
      exact ⟨fun q => absurd rfl q, fun _ h14 => j.2 h0 h14⟩
    · rename_i h0
      obtain ⟨j1, j2, j3, j4⟩ := j.1 h0
      have I := ih _ g.1 g.2.1 (by omega) j3
      refine ⟨fun q => ?_, fun q h14 => I.2 q (by rw [j4]; exact h14)⟩
      obtain ⟨e1, -, e3, e4⟩ := I.1 q
      refine ⟨?_, fun _ => j2, e3, e4.trans j4⟩
      rw [e1, j1, show ((r + 1 : Nat) : Int) = (r : Int) + 1 by omega, Int.add_mul, Int.one_mul]
      omega
theorem jwk_ct {σ0 : JM} (hw : jwf σ0) : ∀ (n : Nat) (σ : JM) (x to sc p ps q qs d : Int), jkp σ0 σ → jwi σ → jwc σ0 x to p q d → jW σ0 x to → jdpt σ → jct σ0 σ (jce n σ0 x to p q) (jcn n σ0 x to p q).2 (jwk n σ x to sc p ps q qs d) := by
  intro n
  induction n with
  | zero => intro σ x to sc p ps q qs d k i c w hd; exact ⟨fun q => absurd rfl q, fun _ h14 => Or.inl h14⟩
  | succ n ih =>
    intro σ x to sc p ps q qs d k i c w hd
    by_cases h : to ≤ x
    · rw [jwk_0 h, jcn_0 h]
      unfold jce
      rw [if_pos h]
      exact ⟨fun _ => ⟨(Int.add_zero _).symm, fun q => q, hd, rfl⟩, fun q => absurd (show (1 : Int) = 0 from q) (by decide)⟩
    have h : x < to := by omega
    have k34 : σ 34 x = σ0 34 x := k 34 x (by omega) (by omega) (by omega)
    have k35 : σ 35 x = σ0 35 x := k 35 x (by omega) (by omega) (by omega)
    have k36 : σ 36 x = σ0 36 x := k 36 x (by omega) (by omega) (by omega)
    have k37 : σ 37 x = σ0 37 x := k 37 x (by omega) (by omega) (by omega)
    have k38 : σ 38 x = σ0 38 x := k 38 x (by omega) (by omega) (by omega)
    have o1 := hw.one x c.1 (by omega)
    have o2 := hw.two x c.1 (by omega)
    have so := hw.so x c.1 (by omega)
    have ncl := w.ncl h
    have ab := jrga_b ⟨o1.1, o1.2.1⟩ c.2.2.2.1 c.2.2.2.2.1
    have bb := jrga_b o2 c.2.2.2.1 c.2.2.2.2.1
    have ea : jwa σ x p q = jwa σ0 x p q := by unfold jwa; rw [k35]
    have eb : jwb σ x p q = jwb σ0 x p q := by unfold jwb; rw [k36]
    unfold jce
    rw [if_neg (show ¬ to ≤ x by omega)]
    by_cases h1 : σ 34 x = 11
    · rw [jwk_m h h1, k38, jcn_m h (by omega), if_pos (show σ0 34 x = 11 by omega)]
      exact ih _ _ _ _ _ _ _ _ _ k i (by have := jW.inn hw c.1 c.2.2.1 w (Int.le_refl _) h (by omega); omega) (jW.nxt hw c.1 c.2.2.1 w h (by omega)) hd
    rw [if_neg (show ¬ σ0 34 x = 11 by omega)]
    by_cases h2 : jwFa σ x p q
    · rw [jwk_a h h1 h2]; exact ⟨fun q => absurd rfl q, fun _ _ => Or.inr ⟨Or.inl rfl, show 0 ≤ x from c.1, show x < σ0 7 1 by omega⟩⟩
    by_cases h3 : jwFd σ x sc p ps q qs
    · rw [jwk_d h h1 h2 h3]; exact ⟨fun q => absurd rfl q, fun _ _ => Or.inr ⟨Or.inr (Or.inl rfl), show 0 ≤ x from c.1, show x < σ0 7 1 by omega⟩⟩
    by_cases h4 : jwFf σ x
    · rw [jwk_f h h1 h2 h3 h4]; exact ⟨fun q => absurd rfl q, fun _ _ => Or.inr ⟨Or.inr (Or.inr rfl), show 0 ≤ x from c.1, show x < σ0 7 1 by omega⟩⟩
    have i3 : σ 7 18 < 1000 := by
      have := i.2.2
      by_cases e : σ 7 18 = 1000
      · exact absurd (Or.inl e) h4
      · omega
    obtain ⟨i5, i6, i7⟩ := i
    by_cases h5 : σ 34 x < 6
    · rw [jwk_i h h2 h3 h4 h5, jcn_i h (by omega), if_pos (show σ0 34 x < 6 by omega)]
      have i4 : σ 7 16 < 200 := by
        by_cases e : σ 7 16 = 200
        · exact absurd (Or.inr ⟨h5, e⟩) h4
        · omega
      have m := jmk_7 (jw1 σ) x (jwa σ x p q) (jrga (σ 35 x) ps qs sc) d
      rw [(jw1_7 σ).1, (jw1_7 σ).2.1, (jw1_7 σ).2.2] at m
      have hd2 : jdpt (jmk (jw1 σ) x (jwa σ x p q) (jrga (σ 35 x) ps qs sc) d) := fun j j0 j1 => by
        rw [m.1] at j1
        have e : jmk (jw1 σ) x (jwa σ x p q) (jrga (σ 35 x) ps qs sc) d 47 j = if j = σ 7 16 then d else σ 47 j := by
          by_cases e : j = σ 7 16 <;> simp [jmk, jw1, jset, e]
        rw [e]
        split
        · exact c.2.2.2.2.2.1
        · exact hd j j0 (by omega)
      have I := ih (jmk (jw1 σ) x (jwa σ x p q) (jrga (σ 35 x) ps qs sc) d) (x + 1) to sc p ps q qs d (k.w1.mk _ _ _ _) ⟨by omega, by omega, by omega⟩ (by omega) (w.suc (by omega)) hd2
      refine ⟨fun q0 => ?_, fun q0 h14 => I.2 q0 h14⟩
      obtain ⟨e1, e2, e3, e4⟩ := I.1 q0
      exact ⟨by rw [e1, m.1]; omega, e2, e3, e4⟩
    rw [if_neg (show ¬ σ0 34 x < 6 by omega)]
    by_cases h6 : σ 34 x = 6
    · rw [jwk_c h h2 h4 h6, jcn_c h (by omega), if_pos (show σ0 34 x = 6 by omega)]
      have ca := hw.ca x c.1 (by omega) (by omega)
      have mm := hw.mm (σ0 37 x) ca.1 ca.2.1
      have m := jnsc_7 (jw1 σ) 0
      rw [(jw1_7 σ).1, (jw1_7 σ).2.1, (jw1_7 σ).2.2] at m
      have f40 : σ 40 (σ 37 x) = σ0 40 (σ0 37 x) := by rw [k 40 _ (by omega) (by omega) (by omega), k37]
      have f41 : σ 41 (σ 37 x) = σ0 41 (σ0 37 x) := by rw [k 41 _ (by omega) (by omega) (by omega), k37]
      have cI : jwi (jnsc (jw1 σ) 0) := ⟨by omega, by omega, by omega⟩
      have cW : jW σ0 (σ0 40 (σ0 37 x) + 1) (σ0 41 (σ0 37 x)) := jW.mac hw ca.1 ca.2.1
      have cC : jwc σ0 (σ0 40 (σ0 37 x) + 1) (σ0 41 (σ0 37 x)) (jwa σ0 x p q) (jwb σ0 x p q) (d + 1) := ⟨by omega, by omega, by omega, ab, bb, by omega, by omega⟩
      have eC : jwC n σ x sc p ps q qs d = jwk n (jnsc (jw1 σ) 0) (σ0 40 (σ0 37 x) + 1) (σ0 41 (σ0 37 x)) (σ 7 17) (jwa σ0 x p q) (jrga (σ 35 x) ps qs sc) (jwb σ0 x p q) (jrga (σ 36 x) ps qs sc) (d + 1) := by
        unfold jwC; rw [f40, f41, ea, eb]
      have g : jwo σ0 σ (jwC n σ x sc p ps q qs d) := by
        rw [eC]
        exact jwo.tr (τ := jnsc (jw1 σ) 0) (by omega) (by omega) (by omega) (by omega) (jwk_o hw _ _ _ _ _ _ _ _ _ _ (k.w1.nsc _) cI cC cW)
      have jj : jct σ0 (jnsc (jw1 σ) 0) (jce n σ0 (σ0 40 (σ0 37 x) + 1) (σ0 41 (σ0 37 x)) (jwa σ0 x p q) (jwb σ0 x p q)) (jcn n σ0 (σ0 40 (σ0 37 x) + 1) (σ0 41 (σ0 37 x)) (jwa σ0 x p q) (jwb σ0 x p q)).2 (jwC n σ x sc p ps q qs d) := by
        rw [eC]
        exact ih _ _ _ _ _ _ _ _ _ (k.w1.nsc _) cI cC cW hd
      generalize jwC n σ x sc p ps q qs d = r at g jj
      split
      · rename_i r0
        exact ⟨fun q => absurd rfl q, fun _ h14 => jj.2 r0 h14⟩
      · rename_i r0
        obtain ⟨j1, j2, j3, j4⟩ := jj.1 r0
        have j4 : r.2 7 14 = σ 7 14 := j4
        have I := ih r.2 (x + 1) to sc p ps q qs d g.1 g.2.1 (by omega) (w.suc (by omega)) j3
        refine ⟨fun q0 => ?_, fun q0 h14 => I.2 q0 (by rw [j4]; exact h14)⟩
        obtain ⟨e1, e2, e3, e4⟩ := I.1 q0
        exact ⟨by rw [e1, j1, m.1]; omega, fun z => z.elim j2 e2, e3, e4.trans j4⟩
    · have h7 : 7 ≤ σ 34 x := by omega
      rw [jwk_g h h1 h2 h4 h7, if_neg (show ¬ σ0 34 x = 6 by omega)]
      have op : jop (σ0 34 x) := by omega
      have g := jW.inn hw c.1 c.2.2.1 w (Int.le_refl _) h op
      have r9 := jrnd9 hw (p := p) (q := q) ⟨c.1, by omega⟩ c.2.2.2.1 c.2.2.2.2.1 (by unfold jwFa jwa; rw [← k35, ← k34]; exact h2)
      have er : jrds (σ 34 x) (jwa σ x p q) (jwb σ x p q) = jrds (σ0 34 x) (jwa σ0 x p q) (jwb σ0 x p q) := by rw [k34, ea, eb]
      have m := jw1_7 σ
      have bo := jwB_o hw (n := n) (sc := sc) (ps := ps) (qs := qs) (p := p) (q := q) (d := d) k38 (by omega) g.1
      have bc : ∀ ρ, jkp σ0 ρ → jwi ρ → ρ 7 17 ≤ 9 * ρ 7 18 → jdpt ρ → jct σ0 ρ (jce n σ0 (x + 1) (σ0 38 x) p q) (jcn n σ0 (x + 1) (σ0 38 x) p q).2 (jwB n σ x sc p ps q qs d ρ) := fun ρ kρ iρ bρ hρ => by
        unfold jwB
        rw [k38]
        split
        · exact ih _ _ _ _ _ _ _ _ _ kρ iρ (by omega) g.1 hρ
        · obtain ⟨j5, j6, j7⟩ := iρ
          have m := jnsc_7 ρ sc
          have := ih (jnsc ρ sc) (x + 1) (σ0 38 x) (ρ 7 17) p ps q qs d (kρ.nsc _) ⟨by omega, by omega, by omega⟩ (by omega) g.1 (fun j j0 j1 => hρ j j0 (by omega))
          refine ⟨fun q0 => ?_, fun q0 h14 => this.2 q0 h14⟩
          obtain ⟨e1, e2, e3, e4⟩ := this.1 q0
          exact ⟨by rw [e1, m.1], e2, e3, e4⟩
      have z := jwr_o bo (jrds (σ0 34 x) (jwa σ0 x p q) (jwb σ0 x p q)).toNat (jw1 σ) k.w1 ⟨by omega, by omega, by omega⟩ (by omega)
      have zc := jwr_ct bo bc (jrds (σ0 34 x) (jwa σ0 x p q) (jwb σ0 x p q)).toNat (jw1 σ) k.w1 ⟨by omega, by omega, by omega⟩ (by omega) hd
      have eG : jwG n σ x sc p ps q qs d = jwr (jwB n σ x sc p ps q qs d) (jrds (σ0 34 x) (jwa σ0 x p q) (jwb σ0 x p q)).toNat (jw1 σ) := by unfold jwG; rw [er]
      rw [← eG] at z zc
      generalize jwG n σ x sc p ps q qs d = r at z zc
      by_cases r0 : r.1 = 0
      · rw [if_pos r0]
        exact ⟨fun q => absurd rfl q, fun _ h14 => zc.2 r0 h14⟩
      · rw [if_neg r0]
        obtain ⟨j1, j2, j3, j4⟩ := zc.1 r0
        have j4 : r.2 7 14 = σ 7 14 := j4
        rw [k38]
        have I := ih r.2 (σ0 38 x + 1) to sc p ps q qs d z.1 z.2.1 (by omega) (jW.nxt hw c.1 c.2.2.1 w h op) j3
        refine ⟨fun q0 => ?_, fun q0 h14 => I.2 q0 (by rw [j4]; exact h14)⟩
        obtain ⟨e1, e2, e3, e4⟩ := I.1 q0
        have e4 := e4.trans j4
        by_cases hr : 0 < jrd σ0 x p q
        · rw [jcn_g h (by omega) (by omega) hr, if_pos (show 0 < jrds (σ0 34 x) (jwa σ0 x p q) (jwb σ0 x p q) from hr)]
          refine ⟨?_, fun y => ?_, e3, e4⟩
          · rw [e1, j1, m.1, show (((jrds (σ0 34 x) (jwa σ0 x p q) (jwb σ0 x p q)).toNat : Nat) : Int) = jrds (σ0 34 x) (jwa σ0 x p q) (jwb σ0 x p q) from Int.toNat_of_nonneg (by omega)]
            omega
          · rcases y with y | y | y
            · have : ¬ (σ 35 x < 0 ∧ jmost (σ 34 x) < jwa σ x p q) := h2
              rw [k35, k34, ea] at this
              have e9 : jmost (σ0 34 x) = 9 := by rw [y.1]; decide
              rw [e9] at this
              by_cases neg : σ0 35 x < 0
              · exact this ⟨neg, y.2⟩
              · have : jwa σ0 x p q = σ0 35 x := by unfold jwa jrga; rw [if_neg (by omega), if_neg (by omega)]
                have := o1.2.2 y.1
                omega
            · exact j2 (by have : 0 < jrds (σ0 34 x) (jwa σ0 x p q) (jwb σ0 x p q) := hr; omega) y
            · exact e2 y
        · rw [jcn_z h (by omega) (by omega) hr, if_neg (show ¬ 0 < jrds (σ0 34 x) (jwa σ0 x p q) (jwb σ0 x p q) from hr)]
          have : (((jrds (σ0 34 x) (jwa σ0 x p q) (jwb σ0 x p q)).toNat : Nat) : Int) = 0 := by have : ¬ 0 < jrds (σ0 34 x) (jwa σ0 x p q) (jwb σ0 x p q) := hr; omega
          rw [this, Int.zero_mul, Int.add_zero] at j1
          exact ⟨by rw [e1, j1, m.1], e2, e3, e4⟩
