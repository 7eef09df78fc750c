/-- the exact count -/
def jce : Nat → JM → Int → Int → Int → Int → Int
  | 0, _, _, _, _, _ => 0
  | n + 1, σ, x, to, p, q =>
    if to ≤ x then 0 else
    if σ 34 x = 11 then jce n σ (σ 38 x + 1) to p q else
    if σ 34 x < 6 then 1 + jce n σ (x + 1) to p q else
    if σ 34 x = 6 then jce n σ (σ 40 (σ 37 x) + 1) (σ 41 (σ 37 x)) (jwa σ x p q) (jwb σ x p q) + jce n σ (x + 1) to p q
    else if 0 < jrds (σ 34 x) (jwa σ x p q) (jwb σ x p q) then jrds (σ 34 x) (jwa σ x p q) (jwb σ x p q) * jce n σ (x + 1) (σ 38 x) p q + jce n σ (σ 38 x + 1) to p q
    else jce n σ (σ 38 x + 1) to p q
theorem jM6_min (x : Int) : jM6 x = min x 1000000 := by unfold jM6; split <;> omega
theorem jce_nn (σ : JM) : ∀ (n : Nat) (x to p q : Int), 0 ≤ jce n σ x to p q := by
  intro n
  induction n with
  | zero => intro x to p q; exact Int.le_refl _
  | succ n ih =>
    intro x to p q
    unfold jce
    split
    · exact Int.le_refl _
    split
    · exact ih _ _ _ _
    split
    · have := ih (x + 1) to p q; omega
    split
    · have := ih (x + 1) to p q; have := ih (σ 40 (σ 37 x) + 1) (σ 41 (σ 37 x)) (jwa σ x p q) (jwb σ x p q); omega
    split
    · rename_i h
      have := ih (σ 38 x + 1) to p q
      have := Int.mul_nonneg (Int.le_of_lt h) (ih (x + 1) (σ 38 x) p q)
      omega
    · exact ih _ _ _ _
/-- a limit within does no harm -/
theorem lim_add {a a' b b' : Int} (ha : min a 1000000 = min a' 1000000) (hb : min b 1000000 = min b' 1000000) (h0 : 0 ≤ a) (h1 : 0 ≤ b) (h2 : 0 ≤ a') (h3 : 0 ≤ b') : min (a + b) 1000000 = min (a' + b') 1000000 := by omega
theorem lim_mul {r a a' : Int} (hr : 0 < r) (ha : min a 1000000 = min a' 1000000) (h0 : 0 ≤ a) (h2 : 0 ≤ a') : min (r * a) 1000000 = min (r * a') 1000000 := by
  by_cases c : a < 1000000
  · rw [show a = a' by omega]
  · have k : ∀ z, 1000000 ≤ z → min (r * z) 1000000 = 1000000 := fun z hz => by
      have : 1 * z ≤ r * z := Int.mul_le_mul_of_nonneg_right (by omega) (by omega)
      omega
    rw [k a (by omega), k a' (by omega)]
theorem lim_m6 (a : Int) : min (jM6 a) 1000000 = min a 1000000 := by rw [jM6_min]; omega
theorem jcn_e6 {σ : JM} (hw : jwf σ) : ∀ (n : Nat) (x to p q : Int), jwc σ x to p q 0 → jW σ x to → min (jcn n σ x to p q).1 1000000 = min (jce n σ x to p q) 1000000 := by
  intro n
  induction n with
  | zero => intro x to p q c w; rfl
  | succ n ih =>
    intro x to p q c w
    by_cases h : to ≤ x
    · rw [jcn_0 h]; unfold jce; rw [if_pos h]
    have h : x < to := by omega
    have o1 := hw.one x c.1 (by omega)
    have o2 := hw.two x c.1 (by omega)
    have so := hw.so x c.1 (by omega)
    have ln := hw.ln
    have ncl := w.ncl h
    have ab := jrga_b ⟨o1.1, o1.2.1⟩ c.2.2.2.1 c.2.2.2.2.1
    have bb := jrga_b o2 c.2.2.2.1 c.2.2.2.2.1
    have nn := fun x to p q => jce_nn σ n x to p q
    unfold jce
    rw [if_neg (show ¬ to ≤ x by omega)]
    by_cases h1 : σ 34 x = 11
    · have g := jW.inn hw c.1 c.2.2.1 w (Int.le_refl _) h (by omega)
      rw [jcn_m h h1, if_pos h1]
      exact ih _ _ _ _ (by omega) (jW.nxt hw c.1 c.2.2.1 w h (by omega))
    rw [if_neg h1]
    by_cases h5 : σ 34 x < 6
    · have e := ih (x + 1) to p q (by omega) (w.suc (by omega))
      have b := (jcn_b hw n (x + 1) to p q (by omega) (w.suc (by omega))).1
      rw [jcn_i h h5, if_pos h5]
      exact lim_add rfl e (by omega) b (by omega) (nn _ _ _ _)
    rw [if_neg h5]
    by_cases h6 : σ 34 x = 6
    · have ca := hw.ca x c.1 (by omega) h6
      have mm := hw.mm (σ 37 x) ca.1 ca.2.1
      have cm : jwc σ (σ 40 (σ 37 x) + 1) (σ 41 (σ 37 x)) (jwa σ x p q) (jwb σ x p q) 0 := ⟨by omega, by omega, by omega, ab, bb, by omega, by omega⟩
      have e1 := ih _ _ _ _ cm (jW.mac hw ca.1 ca.2.1)
      have b1 := (jcn_b hw n _ _ _ _ cm (jW.mac hw ca.1 ca.2.1)).1
      have e2 := ih (x + 1) to p q (by omega) (w.suc (by omega))
      have b2 := (jcn_b hw n (x + 1) to p q (by omega) (w.suc (by omega))).1
      rw [jcn_c h h6, if_pos h6]
      exact lim_add ((lim_m6 _).trans e1) e2 (jM6_b b1).1 b2 (nn _ _ _ _) (nn _ _ _ _)
    · have op : jop (σ 34 x) := by omega
      have g := jW.inn hw c.1 c.2.2.1 w (Int.le_refl _) h op
      have gn := jW.nxt hw c.1 c.2.2.1 w h op
      have e2 := ih (σ 38 x + 1) to p q (by omega) gn
      have b2 := (jcn_b hw n (σ 38 x + 1) to p q (by omega) gn).1
      rw [if_neg h6]
      by_cases hr : 0 < jrd σ x p q
      · have e1 := ih (x + 1) (σ 38 x) p q (by omega) g.1
        have b1 := (jcn_b hw n (x + 1) (σ 38 x) p q (by omega) g.1).1
        rw [jcn_g h h1 (by omega) hr, if_pos hr]
        exact lim_add (lim_mul hr ((lim_m6 _).trans e1) (jM6_b b1).1 (nn _ _ _ _)) e2 (Int.mul_nonneg (Int.le_of_lt hr) (jM6_b b1).1) b2 (Int.mul_nonneg (Int.le_of_lt hr) (nn _ _ _ _)) (nn _ _ _ _)
      · rw [jcn_z h h1 (by omega) hr, if_neg hr]
        exact e2

