/-- the count of the items from a line to another, each part no more than 10^6; whether a loop has too many rounds -/
def jM6 (x : Int) : Int := if x > 1000000 then 1000000 else x
theorem jM6_b {x : Int} (h : 0 ≤ x) : 0 ≤ jM6 x ∧ jM6 x ≤ 1000000 := by unfold jM6; split <;> omega
def jcn : Nat → JM → Int → Int → Int → Int → Int × Prop
  | 0, _, _, _, _, _ => (0, False)
  | n + 1, σ, x, to, p, q =>
    if to ≤ x then (0, False) else
    if σ 34 x = 11 then jcn n σ (σ 38 x + 1) to p q else
    if σ 34 x < 6 then (1 + (jcn n σ (x + 1) to p q).1, (jcn n σ (x + 1) to p q).2) else
    if σ 34 x = 6 then
      (jM6 (jcn n σ (σ 40 (σ 37 x) + 1) (σ 41 (σ 37 x)) (jwa σ x p q) (jwb σ x p q)).1 + (jcn n σ (x + 1) to p q).1, (jcn n σ (σ 40 (σ 37 x) + 1) (σ 41 (σ 37 x)) (jwa σ x p q) (jwb σ x p q)).2 ∨ (jcn n σ (x + 1) to p q).2)
    else if 0 < jrds (σ 34 x) (jwa σ x p q) (jwb σ x p q) then
      (jrds (σ 34 x) (jwa σ x p q) (jwb σ x p q) * jM6 (jcn n σ (x + 1) (σ 38 x) p q).1 + (jcn n σ (σ 38 x + 1) to p q).1, (σ 34 x = 8 ∧ 9 < jwa σ x p q) ∨ (jcn n σ (x + 1) (σ 38 x) p q).2 ∨ (jcn n σ (σ 38 x + 1) to p q).2)
    else jcn n σ (σ 38 x + 1) to p q
abbrev jrd (σ : JM) (x p q : Int) : Int := jrds (σ 34 x) (jwa σ x p q) (jwb σ x p q)
theorem jcn_0 {n : Nat} {σ : JM} {x to p q : Int} (h : to ≤ x) : jcn (n + 1) σ x to p q = (0, False) := if_pos h
theorem jcn_m {n : Nat} {σ : JM} {x to p q : Int} (h : x < to) (h1 : σ 34 x = 11) : jcn (n + 1) σ x to p q = jcn n σ (σ 38 x + 1) to p q := (if_neg (by omega)).trans (if_pos h1)
theorem jcn_i {n : Nat} {σ : JM} {x to p q : Int} (h : x < to) (h1 : σ 34 x < 6) : jcn (n + 1) σ x to p q = (1 + (jcn n σ (x + 1) to p q).1, (jcn n σ (x + 1) to p q).2) := ((if_neg (by omega)).trans (if_neg (by omega))).trans (if_pos h1)
abbrev jcC (n : Nat) (σ : JM) (x p q : Int) : Int × Prop := jcn n σ (σ 40 (σ 37 x) + 1) (σ 41 (σ 37 x)) (jwa σ x p q) (jwb σ x p q)
theorem jcn_c {n : Nat} {σ : JM} {x to p q : Int} (h : x < to) (h1 : σ 34 x = 6) : jcn (n + 1) σ x to p q = (jM6 (jcC n σ x p q).1 + (jcn n σ (x + 1) to p q).1, (jcC n σ x p q).2 ∨ (jcn n σ (x + 1) to p q).2) := (((if_neg (by omega)).trans (if_neg (by omega))).trans (if_neg (by omega))).trans (if_pos h1)
theorem jcn_g {n : Nat} {σ : JM} {x to p q : Int} (h : x < to) (h1 : σ 34 x ≠ 11) (h7 : 7 ≤ σ 34 x) (hr : 0 < jrd σ x p q) : jcn (n + 1) σ x to p q = (jrd σ x p q * jM6 (jcn n σ (x + 1) (σ 38 x) p q).1 + (jcn n σ (σ 38 x + 1) to p q).1, (σ 34 x = 8 ∧ 9 < jwa σ x p q) ∨ (jcn n σ (x + 1) (σ 38 x) p q).2 ∨ (jcn n σ (σ 38 x + 1) to p q).2) := ((((if_neg (by omega)).trans (if_neg h1)).trans (if_neg (by omega))).trans (if_neg (by omega))).trans (if_pos hr)
theorem jcn_z {n : Nat} {σ : JM} {x to p q : Int} (h : x < to) (h1 : σ 34 x ≠ 11) (h7 : 7 ≤ σ 34 x) (hr : ¬ 0 < jrd σ x p q) : jcn (n + 1) σ x to p q = jcn n σ (σ 38 x + 1) to p q := ((((if_neg (by omega)).trans (if_neg h1)).trans (if_neg (by omega))).trans (if_neg (by omega))).trans (if_neg hr)
theorem jcn_f {σ : JM} (hw : jwf σ) : ∀ (n : Nat) (x to p q : Int), jwc σ x to p q 0 → jW σ x to → to * 81 + (to - x) < n → ∀ m : Nat, n ≤ m → jcn m σ x to p q = jcn n σ x to p q := by
  intro n
  induction n with
  | zero => intro x to p q c w hn; omega
  | succ n ih =>
    intro x to p q c w hn m hm
    obtain ⟨m, rfl⟩ : ∃ k, m = k + 1 := ⟨m - 1, by omega⟩
    by_cases h : to ≤ x
    · rw [jcn_0 h, jcn_0 h]
    have h : x < to := by omega
    have o1 := hw.one x c.1 (by omega)
    have o2 := hw.two x c.1 (by omega)
    have so := hw.so x c.1 (by omega)
    have ln := hw.ln
    have ncl := w.ncl h
    have ab := jrga_b ⟨o1.1, o1.2.1⟩ c.2.2.2.1 c.2.2.2.2.1
    have bb := jrga_b o2 c.2.2.2.1 c.2.2.2.2.1
    by_cases h1 : σ 34 x = 11
    · have g := jW.inn hw c.1 c.2.2.1 w (Int.le_refl _) h (by omega)
      rw [jcn_m h h1, jcn_m h h1]
      exact ih _ _ _ _ (by omega) (jW.nxt hw c.1 c.2.2.1 w h (by omega)) (by omega) m (by omega)
    by_cases h5 : σ 34 x < 6
    · rw [jcn_i h h5, jcn_i h h5, ih _ _ _ _ (by omega) (w.suc (by omega)) (by omega) m (by omega)]
    by_cases h6 : σ 34 x = 6
    · have ca := hw.ca x c.1 (by omega) h6
      have mm := hw.mm (σ 37 x) ca.1 ca.2.1
      have e1 := ih (σ 40 (σ 37 x) + 1) (σ 41 (σ 37 x)) (jwa σ x p q) (jwb σ x p q) ⟨by omega, by omega, by omega, ab, bb, by omega, by omega⟩ (jW.mac hw ca.1 ca.2.1) (by omega) m (by omega)
      have e2 := ih (x + 1) to p q (by omega) (w.suc (by omega)) (by omega) m (by omega)
      rw [jcn_c h h6, jcn_c h h6]
      unfold jcC
      rw [e1, e2]
    · have op : jop (σ 34 x) := by omega
      have g := jW.inn hw c.1 c.2.2.1 w (Int.le_refl _) h op
      have e2 := ih (σ 38 x + 1) to p q (by omega) (jW.nxt hw c.1 c.2.2.1 w h op) (by omega) m (by omega)
      by_cases hr : 0 < jrd σ x p q
      · have e1 := ih (x + 1) (σ 38 x) p q (by omega) g.1 (by omega) m (by omega)
        rw [jcn_g h h1 (by omega) hr, jcn_g h h1 (by omega) hr, e1, e2]
      · rw [jcn_z h h1 (by omega) hr, jcn_z h h1 (by omega) hr, e2]
theorem jrd_b {σ : JM} (hw : jwf σ) {x p q : Int} (hx : 0 ≤ x ∧ x < σ 7 1) (hp : 0 ≤ p ∧ p ≤ 999) (hq : 0 ≤ q ∧ q ≤ 999) : 0 ≤ jrd σ x p q ∧ jrd σ x p q ≤ 999 := by
  have o := hw.one x hx.1 hx.2
  have a := jrga_b ⟨o.1, o.2.1⟩ hp hq
  unfold jrd jrds
  (repeat' split) <;> omega
theorem jmul_b {a b : Int} (ha : 0 ≤ a ∧ a ≤ 999) (hb : 0 ≤ b ∧ b ≤ 1000000) : 0 ≤ a * b ∧ a * b ≤ 999000000 := by
  have h1 := Int.mul_nonneg ha.1 hb.1
  have h2 := Int.mul_le_mul ha.2 hb.2 hb.1 (by omega)
  omega
theorem jcn_b {σ : JM} (hw : jwf σ) : ∀ (n : Nat) (x to p q : Int), jwc σ x to p q 0 → jW σ x to → 0 ≤ (jcn n σ x to p q).1 ∧ (jcn n σ x to p q).1 ≤ 999000000 * (to - x) := by
  intro n
  induction n with
  | zero => intro x to p q c w; exact ⟨Int.le_refl _, by show (0 : Int) ≤ _; omega⟩
  | succ n ih =>
    intro x to p q c w
    by_cases h : to ≤ x
    · rw [jcn_0 h]; exact ⟨Int.le_refl _, by show (0 : Int) ≤ _; omega⟩
    have h : x < to := by omega
    have o1 := hw.one x c.1 (by omega)
    have o2 := hw.two x c.1 (by omega)
    have so := hw.so x c.1 (by omega)
    have ln := hw.ln
    have ncl := w.ncl h
    have ab := jrga_b ⟨o1.1, o1.2.1⟩ c.2.2.2.1 c.2.2.2.2.1
    have bb := jrga_b o2 c.2.2.2.1 c.2.2.2.2.1
    by_cases h1 : σ 34 x = 11
    · have g := jW.inn hw c.1 c.2.2.1 w (Int.le_refl _) h (by omega)
      have := ih (σ 38 x + 1) to p q (by omega) (jW.nxt hw c.1 c.2.2.1 w h (by omega))
      rw [jcn_m h h1]
      omega
    by_cases h5 : σ 34 x < 6
    · have := ih (x + 1) to p q (by omega) (w.suc (by omega))
      rw [jcn_i h h5]
      show 0 ≤ 1 + _ ∧ 1 + _ ≤ _
      omega
    by_cases h6 : σ 34 x = 6
    · have ca := hw.ca x c.1 (by omega) h6
      have mm := hw.mm (σ 37 x) ca.1 ca.2.1
      have e1 := ih (σ 40 (σ 37 x) + 1) (σ 41 (σ 37 x)) (jwa σ x p q) (jwb σ x p q) ⟨by omega, by omega, by omega, ab, bb, by omega, by omega⟩ (jW.mac hw ca.1 ca.2.1)
      have e2 := ih (x + 1) to p q (by omega) (w.suc (by omega))
      have e3 : 0 ≤ jM6 (jcC n σ x p q).1 ∧ jM6 (jcC n σ x p q).1 ≤ 1000000 := jM6_b e1.1
      rw [jcn_c h h6]
      show 0 ≤ jM6 _ + _ ∧ jM6 _ + _ ≤ _
      omega
    · have op : jop (σ 34 x) := by omega
      have g := jW.inn hw c.1 c.2.2.1 w (Int.le_refl _) h op
      have e2 := ih (σ 38 x + 1) to p q (by omega) (jW.nxt hw c.1 c.2.2.1 w h op)
      by_cases hr : 0 < jrd σ x p q
      · have e1 := ih (x + 1) (σ 38 x) p q (by omega) g.1
        have e4 := jmul_b (jrd_b hw (p := p) (q := q) ⟨c.1, by omega⟩ c.2.2.2.1 c.2.2.2.2.1) (jM6_b e1.1)
        rw [jcn_g h h1 (by omega) hr]
        show 0 ≤ jrd σ x p q * jM6 _ + _ ∧ jrd σ x p q * jM6 _ + _ ≤ _
        omega
      · rw [jcn_z h h1 (by omega) hr]; omega
/-- a macro's count -/
def jcm (σ : JM) (m a b : Int) : Int × Prop := jcn 7000 σ (σ 40 m + 1) (σ 41 m) a b
/-- what the counting changes; the kept counts are right -/
def jckp (σ0 σ : JM) : Prop := ∀ a b, a ≠ 53 → a ≠ 54 → ¬ (a = 7 ∧ b = 34) → σ a b = σ0 a b
def jkey (m a b : Int) : Int := 1 + b + 1000 * (a + 1000 * m)
def jmem (σ0 σ : JM) : Prop := (σ 7 34 = 0 ∨ σ 7 34 = 1) ∧ ∀ i, 0 ≤ i → i < 4096 → σ 53 i ≠ 0 → ∃ m a b, (0 ≤ m ∧ m < σ0 7 2) ∧ (0 ≤ a ∧ a ≤ 999) ∧ (0 ≤ b ∧ b ≤ 999) ∧ σ 53 i = jkey m a b ∧ σ 54 i = jM6 (jcm σ0 m a b).1 ∧ ((jcm σ0 m a b).2 → σ 7 34 = 1)
theorem jkey_inj {m a b m' a' b' : Int} (ha : 0 ≤ a ∧ a ≤ 999) (hb : 0 ≤ b ∧ b ≤ 999) (ha' : 0 ≤ a' ∧ a' ≤ 999) (hb' : 0 ≤ b' ∧ b' ≤ 999) (h : jkey m a b = jkey m' a' b') : m = m' ∧ a = a' ∧ b = b' := by unfold jkey at h; omega

