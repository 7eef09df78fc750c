theorem jce_0 {n : Nat} {σ : JM} {x to p q : Int} (h : to ≤ x) : jce (n + 1) σ x to p q = 0 := if_pos h
theorem jce_m {n : Nat} {σ : JM} {x to p q : Int} (h : x < to) (h1 : σ 34 x = 11) : jce (n + 1) σ x to p q = jce n σ (σ 38 x + 1) to p q := (if_neg (by omega)).trans (if_pos h1)
theorem jce_i {n : Nat} {σ : JM} {x to p q : Int} (h : x < to) (h1 : σ 34 x < 6) : jce (n + 1) σ x to p q = 1 + jce n σ (x + 1) to p q := ((if_neg (by omega)).trans (if_neg (by omega))).trans (if_pos h1)
theorem jce_c {n : Nat} {σ : JM} {x to p q : Int} (h : x < to) (h1 : σ 34 x = 6) : jce (n + 1) σ x to p q = jce n σ (σ 40 (σ 37 x) + 1) (σ 41 (σ 37 x)) (jwa σ x p q) (jwb σ x p q) + jce n σ (x + 1) to p q := (((if_neg (by omega)).trans (if_neg (by omega))).trans (if_neg (by omega))).trans (if_pos h1)
theorem jce_g {n : Nat} {σ : JM} {x to p q : Int} (h : x < to) (h1 : σ 34 x ≠ 11) (h7 : 7 ≤ σ 34 x) (hr : 0 < jrd σ x p q) : jce (n + 1) σ x to p q = jrd σ x p q * jce n σ (x + 1) (σ 38 x) p q + jce n σ (σ 38 x + 1) to p q := ((((if_neg (by omega)).trans (if_neg h1)).trans (if_neg (by omega))).trans (if_neg (by omega))).trans (if_pos hr)
theorem jce_z {n : Nat} {σ : JM} {x to p q : Int} (h : x < to) (h1 : σ 34 x ≠ 11) (h7 : 7 ≤ σ 34 x) (hr : ¬ 0 < jrd σ x p q) : jce (n + 1) σ x to p q = jce n σ (σ 38 x + 1) to p q := ((((if_neg (by omega)).trans (if_neg h1)).trans (if_neg (by omega))).trans (if_neg (by omega))).trans (if_neg hr)
theorem lA {c f e1 e2 : Int} (hc : 0 ≤ c) (hf : 0 ≤ f) (h1 : 0 ≤ e1) (h2 : 0 ≤ e2) : min (min (c + f * e1) 1000000 + f * e2) 1000000 = min (c + f * (e1 + e2)) 1000000 := by
  rw [Int.mul_add]
  have a := Int.mul_nonneg hf h1
  have b := Int.mul_nonneg hf h2
  omega
theorem lC {c f e : Int} (hc : 0 ≤ c) (hf : 1 ≤ f) (h1 : 0 ≤ e) : min (c + f * min e 1000000) 1000000 = min (c + f * e) 1000000 := by
  by_cases h : e ≤ 1000000
  · rw [Int.min_eq_left h]
  · rw [show min e 1000000 = 1000000 by omega]
    have a : 1 * 1000000 ≤ f * 1000000 := Int.mul_le_mul_of_nonneg_right hf (by omega)
    have b : 1 * e ≤ f * e := Int.mul_le_mul_of_nonneg_right hf h1
    omega
theorem lG {c f r e : Int} (hc : 0 ≤ c) (hf : 1 ≤ f) (hr : 1 ≤ r) (h1 : 0 ≤ e) : min (c + min (f * r) 1000000 * e) 1000000 = min (c + f * (r * e)) 1000000 := by
  rw [← Int.mul_assoc]
  by_cases h : f * r ≤ 1000000
  · rw [Int.min_eq_left h]
  · rw [show min (f * r) 1000000 = 1000000 by omega]
    by_cases z : e = 0
    · subst z; simp
    · have a : 1000000 * 1 ≤ 1000000 * e := Int.mul_le_mul_of_nonneg_left (by omega) (by omega)
      have b : f * r * 1 ≤ f * r * e := Int.mul_le_mul_of_nonneg_left (by omega) (by omega)
      omega
theorem lB {f e : Int} (hf : 0 ≤ f) (h1 : 0 ≤ e) : 0 ≤ f * e := Int.mul_nonneg hf h1
/-- lines that a macro's stretch leaves alone -/
theorem jprt.mac {σ0 : JM} (hw : jwf σ0) {m x to z : Int} (hm : 0 ≤ m ∧ m < σ0 7 2) (hx : σ0 41 m < x) (hz : jprt σ0 x to z) (h : x < to) : jprt σ0 (σ0 40 m + 1) (σ0 41 m) z := by
  have mm := hw.mm m hm.1 hm.2
  have op : jop (σ0 34 (σ0 40 m)) := by omega
  refine ⟨hz.1, hz.2.1, ?_⟩
  have hz2 := hz.2.2
  by_cases z1 : σ0 41 m ≤ z
  · exact Or.inr z1
  · by_cases z2 : σ0 40 m < z
    · have := (hw.op (σ0 40 m) mm.1 (by omega) op).2.2.2 z z2 (by omega) hz.2.1
      omega
    · left; omega
theorem jck.kc {σ0 τ : JM} (h : jck σ0 τ) (x : Int) : jat τ 8 80 x = jat σ0 8 80 x ∧ jat τ 9 80 x = jat σ0 9 80 x ∧ jat τ 10 80 x = jat σ0 10 80 x ∧ jat τ 11 80 x = jat σ0 11 80 x ∧ jat τ 12 80 x = jat σ0 12 80 x := by
  unfold jat
  rw [h 8 x (by decide), h 9 x (by decide), h 10 x (by decide), h 11 x (by decide), h 12 x (by decide)]
  exact ⟨rfl, rfl, rfl, rfl, rfl⟩
theorem jrnd_eq {σ0 τ : JM} (hs : jSC σ0) (hw : jwf σ0) (k : jck σ0 τ) {x P Q : Int} (x0 : 0 ≤ x) (x1 : x < σ0 7 1) (s9 : 7 ≤ σ0 34 x ∧ σ0 34 x ≤ 9) : jrnd τ x P Q = jrd σ0 x P Q := by
  obtain ⟨l1, l2, l3, -⟩ := jLn hs (jkc.rf σ0) (jkp.rfl σ0) hw.ln.2 x0 x1
  obtain ⟨k1, k2, k3, -⟩ := k.kc x
  have ja := jch_all (s := σ0 34 x) (by omega)
  rw [if_neg (by omega)] at l2 l3
  unfold jrnd
  rw [k1, k2, k3, l1, l2, l3]
  show (if jch (σ0 34 x) = 76 then jwa σ0 x P Q else if jch (σ0 34 x) = 87 then (if jwa σ0 x P Q = jwb σ0 x P Q then 1 else 0) else 1) = _
  unfold jrd jrds
  by_cases a : σ0 34 x = 7
  · rw [if_neg (by omega), if_neg (by omega), if_pos a]
  · by_cases b : σ0 34 x = 8
    · rw [if_pos (by omega), if_neg a, if_pos b]
    · rw [if_neg (by omega), if_pos (by omega), if_neg a, if_neg b]
/-- the kept things after a stretch -/
def jyk (σ0 τ τ' : JM) (x to : Int) : Prop := jck σ0 τ' ∧ jcmo σ0 τ' ∧ ∀ z, jprt σ0 x to z → τ' 31 z = τ 31 z
section YS
variable {σ0 : JM} {l : Launch} {E : JE} {dd : Nat} {Qr : Option JV → JM → Prop} {fr en cl P Q : Int}
def jYS (σ0 : JM) (l : Launch) (E : JE) (dd : Nat) (Qr : Option JV → JM → Prop) (fr en cl P Q : Int) (n : Nat) : Prop := ∀ (x to cnt fac : Int) (τ : JM), jwc σ0 x to P Q 0 → jW σ0 x to → to ≤ en → to * 81 + (to - x) < n → jck σ0 τ → jcmo σ0 τ → (0 ≤ cnt ∧ cnt ≤ 1000000) → (1 ≤ fac ∧ fac ≤ 1000000) → (cl = 8 ∨ (0 ≤ cl ∧ cl < σ0 7 2) ∧ to ≤ σ0 41 cl) → (¬ (jcn n σ0 x to P Q).2 → ∀ τ', jyk σ0 τ τ' x to → jYZ l E dd Qr fr en cl P Q to (min (cnt + fac * jce n σ0 x to P Q) 1000000) fac τ') → ((jcn n σ0 x to P Q).2 → ∀ τ', jyk σ0 τ τ' x to → Qr (some (0, -1)) τ') → jYZ l E dd Qr fr en cl P Q x cnt fac τ
def jYC (σ0 : JM) (dd : Nat) (cl : Int) : Prop := ∀ (m a b : Int) (τ : JM), (0 ≤ m ∧ m < σ0 7 2) → m < cl → (0 ≤ a ∧ a ≤ 999) → (0 ≤ b ∧ b ≤ 999) → jck σ0 τ → jcmo σ0 τ → JSp mX0_countMacro (dd - 2) 0 [(2, 6), (0, m), (0, a), (0, b)] τ (jyW σ0 τ (σ0 40 m + 1) (σ0 41 m) (jcm σ0 m a b)) jno
theorem ys_m (hs : jSC σ0) (hw : jwf σ0) (d4 : 5 ≤ dd) {n : Nat} (ih : jYS σ0 l E dd Qr fr en cl P Q n) {x to cnt fac : Int} {τ : JM} (c : jwc σ0 x to P Q 0) (w : jW σ0 x to) (he : to ≤ en) (hn : to * 81 + (to - x) < (n + 1 : Nat)) (k : jck σ0 τ) (i : jcmo σ0 τ) (hc : 0 ≤ cnt ∧ cnt ≤ 1000000) (hf : 1 ≤ fac ∧ fac ≤ 1000000) (hcl : cl = 8 ∨ (0 ≤ cl ∧ cl < σ0 7 2) ∧ to ≤ σ0 41 cl) (ka : ¬ (jcn (n + 1) σ0 x to P Q).2 → ∀ τ', jyk σ0 τ τ' x to → jYZ l E dd Qr fr en cl P Q to (min (cnt + fac * jce (n + 1) σ0 x to P Q) 1000000) fac τ') (kb : (jcn (n + 1) σ0 x to P Q).2 → ∀ τ', jyk σ0 τ τ' x to → Qr (some (0, -1)) τ') (hx : x < to) (h1 : σ0 34 x = 11) : jYZ l E dd Qr fr en cl P Q x cnt fac τ := by
  have x0 : 0 ≤ x := c.1
  have x1 : x < σ0 7 1 := by omega
  have ln := hw.ln
  have so := hw.so x x0 x1
  have l0 := jLnP.of hs (jkc.rf σ0) (jkp.rfl σ0) ln.2 x0 x1
  have kk := k.kc x
  have x8 : 0 ≤ x ∧ x < 80 := ⟨x0, by omega⟩
  have hk : jat τ 8 80 x = jch (σ0 34 x) := kk.1.trans l0.1
  have op : jop (σ0 34 x) := by omega
  have g := jW.inn hw c.1 c.2.2.1 w (Int.le_refl _) hx op
  have lp := jLp hs hw (jkc.rf σ0) x0 x1 op
  have e12 : jat τ 12 80 x = σ0 38 x := kk.2.2.2.2.trans lp.1
  rw [jcn_m hx h1, jce_m hx h1] at ka
  rw [jcn_m hx h1] at kb
  refine yz_M (by omega) (by omega) x8 hk (by have ja := jch_all (s := σ0 34 x) (by omega); omega) (by rw [e12]; omega) ?_
  rw [e12]
  exact ih (σ0 38 x + 1) to cnt fac τ (by omega) (jW.nxt hw c.1 c.2.2.1 w hx op) he (by omega) k i hc hf hcl (fun q τ' h => ka q τ' ⟨h.1, h.2.1, fun z hz => h.2.2 z (hz.mono (by omega) (Int.le_refl _))⟩) (fun q τ' h => kb q τ' ⟨h.1, h.2.1, fun z hz => h.2.2 z (hz.mono (by omega) (Int.le_refl _))⟩)
theorem ys_i (hs : jSC σ0) (hw : jwf σ0) (d4 : 5 ≤ dd) {n : Nat} (ih : jYS σ0 l E dd Qr fr en cl P Q n) {x to cnt fac : Int} {τ : JM} (c : jwc σ0 x to P Q 0) (w : jW σ0 x to) (he : to ≤ en) (hn : to * 81 + (to - x) < (n + 1 : Nat)) (k : jck σ0 τ) (i : jcmo σ0 τ) (hc : 0 ≤ cnt ∧ cnt ≤ 1000000) (hf : 1 ≤ fac ∧ fac ≤ 1000000) (hcl : cl = 8 ∨ (0 ≤ cl ∧ cl < σ0 7 2) ∧ to ≤ σ0 41 cl) (ka : ¬ (jcn (n + 1) σ0 x to P Q).2 → ∀ τ', jyk σ0 τ τ' x to → jYZ l E dd Qr fr en cl P Q to (min (cnt + fac * jce (n + 1) σ0 x to P Q) 1000000) fac τ') (kb : (jcn (n + 1) σ0 x to P Q).2 → ∀ τ', jyk σ0 τ τ' x to → Qr (some (0, -1)) τ') (hx : x < to) (h1 : σ0 34 x < 6) : jYZ l E dd Qr fr en cl P Q x cnt fac τ := by
  have x0 : 0 ≤ x := c.1
  have x1 : x < σ0 7 1 := by omega
  have ln := hw.ln
  have so := hw.so x x0 x1
  have l0 := jLnP.of hs (jkc.rf σ0) (jkp.rfl σ0) ln.2 x0 x1
  have kk := k.kc x
  have x8 : 0 ≤ x ∧ x < 80 := ⟨x0, by omega⟩
  have hk : jat τ 8 80 x = jch (σ0 34 x) := kk.1.trans l0.1
  have hk3 : (jch (σ0 34 x) ≠ 77 ∧ jch (σ0 34 x) ≠ 69) ∧ ¬ (jch (σ0 34 x) = 66 ∨ jch (σ0 34 x) = 76 ∨ jch (σ0 34 x) = 87) ∧ jch (σ0 34 x) ≠ 67 := by have ja := jch_all (s := σ0 34 x) (by omega); omega
  rw [jcn_i hx h1, jce_i hx h1] at ka
  rw [jcn_i hx h1] at kb
  have nn := jce_nn σ0 n (x + 1) to P Q
  refine yz_I (by omega) (by omega) x8 hk hk3.1 hk3.2.1 hf hc hk3.2.2 ?_
  refine ih (x + 1) to _ fac τ (by omega) (w.suc (by omega)) he (by omega) k i (by omega) hf hcl (fun q τ' h => ?_) (fun q τ' h => kb q τ' ⟨h.1, h.2.1, fun z hz => h.2.2 z (hz.mono (by omega) (Int.le_refl _))⟩)
  rw [lA hc.1 (by omega) (by omega) nn]
  exact ka q τ' ⟨h.1, h.2.1, fun z hz => h.2.2 z (hz.mono (by omega) (Int.le_refl _))⟩
theorem ys_c (hC : jYC σ0 dd cl) (hs : jSC σ0) (hw : jwf σ0) (d4 : 5 ≤ dd) {n : Nat} (ih : jYS σ0 l E dd Qr fr en cl P Q n) {x to cnt fac : Int} {τ : JM} (c : jwc σ0 x to P Q 0) (w : jW σ0 x to) (he : to ≤ en) (hn : to * 81 + (to - x) < (n + 1 : Nat)) (k : jck σ0 τ) (i : jcmo σ0 τ) (hc : 0 ≤ cnt ∧ cnt ≤ 1000000) (hf : 1 ≤ fac ∧ fac ≤ 1000000) (hcl : cl = 8 ∨ (0 ≤ cl ∧ cl < σ0 7 2) ∧ to ≤ σ0 41 cl) (ka : ¬ (jcn (n + 1) σ0 x to P Q).2 → ∀ τ', jyk σ0 τ τ' x to → jYZ l E dd Qr fr en cl P Q to (min (cnt + fac * jce (n + 1) σ0 x to P Q) 1000000) fac τ') (kb : (jcn (n + 1) σ0 x to P Q).2 → ∀ τ', jyk σ0 τ τ' x to → Qr (some (0, -1)) τ') (hx : x < to) (h1 : σ0 34 x = 6) : jYZ l E dd Qr fr en cl P Q x cnt fac τ := by
  have x0 : 0 ≤ x := c.1
  have x1 : x < σ0 7 1 := by omega
  have ln := hw.ln
  have so := hw.so x x0 x1
  have l0 := jLnP.of hs (jkc.rf σ0) (jkp.rfl σ0) ln.2 x0 x1
  have kk := k.kc x
  have x8 : 0 ≤ x ∧ x < 80 := ⟨x0, by omega⟩
  have hk : jat τ 8 80 x = jch (σ0 34 x) := kk.1.trans l0.1
  have hk3 : (jch (σ0 34 x) ≠ 77 ∧ jch (σ0 34 x) ≠ 69) ∧ ¬ (jch (σ0 34 x) = 66 ∨ jch (σ0 34 x) = 76 ∨ jch (σ0 34 x) = 87) ∧ jch (σ0 34 x) = 67 := by have ja := jch_all (s := σ0 34 x) (by omega); omega
  have ca := hw.ca x x0 x1 h1
  have mc := hw.mc
  have mm := hw.mm (σ0 37 x) ca.1 ca.2.1
  have o1 := hw.one x x0 x1
  have o2 := hw.two x x0 x1
  have ab : 0 ≤ jwa σ0 x P Q ∧ jwa σ0 x P Q ≤ 999 := jrga_b ⟨o1.1, o1.2.1⟩ c.2.2.2.1 c.2.2.2.2.1
  have bb : 0 ≤ jwb σ0 x P Q ∧ jwb σ0 x P Q ≤ 999 := jrga_b o2 c.2.2.2.1 c.2.2.2.2.1
  have mcl : σ0 37 x < cl := by
    rcases hcl with e | ⟨m0, m1⟩
    · omega
    · by_cases z : σ0 37 x < cl
      · exact z
      · by_cases y : σ0 37 x = cl
        · rw [y] at ca; omega
        · have := hs.2.2.2.2 cl (σ0 37 x) m0.1 (by omega) ca.2.1
          omega
  have l2 : jat τ 9 80 x = σ0 35 x := by have := kk.2.1.trans l0.2.1; rw [if_neg (by omega)] at this; exact this
  have l3 : jat τ 10 80 x = σ0 36 x := by have := kk.2.2.1.trans l0.2.2.1; rw [if_neg (by omega)] at this; exact this
  have l4 : jat τ 11 80 x = σ0 37 x := by have := kk.2.2.2.1.trans l0.2.2.2.1; rw [if_neg (by omega), if_neg (by omega), if_pos h1] at this; exact this
  have cN : jwc σ0 (σ0 40 (σ0 37 x) + 1) (σ0 41 (σ0 37 x)) (jwa σ0 x P Q) (jwb σ0 x P Q) 0 := ⟨by omega, by omega, by omega, ab, bb, by omega, by omega⟩
  have wN := jW.mac hw ca.1 ca.2.1
  have eC : jcC n σ0 x P Q = jcm σ0 (σ0 37 x) (jwa σ0 x P Q) (jwb σ0 x P Q) := jcn_e hw cN wN (by omega)
  have e6 := jcn_e6 hw n _ _ _ _ cN wN
  rw [show jcn n σ0 (σ0 40 (σ0 37 x) + 1) (σ0 41 (σ0 37 x)) (jwa σ0 x P Q) (jwb σ0 x P Q) = jcm σ0 (σ0 37 x) (jwa σ0 x P Q) (jwb σ0 x P Q) from eC] at e6
  rw [jcn_c hx h1, eC, jce_c hx h1] at ka
  rw [jcn_c hx h1, eC] at kb
  have nn := jce_nn σ0 n (x + 1) to P Q
  have nm := jce_nn σ0 n (σ0 40 (σ0 37 x) + 1) (σ0 41 (σ0 37 x)) (jwa σ0 x P Q) (jwb σ0 x P Q)
  have nb : 0 ≤ (jcm σ0 (σ0 37 x) (jwa σ0 x P Q) (jwb σ0 x P Q)).1 := (jcn_b hw 7000 _ _ _ _ cN wN).1
  have hcc := sp_X0_countCall (τ := τ) (x := x) (cl := cl) (P := P) (Q := Q) (dd := dd - 1) l4 ⟨ca.1, mcl⟩ (show jvo (jat τ 9 80 x) P Q = jwa σ0 x P Q by rw [l2]; rfl) (show jvo (jat τ 10 80 x) P Q = jwb σ0 x P Q by rw [l3]; rfl) (by omega) (fun v t q => ⟨_, q.2.choose_spec.1⟩) (hC (σ0 37 x) _ _ τ ⟨ca.1, ca.2.1⟩ mcl ab bb k i)
  have pm : ∀ z, jprt σ0 x to z → jprt σ0 (σ0 40 (σ0 37 x) + 1) (σ0 41 (σ0 37 x)) z := fun z hz => hz.mac hw ⟨ca.1, ca.2.1⟩ ca.2.2 hx
  refine yz_C (by omega) (by omega) x8 hk hk3.1 hk3.2.1 hf hc hk3.2.2 (d5 := dd - 1) (by omega) hcc (fun v t hq => ?_)
  obtain ⟨⟨q1, q2, q3⟩, v1, rfl, hv⟩ := hq
  refine ⟨v1, rfl, jcvR_b hv nb, fun e => ?_, fun e => ?_⟩
  · rcases hv with ⟨h, -⟩ | ⟨-, h⟩
    · exact kb (Or.inl h) t ⟨q1, q2, fun z hz => q3 z (pm z hz)⟩
    · omega
  · rcases hv with ⟨-, h⟩ | ⟨h0, h⟩
    · exact absurd h e
    · rw [h, e6, lC hc.1 hf.1 nm]
      have bb2 := lB (f := fac) (by omega) nm
      refine ih (x + 1) to _ fac t (by omega) (w.suc (by omega)) he (by omega) q1 q2 (by omega) hf hcl (fun q τ' h' => ?_) (fun q τ' h' => kb (Or.inr q) τ' ⟨h'.1, h'.2.1, fun z hz => (h'.2.2 z (hz.mono (by omega) (Int.le_refl _))).trans (q3 z (pm z hz))⟩)
      rw [lA hc.1 (by omega) nm nn]
      exact ka (fun y => y.elim h0 q) τ' ⟨h'.1, h'.2.1, fun z hz => (h'.2.2 z (hz.mono (by omega) (Int.le_refl _))).trans (q3 z (pm z hz))⟩
theorem ys_g (hs : jSC σ0) (hw : jwf σ0) (d4 : 5 ≤ dd) {n : Nat} (ih : jYS σ0 l E dd Qr fr en cl P Q n) {x to cnt fac : Int} {τ : JM} (c : jwc σ0 x to P Q 0) (w : jW σ0 x to) (he : to ≤ en) (hn : to * 81 + (to - x) < (n + 1 : Nat)) (k : jck σ0 τ) (i : jcmo σ0 τ) (hc : 0 ≤ cnt ∧ cnt ≤ 1000000) (hf : 1 ≤ fac ∧ fac ≤ 1000000) (hcl : cl = 8 ∨ (0 ≤ cl ∧ cl < σ0 7 2) ∧ to ≤ σ0 41 cl) (ka : ¬ (jcn (n + 1) σ0 x to P Q).2 → ∀ τ', jyk σ0 τ τ' x to → jYZ l E dd Qr fr en cl P Q to (min (cnt + fac * jce (n + 1) σ0 x to P Q) 1000000) fac τ') (kb : (jcn (n + 1) σ0 x to P Q).2 → ∀ τ', jyk σ0 τ τ' x to → Qr (some (0, -1)) τ') (hx : x < to) (h7 : 7 ≤ σ0 34 x) (h9 : σ0 34 x ≤ 9) : jYZ l E dd Qr fr en cl P Q x cnt fac τ := by
  have x0 : 0 ≤ x := c.1
  have x1 : x < σ0 7 1 := by omega
  have ln := hw.ln
  have so := hw.so x x0 x1
  have l0 := jLnP.of hs (jkc.rf σ0) (jkp.rfl σ0) ln.2 x0 x1
  have kk := k.kc x
  have x8 : 0 ≤ x ∧ x < 80 := ⟨x0, by omega⟩
  have hk : jat τ 8 80 x = jch (σ0 34 x) := kk.1.trans l0.1
  have hk3 : (jch (σ0 34 x) ≠ 77 ∧ jch (σ0 34 x) ≠ 69) ∧ (jch (σ0 34 x) = 66 ∨ jch (σ0 34 x) = 76 ∨ jch (σ0 34 x) = 87) := by have ja := jch_all (s := σ0 34 x) (by omega); omega
  have op : jop (σ0 34 x) := by omega
  have g := jW.inn hw c.1 c.2.2.1 w (Int.le_refl _) hx op
  have nx := jW.nxt hw c.1 c.2.2.1 w hx op
  have lp := jLp hs hw (jkc.rf σ0) x0 x1 op
  have e12 : jat τ 12 80 x = σ0 38 x := kk.2.2.2.2.trans lp.1
  have er : jrnd τ x P Q = jrd σ0 x P Q := jrnd_eq hs hw k x0 x1 ⟨h7, h9⟩
  have rb := jrd_b hw (p := P) (q := Q) ⟨x0, x1⟩ c.2.2.2.1 c.2.2.2.2.1
  have nn := jce_nn σ0 n (σ0 38 x + 1) to P Q
  have ni := jce_nn σ0 n (x + 1) (σ0 38 x) P Q
  by_cases r0 : jrd σ0 x P Q = 0
  · rw [jcn_z hx (by omega) h7 (by omega), jce_z hx (by omega) h7 (by omega)] at ka
    rw [jcn_z hx (by omega) h7 (by omega)] at kb
    refine yz_G0 (by omega) (by omega) x8 hk hk3.1 hk3.2 (er.trans r0) (by rw [e12]; omega) ?_
    rw [e12]
    exact ih (σ0 38 x + 1) to cnt fac τ (by omega) nx he (by omega) k i hc hf hcl (fun q τ' h => ka q τ' ⟨h.1, h.2.1, fun z hz => h.2.2 z (hz.mono (by omega) (Int.le_refl _))⟩) (fun q τ' h => kb q τ' ⟨h.1, h.2.1, fun z hz => h.2.2 z (hz.mono (by omega) (Int.le_refl _))⟩)
  have rp : 0 < jrd σ0 x P Q := by omega
  rw [jcn_g hx (by omega) h7 rp, jce_g hx (by omega) h7 rp] at ka
  rw [jcn_g hx (by omega) h7 rp] at kb
  by_cases r9 : 9 < jrd σ0 x P Q
  · refine yz_GB (by omega) (by omega) x8 hk hk3.1 hk3.2 (by rw [er]; exact r9) (kb (Or.inl ?_) τ ⟨k, i, fun _ _ => rfl⟩)
    unfold jrd jrds at r9
    by_cases a : σ0 34 x = 7
    · rw [if_pos a] at r9; omega
    · rw [if_neg a] at r9
      by_cases b : σ0 34 x = 8
      · rw [if_pos b] at r9; exact ⟨b, r9⟩
      · rw [if_neg b] at r9
        split at r9 <;> omega
  refine yz_G (by omega) (by omega) x8 hk hk3.1 hk3.2 (by rw [er]; omega) hf ?_
  rw [er]
  have fr1 : 1 * 1 ≤ fac * jrd σ0 x P Q := Int.mul_le_mul hf.1 (by omega) (by omega) (by omega)
  have cN : jwc σ0 (x + 1) (σ0 38 x) P Q 0 := by omega
  have hcl' : cl = 8 ∨ (0 ≤ cl ∧ cl < σ0 7 2) ∧ σ0 38 x ≤ σ0 41 cl := by omega
  have pm : ∀ z, jprt σ0 x to z → jprt σ0 (x + 1) (σ0 38 x) z := fun z hz => hz.mono (by omega) (by omega)
  have np : ∀ z, jprt σ0 x to z → z ≠ x := fun z hz e => by have := hz.2.2; omega
  have fk : ∀ τ', jyk σ0 (jset τ 31 x fac) τ' (x + 1) (σ0 38 x) → jyk σ0 τ τ' x to := fun τ' h => ⟨h.1, h.2.1, fun z hz => (h.2.2 z (pm z hz)).trans (jset_nj _ (np z hz) _)⟩
  refine ih (x + 1) (σ0 38 x) cnt _ (jset τ 31 x fac) cN g.1 (by omega) (by omega) (k.set _ _ (by decide)) (i.s31 _ _) hc (by omega) hcl' (fun q τ' h => ?_) (fun q τ' h => kb (Or.inr (Or.inl q)) τ' (fk τ' h))
  have kk' := h.1.kc (σ0 38 x)
  have e31 : τ' 31 x = fac := (h.2.2 x ⟨⟨x0, x1⟩, op, Or.inl ⟨by omega, Int.le_refl _⟩⟩).trans (jset_eq _ _ _ _)
  have ey : jat τ' 12 80 (σ0 38 x) = x := kk'.2.2.2.2.trans lp.2.1
  have F := fk τ' h
  refine yz_E (by omega) (by omega) ⟨by omega, by omega⟩ (k := 69) ?_ rfl ?_
  · rw [kk'.1, lp.2.2, if_neg (by omega)]; rfl
  · rw [ey, jat_in x0 x8.2, e31, lG hc.1 hf.1 (by omega) ni]
    have bb2 := lB (f := fac) (e := jrd σ0 x P Q * jce n σ0 (x + 1) (σ0 38 x) P Q) (by omega) (lB (by omega) ni)
    refine ih (σ0 38 x + 1) to _ fac τ' (by omega) nx he (by omega) h.1 h.2.1 (by omega) hf hcl (fun q' τ2 h' => ?_) (fun q' τ2 h' => kb (Or.inr (Or.inr q')) τ2 ⟨h'.1, h'.2.1, fun z hz => (h'.2.2 z (hz.mono (by omega) (Int.le_refl _))).trans (F.2.2 z hz)⟩)
    rw [lA hc.1 (by omega) (lB (by omega) ni) nn]
    refine ka (fun y => ?_) τ2 ⟨h'.1, h'.2.1, fun z hz => (h'.2.2 z (hz.mono (by omega) (Int.le_refl _))).trans (F.2.2 z hz)⟩
    rcases y with y | y | y
    · have e8 := y.1
      have : jrd σ0 x P Q = jwa σ0 x P Q := by unfold jrd jrds; rw [if_neg (by omega), if_pos e8]
      have := y.2
      omega
    · exact q y
    · exact q' y
theorem ys_all (hC : jYC σ0 dd cl) (hs : jSC σ0) (hw : jwf σ0) (d4 : 5 ≤ dd) : ∀ n : Nat, jYS σ0 l E dd Qr fr en cl P Q n := by
  intro n
  induction n with
  | zero => intro x to cnt fac τ c w he hn; exact absurd hn (by omega)
  | succ n ih =>
    intro x to cnt fac τ c w he hn k i hc hf hcl ka kb
    by_cases hx : to ≤ x
    · have e : x = to := by omega
      subst e
      rw [jcn_0 (Int.le_refl _), jce_0 (Int.le_refl _)] at ka
      have := ka (fun q => q) τ ⟨k, i, fun _ _ => rfl⟩
      rw [Int.mul_zero, Int.add_zero, Int.min_eq_left hc.2] at this
      exact this
    have hx : x < to := by omega
    have ln := hw.ln
    have so := hw.so x c.1 (by omega)
    have ncl := w.ncl hx
    by_cases h1 : σ0 34 x = 11
    · exact ys_m hs hw d4 ih c w he hn k i hc hf hcl ka kb hx h1
    by_cases h5 : σ0 34 x < 6
    · exact ys_i hs hw d4 ih c w he hn k i hc hf hcl ka kb hx h5
    by_cases h6 : σ0 34 x = 6
    · exact ys_c hC hs hw d4 ih c w he hn k i hc hf hcl ka kb hx h6
    · exact ys_g hs hw d4 ih c w he hn k i hc hf hcl ka kb hx (by omega) (by omega)
end YS
theorem sp_cl {σ0 τ : JM} (hs : jSC σ0) (hw : jwf σ0) {dd : Nat} {cl x to P Q : Int} (hC : jYC σ0 dd cl) (d4 : 5 ≤ dd) (c : jwc σ0 x to P Q 0) (w : jW σ0 x to) (k : jck σ0 τ) (i : jcmo σ0 τ) (hcl : cl = 8 ∨ (0 ≤ cl ∧ cl < σ0 7 2) ∧ to ≤ σ0 41 cl) : JSp mX0_countLines dd 0 [(2, 6), (0, x), (0, to), (0, cl), (0, P), (0, Q)] τ (jyW σ0 τ x to (jcn 7000 σ0 x to P Q)) jno := by
  have ln := hw.ln
  refine yz_start (fun l E => ys_all hC hs hw d4 7000 x to 0 1 τ c w (Int.le_refl _) (by omega) k i (by omega) (by omega) hcl (fun q τ' h => yz_exit (Int.le_refl _) ⟨h, _, rfl, Or.inr ⟨q, ?_⟩⟩) (fun q τ' h => ⟨h, -1, rfl, Or.inl ⟨q, rfl⟩⟩))
  rw [Int.zero_add, Int.one_mul]
  exact (jcn_e6 hw 7000 _ _ _ _ c w).symm
theorem jYC_all {σ0 : JM} (hs : jSC σ0) (hw : jwf σ0) (hg : 0 ≤ σ0 6 4 ∧ σ0 6 4 ≤ 1000000) : ∀ (N : Nat) (dd : Nat) (cl : Int), cl ≤ N → 3 * N + 5 ≤ dd → jYC σ0 dd cl := by
  intro N
  induction N with
  | zero => intro dd cl h1 h2 m a b τ hm hmc; omega
  | succ N ih =>
    intro dd cl h1 h2 m a b τ hm hmc ha hb k i
    have mm := hw.mm m hm.1 hm.2
    have ln := hw.ln
    refine sp_X0_countMacro hs hw hg hm ha hb k i (dd := dd - 2) (by omega) ?_
    exact sp_cl hs hw (ih (dd - 2 - 1) m (by omega) (by omega)) (by omega) ⟨by omega, by omega, by omega, ha, hb, by omega, by omega⟩ (jW.mac hw hm.1 hm.2) k i (Or.inr ⟨hm, Int.le_refl _⟩)
theorem sp_X0_countProgram {σ : JM} (hs : jSC σ) (hw : jwf σ) (hg : 0 ≤ σ 6 4 ∧ σ 6 4 ≤ 1000000) (i : jcmo σ σ) : JSp mX0_countProgram 30 0 [(2, 6)] σ (jyW σ σ 0 (σ 7 1) (jcn 7000 σ 0 (σ 7 1) 0 0)) jno := by
  have ln := hw.ln
  have hl := sp_cl (τ := σ) (cl := 8) (x := 0) (to := σ 7 1) (P := 0) (Q := 0) hs hw (jYC_all hs hw hg 8 29 8 (by decide) (by decide)) (by decide) ⟨by omega, by omega, by omega, by omega, by omega, by omega, by omega⟩ hw.al (jck.rf σ) i (Or.inl rfl)
  refine JSp.of [(2, 6)] rfl (by decide +kernel) rfl rfl rfl (fun l E hA => ?_)
  refine V.aload_n dX0_countProgram_0 rfl ?_
  refine V.iconst dX0_countProgram_1 ⟨by decide, by decide⟩ ?_
  refine V.aload_n dX0_countProgram_2 rfl ?_
  refine V.getR fa_X0_26 rfl dX0_countProgram_3 ?_
  refine V.cV [] rfl kc_X0_30 rfl dX0_countProgram_6 (by decide) rfl rfl (sp_X5_size) (fun _ => ?_)
  rw [hs.1.1]
  refine V.bipush dX0_countProgram_9 ⟨by decide, by decide⟩ ?_
  refine V.iconst dX0_countProgram_11 ⟨by decide, by decide⟩ ?_
  refine V.iconst dX0_countProgram_12 ⟨by decide, by decide⟩ ?_
  refine V.callV [_, _, _, _, _] rfl kc_X0_36 rfl dX0_countProgram_13 (d' := 29) (by decide) (Nat.le_refl _) rfl (fun _ _ => hl) rfl (fun v τ2 hq hv => ?_) (fun X σ' hx => hx.elim)
  obtain ⟨c, rfl, hc⟩ := hq.2
  exact V.iret (jret_i dX0_countProgram_16 rfl) hq
