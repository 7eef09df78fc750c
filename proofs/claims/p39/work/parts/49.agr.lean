/-! the reference's walk reads and writes only its own rows -/
def jag (σ τ : JM) : Prop := ∀ a b, ((34 ≤ a ∧ a ≤ 50) ∨ (a = 7 ∧ (b = 1 ∨ b = 2 ∨ (14 ≤ b ∧ b ≤ 18)))) → τ a b = σ a b
theorem jag.rw {σ τ : JM} (h : jag σ τ) {a : Nat} (h1 : 34 ≤ a ∧ a ≤ 50) : τ a = σ a := funext fun b => h a b (Or.inl h1)
theorem jag.set {σ τ : JM} (h : jag σ τ) (k : Nat) (j v : Int) : jag (jset σ k j v) (jset τ k j v) := fun a b hab => by
  unfold jset; rw [h a b hab]
theorem jag.stp {σ τ : JM} (h : jag σ τ) (k x : Int) : jag (jstp σ k x) (jstp τ k x) := (h.set _ _ _).set _ _ _
theorem jag.nsc {σ τ : JM} (h : jag σ τ) (o : Int) : jag (jnsc σ o) (jnsc τ o) := by
  unfold jnsc; rw [h 7 17 (by omega)]; exact (h.set _ _ _).set _ _ _
theorem jag.w1 {σ τ : JM} (h : jag σ τ) : jag (jw1 σ) (jw1 τ) := by
  unfold jw1; rw [h 7 18 (by omega)]; exact h.set _ _ _
theorem jag.mk {σ τ : JM} (h : jag σ τ) (x v s d : Int) : jag (jmk σ x v s d) (jmk τ x v s d) := by
  unfold jmk; rw [h 7 16 (by omega), h 34 x (by omega)]
  exact ((((((h.set _ _ _).set _ _ _).set _ _ _).set _ _ _).set _ _ _).set _ _ _).set _ _ _
theorem jag.fa {σ τ : JM} (h : jag σ τ) (x p q : Int) : jwFa τ x p q ↔ jwFa σ x p q := by
  unfold jwFa jwa; rw [h 34 x (by omega), h 35 x (by omega)]
theorem jag.lk {σ τ : JM} (h : jag σ τ) (v s : Int) : jlk τ v s = jlk σ v s := by
  unfold jlk
  rw [h 7 16 (by omega)]
  refine jfs_c (fun i _ _ => ?_)
  unfold jdp; rw [h 44 i (by omega), h 45 i (by omega), h 46 i (by omega)]
theorem jag.fd {σ τ : JM} (h : jag σ τ) (h0 : 0 ≤ σ 7 16) (x sc p ps q qs : Int) : jwFd τ x sc p ps q qs ↔ jwFd σ x sc p ps q qs := by
  have e : ∀ v s, jdfd τ v s ↔ jdfd σ v s := fun v s => by
    unfold jdfd
    rw [← jfs_ex h0, ← jfs_ex (P := jdp τ v s) (show 0 ≤ τ 7 16 by rw [h 7 16 (by omega)]; exact h0)]
    show jlk τ v s ≠ -1 ↔ jlk σ v s ≠ -1
    rw [h.lk]
  unfold jwFd jwa
  rw [h 34 x (by omega), h 35 x (by omega), e]
theorem jag.ff {σ τ : JM} (h : jag σ τ) (x : Int) : jwFf τ x ↔ jwFf σ x := by
  unfold jwFf; rw [h 7 18 (by omega), h 34 x (by omega), h 7 16 (by omega)]
theorem jwr_ag {f g : JM → Int × JM} (P : JM → Prop) (hfg : ∀ ρ ρ', P ρ → jag ρ ρ' → (g ρ').1 = (f ρ).1 ∧ jag (f ρ).2 (g ρ').2 ∧ P (f ρ).2) : ∀ (r : Nat) (ρ ρ' : JM), P ρ → jag ρ ρ' → (jwr g r ρ').1 = (jwr f r ρ).1 ∧ jag (jwr f r ρ).2 (jwr g r ρ').2 := by
  intro r
  induction r with
  | zero => intro ρ ρ' _ h; exact ⟨rfl, h⟩
  | succ r ih =>
    intro ρ ρ' hP h
    obtain ⟨a, b, c⟩ := hfg ρ ρ' hP h
    rw [jwr_s, jwr_s, a]
    by_cases z : (f ρ).1 = 0
    · rw [if_pos z, if_pos z]; exact ⟨rfl, b⟩
    · rw [if_neg z, if_neg z]; exact ih _ _ c b
theorem jset_16 (σ : JM) {k : Nat} (j v : Int) (h : ¬ (k = 7 ∧ j = 16)) : jset σ k j v 7 16 = σ 7 16 := jset_ne σ (fun q => h ⟨q.1.symm, q.2.symm⟩)
/-- the walk's number of items never falls below 0 -/
theorem jwk_nn : ∀ (n : Nat) (σ : JM) (x to sc p ps q qs d : Int), 0 ≤ σ 7 16 → 0 ≤ (jwk n σ x to sc p ps q qs d).2 7 16 := by
  intro n
  induction n with
  | zero => intro σ x to sc p ps q qs d h; exact h
  | succ n ih =>
    intro σ x to sc p ps q qs d h
    have jr : ∀ (f : JM → Int × JM), (∀ ρ, 0 ≤ ρ 7 16 → 0 ≤ (f ρ).2 7 16) → ∀ (r : Nat) (ρ : JM), 0 ≤ ρ 7 16 → 0 ≤ (jwr f r ρ).2 7 16 := by
      intro f hf r
      induction r with
      | zero => intro ρ h; exact h
      | succ r ihr =>
        intro ρ h
        rw [jwr_s]
        split
        · exact hf ρ h
        · exact ihr _ (hf ρ h)
    rw [jwk]
    split
    · exact h
    split
    · exact ih _ _ _ _ _ _ _ _ _ h
    split
    · exact h
    split
    · exact h
    split
    · exact h
    split
    · refine ih _ _ _ _ _ _ _ _ _ ?_
      rw [(jmk_7 _ _ _ _ _).1, (jw1_7 σ).1]; omega
    split
    · have a : 0 ≤ (jwk n (jnsc (jw1 σ) 0) (σ 40 (σ 37 x) + 1) (σ 41 (σ 37 x)) (σ 7 17) (jwa σ x p q) (jrga (σ 35 x) ps qs sc) (jwb σ x p q) (jrga (σ 36 x) ps qs sc) (d + 1)).2 7 16 := ih _ _ _ _ _ _ _ _ _ h
      dsimp only
      split
      · exact a
      · exact ih _ _ _ _ _ _ _ _ _ a
    · have a : 0 ≤ (jwr (jwB n σ x sc p ps q qs d) (jrds (σ 34 x) (jwa σ x p q) (jwb σ x p q)).toNat (jw1 σ)).2 7 16 := jr _ (fun ρ hρ => by
        unfold jwB
        split
        · exact ih _ _ _ _ _ _ _ _ _ hρ
        · exact ih _ _ _ _ _ _ _ _ _ hρ) _ _ h
      have e : ∀ r : Int × JM, 0 ≤ r.2 7 16 → 0 ≤ (if r.1 = 0 then ((0 : Int), r.2) else jwk n r.2 (σ 38 x + 1) to sc p ps q qs d).2 7 16 := fun r hr => by
        split
        · exact hr
        · exact ih _ _ _ _ _ _ _ _ _ hr
      exact e (jwG n σ x sc p ps q qs d) a
theorem jwk_ag : ∀ (n : Nat) (ρ ρ' : JM) (x to sc p ps q qs d : Int), 0 ≤ ρ 7 16 → jag ρ ρ' → (jwk n ρ' x to sc p ps q qs d).1 = (jwk n ρ x to sc p ps q qs d).1 ∧ jag (jwk n ρ x to sc p ps q qs d).2 (jwk n ρ' x to sc p ps q qs d).2 := by
  intro n
  induction n with
  | zero => intro ρ ρ' x to sc p ps q qs d h0 h; exact ⟨rfl, h⟩
  | succ n ih =>
    intro ρ ρ' x to sc p ps q qs d h0 h
    have e34 := h 34 x (by omega)
    have e35 := h 35 x (by omega)
    have e36 := h 36 x (by omega)
    have e37 := h 37 x (by omega)
    have e38 := h 38 x (by omega)
    by_cases c0 : to ≤ x
    · rw [jwk_0 c0, jwk_0 c0]; exact ⟨rfl, h⟩
    have c0 : x < to := by omega
    by_cases c1 : ρ 34 x = 11
    · rw [jwk_m c0 c1, jwk_m c0 (e34.trans c1), e38]; exact ih _ _ _ _ _ _ _ _ _ _ h0 h
    have c1' : ρ' 34 x ≠ 11 := by rw [e34]; exact c1
    by_cases c2 : jwFa ρ x p q
    · rw [jwk_a c0 c1 c2, jwk_a c0 c1' ((h.fa x p q).mpr c2)]; exact ⟨rfl, h.stp _ _⟩
    have c2' : ¬ jwFa ρ' x p q := fun z => c2 ((h.fa x p q).mp z)
    by_cases c3 : jwFd ρ x sc p ps q qs
    · rw [jwk_d c0 c1 c2 c3, jwk_d c0 c1' c2' ((h.fd h0 _ _ _ _ _ _).mpr c3)]; exact ⟨rfl, h.stp _ _⟩
    have c3' : ¬ jwFd ρ' x sc p ps q qs := fun z => c3 ((h.fd h0 _ _ _ _ _ _).mp z)
    by_cases c4 : jwFf ρ x
    · rw [jwk_f c0 c1 c2 c3 c4, jwk_f c0 c1' c2' c3' ((h.ff x).mpr c4)]; exact ⟨rfl, h.stp _ _⟩
    have c4' : ¬ jwFf ρ' x := fun z => c4 ((h.ff x).mp z)
    have ea : jwa ρ' x p q = jwa ρ x p q := by unfold jwa; rw [e35]
    have eb : jwb ρ' x p q = jwb ρ x p q := by unfold jwb; rw [e36]
    by_cases c5 : ρ 34 x < 6
    · rw [jwk_i c0 c2 c3 c4 c5, jwk_i c0 c2' c3' c4' (by rw [e34]; exact c5), ea, e35]
      exact ih _ _ _ _ _ _ _ _ _ _ (by rw [(jmk_7 _ _ _ _ _).1, (jw1_7 ρ).1]; omega) (h.w1.mk _ _ _ _)
    by_cases c6 : ρ 34 x = 6
    · rw [jwk_c c0 c2 c4 c6, jwk_c c0 c2' c4' (by rw [e34]; exact c6)]
      have g : (jwC n ρ' x sc p ps q qs d).1 = (jwC n ρ x sc p ps q qs d).1 ∧ jag (jwC n ρ x sc p ps q qs d).2 (jwC n ρ' x sc p ps q qs d).2 := by
        unfold jwC
        rw [ea, eb, e35, e36, e37, h 40 _ (by omega), h 41 _ (by omega), h 7 17 (by omega)]
        exact ih _ _ _ _ _ _ _ _ _ _ h0 (h.w1.nsc 0)
      have nn : 0 ≤ (jwC n ρ x sc p ps q qs d).2 7 16 := by unfold jwC; exact jwk_nn _ _ _ _ _ _ _ _ _ _ h0
      rw [g.1]
      by_cases z : (jwC n ρ x sc p ps q qs d).1 = 0
      · rw [if_pos z, if_pos z]; exact ⟨rfl, g.2⟩
      · rw [if_neg z, if_neg z]; exact ih _ _ _ _ _ _ _ _ _ _ nn g.2
    by_cases c7 : 7 ≤ ρ 34 x
    · rw [jwk_g c0 c1 c2 c4 c7, jwk_g c0 c1' c2' c4' (by rw [e34]; exact c7)]
      have g : (jwG n ρ' x sc p ps q qs d).1 = (jwG n ρ x sc p ps q qs d).1 ∧ jag (jwG n ρ x sc p ps q qs d).2 (jwG n ρ' x sc p ps q qs d).2 := by
        unfold jwG
        rw [ea, eb, e34]
        refine jwr_ag (fun ρ => 0 ≤ ρ 7 16) (fun μ μ' h0 hm => ?_) _ _ _ h0 h.w1
        unfold jwB
        rw [e34, e38]
        split
        · have := ih μ μ' (x + 1) (ρ 38 x) sc p ps q qs d h0 hm
          exact ⟨this.1, this.2, jwk_nn _ _ _ _ _ _ _ _ _ _ h0⟩
        · rw [hm 7 17 (by omega)]
          have := ih (jnsc μ sc) (jnsc μ' sc) (x + 1) (ρ 38 x) (μ 7 17) p ps q qs d h0 (hm.nsc sc)
          exact ⟨this.1, this.2, jwk_nn _ _ _ _ _ _ _ _ _ _ h0⟩
      have nn : 0 ≤ (jwG n ρ x sc p ps q qs d).2 7 16 := by
        unfold jwG
        generalize (jrds (ρ 34 x) (jwa ρ x p q) (jwb ρ x p q)).toNat = r
        have : ∀ (r : Nat) (μ : JM), 0 ≤ μ 7 16 → 0 ≤ (jwr (jwB n ρ x sc p ps q qs d) r μ).2 7 16 := by
          intro r
          induction r with
          | zero => intro μ hμ; exact hμ
          | succ r ihr =>
            intro μ hμ
            have a : 0 ≤ (jwB n ρ x sc p ps q qs d μ).2 7 16 := by
              unfold jwB
              split
              · exact jwk_nn _ _ _ _ _ _ _ _ _ _ hμ
              · exact jwk_nn _ _ _ _ _ _ _ _ _ _ hμ
            rw [jwr_s]
            split
            · exact a
            · exact ihr _ a
        exact this r _ h0
      rw [g.1, e38]
      by_cases z : (jwG n ρ x sc p ps q qs d).1 = 0
      · rw [if_pos z, if_pos z]; exact ⟨rfl, g.2⟩
      · rw [if_neg z, if_neg z]; exact ih _ _ _ _ _ _ _ _ _ _ nn g.2
    · exfalso; omega
theorem jvW_ag {σ σ' : JM} (h : ∀ a b, (a = 7 ∨ 34 ≤ a) → σ' a b = σ a b) : (jmW σ').1 = (jvW σ).1 ∧ jag (jvW σ).2 (jmW σ').2 := by
  unfold jmW jvW
  rw [h 7 1 (by omega)]
  refine jwk_ag _ _ _ _ _ _ _ _ _ _ _ (Int.le_refl 0) ?_
  refine jag.nsc (fun a b hab => ?_) _
  rcases hab with z | ⟨rfl, z⟩
  · rw [jm0_kp σ' a b (by omega), h a b (by omega)]
    unfold jw0
    rw [jset_ne _ (by omega), jset_ne _ (by omega), jset_ne _ (by omega), jset_ne _ (by omega)]
  · by_cases z2 : b = 1 ∨ b = 2 ∨ b = 15
    · have e : jm0 σ' 7 b = σ' 7 b ∨ b = 15 := by
        by_cases b15 : b = 15
        · exact Or.inr b15
        · exact Or.inl (jm0_kp σ' 7 b (by omega))
      have e2 : jw0 σ 7 b = σ 7 b := by
        unfold jw0
        rw [jset_ne _ (by omega), jset_ne _ (by omega), jset_ne _ (by omega), jset_ne _ (by omega)]
      rcases e with e | e
      · rw [e, e2, h 7 b (by omega)]
      · subst e
        show σ' 7 15 = σ 7 15
        exact h 7 15 (by omega)
    · have : b = 14 ∨ b = 16 ∨ b = 17 ∨ b = 18 := by omega
      rcases this with e | e | e | e <;> subst e <;> rfl
theorem jfd_ag {σ τ : JM} (h : jag σ τ) (x : Int) : jfd τ x = jfd σ x := by
  have g : ∀ (v : Int) (f : Nat) (s : Int), jfdN τ v f s = jfdN σ v f s := by
    intro v f
    induction f with
    | zero => intro s; rfl
    | succ f ih =>
      intro s
      have e : jfs (jdp τ v s) (τ 7 16) = jfs (jdp σ v s) (σ 7 16) := h.lk v s
      unfold jfdN
      rw [e, ih, h 42 s (by omega)]
  unfold jfd
  rw [h 45 x (by omega), h 46 x (by omega), g]
