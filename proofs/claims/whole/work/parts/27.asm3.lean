theorem jkof_106 {s g : Int} (h : 0 ≤ s ∧ s ≤ 5) : jkof s g = 106 ↔ s = 3 ∧ g = 0 := by
  unfold jkof
  have : s = 0 ∨ s = 1 ∨ s = 2 ∨ s = 3 ∨ s = 4 ∨ s = 5 := by omega
  rcases this with h | h | h | h | h | h <;> subst h <;> simp
abbrev jmT (σ : JM) : Prop := ∀ i, 0 ≤ i → i < σ 7 16 → σ 44 i = 3 → 0 ≤ σ 49 i ∧ σ 49 i < σ 7 16
theorem jmPl_48 (σ : JM) {i : Int} (h0 : 0 ≤ i) (h1 : i < σ 7 16) : jmPl σ 48 i = jad (jmK σ) (jmV σ) i := by
  unfold jmPl; rw [jset_nk _ (by decide), jfill_in σ 48 h0 h1]
theorem jmPl_ne (σ : JM) {a : Nat} {b : Int} (h1 : a ≠ 48) (h2 : ¬ (a = 7 ∧ b = 19)) : jmPl σ a b = σ a b := by
  unfold jmPl; rw [jset_ne _ h2, jfill_ne σ h1]
theorem jmfr_iff {σ : JM} (h : jmok σ) (hT : jmT σ) {i : Int} (h0 : 0 ≤ i) (h1 : i < σ 7 16) : jmfr (jmPl σ) i ↔ jfr (σ 49) (jmV σ) (σ 7 16) (jmK σ) i := by
  have e44 : jmPl σ 44 i = σ 44 i := jmPl_ne σ (by decide) (by omega)
  have e50 : jmPl σ 50 i = σ 50 i := jmPl_ne σ (by decide) (by omega)
  have e49 : jmPl σ 49 i = σ 49 i := jmPl_ne σ (by decide) (by omega)
  have k := jkof_106 (g := σ 50 i) (h.2 i h0 h1).1
  unfold jmfr jfr
  rw [e44, e50]
  constructor
  · rintro ⟨a, b, c⟩
    refine ⟨⟨h0, h1⟩, k.mpr ⟨a, b⟩, ?_⟩
    have t := hT i h0 h1 a
    unfold jmds at c
    rw [e49, jmPl_48 σ h0 h1, jmPl_48 σ t.1 t.2] at c
    exact c
  · rintro ⟨-, b, c⟩
    have b := k.mp b
    refine ⟨b.1, b.2, ?_⟩
    have t := hT i h0 h1 b.1
    unfold jmds
    rw [e49, jmPl_48 σ h0 h1, jmPl_48 σ t.1 t.2]
    exact c
theorem jmLn_ne (σ : JM) {a : Nat} {b : Int} (h1 : a ≠ 48) (h2 : a ≠ 50) (h3 : ¬ (a = 7 ∧ b = 19)) : jmLn σ a b = σ a b := by
  unfold jmLn; rw [jfill_ne _ h2, jmPl_ne σ h1 h3]
theorem jmLn_a (σ : JM) {i : Int} (h0 : 0 ≤ i) (h1 : i < σ 7 16) : jmLn σ 48 i = jad (jmK σ) (jmV σ) i := by
  unfold jmLn; rw [jfill_ne _ (by decide), jmPl_48 σ h0 h1]
theorem jmLn_w (σ : JM) : jmLn σ 7 19 = jad (jmK σ) (jmV σ) (σ 7 16) := by
  unfold jmLn; rw [jfill_ne _ (by decide)]; unfold jmPl; rw [jset_eq]
theorem jmLn_K {σ : JM} (h : jmok σ) (hT : jmT σ) : jmK (jmLn σ) = jnK (σ 49) (jmV σ) (σ 7 16) (jmK σ) := by
  funext i
  have e44 : jmLn σ 44 i = σ 44 i := jmLn_ne σ (by decide) (by decide) (by omega)
  by_cases c : 0 ≤ i ∧ i < σ 7 16
  · have e50 : jmLn σ 50 i = jmL (jmPl σ) i := by unfold jmLn; rw [jfill_in _ 50 c.1 c.2]
    have k := jmfr_iff h hT c.1 c.2
    unfold jnK
    show jkof (jmLn σ 44 i) (jmLn σ 50 i) = _
    rw [e44, e50]
    by_cases f : jmfr (jmPl σ) i
    · rw [if_pos (k.mp f)]
      unfold jmL
      rw [if_pos f]
      have := f.1
      rw [jmPl_ne σ (by decide) (by omega)] at this
      rw [this]
      rfl
    · rw [if_neg (fun z => f (k.mpr z))]
      unfold jmL
      rw [if_neg f, jmPl_ne σ (by decide) (by omega)]
      rfl
  · have e50 : jmLn σ 50 i = σ 50 i := by unfold jmLn; rw [jfill_out _ 50 c, jmPl_ne σ (by decide) (by omega)]
    unfold jnK
    show jkof (jmLn σ 44 i) (jmLn σ 50 i) = _
    rw [e44, e50, if_neg (fun z => c z.1)]
    rfl
theorem jmLn_c {σ : JM} (h : jmok σ) (hT : jmT σ) : jsum (jmg (jmPl σ)) (σ 7 16) = jnc (σ 49) (jmV σ) (σ 7 16) (jmK σ) := by
  unfold jnc
  apply jsum_c
  intro i h0 h1
  unfold jmg
  have k := jmfr_iff h hT h0 h1
  by_cases f : jmfr (jmPl σ) i
  · rw [if_pos f, if_pos (k.mp f)]
  · rw [if_neg f, if_neg (fun z => f (k.mpr z))]
/-- the start of the assembling -/
def jm0 (σ : JM) : JM := jset (jset (jset (jset (jset (jset (jset (jset σ 7 0 0) 7 13 1) 7 14 110) 7 16 0) 7 17 0) 7 18 0) 7 20 0) 7 19 0
abbrev jbad (σ : JM) : Prop := σ 7 4 ≠ 0 ∨ σ 7 3 ≠ -1
def jmBl (σ : JM) : Int := if 0 < σ 7 4 then σ 39 (σ 7 4 - 1) else σ 40 (σ 7 3)
def jmW (σ : JM) : Int × JM := jwk 7000 (jnsc (jm0 σ) (-1)) 0 (σ 7 1) 0 0 0 0 0 0
def jmF (σ : JM) : Int × JM := jaf (jmW σ).2 ((jmW σ).2 7 16).toNat
/-- how the placed and written memory t stands to the memory ρ of the found targets -/
def jmEd (ρ t : JM) : Prop := (∀ a b, a ≠ 48 → a ≠ 50 → a ≠ 51 → a ≠ 52 → ¬ (a = 7 ∧ (b = 19 ∨ b = 20)) → t a b = ρ a b) ∧ jmK t = jplK (ρ 49) (jmV ρ) (ρ 7 16) 201 (jmK ρ) ∧ t 7 20 = jplP (ρ 49) (jmV ρ) (ρ 7 16) 201 (jmK ρ) ∧ t 7 19 = jad (jmK t) (jmV ρ) (ρ 7 16) ∧ (∀ i, 0 ≤ i → i < ρ 7 16 → t 48 i = jad (jmK t) (jmV ρ) i) ∧ ∀ b, 0 ≤ b → b < jad (jmK t) (jmV ρ) (ρ 7 16) → t 51 b = jFN (jmK t) (jmV ρ) (ρ 49) (ρ 7 16).toNat b ∧ t 52 b = jGN (jmK t) (jmV ρ) (ρ 7 16).toNat b
/-- what the reference's assembling answers and leaves -/
def jmAs (σ : JM) (v : Option JV) (t : JM) : Prop :=
  (jbad σ ∧ v = some (0, -1) ∧ t = jstp (jm0 σ) 98 (jmBl σ)) ∨
  (¬ jbad σ ∧ (jmW σ).1 = 0 ∧ v = some (0, -1) ∧ t = (jmW σ).2) ∨
  (¬ jbad σ ∧ (jmW σ).1 = 1 ∧ (jmF σ).1 = 0 ∧ v = some (0, -1) ∧ t = (jmF σ).2) ∨
  (¬ jbad σ ∧ (jmW σ).1 = 1 ∧ (jmF σ).1 = 1 ∧ v = some (0, t 7 19) ∧ jmEd (jmF σ).2 t)
/-- what the walk's memory is, for the next steps -/
theorem jm0_kp (σ : JM) : ∀ a b, ¬ (a = 7 ∧ (b = 0 ∨ (13 ≤ b ∧ b ≤ 20))) → jm0 σ a b = σ a b := fun a b h => by
  unfold jm0
  rw [jset_ne _ (by omega), jset_ne _ (by omega), jset_ne _ (by omega), jset_ne _ (by omega), jset_ne _ (by omega), jset_ne _ (by omega), jset_ne _ (by omega), jset_ne _ (by omega)]
theorem jwf.c {σ τ : JM} (h : jwf σ) (e : ∀ a b, ((a = 7 ∧ (b = 1 ∨ b = 2)) ∨ (34 ≤ a ∧ a ≤ 41)) → τ a b = σ a b) : jwf τ := by
  have r : ∀ a : Nat, 34 ≤ a → a ≤ 41 → τ a = σ a := fun a a0 a1 => funext fun b => e a b (Or.inr ⟨a0, a1⟩)
  unfold jwf jW at h ⊢
  rw [e 7 1 (by omega), e 7 2 (by omega), r 34 (by decide) (by decide), r 35 (by decide) (by decide), r 36 (by decide) (by decide), r 37 (by decide) (by decide), r 38 (by decide) (by decide), r 40 (by decide) (by decide), r 41 (by decide) (by decide)]
  exact h
theorem jm0_7 (σ : JM) : jm0 σ 7 16 = 0 ∧ jm0 σ 7 17 = 0 ∧ jm0 σ 7 18 = 0 ∧ jm0 σ 7 1 = σ 7 1 := ⟨rfl, rfl, rfl, rfl⟩
theorem jmW_pre {σ : JM} (hw : jwf σ) : jwf (jm0 σ) ∧ jkp (jm0 σ) (jnsc (jm0 σ) (-1)) ∧ jwi (jnsc (jm0 σ) (-1)) ∧ jwc (jm0 σ) 0 (σ 7 1) 0 0 0 ∧ jW (jm0 σ) 0 (σ 7 1) ∧ jnsc (jm0 σ) (-1) 7 17 = 1 ∧ jit (jm0 σ) (jnsc (jm0 σ) (-1)) := by
  have w0 : jwf (jm0 σ) := hw.c (fun a b h => jm0_kp σ a b (by omega))
  have m := jnsc_7 (jm0 σ) (-1)
  have m0 := jm0_7 σ
  have ln := hw.ln
  refine ⟨w0, (jkp.rfl _).nsc _, ⟨by omega, by omega, by omega⟩, ⟨by omega, by omega, by omega, by omega, by omega, by omega, by omega⟩, ?_, by omega, jit.nsc ⟨fun s s0 s1 => by omega, fun i i0 i1 => by omega⟩ (by omega) (by omega)⟩
  have := w0.al
  rw [m0.2.2.2] at this
  exact this
theorem jmW_o {σ : JM} (hw : jwf σ) : jwo (jm0 σ) (jnsc (jm0 σ) (-1)) (jmW σ) ∧ jit (jm0 σ) (jmW σ).2 := by
  obtain ⟨w0, k, i, c, w, e, j⟩ := jmW_pre hw
  exact ⟨jwk_o w0 _ _ _ _ _ _ _ _ _ _ k i c w, jwk_j w0 _ _ _ _ _ _ _ _ _ _ k i c w (by omega) (by omega) (by omega) j⟩
theorem jfd_r {σ : JM} (a : Int) : ∀ (f : Nat) (s : Int), jfdN σ a f s = -1 ∨ (0 ≤ jfdN σ a f s ∧ jfdN σ a f s < σ 7 16) := by
  intro f
  induction f with
  | zero => intro s; exact Or.inl rfl
  | succ f ih =>
    intro s
    unfold jfdN
    split
    · exact Or.inl rfl
    · split
      · rcases jfs_cases (P := jdp σ a s) (σ 7 16) with z | z
        · exact Or.inl z.1
        · exact Or.inr ⟨z.1, z.2.1⟩
      · exact ih _
theorem jaf_b (σ : JM) : ∀ n : Nat, (jaf σ n).1 = 0 ∨ (jaf σ n).1 = 1 := by
  intro n
  induction n with
  | zero => exact Or.inr rfl
  | succ n ih => unfold jaf; split; exact ih; split; split; exact Or.inl rfl; exact Or.inr rfl; exact ih
theorem jaf_t (σ : JM) : ∀ n : Nat, (jaf σ n).1 = 1 → ∀ i : Int, 0 ≤ i → i < n → (σ 44 i = 3 ∨ σ 44 i = 4) → (jaf σ n).2 49 i = jfd σ i ∧ jfd σ i ≠ -1 := by
  intro n
  induction n with
  | zero => intro _ i h0 h1; omega
  | succ n ih =>
    intro h1 i i0 i1 hi
    unfold jaf at h1 ⊢
    by_cases c : (jaf σ n).1 = 0
    · rw [if_pos c] at h1; rw [c] at h1; exact absurd h1 (by decide)
    · rw [if_neg c] at h1 ⊢
      have c1 : (jaf σ n).1 = 1 := (jaf_b σ n).resolve_left c
      by_cases q : σ 44 n = 3 ∨ σ 44 n = 4
      · rw [if_pos q] at h1 ⊢
        by_cases z : jfd σ n = -1
        · rw [if_pos z] at h1; exact absurd h1 (show ¬ (0 : Int) = 1 by decide)
        · rw [if_neg z]
          show jset (jaf σ n).2 49 n (jfd σ n) 49 i = _ ∧ _
          by_cases e : i = n
          · rw [e, jset_eq]; exact ⟨rfl, z⟩
          · rw [jset_nj _ e]; exact ih c1 i i0 (by omega) hi
      · rw [if_neg q]
        by_cases e : i = n
        · rw [e] at hi; exact absurd hi q
        · exact ih c1 i i0 (by omega) hi
/-- what the found targets' memory is good for -/
theorem jmF_ok {σ : JM} (hw : jwf σ) (h1 : (jmF σ).1 = 1) : jmok (jmF σ).2 ∧ (∀ i, 0 ≤ i → i < (jmF σ).2 7 16 → ((jmF σ).2 44 i = 3 ∨ (jmF σ).2 44 i = 4) → 0 ≤ (jmF σ).2 49 i ∧ (jmF σ).2 49 i < (jmF σ).2 7 16) ∧ (∀ i, 0 ≤ i → i < (jmF σ).2 7 16 → (jmF σ).2 50 i = 0) := by
  obtain ⟨⟨k, i, -⟩, j⟩ := jmW_o hw
  have w0 := (jmW_pre hw).1
  have ln := w0.ln
  have fr := fun {a : Nat} {b : Int} => @jaf_ne (jmW σ).2 ((jmW σ).2 7 16).toNat a b
  have e16 : (jmF σ).2 7 16 = (jmW σ).2 7 16 := fr (by decide) (by omega)
  have i0 := i.1
  refine ⟨⟨by omega, fun x x0 x1 => ?_⟩, fun x x0 x1 hx => ?_, fun x x0 x1 => ?_⟩
  · rw [e16] at x1
    obtain ⟨a1, a2, a3, a4, a5, a6, a7⟩ := j.2 x x0 x1
    have so := w0.so _ a1.1 a1.2
    have o2 := w0.op2 _ a1.1 a1.2
    rw [show (jmF σ).2 44 x = (jmW σ).2 44 x from fr (by decide) (by omega), show (jmF σ).2 45 x = (jmW σ).2 45 x from fr (by decide) (by omega), show (jmF σ).2 43 x = (jmW σ).2 43 x from fr (by decide) (by omega), show (jmF σ).2 36 ((jmW σ).2 43 x) = (jmW σ).2 36 ((jmW σ).2 43 x) from fr (by decide) (by omega), k 36 _ (by omega) (by omega) (by omega)]
    exact ⟨by omega, fun q => by have := a5 q; omega, a4, by omega, fun q => o2 (by omega)⟩
  · rw [e16] at x1 ⊢
    rw [show (jmF σ).2 44 x = (jmW σ).2 44 x from fr (by decide) (by omega)] at hx
    have z := jaf_t (jmW σ).2 ((jmW σ).2 7 16).toNat h1 x x0 (by omega) hx
    have r := jfd_r (σ := (jmW σ).2) ((jmW σ).2 45 x) (((jmW σ).2 46 x).toNat + 2) ((jmW σ).2 46 x)
    have z1 : (jmF σ).2 49 x = jfd (jmW σ).2 x := z.1
    rw [z1]
    exact r.resolve_left z.2
  · rw [e16] at x1
    rw [show (jmF σ).2 50 x = (jmW σ).2 50 x from fr (by decide) (by omega)]
    exact (j.2 x x0 x1).2.2.2.2.2.2

theorem jmLok_of {σ : JM} (h : jmok σ) (hT : ∀ i, 0 ≤ i → i < σ 7 16 → (σ 44 i = 3 ∨ σ 44 i = 4) → 0 ≤ σ 49 i ∧ σ 49 i < σ 7 16) (hA : ∀ i, 0 ≤ i → i < σ 7 16 → σ 48 i = jad (jmK σ) (jmV σ) i) : jmLok σ := by
  refine ⟨⟨h.1.1, h.1.2, fun i i0 i1 => ?_⟩, fun i i0 i1 => ?_, hA⟩
  · obtain ⟨a, b, c, d, e⟩ := h.2 i i0 i1
    refine ⟨jmsz h i i0 i1, fun q => hT i i0 i1 ?_, ?_, ?_⟩
    · unfold jmK jkof at q
      have : σ 44 i = 0 ∨ σ 44 i = 1 ∨ σ 44 i = 2 ∨ σ 44 i = 3 ∨ σ 44 i = 4 ∨ σ 44 i = 5 := by omega
      rcases this with z | z | z | z | z | z <;> rw [z] at q ⊢ <;> simp at q ⊢
    · unfold jmK jkof
      have : σ 44 i = 0 ∨ σ 44 i = 1 ∨ σ 44 i = 2 ∨ σ 44 i = 3 ∨ σ 44 i = 4 ∨ σ 44 i = 5 := by omega
      rcases this with z | z | z | z | z | z <;> rw [z] <;> simp
      by_cases g : σ 50 i = 0 <;> simp [g]
    · unfold jmV
      split
      · have := e (by assumption); omega
      · omega
  · obtain ⟨a, b, c, d, e⟩ := h.2 i i0 i1
    exact ⟨a, d, c, fun q => by have := b q; omega, e⟩
/-- the rows that kinds and values are made of -/
theorem jmK_c {σ τ : JM} (h1 : ∀ b, τ 44 b = σ 44 b) (h2 : ∀ b, τ 50 b = σ 50 b) : jmK τ = jmK σ := funext fun i => by unfold jmK; rw [h1, h2]
theorem jmV_c {σ τ : JM} (h1 : ∀ b, τ 44 b = σ 44 b) (h2 : ∀ b, τ 36 b = σ 36 b) (h3 : ∀ b, τ 43 b = σ 43 b) (h4 : ∀ b, τ 45 b = σ 45 b) : jmV τ = jmV σ := funext fun i => by unfold jmV; rw [h1, h2, h3, h4]
theorem jmok_c {σ τ : JM} (h : ∀ a b, (a = 44 ∨ a = 45 ∨ a = 43 ∨ a = 36 ∨ (a = 7 ∧ b = 16)) → τ a b = σ a b) (q : jmok σ) : jmok τ := by
  unfold jmok at q ⊢
  rw [h 7 16 (by omega), show τ 44 = σ 44 from funext fun b => h 44 b (by omega), show τ 45 = σ 45 from funext fun b => h 45 b (by omega), show τ 43 = σ 43 from funext fun b => h 43 b (by omega), show τ 36 = σ 36 from funext fun b => h 36 b (by omega)]
  exact q
def jmAE (ρ : JM) (v : Option JV) (t : JM) : Prop := v = some (0, t 7 19) ∧ jmEd ρ t
theorem as_w {ρ σ : JM} (hl : jmLok σ) (he : ∀ t, jMb σ t (jFN (jmK σ) (jmV σ) (σ 49) (σ 7 16).toNat) (jGN (jmK σ) (jmV σ) (σ 7 16).toNat) (jad (jmK σ) (jmV σ) (σ 7 16)) → jmEd ρ t) {l : Launch} {E : JE} : ∀ (m : Nat) (x : Int) (τ : JM), 0 ≤ x → x ≤ σ 7 16 → σ 7 16 - x < m → jMb σ τ (jFN (jmK σ) (jmV σ) (σ 49) (σ 7 16).toNat) (jGN (jmK σ) (jmV σ) (σ 7 16).toNat) (jad (jmK σ) (jmV σ) x) → V l E mX7_assemble 85 0 (jmAE ρ) jno 173 [(2, 7), (0, 1), (0, 1), (0, 0), (0, x)] [] τ := by
  have n2 := hl.1.2.1
  intro m
  induction m with
  | zero => intro x τ a1 a2 a3; omega
  | succ m ih =>
    intro x τ a1 a2 a3 a4
    have e16 : τ 7 16 = σ 7 16 := a4.1 7 16 (by decide) (by decide)
    refine V.iload dX7_assemble_173 rfl ?_
    refine V.aload_n dX7_assemble_175 rfl ?_
    refine V.getI fa_X7_124 (by decide) rfl dX7_assemble_176 (fun _ => ?_)
    rw [e16]
    refine V.icmp_ge (tgt := 194) dX7_assemble_179 (by decide) (fun h179 => ?_) (fun h179 => ?_)
    · refine V.aload_n dX7_assemble_194 rfl ?_
      refine V.getI fa_X7_162 (by decide) rfl dX7_assemble_195 (fun _ => ?_)
      exact V.iret (jret_i dX7_assemble_198 rfl) ⟨rfl, he τ ((show x = σ 7 16 by omega) ▸ a4)⟩
    · refine V.aload_n dX7_assemble_182 rfl ?_
      refine V.iload dX7_assemble_183 rfl ?_
      refine V.callV [_] rfl kc_X7_189 rfl dX7_assemble_185 (d' := 1) (by decide) (Nat.zero_le 0) rfl (fun _ _ => sp_X7_writes hl a1 (by omega) a4) rfl (fun v τ2 hτ2 hv => ?_) (fun X σ' hx => hx.elim)
      obtain rfl := hτ2.1
      refine V.iinc (L' := [_, _, _, _, _]) dX7_assemble_188 rfl ⟨(by omega), (by omega)⟩ rfl ?_
      refine V.goto (tgt := 173) dX7_assemble_191 (by decide) ?_
      exact ih (x + 1) τ2 (by omega) (by omega) (by omega) hτ2.2
theorem as_z {ρ σ : JM} (hl : jmLok σ) (he : ∀ t, jMb σ t (jFN (jmK σ) (jmV σ) (σ 49) (σ 7 16).toNat) (jGN (jmK σ) (jmV σ) (σ 7 16).toNat) (jad (jmK σ) (jmV σ) (σ 7 16)) → jmEd ρ t) {l : Launch} {E : JE} : V l E mX7_assemble 85 0 (jmAE ρ) jno 148 [(2, 7), (0, 1), (0, 1), (0, 0), (9, 0)] [] σ := by
  have n0 := hl.1.1
  refine V.iload_n dX7_assemble_148 rfl ?_
  refine V.if_eq (tgt := 170) dX7_assemble_149 (by decide) (fun h149 => ?_) (fun h149 => ?_)
  · refine V.iconst dX7_assemble_170 ⟨by decide, by decide⟩ ?_
    refine V.istore (L' := [_, _, _, _, _]) dX7_assemble_171 rfl rfl ?_
    exact as_w hl he ((σ 7 16).toNat + 1) 0 σ (Int.le_refl _) n0 (by omega) ⟨fun _ _ _ _ => rfl, fun b hb => by rw [jad_0] at hb; omega⟩
  · exact absurd rfl h149
theorem V.monoR {l : Launch} {E : JE} {i : JI} {d n : Nat} {Qr Qr' : Option JV → JM → Prop} {Qx : String → JM → Prop} {pc : Nat} {L st : List JV} {σ : JM} (h : V l E i d n Qr Qx pc L st σ) (k : ∀ v t, Qr v t → Qr' v t) : V l E i d n Qr' Qx pc L st σ := fun p e R s m args below meth c A cm sm Z hF hX hZ => h p e R s m args below meth c A cm sm Z hF hX ⟨fun H locs cells slots σ v pc ls q1 q2 q3 q4 q5 q6 => hZ.1 H locs cells slots σ v pc ls q1 q2 q3 q4 q5 (k v σ q6), hZ.2⟩
theorem as_l {ρ : JM} {K' : Int → Int} {P' : Int} (eK : K' = jplK (ρ 49) (jmV ρ) (ρ 7 16) 201 (jmK ρ)) (eP : P' = jplP (ρ 49) (jmV ρ) (ρ 7 16) 201 (jmK ρ)) (h : jmok ρ) (hT : ∀ i, 0 ≤ i → i < ρ 7 16 → (ρ 44 i = 3 ∨ ρ 44 i = 4) → 0 ≤ ρ 49 i ∧ ρ 49 i < ρ 7 16) {l : Launch} {E : JE} : ∀ (f : Nat) (τ : JM), f ≤ 201 → (∀ a b, a ≠ 48 → a ≠ 50 → ¬ (a = 7 ∧ (b = 19 ∨ b = 20)) → τ a b = ρ a b) → jsh6 (jmK τ) (ρ 7 16) < f → (0 ≤ τ 7 20 ∧ τ 7 20 + f ≤ 500) → jplK (ρ 49) (jmV ρ) (ρ 7 16) f (jmK τ) = K' → τ 7 20 + jplP (ρ 49) (jmV ρ) (ρ 7 16) f (jmK τ) = P' → V l E mX7_assemble 85 0 (jmAE ρ) jno 148 [(2, 7), (0, 1), (0, 1), (0, 1), (9, 0)] [] τ := by
  intro f
  induction f with
  | zero => intro τ _ _ a2; have := (jsh6_le (K := jmK τ) (n := ρ 7 16) h.1.1).1; omega
  | succ f ih =>
    intro τ a0 a1 a2 a3 a4 a5
    obtain ⟨σ, hσ⟩ : ∃ σ, jset τ 7 20 (τ 7 20 + 1) = σ := ⟨_, rfl⟩
    have b1 : ∀ a b, a ≠ 48 → a ≠ 50 → ¬ (a = 7 ∧ (b = 19 ∨ b = 20)) → σ a b = ρ a b := fun a b c1 c2 c3 => by rw [← hσ, jset_ne _ (by omega)]; exact a1 a b c1 c2 c3
    have b2 : jmK σ = jmK τ := by rw [← hσ]; rfl
    have b3 : jmV σ = jmV ρ := jmV_c (fun b => b1 44 b (by decide) (by decide) (by omega)) (fun b => b1 36 b (by decide) (by decide) (by omega)) (fun b => b1 43 b (by decide) (by decide) (by omega)) (fun b => b1 45 b (by decide) (by decide) (by omega))
    have b4 : σ 49 = ρ 49 := funext fun b => b1 49 b (by decide) (by decide) (by omega)
    have b5 : σ 7 16 = ρ 7 16 := b1 7 16 (by decide) (by decide) (by omega)
    have b6 : jmok σ := jmok_c (fun a b q => b1 a b (by omega) (by omega) (by omega)) h
    have b7 : jmT σ := fun i i0 i1 i2 => by
      rw [b5] at i1 ⊢
      rw [b4]
      exact hT i i0 i1 (Or.inl (by rw [← b1 44 i (by decide) (by decide) (by omega)]; exact i2))
    have cK := jmLn_K b6 b7
    have cC := jmLn_c b6 b7
    rw [b4, b3, b5, b2] at cK
    rw [b4, b3, b2, b5] at cC
    have c1 : ∀ a b, a ≠ 48 → a ≠ 50 → ¬ (a = 7 ∧ (b = 19 ∨ b = 20)) → jmLn σ a b = ρ a b := fun a b n1 n2 n3 => by rw [jmLn_ne σ n1 n2 (by omega)]; exact b1 a b n1 n2 n3
    have c20 : jmLn σ 7 20 = τ 7 20 + 1 := by rw [jmLn_ne σ (by decide) (by decide) (by omega), ← hσ, jset_eq]
    have c3 : jmV (jmLn σ) = jmV ρ := jmV_c (fun b => c1 44 b (by decide) (by decide) (by omega)) (fun b => c1 36 b (by decide) (by decide) (by omega)) (fun b => c1 43 b (by decide) (by decide) (by omega)) (fun b => c1 45 b (by decide) (by decide) (by omega))
    have c5 : jmLn σ 7 16 = ρ 7 16 := c1 7 16 (by decide) (by decide) (by omega)
    have c4 : jmLn σ 49 = ρ 49 := funext fun b => c1 49 b (by decide) (by decide) (by omega)
    have s6 := jsh6_n (T := ρ 49) (v := jmV ρ) h.1.1 (jmK τ)
    have next : V l E mX7_assemble 85 0 (jmAE ρ) jno 148 [(2, 7), (0, 1), (0, 1), (0, if 0 < jnc (ρ 49) (jmV ρ) (ρ 7 16) (jmK τ) then 1 else 0), (9, 0)] [] (jmLn σ) := by
      by_cases c : 0 < jnc (ρ 49) (jmV ρ) (ρ 7 16) (jmK τ)
      · rw [if_pos c]
        unfold jplK at a4
        unfold jplP at a5
        rw [if_pos c] at a4 a5
        exact ih (jmLn σ) (by omega) c1 (by rw [cK]; omega) (by omega) (by rw [cK]; exact a4) (by rw [cK, c20]; omega)
      · rw [if_neg c]
        unfold jplK at a4
        unfold jplP at a5
        rw [if_neg c] at a4 a5
        rw [jnK_id _ c] at cK
        have hA : ∀ i, 0 ≤ i → i < jmLn σ 7 16 → jmLn σ 48 i = jad (jmK (jmLn σ)) (jmV (jmLn σ)) i := fun i i0 i1 => by
          rw [c5] at i1
          rw [jmLn_a σ i0 (by rw [b5]; exact i1), cK, c3, b2, b3]
        have hl : jmLok (jmLn σ) := jmLok_of (jmok_c (fun a b q => c1 a b (by omega) (by omega) (by omega)) h) (fun i i0 i1 i2 => by
          rw [c5] at i1 ⊢
          rw [c4]
          exact hT i i0 i1 (by rw [← c1 44 i (by decide) (by decide) (by omega)]; exact i2)) hA
        refine as_z hl (fun t ht => ?_)
        rw [c4, c5, c3] at ht
        have kt : jmK t = jmK (jmLn σ) := jmK_c (fun b => ht.1 44 b (by decide) (by decide)) (fun b => ht.1 50 b (by decide) (by decide))
        refine ⟨fun a b n1 n2 n3 n4 n5 => (ht.1 a b n3 n4).trans (c1 a b n1 n2 n5), ?_, ?_, ?_, fun i i0 i1 => ?_, fun b b0 b1 => ?_⟩
        · rw [kt, cK, ← eK]; exact a4
        · rw [ht.1 7 20 (by decide) (by decide), c20, ← eP]; omega
        · rw [ht.1 7 19 (by decide) (by decide), kt, jmLn_w, b2, b3, b5, cK]
        · rw [ht.1 48 i (by decide) (by decide), hA i i0 (by rw [c5]; exact i1), kt, c3]
        · rw [kt] at b1 ⊢
          exact ht.2 b (Or.inl ⟨b0, b1⟩)
    refine V.iload_n dX7_assemble_148 rfl ?_
    refine V.if_eq (tgt := 170) dX7_assemble_149 (by decide) (fun h149 => ?_) (fun h149 => ?_)
    · exfalso; omega
    · refine V.aload_n dX7_assemble_152 rfl ?_
      refine V.dup dX7_assemble_153 rfl ?_
      refine V.getI fa_X7_179 (by decide) rfl dX7_assemble_154 (fun _ => ?_)
      refine V.iconst dX7_assemble_157 ⟨by decide, by decide⟩ ?_
      refine V.iadd dX7_assemble_158 ⟨(by omega), (by omega)⟩ ?_
      refine V.putI fa_X7_179 (by decide) rfl dX7_assemble_159 (Or.inl rfl) ?_
      rw [hσ]
      refine V.aload_n dX7_assemble_162 rfl ?_
      refine V.cV [] rfl kc_X7_186 rfl dX7_assemble_163 (by decide) rfl rfl (sp_X7_lengthens (σ := σ) b6 b7) (fun _ => ?_)
      rw [b5, cC]
      refine V.istore_n (L' := [_, _, _, _, _]) dX7_assemble_166 rfl rfl ?_
      refine V.goto (tgt := 148) dX7_assemble_167 (by decide) ?_
      exact next
theorem sp_X7_assemble {σ : JM} (hw : jwf σ) (hg : 0 ≤ σ 7 4 ∧ σ 7 4 ≤ 80) (hm : -1 ≤ σ 7 3 ∧ σ 7 3 < 8) : JSp mX7_assemble 85 0 [(2, 7)] σ (jmAs σ) jno := by
  have m0 := jm0_7 σ
  have ln := hw.ln
  have mc := hw.mc
  refine JSp.of [(2, 7), (9, 0), (9, 0), (9, 0), (9, 0)] rfl (by decide +kernel) rfl rfl rfl (fun l E hA => ?_)
  have e4 : jm0 σ 7 4 = σ 7 4 := rfl
  have e3 : jm0 σ 7 3 = σ 7 3 := rfl
  have bad : jbad σ → V l E mX7_assemble 85 0 (jmAs σ) jno 56 [(2, 7), (9, 0), (9, 0), (9, 0), (9, 0)] [] (jm0 σ) := by
    intro hb
    refine V.aload_n dX7_assemble_56 rfl ?_
    refine V.bipush dX7_assemble_57 ⟨by decide, by decide⟩ ?_
    refine V.aload_n dX7_assemble_59 rfl ?_
    refine V.getI fa_X7_111 (by decide) rfl dX7_assemble_60 (fun _ => ?_)
    rw [e4]
    refine V.if_le (tgt := 80) dX7_assemble_63 (by decide) (fun h63 => ?_) (fun h63 => ?_)
    · refine V.aload_n dX7_assemble_80 rfl ?_
      refine V.getR fa_X7_32 rfl dX7_assemble_81 ?_
      refine V.aload_n dX7_assemble_84 rfl ?_
      refine V.getI fa_X7_7 (by decide) rfl dX7_assemble_85 (fun _ => ?_)
      rw [e3]
      refine V.iald (cell := 40) 0 rfl rfl rfl rfl dX7_assemble_88 (by unfold jbad at hb; omega) (by omega) (fun _ => ?_)
      rw [jm0_kp σ 40 _ (by omega)]
      refine V.cV [_, _] rfl kc_X7_130 rfl dX7_assemble_89 (by decide) rfl rfl (sp_X7_stops (by decide)) (fun _ => ?_)
      refine V.if_eq (tgt := 99) dX7_assemble_92 (by decide) (fun h92 => ?_) (fun h92 => ?_)
      · refine V.iconst dX7_assemble_99 ⟨by decide, by decide⟩ ?_
        refine V.istore_n (L' := [_, _, _, _, _]) dX7_assemble_100 rfl rfl ?_
        refine V.iload_n dX7_assemble_101 rfl ?_
        refine V.if_eq (tgt := 138) dX7_assemble_102 (by decide) (fun h102 => ?_) (fun h102 => ?_)
        · refine V.iconst dX7_assemble_138 ⟨by decide, by decide⟩ ?_
          refine V.istore_n (L' := [_, _, _, _, _]) dX7_assemble_139 rfl rfl ?_
          refine V.iload_n dX7_assemble_140 rfl ?_
          refine V.if_ne (tgt := 146) dX7_assemble_141 (by decide) (fun h141 => ?_) (fun h141 => ?_)
          · exact absurd rfl h141
          · refine V.iconst dX7_assemble_144 ⟨by decide, by decide⟩ ?_
            exact V.iret (jret_i dX7_assemble_145 rfl) (Or.inl ⟨hb, rfl, by unfold jmBl; first | rw [if_pos (by omega)] | rw [if_neg (by omega)]⟩)
        · exact absurd rfl h102
      · exact absurd rfl h92
    · refine V.aload_n dX7_assemble_66 rfl ?_
      refine V.getR fa_X7_29 rfl dX7_assemble_67 ?_
      refine V.aload_n dX7_assemble_70 rfl ?_
      refine V.getI fa_X7_111 (by decide) rfl dX7_assemble_71 (fun _ => ?_)
      rw [e4]
      refine V.iconst dX7_assemble_74 ⟨by decide, by decide⟩ ?_
      refine V.isub dX7_assemble_75 ⟨(by omega), (by omega)⟩ ?_
      refine V.iald (cell := 39) 0 rfl rfl rfl rfl dX7_assemble_76 (by omega) (by omega) (fun _ => ?_)
      rw [jm0_kp σ 39 _ (by omega)]
      refine V.goto (tgt := 89) dX7_assemble_77 (by decide) ?_
      refine V.cV [_, _] rfl kc_X7_130 rfl dX7_assemble_89 (by decide) rfl rfl (sp_X7_stops (by decide)) (fun _ => ?_)
      refine V.if_eq (tgt := 99) dX7_assemble_92 (by decide) (fun h92 => ?_) (fun h92 => ?_)
      · refine V.iconst dX7_assemble_99 ⟨by decide, by decide⟩ ?_
        refine V.istore_n (L' := [_, _, _, _, _]) dX7_assemble_100 rfl rfl ?_
        refine V.iload_n dX7_assemble_101 rfl ?_
        refine V.if_eq (tgt := 138) dX7_assemble_102 (by decide) (fun h102 => ?_) (fun h102 => ?_)
        · refine V.iconst dX7_assemble_138 ⟨by decide, by decide⟩ ?_
          refine V.istore_n (L' := [_, _, _, _, _]) dX7_assemble_139 rfl rfl ?_
          refine V.iload_n dX7_assemble_140 rfl ?_
          refine V.if_ne (tgt := 146) dX7_assemble_141 (by decide) (fun h141 => ?_) (fun h141 => ?_)
          · exact absurd rfl h141
          · refine V.iconst dX7_assemble_144 ⟨by decide, by decide⟩ ?_
            exact V.iret (jret_i dX7_assemble_145 rfl) (Or.inl ⟨hb, rfl, by unfold jmBl; first | rw [if_pos (by omega)] | rw [if_neg (by omega)]⟩)
        · exact absurd rfl h102
      · exact absurd rfl h92
  have good : ¬ jbad σ → V l E mX7_assemble 85 0 (jmAs σ) jno 95 [(2, 7), (9, 0), (9, 0), (9, 0), (9, 0)] [] (jm0 σ) := by
    intro hb
    obtain ⟨w0, k, i, c, w, e17, jt⟩ := jmW_pre hw
    have wo := jmW_o hw
    have e1 : jm0 σ 7 1 = σ 7 1 := rfl
    have spW : JSp mX7_walks 84 0 [(2, 7), (0, 0), (0, σ 7 1), (0, 0), (0, 0), (0, 0), (0, 0), (0, 0), (0, 0)] (jnsc (jm0 σ) (-1)) (jrv (jmW σ).1 (jmW σ).2) jno := sp_X7_walks w0 k i c w (by omega) (by omega)
    have f1 := wo.1.2.1
    have f2 := wo.2
    have spF := sp_X7_areFound (σ := (jmW σ).2) f1.1.1 f1.1.2 f2.1 (by have := f1.2; omega) (fun x x0 x1 => by have := (f2.2 x x0 x1).2.2.2.2.2.1; omega)
    refine V.iconst dX7_assemble_95 ⟨by decide, by decide⟩ ?_
    refine V.goto (tgt := 100) dX7_assemble_96 (by decide) ?_
    refine V.istore_n (L' := [_, _, _, _, _]) dX7_assemble_100 rfl rfl ?_
    refine V.iload_n dX7_assemble_101 rfl ?_
    refine V.if_eq (tgt := 138) dX7_assemble_102 (by decide) (fun h102 => ?_) (fun h102 => ?_)
    · exfalso; omega
    · refine V.aload_n dX7_assemble_105 rfl ?_
      refine V.iconst dX7_assemble_106 ⟨by decide, by decide⟩ ?_
      refine V.aload_n dX7_assemble_107 rfl ?_
      refine V.getI fa_X7_89 (by decide) rfl dX7_assemble_108 (fun _ => ?_)
      rw [e1]
      refine V.aload_n dX7_assemble_111 rfl ?_
      refine V.iconst dX7_assemble_112 ⟨by decide, by decide⟩ ?_
      refine V.cV [_] rfl kc_X7_144 rfl dX7_assemble_113 (by decide) rfl rfl (sp_X7_newScope (σ := jm0 σ) (by omega) (by omega)) (fun _ => ?_)
      rw [show jm0 σ 7 17 = 0 from rfl]
      refine V.iconst dX7_assemble_116 ⟨by decide, by decide⟩ ?_
      refine V.iconst dX7_assemble_117 ⟨by decide, by decide⟩ ?_
      refine V.iconst dX7_assemble_118 ⟨by decide, by decide⟩ ?_
      refine V.iconst dX7_assemble_119 ⟨by decide, by decide⟩ ?_
      refine V.iconst dX7_assemble_120 ⟨by decide, by decide⟩ ?_
      refine V.cV [_, _, _, _, _, _, _, _] rfl kc_X7_147 rfl dX7_assemble_121 (by decide) rfl rfl spW (fun _ => ?_)
      refine V.if_eq (tgt := 138) dX7_assemble_124 (by decide) (fun h124 => ?_) (fun h124 => ?_)
      · refine V.iconst dX7_assemble_138 ⟨by decide, by decide⟩ ?_
        refine V.istore_n (L' := [_, _, _, _, _]) dX7_assemble_139 rfl rfl ?_
        refine V.iload_n dX7_assemble_140 rfl ?_
        refine V.if_ne (tgt := 146) dX7_assemble_141 (by decide) (fun h141 => ?_) (fun h141 => ?_)
        · first
          | exact absurd rfl h141
          | refine V.iconst dX7_assemble_146 ⟨by decide, by decide⟩ ?_
            refine V.istore_n (L' := [_, _, _, _, _]) dX7_assemble_147 rfl rfl ?_
            have w1 := wo.1.2.2.2.1.resolve_left h124
            have F1 : (jmF σ).1 = 1 := (jaf_b _ _).resolve_left h131
            obtain ⟨g1, g2, g3⟩ := jmF_ok hw F1
            have e20 : (jmF σ).2 7 20 = 0 := by
              have z : (jmF σ).2 7 20 = (jmW σ).2 7 20 := jaf_ne _ _ (by decide) (by omega)
              rw [z, wo.1.1 7 20 (by omega) (by decide) (by omega)]
              rfl
            have s6 := jsh6_le (K := jmK (jmF σ).2) g1.1.1
            exact (as_l rfl rfl g1 g2 201 (jmF σ).2 (by decide) (fun _ _ _ _ _ => rfl) (by have := g1.1; omega) (by omega) rfl (by omega)).monoR (fun v t hq => Or.inr (Or.inr (Or.inr ⟨hb, w1, F1, hq.1, hq.2⟩)))
        · refine V.iconst dX7_assemble_144 ⟨by decide, by decide⟩ ?_
          exact V.iret (jret_i dX7_assemble_145 rfl) (by first | exact Or.inr (Or.inl ⟨hb, h124, rfl, rfl⟩) | exact Or.inr (Or.inr (Or.inl ⟨hb, wo.1.2.2.2.1.resolve_left h124, h131, rfl, rfl⟩)) | exact absurd h141 (by decide))
      · refine V.aload_n dX7_assemble_127 rfl ?_
        refine V.cV [] rfl kc_X7_182 rfl dX7_assemble_128 (by decide) rfl rfl spF (fun _ => ?_)
        refine V.if_eq (tgt := 138) dX7_assemble_131 (by decide) (fun h131 => ?_) (fun h131 => ?_)
        · refine V.iconst dX7_assemble_138 ⟨by decide, by decide⟩ ?_
          refine V.istore_n (L' := [_, _, _, _, _]) dX7_assemble_139 rfl rfl ?_
          refine V.iload_n dX7_assemble_140 rfl ?_
          refine V.if_ne (tgt := 146) dX7_assemble_141 (by decide) (fun h141 => ?_) (fun h141 => ?_)
          · first
            | exact absurd rfl h141
            | refine V.iconst dX7_assemble_146 ⟨by decide, by decide⟩ ?_
              refine V.istore_n (L' := [_, _, _, _, _]) dX7_assemble_147 rfl rfl ?_
              have w1 := wo.1.2.2.2.1.resolve_left h124
              have F1 : (jmF σ).1 = 1 := (jaf_b _ _).resolve_left h131
              obtain ⟨g1, g2, g3⟩ := jmF_ok hw F1
              have e20 : (jmF σ).2 7 20 = 0 := by
                have z : (jmF σ).2 7 20 = (jmW σ).2 7 20 := jaf_ne _ _ (by decide) (by omega)
                rw [z, wo.1.1 7 20 (by omega) (by decide) (by omega)]
                rfl
              have s6 := jsh6_le (K := jmK (jmF σ).2) g1.1.1
              exact (as_l rfl rfl g1 g2 201 (jmF σ).2 (by decide) (fun _ _ _ _ _ => rfl) (by have := g1.1; omega) (by omega) rfl (by omega)).monoR (fun v t hq => Or.inr (Or.inr (Or.inr ⟨hb, w1, F1, hq.1, hq.2⟩)))
          · refine V.iconst dX7_assemble_144 ⟨by decide, by decide⟩ ?_
            exact V.iret (jret_i dX7_assemble_145 rfl) (by first | exact Or.inr (Or.inl ⟨hb, h124, rfl, rfl⟩) | exact Or.inr (Or.inr (Or.inl ⟨hb, wo.1.2.2.2.1.resolve_left h124, h131, rfl, rfl⟩)) | exact absurd h141 (by decide))
        · refine V.iconst dX7_assemble_134 ⟨by decide, by decide⟩ ?_
          refine V.goto (tgt := 139) dX7_assemble_135 (by decide) ?_
          refine V.istore_n (L' := [_, _, _, _, _]) dX7_assemble_139 rfl rfl ?_
          refine V.iload_n dX7_assemble_140 rfl ?_
          refine V.if_ne (tgt := 146) dX7_assemble_141 (by decide) (fun h141 => ?_) (fun h141 => ?_)
          · first
            | exact absurd rfl h141
            | refine V.iconst dX7_assemble_146 ⟨by decide, by decide⟩ ?_
              refine V.istore_n (L' := [_, _, _, _, _]) dX7_assemble_147 rfl rfl ?_
              have w1 := wo.1.2.2.2.1.resolve_left h124
              have F1 : (jmF σ).1 = 1 := (jaf_b _ _).resolve_left h131
              obtain ⟨g1, g2, g3⟩ := jmF_ok hw F1
              have e20 : (jmF σ).2 7 20 = 0 := by
                have z : (jmF σ).2 7 20 = (jmW σ).2 7 20 := jaf_ne _ _ (by decide) (by omega)
                rw [z, wo.1.1 7 20 (by omega) (by decide) (by omega)]
                rfl
              have s6 := jsh6_le (K := jmK (jmF σ).2) g1.1.1
              exact (as_l rfl rfl g1 g2 201 (jmF σ).2 (by decide) (fun _ _ _ _ _ => rfl) (by have := g1.1; omega) (by omega) rfl (by omega)).monoR (fun v t hq => Or.inr (Or.inr (Or.inr ⟨hb, w1, F1, hq.1, hq.2⟩)))
          · refine V.iconst dX7_assemble_144 ⟨by decide, by decide⟩ ?_
            exact V.iret (jret_i dX7_assemble_145 rfl) (by first | exact Or.inr (Or.inl ⟨hb, h124, rfl, rfl⟩) | exact Or.inr (Or.inr (Or.inl ⟨hb, wo.1.2.2.2.1.resolve_left h124, h131, rfl, rfl⟩)) | exact absurd h141 (by decide))
  refine V.aload_n dX7_assemble_0 rfl ?_
  refine V.iconst dX7_assemble_1 ⟨by decide, by decide⟩ ?_
  refine V.putI fa_X7_82 (by decide) rfl dX7_assemble_2 (Or.inl rfl) ?_
  refine V.aload_n dX7_assemble_5 rfl ?_
  refine V.iconst dX7_assemble_6 ⟨by decide, by decide⟩ ?_
  refine V.putI fa_X7_175 (by decide) rfl dX7_assemble_7 (Or.inr (by first | exact Or.inl rfl | exact Or.inr rfl)) ?_
  refine V.aload_n dX7_assemble_10 rfl ?_
  refine V.bipush dX7_assemble_11 ⟨by decide, by decide⟩ ?_
  refine V.putI fa_X7_38 (by decide) rfl dX7_assemble_13 (Or.inr ⟨by decide, by decide⟩) ?_
  refine V.aload_n dX7_assemble_16 rfl ?_
  refine V.iconst dX7_assemble_17 ⟨by decide, by decide⟩ ?_
  refine V.putI fa_X7_124 (by decide) rfl dX7_assemble_18 (Or.inl rfl) ?_
  refine V.aload_n dX7_assemble_21 rfl ?_
  refine V.iconst dX7_assemble_22 ⟨by decide, by decide⟩ ?_
  refine V.putI fa_X7_121 (by decide) rfl dX7_assemble_23 (Or.inl rfl) ?_
  refine V.aload_n dX7_assemble_26 rfl ?_
  refine V.iconst dX7_assemble_27 ⟨by decide, by decide⟩ ?_
  refine V.putI fa_X7_137 (by decide) rfl dX7_assemble_28 (Or.inl rfl) ?_
  refine V.aload_n dX7_assemble_31 rfl ?_
  refine V.iconst dX7_assemble_32 ⟨by decide, by decide⟩ ?_
  refine V.putI fa_X7_179 (by decide) rfl dX7_assemble_33 (Or.inl rfl) ?_
  refine V.aload_n dX7_assemble_36 rfl ?_
  refine V.iconst dX7_assemble_37 ⟨by decide, by decide⟩ ?_
  refine V.putI fa_X7_162 (by decide) rfl dX7_assemble_38 (Or.inl rfl) ?_
  change V l E mX7_assemble 85 0 (jmAs σ) jno 41 [(2, 7), (9, 0), (9, 0), (9, 0), (9, 0)] [] (jm0 σ)
  refine V.aload_n dX7_assemble_41 rfl ?_
  refine V.getI fa_X7_111 (by decide) rfl dX7_assemble_42 (fun _ => ?_)
  rw [e4]
  refine V.if_ne (tgt := 56) dX7_assemble_45 (by decide) (fun h45 => ?_) (fun h45 => ?_)
  · exact bad (by first | exact Or.inl h45 | exact Or.inr h53)
  · refine V.aload_n dX7_assemble_48 rfl ?_
    refine V.getI fa_X7_7 (by decide) rfl dX7_assemble_49 (fun _ => ?_)
    rw [e3]
    refine V.iconst dX7_assemble_52 ⟨by decide, by decide⟩ ?_
    refine V.icmp_eq (tgt := 95) dX7_assemble_53 (by decide) (fun h53 => ?_) (fun h53 => ?_)
    · exact good (fun z => by rcases z with z | z <;> omega)
    · exact bad (by first | exact Or.inl h45 | exact Or.inr h53)
