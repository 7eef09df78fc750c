/-- a path over closed scopes does not change what is found -/
theorem jpt_fd {ρ : JM} {S : Int → Int} {h v : Int} (ho : jout ρ) : ∀ (n : Nat) (s t : Int), jpt ρ S h v n s t → jfdN ρ v (s.toNat + 2) s = jfdN ρ v (t.toNat + 2) t := by
  intro n
  induction n with
  | zero => intro s t p; cases p; rfl
  | succ n ih =>
    intro s t p
    obtain ⟨⟨⟨⟨s0, s1⟩, -⟩, a2⟩, p2⟩ := p
    have o := ho s s0 s1
    rw [← ih _ _ p2]
    have e : jfdN ρ v (s.toNat + 2) s = jfdN ρ v (s.toNat + 1) (ρ 42 s) := by
      rw [jfdN, if_neg (by omega), if_neg (by show ¬ jlk ρ v s ≠ -1; rw [a2]; simp)]
    rw [e]
    exact jfdN_ge ho _ _ o.1 (by omega) (by omega) _ (by omega) (by omega) (by omega)
theorem jfd_at {ρ : JM} {v s : Int} (h0 : 0 ≤ s) (h : jlk ρ v s ≠ -1) (f : Nat) : jfdN ρ v (f + 2) s = jlk ρ v s := by
  rw [jfdN, if_neg (by omega)]
  exact if_pos h
/-- what findNames leaves of the walk -/
def jxE (t ρ : JM) : Prop := (t 2 6 = ρ 7 16 ∧ t 3 5 = 0) ∧ (∀ i, 0 ≤ i → i < ρ 7 16 → (t 15 i = ρ 43 i ∧ t 16 i = jkof (ρ 44 i) 0 ∧ t 17 i = ρ 47 i ∧ t 18 i = jmV ρ i) ∧ t 19 i = (if jrk (ρ 44 i) then jfd ρ i else -1)) ∧ (∀ v, 0 ≤ v → v < 20 → t 21 v = jlk ρ v 0) ∧ (∀ i, 0 ≤ i → i < ρ 7 16 → ρ 44 i = 0 → ρ 45 i < 20) ∧
  (((∀ i, 0 ≤ i → i < ρ 7 16 → jrk (ρ 44 i) → jfd ρ i ≠ -1) ∧ t 4 9 = 110) ∨ ∃ i, (0 ≤ i ∧ i < ρ 7 16) ∧ (jrk (ρ 44 i) ∧ jfd ρ i = -1) ∧ (∀ j, 0 ≤ j → j < i → jrk (ρ 44 j) → jfd ρ j ≠ -1) ∧ t 4 9 = 117 ∧ t 4 10 = ρ 43 i)
theorem jx_19 {σ0 τ ρ : JM} {S : Int → Int} (h : jCD σ0 τ ρ S) (hj : jit σ0 ρ) (h1 : τ 3 5 = 1) {i : Int} (i0 : 0 ≤ i) (i1 : i < ρ 7 16) : jCls τ 19 i = (if jrk (ρ 44 i) then jfd ρ i else -1) := by
  have s0 := h.s0
  by_cases hk : jrk (ρ 44 i)
  · rw [if_pos hk]
    obtain ⟨n, s, p, c⟩ := (h.rf i i0 i1).1 hk
    have nm := h.nam hj i0 i1 hk
    have ef : jfd ρ i = jfdN ρ (ρ 45 i) (s.toNat + 2) s := jpt_fd hj.1 n _ _ p
    rcases c with ⟨j, j0, j1, j2, j3, j4⟩ | ⟨c1, c2, c3, c4⟩
    · have ej : j = 0 := by omega
      subst ej
      obtain ⟨o1, -⟩ := jCls_in (τ := τ) (i := i) (by rw [h1]; exact j4) (by rw [h.nn.1]; exact i1) (by rw [h1]; exact j2)
      rw [o1, h1, nm.1, show (1 : Int) - 1 = 0 by decide, h.lbl ⟨Int.le_refl 0, by omega⟩ nm.2, ef, j1, s0.2.1]
      by_cases z : jlk ρ (ρ 45 i) 0 = -1
      · rw [z]
        show -1 = jfdN ρ (ρ 45 i) (0 + 1 + 1) 0
        rw [jfdN, if_neg (by decide), if_neg (by show ¬ jlk ρ (ρ 45 i) 0 ≠ -1; rw [z]; simp), s0.2.2.2, jfdN, if_pos rfl]
      · exact (jfd_at (Int.le_refl 0) z 0).symm
    · obtain ⟨o1, -⟩ := jCls_out (τ := τ) (i := i) (by omega)
      rw [o1, c3, ef]
      exact (jfd_at c1.1.1 (by omega) _).symm
  · rw [if_neg hk]
    have a := (h.rf i i0 i1).2 hk
    obtain ⟨o1, -⟩ := jCls_out (τ := τ) (i := i) (by omega)
    rw [o1]; exact a.2
theorem jref_k {s : Int} (h : 0 ≤ s ∧ s ≤ 5) : jref (jkof s 0) ↔ jrk s := by
  have e : s = 0 ∨ s = 1 ∨ s = 2 ∨ s = 3 ∨ s = 4 ∨ s = 5 := by omega
  rcases e with e | e | e | e | e | e <;> subst e <;> decide
theorem jx_fn {σ0 τ ρ : JM} {S : Int → Int} (hw : jwf σ0) (i : jwi ρ) (h : jCD σ0 τ ρ S) (hj : jit σ0 ρ) (h1 : τ 3 5 = 1) : ∃ t : JM, JSp mX1_findNames 3 0 [(2, 4)] τ (jvv t) jno ∧ jkc σ0 t ∧ jxE t ρ := by
  have ne : ∀ {a : Nat} {b : Int}, a ≠ 19 ∧ a ≠ 24 → ¬ (a = 3 ∧ b = 5) → jCls τ a b = τ a b := fun a b => jCls_ne a b
  have s0 := h.s0
  have sb := h.sb 0 (Int.le_refl 0) (by omega)
  have i16 := i.1
  have T : ∀ k, 0 ≤ k → k < ρ 7 16 → jCls τ 19 k = (if jrk (ρ 44 k) then jfd ρ k else -1) := fun k k0 k1 => jx_19 h hj h1 k0 k1
  have M : ∀ k, 0 ≤ k → k < ρ 7 16 → (jmis (jCls τ) k ↔ (jrk (ρ 44 k) ∧ jfd ρ k = -1)) := fun k k0 k1 => by
    have a := hj.2 k k0 k1
    have so := hw.so _ a.1.1 a.1.2
    unfold jmis
    rw [ne (by decide) (by omega), (h.it k k0 k1).1.2.1, jref_k (by omega), T k k0 k1]
    constructor
    · intro z; have z2 := z.2; rw [if_pos z.1] at z2; exact ⟨z.1, z2⟩
    · intro z; rw [if_pos z.1]; exact z
  have base : ∀ t : JM, (∀ a b, ¬ (a = 4 ∧ (b = 9 ∨ b = 10)) → t a b = jCls τ a b) → (t 2 6 = ρ 7 16 ∧ t 3 5 = 0) ∧ (∀ k, 0 ≤ k → k < ρ 7 16 → (t 15 k = ρ 43 k ∧ t 16 k = jkof (ρ 44 k) 0 ∧ t 17 k = ρ 47 k ∧ t 18 k = jmV ρ k) ∧ t 19 k = (if jrk (ρ 44 k) then jfd ρ k else -1)) ∧ (∀ v, 0 ≤ v → v < 20 → t 21 v = jlk ρ v 0) ∧ (∀ k, 0 ≤ k → k < ρ 7 16 → ρ 44 k = 0 → ρ 45 k < 20) := fun t ht => by
    refine ⟨⟨?_, ?_⟩, fun k k0 k1 => ⟨?_, ?_⟩, fun v v0 v1 => ?_, fun k k0 k1 e => (h.it k k0 k1).2 (Or.inl e)⟩
    · rw [ht 2 6 (by omega), ne (by decide) (by decide)]; exact h.nn.1
    · rw [ht 3 5 (by omega), jCls_35]; omega
    · rw [ht 15 k (by omega), ht 16 k (by omega), ht 17 k (by omega), ht 18 k (by omega), ne (by decide) (by omega), ne (by decide) (by omega), ne (by decide) (by omega), ne (by decide) (by omega)]; exact (h.it k k0 k1).1
    · rw [ht 19 k (by omega)]; exact T k k0 k1
    · rw [ht 21 v (by omega), ne (by decide) (by omega)]
      have := h.lb 0 v (Int.le_refl 0) (by omega) v0 v1
      rw [s0.2.1, Int.zero_mul, Int.zero_add] at this
      exact this
  have e1 : τ 3 5 - 1 = 0 := by omega
  rcases jfs_cases (P := fun k => jrk (ρ 44 k) ∧ jfd ρ k = -1) (ρ 7 16) with ⟨-, a⟩ | ⟨a, b, c, e⟩
  · have b := base (jCls τ) (fun _ _ _ => rfl)
    refine ⟨jCls τ, sp_X1_findNames0 (by omega) (by omega) (by rw [e1]; exact sb.2.1) (by rw [e1, h.nn.1]; exact sb.2.2) (by rw [h.nn.1]; exact i16.2) (fun k k0 k1 z => a k k0 (by rw [← h.nn.1]; exact k1) ((M k k0 (by rw [← h.nn.1]; exact k1)).mp z)), h.kc.cls, b.1, b.2.1, b.2.2.1, b.2.2.2, Or.inl ⟨fun k k0 k1 k2 k3 => a k k0 k1 ⟨k2, k3⟩, ?_⟩⟩
    rw [ne (by decide) (by decide)]; exact h.nn.2.2.1
  · obtain ⟨k, hk⟩ : ∃ k, jfs (fun k => jrk (ρ 44 k) ∧ jfd ρ k = -1) (ρ 7 16) = k := ⟨_, rfl⟩
    rw [hk] at a b c e
    have b2 := base (jset (jset (jCls τ) 4 9 117) 4 10 (τ 15 k)) (fun u v z => by rw [jset_ne _ (by omega), jset_ne _ (by omega)])
    refine ⟨jset (jset (jCls τ) 4 9 117) 4 10 (τ 15 k), sp_X1_findNamesU (by omega) (by omega) (by rw [e1]; exact sb.2.1) (by rw [e1, h.nn.1]; exact sb.2.2) (by rw [h.nn.1]; exact i16.2) ⟨a, by rw [h.nn.1]; exact b⟩ ((M k a b).mpr c) (fun j j0 j1 z => e j j0 j1 ((M j j0 (by omega)).mp z)), (h.kc.cls.set _ _ (by omega)).set _ _ (by omega), b2.1, b2.2.1, b2.2.2.1, b2.2.2.2, Or.inr ⟨k, ⟨a, b⟩, c, fun j j0 j1 j2 j3 => e j j0 j1 ⟨j2, j3⟩, rfl, (h.it k a b).1.1⟩⟩
def jx0 (σ : JM) : JM := jset (jset (jset (jOpn (jset (jset σ 2 6 0) 3 5 0) (-1)) 4 7 0) 4 8 0) 4 9 110
def jw0 (σ : JM) : JM := jset (jset (jset (jset σ 7 14 110) 7 16 0) 7 17 0) 7 18 0
def jvW (σ : JM) : Int × JM := jwk 7000 (jnsc (jw0 σ) (-1)) 0 (σ 7 1) 0 0 0 0 0 0
theorem jx0_kc (σ : JM) : jkc σ (jx0 σ) := (((((jkc.rf σ).set _ _ (by omega)).set _ _ (by omega)).opn _).set _ _ (by omega)).set _ _ (by omega) |>.set _ _ (by omega)
/-- the arguments outside of macros -/
abbrev jar0 (σ : JM) : Prop := (σ 27 0 = 0 ∧ σ 27 1 = 0) ∧ σ 28 0 = 0 ∧ σ 28 1 = 0
theorem jx0_D {σ : JM} (ln : 0 ≤ σ 7 1 ∧ σ 7 1 ≤ 80) (ha : jar0 σ) : jCD σ (jx0 σ) (jnsc (jw0 σ) (-1)) (fun _ => 0) ∧ jCx σ (jx0 σ) (fun _ => 0) (σ 7 1) 0 0 0 0 0 0 := by
  have e35 : jx0 σ 3 5 = 1 := rfl
  have n17 : jnsc (jw0 σ) (-1) 7 17 = 1 := rfl
  have n16 : jnsc (jw0 σ) (-1) 7 16 = 0 := rfl
  refine ⟨⟨jx0_kc σ, ⟨rfl, rfl, rfl, rfl⟩, ⟨by omega, rfl, rfl, rfl⟩, fun j j0 j1 => ?_, fun i j i0 i1 i2 => by omega, fun j j0 j1 => by omega, fun j v j0 j1 v0 v1 => ?_, fun i i0 i1 => by omega, fun i i0 i1 => by omega⟩, ⟨rfl, by omega, by omega⟩, rfl, ⟨ha.1.1, ha.1.2⟩, ⟨?_, rfl⟩, ⟨?_, rfl⟩, by omega, Or.inl rfl⟩
  · have ej : j = 0 := by omega
    subst ej
    rw [n17, n16]
    have : jx0 σ 23 0 = 0 := rfl
    rw [this]; exact ⟨⟨Int.le_refl 0, by decide⟩, Int.le_refl 0, Int.le_refl 0⟩
  · have ej : j = 0 := by omega
    subst ej
    have r : jx0 σ 21 (0 * 20 + v) = jOpn (jset (jset σ 2 6 0) 3 5 0) (-1) 21 (0 * 20 + v) := rfl
    rw [r, (jOpn_row _ _).2.2.1, if_pos (by show (0 : Int) * 20 ≤ 0 * 20 + v ∧ 0 * 20 + v < (0 + 1) * 20; omega)]
    exact (jfs_no (fun i i0 i1 => by rw [n16] at i1; omega)).symm
  · show 0 ≤ σ 28 0 ∧ σ 28 0 < jx0 σ 3 5
    rw [ha.2.1, e35]; omega
  · show 0 ≤ σ 28 1 ∧ σ 28 1 < jx0 σ 3 5
    rw [ha.2.2, e35]; omega
theorem jvW_pre {σ : JM} (hw : jwf σ) : jkp σ (jnsc (jw0 σ) (-1)) ∧ jwi (jnsc (jw0 σ) (-1)) ∧ jwc σ 0 (σ 7 1) 0 0 0 ∧ jit σ (jnsc (jw0 σ) (-1)) := by
  have ln := hw.ln
  have n17 : jnsc (jw0 σ) (-1) 7 17 = 1 := rfl
  have n16 : jnsc (jw0 σ) (-1) 7 16 = 0 := rfl
  have n18 : jnsc (jw0 σ) (-1) 7 18 = 0 := rfl
  refine ⟨((((((jkp.rfl σ).set _ _ (by omega)).set _ _ (by omega)).set _ _ (by omega)).set _ _ (by omega)).nsc _), ⟨by omega, by omega, by omega⟩, by omega, ⟨fun s s0 s1 => ?_, fun i i0 i1 => by omega⟩⟩
  rw [jnsc_42]
  have e : s = jw0 σ 7 17 := by show s = 0; omega
  rw [if_pos e]; omega
theorem jvW_o {σ : JM} (hw : jwf σ) : jwo σ (jnsc (jw0 σ) (-1)) (jvW σ) ∧ jit σ (jvW σ).2 := by
  obtain ⟨k, i, c, j⟩ := jvW_pre hw
  have n17 : jnsc (jw0 σ) (-1) 7 17 = 1 := rfl
  exact ⟨jwk_o hw _ _ _ _ _ _ _ _ _ _ k i c hw.al, jwk_j hw _ _ _ _ _ _ _ _ _ _ k i c hw.al (by omega) (by omega) (by omega) j⟩
/-- what expandProgram leaves -/
def jxR (σ t : JM) : Prop := jkc σ t ∧ ((junf σ ≠ -1 ∧ t 4 9 = 98 ∧ t 4 10 = junf σ) ∨ (junf σ = -1 ∧ (jvW σ).1 = 0 ∧ jCF σ t (jvW σ).2) ∨ (junf σ = -1 ∧ (jvW σ).1 = 1 ∧ jxE t (jvW σ).2))
abbrev jxQ (σ : JM) : Option JV → JM → Prop := fun v t => v = none ∧ jxR σ t
theorem xp_93 {l : Launch} {E : JE} {σ τ : JM} {x st : Int} (h : ∃ t : JM, JSp mX1_findNames 3 0 [(2, 4)] τ (jvv t) jno ∧ jxR σ t) (h9 : τ 4 9 = 110) : V l E mX1_expandProgram 6 0 (jxQ σ) jno 93 [(2, 4), (0, -1), (0, x), (0, st)] [] τ := by
  obtain ⟨t, ht, hr⟩ := h
  refine V.aload_n dX1_expandProgram_93 rfl ?_
  refine V.getI fa_X1_24 (by decide) rfl dX1_expandProgram_94 (fun _ => ?_)
  refine V.bipush dX1_expandProgram_97 ⟨by decide, by decide⟩ ?_
  refine V.icmp_ne (tgt := 106) dX1_expandProgram_99 (by decide) (fun hh => ?_) (fun hh => ?_)
  · exact absurd h9 hh
  · refine V.aload_n dX1_expandProgram_102 rfl ?_
    refine V.cV0 [] rfl kc_X1_77 rfl dX1_expandProgram_103 (by decide) rfl rfl (ht) ?_
    exact V.vret (jret_v dX1_expandProgram_106 rfl) ⟨rfl, hr⟩
theorem xp_93f {l : Launch} {E : JE} {σ τ : JM} {x st : Int} (h : jxR σ τ) (h9 : τ 4 9 ≠ 110) : V l E mX1_expandProgram 6 0 (jxQ σ) jno 93 [(2, 4), (0, -1), (0, x), (0, st)] [] τ := by
  refine V.aload_n dX1_expandProgram_93 rfl ?_
  refine V.getI fa_X1_24 (by decide) rfl dX1_expandProgram_94 (fun _ => ?_)
  refine V.bipush dX1_expandProgram_97 ⟨by decide, by decide⟩ ?_
  refine V.icmp_ne (tgt := 106) dX1_expandProgram_99 (by decide) (fun hh => ?_) (fun hh => ?_)
  · exact V.vret (jret_v dX1_expandProgram_106 rfl) ⟨rfl, h⟩
  · exact absurd hh h9
theorem xp_55 {l : Launch} {E : JE} {σ τ : JM} {x st : Int} (h9 : τ 1 7 ≤ x ∨ τ 4 9 ≠ 110) (k : V l E mX1_expandProgram 6 0 (jxQ σ) jno 93 [(2, 4), (0, -1), (0, x), (0, st)] [] τ) : V l E mX1_expandProgram 6 0 (jxQ σ) jno 55 [(2, 4), (0, -1), (0, x), (0, st)] [] τ := by
  refine V.iload_n dX1_expandProgram_55 rfl ?_
  refine V.ldc (x := 1000000) dX1_expandProgram_56 ⟨by decide, by decide⟩ (by have h := kg643; rwa [show (1000000 : Int32) = jI (1000000) by decide +kernel] at h) ?_
  refine V.icmp_ge (tgt := 93) dX1_expandProgram_58 (by decide) (fun h58 => ?_) (fun h58 => ?_)
  · exact k
  · refine V.iload_n dX1_expandProgram_61 rfl ?_
    refine V.aload_n dX1_expandProgram_62 rfl ?_
    refine V.getR fa_X1_28 rfl dX1_expandProgram_63 ?_
    refine V.cV [] rfl kc_X1_70 rfl dX1_expandProgram_66 (by decide) rfl rfl (sp_X5_size) (fun _ => ?_)
    refine V.icmp_ge (tgt := 93) dX1_expandProgram_69 (by decide) (fun h69 => ?_) (fun h69 => ?_)
    · exact k
    · refine V.aload_n dX1_expandProgram_72 rfl ?_
      refine V.getI fa_X1_24 (by decide) rfl dX1_expandProgram_73 (fun _ => ?_)
      refine V.bipush dX1_expandProgram_76 ⟨by decide, by decide⟩ ?_
      refine V.icmp_ne (tgt := 93) dX1_expandProgram_78 (by decide) (fun h78 => ?_) (fun h78 => ?_)
      · exact k
      · exact absurd h78 (by omega)
theorem xp_Z {l : Launch} {E : JE} {σ : JM} : jZst σ (fun x st τ => V l E mX1_expandProgram 6 0 (jxQ σ) jno 55 [(2, 4), (0, -1), (0, x), (0, st)] [] τ) := by
  intro x r st τ τ' x0 x1 st0 st1 h9 h17 he kk
  refine V.iload_n dX1_expandProgram_55 rfl ?_
  refine V.ldc (x := 1000000) dX1_expandProgram_56 ⟨by decide, by decide⟩ (by have h := kg643; rwa [show (1000000 : Int32) = jI (1000000) by decide +kernel] at h) ?_
  refine V.icmp_ge (tgt := 93) dX1_expandProgram_58 (by decide) (fun hh => ?_) (fun hh => ?_)
  · exact absurd hh (by omega)
  · refine V.iload_n dX1_expandProgram_61 rfl ?_
    refine V.aload_n dX1_expandProgram_62 rfl ?_
    refine V.getR fa_X1_28 rfl dX1_expandProgram_63 ?_
    refine V.cV [] rfl kc_X1_70 rfl dX1_expandProgram_66 (by decide) rfl rfl (sp_X5_size) (fun _ => ?_)
    refine V.icmp_ge (tgt := 93) dX1_expandProgram_69 (by decide) (fun hh => ?_) (fun hh => ?_)
    · exact absurd hh (by omega)
    · refine V.aload_n dX1_expandProgram_72 rfl ?_
      refine V.getI fa_X1_24 (by decide) rfl dX1_expandProgram_73 (fun _ => ?_)
      refine V.bipush dX1_expandProgram_76 ⟨by decide, by decide⟩ ?_
      refine V.icmp_ne (tgt := 93) dX1_expandProgram_78 (by decide) (fun hh => ?_) (fun hh => ?_)
      · exact absurd h9 hh
      · refine V.aload_n dX1_expandProgram_81 rfl ?_
        refine V.iload_n dX1_expandProgram_82 rfl ?_
        refine V.cV [_] rfl kc_X1_73 rfl dX1_expandProgram_83 (by decide) rfl rfl (he) (fun _ => ?_)
        refine V.istore_n (L' := [_, _, _, _]) dX1_expandProgram_86 rfl rfl ?_
        refine V.iinc (L' := [_, _, _, _]) dX1_expandProgram_87 rfl ⟨(by omega), (by omega)⟩ rfl ?_
        refine V.goto (tgt := 55) dX1_expandProgram_90 (by decide) ?_
        exact kk
theorem xp_51 {l : Launch} {E : JE} {σ : JM} (hs : jSC σ) (hw : jwf σ) (ha : jar0 σ) (hu : junf σ = -1) : V l E mX1_expandProgram 6 0 (jxQ σ) jno 55 [(2, 4), (0, -1), (0, 0), (0, 0)] [] (jx0 σ) := by
  have ln := hw.ln
  obtain ⟨k, i, c, j⟩ := jvW_pre hw
  obtain ⟨D, cx⟩ := jx0_D ln ha
  obtain ⟨⟨ro1, ro2, -⟩, rj⟩ := jvW_o hw
  have n18 : jnsc (jw0 σ) (-1) 7 18 = 0 := rfl
  refine (jSim.all hs hw (xp_Z (l := l) (E := E)) 7000) (jx0 σ) (jnsc (jw0 σ) (-1)) (fun _ => 0) 0 (σ 7 1) 0 0 0 0 0 0 0 k i j c hw.al (by omega) D cx (by omega) (by omega) (fun e τ' S' st' g f s1 s2 => ?_) (fun e τ' x' st' g s1 s2 => ?_)
  · have e1 : τ' 3 5 = 1 := f.1.1
    obtain ⟨t, ht, kt, et⟩ := jx_fn hw ro2 g rj e1
    exact xp_55 (Or.inl (by rw [g.kc 1 7 (by omega), hs.1.1]; exact Int.le_refl _)) (xp_93 ⟨t, ht, kt, Or.inr (Or.inr ⟨hu, e, et⟩)⟩ g.nn.2.2.1)
  · exact xp_55 (Or.inr g.2.2.2.1) (xp_93f ⟨g.1, Or.inr (Or.inl ⟨hu, e, g⟩)⟩ g.2.2.2.1)
theorem sp_X1_expandProgram {σ : JM} (h9 : 0 ≤ σ 1 9 ∧ σ 1 9 ≤ 80) (h8 : 0 ≤ σ 1 8 ∧ σ 1 8 ≤ 8) (hg : junf σ = -1 → (jSC σ ∧ jwf σ) ∧ jar0 σ) : JSp mX1_expandProgram 6 0 [(2, 4)] σ (jxQ σ) jno := by
  have eu : junf (jx0 σ) = junf σ := rfl
  refine JSp.of [(2, 4), (9, 0), (9, 0), (9, 0)] rfl (by decide +kernel) rfl rfl rfl (fun l E hA => ?_)
  refine V.aload_n dX1_expandProgram_0 rfl ?_
  refine V.getR fa_X1_32 rfl dX1_expandProgram_1 ?_
  refine V.cV0 [] rfl kc_X1_43 rfl dX1_expandProgram_4 (by decide) rfl rfl (sp_X3_removeAll) ?_
  refine V.aload_n dX1_expandProgram_7 rfl ?_
  refine V.getR fa_X1_36 rfl dX1_expandProgram_8 ?_
  refine V.cV0 [] rfl kc_X1_48 rfl dX1_expandProgram_11 (by decide) rfl rfl (sp_X4_reset) ?_
  refine V.aload_n dX1_expandProgram_14 rfl ?_
  refine V.iconst dX1_expandProgram_15 ⟨by decide, by decide⟩ ?_
  refine V.putI fa_X1_53 (by decide) rfl dX1_expandProgram_16 (Or.inl rfl) ?_
  refine V.aload_n dX1_expandProgram_19 rfl ?_
  refine V.iconst dX1_expandProgram_20 ⟨by decide, by decide⟩ ?_
  refine V.putI fa_X1_56 (by decide) rfl dX1_expandProgram_21 (Or.inl rfl) ?_
  refine V.aload_n dX1_expandProgram_24 rfl ?_
  refine V.bipush dX1_expandProgram_25 ⟨by decide, by decide⟩ ?_
  refine V.putI fa_X1_24 (by decide) rfl dX1_expandProgram_27 (Or.inl rfl) ?_
  rw [show jset (jset (jset (jOpn (jset (jset σ 2 6 0) 3 5 0) (-1)) 4 7 0) 4 8 0) 4 9 110 = jx0 σ from rfl]
  refine V.aload_n dX1_expandProgram_30 rfl ?_
  refine V.getR fa_X1_28 rfl dX1_expandProgram_31 ?_
  refine V.cV [] rfl kc_X1_59 rfl dX1_expandProgram_34 (by decide) rfl rfl (sp_X5_unfinishedLine (σ := jx0 σ) h9 h8) (fun _ => ?_)
  rw [eu]
  refine V.istore_n (L' := [_, _, _, _]) dX1_expandProgram_37 rfl rfl ?_
  refine V.iload_n dX1_expandProgram_38 rfl ?_
  refine V.iconst dX1_expandProgram_39 ⟨by decide, by decide⟩ ?_
  refine V.icmp_eq (tgt := 51) dX1_expandProgram_40 (by decide) (fun hu => ?_) (fun hu => ?_)
  · refine V.iconst dX1_expandProgram_51 ⟨by decide, by decide⟩ ?_
    refine V.istore_n (L' := [_, _, _, _]) dX1_expandProgram_52 rfl rfl ?_
    refine V.iconst dX1_expandProgram_53 ⟨by decide, by decide⟩ ?_
    refine V.istore_n (L' := [_, _, _, _]) dX1_expandProgram_54 rfl rfl ?_
    rw [hu]
    exact xp_51 (hg hu).1.1 (hg hu).1.2 (hg hu).2 hu
  · refine V.aload_n dX1_expandProgram_43 rfl ?_
    refine V.bipush dX1_expandProgram_44 ⟨by decide, by decide⟩ ?_
    refine V.iload_n dX1_expandProgram_46 rfl ?_
    refine V.cV0 [_, _] rfl kc_X1_65 rfl dX1_expandProgram_47 (by decide) rfl rfl (sp_X1_fail) ?_
    exact V.vret (jret_v dX1_expandProgram_50 rfl) ⟨rfl, ((jx0_kc σ).set _ _ (by omega)).set _ _ (by omega), Or.inl ⟨hu, rfl, rfl⟩⟩
