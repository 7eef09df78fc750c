/-! ===== the law's call of assemble ===== -/
abbrev jvA (a : Nat) (b : Int) : Prop := (15 ≤ a ∧ a ≤ 26) ∨ ((a = 27 ∨ a = 28) ∧ 2 ≤ b) ∨ a = 29 ∨ a = 30 ∨ a = 2 ∨ a = 3 ∨ a = 4 ∨ a = 5 ∨ (42 ≤ a ∧ a ≤ 52) ∨ (a = 7 ∧ (b = 0 ∨ (13 ≤ b ∧ b ≤ 20)))
theorem jINV.asm {g : Int} {σ σ' : JM} (h : jINV g σ) (e : ∀ a b, ¬ jvA a b → σ' a b = σ a b) (A : jAsm σ') : jINV g σ' := by
  obtain ⟨h1, h2, h3, h4, h5⟩ := h
  have r : ∀ a : Nat, ((8 ≤ a ∧ a ≤ 14) ∨ (34 ≤ a ∧ a ≤ 41)) → σ' a = σ a := fun a ha => funext fun b => e a b (by omega)
  have S' : jSrc σ' := by
    unfold jSrc jopn jcld jl1 jln at h1 ⊢
    rw [e 1 7 (by omega), e 1 8 (by omega), e 1 9 (by omega), e 1 10 (by omega), e 7 1 (by omega), e 7 2 (by omega), e 7 3 (by omega), e 7 4 (by omega), r 8 (by decide), r 9 (by decide), r 10 (by decide), r 11 (by decide), r 12 (by decide), r 13 (by decide), r 14 (by decide), r 34 (by decide), r 35 (by decide), r 36 (by decide), r 37 (by decide), r 38 (by decide), r 39 (by decide), r 40 (by decide), r 41 (by decide)]
    exact h1
  refine ⟨S', h2.feed h1 (e 6 4 (by omega)) (fun i => ⟨e 32 i (by omega), e 33 i (by omega)⟩) (by rw [e 7 2 (by omega), e 1 10 (by omega)]; exact Int.le_refl _) (fun a ha x _ _ => e a x (by omega)) (fun x _ _ _ => e 38 x (by omega)) (fun m _ _ => ⟨e 40 m (by omega), e 41 m (by omega)⟩), ?_, by rw [e 6 4 (by omega)]; exact h4, A⟩
  unfold jar0 at h3 ⊢
  rw [e 27 0 (by omega), e 27 1 (by omega), e 28 0 (by omega), e 28 1 (by omega)]; exact h3
theorem jPl_ne {t : JM} {a : Nat} {b : Int} (h1 : a ≠ 16) (h2 : a ≠ 20) (h3 : ¬ (a = 2 ∧ b = 7)) : jPl t a b = t a b := by
  unfold jPl jpM
  rw [jset_ne _ h3]
  show (if a = 20 then _ else if a = 16 then _ else t a b) = t a b
  rw [if_neg h2, if_neg h1]
/-- what the class's assemble leaves alone -/
theorem jcA_w {σ w : JM} {v : Option JV} (h : jcA σ v w) : ∀ a b, ¬ (jvA a b ∧ a < 42 ∧ a ≠ 7) → w a b = σ a b := fun a b q => by
  obtain ⟨t, r, c⟩ := h
  rcases c with ⟨-, -, rfl⟩ | ⟨-, -, W⟩
  · exact r.1 a b (by omega)
  · rw [W.1 a b (by omega) (by omega) (by omega), jPl_ne (by omega) (by omega) (by omega)]
    exact r.1 a b (by omega)
/-- the walk's memory -/
theorem jmW_fr {σ : JM} (hw : jwf σ) : (∀ a b, ¬ ((42 ≤ a ∧ a ≤ 47) ∨ a = 50 ∨ (a = 7 ∧ (b = 0 ∨ (13 ≤ b ∧ b ≤ 20)))) → (jmW σ).2 a b = σ a b) ∧ (jmW σ).2 7 13 = 1 ∧ (jmW σ).2 7 19 = 0 ∧ ((jmW σ).1 = 0 ∨ (jmW σ).2 7 14 = 110) ∧ (0 ≤ (jmW σ).2 7 16 ∧ (jmW σ).2 7 16 ≤ 200) ∧ ∀ i, 0 ≤ i → i < (jmW σ).2 7 16 → 0 ≤ (jmW σ).2 44 i ∧ (jmW σ).2 44 i ≤ 5 := by
  obtain ⟨⟨k, i, -⟩, j⟩ := jmW_o hw
  have w0 := (jmW_pre hw).1
  have ln := w0.ln
  refine ⟨fun a b q => ?_, ?_, ?_, ?_, i.1, fun x x0 x1 => ?_⟩
  · rw [k a b (by omega) (by omega) (by omega)]; exact jm0_kp σ a b (by omega)
  · exact k 7 13 (by omega) (by decide) (by omega)
  · exact k 7 19 (by omega) (by decide) (by omega)
  · exact jwk_14 _ _ _ _ _ _ _ _ _ _
  · obtain ⟨a1, a2, a3, -⟩ := j.2 x x0 x1
    have so := w0.so _ a1.1 a1.2
    omega
theorem as_bad {σ w : JM} (h9 : w 4 9 = 98) (h10 : w 4 10 = jmBl w) : jAsm (jstp (jm0 w) 98 (jmBl w)) :=
  ⟨⟨⟨Int.le_refl 0, show (0 : Int) ≤ 200 by decide⟩, ⟨Int.le_refl 0, show (0 : Int) ≤ 1400 by decide⟩, fun i i0 i1 => absurd (show i < 0 from i1) (by omega), fun i i0 i1 => absurd (show i < 0 from i1) (by omega)⟩, Or.inr ⟨show (1 : Int) ≠ 0 by decide, h9, ⟨by show 0 < w 4 9; omega, by show w 4 9 < 65536; omega⟩, fun _ => h10, fun q => absurd (show (98 : Int) = 110 from q) (by decide)⟩⟩
theorem as_w0 {σ0 w ρ0 : JM} (hw : jwf w) (hc : jCF σ0 w ρ0) (ag : jag ρ0 (jmW w).2) : jAsm (jmW w).2 := by
  obtain ⟨f, f13, f19, -, f16, f44⟩ := jmW_fr hw
  obtain ⟨-, c1, c2, c3, c4, c5⟩ := hc
  have e9 := f 4 9 (by omega)
  have e10 := f 4 10 (by omega)
  have g14 := ag 7 14 (by omega)
  have g15 := ag 7 15 (by omega)
  exact ⟨⟨f16, by omega, f44, fun i i0 i1 => by omega⟩, Or.inr ⟨by omega, by omega, by omega, fun _ => by omega, fun q => by omega⟩⟩
theorem as_u {w ρ0 : JM} (hw : jwf w) (ag : jag ρ0 (jmW w).2) (hE : jxE w ρ0) (h9 : w 4 9 ≠ 110) : (jmF w).1 = 0 ∧ jAsm (jmF w).2 := by
  obtain ⟨f, f13, f19, -, f16, f44⟩ := jmW_fr hw
  have z := hE.2.2.2.2.resolve_left (fun q => h9 q.2)
  obtain ⟨i, ⟨i0, i1⟩, hi, hj, z9, z10⟩ := z
  have e16 := ag 7 16 (by omega)
  have U := jaf_u (jmW w).2 ((jmW w).2 7 16).toNat
  have fr := fun {a : Nat} {b : Int} => @jaf_ne (jmW w).2 ((jmW w).2 7 16).toNat a b
  rcases U with ⟨a, -⟩ | ⟨a, k, ⟨k0, k1⟩, hk, hl, u14, u15⟩
  · have := jaf_t (jmW w).2 ((jmW w).2 7 16).toNat a i i0 (by omega) (by rw [ag 44 i (by omega)]; exact hi.1)
    rw [jfd_ag ag] at this
    exact absurd hi.2 this.2
  · have ek : k = i := by
      rw [ag 44 k (by omega), jfd_ag ag] at hk
      by_cases q : k < i
      · exact absurd hk.2 (hj k k0 q hk.1)
      · by_cases q2 : i < k
        · have := hl i i0 q2 (by rw [ag 44 i (by omega)]; exact hi.1)
          rw [jfd_ag ag] at this
          exact absurd hi.2 this
        · omega
    subst ek
    have u14 : (jmF w).2 7 14 = 117 := u14
    have u15 : (jmF w).2 7 15 = (jmW w).2 43 k := u15
    rw [ag 43 k (by omega)] at u15
    have g13 : (jmF w).2 7 13 = (jmW w).2 7 13 := fr (by decide) (by omega)
    have g19 : (jmF w).2 7 19 = (jmW w).2 7 19 := fr (by decide) (by omega)
    have g16 : (jmF w).2 7 16 = (jmW w).2 7 16 := fr (by decide) (by omega)
    have g9 : (jmF w).2 4 9 = (jmW w).2 4 9 := fr (by decide) (by omega)
    have g10 : (jmF w).2 4 10 = (jmW w).2 4 10 := fr (by decide) (by omega)
    have g44 : ∀ b, (jmF w).2 44 b = (jmW w).2 44 b := fun b => fr (by decide) (by omega)
    have e9 := f 4 9 (by omega)
    have e10 := f 4 10 (by omega)
    refine ⟨a, ⟨by omega, by omega, fun b b0 b1 => by rw [g44]; exact f44 b b0 (by omega), fun b b0 b1 => by omega⟩, Or.inr ⟨by omega, by omega, by omega, fun _ => by omega, fun q => by omega⟩⟩
theorem as_all {w ρ0 : JM} (ag : jag ρ0 (jmW w).2) (hf : ∀ i, 0 ≤ i → i < ρ0 7 16 → jrk (ρ0 44 i) → jfd ρ0 i ≠ -1) : (jmF w).1 = 1 ∧ (jmF w).2 7 14 = (jmW w).2 7 14 := by
  rcases jaf_u (jmW w).2 ((jmW w).2 7 16).toNat with a | ⟨-, k, ⟨k0, k1⟩, hk, -⟩
  · exact a
  · have e16 := ag 7 16 (by omega)
    rw [ag 44 k (by omega), jfd_ag ag] at hk
    exact absurd hk.2 (hf k k0 (by omega) hk.1)
theorem as_ok {σ t w ρ0 ρ : JM} (hσ : jwf σ) (hw : jwf w) (k : jkp σ ρ0) (i : jwi ρ0) (j : jit σ ρ0) (ag : jag ρ0 (jmW w).2) (hE : jxE t ρ0) (h9 : t 4 9 = 110) (e9 : w 4 9 = 110) (W : jWb (jPl t) w (jFN (jPl t 16) (t 18) (t 19) (t 2 6).toNat) (jGN (jPl t 16) (t 18) (t 2 6).toNat) (jad (jPl t 16) (t 18) (t 2 6))) (w1 : (jmW w).1 = 1) (F1 : (jmF w).1 = 1) (F14 : (jmF w).2 7 14 = (jmW w).2 7 14) (hr : jmEd (jmF w).2 ρ) (ok : jokm ρ) : jAsm ρ ∧ w 5 2 = ρ 7 19 := by
  obtain ⟨f, f13, f19, f14, f16, f44⟩ := jmW_fr hw
  have f14 := f14.resolve_left (by omega)
  obtain ⟨lk1, lk2, lk3, lk4⟩ := jx_lok hσ k j i hE h9
  have xi := fun (x : Int) => @jxi σ ρ0 hσ k j x
  have fr := fun {a : Nat} {b : Int} => @jaf_ne (jmW w).2 ((jmW w).2 7 16).toNat a b
  obtain ⟨d1, d2, d3, d4, d5, d6⟩ := hr
  -- rows of the last memory
  have eμ : ∀ a b, ¬ (48 ≤ a ∧ a ≤ 52) → ¬ (a = 7 ∧ (b = 14 ∨ b = 15 ∨ b = 19 ∨ b = 20)) → ρ a b = (jmW w).2 a b := fun a b n1 n2 => by
    rw [d1 a b (by omega) (by omega) (by omega) (by omega) (by omega)]
    exact fr (by omega) (by omega)
  have eρ : ∀ a b, ((34 ≤ a ∧ a ≤ 47) ∨ (a = 7 ∧ b = 16)) → ρ a b = ρ0 a b := fun a b q => by rw [eμ a b (by omega) (by omega)]; exact ag a b (by omega)
  have eF : ∀ a b, ((34 ≤ a ∧ a ≤ 47) ∨ a = 50 ∨ (a = 7 ∧ b = 16)) → (jmF w).2 a b = ρ0 a b := fun a b q => by
    have : (jmF w).2 a b = (jmW w).2 a b := fr (by omega) (by omega)
    rw [this]; exact ag a b (by omega)
  have ew : ∀ a b, a < 34 → a ≠ 7 → ρ a b = w a b := fun a b q1 q2 => by rw [eμ a b (by omega) (by omega)]; exact f a b (by omega)
  have n16 := eρ 7 16 (by omega)
  have nF := eF 7 16 (by omega)
  have et := hE.1.1
  have e49 : ∀ x, 0 ≤ x → x < ρ0 7 16 → jrk (ρ0 44 x) → (jmF w).2 49 x = jfd ρ0 x ∧ jfd ρ0 x ≠ -1 := fun x x0 x1 hk => by
    have a16 := ag 7 16 (by omega)
    have := jaf_t (jmW w).2 ((jmW w).2 7 16).toNat F1 x x0 (by omega) (by rw [ag 44 x (by omega)]; exact hk)
    rw [jfd_ag ag] at this; exact this
  have eV : ∀ x, jmV (jmF w).2 x = jmV ρ0 x := fun x => by unfold jmV; rw [eF 44 x (by omega), eF 43 x (by omega), eF 45 x (by omega), eF 36 _ (by omega)]
  have E0 : jeq (ρ0 7 16) (t 16) (t 18) (t 19) (jmK (jmF w).2) (jmV (jmF w).2) ((jmF w).2 49) := fun x x0 x1 => by
    have a := xi x x0 x1
    obtain ⟨b, c⟩ := hE.2.1 x x0 x1
    refine ⟨?_, by rw [b.2.2.2, eV], fun q => ?_⟩
    · rw [b.2.1]
      unfold jmK
      rw [eF 44 x (by omega), eF 50 x (by omega), a.2.2.2.1]
    · rw [b.2.1, jref_k a.1] at q
      rw [c, if_pos q, (e49 x x0 x1 q).1]
      exact ⟨rfl, jfd_in (e49 x x0 x1 q).2⟩
  obtain ⟨E, eP⟩ := jplK_e 201 _ _ E0
  have pK : jPl t 16 = jplK (t 19) (t 18) (t 2 6) 201 (t 16) := rfl
  rw [← et, ← pK] at E
  rw [nF, ← et] at d2 d3 d4 d5 d6
  rw [← d2] at E
  rw [← et] at eP n16 e49 xi
  have n0 := lk3.1
  have n2 := lk3.2.1
  have ea := fun (x : Int) (x0 : 0 ≤ x) (x1 : x ≤ t 2 6) => jad_e E x0 x1
  have en := ea (t 2 6) n0 (Int.le_refl _)
  have e719 : ρ 7 19 = jad (jPl t 16) (t 18) (t 2 6) := by rw [d4, en]
  have ab := jad_b (K := jPl t 16) (v := t 18) (N := t 2 6) (fun i i0 i1 => (lk3.2.2 i i0 i1).1) n0 (Int.le_refl _)
  have FN := jFN_e E (t 2 6).toNat (by omega)
  have FB := jFN_b lk3 (t 2 6).toNat (by omega)
  have wd : ∀ b, 0 ≤ b → b < ρ 7 19 → ρ 51 b = jFN (jPl t 16) (t 18) (t 19) (t 2 6).toNat b ∧ ρ 52 b = jGN (jPl t 16) (t 18) (t 2 6).toNat b := fun b b0 b1 => by
    have := d6 b b0 (by rw [← en, ← e719]; exact b1)
    rw [← (FN b).1, ← (FN b).2] at this; exact this
  have ww : ∀ a b, a ≠ 29 → a ≠ 30 → a ≠ 16 → a ≠ 20 → ¬ (a = 5 ∧ (b = 2 ∨ b = 3)) → ¬ (a = 2 ∧ b = 7) → w a b = t a b := fun a b n1 n2 n3 n4 n5 n6 => by rw [W.1 a b n1 n2 n5]; exact jPl_ne n3 n4 n6
  have g16 : ∀ b, ρ 16 b = jPl t 16 b := fun b => by rw [ew 16 b (by decide) (by decide)]; exact W.1 16 b (by decide) (by decide) (by omega)
  have g18 : ∀ b, ρ 18 b = t 18 b := fun b => by rw [ew 18 b (by decide) (by decide)]; exact ww 18 b (by decide) (by decide) (by decide) (by decide) (by omega) (by omega)
  have g13 : ρ 7 13 = 1 := by rw [eμ 7 13 (by omega) (by omega)]; exact f13
  have g14 : ρ 7 14 = 110 := by rw [d1 7 14 (by decide) (by decide) (by decide) (by decide) (by omega), F14]; exact f14
  have g9 : ρ 4 9 = 110 := by rw [ew 4 9 (by decide) (by decide)]; exact e9
  refine ⟨⟨⟨by omega, by omega, fun x x0 x1 => by rw [eρ 44 x (by omega)]; exact (xi x x0 (by omega)).1, fun b b0 b1 => by rw [(wd b b0 b1).1]; exact (FB b).1⟩, Or.inr ⟨by omega, by omega, by omega, fun q => absurd g14 q, fun _ => ?_⟩⟩, by rw [W.2.1, e719]⟩
  refine ⟨by omega, ⟨?_, ?_, ?_, ?_⟩, by omega, fun x x0 x1 => ?_, fun b b0 b1 => ?_, fun v v0 v1 => ?_⟩
  · rw [ew 2 6 (by decide) (by decide), ww 2 6 (by decide) (by decide) (by decide) (by decide) (by omega) (by omega), n16]
  · rw [ew 2 7 (by decide) (by decide), W.1 2 7 (by decide) (by decide) (by omega), d3]
    exact eP
  · rw [ew 5 2 (by decide) (by decide), W.2.1, e719]
  · rw [ew 5 3 (by decide) (by decide), W.2.2.1, ← e719]
    refine jsum_c (fun b b0 b1 => ?_)
    unfold jrel
    rw [(wd b b0 b1).2]
    rcases (FB b).2 with z | z <;> rw [z] <;> rfl
  · rw [n16] at x1
    have a := xi x x0 x1
    obtain ⟨b, c⟩ := hE.2.1 x x0 (by rw [← et]; exact x1)
    have Ex := E x x0 x1
    have l := lk3.2.2 x x0 x1
    refine ⟨⟨?_, ?_, ?_, ?_, ?_⟩, by rw [eρ 44 x (by omega)]; exact a.1, ok 50 x, fun q => by rw [g18]; exact l.1 (by rw [← g16]; exact q), ?_, fun q => ?_, fun q => ?_⟩
    · rw [ew 15 x (by decide) (by decide), ww 15 x (by decide) (by decide) (by decide) (by decide) (by omega) (by omega), b.1, eρ 43 x (by omega)]
    · rw [g16]; exact Ex.1
    · rw [ew 17 x (by decide) (by decide), ww 17 x (by decide) (by decide) (by decide) (by decide) (by omega) (by omega), b.2.2.1, eρ 47 x (by omega)]
    · rw [ew 20 x (by decide) (by decide), W.1 20 x (by decide) (by decide) (by omega), lk4 x x0 x1, d5 x x0 x1]
      exact ea x x0 (by omega)
    · rw [d5 x x0 x1, show ρ 16 = jPl t 16 from funext g16, show ρ 18 = t 18 from funext g18]
      exact ea x x0 (by omega)
    · rw [ew 19 x (by decide) (by decide), ww 19 x (by decide) (by decide) (by decide) (by decide) (by omega) (by omega), c, eρ 44 x (by omega), d1 49 x (by decide) (by decide) (by decide) (by decide) (by omega)]
      by_cases q : jrk (ρ0 44 x)
      · rw [if_pos q, if_pos q, (e49 x x0 x1 q).1]
      · rw [if_neg q, if_neg q]
    · rw [eρ 44 x (by omega)] at q
      rw [d1 49 x (by decide) (by decide) (by decide) (by decide) (by omega), (e49 x x0 x1 q).1]
      exact (jfd_in (e49 x x0 x1 q).2).1
    · rw [eρ 44 x (by omega)] at q
      rw [eρ 45 x (by omega)]
      exact ⟨a.2.2.2.2.1.1, hE.2.2.2.1 x x0 (by rw [← et]; exact x1) q⟩
  · have z := wd b b0 b1
    have y := W.2.2.2 b b0 (by rw [← e719]; exact b1)
    rw [ew 29 b (by decide) (by decide), ew 30 b (by decide) (by decide), z.1, z.2, y.1, y.2]
    exact ⟨rfl, rfl, (FB b).1⟩
  · rw [ew 21 v (by decide) (by decide), ww 21 v (by decide) (by decide) (by decide) (by decide) (by omega) (by omega), hE.2.2.1 v v0 v1, n16, et]
    refine jfs_c (fun x _ _ => ?_)
    unfold jdp jlp
    rw [eρ 44 x (by omega), eρ 45 x (by omega), eρ 46 x (by omega)]
    exact ⟨fun q => ⟨q.1, q.2.2, q.2.1⟩, fun q => ⟨q.1, q.2.2, q.2.1⟩⟩
/-- the call of assemble, and the reference's: what is true of a memory of the machine is given at the end -/
def jOA (mL mX : JI) (g : Int) (σ : JM) : Prop := ∃ dL dX : Nat, dL < 100 ∧ dX < 100 ∧ ∃ QL, JSp mL dL 0 [(2, 0)] σ QL jno ∧ ∀ v τ, QL v τ → ∃ a, v = some (0, a) ∧ ∃ QM, JSp mX dX 0 [(2, 7)] τ QM jno ∧ ∀ w ρ, QM w ρ → jokm ρ → w = some (0, a) ∧ jINV g ρ
theorem op_assemble {g : Int} {σ : JM} (h : jINV g σ) : jOA mX6_assemble mX7_assemble g σ := by
  have S := h.1
  have a1 := S.a1
  have a2 := S.a2
  have u := S.unf
  refine ⟨7, 85, by decide, by decide, jcA σ, sp_X6_assemble (by omega) (by omega) (fun q => ⟨⟨S.sc (u.1.mp q).1 (u.1.mp q).2, S.wf (u.1.mp q).1 (u.1.mp q).2⟩, h.2.2.1⟩), fun v w q => ?_⟩
  have hcw := jcA_w q
  have hr : ∀ a b, (a = 7 ∨ 34 ≤ a) → w a b = σ a b := fun a b z => hcw a b (by omega)
  by_cases hb : jbad σ
  · have hb' : jbad w := by unfold jbad at hb ⊢; rw [hr 7 4 (by omega), hr 7 3 (by omega)]; exact hb
    have nu : junf σ ≠ -1 := fun z => u.2.1.mp hb (u.1.mp z)
    have eB : jmBl w = junf σ := by
      rw [u.2.2 hb]; unfold jmBl; rw [hr 7 4 (by omega), hr 7 3 (by omega), hr 39 _ (by omega), hr 40 _ (by omega)]
    obtain ⟨t, ⟨kc, r⟩, c⟩ := q
    have r := r.resolve_right (fun z => by rcases z with z | z <;> exact nu z.1)
    rcases c with ⟨c1, rfl, rfl⟩ | ⟨c1, -⟩
    · refine ⟨-1, rfl, _, sp_X7_assembleB hb' (by rw [hr 7 4 (by omega)]; omega) (by rw [hr 7 3 (by omega)]; omega), fun v2 ρ q2 ok => ?_⟩
      obtain ⟨rfl, rfl⟩ := q2
      refine ⟨rfl, h.asm (fun a b z => ?_) (as_bad (σ := σ) r.2.1 (by rw [eB]; exact r.2.2))⟩
      unfold jstp
      rw [jset_ne _ (by omega), jset_ne _ (by omega), jm0_kp w a b (by omega)]
      exact hcw a b (by omega)
    · omega
  · have nb := Decidable.not_not.mp (fun z => hb (u.2.1.mpr z))
    have nu := u.1.mpr nb
    have hs := S.sc nb.1 nb.2
    have hf := S.wf nb.1 nb.2
    have vo := jvW_o hf
    have ag := jvW_ag hr
    have wf' : jwf w := hf.c (fun a b z => hr a b (by omega))
    have hb' : ¬ jbad w := by unfold jbad at hb ⊢; rw [hr 7 4 (by omega), hr 7 3 (by omega)]; exact hb
    have spA := sp_X7_assemble wf' (by rw [hr 7 4 (by omega)]; omega) (by rw [hr 7 3 (by omega)]; omega)
    have fW := (jmW_fr wf').1
    have frF : ∀ a b, ¬ jvA a b → (jmF w).2 a b = σ a b := fun a b z => by
      have : (jmF w).2 a b = (jmW w).2 a b := jaf_ne _ _ (by omega) (by omega)
      rw [this, fW a b (by omega)]; exact hcw a b (by omega)
    obtain ⟨t, ⟨kc, r⟩, c⟩ := q
    rcases r with r | ⟨-, r1, r2⟩ | ⟨-, r1, r2⟩
    · exact absurd nu r.1
    · rcases c with ⟨c1, rfl, rfl⟩ | ⟨c1, -⟩
      · refine ⟨-1, rfl, _, spA, fun v2 ρ q2 ok => ?_⟩
        rcases q2 with ⟨z, -⟩ | ⟨-, z1, rfl, rfl⟩ | ⟨-, z1, -⟩ | ⟨-, z1, -⟩
        · exact absurd z hb'
        · exact ⟨rfl, h.asm (fun a b z => by rw [fW a b (by omega)]; exact hcw a b (by omega)) (as_w0 wf' r2 ag.2)⟩
        · have := ag.1; omega
        · have := ag.1; omega
      · exact absurd c1 r2.2.2.2.1
    · rcases c with ⟨c1, rfl, rfl⟩ | ⟨c1, rfl, W⟩
      · have A := as_u wf' ag.2 r2 c1
        refine ⟨-1, rfl, _, spA, fun v2 ρ q2 ok => ?_⟩
        rcases q2 with ⟨z, -⟩ | ⟨-, z1, -⟩ | ⟨-, z1, z2, rfl, rfl⟩ | ⟨-, z1, z2, -⟩
        · exact absurd z hb'
        · have := ag.1; omega
        · exact ⟨rfl, h.asm frF A.2⟩
        · have := A.1; omega
      · have hall : ∀ i, 0 ≤ i → i < (jvW σ).2 7 16 → jrk ((jvW σ).2 44 i) → jfd (jvW σ).2 i ≠ -1 := by
          rcases r2.2.2.2.2 with z | ⟨_, -, -, -, z, -⟩
          · exact z.1
          · omega
        have A := as_all ag.2 hall
        have e9 : w 4 9 = 110 := by rw [W.1 4 9 (by decide) (by decide) (by omega), jPl_ne (by decide) (by decide) (by omega)]; exact c1
        refine ⟨w 5 2, rfl, _, spA, fun v2 ρ q2 ok => ?_⟩
        rcases q2 with ⟨z, -⟩ | ⟨-, z1, -⟩ | ⟨-, z1, z2, -⟩ | ⟨-, z1, z2, rfl, hEd⟩
        · exact absurd z hb'
        · have := ag.1; omega
        · have := A.1; omega
        · have R := as_ok hf wf' vo.1.1 vo.1.2.1 vo.2 ag.2 r2 c1 e9 W z1 z2 A.2 hEd ok
          refine ⟨by rw [R.2], h.asm (fun a b z => ?_) R.1⟩
          rw [hEd.1 a b (by omega) (by omega) (by omega) (by omega) (by omega)]
          exact frF a b z
