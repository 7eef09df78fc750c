theorem V.okm {l : Launch} {E : JE} {i : JI} {d n : Nat} {Qr : Option JV → JM → Prop} {Qx : String → JM → Prop} {pc : Nat} {L st : List JV} {σ : JM} (h : jokm σ → V l E i d n Qr Qx pc L st σ) : V l E i d n Qr Qx pc L st σ := fun p e R s m args below meth c A cm sm Z hF hX hZ H locs cells slots ls hT => h hT.2.1 p e R s m args below meth c A cm sm Z hF hX hZ H locs cells slots ls hT

abbrev jvA (a : Nat) (b : Int) : Prop := (15 ≤ a ∧ a ≤ 26) ∨ ((a = 27 ∨ a = 28) ∧ 2 ≤ b) ∨ a = 29 ∨ a = 30 ∨ a = 2 ∨ a = 3 ∨ a = 4 ∨ a = 5 ∨ (42 ≤ a ∧ a ≤ 52) ∨ (a = 7 ∧ (b = 0 ∨ (13 ≤ b ∧ b ≤ 20)))
theorem jINV.asm {g : Int} {σ σ' : JM} (h : jINV g σ) (e : ∀ a b, ¬ jvA a b → σ' a b = σ a b) (A : jAsm σ') : jINV g σ' := by
  obtain ⟨h1, h2, h3, h4, h5⟩ := h
  have r : ∀ a : Nat, ((8 ≤ a ∧ a ≤ 14) ∨ (34 ≤ a ∧ a ≤ 41)) → σ' a = σ a := fun a ha => funext fun b => e a b (by omega)
  have S' : jSrc σ' := by
    unfold jSrc jopn jcld jl1 jln at h1 ⊢
    rw [e 1 7 (by omega), e 1 8 (by omega), e 1 9 (by omega), e 1 10 (by omega), e 7 1 (by omega), e 7 2 (by omega), e 7 3 (by omega), e 7 4 (by omega), r 8 (by decide), r 9 (by decide), r 10 (by decide), r 11 (by decide), r 12 (by decide), r 13 (by decide), r 14 (by decide), r 34 (by decide), r 35 (by decide), r 36 (by decide), r 37 (by decide), r 38 (by decide), r 39 (by decide), r 40 (by decide), r 41 (by decide)]
    exact h1
  refine ⟨S', h2.feed h1 (e 6 4 (by omega)) (fun i => ⟨e 32 i (by omega), e 33 i (by omega)⟩) (by rw [e 7 2 (by omega), e 1 10 (by omega)]; exact Int.le_refl _) (fun a ha x _ _ => e a x (by omega)) (fun x _ _ _ => e 38 x (by omega)) (fun m _ _ => ⟨e 40 m (by omega), e 41 m (by omega)⟩), ?_, by rw [e 6 4 (by omega)]; exact h4, A⟩
  unfold jar0 at h3 ⊢
  rw [e 27 0 (by omega), e 27 1 (by omega), e 28 0 (by omega), e 28 1 (by omega)]; exact h3
theorem jPl_ne {t : JM} {a : Nat} {b : Int} (h1 : a ≠ 16) (h2 : a ≠ 20) (h3 : ¬ (a = 2 ∧ b = 7)) : jPl t a b = t a b := by
  unfold jPl jpM
  rw [jset_ne _ h3]
  show (if a = 20 then _ else if a = 16 then _ else t a b) = t a b
  rw [if_neg h2, if_neg h1]
/-- what the class's assemble leaves alone -/
theorem jcA_w {σ w : JM} {v : Option JV} (h : jcA σ v w) : ∀ a b, ¬ (jvA a b ∧ a < 42 ∧ a ≠ 7) → w a b = σ a b := fun a b q => by
  obtain ⟨t, r, c⟩ := h
  rcases c with ⟨-, -, rfl⟩ | ⟨-, -, W⟩
  · exact r.1 a b (by omega)
  · rw [W.1 a b (by omega) (by omega) (by omega), jPl_ne (by omega) (by omega) (by omega)]
    exact r.1 a b (by omega)
/-! ===== what assembling gives ===== -/
theorem jcn_cg {σ σ' : JM} (h : ∀ a b, 34 ≤ a → σ' a b = σ a b) : ∀ (n : Nat) (x to p q : Int), jcn n σ' x to p q = jcn n σ x to p q := by
  have r : ∀ a : Nat, 34 ≤ a → σ' a = σ a := fun a ha => funext fun b => h a b ha
  intro n
  induction n with
  | zero => intro x to p q; rfl
  | succ n ih =>
    intro x to p q
    unfold jcn jwa jwb
    rw [r 34 (by decide), r 35 (by decide), r 36 (by decide), r 37 (by decide), r 38 (by decide), r 40 (by decide), r 41 (by decide)]
    simp only [ih]
def jc74 (K : Int → Int) (n : Int) : Int := jsum (fun i => if K i = 74 then 1 else 0) n
theorem jc74_b {K : Int → Int} {n : Int} (h : 0 ≤ n) : 0 ≤ jc74 K n :=
  (jsum_le (g := fun i => if K i = 74 then 1 else 0) (c := 1) h (fun i _ _ => by by_cases q : K i = 74 <;> simp [q])).1
theorem jc74_n {T v : Int → Int} {n : Int} (h : 0 ≤ n) (K : Int → Int) : jc74 (jnK T v n K) n = jc74 K n + jnc T v n K := by
  unfold jc74 jnc
  rw [← jsum_add h]
  refine jsum_c (fun i i0 i1 => ?_)
  unfold jnK
  by_cases e : jfr T v n K i
  · have : K i = 106 := e.2.1
    rw [if_pos e, if_pos e, if_pos rfl, if_neg (by omega)]
    rfl
  · rw [if_neg e, if_neg e, Int.add_zero]
theorem jplK_end {T v : Int → Int} {n : Int} (hn : 0 ≤ n) : ∀ (f : Nat) (K : Int → Int), jsh6 K n < f → ¬ 0 < jnc T v n (jplK T v n f K) := by
  intro f
  induction f with
  | zero => intro K h; have := (jsh6_le (K := K) hn).1; omega
  | succ f ih =>
    intro K h
    unfold jplK
    by_cases e : 0 < jnc T v n K
    · rw [if_pos e]
      have := jsh6_n (T := T) (v := v) hn K
      exact ih _ (by omega)
    · rw [if_neg e]; exact e
theorem jplP_le {T v : Int → Int} {n : Int} (hn : 0 ≤ n) : ∀ (f : Nat) (K : Int → Int), jplP T v n f K + jc74 K n ≤ jc74 (jplK T v n f K) n + 1 := by
  intro f
  induction f with
  | zero => intro K; show (0 : Int) + jc74 K n ≤ jc74 K n + 1; omega
  | succ f ih =>
    intro K
    unfold jplK jplP
    by_cases e : 0 < jnc T v n K
    · rw [if_pos e, if_pos e]
      have h1 := ih (jnK T v n K)
      have h2 := jc74_n (T := T) (v := v) hn K
      omega
    · rw [if_neg e, if_neg e]; omega
theorem jplP_ge {T v : Int → Int} {n : Int} : ∀ (f : Nat) (K : Int → Int), 0 ≤ jplP T v n f K ∧ (1 ≤ f → 1 ≤ jplP T v n f K) := by
  intro f
  induction f with
  | zero => intro K; exact ⟨Int.le_refl 0, fun h => absurd h (by decide)⟩
  | succ f ih =>
    intro K
    unfold jplP
    have := (ih (jnK T v n K)).1
    by_cases e : 0 < jnc T v n K
    · rw [if_pos e]; exact ⟨by omega, fun _ => by omega⟩
    · rw [if_neg e]; exact ⟨by decide, fun _ => by decide⟩
theorem jfdN_l {σ : JM} (a : Int) : ∀ (f : Nat) (s : Int), jfdN σ a f s = -1 ∨ σ 44 (jfdN σ a f s) = 0 := by
  intro f
  induction f with
  | zero => intro s; exact Or.inl rfl
  | succ f ih =>
    intro s
    unfold jfdN
    by_cases e : s = -1
    · rw [if_pos e]; exact Or.inl rfl
    · rw [if_neg e]
      by_cases e2 : jfs (jdp σ a s) (σ 7 16) ≠ -1
      · rw [if_pos e2]
        rcases jfs_cases (P := jdp σ a s) (σ 7 16) with h | h
        · exact absurd h.1 e2
        · exact Or.inr h.2.2.1.1
      · rw [if_neg e2]; exact ih _
/-- a program that was assembled without a fault -/
def jWh (σ : JM) : Prop := (σ 4 9 = 110 ∧ junf σ = -1) ∧ (0 ≤ σ 2 6 ∧ σ 2 6 ≤ 200) ∧ jlok (σ 16) (σ 18) (σ 19) (σ 2 6) ∧ jadr σ ∧ σ 5 2 = jad (σ 16) (σ 18) (σ 2 6) ∧ (1 ≤ σ 2 7 ∧ σ 2 7 ≤ jc74 (σ 16) (σ 2 6) + 1) ∧
  (∀ i, 0 ≤ i → i < σ 2 6 → (jref (σ 16 i) → σ 16 (σ 19 i) = 108) ∧ (¬ jref (σ 16 i) → σ 19 i = -1) ∧ (σ 16 i = 106 → -8 ≤ jds (σ 19) (σ 18) (σ 16) i ∧ jds (σ 19) (σ 18) (σ 16) i ≤ 7) ∧ 0 ≤ σ 15 i ∧ 0 ≤ σ 17 i) ∧
  ((∀ b, 0 ≤ b → b < σ 5 2 → σ 29 b = jFN (σ 16) (σ 18) (σ 19) (σ 2 6).toNat b ∧ σ 30 b = jGN (σ 16) (σ 18) (σ 2 6).toNat b) ∧ σ 5 3 = jsum (jGN (σ 16) (σ 18) (σ 2 6).toNat) (σ 5 2)) ∧
  (∀ x, jlb σ 0 x = -1 ∨ (0 ≤ jlb σ 0 x ∧ jlb σ 0 x < σ 2 6)) ∧ ¬ (jcn 7000 σ 0 (σ 7 1) 0 0).2 ∧ min (jcn 7000 σ 0 (σ 7 1) 0 0).1 1000000 = σ 2 6
/-- what a fault leaves -/
def jFt (σ : JM) : Prop := σ 4 9 ≠ 110 ∧ σ 4 9 ≠ 0 ∧ ((σ 4 9 = 98 ∧ junf σ ≠ -1) ∨ (junf σ = -1 ∧ (σ 4 9 = 97 ∨ σ 4 9 = 100 ∨ σ 4 9 = 102 ∨ σ 4 9 = 117))) ∧ 0 ≤ σ 4 10 ∧ σ 4 10 < σ 1 7
theorem jkof_0 {s : Int} (h : 0 ≤ s ∧ s ≤ 5) : (jref (jkof s 0) ↔ jrk s) ∧ jkof s 0 ≠ 74 ∧ (jkof s 0 = 108 ↔ s = 0) := by
  rcases (show s = 0 ∨ s = 1 ∨ s = 2 ∨ s = 3 ∨ s = 4 ∨ s = 5 by omega) with rfl | rfl | rfl | rfl | rfl | rfl <;> decide
theorem jpl_w {t ρ : JM} (hE : jxE t ρ) (hso : ∀ i, 0 ≤ i → i < ρ 7 16 → 0 ≤ ρ 44 i ∧ ρ 44 i ≤ 5) : ∀ i, 0 ≤ i → i < t 2 6 → (jref (jPl t 16 i) ↔ jrk (ρ 44 i)) ∧ (jPl t 16 i = 108 ↔ ρ 44 i = 0) := fun i i0 i1 => by
  obtain ⟨⟨e26, -⟩, hi, -⟩ := hE
  have h := hi i i0 (by omega)
  have z := jkof_0 (hso i i0 (by omega))
  have e : jPl t 16 i = jplK (t 19) (t 18) (t 2 6) 201 (t 16) i := rfl
  rcases jplK_v (t 19) (t 18) (t 2 6) 201 (t 16) i with q | ⟨q1, q2⟩
  · rw [e, q, h.1.2.1]; exact ⟨z.1, z.2.2⟩
  · rw [e, q2]
    rw [h.1.2.1] at q1
    have k : jrk (ρ 44 i) := z.1.mp (Or.inl q1)
    exact ⟨⟨fun _ => k, fun _ => by decide⟩, fun y => absurd y (by decide), fun y => by have := z.2.2.mpr y; omega⟩
theorem as_all {g : Int} {σ w : JM} {v : Option JV} (h : jINV g σ) (q : jcA σ v w) : jINV g w ∧ ((v = some (0, -1) ∧ jFt w) ∨ (v = some (0, w 5 2) ∧ jWh w)) := by
  have S := h.1
  have a1 := S.a1
  have a2 := S.a2
  have u := S.unf
  have hcw := jcA_w q
  have hr : ∀ a b, (a = 7 ∨ 34 ≤ a) → w a b = σ a b := fun a b z => hcw a b (by omega)
  have hI : jAsm w → jINV g w := fun A => h.asm (fun a b z => hcw a b (fun y => z y.1)) A
  have eu : junf w = junf σ := by
    unfold junf jat
    rw [hcw 1 9 (by omega), hcw 1 8 (by omega), hcw 1 10 (by omega), hcw 13 _ (by omega), hcw 14 _ (by omega)]
  have e17 : w 1 7 = σ 1 7 := hcw 1 7 (by omega)
  obtain ⟨t, ⟨kc, r⟩, c⟩ := q
  by_cases nu : junf σ = -1
  · have nb := u.1.mp nu
    have hf := S.wf nb.1 nb.2
    obtain ⟨pk, pi, pc, pj⟩ := jvW_pre hf
    have vo := jvW_o hf
    have ct := jwk_ct hf 7000 (jnsc (jw0 σ) (-1)) 0 (σ 7 1) 0 0 0 0 0 0 pk pi pc hf.al (fun i i0 i1 => absurd (show i < 0 from i1) (by omega))
    have ct : jct σ (jnsc (jw0 σ) (-1)) (jce 7000 σ 0 (σ 7 1) 0 0) (jcn 7000 σ 0 (σ 7 1) 0 0).2 (jvW σ) := ct
    rcases r with r | ⟨-, r1, r2⟩ | ⟨-, r1, r2⟩
    · exact absurd nu r.1
    · rcases c with ⟨c1, rfl, rfl⟩ | ⟨c1, -⟩
      · obtain ⟨f1, f2, f3, f4, f5, f6⟩ := r2
        have fo : jfok σ (jvW σ).2 := (ct.2 r1 rfl).resolve_left (fun z => f4 (f2.trans z))
        refine ⟨hI ⟨⟨by omega, f6⟩, fun z => absurd z f4⟩, Or.inl ⟨rfl, f4, by omega, Or.inr ⟨eu.trans nu, ?_⟩, ?_⟩⟩
        · rw [f2]; have := fo.1; omega
        · rw [f3, e17]; have := fo.2; omega
      · exact absurd c1 r2.2.2.2.1
    · have ct := ct.1 (by omega)
      have hxi := fun i i0 i1 => jxi hf vo.1.1 vo.2 (i := i) i0 i1
      rcases c with ⟨c1, rfl, rfl⟩ | ⟨c1, rfl, W⟩
      · rcases r2.2.2.2.2 with z | ⟨i, z0, -, -, z1, z2⟩
        · exact absurd z.2 c1
        · have := (hxi i z0.1 z0.2).2.2.2.2.2
          refine ⟨hI ⟨⟨by omega, by omega⟩, fun z => absurd z c1⟩, Or.inl ⟨rfl, c1, by omega, Or.inr ⟨eu.trans nu, by omega⟩, by omega, ?_⟩⟩
          have := (vo.2.2 i z0.1 z0.2).1.2
          omega
      · obtain ⟨ρ, hρ⟩ : ∃ ρ, (jvW σ).2 = ρ := ⟨_, rfl⟩
        have v1 : jkp σ ρ := by rw [← hρ]; exact vo.1.1
        have v2 : jwi ρ := by rw [← hρ]; exact vo.1.2.1
        have v3 : jit σ ρ := by rw [← hρ]; exact vo.2
        rw [hρ] at r2 ct hxi
        obtain ⟨l1, l2, l3, l4⟩ := jx_lok hf v1 v3 v2 r2 c1
        obtain ⟨⟨e26, e35⟩, hi, h21, hn20, hl⟩ := r2
        have hall : ∀ i, 0 ≤ i → i < ρ 7 16 → jrk (ρ 44 i) → jfd ρ i ≠ -1 := by
          rcases hl with z | ⟨_, -, -, -, z, -⟩
          · exact z.1
          · omega
        have hpw := jpl_w (t := t) (ρ := ρ) ⟨⟨e26, e35⟩, hi, h21, hn20, hl⟩ (fun i i0 i1 => (hxi i i0 i1).1)
        have n0 : 0 ≤ t 2 6 ∧ t 2 6 ≤ 200 := by have := v2.1; omega
        obtain ⟨W1, W2, W3, W4⟩ := W
        have wn : ∀ a b, a ≠ 29 → a ≠ 30 → a ≠ 16 → a ≠ 20 → ¬ (a = 5 ∧ (b = 2 ∨ b = 3)) → ¬ (a = 2 ∧ b = 7) → w a b = t a b := fun a b z1 z2 z3 z4 z5 z6 => (W1 a b z1 z2 z5).trans (jPl_ne z3 z4 z6)
        have k16 : w 16 = jPl t 16 := funext fun b => W1 16 b (by decide) (by decide) (by omega)
        have k18 : w 18 = t 18 := funext fun b => wn 18 b (by decide) (by decide) (by decide) (by decide) (by omega) (by omega)
        have k19 : w 19 = t 19 := funext fun b => wn 19 b (by decide) (by decide) (by decide) (by decide) (by omega) (by omega)
        have k26 : w 2 6 = t 2 6 := wn 2 6 (by decide) (by decide) (by decide) (by decide) (by omega) (by omega)
        have k49 : w 4 9 = 110 := (wn 4 9 (by decide) (by decide) (by decide) (by decide) (by omega) (by omega)).trans c1
        have k27 : w 2 7 = jplP (t 19) (t 18) (t 2 6) 201 (t 16) := (W1 2 7 (by decide) (by decide) (by omega)).trans rfl
        have K0 : jPl t 16 = jplK (t 19) (t 18) (t 2 6) 201 (t 16) := rfl
        have fin := jplK_end (T := t 19) (v := t 18) n0.1 201 (t 16) (by have := (jsh6_le (K := t 16) n0.1).2; omega)
        have ad := jad_b (K := jPl t 16) (v := t 18) (N := t 2 6) (fun i i0 i1 => (l3.2.2 i i0 i1).1) n0.1 (Int.le_refl _)
        refine ⟨hI ⟨⟨by omega, by omega⟩, fun _ => ⟨by rw [k26]; exact n0, by rw [W2]; omega⟩⟩, Or.inr ⟨rfl, ⟨k49, eu.trans nu⟩, by rw [k26]; exact n0, by rw [k16, k18, k19, k26]; exact l3, ?_, by rw [W2, k16, k18, k26], ?_, ?_, ⟨?_, ?_⟩, ?_, ?_, ?_⟩⟩
        · intro i i0 i1
          rw [k26] at i1
          rw [k16, k18, W1 20 i (by decide) (by decide) (by omega)]
          exact l4 i i0 i1
        · rw [k27, k16, k26, K0]
          have p1 := (jplP_ge (T := t 19) (v := t 18) (n := t 2 6) 201 (t 16)).2 (by decide)
          have p2 := jplP_le (T := t 19) (v := t 18) n0.1 201 (t 16)
          have p3 := jc74_b (K := t 16) n0.1
          exact ⟨p1, by omega⟩
        · intro i i0 i1
          rw [k26] at i1
          have hp := hpw i i0 i1
          have hh := hi i i0 (by omega)
          rw [k16, k19, wn 15 i (by decide) (by decide) (by decide) (by decide) (by omega) (by omega), wn 17 i (by decide) (by decide) (by decide) (by decide) (by omega) (by omega), hh.2, hh.1.1, hh.1.2.2.1]
          refine ⟨fun z => ?_, fun z => ?_, fun z => ?_, ?_, ?_⟩
          · have rk := hp.1.mp z
            rw [if_pos rk]
            have nf := hall i i0 (by omega) rk
            have hb := jfd_in nf
            exact (hpw _ hb.1 (by omega)).2.mpr ((jfdN_l (σ := ρ) (ρ 45 i) ((ρ 46 i).toNat + 2) (ρ 46 i)).resolve_left nf)
          · rw [if_neg (fun y => z (hp.1.mpr y))]
          · rw [k18]
            have z6 : jplK (t 19) (t 18) (t 2 6) 201 (t 16) i = 106 := z
            have := jsum_z (g := fun j => if jfr (t 19) (t 18) (t 2 6) (jplK (t 19) (t 18) (t 2 6) 201 (t 16)) j then 1 else 0) (x := t 2 6) (fun j _ _ => by show (0 : Int) ≤ if jfr (t 19) (t 18) (t 2 6) (jplK (t 19) (t 18) (t 2 6) 201 (t 16)) j then 1 else 0; split <;> decide) (Int.not_lt.mp fin) i i0 i1
            rw [K0]
            by_cases y : jfr (t 19) (t 18) (t 2 6) (jplK (t 19) (t 18) (t 2 6) 201 (t 16)) i
            · have this : (if jfr (t 19) (t 18) (t 2 6) (jplK (t 19) (t 18) (t 2 6) 201 (t 16)) i then (1 : Int) else 0) = 0 := this
              rw [if_pos y] at this
              exact absurd this (by decide)
            · by_cases y2 : -8 ≤ jds (t 19) (t 18) (jplK (t 19) (t 18) (t 2 6) 201 (t 16)) i ∧ jds (t 19) (t 18) (jplK (t 19) (t 18) (t 2 6) 201 (t 16)) i ≤ 7
              · exact y2
              · exact absurd ⟨⟨i0, i1⟩, z6, y2⟩ y
          · exact (v3.2 i i0 (by omega)).1.1
          · exact ct.2.2.1 i i0 (by omega)
        · intro b b0 b1
          rw [W2] at b1
          rw [k16, k18, k19, k26]
          exact W4 b b0 b1
        · rw [k16, k18, k26, W3, W2]
        · intro x
          unfold jlb
          by_cases hx : 0 ≤ x ∧ x < 20
          · rw [if_pos hx, show (0 : Int) * 20 + x = x by omega, jat_in hx.1 (by omega), wn 21 x (by decide) (by decide) (by decide) (by decide) (by omega) (by omega), h21 x hx.1 hx.2, k26]
            rcases jfs_cases (P := jdp ρ x 0) (ρ 7 16) with y | y
            · exact Or.inl y.1
            · exact Or.inr ⟨y.1, by have := y.2.1; show jfs (jdp ρ x 0) (ρ 7 16) < _; omega⟩
          · rw [if_neg hx]; exact Or.inl rfl
        · rw [jcn_cg (fun a b z => hr a b (Or.inr z)), hr 7 1 (Or.inl rfl)]
          exact ct.2.1
        · rw [jcn_cg (fun a b z => hr a b (Or.inr z)), hr 7 1 (Or.inl rfl), jcn_e6 hf 7000 0 (σ 7 1) 0 0 pc hf.al, k26, e26]
          have e := ct.1
          have : (jnsc (jw0 σ) (-1)) 7 16 = 0 := rfl
          rw [this] at e
          omega
  · have r := r.resolve_right (fun z => by rcases z with z | z <;> exact nu z.1)
    rcases c with ⟨c1, rfl, rfl⟩ | ⟨c1, -⟩
    · have ub : 0 ≤ junf σ ∧ junf σ < σ 1 7 := by
        unfold junf
        by_cases h9 : 0 < σ 1 9
        · rw [if_pos h9, jat_in (by omega) (by omega)]
          have := S.gg (σ 7 4 - 1) (by omega) (by omega)
          rw [show σ 1 9 - 1 = σ 7 4 - 1 by omega, this.1]
          have := this.2.1
          omega
        · rw [if_neg h9]
          by_cases h10 : σ 1 10 ≠ 0
          · rw [if_pos h10, jat_in (by omega) (by omega)]
            have := S.mm (σ 7 2 - 1) (by omega) (by omega)
            rw [show σ 1 8 - 1 = σ 7 2 - 1 by omega, this.1]
            have := this.2.1
            omega
          · exfalso
            apply nu
            unfold junf
            rw [if_neg h9, if_neg h10]
      exact ⟨hI ⟨⟨by omega, by omega⟩, fun z => absurd z c1⟩, Or.inl ⟨rfl, c1, by omega, Or.inl ⟨r.2.1, fun z => nu (eu.symm.trans z)⟩, by omega, by omega⟩⟩
    · omega
