/-- two listings that agree below n -/
def jeq (n : Int) (K v T K' v' T' : Int → Int) : Prop := ∀ i, 0 ≤ i → i < n → K i = K' i ∧ v i = v' i ∧ (jref (K i) → T i = T' i ∧ 0 ≤ T i ∧ T i < n)
section EQ
variable {n : Int} {K v T K' v' T' : Int → Int}
theorem jad_e (h : jeq n K v T K' v' T') {x : Int} (x0 : 0 ≤ x) (x1 : x ≤ n) : jad K v x = jad K' v' x := by
  obtain ⟨m, rfl⟩ : ∃ m : Nat, x = (m : Int) := ⟨x.toNat, by omega⟩
  clear x0
  induction m with
  | zero => rfl
  | succ m ih =>
    have e := ih (by omega)
    have hm := h m (by omega) (by omega)
    rw [show ((m + 1 : Nat) : Int) = (m : Int) + 1 by omega, jad_s K v (by omega), jad_s K' v' (by omega), e, hm.1, hm.2.1]
theorem jds_e (h : jeq n K v T K' v' T') {i : Int} (i0 : 0 ≤ i) (i1 : i < n) (hk : jref (K i)) : jds T v K i = jds T' v' K' i := by
  have t := (h i i0 i1).2.2 hk
  unfold jds
  rw [← t.1, jad_e h t.2.1 (by omega), jad_e h i0 (by omega)]
theorem jfr_e (h : jeq n K v T K' v' T') {i : Int} (i0 : 0 ≤ i) (i1 : i < n) : jfr T v n K i ↔ jfr T' v' n K' i := by
  have hi := h i i0 i1
  constructor
  · rintro ⟨a, b, c⟩
    rw [jds_e h i0 i1 (Or.inl b)] at c
    exact ⟨a, hi.1 ▸ b, c⟩
  · rintro ⟨a, b, c⟩
    have b2 : K i = 106 := hi.1.trans b
    rw [← jds_e h i0 i1 (Or.inl b2)] at c
    exact ⟨a, b2, c⟩
theorem jnc_e (h : jeq n K v T K' v' T') : jnc T v n K = jnc T' v' n K' := by
  unfold jnc
  refine jsum_c (fun i i0 i1 => ?_)
  by_cases z : jfr T v n K i
  · rw [if_pos z, if_pos ((jfr_e h i0 i1).mp z)]
  · rw [if_neg z, if_neg (fun q => z ((jfr_e h i0 i1).mpr q))]
theorem jnK_e (h : jeq n K v T K' v' T') : jeq n (jnK T v n K) v T (jnK T' v' n K') v' T' := fun i i0 i1 => by
  have hi := h i i0 i1
  unfold jnK
  by_cases z : jfr T v n K i
  · rw [if_pos z, if_pos ((jfr_e h i0 i1).mp z)]
    exact ⟨rfl, hi.2.1, fun _ => hi.2.2 (Or.inl z.2.1)⟩
  · rw [if_neg z, if_neg (fun q => z ((jfr_e h i0 i1).mpr q))]
    exact hi
theorem jplK_e : ∀ (f : Nat) (K K' : Int → Int), jeq n K v T K' v' T' → jeq n (jplK T v n f K) v T (jplK T' v' n f K') v' T' ∧ jplP T v n f K = jplP T' v' n f K' := by
  intro f
  induction f with
  | zero => intro K K' h; exact ⟨h, rfl⟩
  | succ f ih =>
    intro K K' h
    have c := jnc_e h
    obtain ⟨a, b⟩ := ih _ _ (jnK_e h)
    by_cases z : 0 < jnc T v n K
    · have z' : 0 < jnc T' v' n K' := by rw [← c]; exact z
      have e1 : jplK T v n (f + 1) K = jplK T v n f (jnK T v n K) := if_pos z
      have e2 : jplK T' v' n (f + 1) K' = jplK T' v' n f (jnK T' v' n K') := if_pos z'
      have e3 : jplP T v n (f + 1) K = 1 + jplP T v n f (jnK T v n K) := if_pos z
      have e4 : jplP T' v' n (f + 1) K' = 1 + jplP T' v' n f (jnK T' v' n K') := if_pos z'
      rw [e1, e2, e3, e4, b]; exact ⟨a, rfl⟩
    · have z' : ¬ 0 < jnc T' v' n K' := by rw [← c]; exact z
      have e1 : jplK T v n (f + 1) K = K := if_neg z
      have e2 : jplK T' v' n (f + 1) K' = K' := if_neg z'
      have e3 : jplP T v n (f + 1) K = 1 := if_neg z
      have e4 : jplP T' v' n (f + 1) K' = 1 := if_neg z'
      rw [e1, e2, e3, e4]; exact ⟨h, rfl⟩
theorem jwv_e (h : jeq n K v T K' v' T') {i : Int} (i0 : 0 ≤ i) (i1 : i < n) (o : Int) : jwv K v T i o = jwv K' v' T' i o ∧ jwm K i o = jwm K' i o := by
  have hi := h i i0 i1
  have ea := jad_e h i0 (Int.le_of_lt i1)
  have et : jref (K i) → jtd K v T i = jtd K' v' T' i := fun hk => by
    have t := hi.2.2 hk
    unfold jtd
    rw [← t.1, jad_e h t.2.1 (by omega)]
  refine ⟨?_, by unfold jwm; rw [hi.1]⟩
  unfold jwv
  rw [← hi.1, ← hi.2.1, ← ea]
  by_cases c1 : K i = 119 ∨ K i = 111
  · rw [if_pos c1, if_pos c1]
  rw [if_neg c1, if_neg c1]
  by_cases c2 : K i = 97
  · rw [if_pos c2, if_pos c2, et (Or.inr (Or.inr c2))]
  rw [if_neg c2, if_neg c2]
  by_cases c3 : K i = 106
  · rw [if_pos c3, if_pos c3, et (Or.inl c3)]
  rw [if_neg c3, if_neg c3]
  by_cases c4 : K i = 74
  · rw [if_pos c4, if_pos c4, et (Or.inr (Or.inl c4))]
  · rw [if_neg c4, if_neg c4]
theorem jFN_e (h : jeq n K v T K' v' T') : ∀ m : Nat, (m : Int) ≤ n → ∀ b, jFN K v T m b = jFN K' v' T' m b ∧ jGN K v m b = jGN K' v' m b := by
  intro m
  induction m with
  | zero => intro _ b; exact ⟨rfl, rfl⟩
  | succ m ih =>
    intro hm b
    have i := ih (by omega) b
    have w := jwv_e h (i := (m : Int)) (by omega) (by omega) (b - jad K v m)
    have ea := jad_e h (x := (m : Int)) (by omega) (by omega)
    have e1 : jFN K v T (m + 1) b = if b < jad K v m then jFN K v T m b else jwv K v T m (b - jad K v m) := rfl
    have e2 : jFN K' v' T' (m + 1) b = if b < jad K' v' m then jFN K' v' T' m b else jwv K' v' T' m (b - jad K' v' m) := rfl
    have e3 : jGN K v (m + 1) b = if b < jad K v m then jGN K v m b else jwm K m (b - jad K v m) := rfl
    have e4 : jGN K' v' (m + 1) b = if b < jad K' v' m then jGN K' v' m b else jwm K' m (b - jad K' v' m) := rfl
    rw [e1, e2, e3, e4, ← ea, i.1, i.2, w.1, w.2]
    exact ⟨rfl, rfl⟩
end EQ
theorem sm_ft {w w2 : JM} (h1 : w 4 9 ≠ 110) (e1 : w2 4 9 = w 4 9) (e2 : w2 4 10 = w 4 10) : jsmv w2 = jsmv w := by
  have q : jqW w = -75 := if_neg h1
  have q2 : jqW w2 = -75 := if_neg (by rw [e1]; exact h1)
  have i : jqI w = -75 := if_neg h1
  have i2 : jqI w2 = -75 := if_neg (by rw [e1]; exact h1)
  unfold jsmv
  rw [q, q2]
  show jsm0 w2 = jsm0 w
  unfold jsm0
  rw [q, q2, i, i2, show jqf w2 = jqf w by unfold jqf; rw [e1], show jqL w2 = jqL w by unfold jqL; rw [e1, e2]]
theorem sm_ok {w w2 : JM} (h1 : w 4 9 = 110) (h2 : w2 4 9 = 110) (e1 : w2 2 6 = w 2 6) (e2 : w2 5 2 = w 5 2) (e3 : ∀ b, 0 ≤ b → b < w 5 2 → w2 29 b = w 29 b) : jsmv w2 = jsmv w := by
  have q : jqW w = w 5 2 := if_pos h1
  have q2 : jqW w2 = w 5 2 := (if_pos h2).trans e2
  have e0 : jsm0 w2 = jsm0 w := by
    unfold jsm0
    rw [q, q2, show jqI w2 = jqI w by unfold jqI; rw [h1, h2, e1], show jqf w2 = jqf w by unfold jqf; rw [h1, h2], show jqL w2 = jqL w by unfold jqL; rw [if_pos (Or.inr h2), if_pos (Or.inr h1)]]
  unfold jsmv
  rw [q, q2]
  have : ∀ n : Nat, n ≤ (w 5 2).toNat → jsmN w2 n = jsmN w n := by
    intro n
    induction n with
    | zero => intro _; exact e0
    | succ n ih => intro hn; unfold jsmN; rw [ih (by omega), e3 n (by omega) (by omega)]
  exact this _ (Nat.le_refl _)
theorem as_two {g : Int} {σ σ2 w w2 : JM} {v v2 : Option JV} (h : jINV g σ) (q : jcA σ v w) (e : ∀ a b, (a = 7 ∨ 34 ≤ a ∨ a = 1 ∨ a = 13 ∨ a = 14) → σ2 a b = σ a b) (q2 : jcA σ2 v2 w2) : v2 = v ∧ jsmv w2 = jsmv w := by
  have S := h.1
  have u := S.unf
  have eu : junf σ2 = junf σ := by
    unfold junf jat
    rw [e 1 9 (by omega), e 1 8 (by omega), e 1 10 (by omega), e 13 _ (by omega), e 14 _ (by omega)]
  obtain ⟨t, ⟨-, r⟩, c⟩ := q
  obtain ⟨t2, ⟨-, r2⟩, c2⟩ := q2
  rw [eu] at r2
  by_cases nu : junf σ = -1
  · have nb := u.1.mp nu
    have hf := S.wf nb.1 nb.2
    have vo := jvW_o hf
    have ag : (jvW σ2).1 = (jvW σ).1 ∧ jag (jvW σ).2 (jvW σ2).2 := by
      have b0 : jag σ σ2 := fun a b hab => e a b (by omega)
      unfold jvW
      rw [e 7 1 (by omega)]
      exact jwk_ag _ _ _ _ _ _ _ _ _ _ _ (show 0 ≤ jnsc (jw0 σ) (-1) 7 16 from Int.le_refl 0) (((((b0.set 7 14 110).set 7 16 0).set 7 17 0).set 7 18 0).nsc (-1))
    obtain ⟨ag1, ag2⟩ := ag
    obtain ⟨ρ, hρ⟩ : ∃ ρ, (jvW σ).2 = ρ := ⟨_, rfl⟩
    obtain ⟨ρ2, hρ2⟩ : ∃ ρ2, (jvW σ2).2 = ρ2 := ⟨_, rfl⟩
    rw [hρ, hρ2] at ag2
    have v1 : jkp σ ρ := by rw [← hρ]; exact vo.1.1
    have v2 : jwi ρ := by rw [← hρ]; exact vo.1.2.1
    have v3 : jit σ ρ := by rw [← hρ]; exact vo.2
    rw [hρ] at r
    rw [hρ2, ag1] at r2
    rcases r with r | ⟨-, r1, r3⟩ | ⟨-, r1, r3⟩
    · exact absurd nu r.1
    · rcases r2 with z | ⟨-, -, s3⟩ | ⟨-, z, -⟩
      · exact absurd nu z.1
      · obtain ⟨-, f2, f3, f4, -⟩ := r3
        obtain ⟨-, g2, g3, g4, -⟩ := s3
        rcases c with ⟨c1, rfl, rfl⟩ | ⟨c1, -⟩
        · rcases c2 with ⟨d1, rfl, rfl⟩ | ⟨d1, -⟩
          · exact ⟨rfl, sm_ft f4 (by rw [g2, f2]; exact ag2 7 14 (by omega)) (by rw [g3, f3]; exact ag2 7 15 (by omega))⟩
          · exact absurd d1 g4
        · exact absurd c1 f4
      · omega
    · rcases r2 with z | ⟨-, z, -⟩ | ⟨-, -, s3⟩
      · exact absurd nu z.1
      · omega
      · have n16 : ρ2 7 16 = ρ 7 16 := ag2 7 16 (by omega)
        have r44 : ρ2 44 = ρ 44 := ag2.rw (by decide)
        have fd : ∀ i, jfd ρ2 i = jfd ρ i := fun i => jfd_ag ag2 i
        obtain ⟨⟨e26, -⟩, hi, -, -, hl⟩ := r3
        obtain ⟨⟨k26, -⟩, ki, -, -, kl⟩ := s3
        rw [n16, r44] at kl
        simp only [fd] at kl
        rw [n16] at ki k26
        rcases hl with ⟨a1, a2⟩ | ⟨i, i0, i1, i2, i3, i4⟩
        · rcases kl with ⟨b1, b2⟩ | ⟨j, j0, j1, -⟩
          · rcases c with ⟨c1, -⟩ | ⟨c1, rfl, W⟩
            · exact absurd a2 c1
            · rcases c2 with ⟨d1, -⟩ | ⟨d1, rfl, W2⟩
              · exact absurd b2 d1
              · have nn := v2.1
                have J : jeq (ρ 7 16) (t 16) (t 18) (t 19) (t2 16) (t2 18) (t2 19) := fun i i0 i1 => by
                  have h1 := hi i i0 i1
                  have h2 := ki i i0 i1
                  have mv : jmV ρ2 i = jmV ρ i := by
                    unfold jmV
                    rw [r44, ag2.rw (a := 36) (by decide), ag2.rw (a := 43) (by decide), ag2.rw (a := 45) (by decide)]
                  refine ⟨by rw [h1.1.2.1, h2.1.2.1, r44], by rw [h1.1.2.2.2, h2.1.2.2.2, mv], fun hk => ?_⟩
                  have hso := (jxi hf v1 v3 (i := i) i0 i1).1
                  have rk : jrk (ρ 44 i) := by rw [h1.1.2.1] at hk; exact (jkof_0 hso).1.mp hk
                  rw [h1.2, h2.2, r44, if_pos rk, if_pos rk, fd]
                  have := jfd_in (a1 i i0 i1 rk)
                  exact ⟨rfl, this.1, this.2⟩
                have P := (jplK_e 201 (t 16) (t2 16) J).1
                rw [← e26] at P
                have kn : t2 2 6 = t 2 6 := k26.trans e26.symm
                have F := jFN_e P (t 2 6).toNat (by omega)
                have ea := jad_e P (show 0 ≤ t 2 6 by omega) (Int.le_refl _)
                obtain ⟨W1, W3, -, W4⟩ := W
                obtain ⟨X1, X3, -, X4⟩ := W2
                have K1 : jPl t 16 = jplK (t 19) (t 18) (t 2 6) 201 (t 16) := rfl
                have K2 : jPl t2 16 = jplK (t2 19) (t2 18) (t 2 6) 201 (t2 16) := by rw [← kn]; rfl
                rw [K1] at W3 W4
                rw [K2, kn] at X3 X4
                have e52 : w2 5 2 = w 5 2 := by rw [W3, X3]; exact ea.symm
                refine ⟨by rw [e52], sm_ok ((W1 4 9 (by decide) (by decide) (by omega)).trans ((jPl_ne (by decide) (by decide) (by omega)).trans c1)) ((X1 4 9 (by decide) (by decide) (by omega)).trans ((jPl_ne (by decide) (by decide) (by omega)).trans d1)) ?_ e52 (fun b b0 b1 => ?_)⟩
                · rw [W1 2 6 (by decide) (by decide) (by omega), X1 2 6 (by decide) (by decide) (by omega), jPl_ne (by decide) (by decide) (by omega), jPl_ne (by decide) (by decide) (by omega)]
                  exact kn
                · rw [(W4 b b0 (by omega)).1, (X4 b b0 (by omega)).1, (F b).1]
          · exact absurd j1.2 (a1 j j0.1 j0.2 j1.1)
        · rcases kl with ⟨b1, -⟩ | ⟨j, j0, j1, j2, j3, j4⟩
          · exact absurd i1.2 (b1 i i0.1 i0.2 i1.1)
          · have eij : i = j := by
              rcases Int.lt_trichotomy i j with z | z | z
              · exact absurd i1.2 (j2 i i0.1 z i1.1)
              · exact z
              · exact absurd j1.2 (i2 j j0.1 z j1.1)
            subst eij
            rcases c with ⟨c1, rfl, rfl⟩ | ⟨c1, -⟩
            · rcases c2 with ⟨d1, rfl, rfl⟩ | ⟨d1, -⟩
              · exact ⟨rfl, sm_ft c1 (by omega) (by rw [i4, j4]; exact ag2 43 i (by omega))⟩
              · omega
            · omega
  · have r := r.resolve_right (fun z => by rcases z with z | z <;> exact nu z.1)
    have r2 := r2.resolve_right (fun z => by rcases z with z | z <;> exact nu z.1)
    rcases c with ⟨c1, rfl, rfl⟩ | ⟨c1, -⟩
    · rcases c2 with ⟨d1, rfl, rfl⟩ | ⟨d1, -⟩
      · exact ⟨rfl, sm_ft c1 (by omega) (by omega)⟩
      · omega
    · omega
