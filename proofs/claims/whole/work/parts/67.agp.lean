/-! ===== what is assembled agrees on both sides ===== -/
/-- two listings that agree below n -/
def jeq (n : Int) (K v T K' v' T' : Int → Int) : Prop := ∀ i, 0 ≤ i → i < n → K i = K' i ∧ v i = v' i ∧ (jref (K i) → T i = T' i ∧ 0 ≤ T i ∧ T i < n)
section EQ
variable {n : Int} {K v T K' v' T' : Int → Int}
theorem jad_e (h : jeq n K v T K' v' T') {x : Int} (x0 : 0 ≤ x) (x1 : x ≤ n) : jad K v x = jad K' v' x := by
  obtain ⟨m, rfl⟩ : ∃ m : Nat, x = (m : Int) := ⟨x.toNat, by omega⟩
  clear x0
  induction m with
  | zero => rfl
  | succ m ih =>
    have e := ih (by omega)
    have hm := h m (by omega) (by omega)
    rw [show ((m + 1 : Nat) : Int) = (m : Int) + 1 by omega, jad_s K v (by omega), jad_s K' v' (by omega), e, hm.1, hm.2.1]
theorem jds_e (h : jeq n K v T K' v' T') {i : Int} (i0 : 0 ≤ i) (i1 : i < n) (hk : jref (K i)) : jds T v K i = jds T' v' K' i := by
  have t := (h i i0 i1).2.2 hk
  unfold jds
  rw [← t.1, jad_e h t.2.1 (by omega), jad_e h i0 (by omega)]
theorem jfr_e (h : jeq n K v T K' v' T') {i : Int} (i0 : 0 ≤ i) (i1 : i < n) : jfr T v n K i ↔ jfr T' v' n K' i := by
  have hi := h i i0 i1
  constructor
  · rintro ⟨a, b, c⟩
    rw [jds_e h i0 i1 (Or.inl b)] at c
    exact ⟨a, hi.1 ▸ b, c⟩
  · rintro ⟨a, b, c⟩
    have b2 : K i = 106 := hi.1.trans b
    rw [← jds_e h i0 i1 (Or.inl b2)] at c
    exact ⟨a, b2, c⟩
theorem jnc_e (h : jeq n K v T K' v' T') : jnc T v n K = jnc T' v' n K' := by
  unfold jnc
  refine jsum_c (fun i i0 i1 => ?_)
  by_cases z : jfr T v n K i
  · rw [if_pos z, if_pos ((jfr_e h i0 i1).mp z)]
  · rw [if_neg z, if_neg (fun q => z ((jfr_e h i0 i1).mpr q))]
theorem jnK_e (h : jeq n K v T K' v' T') : jeq n (jnK T v n K) v T (jnK T' v' n K') v' T' := fun i i0 i1 => by
  have hi := h i i0 i1
  unfold jnK
  by_cases z : jfr T v n K i
  · rw [if_pos z, if_pos ((jfr_e h i0 i1).mp z)]
    exact ⟨rfl, hi.2.1, fun _ => hi.2.2 (Or.inl z.2.1)⟩
  · rw [if_neg z, if_neg (fun q => z ((jfr_e h i0 i1).mpr q))]
    exact hi
theorem jplK_e : ∀ (f : Nat) (K K' : Int → Int), jeq n K v T K' v' T' → jeq n (jplK T v n f K) v T (jplK T' v' n f K') v' T' ∧ jplP T v n f K = jplP T' v' n f K' := by
  intro f
  induction f with
  | zero => intro K K' h; exact ⟨h, rfl⟩
  | succ f ih =>
    intro K K' h
    have c := jnc_e h
    obtain ⟨a, b⟩ := ih _ _ (jnK_e h)
    by_cases z : 0 < jnc T v n K
    · have z' : 0 < jnc T' v' n K' := by rw [← c]; exact z
      have e1 : jplK T v n (f + 1) K = jplK T v n f (jnK T v n K) := if_pos z
      have e2 : jplK T' v' n (f + 1) K' = jplK T' v' n f (jnK T' v' n K') := if_pos z'
      have e3 : jplP T v n (f + 1) K = 1 + jplP T v n f (jnK T v n K) := if_pos z
      have e4 : jplP T' v' n (f + 1) K' = 1 + jplP T' v' n f (jnK T' v' n K') := if_pos z'
      rw [e1, e2, e3, e4, b]; exact ⟨a, rfl⟩
    · have z' : ¬ 0 < jnc T' v' n K' := by rw [← c]; exact z
      have e1 : jplK T v n (f + 1) K = K := if_neg z
      have e2 : jplK T' v' n (f + 1) K' = K' := if_neg z'
      have e3 : jplP T v n (f + 1) K = 1 := if_neg z
      have e4 : jplP T' v' n (f + 1) K' = 1 := if_neg z'
      rw [e1, e2, e3, e4]; exact ⟨h, rfl⟩
theorem jwv_e (h : jeq n K v T K' v' T') {i : Int} (i0 : 0 ≤ i) (i1 : i < n) (o : Int) : jwv K v T i o = jwv K' v' T' i o ∧ jwm K i o = jwm K' i o := by
  have hi := h i i0 i1
  have ea := jad_e h i0 (Int.le_of_lt i1)
  have et : jref (K i) → jtd K v T i = jtd K' v' T' i := fun hk => by
    have t := hi.2.2 hk
    unfold jtd
    rw [← t.1, jad_e h t.2.1 (by omega)]
  refine ⟨?_, by unfold jwm; rw [hi.1]⟩
  unfold jwv
  rw [← hi.1, ← hi.2.1, ← ea]
  by_cases c1 : K i = 119 ∨ K i = 111
  · rw [if_pos c1, if_pos c1]
  rw [if_neg c1, if_neg c1]
  by_cases c2 : K i = 97
  · rw [if_pos c2, if_pos c2, et (Or.inr (Or.inr c2))]
  rw [if_neg c2, if_neg c2]
  by_cases c3 : K i = 106
  · rw [if_pos c3, if_pos c3, et (Or.inl c3)]
  rw [if_neg c3, if_neg c3]
  by_cases c4 : K i = 74
  · rw [if_pos c4, if_pos c4, et (Or.inr (Or.inl c4))]
  · rw [if_neg c4, if_neg c4]
theorem jFN_e (h : jeq n K v T K' v' T') : ∀ m : Nat, (m : Int) ≤ n → ∀ b, jFN K v T m b = jFN K' v' T' m b ∧ jGN K v m b = jGN K' v' m b := by
  intro m
  induction m with
  | zero => intro _ b; exact ⟨rfl, rfl⟩
  | succ m ih =>
    intro hm b
    have i := ih (by omega) b
    have w := jwv_e h (i := (m : Int)) (by omega) (by omega) (b - jad K v m)
    have ea := jad_e h (x := (m : Int)) (by omega) (by omega)
    have e1 : jFN K v T (m + 1) b = if b < jad K v m then jFN K v T m b else jwv K v T m (b - jad K v m) := rfl
    have e2 : jFN K' v' T' (m + 1) b = if b < jad K' v' m then jFN K' v' T' m b else jwv K' v' T' m (b - jad K' v' m) := rfl
    have e3 : jGN K v (m + 1) b = if b < jad K v m then jGN K v m b else jwm K m (b - jad K v m) := rfl
    have e4 : jGN K' v' (m + 1) b = if b < jad K' v' m then jGN K' v' m b else jwm K' m (b - jad K' v' m) := rfl
    rw [e1, e2, e3, e4, ← ea, i.1, i.2, w.1, w.2]
    exact ⟨rfl, rfl⟩
theorem jFN_b (h : jlok K v T n) : ∀ m : Nat, (m : Int) ≤ n → ∀ b, (0 ≤ jFN K v T m b ∧ jFN K v T m b ≤ 100000) ∧ (jGN K v m b = 0 ∨ jGN K v m b = 1) := by
  obtain ⟨n0, n2, hh⟩ := h
  have ab : ∀ x, 0 ≤ x → x ≤ n → 0 ≤ jad K v x ∧ jad K v x ≤ 1400 := fun x x0 x1 => by
    have := jad_b (K := K) (v := v) (N := n) (fun i i0 i1 => (hh i i0 i1).1) x0 x1
    omega
  intro m
  induction m with
  | zero => intro _ b; exact ⟨⟨Int.le_refl 0, show (0 : Int) ≤ 100000 by decide⟩, Or.inl rfl⟩
  | succ m ih =>
    intro hm b
    have i := ih (by omega) b
    have g := hh m (by omega) (by omega)
    have am := ab m (by omega) (by omega)
    have e1 : jFN K v T (m + 1) b = if b < jad K v m then jFN K v T m b else jwv K v T m (b - jad K v m) := rfl
    have e3 : jGN K v (m + 1) b = if b < jad K v m then jGN K v m b else jwm K m (b - jad K v m) := rfl
    rw [e1, e3]
    by_cases z : b < jad K v m
    · rw [if_pos z, if_pos z]; exact i
    · rw [if_neg z, if_neg z]
      refine ⟨?_, by unfold jwm; split <;> omega⟩
      unfold jwv
      by_cases c1 : K m = 119 ∨ K m = 111
      · rw [if_pos c1]; omega
      rw [if_neg c1]
      by_cases c2 : K m = 97 ∨ K m = 106 ∨ K m = 74
      · have t := ab (T m) (g.2.1 (by omega)).1 (by have := (g.2.1 (by omega)).2; omega)
        have et : jtd K v T m = jad K v (T m) := rfl
        rw [et]
        repeat' split
        all_goals omega
      · rw [if_neg (by omega), if_neg (by omega), if_neg (by omega)]; omega
end EQ
/-- the first item that is not found -/
theorem jaf_u (σ : JM) : ∀ n : Nat, ((jaf σ n).1 = 1 ∧ (jaf σ n).2 7 14 = σ 7 14) ∨ ((jaf σ n).1 = 0 ∧ ∃ i : Int, (0 ≤ i ∧ i < n) ∧ (jrk (σ 44 i) ∧ jfd σ i = -1) ∧ (∀ j, 0 ≤ j → j < i → jrk (σ 44 j) → jfd σ j ≠ -1) ∧ (jaf σ n).2 7 14 = 117 ∧ (jaf σ n).2 7 15 = σ 43 i) := by
  intro n
  induction n with
  | zero => exact Or.inl ⟨rfl, rfl⟩
  | succ n ih =>
    have e : jaf σ (n + 1) = if (jaf σ n).1 = 0 then jaf σ n else if σ 44 n = 3 ∨ σ 44 n = 4 then (if jfd σ n = -1 then (0, jstp (jset (jaf σ n).2 49 n (-1)) 117 (σ 43 n)) else (1, jset (jaf σ n).2 49 n (jfd σ n))) else jaf σ n := rfl
    rw [e]
    rcases ih with ⟨a, b⟩ | ⟨a, i, a1, a2, a3, a4, a5⟩
    · rw [if_neg (by rw [a]; decide)]
      by_cases q : σ 44 n = 3 ∨ σ 44 n = 4
      · rw [if_pos q]
        by_cases z : jfd σ n = -1
        · rw [if_pos z]
          exact Or.inr ⟨rfl, n, ⟨by omega, by omega⟩, ⟨q, z⟩, fun j j0 j1 hk => (jaf_t σ n a j j0 (by omega) hk).2, rfl, rfl⟩
        · rw [if_neg z]
          exact Or.inl ⟨rfl, (jset_nk (k := 49) (a := 7) (jaf σ n).2 (by decide) n (jfd σ n) 14).trans b⟩
      · rw [if_neg q]; exact Or.inl ⟨a, b⟩
    · rw [if_pos a]
      exact Or.inr ⟨a, i, ⟨a1.1, by omega⟩, a2, a3, a4, a5⟩
/-- the walk that ends well names no fault -/
theorem jwk_14 : ∀ (n : Nat) (σ : JM) (x to sc p ps q qs d : Int), (jwk n σ x to sc p ps q qs d).1 = 0 ∨ (jwk n σ x to sc p ps q qs d).2 7 14 = σ 7 14 := by
  intro n
  induction n with
  | zero => intro σ x to sc p ps q qs d; exact Or.inr rfl
  | succ n ih =>
    intro σ x to sc p ps q qs d
    have jr : ∀ (f : JM → Int × JM), (∀ ρ, (f ρ).1 = 0 ∨ (f ρ).2 7 14 = ρ 7 14) → ∀ (r : Nat) (ρ : JM), (jwr f r ρ).1 = 0 ∨ (jwr f r ρ).2 7 14 = ρ 7 14 := by
      intro f hf r
      induction r with
      | zero => intro ρ; exact Or.inr rfl
      | succ r ihr =>
        intro ρ
        rw [jwr_s]
        split
        · exact Or.inl rfl
        · rcases ihr (f ρ).2 with z | z
          · exact Or.inl z
          · exact Or.inr (z.trans ((hf ρ).resolve_left (by assumption)))
    rw [jwk]
    split
    · exact Or.inr rfl
    split
    · exact ih _ _ _ _ _ _ _ _ _
    split
    · exact Or.inl rfl
    split
    · exact Or.inl rfl
    split
    · exact Or.inl rfl
    split
    · exact ih _ _ _ _ _ _ _ _ _
    have nx : ∀ (r : Int × JM) (y : Int), (r.1 = 0 ∨ r.2 7 14 = σ 7 14) → (if r.1 = 0 then ((0 : Int), r.2) else jwk n r.2 y to sc p ps q qs d).1 = 0 ∨ (if r.1 = 0 then ((0 : Int), r.2) else jwk n r.2 y to sc p ps q qs d).2 7 14 = σ 7 14 := fun r y hr => by
      by_cases z : r.1 = 0
      · rw [if_pos z]; exact Or.inl rfl
      · rw [if_neg z]
        rcases ih r.2 y to sc p ps q qs d with w | w
        · exact Or.inl w
        · exact Or.inr (w.trans (hr.resolve_left z))
    split
    · exact nx (jwC n σ x sc p ps q qs d) (x + 1) (ih _ _ _ _ _ _ _ _ _)
    · exact nx (jwG n σ x sc p ps q qs d) (σ 38 x + 1) (jr _ (fun ρ => by
        unfold jwB
        split
        · exact ih _ _ _ _ _ _ _ _ _
        · exact ih _ _ _ _ _ _ _ _ _) _ _)
theorem V.okm {l : Launch} {E : JE} {i : JI} {d n : Nat} {Qr : Option JV → JM → Prop} {Qx : String → JM → Prop} {pc : Nat} {L st : List JV} {σ : JM} (h : jokm σ → V l E i d n Qr Qx pc L st σ) : V l E i d n Qr Qx pc L st σ := fun p e R s m args below meth c A cm sm Z hF hX hZ H locs cells slots ls hT => h hT.2.1 p e R s m args below meth c A cm sm Z hF hX hZ H locs cells slots ls hT
