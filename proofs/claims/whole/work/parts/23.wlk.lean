theorem V.fg {l : Launch} {E : JE} {i : JI} {d n : Nat} {Qr : Option JV → JM → Prop} {Qx : String → JM → Prop} {pc : Nat} {L L' st : List JV} {σ : JM} (ks : List Nat) (hL : ks.foldl (fun L k => L.set k (9, 0)) L = L') (kk : V l E i d n Qr Qx pc L' st σ) : V l E i d n Qr Qx pc L st σ := by
  induction ks generalizing L with
  | nil => cases hL; exact kk
  | cons k ks ih =>
    have kk := ih hL
    intro p e R s m args below meth c A cm sm Z hF hX hZ H locs cells slots ls hT
    refine kk p e R s m args below meth c A cm sm Z hF hX hZ H locs cells slots ls ?_
    obtain ⟨h1, h2, h3, h4, h5, h6, h7, h8⟩ := hT
    refine ⟨h1, h2, h3, h4, h5, ⟨h6.1, h6.2.1, by rw [List.length_set]; exact h6.2.2.1, fun j v hj hv => ?_⟩, fun v hv => ?_, h8⟩
    · by_cases e : k = j
      · subst e
        rw [List.getElem?_set] at hj
        simp only [if_true] at hj
        split at hj
        · cases hj; exact absurd hv (by decide)
        · cases hj
      · rw [List.getElem?_set_ne e] at hj
        exact h6.2.2.2 j v hj hv
    · rcases List.mem_or_eq_of_mem_set hv with q | q
      · exact h7 v q
      · rw [q]; trivial
/-- the reference's walk over its rows -/
def jrga (v a b c : Int) : Int := if v = -1 then a else if v = -2 then b else c
def jwr (f : JM → Int × JM) : Nat → JM → Int × JM
  | 0, σ => (1, σ)
  | r + 1, σ => if (f σ).1 = 0 then (0, (f σ).2) else jwr f r (f σ).2
abbrev jwa (σ : JM) (x p q : Int) : Int := jrga (σ 35 x) p q (σ 35 x)
abbrev jwb (σ : JM) (x p q : Int) : Int := jrga (σ 36 x) p q (σ 36 x)
def jrds (s a b : Int) : Int := if s = 7 then 1 else if s = 8 then a else if a = b then 1 else 0
abbrev jwFa (σ : JM) (x p q : Int) : Prop := σ 35 x < 0 ∧ jmost (σ 34 x) < jwa σ x p q
abbrev jwFd (σ : JM) (x sc p ps q qs : Int) : Prop := σ 34 x = 0 ∧ jdfd σ (jwa σ x p q) (jrga (σ 35 x) ps qs sc)
abbrev jwFf (σ : JM) (x : Int) : Prop := σ 7 18 = 1000 ∨ (σ 34 x < 6 ∧ σ 7 16 = 200)
def jw1 (σ : JM) : JM := jset σ 7 18 (σ 7 18 + 1)
def jwk : Nat → JM → Int → Int → Int → Int → Int → Int → Int → Int → Int × JM
  | 0, σ, _, _, _, _, _, _, _, _ => (0, σ)
  | n + 1, σ, x, to, sc, p, ps, q, qs, d =>
    if to ≤ x then (1, σ) else
    if σ 34 x = 11 then jwk n σ (σ 38 x + 1) to sc p ps q qs d else
    if jwFa σ x p q then (0, jstp σ 97 x) else
    if jwFd σ x sc p ps q qs then (0, jstp σ 100 x) else
    if jwFf σ x then (0, jstp σ 102 x) else
    if σ 34 x < 6 then jwk n (jmk (jw1 σ) x (jwa σ x p q) (jrga (σ 35 x) ps qs sc) d) (x + 1) to sc p ps q qs d else
    if σ 34 x = 6 then
      let r := jwk n (jnsc (jw1 σ) 0) (σ 40 (σ 37 x) + 1) (σ 41 (σ 37 x)) (σ 7 17) (jwa σ x p q) (jrga (σ 35 x) ps qs sc) (jwb σ x p q) (jrga (σ 36 x) ps qs sc) (d + 1)
      if r.1 = 0 then (0, r.2) else jwk n r.2 (x + 1) to sc p ps q qs d
    else
      let r := jwr (fun ρ => if σ 34 x = 9 then jwk n ρ (x + 1) (σ 38 x) sc p ps q qs d else jwk n (jnsc ρ sc) (x + 1) (σ 38 x) (ρ 7 17) p ps q qs d) (jrds (σ 34 x) (jwa σ x p q) (jwb σ x p q)).toNat (jw1 σ)
      if r.1 = 0 then (0, r.2) else jwk n r.2 (σ 38 x + 1) to sc p ps q qs d
/-- opening and closing kinds; a well nested stretch; what is true of the fed lines -/
abbrev jop (s : Int) : Prop := s = 7 ∨ s = 8 ∨ s = 9 ∨ s = 11
abbrev jcz (s : Int) : Prop := s = 10 ∨ s = 12
def jW (σ : JM) (x to : Int) : Prop := (∀ y, x ≤ y → y < to → jop (σ 34 y) → σ 38 y < to) ∧ ∀ y, x ≤ y → y < to → jcz (σ 34 y) → ∃ z, x ≤ z ∧ z < y ∧ jop (σ 34 z) ∧ σ 38 z = y
def jwf (σ : JM) : Prop := (0 ≤ σ 7 1 ∧ σ 7 1 ≤ 80) ∧ (0 ≤ σ 7 2 ∧ σ 7 2 ≤ 8) ∧ (∀ x, 0 ≤ x → x < σ 7 1 → 0 ≤ σ 34 x ∧ σ 34 x ≤ 12) ∧ (∀ x, 0 ≤ x → x < σ 7 1 → -2 ≤ σ 35 x ∧ σ 35 x ≤ 999 ∧ (σ 34 x = 8 → σ 35 x ≤ 9)) ∧ (∀ x, 0 ≤ x → x < σ 7 1 → -2 ≤ σ 36 x ∧ σ 36 x ≤ 999) ∧ (∀ x, 0 ≤ x → x < σ 7 1 → jop (σ 34 x) → x < σ 38 x ∧ σ 38 x < σ 7 1 ∧ jcz (σ 34 (σ 38 x)) ∧ ∀ y, x < y → y < σ 38 x → jop (σ 34 y) → σ 38 y < σ 38 x) ∧ (∀ x, 0 ≤ x → x < σ 7 1 → σ 34 x = 6 → 0 ≤ σ 37 x ∧ σ 37 x < σ 7 2 ∧ σ 41 (σ 37 x) < x) ∧ (∀ m, 0 ≤ m → m < σ 7 2 → 0 ≤ σ 40 m ∧ σ 40 m < σ 41 m ∧ σ 41 m < σ 7 1 ∧ σ 34 (σ 40 m) = 11 ∧ σ 38 (σ 40 m) = σ 41 m) ∧ (∀ x, 0 ≤ x → x < σ 7 1 → σ 34 x = 5 → 2 ≤ σ 35 x ∧ σ 35 x ≤ 8) ∧ (∀ x, 0 ≤ x → x < σ 7 1 → σ 34 x = 2 → 0 ≤ σ 36 x ∧ σ 36 x ≤ 99) ∧ (jW σ 0 (σ 7 1))
theorem jwf.ln {σ : JM} (h : jwf σ) : 0 ≤ σ 7 1 ∧ σ 7 1 ≤ 80 := h.1
theorem jwf.mc {σ : JM} (h : jwf σ) : 0 ≤ σ 7 2 ∧ σ 7 2 ≤ 8 := h.2.1
theorem jwf.so {σ : JM} (h : jwf σ) : ∀ x, 0 ≤ x → x < σ 7 1 → 0 ≤ σ 34 x ∧ σ 34 x ≤ 12 := h.2.2.1
theorem jwf.one {σ : JM} (h : jwf σ) : ∀ x, 0 ≤ x → x < σ 7 1 → -2 ≤ σ 35 x ∧ σ 35 x ≤ 999 ∧ (σ 34 x = 8 → σ 35 x ≤ 9) := h.2.2.2.1
theorem jwf.two {σ : JM} (h : jwf σ) : ∀ x, 0 ≤ x → x < σ 7 1 → -2 ≤ σ 36 x ∧ σ 36 x ≤ 999 := h.2.2.2.2.1
theorem jwf.op {σ : JM} (h : jwf σ) : ∀ x, 0 ≤ x → x < σ 7 1 → jop (σ 34 x) → x < σ 38 x ∧ σ 38 x < σ 7 1 ∧ jcz (σ 34 (σ 38 x)) ∧ ∀ y, x < y → y < σ 38 x → jop (σ 34 y) → σ 38 y < σ 38 x := h.2.2.2.2.2.1
theorem jwf.ca {σ : JM} (h : jwf σ) : ∀ x, 0 ≤ x → x < σ 7 1 → σ 34 x = 6 → 0 ≤ σ 37 x ∧ σ 37 x < σ 7 2 ∧ σ 41 (σ 37 x) < x := h.2.2.2.2.2.2.1
theorem jwf.mm {σ : JM} (h : jwf σ) : ∀ m, 0 ≤ m → m < σ 7 2 → 0 ≤ σ 40 m ∧ σ 40 m < σ 41 m ∧ σ 41 m < σ 7 1 ∧ σ 34 (σ 40 m) = 11 ∧ σ 38 (σ 40 m) = σ 41 m := h.2.2.2.2.2.2.2.1
theorem jwf.al5 {σ : JM} (h : jwf σ) : ∀ x, 0 ≤ x → x < σ 7 1 → σ 34 x = 5 → 2 ≤ σ 35 x ∧ σ 35 x ≤ 8 := h.2.2.2.2.2.2.2.2.1
theorem jwf.op2 {σ : JM} (h : jwf σ) : ∀ x, 0 ≤ x → x < σ 7 1 → σ 34 x = 2 → 0 ≤ σ 36 x ∧ σ 36 x ≤ 99 := h.2.2.2.2.2.2.2.2.2.1
theorem jwf.al {σ : JM} (h : jwf σ) : jW σ 0 (σ 7 1) := h.2.2.2.2.2.2.2.2.2.2
theorem jW.inn {σ : JM} (h : jwf σ) {x to y : Int} (hx : 0 ≤ x) (ht : to ≤ σ 7 1) (w : jW σ x to) (a : x ≤ y) (b : y < to) (o : jop (σ 34 y)) : jW σ (y + 1) (σ 38 y) ∧ y < σ 38 y ∧ σ 38 y < to := by
  have h1 := h.op y (by omega) (by omega) o
  have h2 := w.1 y a b o
  refine ⟨⟨fun z a1 a2 a3 => h1.2.2.2 z (by omega) a2 a3, fun z a1 a2 a3 => ?_⟩, h1.1, h2⟩
  obtain ⟨u, b1, b2, b3, b4⟩ := w.2 z (by omega) (by omega) a3
  refine ⟨u, ?_, b2, b3, b4⟩
  by_cases c : u = y
  · subst c; omega
  · by_cases c2 : u < y
    · have := (h.op u (by omega) (by omega) b3).2.2.2 y c2 (by omega) o
      omega
    · omega
theorem jW.nxt {σ : JM} (h : jwf σ) {x to : Int} (hx : 0 ≤ x) (ht : to ≤ σ 7 1) (w : jW σ x to) (b : x < to) (o : jop (σ 34 x)) : jW σ (σ 38 x + 1) to := by
  have h1 := h.op x hx (by omega) o
  refine ⟨fun z a1 a2 a3 => w.1 z (by omega) a2 a3, fun z a1 a2 a3 => ?_⟩
  obtain ⟨u, b1, b2, b3, b4⟩ := w.2 z (by omega) a2 a3
  refine ⟨u, ?_, b2, b3, b4⟩
  by_cases c : u = x
  · subst c; omega
  · by_cases c3 : u < σ 38 x
    · have := h1.2.2.2 u (by omega) c3 b3
      omega
    · by_cases c4 : u = σ 38 x
      · rw [← c4] at h1
        have := h1.2.2.1
        omega
      · omega
theorem jW.suc {σ : JM} {x to : Int} (w : jW σ x to) (o : ¬ jop (σ 34 x)) : jW σ (x + 1) to := by
  refine ⟨fun z a1 a2 a3 => w.1 z (by omega) a2 a3, fun z a1 a2 a3 => ?_⟩
  obtain ⟨u, b1, b2, b3, b4⟩ := w.2 z (by omega) a2 a3
  refine ⟨u, ?_, b2, b3, b4⟩
  by_cases c : u = x
  · subst c; exact absurd b3 o
  · omega
theorem jW.ncl {σ : JM} {x to : Int} (w : jW σ x to) (b : x < to) : ¬ jcz (σ 34 x) := fun c => by
  obtain ⟨u, b1, b2, -, -⟩ := w.2 x (by omega) b c
  omega
theorem jW.mac {σ : JM} (h : jwf σ) {m : Int} (h0 : 0 ≤ m) (h1 : m < σ 7 2) : jW σ (σ 40 m + 1) (σ 41 m) := by
  obtain ⟨a, b, c, d, e⟩ := h.mm m h0 h1
  have := jW.inn h (by omega) (Int.le_refl _) h.al a (by omega) (show jop (σ 34 (σ 40 m)) by omega)
  rw [e] at this
  exact this.1
/-- the walk keeps all but these; its memory's bounds -/
def jkp (σ0 σ : JM) : Prop := ∀ a b, ¬ (42 ≤ a ∧ a ≤ 47) → a ≠ 50 → ¬ (a = 7 ∧ 14 ≤ b ∧ b ≤ 18) → σ a b = σ0 a b
def jwi (σ : JM) : Prop := (0 ≤ σ 7 16 ∧ σ 7 16 ≤ 200) ∧ (0 ≤ σ 7 17 ∧ σ 7 17 ≤ 9 * σ 7 18 + 1) ∧ (0 ≤ σ 7 18 ∧ σ 7 18 ≤ 1000)
abbrev jwc (σ0 : JM) (x to p q d : Int) : Prop := 0 ≤ x ∧ x ≤ to ∧ to ≤ σ0 7 1 ∧ (0 ≤ p ∧ p ≤ 999) ∧ (0 ≤ q ∧ q ≤ 999) ∧ 0 ≤ d ∧ d + to ≤ 1000
theorem jkp.rfl (σ : JM) : jkp σ σ := fun _ _ _ _ _ => Eq.refl _
theorem jkp.tr {σ0 σ τ : JM} (h : jkp σ0 σ) (g : jkp σ τ) : jkp σ0 τ := fun a b h1 h2 h3 => (g a b h1 h2 h3).trans (h a b h1 h2 h3)
theorem jkp.set {σ0 σ : JM} (h : jkp σ0 σ) {k : Nat} (j v : Int) (hk : (42 ≤ k ∧ k ≤ 47) ∨ k = 50 ∨ (k = 7 ∧ 14 ≤ j ∧ j ≤ 18)) : jkp σ0 (jset σ k j v) := fun a b h1 h2 h3 => by
  rw [jset_ne σ (fun q => by obtain ⟨q1, q2⟩ := q; subst q1; subst q2; exact hk.elim h1 (fun z => z.elim h2 h3))]
  exact h a b h1 h2 h3
theorem jkp.stp {σ0 σ : JM} (h : jkp σ0 σ) (k x : Int) : jkp σ0 (jstp σ k x) := (h.set _ _ (by omega)).set _ _ (by omega)
theorem jkp.nsc {σ0 σ : JM} (h : jkp σ0 σ) (o : Int) : jkp σ0 (jnsc σ o) := (h.set _ _ (by omega)).set _ _ (by omega)
theorem jkp.w1 {σ0 σ : JM} (h : jkp σ0 σ) : jkp σ0 (jw1 σ) := h.set _ _ (by omega)
theorem jkp.mk {σ0 σ : JM} (h : jkp σ0 σ) (x v s d : Int) : jkp σ0 (jmk σ x v s d) := ((((((h.set _ _ (by omega)).set _ _ (by omega)).set _ _ (by omega)).set _ _ (by omega)).set _ _ (by omega)).set _ _ (by omega)).set _ _ (by omega)
theorem jmk_7 (σ : JM) (x v s d : Int) : jmk σ x v s d 7 16 = σ 7 16 + 1 ∧ jmk σ x v s d 7 17 = σ 7 17 ∧ jmk σ x v s d 7 18 = σ 7 18 := ⟨Eq.refl _, Eq.refl _, Eq.refl _⟩
theorem jnsc_7 (σ : JM) (o : Int) : jnsc σ o 7 16 = σ 7 16 ∧ jnsc σ o 7 17 = σ 7 17 + 1 ∧ jnsc σ o 7 18 = σ 7 18 := ⟨Eq.refl _, Eq.refl _, Eq.refl _⟩
theorem jw1_7 (σ : JM) : jw1 σ 7 16 = σ 7 16 ∧ jw1 σ 7 17 = σ 7 17 ∧ jw1 σ 7 18 = σ 7 18 + 1 := ⟨Eq.refl _, Eq.refl _, Eq.refl _⟩
theorem jstp_7 (σ : JM) (k x : Int) : jstp σ k x 7 16 = σ 7 16 ∧ jstp σ k x 7 17 = σ 7 17 ∧ jstp σ k x 7 18 = σ 7 18 := ⟨Eq.refl _, Eq.refl _, Eq.refl _⟩
/-- the arguments' bounds -/
theorem jrga_b {v a b : Int} (hv : -2 ≤ v ∧ v ≤ 999) (ha : 0 ≤ a ∧ a ≤ 999) (hb : 0 ≤ b ∧ b ≤ 999) : 0 ≤ jrga v a b v ∧ jrga v a b v ≤ 999 := by
  unfold jrga; (repeat' split) <;> omega
/-- what the walk leaves: bounds, and no more than nine scopes a counted line -/
def jwo (σ0 σ : JM) (r : Int × JM) : Prop := jkp σ0 r.2 ∧ jwi r.2 ∧ (r.2 7 17 - 9 * r.2 7 18 ≤ σ 7 17 - 9 * σ 7 18) ∧ (r.1 = 0 ∨ r.1 = 1) ∧ σ 7 18 ≤ r.2 7 18 ∧ σ 7 17 ≤ r.2 7 17 ∧ σ 7 16 ≤ r.2 7 16
theorem jwo.tr {σ0 σ τ : JM} {r : Int × JM} (a : σ 7 18 ≤ τ 7 18) (b : σ 7 17 ≤ τ 7 17) (c : σ 7 16 ≤ τ 7 16) (e : τ 7 17 - 9 * τ 7 18 ≤ σ 7 17 - 9 * σ 7 18) (h : jwo σ0 τ r) : jwo σ0 σ r := by
  obtain ⟨h1, h2, h3, h4, h5, h6, h7⟩ := h
  exact ⟨h1, h2, by omega, h4, by omega, by omega, by omega⟩
theorem jwr_o {σ0 : JM} {f : JM → Int × JM} (hf : ∀ ρ, jkp σ0 ρ → jwi ρ → ρ 7 17 ≤ 9 * ρ 7 18 → jwo σ0 (jset ρ 7 17 (ρ 7 17 + 1)) (f ρ) ∨ jwo σ0 ρ (f ρ)) : ∀ (r : Nat) (σ : JM), jkp σ0 σ → jwi σ → σ 7 17 + r ≤ 9 * σ 7 18 + 1 → (jkp σ0 (jwr f r σ).2 ∧ jwi (jwr f r σ).2 ∧ ((jwr f r σ).2 7 17 - 9 * (jwr f r σ).2 7 18 ≤ σ 7 17 + r - 9 * σ 7 18) ∧ ((jwr f r σ).1 = 0 ∨ (jwr f r σ).1 = 1) ∧ σ 7 18 ≤ (jwr f r σ).2 7 18 ∧ σ 7 17 ≤ (jwr f r σ).2 7 17 ∧ σ 7 16 ≤ (jwr f r σ).2 7 16) := by
  intro r
  induction r with
  | zero => intro σ k i b; exact ⟨k, i, by show σ 7 17 - 9 * σ 7 18 ≤ _; omega, Or.inr (Eq.refl _), Int.le_refl _, Int.le_refl _, Int.le_refl _⟩
  | succ r ih =>
    intro σ k i b
    have e : jwr f (r + 1) σ = if (f σ).1 = 0 then (0, (f σ).2) else jwr f r (f σ).2 := Eq.refl _
    have g : jkp σ0 (f σ).2 ∧ jwi (f σ).2 ∧ (f σ).2 7 17 - 9 * (f σ).2 7 18 ≤ σ 7 17 + 1 - 9 * σ 7 18 ∧ σ 7 18 ≤ (f σ).2 7 18 ∧ σ 7 17 ≤ (f σ).2 7 17 ∧ σ 7 16 ≤ (f σ).2 7 16 := by
      rcases hf σ k i (by omega) with ⟨g1, g2, g3, g4, g5, g6, g7⟩ | ⟨g1, g2, g3, g4, g5, g6, g7⟩
      · have e1 : jset σ 7 17 (σ 7 17 + 1) 7 17 = σ 7 17 + 1 := Eq.refl _
        have e2 : jset σ 7 17 (σ 7 17 + 1) 7 18 = σ 7 18 := Eq.refl _
        have e3 : jset σ 7 17 (σ 7 17 + 1) 7 16 = σ 7 16 := Eq.refl _
        rw [e1, e2] at g3; rw [e2] at g5; rw [e1] at g6; rw [e3] at g7
        exact ⟨g1, g2, by omega, by omega, by omega, by omega⟩
      · exact ⟨g1, g2, by omega, by omega, by omega, by omega⟩
    rw [e]
    split
    · exact ⟨g.1, g.2.1, by have := g.2.2.1; show (f σ).2 7 17 - 9 * (f σ).2 7 18 ≤ _; omega, Or.inl (Eq.refl _), g.2.2.2.1, g.2.2.2.2.1, g.2.2.2.2.2⟩
    · have z := ih (f σ).2 g.1 g.2.1 (by omega)
      exact ⟨z.1, z.2.1, by omega, z.2.2.2.1, by omega, by omega, by omega⟩

/-- a step of the walk, by cases -/
theorem jwk_0 {n : Nat} {σ : JM} {x to sc p ps q qs d : Int} (h : to ≤ x) : jwk (n + 1) σ x to sc p ps q qs d = (1, σ) := if_pos h
theorem jwk_m {n : Nat} {σ : JM} {x to sc p ps q qs d : Int} (h : x < to) (h1 : σ 34 x = 11) : jwk (n + 1) σ x to sc p ps q qs d = jwk n σ (σ 38 x + 1) to sc p ps q qs d := (if_neg (by omega)).trans (if_pos h1)
theorem jwk_a {n : Nat} {σ : JM} {x to sc p ps q qs d : Int} (h : x < to) (h1 : σ 34 x ≠ 11) (h2 : jwFa σ x p q) : jwk (n + 1) σ x to sc p ps q qs d = (0, jstp σ 97 x) := ((if_neg (by omega)).trans (if_neg h1)).trans (if_pos h2)
theorem jwk_d {n : Nat} {σ : JM} {x to sc p ps q qs d : Int} (h : x < to) (h1 : σ 34 x ≠ 11) (h2 : ¬ jwFa σ x p q) (h3 : jwFd σ x sc p ps q qs) : jwk (n + 1) σ x to sc p ps q qs d = (0, jstp σ 100 x) := (((if_neg (by omega)).trans (if_neg h1)).trans (if_neg h2)).trans (if_pos h3)
theorem jwk_f {n : Nat} {σ : JM} {x to sc p ps q qs d : Int} (h : x < to) (h1 : σ 34 x ≠ 11) (h2 : ¬ jwFa σ x p q) (h3 : ¬ jwFd σ x sc p ps q qs) (h4 : jwFf σ x) : jwk (n + 1) σ x to sc p ps q qs d = (0, jstp σ 102 x) := ((((if_neg (by omega)).trans (if_neg h1)).trans (if_neg h2)).trans (if_neg h3)).trans (if_pos h4)
theorem jwk_i {n : Nat} {σ : JM} {x to sc p ps q qs d : Int} (h : x < to) (h2 : ¬ jwFa σ x p q) (h3 : ¬ jwFd σ x sc p ps q qs) (h4 : ¬ jwFf σ x) (h5 : σ 34 x < 6) : jwk (n + 1) σ x to sc p ps q qs d = jwk n (jmk (jw1 σ) x (jwa σ x p q) (jrga (σ 35 x) ps qs sc) d) (x + 1) to sc p ps q qs d := (((((if_neg (by omega)).trans (if_neg (by omega))).trans (if_neg h2)).trans (if_neg h3)).trans (if_neg h4)).trans (if_pos h5)
abbrev jwC (n : Nat) (σ : JM) (x sc p ps q qs d : Int) : Int × JM := jwk n (jnsc (jw1 σ) 0) (σ 40 (σ 37 x) + 1) (σ 41 (σ 37 x)) (σ 7 17) (jwa σ x p q) (jrga (σ 35 x) ps qs sc) (jwb σ x p q) (jrga (σ 36 x) ps qs sc) (d + 1)
theorem jwk_c {n : Nat} {σ : JM} {x to sc p ps q qs d : Int} (h : x < to) (h2 : ¬ jwFa σ x p q) (h4 : ¬ jwFf σ x) (h5 : σ 34 x = 6) : jwk (n + 1) σ x to sc p ps q qs d = if (jwC n σ x sc p ps q qs d).1 = 0 then (0, (jwC n σ x sc p ps q qs d).2) else jwk n (jwC n σ x sc p ps q qs d).2 (x + 1) to sc p ps q qs d := ((((((if_neg (by omega)).trans (if_neg (by omega))).trans (if_neg h2)).trans (if_neg (fun z => by have := z.1; omega))).trans (if_neg h4)).trans (if_neg (by omega))).trans (if_pos h5)
abbrev jwB (n : Nat) (σ : JM) (x sc p ps q qs d : Int) (ρ : JM) : Int × JM := if σ 34 x = 9 then jwk n ρ (x + 1) (σ 38 x) sc p ps q qs d else jwk n (jnsc ρ sc) (x + 1) (σ 38 x) (ρ 7 17) p ps q qs d
abbrev jwG (n : Nat) (σ : JM) (x sc p ps q qs d : Int) : Int × JM := jwr (jwB n σ x sc p ps q qs d) (jrds (σ 34 x) (jwa σ x p q) (jwb σ x p q)).toNat (jw1 σ)
theorem jwk_g {n : Nat} {σ : JM} {x to sc p ps q qs d : Int} (h : x < to) (h1 : σ 34 x ≠ 11) (h2 : ¬ jwFa σ x p q) (h4 : ¬ jwFf σ x) (h5 : 7 ≤ σ 34 x) : jwk (n + 1) σ x to sc p ps q qs d = if (jwG n σ x sc p ps q qs d).1 = 0 then (0, (jwG n σ x sc p ps q qs d).2) else jwk n (jwG n σ x sc p ps q qs d).2 (σ 38 x + 1) to sc p ps q qs d := ((((((if_neg (by omega)).trans (if_neg h1)).trans (if_neg h2)).trans (if_neg (fun z => by have := z.1; omega))).trans (if_neg h4)).trans (if_neg (by omega))).trans (if_neg (by omega))
theorem jrds_b {s a b : Int} (ha : 0 ≤ a ∧ (s = 8 → a ≤ 9)) : 0 ≤ jrds s a b ∧ jrds s a b ≤ 9 := by
  unfold jrds; (repeat' split) <;> omega
theorem jrnd9 {σ : JM} (h : jwf σ) {x p q : Int} (hx : 0 ≤ x ∧ x < σ 7 1) (hp : 0 ≤ p ∧ p ≤ 999) (hq : 0 ≤ q ∧ q ≤ 999) (g : ¬ jwFa σ x p q) : 0 ≤ jrds (σ 34 x) (jwa σ x p q) (jwb σ x p q) ∧ jrds (σ 34 x) (jwa σ x p q) (jwb σ x p q) ≤ 9 := by
  have o := h.one x hx.1 hx.2
  refine jrds_b ⟨(jrga_b ⟨o.1, o.2.1⟩ hp hq).1, fun e => ?_⟩
  by_cases c : σ 35 x < 0
  · have : ¬ jmost (σ 34 x) < jwa σ x p q := fun z => g ⟨c, z⟩
    rw [e] at this
    have e9 : jmost 8 = 9 := rfl
    omega
  · have := o.2.2 e
    unfold jwa jrga
    rw [if_neg (by omega), if_neg (by omega)]
    exact this
theorem jwk_o {σ0 : JM} (hw : jwf σ0) : ∀ (n : Nat) (σ : JM) (x to sc p ps q qs d : Int), jkp σ0 σ → jwi σ → jwc σ0 x to p q d → jW σ0 x to → jwo σ0 σ (jwk n σ x to sc p ps q qs d) := by
  intro n
  induction n with
  | zero => intro σ x to sc p ps q qs d k i c w; exact ⟨k, i, Int.le_refl _, Or.inl rfl, Int.le_refl _, Int.le_refl _, Int.le_refl _⟩
  | succ n ih =>
    intro σ x to sc p ps q qs d k i c w
    by_cases h : to ≤ x
    · rw [jwk_0 h]; exact ⟨k, i, Int.le_refl _, Or.inr rfl, Int.le_refl _, Int.le_refl _, Int.le_refl _⟩
    have h : x < to := by omega
    have k34 : σ 34 x = σ0 34 x := k 34 x (by omega) (by omega) (by omega)
    have k35 : σ 35 x = σ0 35 x := k 35 x (by omega) (by omega) (by omega)
    have k36 : σ 36 x = σ0 36 x := k 36 x (by omega) (by omega) (by omega)
    have k37 : σ 37 x = σ0 37 x := k 37 x (by omega) (by omega) (by omega)
    have k38 : σ 38 x = σ0 38 x := k 38 x (by omega) (by omega) (by omega)
    have o1 := hw.one x c.1 (by omega)
    have o2 := hw.two x c.1 (by omega)
    have so := hw.so x c.1 (by omega)
    have ncl := w.ncl h
    have ab := jrga_b ⟨o1.1, o1.2.1⟩ c.2.2.2.1 c.2.2.2.2.1
    have bb := jrga_b o2 c.2.2.2.1 c.2.2.2.2.1
    have st : ∀ c, jwo σ0 σ (0, jstp σ c x) := fun c => ⟨k.stp c x, i, Int.le_refl _, Or.inl rfl, Int.le_refl _, Int.le_refl _, Int.le_refl _⟩
    by_cases h1 : σ 34 x = 11
    · rw [jwk_m h h1]
      have g := jW.inn hw c.1 c.2.2.1 w (Int.le_refl _) h (by omega)
      rw [k38]
      exact ih _ _ _ _ _ _ _ _ _ k i (by omega) (jW.nxt hw c.1 c.2.2.1 w h (by omega))
    by_cases h2 : jwFa σ x p q
    · rw [jwk_a h h1 h2]; exact st _
    by_cases h3 : jwFd σ x sc p ps q qs
    · rw [jwk_d h h1 h2 h3]; exact st _
    by_cases h4 : jwFf σ x
    · rw [jwk_f h h1 h2 h3 h4]; exact st _
    have i3 : σ 7 18 < 1000 := by
      have := i.2.2
      by_cases e : σ 7 18 = 1000
      · exact absurd (Or.inl e) h4
      · omega
    by_cases h5 : σ 34 x < 6
    · rw [jwk_i h h2 h3 h4 h5]
      have i4 : σ 7 16 < 200 := by
        have := i.1
        by_cases e : σ 7 16 = 200
        · exact absurd (Or.inr ⟨h5, e⟩) h4
        · omega
      have m := jmk_7 (jw1 σ) x (jwa σ x p q) (jrga (σ 35 x) ps qs sc) d
      rw [(jw1_7 σ).1, (jw1_7 σ).2.1, (jw1_7 σ).2.2] at m
      obtain ⟨i5, i6, i7⟩ := i
      refine jwo.tr (τ := jmk (jw1 σ) x (jwa σ x p q) (jrga (σ 35 x) ps qs sc) d) (by omega) (by omega) (by omega) (by omega) (ih _ _ _ _ _ _ _ _ _ (k.w1.mk _ _ _ _) ⟨by omega, by omega, by omega⟩ (by omega) (w.suc (by omega)))
    by_cases h6 : σ 34 x = 6
    · rw [jwk_c h h2 h4 h6]
      have ca := hw.ca x c.1 (by omega) (by omega)
      have mm := hw.mm (σ0 37 x) ca.1 ca.2.1
      have m := jnsc_7 (jw1 σ) 0
      rw [(jw1_7 σ).1, (jw1_7 σ).2.1, (jw1_7 σ).2.2] at m
      have i' := i
      obtain ⟨i5, i6, i7⟩ := i
      have g : jwo σ0 σ (jwC n σ x sc p ps q qs d) := by
        refine jwo.tr (τ := jnsc (jw1 σ) 0) (by omega) (by omega) (by omega) (by omega) (ih _ _ _ _ _ _ _ _ _ (k.w1.nsc _) ⟨by omega, by omega, by omega⟩ ?_ ?_)
        · rw [k 40 _ (by omega) (by omega) (by omega), k 41 _ (by omega) (by omega) (by omega), k37]
          unfold jwa jwb
          rw [k35, k36]
          exact ⟨by omega, by omega, by omega, ab, bb, by omega, by omega⟩
        · rw [k 40 _ (by omega) (by omega) (by omega), k 41 _ (by omega) (by omega) (by omega), k37]
          exact jW.mac hw ca.1 ca.2.1
      generalize jwC n σ x sc p ps q qs d = r at g
      split
      · exact ⟨g.1, g.2.1, g.2.2.1, Or.inl rfl, g.2.2.2.2⟩
      · exact jwo.tr g.2.2.2.2.1 g.2.2.2.2.2.1 g.2.2.2.2.2.2 g.2.2.1 (ih _ _ _ _ _ _ _ _ _ g.1 g.2.1 (by omega) (w.suc (by omega)))
    · have h7 : 7 ≤ σ 34 x := by omega
      rw [jwk_g h h1 h2 h4 h7]
      have op : jop (σ0 34 x) := by omega
      have g := jW.inn hw c.1 c.2.2.1 w (Int.le_refl _) h op
      have r9 := jrnd9 hw (p := p) (q := q) ⟨c.1, by omega⟩ c.2.2.2.1 c.2.2.2.2.1 (by unfold jwFa jwa; rw [← k35, ← k34]; exact h2)
      have eb : jrds (σ 34 x) (jwa σ x p q) (jwb σ x p q) = jrds (σ0 34 x) (jwa σ0 x p q) (jwb σ0 x p q) := by unfold jwa jwb; rw [k34, k35, k36]
      rw [← eb] at r9
      have m := jw1_7 σ
      have i' := i
      obtain ⟨i5, i6, i7⟩ := i
      have hf : ∀ ρ, jkp σ0 ρ → jwi ρ → ρ 7 17 ≤ 9 * ρ 7 18 → jwo σ0 (jset ρ 7 17 (ρ 7 17 + 1)) (jwB n σ x sc p ps q qs d ρ) ∨ jwo σ0 ρ (jwB n σ x sc p ps q qs d ρ) := by
        intro ρ kρ iρ bρ
        unfold jwB
        rw [k38]
        split
        · exact Or.inr (ih _ _ _ _ _ _ _ _ _ kρ iρ (by omega) g.1)
        · obtain ⟨j5, j6, j7⟩ := iρ
          have m := jnsc_7 ρ sc
          refine Or.inl (jwo.tr (τ := jnsc ρ sc) (Int.le_refl _) (Int.le_refl _) (Int.le_refl _) (Int.le_refl _) (ih _ _ _ _ _ _ _ _ _ (kρ.nsc _) ⟨by omega, by omega, by omega⟩ (by omega) g.1))
      have z := jwr_o hf (jrds (σ 34 x) (jwa σ x p q) (jwb σ x p q)).toNat (jw1 σ) k.w1 ⟨by omega, by omega, by omega⟩ (by omega)
      have g' : jwo σ0 σ (jwG n σ x sc p ps q qs d) := by
        unfold jwG
        exact ⟨z.1, z.2.1, by omega, z.2.2.2.1, by omega, by omega, by omega⟩
      generalize jwG n σ x sc p ps q qs d = r at g'
      split
      · exact ⟨g'.1, g'.2.1, g'.2.2.1, Or.inl rfl, g'.2.2.2.2⟩
      · rw [k38]
        exact jwo.tr g'.2.2.2.2.1 g'.2.2.2.2.2.1 g'.2.2.2.2.2.2 g'.2.2.1 (ih _ _ _ _ _ _ _ _ _ g'.1 g'.2.1 (by omega) (jW.nxt hw c.1 c.2.2.1 w h op))

