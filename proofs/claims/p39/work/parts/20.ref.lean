abbrev jrgt (σ : JM) (v h : Int) : Prop := (0 ≤ v ∧ v ≤ h) ∨ (σ 7 3 ≠ -1 ∧ (-2 ≤ v ∧ v ≤ -1))
def jAds (σ : JM) (s a b c : Int) : JM := jset (jset (jset (jset (jset (jset σ 7 0 0) 34 (σ 7 1) s) 35 (σ 7 1) a) 36 (σ 7 1) b) 37 (σ 7 1) c) 7 1 (σ 7 1 + 1)
def jFdR (σ : JM) (f : Int) : Int := if f = 0 then 0 else if σ 7 1 = 80 then 0 else σ 7 1
def jFdM (σ : JM) (f s a b c : Int) : JM := if f = 0 then jset σ 7 0 1 else if σ 7 1 = 80 then jset σ 7 0 2 else jAds σ s a b c
def jCaR (σ : JM) (m x y : Int) : Int := if ¬ (0 ≤ m ∧ m ≤ σ 7 2 - 1) ∨ m = σ 7 3 then 0 else if ¬ (jrgt σ x 999 ∧ jrgt σ y 999) then 0 else if σ 7 1 = 80 then 0 else σ 7 1
def jCaM (σ : JM) (m x y : Int) : JM := if ¬ (0 ≤ m ∧ m ≤ σ 7 2 - 1) ∨ m = σ 7 3 then jset σ 7 0 1 else if ¬ (jrgt σ x 999 ∧ jrgt σ y 999) then jset σ 7 0 2 else if σ 7 1 = 80 then jset σ 7 0 3 else jAds σ 6 x y m
def jBgM (σ : JM) (s a b : Int) : JM := jAds (jset (jset σ 39 (σ 7 4) (σ 7 1)) 7 4 (σ 7 4 + 1)) s a b 0
def jBlM (σ : JM) : JM := if σ 7 1 = 80 then jset σ 7 0 1 else jBgM σ 7 0 0
def jLpR (σ : JM) (f : Prop) [Decidable f] : Int := if ¬ f then 0 else if σ 7 1 = 80 then 0 else σ 7 1
def jLpM (σ : JM) (f : Prop) [Decidable f] (s a b : Int) : JM := if ¬ f then jset σ 7 0 1 else if σ 7 1 = 80 then jset σ 7 0 2 else jBgM σ s a b
def jEnM (σ : JM) : JM := if σ 7 4 = 0 then jset σ 7 0 1 else if σ 7 1 = 80 then jset σ 7 0 2 else jAds (jset (jset σ 7 4 (σ 7 4 - 1)) 38 (σ 39 (σ 7 4 - 1)) (σ 7 1)) 10 0 0 0
def jEnR (σ : JM) : Int := if σ 7 4 = 0 then 0 else if σ 7 1 = 80 then 0 else σ 7 1
def jMaM (σ : JM) : JM := if σ 7 3 ≠ -1 ∨ 0 < σ 7 4 then jset σ 7 0 1 else if σ 7 1 = 80 ∨ σ 7 2 = 8 then jset σ 7 0 2 else jAds (jset (jset (jset σ 40 (σ 7 2) (σ 7 1)) 7 3 (σ 7 2)) 7 2 (σ 7 2 + 1)) 11 0 0 0
def jMaR (σ : JM) : Int := if σ 7 3 ≠ -1 ∨ 0 < σ 7 4 then 0 else if σ 7 1 = 80 ∨ σ 7 2 = 8 then 0 else σ 7 2
def jEmM (σ : JM) : JM := if σ 7 3 = -1 ∨ 0 < σ 7 4 then jset σ 7 0 1 else if σ 7 1 = 80 then jset σ 7 0 2 else jAds (jset (jset (jset σ 41 (σ 7 3) (σ 7 1)) 38 (σ 40 (σ 7 3)) (σ 7 1)) 7 3 (-1)) 12 0 0 0
def jEmR (σ : JM) : Int := if σ 7 3 = -1 ∨ 0 < σ 7 4 then 0 else if σ 7 1 = 80 then 0 else σ 7 3
def jClM (σ : JM) : JM := jset (jset (jset (jset (jset σ 7 0 0) 7 1 0) 7 2 0) 7 3 (-1)) 7 4 0
def jstp (σ : JM) (k x : Int) : JM := jset (jset σ 7 14 k) 7 15 x
def jnsc (σ : JM) (o : Int) : JM := jset (jset σ 42 (σ 7 17) o) 7 17 (σ 7 17 + 1)
def jmost (s : Int) : Int := if s = 0 ∨ s = 3 ∨ s = 4 then 19 else if s = 2 then 99 else if s = 8 then 9 else 999
/-- is there one among the first n -/
abbrev jex (P : Int → Prop) [DecidablePred P] (n : Int) : Prop := 0 < jsum (fun k => if P k then 1 else 0) n
theorem jex_iff {P : Int → Prop} [DecidablePred P] {n : Int} (h : 0 ≤ n) : jex P n ↔ ∃ k, 0 ≤ k ∧ k < n ∧ P k := by
  obtain ⟨m, rfl⟩ : ∃ m : Nat, n = (m : Int) := ⟨n.toNat, by omega⟩
  clear h
  have nn : ∀ m : Nat, 0 ≤ jsum (fun k => if P k then (1 : Int) else 0) m := fun m => (jsum_le (g := fun k => if P k then (1 : Int) else 0) (c := 1) (by omega) (fun i _ _ => by show (0 : Int) ≤ (if P i then 1 else 0) ∧ (if P i then (1 : Int) else 0) ≤ 1; split <;> omega)).1
  induction m with
  | zero => exact ⟨fun q => absurd q (by show ¬ (0 : Int) < 0; omega), fun ⟨k, a, b, _⟩ => by omega⟩
  | succ m ih =>
    have e : jsum (fun k => if P k then (1 : Int) else 0) ((m + 1 : Nat) : Int) = jsum (fun k => if P k then (1 : Int) else 0) m + (if P m then 1 else 0) := by
      rw [show ((m + 1 : Nat) : Int) = (m : Int) + 1 by omega, jsum_s _ (by omega)]
    unfold jex
    rw [e]
    have := nn m
    by_cases q : P m
    · rw [if_pos q]
      exact ⟨fun _ => ⟨m, by omega, by omega, q⟩, fun _ => by omega⟩
    · rw [if_neg q, Int.add_zero]
      constructor
      · intro z
        obtain ⟨k, a, b, c⟩ := ih.mp z
        exact ⟨k, a, by omega, c⟩
      · rintro ⟨k, a, b, c⟩
        exact ih.mpr ⟨k, a, by
          have : k ≠ m := fun z => q (by rw [← z]; exact c)
          omega, c⟩
/-- the first one among the first n, or -1 -/
def jfsN (P : Int → Prop) [DecidablePred P] : Nat → Int
  | 0 => -1
  | n + 1 => if jfsN P n ≠ -1 then jfsN P n else if P n then n else -1
def jfs (P : Int → Prop) [DecidablePred P] (n : Int) : Int := jfsN P n.toNat
theorem jfsN_no {P : Int → Prop} [DecidablePred P] : ∀ {n : Nat}, (∀ i, 0 ≤ i → i < (n : Int) → ¬ P i) → jfsN P n = -1 := by
  intro n
  induction n with
  | zero => intro _; rfl
  | succ n ih =>
    intro h
    have e := ih (fun i a b => h i a (by omega))
    unfold jfsN
    rw [e, if_neg (by simp), if_neg (h n (by omega) (by omega))]
theorem jfsN_at {P : Int → Prop} [DecidablePred P] {x : Int} (hx : 0 ≤ x) (hp : P x) (hn : ∀ i, 0 ≤ i → i < x → ¬ P i) : ∀ {n : Nat}, x < n → jfsN P n = x := by
  intro n
  induction n with
  | zero => intro h; omega
  | succ n ih =>
    intro h
    unfold jfsN
    by_cases e : x = n
    · rw [jfsN_no (fun i a b => hn i a (by omega)), if_neg (by simp), if_pos (by rw [← e]; exact hp), e]
    · rw [ih (by omega), if_pos (by omega)]
theorem jfs_no {P : Int → Prop} [DecidablePred P] {n : Int} (h : ∀ i, 0 ≤ i → i < n → ¬ P i) : jfs P n = -1 := jfsN_no (fun i a b => h i a (by omega))
theorem jfs_at {P : Int → Prop} [DecidablePred P] {x n : Int} (hx : 0 ≤ x) (hxn : x < n) (hp : P x) (hn : ∀ i, 0 ≤ i → i < x → ¬ P i) : jfs P n = x := jfsN_at hx hp hn (by omega)
theorem jfs_cases {P : Int → Prop} [DecidablePred P] (n : Int) : (jfs P n = -1 ∧ ∀ i, 0 ≤ i → i < n → ¬ P i) ∨ (0 ≤ jfs P n ∧ jfs P n < n ∧ P (jfs P n) ∧ ∀ i, 0 ≤ i → i < jfs P n → ¬ P i) := by
  by_cases h : ∃ k : Nat, (k : Int) < n ∧ P k
  · obtain ⟨k, hk, hm⟩ := pk_least (fun k : Nat => (k : Int) < n ∧ P k) h
    have hn : ∀ i, 0 ≤ i → i < (k : Int) → ¬ P i := fun i a b q => hm i.toNat (by omega) ⟨by omega, by rw [show ((i.toNat : Nat) : Int) = i by omega]; exact q⟩
    have e : jfs P n = k := jfs_at (by omega) hk.1 hk.2 hn
    rw [e]
    exact Or.inr ⟨by omega, hk.1, hk.2, hn⟩
  · have hn : ∀ i, 0 ≤ i → i < n → ¬ P i := fun i a b q => h ⟨i.toNat, by omega, by rw [show ((i.toNat : Nat) : Int) = i by omega]; exact q⟩
    exact Or.inl ⟨jfs_no hn, hn⟩
abbrev jdp (σ : JM) (a s : Int) (k : Int) : Prop := σ 44 k = 0 ∧ σ 45 k = a ∧ σ 46 k = s
abbrev jdfd (σ : JM) (a s : Int) : Prop := jex (jdp σ a s) (σ 7 16)
def jmk (σ : JM) (x v s d : Int) : JM := jset (jset (jset (jset (jset (jset (jset σ 43 (σ 7 16) x) 44 (σ 7 16) (σ 34 x)) 45 (σ 7 16) v) 46 (σ 7 16) s) 47 (σ 7 16) d) 50 (σ 7 16) 0) 7 16 (σ 7 16 + 1)
/-- the item that defines the name a, looked for from the scope s outwards -/
def jfdN (σ : JM) (a : Int) : Nat → Int → Int
  | 0, _ => -1
  | f + 1, s => if s = -1 then -1 else if jfs (jdp σ a s) (σ 7 16) ≠ -1 then jfs (jdp σ a s) (σ 7 16) else jfdN σ a f (σ 42 s)
/-- outer scopes have smaller numbers -/
abbrev jout (σ : JM) : Prop := ∀ s, 0 ≤ s → s < σ 7 17 → -1 ≤ σ 42 s ∧ σ 42 s < s
theorem jfdN_ge {σ : JM} {a : Int} (ho : jout σ) : ∀ (f : Nat) (s : Int), -1 ≤ s → s < σ 7 17 → s < f → ∀ g : Nat, s < g → 1 ≤ f → 1 ≤ g → jfdN σ a g s = jfdN σ a f s := by
  intro f
  induction f with
  | zero => intro s _ _ _ g _ h; omega
  | succ f ih =>
    intro s h0 h1 h2 g h3 _ h5
    obtain ⟨g, rfl⟩ : ∃ k, g = k + 1 := ⟨g - 1, by omega⟩
    unfold jfdN
    by_cases e : s = -1
    · rw [if_pos e, if_pos e]
    · rw [if_neg e, if_neg e]
      by_cases e2 : jfs (jdp σ a s) (σ 7 16) ≠ -1
      · rw [if_pos e2, if_pos e2]
      · rw [if_neg e2, if_neg e2]
        have := ho s (by omega) h1
        by_cases e3 : 1 ≤ f ∧ 1 ≤ g
        · exact ih (σ 42 s) this.1 (by omega) (by omega) g (by omega) e3.1 e3.2
        · have : σ 42 s = -1 := by omega
          rw [this]
          have z : ∀ k : Nat, jfdN σ a k (-1) = -1 := fun k => by cases k <;> simp [jfdN]
          rw [z, z]
def jfd (σ : JM) (x : Int) : Int := jfdN σ (σ 45 x) ((σ 46 x).toNat + 2) (σ 46 x)
/-- the names of the first n items looked up, up to the first that isn't found -/
def jaf (σ : JM) : Nat → Int × JM
  | 0 => (1, σ)
  | n + 1 => if (jaf σ n).1 = 0 then jaf σ n else if σ 44 n = 3 ∨ σ 44 n = 4 then (if jfd σ n = -1 then (0, jstp (jset (jaf σ n).2 49 n (-1)) 117 (σ 43 n)) else (1, jset (jaf σ n).2 49 n (jfd σ n))) else jaf σ n
theorem jaf_ne (σ : JM) : ∀ (n : Nat) {a : Nat} {b : Int}, a ≠ 49 → ¬ (a = 7 ∧ (b = 14 ∨ b = 15)) → (jaf σ n).2 a b = σ a b := by
  intro n
  induction n with
  | zero => intro a b _ _; rfl
  | succ n ih =>
    intro a b h1 h2
    unfold jaf
    split
    · exact ih h1 h2
    · split
      · split
        · show jstp _ _ _ a b = _
          unfold jstp
          rw [jset_ne _ (fun q => h2 ⟨q.1, Or.inr q.2⟩), jset_ne _ (fun q => h2 ⟨q.1, Or.inl q.2⟩), jset_ne _ (fun q => h1 q.1)]
          exact ih h1 h2
        · show jset _ _ _ _ a b = _
          rw [jset_ne _ (fun q => h1 q.1)]
          exact ih h1 h2
      · exact ih h1 h2
theorem jfdN_c {σ τ : JM} (h : ∀ a b, a ≠ 49 → ¬ (a = 7 ∧ (b = 14 ∨ b = 15)) → τ a b = σ a b) (a : Int) : ∀ (f : Nat) (s : Int), jfdN τ a f s = jfdN σ a f s := by
  have e1 : τ 44 = σ 44 := funext fun b => h 44 b (by decide) (by omega)
  have e2 : τ 45 = σ 45 := funext fun b => h 45 b (by decide) (by omega)
  have e3 : τ 46 = σ 46 := funext fun b => h 46 b (by decide) (by omega)
  have e4 : τ 7 16 = σ 7 16 := h 7 16 (by decide) (by omega)
  intro f
  induction f with
  | zero => intro s; rfl
  | succ f ih => intro s; unfold jfdN jdp; rw [ih, e1, e2, e3, e4, h 42 s (by decide) (by omega)]
theorem jfd_c {σ τ : JM} (h : ∀ a b, a ≠ 49 → ¬ (a = 7 ∧ (b = 14 ∨ b = 15)) → τ a b = σ a b) (x : Int) : jfd τ x = jfd σ x := by
  unfold jfd
  rw [h 45 x (by decide) (by omega), h 46 x (by decide) (by omega), jfdN_c h]
/-- the reference's kinds and values in the class's words -/
def jkof (s g : Int) : Int := if s = 0 then 108 else if s = 1 then 119 else if s = 2 then 111 else if s = 3 then (if g ≠ 0 then 74 else 106) else if s = 4 then 97 else 103
def jmK (σ : JM) (i : Int) : Int := jkof (σ 44 i) (σ 50 i)
def jmV (σ : JM) (i : Int) : Int := if σ 44 i = 2 then 100 * σ 36 (σ 43 i) + σ 45 i else σ 45 i
/-- what is true of the reference's items -/
def jmok (σ : JM) : Prop := (0 ≤ σ 7 16 ∧ σ 7 16 ≤ 200) ∧ ∀ i, 0 ≤ i → i < σ 7 16 → (0 ≤ σ 44 i ∧ σ 44 i ≤ 5) ∧ (σ 44 i = 5 → 2 ≤ σ 45 i ∧ σ 45 i ≤ 8) ∧ (0 ≤ σ 45 i ∧ σ 45 i ≤ 999) ∧ (0 ≤ σ 43 i ∧ σ 43 i < 80) ∧ (σ 44 i = 2 → 0 ≤ σ 36 (σ 43 i) ∧ σ 36 (σ 43 i) ≤ 99)
def jmPl (σ : JM) : JM := jset (jfill σ 48 (σ 7 16) (jad (jmK σ) (jmV σ))) 7 19 (jad (jmK σ) (jmV σ) (σ 7 16))
theorem jkof_5 {s g : Int} (h : 0 ≤ s ∧ s ≤ 5) : jkof s g = 103 ↔ s = 5 := by
  unfold jkof
  have : s = 0 ∨ s = 1 ∨ s = 2 ∨ s = 3 ∨ s = 4 ∨ s = 5 := by omega
  rcases this with h | h | h | h | h | h <;> subst h <;> simp
  by_cases q : g = 0 <;> simp [q]
theorem jmsz {σ : JM} (h : jmok σ) : ∀ i, 0 ≤ i → i < σ 7 16 → jmK σ i = 103 → jmV σ i ≤ 8 := by
  intro i h0 h1 hk
  obtain ⟨a, b, -⟩ := h.2 i h0 h1
  have := (jkof_5 a).mp hk
  unfold jmV
  rw [if_neg (by omega)]
  exact (b this).2
def jmds (σ : JM) (i : Int) : Int := σ 48 (σ 49 i) - σ 48 i - 1
abbrev jmfr (σ : JM) (i : Int) : Prop := σ 44 i = 3 ∧ σ 50 i = 0 ∧ ¬ (-8 ≤ jmds σ i ∧ jmds σ i ≤ 7)
def jmL (σ : JM) (i : Int) : Int := if jmfr σ i then 1 else σ 50 i
def jmg (σ : JM) (i : Int) : Int := if jmfr σ i then 1 else 0
def jmLn (σ : JM) : JM := jfill (jmPl σ) 50 (σ 7 16) (jmL (jmPl σ))
theorem V.fg {l : Launch} {E : JE} {i : JI} {d n : Nat} {Qr : Option JV → JM → Prop} {Qx : String → JM → Prop} {pc : Nat} {L L' st : List JV} {σ : JM} (ks : List Nat) (hL : ks.foldl (fun L k => L.set k (9, 0)) L = L') (kk : V l E i d n Qr Qx pc L' st σ) : V l E i d n Qr Qx pc L st σ := by
  induction ks generalizing L with
  | nil => cases hL; exact kk
  | cons k ks ih =>
    have kk := ih hL
    intro p e R s m args below meth c A cm sm Z hF hX hZ H locs cells slots ls hT
    refine kk p e R s m args below meth c A cm sm Z hF hX hZ H locs cells slots ls ?_
    obtain ⟨h1, h2, h3, h4, h5, h6, h7, h8⟩ := hT
    refine ⟨h1, h2, h3, h4, h5, ⟨h6.1, h6.2.1, by rw [List.length_set]; exact h6.2.2.1, fun j v hj hv => ?_⟩, fun v hv => ?_, h8⟩
    · by_cases e : k = j
      · subst e
        rw [List.getElem?_set] at hj
        simp only [if_true] at hj
        split at hj
        · cases hj; exact absurd hv (by decide)
        · cases hj
      · rw [List.getElem?_set_ne e] at hj
        exact h6.2.2.2 j v hj hv
    · rcases List.mem_or_eq_of_mem_set hv with q | q
      · exact h7 v q
      · rw [q]; trivial
/-- the reference's walk over its rows -/
def jrga (v a b c : Int) : Int := if v = -1 then a else if v = -2 then b else c
def jwr (f : JM → Int × JM) : Nat → JM → Int × JM
  | 0, σ => (1, σ)
  | r + 1, σ => if (f σ).1 = 0 then (0, (f σ).2) else jwr f r (f σ).2
abbrev jwa (σ : JM) (x p q : Int) : Int := jrga (σ 35 x) p q (σ 35 x)
abbrev jwb (σ : JM) (x p q : Int) : Int := jrga (σ 36 x) p q (σ 36 x)
def jrds (s a b : Int) : Int := if s = 7 then 1 else if s = 8 then a else if a = b then 1 else 0
abbrev jwFa (σ : JM) (x p q : Int) : Prop := σ 35 x < 0 ∧ jmost (σ 34 x) < jwa σ x p q
abbrev jwFd (σ : JM) (x sc p ps q qs : Int) : Prop := σ 34 x = 0 ∧ jdfd σ (jwa σ x p q) (jrga (σ 35 x) ps qs sc)
abbrev jwFf (σ : JM) (x : Int) : Prop := σ 7 18 = 1000 ∨ (σ 34 x < 6 ∧ σ 7 16 = 200)
def jw1 (σ : JM) : JM := jset σ 7 18 (σ 7 18 + 1)
def jwk : Nat → JM → Int → Int → Int → Int → Int → Int → Int → Int → Int × JM
  | 0, σ, _, _, _, _, _, _, _, _ => (0, σ)
  | n + 1, σ, x, to, sc, p, ps, q, qs, d =>
    if to ≤ x then (1, σ) else
    if σ 34 x = 11 then jwk n σ (σ 38 x + 1) to sc p ps q qs d else
    if jwFa σ x p q then (0, jstp σ 97 x) else
    if jwFd σ x sc p ps q qs then (0, jstp σ 100 x) else
    if jwFf σ x then (0, jstp σ 102 x) else
    if σ 34 x < 6 then jwk n (jmk (jw1 σ) x (jwa σ x p q) (jrga (σ 35 x) ps qs sc) d) (x + 1) to sc p ps q qs d else
    if σ 34 x = 6 then
      let r := jwk n (jnsc (jw1 σ) 0) (σ 40 (σ 37 x) + 1) (σ 41 (σ 37 x)) (σ 7 17) (jwa σ x p q) (jrga (σ 35 x) ps qs sc) (jwb σ x p q) (jrga (σ 36 x) ps qs sc) (d + 1)
      if r.1 = 0 then (0, r.2) else jwk n r.2 (x + 1) to sc p ps q qs d
    else
      let r := jwr (fun ρ => if σ 34 x = 9 then jwk n ρ (x + 1) (σ 38 x) sc p ps q qs d else jwk n (jnsc ρ sc) (x + 1) (σ 38 x) (ρ 7 17) p ps q qs d) (jrds (σ 34 x) (jwa σ x p q) (jwb σ x p q)).toNat (jw1 σ)
      if r.1 = 0 then (0, r.2) else jwk n r.2 (σ 38 x + 1) to sc p ps q qs d
/-- opening and closing kinds; a well nested stretch; what is true of the fed lines -/
abbrev jop (s : Int) : Prop := s = 7 ∨ s = 8 ∨ s = 9 ∨ s = 11
abbrev jcz (s : Int) : Prop := s = 10 ∨ s = 12
def jW (σ : JM) (x to : Int) : Prop := (∀ y, x ≤ y → y < to → jop (σ 34 y) → σ 38 y < to) ∧ ∀ y, x ≤ y → y < to → jcz (σ 34 y) → ∃ z, x ≤ z ∧ z < y ∧ jop (σ 34 z) ∧ σ 38 z = y
def jwf (σ : JM) : Prop := (0 ≤ σ 7 1 ∧ σ 7 1 ≤ 80) ∧ (0 ≤ σ 7 2 ∧ σ 7 2 ≤ 8) ∧ (∀ x, 0 ≤ x → x < σ 7 1 → 0 ≤ σ 34 x ∧ σ 34 x ≤ 12) ∧ (∀ x, 0 ≤ x → x < σ 7 1 → -2 ≤ σ 35 x ∧ σ 35 x ≤ 999 ∧ (σ 34 x = 8 → σ 35 x ≤ 9)) ∧ (∀ x, 0 ≤ x → x < σ 7 1 → -2 ≤ σ 36 x ∧ σ 36 x ≤ 999) ∧ (∀ x, 0 ≤ x → x < σ 7 1 → jop (σ 34 x) → x < σ 38 x ∧ σ 38 x < σ 7 1 ∧ jcz (σ 34 (σ 38 x)) ∧ ∀ y, x < y → y < σ 38 x → jop (σ 34 y) → σ 38 y < σ 38 x) ∧ (∀ x, 0 ≤ x → x < σ 7 1 → σ 34 x = 6 → 0 ≤ σ 37 x ∧ σ 37 x < σ 7 2 ∧ σ 41 (σ 37 x) < x) ∧ (∀ m, 0 ≤ m → m < σ 7 2 → 0 ≤ σ 40 m ∧ σ 40 m < σ 41 m ∧ σ 41 m < σ 7 1 ∧ σ 34 (σ 40 m) = 11 ∧ σ 38 (σ 40 m) = σ 41 m) ∧ (∀ x, 0 ≤ x → x < σ 7 1 → σ 34 x = 5 → 2 ≤ σ 35 x ∧ σ 35 x ≤ 8) ∧ (∀ x, 0 ≤ x → x < σ 7 1 → σ 34 x = 2 → 0 ≤ σ 36 x ∧ σ 36 x ≤ 99) ∧ (jW σ 0 (σ 7 1))
theorem jwf.ln {σ : JM} (h : jwf σ) : 0 ≤ σ 7 1 ∧ σ 7 1 ≤ 80 := h.1
theorem jwf.mc {σ : JM} (h : jwf σ) : 0 ≤ σ 7 2 ∧ σ 7 2 ≤ 8 := h.2.1
theorem jwf.so {σ : JM} (h : jwf σ) : ∀ x, 0 ≤ x → x < σ 7 1 → 0 ≤ σ 34 x ∧ σ 34 x ≤ 12 := h.2.2.1
theorem jwf.one {σ : JM} (h : jwf σ) : ∀ x, 0 ≤ x → x < σ 7 1 → -2 ≤ σ 35 x ∧ σ 35 x ≤ 999 ∧ (σ 34 x = 8 → σ 35 x ≤ 9) := h.2.2.2.1
theorem jwf.two {σ : JM} (h : jwf σ) : ∀ x, 0 ≤ x → x < σ 7 1 → -2 ≤ σ 36 x ∧ σ 36 x ≤ 999 := h.2.2.2.2.1
theorem jwf.op {σ : JM} (h : jwf σ) : ∀ x, 0 ≤ x → x < σ 7 1 → jop (σ 34 x) → x < σ 38 x ∧ σ 38 x < σ 7 1 ∧ jcz (σ 34 (σ 38 x)) ∧ ∀ y, x < y → y < σ 38 x → jop (σ 34 y) → σ 38 y < σ 38 x := h.2.2.2.2.2.1
theorem jwf.ca {σ : JM} (h : jwf σ) : ∀ x, 0 ≤ x → x < σ 7 1 → σ 34 x = 6 → 0 ≤ σ 37 x ∧ σ 37 x < σ 7 2 ∧ σ 41 (σ 37 x) < x := h.2.2.2.2.2.2.1
theorem jwf.mm {σ : JM} (h : jwf σ) : ∀ m, 0 ≤ m → m < σ 7 2 → 0 ≤ σ 40 m ∧ σ 40 m < σ 41 m ∧ σ 41 m < σ 7 1 ∧ σ 34 (σ 40 m) = 11 ∧ σ 38 (σ 40 m) = σ 41 m := h.2.2.2.2.2.2.2.1
theorem jwf.al5 {σ : JM} (h : jwf σ) : ∀ x, 0 ≤ x → x < σ 7 1 → σ 34 x = 5 → 2 ≤ σ 35 x ∧ σ 35 x ≤ 8 := h.2.2.2.2.2.2.2.2.1
theorem jwf.op2 {σ : JM} (h : jwf σ) : ∀ x, 0 ≤ x → x < σ 7 1 → σ 34 x = 2 → 0 ≤ σ 36 x ∧ σ 36 x ≤ 99 := h.2.2.2.2.2.2.2.2.2.1
theorem jwf.al {σ : JM} (h : jwf σ) : jW σ 0 (σ 7 1) := h.2.2.2.2.2.2.2.2.2.2
theorem jW.inn {σ : JM} (h : jwf σ) {x to y : Int} (hx : 0 ≤ x) (ht : to ≤ σ 7 1) (w : jW σ x to) (a : x ≤ y) (b : y < to) (o : jop (σ 34 y)) : jW σ (y + 1) (σ 38 y) ∧ y < σ 38 y ∧ σ 38 y < to := by
  have h1 := h.op y (by omega) (by omega) o
  have h2 := w.1 y a b o
  refine ⟨⟨fun z a1 a2 a3 => h1.2.2.2 z (by omega) a2 a3, fun z a1 a2 a3 => ?_⟩, h1.1, h2⟩
  obtain ⟨u, b1, b2, b3, b4⟩ := w.2 z (by omega) (by omega) a3
  refine ⟨u, ?_, b2, b3, b4⟩
  by_cases c : u = y
  · subst c; omega
  · by_cases c2 : u < y
    · have := (h.op u (by omega) (by omega) b3).2.2.2 y c2 (by omega) o
      omega
    · omega
theorem jW.nxt {σ : JM} (h : jwf σ) {x to : Int} (hx : 0 ≤ x) (ht : to ≤ σ 7 1) (w : jW σ x to) (b : x < to) (o : jop (σ 34 x)) : jW σ (σ 38 x + 1) to := by
  have h1 := h.op x hx (by omega) o
  refine ⟨fun z a1 a2 a3 => w.1 z (by omega) a2 a3, fun z a1 a2 a3 => ?_⟩
  obtain ⟨u, b1, b2, b3, b4⟩ := w.2 z (by omega) a2 a3
  refine ⟨u, ?_, b2, b3, b4⟩
  by_cases c : u = x
  · subst c; omega
  · by_cases c3 : u < σ 38 x
    · have := h1.2.2.2 u (by omega) c3 b3
      omega
    · by_cases c4 : u = σ 38 x
      · rw [← c4] at h1
        have := h1.2.2.1
        omega
      · omega
theorem jW.suc {σ : JM} {x to : Int} (w : jW σ x to) (o : ¬ jop (σ 34 x)) : jW σ (x + 1) to := by
  refine ⟨fun z a1 a2 a3 => w.1 z (by omega) a2 a3, fun z a1 a2 a3 => ?_⟩
  obtain ⟨u, b1, b2, b3, b4⟩ := w.2 z (by omega) a2 a3
  refine ⟨u, ?_, b2, b3, b4⟩
  by_cases c : u = x
  · subst c; exact absurd b3 o
  · omega
theorem jW.ncl {σ : JM} {x to : Int} (w : jW σ x to) (b : x < to) : ¬ jcz (σ 34 x) := fun c => by
  obtain ⟨u, b1, b2, -, -⟩ := w.2 x (by omega) b c
  omega
theorem jW.mac {σ : JM} (h : jwf σ) {m : Int} (h0 : 0 ≤ m) (h1 : m < σ 7 2) : jW σ (σ 40 m + 1) (σ 41 m) := by
  obtain ⟨a, b, c, d, e⟩ := h.mm m h0 h1
  have := jW.inn h (by omega) (Int.le_refl _) h.al a (by omega) (show jop (σ 34 (σ 40 m)) by omega)
  rw [e] at this
  exact this.1
/-- the walk keeps all but these; its memory's bounds -/
def jkp (σ0 σ : JM) : Prop := ∀ a b, ¬ (42 ≤ a ∧ a ≤ 47) → a ≠ 50 → ¬ (a = 7 ∧ 14 ≤ b ∧ b ≤ 18) → σ a b = σ0 a b
def jwi (σ : JM) : Prop := (0 ≤ σ 7 16 ∧ σ 7 16 ≤ 200) ∧ (0 ≤ σ 7 17 ∧ σ 7 17 ≤ 9 * σ 7 18 + 1) ∧ (0 ≤ σ 7 18 ∧ σ 7 18 ≤ 1000)
abbrev jwc (σ0 : JM) (x to p q d : Int) : Prop := 0 ≤ x ∧ x ≤ to ∧ to ≤ σ0 7 1 ∧ (0 ≤ p ∧ p ≤ 999) ∧ (0 ≤ q ∧ q ≤ 999) ∧ 0 ≤ d ∧ d + to ≤ 1000
theorem jkp.rfl (σ : JM) : jkp σ σ := fun _ _ _ _ _ => Eq.refl _
theorem jkp.tr {σ0 σ τ : JM} (h : jkp σ0 σ) (g : jkp σ τ) : jkp σ0 τ := fun a b h1 h2 h3 => (g a b h1 h2 h3).trans (h a b h1 h2 h3)
theorem jkp.set {σ0 σ : JM} (h : jkp σ0 σ) {k : Nat} (j v : Int) (hk : (42 ≤ k ∧ k ≤ 47) ∨ k = 50 ∨ (k = 7 ∧ 14 ≤ j ∧ j ≤ 18)) : jkp σ0 (jset σ k j v) := fun a b h1 h2 h3 => by
  rw [jset_ne σ (fun q => by obtain ⟨q1, q2⟩ := q; subst q1; subst q2; exact hk.elim h1 (fun z => z.elim h2 h3))]
  exact h a b h1 h2 h3
theorem jkp.stp {σ0 σ : JM} (h : jkp σ0 σ) (k x : Int) : jkp σ0 (jstp σ k x) := (h.set _ _ (by omega)).set _ _ (by omega)
theorem jkp.nsc {σ0 σ : JM} (h : jkp σ0 σ) (o : Int) : jkp σ0 (jnsc σ o) := (h.set _ _ (by omega)).set _ _ (by omega)
theorem jkp.w1 {σ0 σ : JM} (h : jkp σ0 σ) : jkp σ0 (jw1 σ) := h.set _ _ (by omega)
theorem jkp.mk {σ0 σ : JM} (h : jkp σ0 σ) (x v s d : Int) : jkp σ0 (jmk σ x v s d) := ((((((h.set _ _ (by omega)).set _ _ (by omega)).set _ _ (by omega)).set _ _ (by omega)).set _ _ (by omega)).set _ _ (by omega)).set _ _ (by omega)
theorem jmk_7 (σ : JM) (x v s d : Int) : jmk σ x v s d 7 16 = σ 7 16 + 1 ∧ jmk σ x v s d 7 17 = σ 7 17 ∧ jmk σ x v s d 7 18 = σ 7 18 := ⟨Eq.refl _, Eq.refl _, Eq.refl _⟩
theorem jnsc_7 (σ : JM) (o : Int) : jnsc σ o 7 16 = σ 7 16 ∧ jnsc σ o 7 17 = σ 7 17 + 1 ∧ jnsc σ o 7 18 = σ 7 18 := ⟨Eq.refl _, Eq.refl _, Eq.refl _⟩
theorem jw1_7 (σ : JM) : jw1 σ 7 16 = σ 7 16 ∧ jw1 σ 7 17 = σ 7 17 ∧ jw1 σ 7 18 = σ 7 18 + 1 := ⟨Eq.refl _, Eq.refl _, Eq.refl _⟩
theorem jstp_7 (σ : JM) (k x : Int) : jstp σ k x 7 16 = σ 7 16 ∧ jstp σ k x 7 17 = σ 7 17 ∧ jstp σ k x 7 18 = σ 7 18 := ⟨Eq.refl _, Eq.refl _, Eq.refl _⟩
/-- the arguments' bounds -/
theorem jrga_b {v a b : Int} (hv : -2 ≤ v ∧ v ≤ 999) (ha : 0 ≤ a ∧ a ≤ 999) (hb : 0 ≤ b ∧ b ≤ 999) : 0 ≤ jrga v a b v ∧ jrga v a b v ≤ 999 := by
  unfold jrga; (repeat' split) <;> omega
/-- what the walk leaves: bounds, and no more than nine scopes a counted line -/
def jwo (σ0 σ : JM) (r : Int × JM) : Prop := jkp σ0 r.2 ∧ jwi r.2 ∧ (r.2 7 17 - 9 * r.2 7 18 ≤ σ 7 17 - 9 * σ 7 18) ∧ (r.1 = 0 ∨ r.1 = 1) ∧ σ 7 18 ≤ r.2 7 18 ∧ σ 7 17 ≤ r.2 7 17 ∧ σ 7 16 ≤ r.2 7 16
theorem jwo.tr {σ0 σ τ : JM} {r : Int × JM} (a : σ 7 18 ≤ τ 7 18) (b : σ 7 17 ≤ τ 7 17) (c : σ 7 16 ≤ τ 7 16) (e : τ 7 17 - 9 * τ 7 18 ≤ σ 7 17 - 9 * σ 7 18) (h : jwo σ0 τ r) : jwo σ0 σ r := by
  obtain ⟨h1, h2, h3, h4, h5, h6, h7⟩ := h
  exact ⟨h1, h2, by omega, h4, by omega, by omega, by omega⟩
theorem jwr_o {σ0 : JM} {f : JM → Int × JM} (hf : ∀ ρ, jkp σ0 ρ → jwi ρ → ρ 7 17 ≤ 9 * ρ 7 18 → jwo σ0 (jset ρ 7 17 (ρ 7 17 + 1)) (f ρ) ∨ jwo σ0 ρ (f ρ)) : ∀ (r : Nat) (σ : JM), jkp σ0 σ → jwi σ → σ 7 17 + r ≤ 9 * σ 7 18 + 1 → (jkp σ0 (jwr f r σ).2 ∧ jwi (jwr f r σ).2 ∧ ((jwr f r σ).2 7 17 - 9 * (jwr f r σ).2 7 18 ≤ σ 7 17 + r - 9 * σ 7 18) ∧ ((jwr f r σ).1 = 0 ∨ (jwr f r σ).1 = 1) ∧ σ 7 18 ≤ (jwr f r σ).2 7 18 ∧ σ 7 17 ≤ (jwr f r σ).2 7 17 ∧ σ 7 16 ≤ (jwr f r σ).2 7 16) := by
  intro r
  induction r with
  | zero => intro σ k i b; exact ⟨k, i, by show σ 7 17 - 9 * σ 7 18 ≤ _; omega, Or.inr (Eq.refl _), Int.le_refl _, Int.le_refl _, Int.le_refl _⟩
  | succ r ih =>
    intro σ k i b
    have e : jwr f (r + 1) σ = if (f σ).1 = 0 then (0, (f σ).2) else jwr f r (f σ).2 := Eq.refl _
    have g : jkp σ0 (f σ).2 ∧ jwi (f σ).2 ∧ (f σ).2 7 17 - 9 * (f σ).2 7 18 ≤ σ 7 17 + 1 - 9 * σ 7 18 ∧ σ 7 18 ≤ (f σ).2 7 18 ∧ σ 7 17 ≤ (f σ).2 7 17 ∧ σ 7 16 ≤ (f σ).2 7 16 := by
      rcases hf σ k i (by omega) with ⟨g1, g2, g3, g4, g5, g6, g7⟩ | ⟨g1, g2, g3, g4, g5, g6, g7⟩
      · have e1 : jset σ 7 17 (σ 7 17 + 1) 7 17 = σ 7 17 + 1 := Eq.refl _
        have e2 : jset σ 7 17 (σ 7 17 + 1) 7 18 = σ 7 18 := Eq.refl _
        have e3 : jset σ 7 17 (σ 7 17 + 1) 7 16 = σ 7 16 := Eq.refl _
        rw [e1, e2] at g3; rw [e2] at g5; rw [e1] at g6; rw [e3] at g7
        exact ⟨g1, g2, by omega, by omega, by omega, by omega⟩
      · exact ⟨g1, g2, by omega, by omega, by omega, by omega⟩
    rw [e]
    split
    · exact ⟨g.1, g.2.1, by have := g.2.2.1; show (f σ).2 7 17 - 9 * (f σ).2 7 18 ≤ _; omega, Or.inl (Eq.refl _), g.2.2.2.1, g.2.2.2.2.1, g.2.2.2.2.2⟩
    · have z := ih (f σ).2 g.1 g.2.1 (by omega)
      exact ⟨z.1, z.2.1, by omega, z.2.2.2.1, by omega, by omega, by omega⟩

/-- a step of the walk, by cases -/
theorem jwk_0 {n : Nat} {σ : JM} {x to sc p ps q qs d : Int} (h : to ≤ x) : jwk (n + 1) σ x to sc p ps q qs d = (1, σ) := if_pos h
theorem jwk_m {n : Nat} {σ : JM} {x to sc p ps q qs d : Int} (h : x < to) (h1 : σ 34 x = 11) : jwk (n + 1) σ x to sc p ps q qs d = jwk n σ (σ 38 x + 1) to sc p ps q qs d := (if_neg (by omega)).trans (if_pos h1)
theorem jwk_a {n : Nat} {σ : JM} {x to sc p ps q qs d : Int} (h : x < to) (h1 : σ 34 x ≠ 11) (h2 : jwFa σ x p q) : jwk (n + 1) σ x to sc p ps q qs d = (0, jstp σ 97 x) := ((if_neg (by omega)).trans (if_neg h1)).trans (if_pos h2)
theorem jwk_d {n : Nat} {σ : JM} {x to sc p ps q qs d : Int} (h : x < to) (h1 : σ 34 x ≠ 11) (h2 : ¬ jwFa σ x p q) (h3 : jwFd σ x sc p ps q qs) : jwk (n + 1) σ x to sc p ps q qs d = (0, jstp σ 100 x) := (((if_neg (by omega)).trans (if_neg h1)).trans (if_neg h2)).trans (if_pos h3)
theorem jwk_f {n : Nat} {σ : JM} {x to sc p ps q qs d : Int} (h : x < to) (h1 : σ 34 x ≠ 11) (h2 : ¬ jwFa σ x p q) (h3 : ¬ jwFd σ x sc p ps q qs) (h4 : jwFf σ x) : jwk (n + 1) σ x to sc p ps q qs d = (0, jstp σ 102 x) := ((((if_neg (by omega)).trans (if_neg h1)).trans (if_neg h2)).trans (if_neg h3)).trans (if_pos h4)
theorem jwk_i {n : Nat} {σ : JM} {x to sc p ps q qs d : Int} (h : x < to) (h2 : ¬ jwFa σ x p q) (h3 : ¬ jwFd σ x sc p ps q qs) (h4 : ¬ jwFf σ x) (h5 : σ 34 x < 6) : jwk (n + 1) σ x to sc p ps q qs d = jwk n (jmk (jw1 σ) x (jwa σ x p q) (jrga (σ 35 x) ps qs sc) d) (x + 1) to sc p ps q qs d := (((((if_neg (by omega)).trans (if_neg (by omega))).trans (if_neg h2)).trans (if_neg h3)).trans (if_neg h4)).trans (if_pos h5)
abbrev jwC (n : Nat) (σ : JM) (x sc p ps q qs d : Int) : Int × JM := jwk n (jnsc (jw1 σ) 0) (σ 40 (σ 37 x) + 1) (σ 41 (σ 37 x)) (σ 7 17) (jwa σ x p q) (jrga (σ 35 x) ps qs sc) (jwb σ x p q) (jrga (σ 36 x) ps qs sc) (d + 1)
theorem jwk_c {n : Nat} {σ : JM} {x to sc p ps q qs d : Int} (h : x < to) (h2 : ¬ jwFa σ x p q) (h4 : ¬ jwFf σ x) (h5 : σ 34 x = 6) : jwk (n + 1) σ x to sc p ps q qs d = if (jwC n σ x sc p ps q qs d).1 = 0 then (0, (jwC n σ x sc p ps q qs d).2) else jwk n (jwC n σ x sc p ps q qs d).2 (x + 1) to sc p ps q qs d := ((((((if_neg (by omega)).trans (if_neg (by omega))).trans (if_neg h2)).trans (if_neg (fun z => by have := z.1; omega))).trans (if_neg h4)).trans (if_neg (by omega))).trans (if_pos h5)
abbrev jwB (n : Nat) (σ : JM) (x sc p ps q qs d : Int) (ρ : JM) : Int × JM := if σ 34 x = 9 then jwk n ρ (x + 1) (σ 38 x) sc p ps q qs d else jwk n (jnsc ρ sc) (x + 1) (σ 38 x) (ρ 7 17) p ps q qs d
abbrev jwG (n : Nat) (σ : JM) (x sc p ps q qs d : Int) : Int × JM := jwr (jwB n σ x sc p ps q qs d) (jrds (σ 34 x) (jwa σ x p q) (jwb σ x p q)).toNat (jw1 σ)
theorem jwk_g {n : Nat} {σ : JM} {x to sc p ps q qs d : Int} (h : x < to) (h1 : σ 34 x ≠ 11) (h2 : ¬ jwFa σ x p q) (h4 : ¬ jwFf σ x) (h5 : 7 ≤ σ 34 x) : jwk (n + 1) σ x to sc p ps q qs d = if (jwG n σ x sc p ps q qs d).1 = 0 then (0, (jwG n σ x sc p ps q qs d).2) else jwk n (jwG n σ x sc p ps q qs d).2 (σ 38 x + 1) to sc p ps q qs d := ((((((if_neg (by omega)).trans (if_neg h1)).trans (if_neg h2)).trans (if_neg (fun z => by have := z.1; omega))).trans (if_neg h4)).trans (if_neg (by omega))).trans (if_neg (by omega))
theorem jrds_b {s a b : Int} (ha : 0 ≤ a ∧ (s = 8 → a ≤ 9)) : 0 ≤ jrds s a b ∧ jrds s a b ≤ 9 := by
  unfold jrds; (repeat' split) <;> omega
theorem jrnd9 {σ : JM} (h : jwf σ) {x p q : Int} (hx : 0 ≤ x ∧ x < σ 7 1) (hp : 0 ≤ p ∧ p ≤ 999) (hq : 0 ≤ q ∧ q ≤ 999) (g : ¬ jwFa σ x p q) : 0 ≤ jrds (σ 34 x) (jwa σ x p q) (jwb σ x p q) ∧ jrds (σ 34 x) (jwa σ x p q) (jwb σ x p q) ≤ 9 := by
  have o := h.one x hx.1 hx.2
  refine jrds_b ⟨(jrga_b ⟨o.1, o.2.1⟩ hp hq).1, fun e => ?_⟩
  by_cases c : σ 35 x < 0
  · have : ¬ jmost (σ 34 x) < jwa σ x p q := fun z => g ⟨c, z⟩
    rw [e] at this
    have e9 : jmost 8 = 9 := rfl
    omega
  · have := o.2.2 e
    unfold jwa jrga
    rw [if_neg (by omega), if_neg (by omega)]
    exact this
theorem jwk_o {σ0 : JM} (hw : jwf σ0) : ∀ (n : Nat) (σ : JM) (x to sc p ps q qs d : Int), jkp σ0 σ → jwi σ → jwc σ0 x to p q d → jW σ0 x to → jwo σ0 σ (jwk n σ x to sc p ps q qs d) := by
  intro n
  induction n with
  | zero => intro σ x to sc p ps q qs d k i c w; exact ⟨k, i, Int.le_refl _, Or.inl rfl, Int.le_refl _, Int.le_refl _, Int.le_refl _⟩
  | succ n ih =>
    intro σ x to sc p ps q qs d k i c w
    by_cases h : to ≤ x
    · rw [jwk_0 h]; exact ⟨k, i, Int.le_refl _, Or.inr rfl, Int.le_refl _, Int.le_refl _, Int.le_refl _⟩
    have h : x < to := by omega
    have k34 : σ 34 x = σ0 34 x := k 34 x (by omega) (by omega) (by omega)
    have k35 : σ 35 x = σ0 35 x := k 35 x (by omega) (by omega) (by omega)
    have k36 : σ 36 x = σ0 36 x := k 36 x (by omega) (by omega) (by omega)
    have k37 : σ 37 x = σ0 37 x := k 37 x (by omega) (by omega) (by omega)
    have k38 : σ 38 x = σ0 38 x := k 38 x (by omega) (by omega) (by omega)
    have o1 := hw.one x c.1 (by omega)
    have o2 := hw.two x c.1 (by omega)
    have so := hw.so x c.1 (by omega)
    have ncl := w.ncl h
    have ab := jrga_b ⟨o1.1, o1.2.1⟩ c.2.2.2.1 c.2.2.2.2.1
    have bb := jrga_b o2 c.2.2.2.1 c.2.2.2.2.1
    have st : ∀ c, jwo σ0 σ (0, jstp σ c x) := fun c => ⟨k.stp c x, i, Int.le_refl _, Or.inl rfl, Int.le_refl _, Int.le_refl _, Int.le_refl _⟩
    by_cases h1 : σ 34 x = 11
    · rw [jwk_m h h1]
      have g := jW.inn hw c.1 c.2.2.1 w (Int.le_refl _) h (by omega)
      rw [k38]
      exact ih _ _ _ _ _ _ _ _ _ k i (by omega) (jW.nxt hw c.1 c.2.2.1 w h (by omega))
    by_cases h2 : jwFa σ x p q
    · rw [jwk_a h h1 h2]; exact st _
    by_cases h3 : jwFd σ x sc p ps q qs
    · rw [jwk_d h h1 h2 h3]; exact st _
    by_cases h4 : jwFf σ x
    · rw [jwk_f h h1 h2 h3 h4]; exact st _
    have i3 : σ 7 18 < 1000 := by
      have := i.2.2
      by_cases e : σ 7 18 = 1000
      · exact absurd (Or.inl e) h4
      · omega
    by_cases h5 : σ 34 x < 6
    · rw [jwk_i h h2 h3 h4 h5]
      have i4 : σ 7 16 < 200 := by
        have := i.1
        by_cases e : σ 7 16 = 200
        · exact absurd (Or.inr ⟨h5, e⟩) h4
        · omega
      have m := jmk_7 (jw1 σ) x (jwa σ x p q) (jrga (σ 35 x) ps qs sc) d
      rw [(jw1_7 σ).1, (jw1_7 σ).2.1, (jw1_7 σ).2.2] at m
      obtain ⟨i5, i6, i7⟩ := i
      refine jwo.tr (τ := jmk (jw1 σ) x (jwa σ x p q) (jrga (σ 35 x) ps qs sc) d) (by omega) (by omega) (by omega) (by omega) (ih _ _ _ _ _ _ _ _ _ (k.w1.mk _ _ _ _) ⟨by omega, by omega, by omega⟩ (by omega) (w.suc (by omega)))
    by_cases h6 : σ 34 x = 6
    · rw [jwk_c h h2 h4 h6]
      have ca := hw.ca x c.1 (by omega) (by omega)
      have mm := hw.mm (σ0 37 x) ca.1 ca.2.1
      have m := jnsc_7 (jw1 σ) 0
      rw [(jw1_7 σ).1, (jw1_7 σ).2.1, (jw1_7 σ).2.2] at m
      have i' := i
      obtain ⟨i5, i6, i7⟩ := i
      have g : jwo σ0 σ (jwC n σ x sc p ps q qs d) := by
        refine jwo.tr (τ := jnsc (jw1 σ) 0) (by omega) (by omega) (by omega) (by omega) (ih _ _ _ _ _ _ _ _ _ (k.w1.nsc _) ⟨by omega, by omega, by omega⟩ ?_ ?_)
        · rw [k 40 _ (by omega) (by omega) (by omega), k 41 _ (by omega) (by omega) (by omega), k37]
          unfold jwa jwb
          rw [k35, k36]
          exact ⟨by omega, by omega, by omega, ab, bb, by omega, by omega⟩
        · rw [k 40 _ (by omega) (by omega) (by omega), k 41 _ (by omega) (by omega) (by omega), k37]
          exact jW.mac hw ca.1 ca.2.1
      generalize jwC n σ x sc p ps q qs d = r at g
      split
      · exact ⟨g.1, g.2.1, g.2.2.1, Or.inl rfl, g.2.2.2.2⟩
      · exact jwo.tr g.2.2.2.2.1 g.2.2.2.2.2.1 g.2.2.2.2.2.2 g.2.2.1 (ih _ _ _ _ _ _ _ _ _ g.1 g.2.1 (by omega) (w.suc (by omega)))
    · have h7 : 7 ≤ σ 34 x := by omega
      rw [jwk_g h h1 h2 h4 h7]
      have op : jop (σ0 34 x) := by omega
      have g := jW.inn hw c.1 c.2.2.1 w (Int.le_refl _) h op
      have r9 := jrnd9 hw (p := p) (q := q) ⟨c.1, by omega⟩ c.2.2.2.1 c.2.2.2.2.1 (by unfold jwFa jwa; rw [← k35, ← k34]; exact h2)
      have eb : jrds (σ 34 x) (jwa σ x p q) (jwb σ x p q) = jrds (σ0 34 x) (jwa σ0 x p q) (jwb σ0 x p q) := by unfold jwa jwb; rw [k34, k35, k36]
      rw [← eb] at r9
      have m := jw1_7 σ
      have i' := i
      obtain ⟨i5, i6, i7⟩ := i
      have hf : ∀ ρ, jkp σ0 ρ → jwi ρ → ρ 7 17 ≤ 9 * ρ 7 18 → jwo σ0 (jset ρ 7 17 (ρ 7 17 + 1)) (jwB n σ x sc p ps q qs d ρ) ∨ jwo σ0 ρ (jwB n σ x sc p ps q qs d ρ) := by
        intro ρ kρ iρ bρ
        unfold jwB
        rw [k38]
        split
        · exact Or.inr (ih _ _ _ _ _ _ _ _ _ kρ iρ (by omega) g.1)
        · obtain ⟨j5, j6, j7⟩ := iρ
          have m := jnsc_7 ρ sc
          refine Or.inl (jwo.tr (τ := jnsc ρ sc) (Int.le_refl _) (Int.le_refl _) (Int.le_refl _) (Int.le_refl _) (ih _ _ _ _ _ _ _ _ _ (kρ.nsc _) ⟨by omega, by omega, by omega⟩ (by omega) g.1))
      have z := jwr_o hf (jrds (σ 34 x) (jwa σ x p q) (jwb σ x p q)).toNat (jw1 σ) k.w1 ⟨by omega, by omega, by omega⟩ (by omega)
      have g' : jwo σ0 σ (jwG n σ x sc p ps q qs d) := by
        unfold jwG
        exact ⟨z.1, z.2.1, by omega, z.2.2.2.1, by omega, by omega, by omega⟩
      generalize jwG n σ x sc p ps q qs d = r at g'
      split
      · exact ⟨g'.1, g'.2.1, g'.2.2.1, Or.inl rfl, g'.2.2.2.2⟩
      · rw [k38]
        exact jwo.tr g'.2.2.2.2.1 g'.2.2.2.2.2.1 g'.2.2.2.2.2.2 g'.2.2.1 (ih _ _ _ _ _ _ _ _ _ g'.1 g'.2.1 (by omega) (jW.nxt hw c.1 c.2.2.1 w h op))


theorem jwr_s (f : JM → Int × JM) (r : Nat) (ρ : JM) : jwr f (r + 1) ρ = if (f ρ).1 = 0 then (0, (f ρ).2) else jwr f r (f ρ).2 := rfl
theorem jwr_z (f : JM → Int × JM) (ρ : JM) : jwr f 0 ρ = (1, ρ) := rfl
/-- what is true of the walk's items and scopes -/
def jit (σ0 σ : JM) : Prop := (∀ s, 0 ≤ s → s < σ 7 17 → -1 ≤ σ 42 s ∧ σ 42 s < s) ∧ ∀ i, 0 ≤ i → i < σ 7 16 → (0 ≤ σ 43 i ∧ σ 43 i < σ0 7 1) ∧ σ 44 i = σ0 34 (σ 43 i) ∧ σ 44 i < 6 ∧ (0 ≤ σ 45 i ∧ σ 45 i ≤ 999) ∧ (σ 44 i = 5 → σ 45 i ≤ 8 ∧ 2 ≤ σ 45 i) ∧ (0 ≤ σ 46 i ∧ σ 46 i < σ 7 17) ∧ σ 50 i = 0
theorem jit.stp {σ0 σ : JM} (h : jit σ0 σ) (k x : Int) : jit σ0 (jstp σ k x) := h
theorem jit.w1 {σ0 σ : JM} (h : jit σ0 σ) : jit σ0 (jw1 σ) := h
theorem jit.nsc {σ0 σ : JM} (h : jit σ0 σ) (h0 : 0 ≤ σ 7 17) {o : Int} (ho : -1 ≤ o ∧ o < σ 7 17) : jit σ0 (jnsc σ o) := by
  refine ⟨fun s s0 s1 => ?_, fun i i0 i1 => ?_⟩
  · have e : jnsc σ o 7 17 = σ 7 17 + 1 := rfl
    rw [e] at s1
    have e2 : jnsc σ o 42 s = (jset σ 42 (σ 7 17) o) 42 s := rfl
    rw [e2]
    by_cases c : s = σ 7 17
    · rw [c, jset_eq]; exact ho
    · rw [jset_nj σ c]; exact h.1 s s0 (by omega)
  · have z := h.2 i i0 i1
    have e : jnsc σ o 7 17 = σ 7 17 + 1 := rfl
    rw [e]
    refine ⟨z.1, z.2.1, z.2.2.1, z.2.2.2.1, z.2.2.2.2.1, ⟨z.2.2.2.2.2.1.1, ?_⟩, z.2.2.2.2.2.2⟩
    have := z.2.2.2.2.2.1.2
    show σ 46 i < σ 7 17 + 1
    omega
theorem jit.mk {σ0 σ : JM} (h : jit σ0 σ) (h0 : 0 ≤ σ 7 16) {x v s d : Int} (hx : 0 ≤ x ∧ x < σ0 7 1) (h34 : σ 34 x = σ0 34 x) (h6 : σ 34 x < 6) (hv : 0 ≤ v ∧ v ≤ 999) (h5 : σ 34 x = 5 → v ≤ 8 ∧ 2 ≤ v) (hs : 0 ≤ s ∧ s < σ 7 17) : jit σ0 (jmk σ x v s d) := by
  refine ⟨h.1, fun i i0 i1 => ?_⟩
  have e : jmk σ x v s d 7 16 = σ 7 16 + 1 := rfl
  rw [e] at i1
  have e17 : jmk σ x v s d 7 17 = σ 7 17 := rfl
  have e43 : jmk σ x v s d 43 i = jset σ 43 (σ 7 16) x 43 i := rfl
  have e44 : jmk σ x v s d 44 i = jset σ 44 (σ 7 16) (σ 34 x) 44 i := rfl
  have e45 : jmk σ x v s d 45 i = jset σ 45 (σ 7 16) v 45 i := rfl
  have e46 : jmk σ x v s d 46 i = jset σ 46 (σ 7 16) s 46 i := rfl
  have e50 : jmk σ x v s d 50 i = jset σ 50 (σ 7 16) 0 50 i := rfl
  rw [e17, e43, e44, e45, e46, e50]
  by_cases c : i = σ 7 16
  · rw [c, jset_eq, jset_eq, jset_eq, jset_eq, jset_eq]
    exact ⟨hx, h34, h6, hv, h5, hs, rfl⟩
  · rw [jset_nj σ c, jset_nj σ c, jset_nj σ c, jset_nj σ c, jset_nj σ c]
    exact h.2 i i0 (by omega)
theorem jrga_s {v a b c m : Int} (ha : 0 ≤ a ∧ a < m) (hb : 0 ≤ b ∧ b < m) (hc : 0 ≤ c ∧ c < m) : 0 ≤ jrga v a b c ∧ jrga v a b c < m := by
  unfold jrga; (repeat' split) <;> omega
theorem jwr_j {σ0 : JM} {f : JM → Int × JM} (m : Int) (hf : ∀ ρ, jkp σ0 ρ → jwi ρ → ρ 7 17 ≤ 9 * ρ 7 18 → jwo σ0 (jset ρ 7 17 (ρ 7 17 + 1)) (f ρ) ∨ jwo σ0 ρ (f ρ)) (hj : ∀ ρ, jkp σ0 ρ → jwi ρ → ρ 7 17 ≤ 9 * ρ 7 18 → m ≤ ρ 7 17 → jit σ0 ρ → jit σ0 (f ρ).2) : ∀ (r : Nat) (σ : JM), jkp σ0 σ → jwi σ → σ 7 17 + r ≤ 9 * σ 7 18 + 1 → m ≤ σ 7 17 → jit σ0 σ → jit σ0 (jwr f r σ).2 := by
  intro r
  induction r with
  | zero => intro σ k i b hm h; exact h
  | succ r ih =>
    intro σ k i b hm h
    rw [jwr_s]
    have g : jkp σ0 (f σ).2 ∧ jwi (f σ).2 ∧ (f σ).2 7 17 - 9 * (f σ).2 7 18 ≤ σ 7 17 + 1 - 9 * σ 7 18 ∧ σ 7 17 ≤ (f σ).2 7 17 := by
      rcases hf σ k i (by omega) with ⟨g1, g2, g3, g4, g5, g6, g7⟩ | ⟨g1, g2, g3, g4, g5, g6, g7⟩
      · have e1 : jset σ 7 17 (σ 7 17 + 1) 7 17 = σ 7 17 + 1 := rfl
        have e2 : jset σ 7 17 (σ 7 17 + 1) 7 18 = σ 7 18 := rfl
        rw [e1, e2] at g3; rw [e1] at g6
        exact ⟨g1, g2, by omega, by omega⟩
      · exact ⟨g1, g2, by omega, by omega⟩
    have j := hj σ k i (by omega) hm h
    split
    · exact j
    · exact ih _ g.1 g.2.1 (by omega) (by omega) j
theorem jwB_o {σ0 : JM} (hw : jwf σ0) {n : Nat} {σ : JM} {x sc p ps q qs d : Int} (k38 : σ 38 x = σ0 38 x) (c : jwc σ0 (x + 1) (σ0 38 x) p q d) (g : jW σ0 (x + 1) (σ0 38 x)) : ∀ ρ, jkp σ0 ρ → jwi ρ → ρ 7 17 ≤ 9 * ρ 7 18 → jwo σ0 (jset ρ 7 17 (ρ 7 17 + 1)) (jwB n σ x sc p ps q qs d ρ) ∨ jwo σ0 ρ (jwB n σ x sc p ps q qs d ρ) := by
  intro ρ kρ iρ bρ
  unfold jwB
  rw [k38]
  split
  · exact Or.inr (jwk_o hw _ _ _ _ _ _ _ _ _ _ kρ iρ c g)
  · obtain ⟨j5, j6, j7⟩ := iρ
    have m := jnsc_7 ρ sc
    refine Or.inl (jwo.tr (τ := jnsc ρ sc) (Int.le_refl _) (Int.le_refl _) (Int.le_refl _) (Int.le_refl _) (jwk_o hw _ _ _ _ _ _ _ _ _ _ (kρ.nsc _) ⟨by omega, by omega, by omega⟩ c g))
theorem jwk_j {σ0 : JM} (hw : jwf σ0) : ∀ (n : Nat) (σ : JM) (x to sc p ps q qs d : Int), jkp σ0 σ → jwi σ → jwc σ0 x to p q d → jW σ0 x to → (0 ≤ sc ∧ sc < σ 7 17) → (0 ≤ ps ∧ ps < σ 7 17) → (0 ≤ qs ∧ qs < σ 7 17) → jit σ0 σ → jit σ0 (jwk n σ x to sc p ps q qs d).2 := by
  intro n
  induction n with
  | zero => intro σ x to sc p ps q qs d k i c w s1 s2 s3 hj; exact hj
  | succ n ih =>
    intro σ x to sc p ps q qs d k i c w s1 s2 s3 hj
    by_cases h : to ≤ x
    · rw [jwk_0 h]; exact hj
    have h : x < to := by omega
    have k34 : σ 34 x = σ0 34 x := k 34 x (by omega) (by omega) (by omega)
    have k35 : σ 35 x = σ0 35 x := k 35 x (by omega) (by omega) (by omega)
    have k36 : σ 36 x = σ0 36 x := k 36 x (by omega) (by omega) (by omega)
    have k37 : σ 37 x = σ0 37 x := k 37 x (by omega) (by omega) (by omega)
    have k38 : σ 38 x = σ0 38 x := k 38 x (by omega) (by omega) (by omega)
    have o1 := hw.one x c.1 (by omega)
    have o2 := hw.two x c.1 (by omega)
    have so := hw.so x c.1 (by omega)
    have ncl := w.ncl h
    have ab := jrga_b ⟨o1.1, o1.2.1⟩ c.2.2.2.1 c.2.2.2.2.1
    have bb := jrga_b o2 c.2.2.2.1 c.2.2.2.2.1
    by_cases h1 : σ 34 x = 11
    · rw [jwk_m h h1]
      have g := jW.inn hw c.1 c.2.2.1 w (Int.le_refl _) h (by omega)
      rw [k38]
      exact ih _ _ _ _ _ _ _ _ _ k i (by omega) (jW.nxt hw c.1 c.2.2.1 w h (by omega)) s1 s2 s3 hj
    by_cases h2 : jwFa σ x p q
    · rw [jwk_a h h1 h2]; exact hj
    by_cases h3 : jwFd σ x sc p ps q qs
    · rw [jwk_d h h1 h2 h3]; exact hj
    by_cases h4 : jwFf σ x
    · rw [jwk_f h h1 h2 h3 h4]; exact hj
    have i3 : σ 7 18 < 1000 := by
      have := i.2.2
      by_cases e : σ 7 18 = 1000
      · exact absurd (Or.inl e) h4
      · omega
    have as := jrga_s (v := σ 35 x) s2 s3 s1
    have bs := jrga_s (v := σ 36 x) s2 s3 s1
    have ia := i
    obtain ⟨i5, i6, i7⟩ := i
    by_cases h5 : σ 34 x < 6
    · rw [jwk_i h h2 h3 h4 h5]
      have i4 : σ 7 16 < 200 := by
        by_cases e : σ 7 16 = 200
        · exact absurd (Or.inr ⟨h5, e⟩) h4
        · omega
      have m := jmk_7 (jw1 σ) x (jwa σ x p q) (jrga (σ 35 x) ps qs sc) d
      rw [(jw1_7 σ).1, (jw1_7 σ).2.1, (jw1_7 σ).2.2] at m
      have hj2 : jit σ0 (jmk (jw1 σ) x (jwa σ x p q) (jrga (σ 35 x) ps qs sc) d) := by
        refine jit.mk (σ := jw1 σ) hj (show 0 ≤ σ 7 16 by omega) ⟨c.1, by omega⟩ k34 h5 ?_ (fun e => ?_) as
        · show 0 ≤ jwa σ x p q ∧ jwa σ x p q ≤ 999
          unfold jwa; rw [k35]; exact ab
        · have e : σ0 34 x = 5 := k34.symm.trans e
          have := hw.al5 x c.1 (by omega) e
          unfold jwa jrga
          rw [k35, if_neg (by omega), if_neg (by omega)]
          omega
      exact ih _ _ _ _ _ _ _ _ _ (k.w1.mk _ _ _ _) ⟨by omega, by omega, by omega⟩ (by omega) (w.suc (by omega)) (by omega) (by omega) (by omega) hj2
    by_cases h6 : σ 34 x = 6
    · rw [jwk_c h h2 h4 h6]
      have ca := hw.ca x c.1 (by omega) (by omega)
      have mm := hw.mm (σ0 37 x) ca.1 ca.2.1
      have m := jnsc_7 (jw1 σ) 0
      rw [(jw1_7 σ).1, (jw1_7 σ).2.1, (jw1_7 σ).2.2] at m
      have f40 : σ 40 (σ 37 x) = σ0 40 (σ0 37 x) := by rw [k 40 _ (by omega) (by omega) (by omega), k37]
      have f41 : σ 41 (σ 37 x) = σ0 41 (σ0 37 x) := by rw [k 41 _ (by omega) (by omega) (by omega), k37]
      have cI : jwi (jnsc (jw1 σ) 0) := ⟨by omega, by omega, by omega⟩
      have cW : jW σ0 (σ 40 (σ 37 x) + 1) (σ 41 (σ 37 x)) := by rw [f40, f41]; exact jW.mac hw ca.1 ca.2.1
      have cC : jwc σ0 (σ 40 (σ 37 x) + 1) (σ 41 (σ 37 x)) (jwa σ x p q) (jwb σ x p q) (d + 1) := ⟨by omega, by omega, by omega, by unfold jwa; rw [k35]; exact ab, by unfold jwb; rw [k36]; exact bb, by omega, by omega⟩
      have g : jwo σ0 σ (jwC n σ x sc p ps q qs d) := jwo.tr (τ := jnsc (jw1 σ) 0) (by omega) (by omega) (by omega) (by omega) (jwk_o hw _ _ _ _ _ _ _ _ _ _ (k.w1.nsc _) cI cC cW)
      have jj : jit σ0 (jwC n σ x sc p ps q qs d).2 := ih _ _ _ _ _ _ _ _ _ (k.w1.nsc _) cI cC cW (by omega) (by omega) (by omega) (jit.nsc (σ := jw1 σ) hj (show 0 ≤ σ 7 17 by omega) (show -1 ≤ (0 : Int) ∧ 0 < σ 7 17 by omega))
      generalize jwC n σ x sc p ps q qs d = r at g jj
      have g6 := g.2.2.2.2.2.1
      split
      · exact jj
      · exact ih _ _ _ _ _ _ _ _ _ g.1 g.2.1 (by omega) (w.suc (by omega)) (by omega) (by omega) (by omega) jj
    · have h7 : 7 ≤ σ 34 x := by omega
      rw [jwk_g h h1 h2 h4 h7]
      have op : jop (σ0 34 x) := by omega
      have g := jW.inn hw c.1 c.2.2.1 w (Int.le_refl _) h op
      have r9 := jrnd9 hw (p := p) (q := q) ⟨c.1, by omega⟩ c.2.2.2.1 c.2.2.2.2.1 (by unfold jwFa jwa; rw [← k35, ← k34]; exact h2)
      have eb : jrds (σ 34 x) (jwa σ x p q) (jwb σ x p q) = jrds (σ0 34 x) (jwa σ0 x p q) (jwb σ0 x p q) := by unfold jwa jwb; rw [k34, k35, k36]
      rw [← eb] at r9
      have m := jw1_7 σ
      have bo := jwB_o hw (n := n) (sc := sc) (ps := ps) (qs := qs) (p := p) (q := q) (d := d) k38 (by omega) g.1
      have z := jwr_o bo (jrds (σ 34 x) (jwa σ x p q) (jwb σ x p q)).toNat (jw1 σ) k.w1 ⟨by omega, by omega, by omega⟩ (by omega)
      have jj := jwr_j (σ 7 17) bo (fun ρ kρ iρ bρ mρ hρ => by
        unfold jwB
        rw [k38]
        split
        · exact ih _ _ _ _ _ _ _ _ _ kρ iρ (by omega) g.1 (by omega) (by omega) (by omega) hρ
        · obtain ⟨j5, j6, j7⟩ := iρ
          have m := jnsc_7 ρ sc
          exact ih _ _ _ _ _ _ _ _ _ (kρ.nsc _) ⟨by omega, by omega, by omega⟩ (by omega) g.1 (by omega) (by omega) (by omega) (hρ.nsc (by omega) (by omega))) (jrds (σ 34 x) (jwa σ x p q) (jwb σ x p q)).toNat (jw1 σ) k.w1 ⟨by omega, by omega, by omega⟩ (by omega) (by omega) hj
      have g' : jwo σ0 σ (jwG n σ x sc p ps q qs d) := ⟨z.1, z.2.1, by unfold jwG; omega, z.2.2.2.1, by unfold jwG; omega, by unfold jwG; omega, by unfold jwG; omega⟩
      have jj : jit σ0 (jwG n σ x sc p ps q qs d).2 := jj
      generalize jwG n σ x sc p ps q qs d = r at g' jj
      have g6 := g'.2.2.2.2.2.1
      split
      · exact jj
      · rw [k38]
        exact ih _ _ _ _ _ _ _ _ _ g'.1 g'.2.1 (by omega) (jW.nxt hw c.1 c.2.2.1 w h op) (by omega) (by omega) (by omega) jj


def jmp (τ : JM) (w v m : Int) : JM := jset (jset τ 51 w v) 52 w m
/-- so far written: the words below w, and those from w + n up to w + z -/
def jMd (σ τ : JM) (F G : Int → Int) (w n z : Int) : Prop := (∀ a b, a ≠ 51 → a ≠ 52 → τ a b = σ a b) ∧ ∀ b, ((0 ≤ b ∧ b < w) ∨ (w + n ≤ b ∧ b < w + z)) → τ 51 b = F b ∧ τ 52 b = G b
abbrev jMb (σ τ : JM) (F G : Int → Int) (w : Int) : Prop := jMd σ τ F G w 0 0
theorem jMd_put {σ τ : JM} {F G : Int → Int} {w n z v m : Int} (h : jMd σ τ F G w n z) (hF : F (w + n - 1) = v) (hG : G (w + n - 1) = m) : jMd σ (jmp τ (w + n - 1) v m) F G w (n - 1) z := by
  refine ⟨fun a b n1 n2 => ?_, fun b hb => ?_⟩
  · unfold jmp
    rw [jset_nk _ n2, jset_nk _ n1]
    exact h.1 a b n1 n2
  · unfold jmp
    by_cases e : b = w + n - 1
    · subst e; exact ⟨by rw [jset_nk _ (by decide), jset_eq, hF], by rw [jset_eq, hG]⟩
    · have := h.2 b (by omega)
      exact ⟨by rw [jset_nk _ (by decide), jset_nj _ e]; exact this.1, by rw [jset_nj _ e, jset_nk _ (by decide)]; exact this.2⟩
theorem jMb_put {σ τ : JM} {F G : Int → Int} {w v m : Int} (h : jMb σ τ F G w) (hF : F w = v) (hG : G w = m) : jMb σ (jmp τ w v m) F G (w + 1) := by
  refine ⟨fun a b n1 n2 => ?_, fun b hb => ?_⟩
  · unfold jmp
    rw [jset_nk _ n2, jset_nk _ n1]
    exact h.1 a b n1 n2
  · unfold jmp
    by_cases e : b = w
    · subst e; exact ⟨by rw [jset_nk _ (by decide), jset_eq, hF], by rw [jset_eq, hG]⟩
    · have := h.2 b (by omega)
      exact ⟨by rw [jset_nk _ (by decide), jset_nj _ e]; exact this.1, by rw [jset_nj _ e, jset_nk _ (by decide)]; exact this.2⟩
theorem jMd_full {σ τ : JM} {F G : Int → Int} {w z : Int} (h0 : 0 ≤ w) (hz : 0 ≤ z) (h : jMd σ τ F G w 0 z) : jMb σ τ F G (w + z) := ⟨h.1, fun b hb => h.2 b (by omega)⟩
theorem jMd_none {σ τ : JM} {F G : Int → Int} {w : Int} (z : Int) (h : jMb σ τ F G w) : jMd σ τ F G w z z := ⟨h.1, fun b hb => h.2 b (by omega)⟩
def jmLok (σ : JM) : Prop := jlok (jmK σ) (jmV σ) (σ 49) (σ 7 16) ∧ (∀ i, 0 ≤ i → i < σ 7 16 → (0 ≤ σ 44 i ∧ σ 44 i ≤ 5) ∧ (0 ≤ σ 43 i ∧ σ 43 i < 80) ∧ (0 ≤ σ 45 i ∧ σ 45 i ≤ 999) ∧ (σ 44 i = 5 → 2 ≤ σ 45 i ∧ σ 45 i ≤ 8) ∧ (σ 44 i = 2 → 0 ≤ σ 36 (σ 43 i) ∧ σ 36 (σ 43 i) ≤ 99)) ∧ ∀ i, 0 ≤ i → i < σ 7 16 → σ 48 i = jad (jmK σ) (jmV σ) i

theorem jkof_106 {s g : Int} (h : 0 ≤ s ∧ s ≤ 5) : jkof s g = 106 ↔ s = 3 ∧ g = 0 := by
  unfold jkof
  have : s = 0 ∨ s = 1 ∨ s = 2 ∨ s = 3 ∨ s = 4 ∨ s = 5 := by omega
  rcases this with h | h | h | h | h | h <;> subst h <;> simp
abbrev jmT (σ : JM) : Prop := ∀ i, 0 ≤ i → i < σ 7 16 → σ 44 i = 3 → 0 ≤ σ 49 i ∧ σ 49 i < σ 7 16
theorem jmPl_48 (σ : JM) {i : Int} (h0 : 0 ≤ i) (h1 : i < σ 7 16) : jmPl σ 48 i = jad (jmK σ) (jmV σ) i := by
  unfold jmPl; rw [jset_nk _ (by decide), jfill_in σ 48 h0 h1]
theorem jmPl_ne (σ : JM) {a : Nat} {b : Int} (h1 : a ≠ 48) (h2 : ¬ (a = 7 ∧ b = 19)) : jmPl σ a b = σ a b := by
  unfold jmPl; rw [jset_ne _ h2, jfill_ne σ h1]
theorem jmfr_iff {σ : JM} (h : jmok σ) (hT : jmT σ) {i : Int} (h0 : 0 ≤ i) (h1 : i < σ 7 16) : jmfr (jmPl σ) i ↔ jfr (σ 49) (jmV σ) (σ 7 16) (jmK σ) i := by
  have e44 : jmPl σ 44 i = σ 44 i := jmPl_ne σ (by decide) (by omega)
  have e50 : jmPl σ 50 i = σ 50 i := jmPl_ne σ (by decide) (by omega)
  have e49 : jmPl σ 49 i = σ 49 i := jmPl_ne σ (by decide) (by omega)
  have k := jkof_106 (g := σ 50 i) (h.2 i h0 h1).1
  unfold jmfr jfr
  rw [e44, e50]
  constructor
  · rintro ⟨a, b, c⟩
    refine ⟨⟨h0, h1⟩, k.mpr ⟨a, b⟩, ?_⟩
    have t := hT i h0 h1 a
    unfold jmds at c
    rw [e49, jmPl_48 σ h0 h1, jmPl_48 σ t.1 t.2] at c
    exact c
  · rintro ⟨-, b, c⟩
    have b := k.mp b
    refine ⟨b.1, b.2, ?_⟩
    have t := hT i h0 h1 b.1
    unfold jmds
    rw [e49, jmPl_48 σ h0 h1, jmPl_48 σ t.1 t.2]
    exact c
theorem jmLn_ne (σ : JM) {a : Nat} {b : Int} (h1 : a ≠ 48) (h2 : a ≠ 50) (h3 : ¬ (a = 7 ∧ b = 19)) : jmLn σ a b = σ a b := by
  unfold jmLn; rw [jfill_ne _ h2, jmPl_ne σ h1 h3]
theorem jmLn_a (σ : JM) {i : Int} (h0 : 0 ≤ i) (h1 : i < σ 7 16) : jmLn σ 48 i = jad (jmK σ) (jmV σ) i := by
  unfold jmLn; rw [jfill_ne _ (by decide), jmPl_48 σ h0 h1]
theorem jmLn_w (σ : JM) : jmLn σ 7 19 = jad (jmK σ) (jmV σ) (σ 7 16) := by
  unfold jmLn; rw [jfill_ne _ (by decide)]; unfold jmPl; rw [jset_eq]
theorem jmLn_K {σ : JM} (h : jmok σ) (hT : jmT σ) : jmK (jmLn σ) = jnK (σ 49) (jmV σ) (σ 7 16) (jmK σ) := by
  funext i
  have e44 : jmLn σ 44 i = σ 44 i := jmLn_ne σ (by decide) (by decide) (by omega)
  by_cases c : 0 ≤ i ∧ i < σ 7 16
  · have e50 : jmLn σ 50 i = jmL (jmPl σ) i := by unfold jmLn; rw [jfill_in _ 50 c.1 c.2]
    have k := jmfr_iff h hT c.1 c.2
    unfold jnK
    show jkof (jmLn σ 44 i) (jmLn σ 50 i) = _
    rw [e44, e50]
    by_cases f : jmfr (jmPl σ) i
    · rw [if_pos (k.mp f)]
      unfold jmL
      rw [if_pos f]
      have := f.1
      rw [jmPl_ne σ (by decide) (by omega)] at this
      rw [this]
      rfl
    · rw [if_neg (fun z => f (k.mpr z))]
      unfold jmL
      rw [if_neg f, jmPl_ne σ (by decide) (by omega)]
      rfl
  · have e50 : jmLn σ 50 i = σ 50 i := by unfold jmLn; rw [jfill_out _ 50 c, jmPl_ne σ (by decide) (by omega)]
    unfold jnK
    show jkof (jmLn σ 44 i) (jmLn σ 50 i) = _
    rw [e44, e50, if_neg (fun z => c z.1)]
    rfl
theorem jmLn_c {σ : JM} (h : jmok σ) (hT : jmT σ) : jsum (jmg (jmPl σ)) (σ 7 16) = jnc (σ 49) (jmV σ) (σ 7 16) (jmK σ) := by
  unfold jnc
  apply jsum_c
  intro i h0 h1
  unfold jmg
  have k := jmfr_iff h hT h0 h1
  by_cases f : jmfr (jmPl σ) i
  · rw [if_pos f, if_pos (k.mp f)]
  · rw [if_neg f, if_neg (fun z => f (k.mpr z))]
/-- the start of the assembling -/
def jm0 (σ : JM) : JM := jset (jset (jset (jset (jset (jset (jset (jset σ 7 0 0) 7 13 1) 7 14 110) 7 16 0) 7 17 0) 7 18 0) 7 20 0) 7 19 0
abbrev jbad (σ : JM) : Prop := σ 7 4 ≠ 0 ∨ σ 7 3 ≠ -1
def jmBl (σ : JM) : Int := if 0 < σ 7 4 then σ 39 (σ 7 4 - 1) else σ 40 (σ 7 3)
def jmW (σ : JM) : Int × JM := jwk 7000 (jnsc (jm0 σ) (-1)) 0 (σ 7 1) 0 0 0 0 0 0
def jmF (σ : JM) : Int × JM := jaf (jmW σ).2 ((jmW σ).2 7 16).toNat
/-- how the placed and written memory t stands to the memory ρ of the found targets -/
def jmEd (ρ t : JM) : Prop := (∀ a b, a ≠ 48 → a ≠ 50 → a ≠ 51 → a ≠ 52 → ¬ (a = 7 ∧ (b = 19 ∨ b = 20)) → t a b = ρ a b) ∧ jmK t = jplK (ρ 49) (jmV ρ) (ρ 7 16) 201 (jmK ρ) ∧ t 7 20 = jplP (ρ 49) (jmV ρ) (ρ 7 16) 201 (jmK ρ) ∧ t 7 19 = jad (jmK t) (jmV ρ) (ρ 7 16) ∧ (∀ i, 0 ≤ i → i < ρ 7 16 → t 48 i = jad (jmK t) (jmV ρ) i) ∧ ∀ b, 0 ≤ b → b < jad (jmK t) (jmV ρ) (ρ 7 16) → t 51 b = jFN (jmK t) (jmV ρ) (ρ 49) (ρ 7 16).toNat b ∧ t 52 b = jGN (jmK t) (jmV ρ) (ρ 7 16).toNat b
/-- what the reference's assembling answers and leaves -/
def jmAs (σ : JM) (v : Option JV) (t : JM) : Prop :=
  (jbad σ ∧ v = some (0, -1) ∧ t = jstp (jm0 σ) 98 (jmBl σ)) ∨
  (¬ jbad σ ∧ (jmW σ).1 = 0 ∧ v = some (0, -1) ∧ t = (jmW σ).2) ∨
  (¬ jbad σ ∧ (jmW σ).1 = 1 ∧ (jmF σ).1 = 0 ∧ v = some (0, -1) ∧ t = (jmF σ).2) ∨
  (¬ jbad σ ∧ (jmW σ).1 = 1 ∧ (jmF σ).1 = 1 ∧ v = some (0, t 7 19) ∧ jmEd (jmF σ).2 t)
/-- what the walk's memory is, for the next steps -/
theorem jm0_kp (σ : JM) : ∀ a b, ¬ (a = 7 ∧ (b = 0 ∨ (13 ≤ b ∧ b ≤ 20))) → jm0 σ a b = σ a b := fun a b h => by
  unfold jm0
  rw [jset_ne _ (by omega), jset_ne _ (by omega), jset_ne _ (by omega), jset_ne _ (by omega), jset_ne _ (by omega), jset_ne _ (by omega), jset_ne _ (by omega), jset_ne _ (by omega)]
theorem jwf.c {σ τ : JM} (h : jwf σ) (e : ∀ a b, ((a = 7 ∧ (b = 1 ∨ b = 2)) ∨ (34 ≤ a ∧ a ≤ 41)) → τ a b = σ a b) : jwf τ := by
  have r : ∀ a : Nat, 34 ≤ a → a ≤ 41 → τ a = σ a := fun a a0 a1 => funext fun b => e a b (Or.inr ⟨a0, a1⟩)
  unfold jwf jW at h ⊢
  rw [e 7 1 (by omega), e 7 2 (by omega), r 34 (by decide) (by decide), r 35 (by decide) (by decide), r 36 (by decide) (by decide), r 37 (by decide) (by decide), r 38 (by decide) (by decide), r 40 (by decide) (by decide), r 41 (by decide) (by decide)]
  exact h
theorem jm0_7 (σ : JM) : jm0 σ 7 16 = 0 ∧ jm0 σ 7 17 = 0 ∧ jm0 σ 7 18 = 0 ∧ jm0 σ 7 1 = σ 7 1 := ⟨rfl, rfl, rfl, rfl⟩
theorem jmW_pre {σ : JM} (hw : jwf σ) : jwf (jm0 σ) ∧ jkp (jm0 σ) (jnsc (jm0 σ) (-1)) ∧ jwi (jnsc (jm0 σ) (-1)) ∧ jwc (jm0 σ) 0 (σ 7 1) 0 0 0 ∧ jW (jm0 σ) 0 (σ 7 1) ∧ jnsc (jm0 σ) (-1) 7 17 = 1 ∧ jit (jm0 σ) (jnsc (jm0 σ) (-1)) := by
  have w0 : jwf (jm0 σ) := hw.c (fun a b h => jm0_kp σ a b (by omega))
  have m := jnsc_7 (jm0 σ) (-1)
  have m0 := jm0_7 σ
  have ln := hw.ln
  refine ⟨w0, (jkp.rfl _).nsc _, ⟨by omega, by omega, by omega⟩, ⟨by omega, by omega, by omega, by omega, by omega, by omega, by omega⟩, ?_, by omega, jit.nsc ⟨fun s s0 s1 => by omega, fun i i0 i1 => by omega⟩ (by omega) (by omega)⟩
  have := w0.al
  rw [m0.2.2.2] at this
  exact this
theorem jmW_o {σ : JM} (hw : jwf σ) : jwo (jm0 σ) (jnsc (jm0 σ) (-1)) (jmW σ) ∧ jit (jm0 σ) (jmW σ).2 := by
  obtain ⟨w0, k, i, c, w, e, j⟩ := jmW_pre hw
  exact ⟨jwk_o w0 _ _ _ _ _ _ _ _ _ _ k i c w, jwk_j w0 _ _ _ _ _ _ _ _ _ _ k i c w (by omega) (by omega) (by omega) j⟩
theorem jfd_r {σ : JM} (a : Int) : ∀ (f : Nat) (s : Int), jfdN σ a f s = -1 ∨ (0 ≤ jfdN σ a f s ∧ jfdN σ a f s < σ 7 16) := by
  intro f
  induction f with
  | zero => intro s; exact Or.inl rfl
  | succ f ih =>
    intro s
    unfold jfdN
    split
    · exact Or.inl rfl
    · split
      · rcases jfs_cases (P := jdp σ a s) (σ 7 16) with z | z
        · exact Or.inl z.1
        · exact Or.inr ⟨z.1, z.2.1⟩
      · exact ih _
theorem jaf_b (σ : JM) : ∀ n : Nat, (jaf σ n).1 = 0 ∨ (jaf σ n).1 = 1 := by
  intro n
  induction n with
  | zero => exact Or.inr rfl
  | succ n ih => unfold jaf; split; exact ih; split; split; exact Or.inl rfl; exact Or.inr rfl; exact ih
theorem jaf_t (σ : JM) : ∀ n : Nat, (jaf σ n).1 = 1 → ∀ i : Int, 0 ≤ i → i < n → (σ 44 i = 3 ∨ σ 44 i = 4) → (jaf σ n).2 49 i = jfd σ i ∧ jfd σ i ≠ -1 := by
  intro n
  induction n with
  | zero => intro _ i h0 h1; omega
  | succ n ih =>
    intro h1 i i0 i1 hi
    unfold jaf at h1 ⊢
    by_cases c : (jaf σ n).1 = 0
    · rw [if_pos c] at h1; rw [c] at h1; exact absurd h1 (by decide)
    · rw [if_neg c] at h1 ⊢
      have c1 : (jaf σ n).1 = 1 := (jaf_b σ n).resolve_left c
      by_cases q : σ 44 n = 3 ∨ σ 44 n = 4
      · rw [if_pos q] at h1 ⊢
        by_cases z : jfd σ n = -1
        · rw [if_pos z] at h1; exact absurd h1 (show ¬ (0 : Int) = 1 by decide)
        · rw [if_neg z]
          show jset (jaf σ n).2 49 n (jfd σ n) 49 i = _ ∧ _
          by_cases e : i = n
          · rw [e, jset_eq]; exact ⟨rfl, z⟩
          · rw [jset_nj _ e]; exact ih c1 i i0 (by omega) hi
      · rw [if_neg q]
        by_cases e : i = n
        · rw [e] at hi; exact absurd hi q
        · exact ih c1 i i0 (by omega) hi
/-- what the found targets' memory is good for -/
theorem jmF_ok {σ : JM} (hw : jwf σ) (h1 : (jmF σ).1 = 1) : jmok (jmF σ).2 ∧ (∀ i, 0 ≤ i → i < (jmF σ).2 7 16 → ((jmF σ).2 44 i = 3 ∨ (jmF σ).2 44 i = 4) → 0 ≤ (jmF σ).2 49 i ∧ (jmF σ).2 49 i < (jmF σ).2 7 16) ∧ (∀ i, 0 ≤ i → i < (jmF σ).2 7 16 → (jmF σ).2 50 i = 0) := by
  obtain ⟨⟨k, i, -⟩, j⟩ := jmW_o hw
  have w0 := (jmW_pre hw).1
  have ln := w0.ln
  have fr := fun {a : Nat} {b : Int} => @jaf_ne (jmW σ).2 ((jmW σ).2 7 16).toNat a b
  have e16 : (jmF σ).2 7 16 = (jmW σ).2 7 16 := fr (by decide) (by omega)
  have i0 := i.1
  refine ⟨⟨by omega, fun x x0 x1 => ?_⟩, fun x x0 x1 hx => ?_, fun x x0 x1 => ?_⟩
  · rw [e16] at x1
    obtain ⟨a1, a2, a3, a4, a5, a6, a7⟩ := j.2 x x0 x1
    have so := w0.so _ a1.1 a1.2
    have o2 := w0.op2 _ a1.1 a1.2
    rw [show (jmF σ).2 44 x = (jmW σ).2 44 x from fr (by decide) (by omega), show (jmF σ).2 45 x = (jmW σ).2 45 x from fr (by decide) (by omega), show (jmF σ).2 43 x = (jmW σ).2 43 x from fr (by decide) (by omega), show (jmF σ).2 36 ((jmW σ).2 43 x) = (jmW σ).2 36 ((jmW σ).2 43 x) from fr (by decide) (by omega), k 36 _ (by omega) (by omega) (by omega)]
    exact ⟨by omega, fun q => by have := a5 q; omega, a4, by omega, fun q => o2 (by omega)⟩
  · rw [e16] at x1 ⊢
    rw [show (jmF σ).2 44 x = (jmW σ).2 44 x from fr (by decide) (by omega)] at hx
    have z := jaf_t (jmW σ).2 ((jmW σ).2 7 16).toNat h1 x x0 (by omega) hx
    have r := jfd_r (σ := (jmW σ).2) ((jmW σ).2 45 x) (((jmW σ).2 46 x).toNat + 2) ((jmW σ).2 46 x)
    have z1 : (jmF σ).2 49 x = jfd (jmW σ).2 x := z.1
    rw [z1]
    exact r.resolve_left z.2
  · rw [e16] at x1
    rw [show (jmF σ).2 50 x = (jmW σ).2 50 x from fr (by decide) (by omega)]
    exact (j.2 x x0 x1).2.2.2.2.2.2

theorem jmLok_of {σ : JM} (h : jmok σ) (hT : ∀ i, 0 ≤ i → i < σ 7 16 → (σ 44 i = 3 ∨ σ 44 i = 4) → 0 ≤ σ 49 i ∧ σ 49 i < σ 7 16) (hA : ∀ i, 0 ≤ i → i < σ 7 16 → σ 48 i = jad (jmK σ) (jmV σ) i) : jmLok σ := by
  refine ⟨⟨h.1.1, h.1.2, fun i i0 i1 => ?_⟩, fun i i0 i1 => ?_, hA⟩
  · obtain ⟨a, b, c, d, e⟩ := h.2 i i0 i1
    refine ⟨jmsz h i i0 i1, fun q => hT i i0 i1 ?_, ?_, ?_⟩
    · unfold jmK jkof at q
      have : σ 44 i = 0 ∨ σ 44 i = 1 ∨ σ 44 i = 2 ∨ σ 44 i = 3 ∨ σ 44 i = 4 ∨ σ 44 i = 5 := by omega
      rcases this with z | z | z | z | z | z <;> rw [z] at q ⊢ <;> simp at q ⊢
    · unfold jmK jkof
      have : σ 44 i = 0 ∨ σ 44 i = 1 ∨ σ 44 i = 2 ∨ σ 44 i = 3 ∨ σ 44 i = 4 ∨ σ 44 i = 5 := by omega
      rcases this with z | z | z | z | z | z <;> rw [z] <;> simp
      by_cases g : σ 50 i = 0 <;> simp [g]
    · unfold jmV
      split
      · have := e (by assumption); omega
      · omega
  · obtain ⟨a, b, c, d, e⟩ := h.2 i i0 i1
    exact ⟨a, d, c, fun q => by have := b q; omega, e⟩
/-- the rows that kinds and values are made of -/
theorem jmK_c {σ τ : JM} (h1 : ∀ b, τ 44 b = σ 44 b) (h2 : ∀ b, τ 50 b = σ 50 b) : jmK τ = jmK σ := funext fun i => by unfold jmK; rw [h1, h2]
theorem jmV_c {σ τ : JM} (h1 : ∀ b, τ 44 b = σ 44 b) (h2 : ∀ b, τ 36 b = σ 36 b) (h3 : ∀ b, τ 43 b = σ 43 b) (h4 : ∀ b, τ 45 b = σ 45 b) : jmV τ = jmV σ := funext fun i => by unfold jmV; rw [h1, h2, h3, h4]
theorem jmok_c {σ τ : JM} (h : ∀ a b, (a = 44 ∨ a = 45 ∨ a = 43 ∨ a = 36 ∨ (a = 7 ∧ b = 16)) → τ a b = σ a b) (q : jmok σ) : jmok τ := by
  unfold jmok at q ⊢
  rw [h 7 16 (by omega), show τ 44 = σ 44 from funext fun b => h 44 b (by omega), show τ 45 = σ 45 from funext fun b => h 45 b (by omega), show τ 43 = σ 43 from funext fun b => h 43 b (by omega), show τ 36 = σ 36 from funext fun b => h 36 b (by omega)]
  exact q
def jmAE (ρ : JM) (v : Option JV) (t : JM) : Prop := v = some (0, t 7 19) ∧ jmEd ρ t
theorem V.monoR {l : Launch} {E : JE} {i : JI} {d n : Nat} {Qr Qr' : Option JV → JM → Prop} {Qx : String → JM → Prop} {pc : Nat} {L st : List JV} {σ : JM} (h : V l E i d n Qr Qx pc L st σ) (k : ∀ v t, Qr v t → Qr' v t) : V l E i d n Qr' Qx pc L st σ := fun p e R s m args below meth c A cm sm Z hF hX hZ => h p e R s m args below meth c A cm sm Z hF hX ⟨fun H locs cells slots σ v pc ls q1 q2 q3 q4 q5 q6 => hZ.1 H locs cells slots σ v pc ls q1 q2 q3 q4 q5 (k v σ q6), hZ.2⟩
/-- the questions leave the memory but for the code -/
def jq (σ : JM) (c : Int) : JM := jset σ 7 0 c
theorem jq_q (σ : JM) (a b : Int) : jq (jq σ a) b = jq σ b := by
  funext k j
  unfold jq
  by_cases e : k = 7 ∧ j = 0
  · obtain ⟨e1, e2⟩ := e; subst e1; subst e2; rw [jset_eq, jset_eq]
  · rw [jset_ne _ e, jset_ne _ e, jset_ne _ e]
abbrev jth (σ : JM) : Prop := σ 7 13 ≠ 0 ∧ σ 7 14 = 110
def jcT (σ : JM) : Int := if jth σ then 0 else 1
def jcF (σ : JM) : Int := if σ 7 13 ≠ 0 then 0 else 1
def jcFl (σ : JM) : Int := if σ 7 13 ≠ 0 ∧ σ 7 14 ≠ 110 then 0 else 1
def jcI (σ : JM) (N x : Int) : Int := if jcT σ ≠ 0 then jcT σ else if 0 ≤ x ∧ x ≤ N - 1 then 0 else 2
theorem jcI_1 {σ : JM} {N x : Int} (h : jcI σ N x = 0) : jcT σ = 0 ∧ 0 ≤ x ∧ x < N := by
  unfold jcI at h
  by_cases c : jcT σ = 0
  · rw [if_neg (by omega)] at h
    by_cases q : 0 ≤ x ∧ x ≤ N - 1
    · exact ⟨c, q.1, by omega⟩
    · rw [if_neg q] at h; exact absurd h (by decide)
  · rw [if_pos c] at h; exact absurd h c
def jcN (σ : JM) (x : Int) : Int := if jcI σ (σ 7 16) x ≠ 0 then jcI σ (σ 7 16) x else if σ 44 x = 3 ∨ σ 44 x = 4 then 0 else 3
def jcW (σ : JM) (x b : Int) : Int := if jcI σ (σ 7 19) x ≠ 0 then jcI σ (σ 7 19) x else if 0 ≤ b ∧ b ≤ 9999 then 0 else 3
abbrev jju (σ : JM) (b i : Int) : Int := if σ 44 i = 3 ∧ σ 50 i = b then 1 else 0
theorem jju_b {σ : JM} {b : Int} : ∀ i, 0 ≤ jju σ b i ∧ jju σ b i ≤ 1 := fun i => by show 0 ≤ (if _ then (1 : Int) else 0) ∧ (if _ then (1 : Int) else 0) ≤ 1; split <;> omega
theorem jju_q (σ : JM) (c b : Int) : jju (jq σ c) b = jju σ b := rfl
abbrev jrel (σ : JM) (i : Int) : Int := if σ 52 i = 0 then 0 else 1
abbrev jlp (σ : JM) (a k : Int) : Prop := σ 44 k = 0 ∧ σ 46 k = 0 ∧ σ 45 k = a
def jcL (σ : JM) (a : Int) : Int := if jcT σ = 0 ∧ jfs (jlp σ a) (σ 7 16) ≠ -1 then 0 else 1
/-- the count of the items from a line to another, each part no more than 10^6; whether a loop has too many rounds -/
def jM6 (x : Int) : Int := if x > 1000000 then 1000000 else x
theorem jM6_b {x : Int} (h : 0 ≤ x) : 0 ≤ jM6 x ∧ jM6 x ≤ 1000000 := by unfold jM6; split <;> omega
def jcn : Nat → JM → Int → Int → Int → Int → Int × Prop
  | 0, _, _, _, _, _ => (0, False)
  | n + 1, σ, x, to, p, q =>
    if to ≤ x then (0, False) else
    if σ 34 x = 11 then jcn n σ (σ 38 x + 1) to p q else
    if σ 34 x < 6 then (1 + (jcn n σ (x + 1) to p q).1, (jcn n σ (x + 1) to p q).2) else
    if σ 34 x = 6 then
      (jM6 (jcn n σ (σ 40 (σ 37 x) + 1) (σ 41 (σ 37 x)) (jwa σ x p q) (jwb σ x p q)).1 + (jcn n σ (x + 1) to p q).1, (jcn n σ (σ 40 (σ 37 x) + 1) (σ 41 (σ 37 x)) (jwa σ x p q) (jwb σ x p q)).2 ∨ (jcn n σ (x + 1) to p q).2)
    else if 0 < jrds (σ 34 x) (jwa σ x p q) (jwb σ x p q) then
      (jrds (σ 34 x) (jwa σ x p q) (jwb σ x p q) * jM6 (jcn n σ (x + 1) (σ 38 x) p q).1 + (jcn n σ (σ 38 x + 1) to p q).1, (σ 34 x = 8 ∧ 9 < jwa σ x p q) ∨ (jcn n σ (x + 1) (σ 38 x) p q).2 ∨ (jcn n σ (σ 38 x + 1) to p q).2)
    else jcn n σ (σ 38 x + 1) to p q
abbrev jrd (σ : JM) (x p q : Int) : Int := jrds (σ 34 x) (jwa σ x p q) (jwb σ x p q)
theorem jcn_0 {n : Nat} {σ : JM} {x to p q : Int} (h : to ≤ x) : jcn (n + 1) σ x to p q = (0, False) := if_pos h
theorem jcn_m {n : Nat} {σ : JM} {x to p q : Int} (h : x < to) (h1 : σ 34 x = 11) : jcn (n + 1) σ x to p q = jcn n σ (σ 38 x + 1) to p q := (if_neg (by omega)).trans (if_pos h1)
theorem jcn_i {n : Nat} {σ : JM} {x to p q : Int} (h : x < to) (h1 : σ 34 x < 6) : jcn (n + 1) σ x to p q = (1 + (jcn n σ (x + 1) to p q).1, (jcn n σ (x + 1) to p q).2) := ((if_neg (by omega)).trans (if_neg (by omega))).trans (if_pos h1)
abbrev jcC (n : Nat) (σ : JM) (x p q : Int) : Int × Prop := jcn n σ (σ 40 (σ 37 x) + 1) (σ 41 (σ 37 x)) (jwa σ x p q) (jwb σ x p q)
theorem jcn_c {n : Nat} {σ : JM} {x to p q : Int} (h : x < to) (h1 : σ 34 x = 6) : jcn (n + 1) σ x to p q = (jM6 (jcC n σ x p q).1 + (jcn n σ (x + 1) to p q).1, (jcC n σ x p q).2 ∨ (jcn n σ (x + 1) to p q).2) := (((if_neg (by omega)).trans (if_neg (by omega))).trans (if_neg (by omega))).trans (if_pos h1)
theorem jcn_g {n : Nat} {σ : JM} {x to p q : Int} (h : x < to) (h1 : σ 34 x ≠ 11) (h7 : 7 ≤ σ 34 x) (hr : 0 < jrd σ x p q) : jcn (n + 1) σ x to p q = (jrd σ x p q * jM6 (jcn n σ (x + 1) (σ 38 x) p q).1 + (jcn n σ (σ 38 x + 1) to p q).1, (σ 34 x = 8 ∧ 9 < jwa σ x p q) ∨ (jcn n σ (x + 1) (σ 38 x) p q).2 ∨ (jcn n σ (σ 38 x + 1) to p q).2) := ((((if_neg (by omega)).trans (if_neg h1)).trans (if_neg (by omega))).trans (if_neg (by omega))).trans (if_pos hr)
theorem jcn_z {n : Nat} {σ : JM} {x to p q : Int} (h : x < to) (h1 : σ 34 x ≠ 11) (h7 : 7 ≤ σ 34 x) (hr : ¬ 0 < jrd σ x p q) : jcn (n + 1) σ x to p q = jcn n σ (σ 38 x + 1) to p q := ((((if_neg (by omega)).trans (if_neg h1)).trans (if_neg (by omega))).trans (if_neg (by omega))).trans (if_neg hr)
theorem jcn_f {σ : JM} (hw : jwf σ) : ∀ (n : Nat) (x to p q : Int), jwc σ x to p q 0 → jW σ x to → to * 81 + (to - x) < n → ∀ m : Nat, n ≤ m → jcn m σ x to p q = jcn n σ x to p q := by
  intro n
  induction n with
  | zero => intro x to p q c w hn; omega
  | succ n ih =>
    intro x to p q c w hn m hm
    obtain ⟨m, rfl⟩ : ∃ k, m = k + 1 := ⟨m - 1, by omega⟩
    by_cases h : to ≤ x
    · rw [jcn_0 h, jcn_0 h]
    have h : x < to := by omega
    have o1 := hw.one x c.1 (by omega)
    have o2 := hw.two x c.1 (by omega)
    have so := hw.so x c.1 (by omega)
    have ln := hw.ln
    have ncl := w.ncl h
    have ab := jrga_b ⟨o1.1, o1.2.1⟩ c.2.2.2.1 c.2.2.2.2.1
    have bb := jrga_b o2 c.2.2.2.1 c.2.2.2.2.1
    by_cases h1 : σ 34 x = 11
    · have g := jW.inn hw c.1 c.2.2.1 w (Int.le_refl _) h (by omega)
      rw [jcn_m h h1, jcn_m h h1]
      exact ih _ _ _ _ (by omega) (jW.nxt hw c.1 c.2.2.1 w h (by omega)) (by omega) m (by omega)
    by_cases h5 : σ 34 x < 6
    · rw [jcn_i h h5, jcn_i h h5, ih _ _ _ _ (by omega) (w.suc (by omega)) (by omega) m (by omega)]
    by_cases h6 : σ 34 x = 6
    · have ca := hw.ca x c.1 (by omega) h6
      have mm := hw.mm (σ 37 x) ca.1 ca.2.1
      have e1 := ih (σ 40 (σ 37 x) + 1) (σ 41 (σ 37 x)) (jwa σ x p q) (jwb σ x p q) ⟨by omega, by omega, by omega, ab, bb, by omega, by omega⟩ (jW.mac hw ca.1 ca.2.1) (by omega) m (by omega)
      have e2 := ih (x + 1) to p q (by omega) (w.suc (by omega)) (by omega) m (by omega)
      rw [jcn_c h h6, jcn_c h h6]
      unfold jcC
      rw [e1, e2]
    · have op : jop (σ 34 x) := by omega
      have g := jW.inn hw c.1 c.2.2.1 w (Int.le_refl _) h op
      have e2 := ih (σ 38 x + 1) to p q (by omega) (jW.nxt hw c.1 c.2.2.1 w h op) (by omega) m (by omega)
      by_cases hr : 0 < jrd σ x p q
      · have e1 := ih (x + 1) (σ 38 x) p q (by omega) g.1 (by omega) m (by omega)
        rw [jcn_g h h1 (by omega) hr, jcn_g h h1 (by omega) hr, e1, e2]
      · rw [jcn_z h h1 (by omega) hr, jcn_z h h1 (by omega) hr, e2]
theorem jrd_b {σ : JM} (hw : jwf σ) {x p q : Int} (hx : 0 ≤ x ∧ x < σ 7 1) (hp : 0 ≤ p ∧ p ≤ 999) (hq : 0 ≤ q ∧ q ≤ 999) : 0 ≤ jrd σ x p q ∧ jrd σ x p q ≤ 999 := by
  have o := hw.one x hx.1 hx.2
  have a := jrga_b ⟨o.1, o.2.1⟩ hp hq
  unfold jrd jrds
  (repeat' split) <;> omega
theorem jmul_b {a b : Int} (ha : 0 ≤ a ∧ a ≤ 999) (hb : 0 ≤ b ∧ b ≤ 1000000) : 0 ≤ a * b ∧ a * b ≤ 999000000 := by
  have h1 := Int.mul_nonneg ha.1 hb.1
  have h2 := Int.mul_le_mul ha.2 hb.2 hb.1 (by omega)
  omega
theorem jcn_b {σ : JM} (hw : jwf σ) : ∀ (n : Nat) (x to p q : Int), jwc σ x to p q 0 → jW σ x to → 0 ≤ (jcn n σ x to p q).1 ∧ (jcn n σ x to p q).1 ≤ 999000000 * (to - x) := by
  intro n
  induction n with
  | zero => intro x to p q c w; exact ⟨Int.le_refl _, by show (0 : Int) ≤ _; omega⟩
  | succ n ih =>
    intro x to p q c w
    by_cases h : to ≤ x
    · rw [jcn_0 h]; exact ⟨Int.le_refl _, by show (0 : Int) ≤ _; omega⟩
    have h : x < to := by omega
    have o1 := hw.one x c.1 (by omega)
    have o2 := hw.two x c.1 (by omega)
    have so := hw.so x c.1 (by omega)
    have ln := hw.ln
    have ncl := w.ncl h
    have ab := jrga_b ⟨o1.1, o1.2.1⟩ c.2.2.2.1 c.2.2.2.2.1
    have bb := jrga_b o2 c.2.2.2.1 c.2.2.2.2.1
    by_cases h1 : σ 34 x = 11
    · have g := jW.inn hw c.1 c.2.2.1 w (Int.le_refl _) h (by omega)
      have := ih (σ 38 x + 1) to p q (by omega) (jW.nxt hw c.1 c.2.2.1 w h (by omega))
      rw [jcn_m h h1]
      omega
    by_cases h5 : σ 34 x < 6
    · have := ih (x + 1) to p q (by omega) (w.suc (by omega))
      rw [jcn_i h h5]
      show 0 ≤ 1 + _ ∧ 1 + _ ≤ _
      omega
    by_cases h6 : σ 34 x = 6
    · have ca := hw.ca x c.1 (by omega) h6
      have mm := hw.mm (σ 37 x) ca.1 ca.2.1
      have e1 := ih (σ 40 (σ 37 x) + 1) (σ 41 (σ 37 x)) (jwa σ x p q) (jwb σ x p q) ⟨by omega, by omega, by omega, ab, bb, by omega, by omega⟩ (jW.mac hw ca.1 ca.2.1)
      have e2 := ih (x + 1) to p q (by omega) (w.suc (by omega))
      have e3 : 0 ≤ jM6 (jcC n σ x p q).1 ∧ jM6 (jcC n σ x p q).1 ≤ 1000000 := jM6_b e1.1
      rw [jcn_c h h6]
      show 0 ≤ jM6 _ + _ ∧ jM6 _ + _ ≤ _
      omega
    · have op : jop (σ 34 x) := by omega
      have g := jW.inn hw c.1 c.2.2.1 w (Int.le_refl _) h op
      have e2 := ih (σ 38 x + 1) to p q (by omega) (jW.nxt hw c.1 c.2.2.1 w h op)
      by_cases hr : 0 < jrd σ x p q
      · have e1 := ih (x + 1) (σ 38 x) p q (by omega) g.1
        have e4 := jmul_b (jrd_b hw (p := p) (q := q) ⟨c.1, by omega⟩ c.2.2.2.1 c.2.2.2.2.1) (jM6_b e1.1)
        rw [jcn_g h h1 (by omega) hr]
        show 0 ≤ jrd σ x p q * jM6 _ + _ ∧ jrd σ x p q * jM6 _ + _ ≤ _
        omega
      · rw [jcn_z h h1 (by omega) hr]; omega
/-- a macro's count -/
def jcm (σ : JM) (m a b : Int) : Int × Prop := jcn 7000 σ (σ 40 m + 1) (σ 41 m) a b
/-- what the counting changes; the kept counts are right -/
def jckp (σ0 σ : JM) : Prop := ∀ a b, a ≠ 53 → a ≠ 54 → ¬ (a = 7 ∧ b = 34) → σ a b = σ0 a b
def jkey (m a b : Int) : Int := 1 + b + 1000 * (a + 1000 * m)
def jmem (σ0 σ : JM) : Prop := (σ 7 34 = 0 ∨ σ 7 34 = 1) ∧ ∀ i, 0 ≤ i → i < 4096 → σ 53 i ≠ 0 → ∃ m a b, (0 ≤ m ∧ m < σ0 7 2) ∧ (0 ≤ a ∧ a ≤ 999) ∧ (0 ≤ b ∧ b ≤ 999) ∧ σ 53 i = jkey m a b ∧ σ 54 i = jM6 (jcm σ0 m a b).1 ∧ ((jcm σ0 m a b).2 → σ 7 34 = 1)
theorem jkey_inj {m a b m' a' b' : Int} (ha : 0 ≤ a ∧ a ≤ 999) (hb : 0 ≤ b ∧ b ≤ 999) (ha' : 0 ≤ a' ∧ a' ≤ 999) (hb' : 0 ≤ b' ∧ b' ≤ 999) (h : jkey m a b = jkey m' a' b') : m = m' ∧ a = a' ∧ b = b' := by unfold jkey at h; omega


/-- the answer of a counting -/
def jcQ (σ0 σ : JM) (r : Int × Prop) : Option JV → JM → Prop := fun v t => jckp σ0 t ∧ jmem σ0 t ∧ (t 7 34 = 1 ↔ σ 7 34 = 1 ∨ r.2) ∧ v = some (0, jM6 r.1)
theorem jmem_put {σ0 τ : JM} {f m a b : Int} (h : jmem σ0 τ) (hm : 0 ≤ m ∧ m < σ0 7 2) (ha : 0 ≤ a ∧ a ≤ 999) (hb : 0 ≤ b ∧ b ≤ 999) (hf : (jcm σ0 m a b).2 → τ 7 34 = 1) : jmem σ0 (jset (jset τ 53 f (jkey m a b)) 54 f (jM6 (jcm σ0 m a b).1)) := by
  refine ⟨h.1, fun i i0 i1 hi => ?_⟩
  have e53 : jset (jset τ 53 f (jkey m a b)) 54 f (jM6 (jcm σ0 m a b).1) 53 i = jset τ 53 f (jkey m a b) 53 i := rfl
  have e54 : jset (jset τ 53 f (jkey m a b)) 54 f (jM6 (jcm σ0 m a b).1) 54 i = jset τ 54 f (jM6 (jcm σ0 m a b).1) 54 i := rfl
  have e34 : jset (jset τ 53 f (jkey m a b)) 54 f (jM6 (jcm σ0 m a b).1) 7 34 = τ 7 34 := rfl
  rw [e53] at hi
  rw [e53, e54, e34]
  by_cases e : i = f
  · rw [e, jset_eq, jset_eq]
    exact ⟨m, a, b, hm, ha, hb, rfl, rfl, hf⟩
  · rw [jset_nj _ e] at hi
    rw [jset_nj _ e, jset_nj _ e]
    exact h.2 i i0 i1 hi
theorem jckp_put {σ0 τ : JM} {f u v : Int} (h : jckp σ0 τ) : jckp σ0 (jset (jset τ 53 f u) 54 f v) := fun a b h1 h2 h3 => by
  rw [jset_nk _ h2, jset_nk _ h1]; exact h a b h1 h2 h3
def jcR (σ0 σ : JM) (s : Int) (r : Int × Prop) : Option JV → JM → Prop := fun v t => jckp σ0 t ∧ jmem σ0 t ∧ (t 7 34 = 1 ↔ σ 7 34 = 1 ∨ r.2) ∧ v = some (0, jM6 (s + r.1))
theorem jcR_t {σ0 σ τ : JM} {P : Prop} {s s' : Int} {r r' : Int × Prop} (h1 : τ 7 34 = 1 ↔ σ 7 34 = 1 ∨ P) (h2 : s + r.1 = s' + r'.1) (h3 : P ∨ r.2 ↔ r'.2) {v : Option JV} {t : JM} (h : jcR σ0 τ s r v t) : jcR σ0 σ s' r' v t := by
  obtain ⟨a, b, c, d⟩ := h
  refine ⟨a, b, ?_, by rw [d, h2]⟩
  rw [c, h1, ← h3, or_assoc]
theorem jcn_e {σ : JM} (hw : jwf σ) {n : Nat} {x to p q : Int} (c : jwc σ x to p q 0) (w : jW σ x to) (hn : to * 81 + (to - x) < n) : jcn n σ x to p q = jcn 7000 σ x to p q := by
  have ln := hw.ln
  have a := jcn_f hw (to * 81 + (to - x) + 1).toNat x to p q c w (by omega) n (by omega)
  have b := jcn_f hw (to * 81 + (to - x) + 1).toNat x to p q c w (by omega) 7000 (by omega)
  rw [a, b]
def jIC (σ : JM) (v : Option JV) (t : JM) : Prop := (jbad σ ∧ v = some (1, 0) ∧ t = jq σ 1) ∨ (¬ jbad σ ∧ (∀ a b, a ≠ 53 → a ≠ 54 → ¬ (a = 7 ∧ (b = 0 ∨ b = 34)) → t a b = σ a b) ∧ (((jcn 7000 σ 0 (σ 7 1) 0 0).2 ∧ v = some (1, 0) ∧ t 7 0 = 2) ∨ (¬ (jcn 7000 σ 0 (σ 7 1) 0 0).2 ∧ v = some (1, jM6 (jcn 7000 σ 0 (σ 7 1) 0 0).1) ∧ t 7 0 = 0)))
/-! ===== no quotient here is a NaN ===== -/
def jfm (f : FP.Core.Fmt) : Prop := 2 ^ f.p = 2 * f.tails ∧ 0 < f.tails ∧ f.qmax - f.qmin + 2 = ((f.exps - 1 : Nat) : Int) ∧ f.qmin ≤ f.qmax ∧ 2 ≤ f.exps
theorem jfm32 : jfm FP.Core.b32 := by unfold jfm; decide +kernel
theorem jfm64 : jfm FP.Core.b64 := by unfold jfm; decide +kernel
theorem fe_inf (f : FP.Core.Fmt) : FP.Core.encode f (.inf false) ≤ (f.exps - 1) * f.tails := by
  simp only [FP.Core.encode, FP.Core.assemble, Bool.toNat_false, Nat.zero_mul, Nat.zero_add, Nat.add_zero]
  exact Nat.le_refl _
theorem fe_bound {f : FP.Core.Fmt} (h : jfm f) {c : Nat} {q : Int} (hc : c < 2 ^ f.p) (h0 : f.qmin ≤ q) : FP.Core.encode f (FP.Core.bound f false c q) ≤ (f.exps - 1) * f.tails := by
  obtain ⟨h2, ht, hq, hm, he⟩ := h
  have one : 1 * f.tails ≤ (f.exps - 1) * f.tails := Nat.mul_le_mul_right _ (by omega)
  unfold FP.Core.bound
  split
  · show (if c < f.tails then FP.Core.assemble f false 0 c else FP.Core.assemble f false ((q - f.qmin).toNat + 1) (c - f.tails)) ≤ _
    split
    · simp only [FP.Core.assemble, Bool.toNat_false]
      omega
    · simp only [FP.Core.assemble, Bool.toNat_false, Nat.zero_mul, Nat.zero_add]
      have k : ((q - f.qmin).toNat + 1 + 1) * f.tails ≤ (f.exps - 1) * f.tails := Nat.mul_le_mul_right _ (by omega)
      rw [Nat.add_mul ((q - f.qmin).toNat + 1) 1] at k
      omega
  · exact fe_inf f
theorem fe_settle {f : FP.Core.Fmt} (h : jfm f) {c : Nat} {q : Int} (h0 : f.qmin ≤ q) : FP.Core.encode f (FP.Core.settle f false c q) ≤ (f.exps - 1) * f.tails := by
  unfold FP.Core.settle
  split
  · exact fe_bound h (by assumption) h0
  · exact fe_bound h (by have := h.1; have := h.2.1; omega) (by omega)
theorem fe_zero {f : FP.Core.Fmt} (h : jfm f) (q : Int) : FP.Core.encode f (.fin false 0 q) ≤ (f.exps - 1) * f.tails := by
  have := h.2.1
  simp only [FP.Core.encode, FP.Core.assemble, Bool.toNat_false, if_pos this]
  omega
theorem fe_ratio {f : FP.Core.Fmt} (h : jfm f) (num den : Nat) (e : Int) : FP.Core.encode f (FP.Core.roundRatio f false num den e) ≤ (f.exps - 1) * f.tails := by
  unfold FP.Core.roundRatio
  split
  · exact fe_zero h _
  · unfold FP.Core.roundAt
    exact fe_settle h (by unfold FP.Core.quantum; omega)
/-- the code of no NaN, the sign + -/
theorem fd_sign {f : FP.Core.Fmt} (h : jfm f) {n : Nat} (hn : n ≤ (f.exps - 1) * f.tails) : (∃ c q, FP.Core.decode f n = .fin false c q) ∨ FP.Core.decode f n = .inf false := by
  obtain ⟨h2, ht, hq, hm, he⟩ := h
  have a : n / f.tails ≤ f.exps - 1 := by
    have := Nat.div_le_div_right (c := f.tails) hn
    rwa [Nat.mul_div_cancel _ ht] at this
  have s : FP.Core.fieldS f n = false := by
    unfold FP.Core.fieldS
    rw [Nat.div_eq_of_lt (show n / f.tails < f.exps by omega)]
    rfl
  unfold FP.Core.decode
  rw [s]
  split
  · rename_i e
    have z : FP.Core.fieldT f n = 0 := by
      unfold FP.Core.fieldE at e
      rw [Nat.mod_eq_of_lt (by omega)] at e
      unfold FP.Core.fieldT
      have d := Nat.div_add_mod n f.tails
      rw [e, Nat.mul_comm] at d
      omega
    rw [if_pos z]
    exact Or.inr rfl
  · split
    · exact Or.inl ⟨_, _, rfl⟩
    · exact Or.inl ⟨_, _, rfl⟩
theorem fe_quot {f : FP.Core.Fmt} (h : jfm f) {x y : Nat} (hx : x ≤ (f.exps - 1) * f.tails) (hy : ∃ c q, FP.Core.decode f y = .fin false c q ∧ c ≠ 0) : FP.Core.div f x y ≤ (f.exps - 1) * f.tails := by
  obtain ⟨c, q, ey, hc⟩ := hy
  unfold FP.Core.div
  rw [ey]
  rcases fd_sign h hx with ⟨c', q', ex⟩ | ex
  · rw [ex]
    simp only [FP.Core.quotient, if_neg hc]
    exact fe_ratio h _ _ _
  · rw [ex]
    simp only [FP.Core.quotient, bne_self_eq_false]
    exact fe_inf f
theorem fe_int {f : FP.Core.Fmt} (h : jfm f) {i : Int} (hi : 0 ≤ i) : FP.Core.fromInt f i ≤ (f.exps - 1) * f.tails := by
  unfold FP.Core.fromInt FP.Core.ofInt FP.Core.round
  rw [show decide (i < 0) = false from decide_eq_false (by omega)]
  exact fe_ratio h _ _ _
theorem fe_conv {f g : FP.Core.Fmt} (hf : jfm f) (hg : jfm g) {x : Nat} (hx : x ≤ (f.exps - 1) * f.tails) : FP.Core.convert f g x ≤ (g.exps - 1) * g.tails := by
  unfold FP.Core.convert
  rcases fd_sign hf hx with ⟨c', q', ex⟩ | ex
  · rw [ex]; exact fe_ratio hg _ _ _
  · rw [ex]
    exact fe_inf g
theorem fn_32 {m : Nat} (h : m ≤ (FP.Core.b32.exps - 1) * FP.Core.b32.tails) : vf_n32 (.ofNat m) := by
  have e : (FP.Core.b32.exps - 1) * FP.Core.b32.tails = 0x7f800000 := by decide +kernel
  rw [e] at h
  unfold vf_n32
  rw [UInt32.le_iff_toNat_le, UInt32.toNat_and]
  refine Nat.le_trans Nat.and_le_left ?_
  rw [UInt32.toNat_ofNat']
  exact Nat.le_trans (Nat.mod_le _ _) h
theorem fn_64 {m : Nat} (h : m ≤ (FP.Core.b64.exps - 1) * FP.Core.b64.tails) : vf_n64 (.ofNat m) := by
  have e : (FP.Core.b64.exps - 1) * FP.Core.b64.tails = 0x7ff0000000000000 := by decide +kernel
  rw [e] at h
  unfold vf_n64
  rw [UInt64.le_iff_toNat_le, UInt64.toNat_and]
  refine Nat.le_trans Nat.and_le_left ?_
  rw [UInt64.toNat_ofNat']
  exact Nat.le_trans (Nat.mod_le _ _) h


theorem jF_u (u : UInt32) : jF ((u.toNat : Nat) : Int) = u := by unfold jF; rw [Int.toNat_natCast, UInt32.ofNat_toNat]
theorem jD_u (u : UInt64) : jD ((u.toNat : Nat) : Int) = u := by unfold jD; rw [Int.toNat_natCast, UInt64.ofNat_toNat]
def jFd (a b : Int) : Int := (((FP.fdiv (FP.i2f (jI a)) (FP.i2f (jI b))).toNat : Nat) : Int)
def jDd (a b : Int) : Int := (((FP.ddiv (FP.l2d (jL a)) (FP.i2d (jI b))).toNat : Nat) : Int)
def fgood : FP.Core.Datum → Bool
  | .fin s c _ => !s && c != 0
  | _ => false
theorem fgood_ok {d : FP.Core.Datum} (h : fgood d = true) : ∃ c q, d = .fin false c q ∧ c ≠ 0 := by
  cases d with
  | fin s c q =>
    cases s with
    | true => exact absurd h (by simp [fgood])
    | false => exact ⟨c, q, rfl, by simpa [fgood] using h⟩
  | nan => cases h
  | inf s => cases h
theorem ints32 : (List.range 400).all (fun n => n == 0 || fgood (FP.Core.decode FP.Core.b32 (FP.Core.fromInt FP.Core.b32 n))) = true := by decide +kernel
theorem ints64 : (List.range 1401).all (fun n => n == 0 || fgood (FP.Core.decode FP.Core.b64 (FP.Core.fromInt FP.Core.b64 n))) = true := by decide +kernel
theorem fit_32 {m : Nat} (h : m ≤ (FP.Core.b32.exps - 1) * FP.Core.b32.tails) : (UInt32.ofNat m).toNat = m := by
  have e : (FP.Core.b32.exps - 1) * FP.Core.b32.tails = 0x7f800000 := by decide +kernel
  rw [UInt32.toNat_ofNat']
  exact Nat.mod_eq_of_lt (by omega)
theorem fit_64 {m : Nat} (h : m ≤ (FP.Core.b64.exps - 1) * FP.Core.b64.tails) : (UInt64.ofNat m).toNat = m := by
  have e : (FP.Core.b64.exps - 1) * FP.Core.b64.tails = 0x7ff0000000000000 := by decide +kernel
  rw [UInt64.toNat_ofNat']
  exact Nat.mod_eq_of_lt (by omega)
theorem nn_fdiv {a b : Int} (ha : 0 ≤ a ∧ a ≤ 400) (hb : 0 < b ∧ b < 400) : vf_n32 (FP.fdiv (FP.i2f (jI a)) (FP.i2f (jI b))) := by
  have ea := fe_int jfm32 (i := a) ha.1
  have eb := fe_int jfm32 (i := b) (by omega)
  show vf_n32 (.ofNat (FP.Core.div FP.Core.b32 (UInt32.ofNat (FP.Core.fromInt FP.Core.b32 (jI a).toInt)).toNat (UInt32.ofNat (FP.Core.fromInt FP.Core.b32 (jI b).toInt)).toNat))
  rw [jI_toInt ⟨by omega, by omega⟩, jI_toInt ⟨by omega, by omega⟩, fit_32 ea, fit_32 eb]
  refine fn_32 (fe_quot jfm32 ea (fgood_ok ?_))
  have z := List.all_eq_true.mp ints32 b.toNat (List.mem_range.mpr (by omega))
  rw [show ((b.toNat : Nat) : Int) = b by omega] at z
  simpa [show ¬ b.toNat = 0 by omega] using z
theorem nn_ddiv {a b : Int} (ha : 0 ≤ a ∧ a ≤ 1000000000) (hb : 0 < b ∧ b ≤ 1400) : vf_n64 (FP.ddiv (FP.l2d (jL a)) (FP.i2d (jI b))) := by
  have ea := fe_int jfm64 (i := a) ha.1
  have eb := fe_int jfm64 (i := b) (by omega)
  show vf_n64 (.ofNat (FP.Core.div FP.Core.b64 (UInt64.ofNat (FP.Core.fromInt FP.Core.b64 (jL a).toInt)).toNat (UInt64.ofNat (FP.Core.fromInt FP.Core.b64 (jI b).toInt)).toNat))
  rw [jL_toInt ⟨by omega, by omega⟩, jI_toInt ⟨by omega, by omega⟩, fit_64 ea, fit_64 eb]
  refine fn_64 (fe_quot jfm64 ea (fgood_ok ?_))
  have z := List.all_eq_true.mp ints64 b.toNat (List.mem_range.mpr (by omega))
  rw [show ((b.toNat : Nat) : Int) = b by omega] at z
  simpa [show ¬ b.toNat = 0 by omega] using z
def jcS (σ : JM) : Int := if jcT σ ≠ 0 then jcT σ else if jsum (jju σ 1) (σ 7 16) + jsum (jju σ 0) (σ 7 16) = 0 then 2 else 0
theorem jju_s (σ : JM) (b : Int) (h : 0 ≤ σ 7 16) : 0 ≤ jsum (jju σ b) (σ 7 16) ∧ jsum (jju σ b) (σ 7 16) ≤ 1 * σ 7 16 := jsum_le h (fun i _ _ => jju_b i)
theorem jju_2 {σ : JM} (h : 0 ≤ σ 7 16) : jsum (jju σ 1) (σ 7 16) + jsum (jju σ 0) (σ 7 16) ≤ 1 * σ 7 16 := by
  rw [← jsum_add h]
  exact (jsum_le (g := fun i => jju σ 1 i + jju σ 0 i) (c := 1) h (fun i _ _ => by
    show 0 ≤ (if _ then (1 : Int) else 0) + (if _ then (1 : Int) else 0) ∧ (if _ then (1 : Int) else 0) + (if _ then (1 : Int) else 0) ≤ 1
    by_cases a : σ 44 i = 3 ∧ σ 50 i = 1
    · rw [if_pos a, if_neg (by omega)]; decide
    · rw [if_neg a]; split <;> decide)).2
def jcM (σ : JM) : Int := if jcT σ ≠ 0 then jcT σ else if σ 7 19 = 0 then 2 else 0
