/-! ===== the class's lines and the reference's; the class's expanding and the reference's walk: how their memories stand to each other ===== -/
def jch (s : Int) : Int := if s = 0 then 108 else if s = 1 then 119 else if s = 2 then 111 else if s = 3 then 106 else if s = 4 then 97 else if s = 5 then 103 else if s = 6 then 67 else if s = 7 then 66 else if s = 8 then 76 else if s = 9 then 87 else if s = 10 then 69 else if s = 11 then 77 else 78
theorem jch_all {s : Int} (h : 0 ≤ s ∧ s ≤ 12) : (s = 0 ∧ jch s = 108 ∧ jgo (jch s) = 19 ∧ jmost s = 19 ∧ jkof s 0 = 108) ∨ (s = 1 ∧ jch s = 119 ∧ jgo (jch s) = 999 ∧ jmost s = 999 ∧ jkof s 0 = 119) ∨ (s = 2 ∧ jch s = 111 ∧ jgo (jch s) = 99 ∧ jmost s = 99 ∧ jkof s 0 = 111) ∨ (s = 3 ∧ jch s = 106 ∧ jgo (jch s) = 19 ∧ jmost s = 19 ∧ jkof s 0 = 106) ∨ (s = 4 ∧ jch s = 97 ∧ jgo (jch s) = 19 ∧ jmost s = 19 ∧ jkof s 0 = 97) ∨ (s = 5 ∧ jch s = 103 ∧ jgo (jch s) = 0 ∧ jmost s = 999 ∧ jkof s 0 = 103) ∨ (s = 6 ∧ jch s = 67 ∧ jgo (jch s) = 999 ∧ jmost s = 999) ∨ (s = 7 ∧ jch s = 66 ∧ jgo (jch s) = 0 ∧ jmost s = 999) ∨ (s = 8 ∧ jch s = 76 ∧ jgo (jch s) = 9 ∧ jmost s = 9) ∨ (s = 9 ∧ jch s = 87 ∧ jgo (jch s) = 999 ∧ jmost s = 999) ∨ (s = 10 ∧ jch s = 69 ∧ jgo (jch s) = 0) ∨ (s = 11 ∧ jch s = 77 ∧ jgo (jch s) = 0) ∨ (s = 12 ∧ jch s = 78 ∧ jgo (jch s) = 0) := by
  have e : s = 0 ∨ s = 1 ∨ s = 2 ∨ s = 3 ∨ s = 4 ∨ s = 5 ∨ s = 6 ∨ s = 7 ∨ s = 8 ∨ s = 9 ∨ s = 10 ∨ s = 11 ∨ s = 12 := by omega
  rcases e with e | e | e | e | e | e | e | e | e | e | e | e | e <;> subst e <;> decide
/-- a line of the class and the same of the reference -/
def jln (σ : JM) (x : Int) : Prop := σ 8 x = jch (σ 34 x) ∧ σ 9 x = (if σ 34 x = 5 then 0 else σ 35 x) ∧ σ 10 x = (if σ 34 x = 2 then 0 else σ 36 x) ∧ σ 11 x = (if σ 34 x = 5 then σ 35 x else if σ 34 x = 2 then σ 36 x else if σ 34 x = 6 then σ 37 x else 0) ∧ (-2 ≤ σ 9 x ∧ σ 9 x ≤ jgo (σ 8 x)) ∧ (-2 ≤ σ 10 x ∧ σ 10 x ≤ jgo (σ 8 x)) ∧ (σ 34 x = 7 → σ 9 x = 0) ∧ (σ 34 x ≠ 6 → σ 34 x ≠ 9 → σ 10 x = 0)
def jSC (σ : JM) : Prop := (σ 1 7 = σ 7 1 ∧ σ 1 8 = σ 7 2) ∧ (∀ x, 0 ≤ x → x < σ 7 1 → jln σ x) ∧ (∀ x, 0 ≤ x → x < σ 7 1 → jop (σ 34 x) → σ 12 x = σ 38 x ∧ σ 12 (σ 38 x) = x ∧ σ 34 (σ 38 x) = (if σ 34 x = 11 then 12 else 10)) ∧ (∀ m, 0 ≤ m → m < σ 7 2 → σ 14 m = σ 40 m) ∧ (∀ a b, 0 ≤ a → a < b → b < σ 7 2 → σ 41 a < σ 41 b)
/-- what the class's expanding writes -/
abbrev jvol (a : Nat) (b : Int) : Prop := (15 ≤ a ∧ a ≤ 19) ∨ (21 ≤ a ∧ a ≤ 26) ∨ ((a = 27 ∨ a = 28) ∧ 2 ≤ b) ∨ (a = 2 ∧ b = 6) ∨ (a = 3 ∧ b = 5) ∨ (a = 4 ∧ 7 ≤ b ∧ b ≤ 10)
def jkc (σ0 τ : JM) : Prop := ∀ a b, ¬ jvol a b → τ a b = σ0 a b
theorem jkc.rf (σ : JM) : jkc σ σ := fun _ _ _ => rfl
theorem jkc.set {σ0 τ : JM} (h : jkc σ0 τ) {k : Nat} (j v : Int) (hk : jvol k j) : jkc σ0 (jset τ k j v) := fun a b h1 => by
  rw [jset_ne τ (fun q => h1 (by rw [q.1, q.2]; exact hk))]; exact h a b h1
theorem jkc.rg {σ0 τ : JM} (h : jkc σ0 τ) (f t v : Int) : jkc σ0 (jrg τ 21 f t v) := fun a b h1 => by
  unfold jrg
  rw [if_neg (fun q => h1 (by rw [q.1]; omega))]; exact h a b h1
theorem jkc.opn {σ0 τ : JM} (h : jkc σ0 τ) (o : Int) : jkc σ0 (jOpn τ o) := (((h.set _ _ (by omega)).set _ _ (by omega)).rg _ _ _).set _ _ (by omega)
theorem jkc.cls {σ0 τ : JM} (h : jkc σ0 τ) : jkc σ0 (jCls τ) := by
  unfold jCls
  refine jkc.set (fun a b h1 => ?_) _ _ (by omega)
  rw [jcl2_ne τ _ (by omega)]; exact h a b h1
/-- the item that defines a name in a scope -/
def jlk (ρ : JM) (v s : Int) : Int := jfs (jdp ρ v s) (ρ 7 16)
theorem jfs_c {P Q : Int → Prop} [DecidablePred P] [DecidablePred Q] {n : Int} (h : ∀ i, 0 ≤ i → i < n → (P i ↔ Q i)) : jfs P n = jfs Q n := by
  rcases jfs_cases (P := Q) n with ⟨e, a⟩ | ⟨a, b, c, e⟩
  · rw [e]; exact jfs_no (fun i i0 i1 q => a i i0 i1 ((h i i0 i1).mp q))
  · exact jfs_at a b ((h _ a b).mpr c) (fun i i0 i1 q => e i i0 i1 ((h i i0 (by omega)).mp q))
theorem jfs_ex {P : Int → Prop} [DecidablePred P] {n : Int} (h : 0 ≤ n) : jfs P n ≠ -1 ↔ jex P n := by
  rw [jex_iff h]
  rcases jfs_cases (P := P) n with ⟨e, a⟩ | ⟨a, b, c, e⟩
  · rw [e]; exact ⟨fun q => absurd rfl q, fun ⟨k, k0, k1, k2⟩ => absurd k2 (a k k0 k1)⟩
  · exact ⟨fun _ => ⟨_, a, b, c⟩, fun _ => by omega⟩
theorem jlk_b (ρ : JM) (v s : Int) : -1 ≤ jlk ρ v s := by
  unfold jlk
  rcases jfs_cases (P := jdp ρ v s) (ρ 7 16) with ⟨e, -⟩ | ⟨a, -⟩ <;> omega
theorem jlk_nsc (ρ : JM) (o v s : Int) : jlk (jnsc ρ o) v s = jlk ρ v s := rfl
theorem jlk_w1 (ρ : JM) (v s : Int) : jlk (jw1 ρ) v s = jlk ρ v s := rfl
theorem jmk_row (ρ : JM) (x v s d i : Int) : jmk ρ x v s d 43 i = (if i = ρ 7 16 then x else ρ 43 i) ∧ jmk ρ x v s d 44 i = (if i = ρ 7 16 then ρ 34 x else ρ 44 i) ∧ jmk ρ x v s d 45 i = (if i = ρ 7 16 then v else ρ 45 i) ∧ jmk ρ x v s d 46 i = (if i = ρ 7 16 then s else ρ 46 i) ∧ jmk ρ x v s d 47 i = (if i = ρ 7 16 then d else ρ 47 i) := by
  refine ⟨?_, ?_, ?_, ?_, ?_⟩ <;> simp [jmk, jset]
theorem jlk_mk {ρ : JM} (h0 : 0 ≤ ρ 7 16) (x v s d v' s' : Int) : jlk (jmk ρ x v s d) v' s' = if jlk ρ v' s' ≠ -1 then jlk ρ v' s' else if ρ 34 x = 0 ∧ v = v' ∧ s = s' then ρ 7 16 else -1 := by
  have r := jmk_row ρ x v s d
  have lo : ∀ i, i < ρ 7 16 → (jdp (jmk ρ x v s d) v' s' i ↔ jdp ρ v' s' i) := fun i hi => by
    unfold jdp
    rw [(r i).2.1, (r i).2.2.1, (r i).2.2.2.1, if_neg (by omega), if_neg (by omega), if_neg (by omega)]
  have hi : jdp (jmk ρ x v s d) v' s' (ρ 7 16) ↔ (ρ 34 x = 0 ∧ v = v' ∧ s = s') := by
    unfold jdp
    rw [(r _).2.1, (r _).2.2.1, (r _).2.2.2.1, if_pos rfl, if_pos rfl, if_pos rfl]
  unfold jlk
  rw [(jmk_7 ρ x v s d).1]
  rcases jfs_cases (P := jdp ρ v' s') (ρ 7 16) with ⟨e, a⟩ | ⟨a, b, c, e⟩
  · rw [e, if_neg (by simp)]
    split
    · rename_i hc
      exact jfs_at h0 (by omega) (hi.mpr hc) (fun i i0 i1 q => a i i0 i1 ((lo i i1).mp q))
    · rename_i hc
      refine jfs_no (fun i i0 i1 q => ?_)
      by_cases hii : i = ρ 7 16
      · rw [hii] at q; exact hc (hi.mp q)
      · exact a i i0 (by omega) ((lo i (by omega)).mp q)
  · rw [if_pos (by omega)]
    exact jfs_at a (by omega) ((lo _ b).mpr c) (fun i i0 i1 q => e i i0 i1 ((lo i (by omega)).mp q))
/-- a scope of the reference that is no longer open -/
def jclo (ρ : JM) (S : Int → Int) (h s : Int) : Prop := (0 ≤ s ∧ s < ρ 7 17) ∧ ∀ j, 0 ≤ j → j < h → S j ≠ s
/-- from a scope outwards to another over closed ones that do not define the name -/
def jpt (ρ : JM) (S : Int → Int) (h v : Int) : Nat → Int → Int → Prop
  | 0, s, t => s = t
  | n + 1, s, t => (jclo ρ S h s ∧ jlk ρ v s = -1) ∧ jpt ρ S h v n (ρ 42 s) t
theorem jpt_snoc {ρ : JM} {S : Int → Int} {h v : Int} : ∀ (n : Nat) (s t : Int), jpt ρ S h v n s t → jclo ρ S h t → jlk ρ v t = -1 → jpt ρ S h v (n + 1) s (ρ 42 t) := by
  intro n
  induction n with
  | zero => intro s t a b c; cases a; exact ⟨⟨b, c⟩, rfl⟩
  | succ n ih => intro s t a b c; exact ⟨a.1, ih _ _ a.2 b c⟩
/-- a path stays one when what it rests on stays -/
theorem jpt_to {ρ ρ' : JM} {S S' : Int → Int} {h h' v : Int} (hc : ∀ s, jclo ρ S h s → jclo ρ' S' h' s ∧ ρ' 42 s = ρ 42 s ∧ jlk ρ' v s = jlk ρ v s) : ∀ (n : Nat) (s t : Int), jpt ρ S h v n s t → jpt ρ' S' h' v n s t := by
  intro n
  induction n with
  | zero => intro s t a; exact a
  | succ n ih =>
    intro s t a
    obtain ⟨c1, c2, c3⟩ := hc s a.1.1
    refine ⟨⟨c1, by rw [c3]; exact a.1.2⟩, ?_⟩
    rw [c2]; exact ih _ _ a.2
abbrev jrk (s : Int) : Prop := s = 3 ∨ s = 4
/-- where the name of an item stands: to be looked for in an open scope, or found in a closed one -/
def jrf (τ ρ : JM) (S : Int → Int) (i : Int) : Prop :=
  ∃ (n : Nat) (s : Int), jpt ρ S (τ 3 5) (ρ 45 i) n (ρ 46 i) s ∧ ((∃ j, (0 ≤ j ∧ j < τ 3 5) ∧ s = S j ∧ τ 24 i = j ∧ τ 19 i = -1 ∧ τ 23 j ≤ i) ∨ (jclo ρ S (τ 3 5) s ∧ τ 24 i = -1 ∧ τ 19 i = jlk ρ (ρ 45 i) s ∧ 0 ≤ τ 19 i))
/-- the class's expanding τ and the reference's walk ρ; S: the reference's numbers of the open scopes -/
def jCD (σ0 τ ρ : JM) (S : Int → Int) : Prop :=
  jkc σ0 τ ∧ (τ 2 6 = ρ 7 16 ∧ τ 4 8 = ρ 7 18 ∧ τ 4 9 = 110 ∧ ρ 7 14 = 110) ∧
  ((1 ≤ τ 3 5 ∧ τ 3 5 ≤ 81) ∧ S 0 = 0 ∧ τ 22 0 = -1 ∧ ρ 42 0 = -1) ∧
  (∀ j, 0 ≤ j → j < τ 3 5 → (0 ≤ S j ∧ S j < ρ 7 17) ∧ 0 ≤ τ 23 j ∧ τ 23 j ≤ ρ 7 16) ∧
  (∀ i j, 0 ≤ i → i < j → j < τ 3 5 → S i < S j ∧ τ 23 i ≤ τ 23 j) ∧
  (∀ j, 0 < j → j < τ 3 5 → 0 ≤ τ 22 j ∧ τ 22 j < j ∧ ρ 42 (S j) = S (τ 22 j)) ∧
  (∀ j v, 0 ≤ j → j < τ 3 5 → 0 ≤ v → v < 20 → τ 21 (j * 20 + v) = jlk ρ v (S j)) ∧
  (∀ i, 0 ≤ i → i < ρ 7 16 → (τ 15 i = ρ 43 i ∧ τ 16 i = jkof (ρ 44 i) 0 ∧ τ 17 i = ρ 47 i ∧ τ 18 i = jmV ρ i) ∧ (ρ 44 i = 0 ∨ jrk (ρ 44 i) → ρ 45 i < 20)) ∧
  (∀ i, 0 ≤ i → i < ρ 7 16 → (jrk (ρ 44 i) → jrf τ ρ S i) ∧ (¬ jrk (ρ 44 i) → τ 24 i = -1 ∧ τ 19 i = -1))
theorem jCD.kc {σ0 τ ρ : JM} {S : Int → Int} (h : jCD σ0 τ ρ S) : jkc σ0 τ := h.1
theorem jCD.nn {σ0 τ ρ : JM} {S : Int → Int} (h : jCD σ0 τ ρ S) : τ 2 6 = ρ 7 16 ∧ τ 4 8 = ρ 7 18 ∧ τ 4 9 = 110 ∧ ρ 7 14 = 110 := h.2.1
theorem jCD.s0 {σ0 τ ρ : JM} {S : Int → Int} (h : jCD σ0 τ ρ S) : (1 ≤ τ 3 5 ∧ τ 3 5 ≤ 81) ∧ S 0 = 0 ∧ τ 22 0 = -1 ∧ ρ 42 0 = -1 := h.2.2.1
theorem jCD.sb {σ0 τ ρ : JM} {S : Int → Int} (h : jCD σ0 τ ρ S) : ∀ j, 0 ≤ j → j < τ 3 5 → (0 ≤ S j ∧ S j < ρ 7 17) ∧ 0 ≤ τ 23 j ∧ τ 23 j ≤ ρ 7 16 := h.2.2.2.1
theorem jCD.sm {σ0 τ ρ : JM} {S : Int → Int} (h : jCD σ0 τ ρ S) : ∀ i j, 0 ≤ i → i < j → j < τ 3 5 → S i < S j ∧ τ 23 i ≤ τ 23 j := h.2.2.2.2.1
theorem jCD.so {σ0 τ ρ : JM} {S : Int → Int} (h : jCD σ0 τ ρ S) : ∀ j, 0 < j → j < τ 3 5 → 0 ≤ τ 22 j ∧ τ 22 j < j ∧ ρ 42 (S j) = S (τ 22 j) := h.2.2.2.2.2.1
theorem jCD.lb {σ0 τ ρ : JM} {S : Int → Int} (h : jCD σ0 τ ρ S) : ∀ j v, 0 ≤ j → j < τ 3 5 → 0 ≤ v → v < 20 → τ 21 (j * 20 + v) = jlk ρ v (S j) := h.2.2.2.2.2.2.1
theorem jCD.it {σ0 τ ρ : JM} {S : Int → Int} (h : jCD σ0 τ ρ S) : ∀ i, 0 ≤ i → i < ρ 7 16 → (τ 15 i = ρ 43 i ∧ τ 16 i = jkof (ρ 44 i) 0 ∧ τ 17 i = ρ 47 i ∧ τ 18 i = jmV ρ i) ∧ (ρ 44 i = 0 ∨ jrk (ρ 44 i) → ρ 45 i < 20) := h.2.2.2.2.2.2.2.1
theorem jCD.rf {σ0 τ ρ : JM} {S : Int → Int} (h : jCD σ0 τ ρ S) : ∀ i, 0 ≤ i → i < ρ 7 16 → (jrk (ρ 44 i) → jrf τ ρ S i) ∧ (¬ jrk (ρ 44 i) → τ 24 i = -1 ∧ τ 19 i = -1) := h.2.2.2.2.2.2.2.2
theorem jCD.inj {σ0 τ ρ : JM} {S : Int → Int} (h : jCD σ0 τ ρ S) {i j : Int} (hi : 0 ≤ i ∧ i < τ 3 5) (hj : 0 ≤ j ∧ j < τ 3 5) (e : S i = S j) : i = j := by
  rcases Int.lt_trichotomy i j with q | q | q
  · have := (h.sm i j hi.1 q hj.2).1; omega
  · exact q
  · have := (h.sm j i hj.1 q hi.2).1; omega
theorem jCD.w1 {σ0 τ ρ : JM} {S : Int → Int} (h : jCD σ0 τ ρ S) : jCD σ0 (jset τ 4 8 (τ 4 8 + 1)) (jw1 ρ) S := by
  refine ⟨h.kc.set _ _ (by omega), ⟨h.nn.1, ?_, h.nn.2.2⟩, h.s0, h.sb, h.sm, h.so, h.lb, h.it, fun i i0 i1 => ⟨fun hk => ?_, (h.rf i i0 i1).2⟩⟩
  · show τ 4 8 + 1 = ρ 7 18 + 1
    rw [h.nn.2.1]
  · obtain ⟨n, s, p, c⟩ := (h.rf i i0 i1).1 hk
    exact ⟨n, s, jpt_to (ρ := ρ) (ρ' := jw1 ρ) (S := S) (S' := S) (h := τ 3 5) (h' := τ 3 5) (v := ρ 45 i) (fun s c => ⟨c, rfl, rfl⟩) n _ _ p, c⟩
theorem jCD.s25 {σ0 τ ρ : JM} {S : Int → Int} (h : jCD σ0 τ ρ S) (x v : Int) : jCD σ0 (jset τ 25 x v) ρ S := ⟨h.kc.set _ _ (by omega), h.2⟩
theorem jCD.s26 {σ0 τ ρ : JM} {S : Int → Int} (h : jCD σ0 τ ρ S) (x v : Int) : jCD σ0 (jset τ 26 x v) ρ S := ⟨h.kc.set _ _ (by omega), h.2⟩
theorem jCD.s27 {σ0 τ ρ : JM} {S : Int → Int} (h : jCD σ0 τ ρ S) {x : Int} (hx : 2 ≤ x) (v : Int) : jCD σ0 (jset τ 27 x v) ρ S := ⟨h.kc.set _ _ (by omega), h.2⟩
theorem jCD.s28 {σ0 τ ρ : JM} {S : Int → Int} (h : jCD σ0 τ ρ S) {x : Int} (hx : 2 ≤ x) (v : Int) : jCD σ0 (jset τ 28 x v) ρ S := ⟨h.kc.set _ _ (by omega), h.2⟩
theorem jCD.s47 {σ0 τ ρ : JM} {S : Int → Int} (h : jCD σ0 τ ρ S) (v : Int) : jCD σ0 (jset τ 4 7 v) ρ S := ⟨h.kc.set _ _ (by omega), h.2⟩
