theorem jOpn_row (τ : JM) (o : Int) : (∀ b, jOpn τ o 22 b = if b = τ 3 5 then o else τ 22 b) ∧ (∀ b, jOpn τ o 23 b = if b = τ 3 5 then τ 2 6 else τ 23 b) ∧ (∀ b, jOpn τ o 21 b = if τ 3 5 * 20 ≤ b ∧ b < (τ 3 5 + 1) * 20 then -1 else τ 21 b) ∧ jOpn τ o 3 5 = τ 3 5 + 1 := by
  refine ⟨fun b => ?_, fun b => ?_, fun b => ?_, ?_⟩ <;> simp [jOpn, jset, jrg]
theorem jnsc_42 (ρ : JM) (o s : Int) : jnsc ρ o 42 s = if s = ρ 7 17 then o else ρ 42 s := by simp [jnsc, jset]
/-- a scope is opened -/
theorem jCD.opn {σ0 τ ρ : JM} {S : Int → Int} (h : jCD σ0 τ ρ S) (hj : jit σ0 ρ) (hn : 0 ≤ ρ 7 16) (h81 : τ 3 5 < 81) {o : Int} (ho : 0 ≤ o ∧ o < τ 3 5) : jCD σ0 (jOpn τ o) (jnsc ρ (S o)) (fun j => if j = τ 3 5 then ρ 7 17 else S j) := by
  obtain ⟨r22, r23, r21, r35⟩ := jOpn_row τ o
  have s0 := h.s0
  have sb0 := h.sb 0 (by omega) (by omega)
  have e7 := jnsc_7 ρ (S o)
  refine ⟨h.kc.opn o, h.nn, ⟨by omega, ?_, ?_, ?_⟩, fun j j0 j1 => ?_, fun i j i0 i1 i2 => ?_, fun j j0 j1 => ?_, fun j v j0 j1 v0 v1 => ?_, h.it, fun i i0 i1 => ⟨fun hk => ?_, fun hk => (h.rf i i0 i1).2 hk⟩⟩
  · show (if (0 : Int) = τ 3 5 then ρ 7 17 else S 0) = 0
    rw [if_neg (by omega)]; exact s0.2.1
  · rw [r22, if_neg (by omega)]; exact s0.2.2.1
  · rw [jnsc_42, if_neg (by have := s0.2.1; omega)]; exact s0.2.2.2
  · rw [e7.2.1, e7.1, r23]
    rw [r35] at j1
    show (0 ≤ (if j = τ 3 5 then ρ 7 17 else S j) ∧ (if j = τ 3 5 then ρ 7 17 else S j) < ρ 7 17 + 1) ∧ _
    by_cases q : j = τ 3 5
    · rw [if_pos q, if_pos q, h.nn.1]; omega
    · rw [if_neg q, if_neg q]
      have := h.sb j j0 (by omega)
      omega
  · rw [r35] at i2
    rw [r23, r23]
    show (if i = τ 3 5 then ρ 7 17 else S i) < (if j = τ 3 5 then ρ 7 17 else S j) ∧ _
    rw [if_neg (show i ≠ τ 3 5 by omega), if_neg (show i ≠ τ 3 5 by omega)]
    by_cases q : j = τ 3 5
    · rw [if_pos q, if_pos q, h.nn.1]
      have := h.sb i i0 (by omega)
      omega
    · rw [if_neg q, if_neg q]; exact h.sm i j i0 i1 (by omega)
  · rw [r35] at j1
    rw [r22]
    show 0 ≤ (if j = τ 3 5 then o else τ 22 j) ∧ _ ∧ jnsc ρ (S o) 42 (if j = τ 3 5 then ρ 7 17 else S j) = (if (if j = τ 3 5 then o else τ 22 j) = τ 3 5 then ρ 7 17 else S (if j = τ 3 5 then o else τ 22 j))
    by_cases q : j = τ 3 5
    · simp only [if_pos q]
      rw [jnsc_42, if_pos rfl, if_neg (by omega)]
      exact ⟨ho.1, by omega, rfl⟩
    · simp only [if_neg q]
      have a := h.so j j0 (by omega)
      have b := h.sb j (by omega) (by omega)
      rw [jnsc_42, if_neg (by omega), if_neg (by omega)]
      exact a
  · rw [r35] at j1
    rw [r21, jlk_nsc]
    show _ = jlk ρ v (if j = τ 3 5 then ρ 7 17 else S j)
    by_cases q : j = τ 3 5
    · rw [if_pos q, if_pos (by omega)]
      refine (jfs_no (fun i i0 i1 z => ?_)).symm
      have := (hj.2 i i0 i1).2.2.2.2.2.1
      have := z.2.2
      omega
    · rw [if_neg q, if_neg (by omega)]; exact h.lb j v j0 (by omega) v0 v1
  · obtain ⟨n, s, p, c⟩ := (h.rf i i0 i1).1 hk
    have hc : ∀ s, jclo ρ S (τ 3 5) s → jclo (jnsc ρ (S o)) (fun j => if j = τ 3 5 then ρ 7 17 else S j) (jOpn τ o 3 5) s ∧ jnsc ρ (S o) 42 s = ρ 42 s ∧ jlk (jnsc ρ (S o)) (ρ 45 i) s = jlk ρ (ρ 45 i) s := fun s c => by
      refine ⟨⟨⟨c.1.1, by rw [e7.2.1]; have := c.1.2; omega⟩, fun j j0 j1 => ?_⟩, by rw [jnsc_42, if_neg (by have := c.1.2; omega)], rfl⟩
      show (if j = τ 3 5 then ρ 7 17 else S j) ≠ s
      rw [r35] at j1
      split
      · have := c.1.2; omega
      · exact c.2 j j0 (by omega)
    refine ⟨n, s, jpt_to hc n _ _ p, ?_⟩
    rcases c with ⟨j, j0, j1, j2, j3, j4⟩ | ⟨c1, c2, c3, c4⟩
    · refine Or.inl ⟨j, ⟨j0.1, by omega⟩, ?_, j2, j3, ?_⟩
      · show s = (if j = τ 3 5 then ρ 7 17 else S j)
        rw [if_neg (by omega)]; exact j1
      · rw [r23, if_neg (by omega)]; exact j4
    · exact Or.inr ⟨(hc s c1).1, c2, c3, c4⟩
theorem jCls_ne {τ : JM} {a : Nat} {b : Int} (h : a ≠ 19 ∧ a ≠ 24) (h2 : ¬ (a = 3 ∧ b = 5)) : jCls τ a b = τ a b := by
  unfold jCls; rw [jset_ne _ h2, jcl2_ne τ _ h]
theorem jCls_35 (τ : JM) : jCls τ 3 5 = τ 3 5 - 1 := by unfold jCls; rw [jset_eq]
theorem jCls_in {τ : JM} {i : Int} (h0 : τ 23 (τ 3 5 - 1) ≤ i) (h1 : i < τ 2 6) (h : τ 24 i = τ 3 5 - 1) : jCls τ 19 i = jlb τ (τ 3 5 - 1) (τ 18 i) ∧ jCls τ 24 i = (if jlb τ (τ 3 5 - 1) (τ 18 i) = -1 then τ 22 (τ 3 5 - 1) else -1) := by
  unfold jCls
  rw [jset_nk _ (by decide), jset_nk _ (by decide)]
  unfold jcl2
  rw [if_pos ⟨Or.inl rfl, h0, h1, h⟩, if_pos rfl, if_pos ⟨Or.inr rfl, h0, h1, h⟩, if_neg (by decide)]
  exact ⟨rfl, rfl⟩
theorem jCls_out {τ : JM} {i : Int} (h : τ 24 i ≠ τ 3 5 - 1) : jCls τ 19 i = τ 19 i ∧ jCls τ 24 i = τ 24 i := by
  unfold jCls
  rw [jset_nk _ (by decide), jset_nk _ (by decide)]
  unfold jcl2
  rw [if_neg (fun q => h q.2.2.2), if_neg (fun q => h q.2.2.2)]
  exact ⟨rfl, rfl⟩
theorem jCD.lbl {σ0 τ ρ : JM} {S : Int → Int} (h : jCD σ0 τ ρ S) {j v : Int} (hj : 0 ≤ j ∧ j < τ 3 5) (hv : 0 ≤ v ∧ v < 20) : jlb τ j v = jlk ρ v (S j) := by
  have := h.s0.1
  unfold jlb
  rw [if_pos hv, jat_in (by omega) (by omega), h.lb j v hj.1 hj.2 hv.1 hv.2]
theorem jCD.nam {σ0 τ ρ : JM} {S : Int → Int} (h : jCD σ0 τ ρ S) (hj : jit σ0 ρ) {i : Int} (i0 : 0 ≤ i) (i1 : i < ρ 7 16) (hk : jrk (ρ 44 i)) : τ 18 i = ρ 45 i ∧ 0 ≤ ρ 45 i ∧ ρ 45 i < 20 := by
  have a := h.it i i0 i1
  have b := (hj.2 i i0 i1).2.2.2.1
  refine ⟨?_, b.1, a.2 (Or.inr hk)⟩
  rw [a.1.2.2.2]
  unfold jmV
  rw [if_neg (by rcases hk with q | q <;> omega)]
/-- a scope other than the outermost is closed -/
theorem jCD.cls {σ0 τ ρ : JM} {S : Int → Int} (h : jCD σ0 τ ρ S) (hj : jit σ0 ρ) (h2 : 2 ≤ τ 3 5) : jCD σ0 (jCls τ) ρ S := by
  have s0 := h.s0
  have e35 := jCls_35 τ
  have ne : ∀ {a : Nat} {b : Int}, a ≠ 19 ∧ a ≠ 24 → ¬ (a = 3 ∧ b = 5) → jCls τ a b = τ a b := fun a b => jCls_ne a b
  have hcl : ∀ s, jclo ρ S (τ 3 5) s → jclo ρ S (jCls τ 3 5) s := fun s c => ⟨c.1, fun j j0 j1 => c.2 j j0 (by omega)⟩
  refine ⟨h.kc.cls, ⟨?_, ?_, ?_, h.nn.2.2.2⟩, ⟨by omega, s0.2.1, ?_, s0.2.2.2⟩, fun j j0 j1 => ?_, fun i j i0 i1 i2 => ?_, fun j j0 j1 => ?_, fun j v j0 j1 v0 v1 => ?_, fun i i0 i1 => ?_, fun i i0 i1 => ⟨fun hk => ?_, fun hk => ?_⟩⟩
  · rw [ne (by decide) (by decide)]; exact h.nn.1
  · rw [ne (by decide) (by decide)]; exact h.nn.2.1
  · rw [ne (by decide) (by decide)]; exact h.nn.2.2.1
  · rw [ne (by decide) (by decide)]; exact s0.2.2.1
  · rw [ne (by decide) (by omega)]; exact h.sb j j0 (by omega)
  · rw [ne (by decide) (by omega), ne (by decide) (by omega)]; exact h.sm i j i0 i1 (by omega)
  · rw [ne (by decide) (by omega)]; exact h.so j j0 (by omega)
  · rw [ne (by decide) (by omega)]; exact h.lb j v j0 (by omega) v0 v1
  · rw [ne (by decide) (by omega), ne (by decide) (by omega), ne (by decide) (by omega), ne (by decide) (by omega)]; exact h.it i i0 i1
  · obtain ⟨n, s, p, c⟩ := (h.rf i i0 i1).1 hk
    have p' := jpt_to (ρ' := ρ) (S' := S) (h' := jCls τ 3 5) (v := ρ 45 i) (fun s c => ⟨hcl s c, rfl, rfl⟩) n _ _ p
    rcases c with ⟨j, j0, j1, j2, j3, j4⟩ | ⟨c1, c2, c3, c4⟩
    · by_cases q : j = τ 3 5 - 1
      · subst q
        obtain ⟨o1, o2⟩ := jCls_in j4 (by rw [h.nn.1]; exact i1) j2
        have nm := h.nam hj i0 i1 hk
        rw [nm.1, h.lbl j0 nm.2] at o1 o2
        have clk : jclo ρ S (jCls τ 3 5) s := ⟨by rw [j1]; exact (h.sb _ j0.1 j0.2).1, fun j a b e => by
          rw [j1] at e
          have := h.inj ⟨a, by omega⟩ j0 e
          omega⟩
        by_cases z : jlk ρ (ρ 45 i) (S (τ 3 5 - 1)) = -1
        · have so := h.so (τ 3 5 - 1) (by omega) (by omega)
          refine ⟨n + 1, ρ 42 s, jpt_snoc n _ _ p' clk (by rw [j1]; exact z), Or.inl ⟨τ 22 (τ 3 5 - 1), ⟨so.1, by omega⟩, by rw [j1]; exact so.2.2, by rw [o2, if_pos z], by rw [o1, z], ?_⟩⟩
          rw [ne (by decide) (by omega)]
          by_cases y : τ 22 (τ 3 5 - 1) = τ 3 5 - 1
          · omega
          · have := (h.sm (τ 22 (τ 3 5 - 1)) (τ 3 5 - 1) so.1 so.2.1 (by omega)).2
            omega
        · refine ⟨n, s, p', Or.inr ⟨clk, by rw [o2, if_neg z], by rw [o1, j1], ?_⟩⟩
          have := jlk_b ρ (ρ 45 i) (S (τ 3 5 - 1))
          rw [o1]; omega
      · obtain ⟨o1, o2⟩ := jCls_out (τ := τ) (i := i) (by omega)
        refine ⟨n, s, p', Or.inl ⟨j, ⟨j0.1, by omega⟩, j1, by rw [o2]; exact j2, by rw [o1]; exact j3, ?_⟩⟩
        rw [ne (by decide) (by omega)]; exact j4
    · obtain ⟨o1, o2⟩ := jCls_out (τ := τ) (i := i) (by omega)
      exact ⟨n, s, p', Or.inr ⟨hcl s c1, by rw [o2]; exact c2, by rw [o1]; exact c3, by rw [o1]; exact c4⟩⟩
  · have a := (h.rf i i0 i1).2 hk
    obtain ⟨o1, o2⟩ := jCls_out (τ := τ) (i := i) (by omega)
    rw [o1, o2]; exact a
theorem jAdd2_row (τ : JM) (x k : Int) : (∀ b, jAdd2 τ x k 15 b = if b = τ 2 6 then x else τ 15 b) ∧ (∀ b, jAdd2 τ x k 16 b = if b = τ 2 6 then k else τ 16 b) ∧ (∀ b, jAdd2 τ x k 17 b = if b = τ 2 6 then τ 4 7 else τ 17 b) ∧ (∀ b, jAdd2 τ x k 18 b = if b = τ 2 6 then jvi k (jat τ 11 80 x) (jval τ (jat τ 9 80 x)) else τ 18 b) ∧ (∀ b, jAdd2 τ x k 19 b = if b = τ 2 6 then -1 else τ 19 b) ∧ (∀ b, jAdd2 τ x k 24 b = if b = τ 2 6 then (if jref k then jsco τ (jat τ 9 80 x) else -1) else τ 24 b) ∧ (∀ b, jAdd2 τ x k 21 b = if k = 108 ∧ b = jsco τ (jat τ 9 80 x) * 20 + jval τ (jat τ 9 80 x) then τ 2 6 else τ 21 b) ∧ jAdd2 τ x k 2 6 = τ 2 6 + 1 := by
  refine ⟨fun b => ?_, fun b => ?_, fun b => ?_, fun b => ?_, fun b => ?_, fun b => ?_, fun b => ?_, ?_⟩ <;> (by_cases hk : k = 108 <;> simp [jAdd2, jItm, jset, hk])
theorem jAdd2_ne {τ : JM} {x k : Int} {a : Nat} {b : Int} (h : ¬ (15 ≤ a ∧ a ≤ 19) ∧ a ≠ 21 ∧ a ≠ 24) (h2 : ¬ (a = 2 ∧ b = 6)) : jAdd2 τ x k a b = τ a b := by
  have e : ∀ (X : JM) (s v : Int), X a b = τ a b → jset (if k = 108 then jset X 21 s v else X) 24 (τ 2 6) (if jref k then jsco τ (jat τ 9 80 x) else -1) a b = τ a b := fun X s v hX => by
    rw [jset_ne _ (fun q => h.2.2 q.1)]
    split
    · rw [jset_ne _ (fun q => h.2.1 q.1)]; exact hX
    · exact hX
  refine e _ _ _ ?_
  unfold jItm
  rw [jset_ne _ h2, jset_ne _ (by omega), jset_ne _ (by omega), jset_ne _ (by omega), jset_ne _ (by omega), jset_ne _ (by omega)]
theorem jkc.add {σ0 τ : JM} (h : jkc σ0 τ) (x k : Int) : jkc σ0 (jAdd2 τ x k) := fun a b h1 => by
  rw [jAdd2_ne (by omega) (by omega)]; exact h a b h1
/-- an item is made -/
theorem jCD.add {σ0 τ ρ : JM} {S : Int → Int} (h : jCD σ0 τ ρ S) (hn : 0 ≤ ρ 7 16) {x k a aS d : Int} (hk : k = jch (ρ 34 x)) (h6 : 0 ≤ ρ 34 x ∧ ρ 34 x < 6) (ea : ρ 34 x ≠ 5 → jval τ (jat τ 9 80 x) = a) (es : ρ 34 x ≠ 5 → (0 ≤ jsco τ (jat τ 9 80 x) ∧ jsco τ (jat τ 9 80 x) < τ 3 5) ∧ S (jsco τ (jat τ 9 80 x)) = aS) (ed : τ 4 7 = d)
    (ev : jvi k (jat τ 11 80 x) (jval τ (jat τ 9 80 x)) = if ρ 34 x = 2 then 100 * ρ 36 x + a else a) (hl : ρ 34 x = 0 → jlk ρ a aS = -1) (ha : ρ 34 x = 0 ∨ jrk (ρ 34 x) → 0 ≤ a ∧ a < 20) : jCD σ0 (jAdd2 τ x k) (jmk ρ x a aS d) S := by
  obtain ⟨r15, r16, r17, r18, r19, r24, r21, r26⟩ := jAdd2_row τ x k
  have rm := jmk_row ρ x a aS d
  have s0 := h.s0
  have n0 := h.nn
  have m7 := jmk_7 ρ x a aS d
  have ja := jch_all (s := ρ 34 x) (by omega)
  have ne : ∀ {a : Nat} {b : Int}, ¬ (15 ≤ a ∧ a ≤ 19) ∧ a ≠ 21 ∧ a ≠ 24 → ¬ (a = 2 ∧ b = 6) → jAdd2 τ x k a b = τ a b := fun a b => jAdd2_ne a b
  have e35 : jAdd2 τ x k 3 5 = τ 3 5 := ne (by decide) (by decide)
  have e22 : ∀ b, jAdd2 τ x k 22 b = τ 22 b := fun b => ne (by decide) (by omega)
  have e23 : ∀ b, jAdd2 τ x k 23 b = τ 23 b := fun b => ne (by decide) (by omega)
  have mV : ∀ i, jmV (jmk ρ x a aS d) i = if i = ρ 7 16 then (if ρ 34 x = 2 then 100 * ρ 36 x + a else a) else jmV ρ i := fun i => by
    unfold jmV
    rw [(rm i).2.1, (rm i).1, (rm i).2.2.1]
    show (if _ then 100 * ρ 36 _ + _ else _) = _
    by_cases q : i = ρ 7 16
    · simp only [if_pos q]
    · simp only [if_neg q]
  have hclo : ∀ v s, jclo ρ S (τ 3 5) s → jclo (jmk ρ x a aS d) S (jAdd2 τ x k 3 5) s ∧ jmk ρ x a aS d 42 s = ρ 42 s ∧ jlk (jmk ρ x a aS d) v s = jlk ρ v s := fun v s c => by
    refine ⟨by rw [e35]; exact c, rfl, ?_⟩
    rw [jlk_mk hn]
    split
    · rfl
    · rename_i q
      rw [if_neg (fun z => ?_)]
      · omega
      · have := es (by omega)
        exact c.2 _ this.1.1 this.1.2 (by rw [this.2]; exact z.2.2)
  refine ⟨h.kc.add x k, ⟨by rw [r26, m7.1, n0.1], ?_, ?_, n0.2.2.2⟩, ⟨by omega, s0.2.1, by rw [e22]; exact s0.2.2.1, s0.2.2.2⟩, fun j j0 j1 => ?_, fun i j i0 i1 i2 => ?_, fun j j0 j1 => ?_, fun j v j0 j1 v0 v1 => ?_, fun i i0 i1 => ?_, fun i i0 i1 => ?_⟩
  · rw [ne (by decide) (by decide)]; exact n0.2.1
  · rw [ne (by decide) (by decide)]; exact n0.2.2.1
  · rw [e23, m7.1, m7.2.1]
    have := h.sb j j0 (by omega)
    omega
  · rw [e23, e23]; exact h.sm i j i0 i1 (by omega)
  · rw [e22]; exact h.so j j0 (by omega)
  · rw [r21, jlk_mk hn]
    have hlb := h.lb j v j0 (by omega) v0 v1
    by_cases q0 : ρ 34 x = 0
    · have e1 := ea (by omega)
      have e2 := es (by omega)
      have e3 := ha (Or.inl q0)
      rw [e1]
      have k8 : k = 108 := by omega
      by_cases q : a = v ∧ aS = S j
      · have ej : jsco τ (jat τ 9 80 x) = j := h.inj e2.1 ⟨j0, by omega⟩ (by rw [e2.2]; exact q.2)
        have z := hl q0
        rw [q.1, q.2] at z
        rw [if_pos ⟨k8, by rw [ej, q.1]⟩, z, if_neg (by simp), if_pos ⟨q0, q.1, q.2⟩]
        exact n0.1
      · rw [if_neg (fun z => ?_), hlb]
        · split
          · rfl
          · rw [if_neg (fun z => q z.2)]; omega
        · have e4 : jsco τ (jat τ 9 80 x) = j := by omega
          have e5 : a = v := by omega
          exact q ⟨e5, by rw [← e2.2, e4]⟩
    · rw [if_neg (fun z => by have := z.1; omega), hlb]
      split
      · rfl
      · rw [if_neg (fun z => q0 z.1)]; omega
  · rw [r15, r16, r17, r18, mV, (rm i).1, (rm i).2.1, (rm i).2.2.1, (rm i).2.2.2.2, n0.1]
    rw [m7.1] at i1
    by_cases q : i = ρ 7 16
    · simp only [if_pos q]
      refine ⟨⟨trivial, ?_, ed, ev⟩, fun z => (ha z).2⟩
      omega
    · simp only [if_neg q]; exact h.it i i0 (by omega)
  · rw [r24, r19, (rm i).2.1, n0.1]
    rw [m7.1] at i1
    by_cases q : i = ρ 7 16
    · simp only [if_pos q]
      refine ⟨fun z => ?_, fun z => ⟨if_neg (by omega), trivial⟩⟩
      have e2 := es (by omega)
      refine ⟨0, aS, ?_, Or.inl ⟨jsco τ (jat τ 9 80 x), by rw [e35]; exact e2.1, e2.2.symm, ?_, ?_, ?_⟩⟩
      · show jmk ρ x a aS d 46 i = aS
        rw [(rm i).2.2.2.1, if_pos q]
      · rw [r24, n0.1, if_pos q, if_pos (by omega)]
      · rw [r19, n0.1, if_pos q]
      · rw [e23]
        have := (h.sb _ e2.1.1 e2.1.2).2.2
        omega
    · simp only [if_neg q]
      refine ⟨fun z => ?_, (h.rf i i0 (by omega)).2⟩
      obtain ⟨n, s, p, c⟩ := (h.rf i i0 (by omega)).1 z
      have e45 : jmk ρ x a aS d 45 i = ρ 45 i := by rw [(rm i).2.2.1, if_neg q]
      have e46 : jmk ρ x a aS d 46 i = ρ 46 i := by rw [(rm i).2.2.2.1, if_neg q]
      have e24 : jAdd2 τ x k 24 i = τ 24 i := by rw [r24, n0.1, if_neg q]
      have e19 : jAdd2 τ x k 19 i = τ 19 i := by rw [r19, n0.1, if_neg q]
      refine ⟨n, s, ?_, ?_⟩
      · rw [e45, e46]; exact jpt_to (hclo _) n _ _ p
      · rw [e45, e24, e19, e35]
        rcases c with ⟨j, j0, j1, j2, j3, j4⟩ | ⟨c1, c2, c3, c4⟩
        · exact Or.inl ⟨j, j0, j1, j2, j3, by rw [e23]; exact j4⟩
        · have z := hclo (ρ 45 i) s c1
          rw [e35] at z
          exact Or.inr ⟨z.1, c2, by rw [z.2.2]; exact c3, c4⟩
