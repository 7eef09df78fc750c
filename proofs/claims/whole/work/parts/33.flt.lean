/-! ===== no quotient here is a NaN ===== -/
def jfm (f : FP.Core.Fmt) : Prop := 2 ^ f.p = 2 * f.tails ∧ 0 < f.tails ∧ f.qmax - f.qmin + 2 = ((f.exps - 1 : Nat) : Int) ∧ f.qmin ≤ f.qmax ∧ 2 ≤ f.exps
theorem jfm32 : jfm FP.Core.b32 := by unfold jfm; decide +kernel
theorem jfm64 : jfm FP.Core.b64 := by unfold jfm; decide +kernel
theorem fe_inf (f : FP.Core.Fmt) : FP.Core.encode f (.inf false) ≤ (f.exps - 1) * f.tails := by
  simp only [FP.Core.encode, FP.Core.assemble, Bool.toNat_false, Nat.zero_mul, Nat.zero_add, Nat.add_zero]
  exact Nat.le_refl _
theorem fe_bound {f : FP.Core.Fmt} (h : jfm f) {c : Nat} {q : Int} (hc : c < 2 ^ f.p) (h0 : f.qmin ≤ q) : FP.Core.encode f (FP.Core.bound f false c q) ≤ (f.exps - 1) * f.tails := by
  obtain ⟨h2, ht, hq, hm, he⟩ := h
  have one : 1 * f.tails ≤ (f.exps - 1) * f.tails := Nat.mul_le_mul_right _ (by omega)
  unfold FP.Core.bound
  split
  · show (if c < f.tails then FP.Core.assemble f false 0 c else FP.Core.assemble f false ((q - f.qmin).toNat + 1) (c - f.tails)) ≤ _
    split
    · simp only [FP.Core.assemble, Bool.toNat_false]
      omega
    · simp only [FP.Core.assemble, Bool.toNat_false, Nat.zero_mul, Nat.zero_add]
      have k : ((q - f.qmin).toNat + 1 + 1) * f.tails ≤ (f.exps - 1) * f.tails := Nat.mul_le_mul_right _ (by omega)
      rw [Nat.add_mul ((q - f.qmin).toNat + 1) 1] at k
      omega
  · exact fe_inf f
theorem fe_settle {f : FP.Core.Fmt} (h : jfm f) {c : Nat} {q : Int} (h0 : f.qmin ≤ q) : FP.Core.encode f (FP.Core.settle f false c q) ≤ (f.exps - 1) * f.tails := by
  unfold FP.Core.settle
  split
  · exact fe_bound h (by assumption) h0
  · exact fe_bound h (by have := h.1; have := h.2.1; omega) (by omega)
theorem fe_zero {f : FP.Core.Fmt} (h : jfm f) (q : Int) : FP.Core.encode f (.fin false 0 q) ≤ (f.exps - 1) * f.tails := by
  have := h.2.1
  simp only [FP.Core.encode, FP.Core.assemble, Bool.toNat_false, if_pos this]
  omega
theorem fe_ratio {f : FP.Core.Fmt} (h : jfm f) (num den : Nat) (e : Int) : FP.Core.encode f (FP.Core.roundRatio f false num den e) ≤ (f.exps - 1) * f.tails := by
  unfold FP.Core.roundRatio
  split
  · exact fe_zero h _
  · unfold FP.Core.roundAt
    exact fe_settle h (by unfold FP.Core.quantum; omega)
/-- the code of no NaN, the sign + -/
theorem fd_sign {f : FP.Core.Fmt} (h : jfm f) {n : Nat} (hn : n ≤ (f.exps - 1) * f.tails) : (∃ c q, FP.Core.decode f n = .fin false c q) ∨ FP.Core.decode f n = .inf false := by
  obtain ⟨h2, ht, hq, hm, he⟩ := h
  have a : n / f.tails ≤ f.exps - 1 := by
    have := Nat.div_le_div_right (c := f.tails) hn
    rwa [Nat.mul_div_cancel _ ht] at this
  have s : FP.Core.fieldS f n = false := by
    unfold FP.Core.fieldS
    rw [Nat.div_eq_of_lt (show n / f.tails < f.exps by omega)]
    rfl
  unfold FP.Core.decode
  rw [s]
  split
  · rename_i e
    have z : FP.Core.fieldT f n = 0 := by
      unfold FP.Core.fieldE at e
      rw [Nat.mod_eq_of_lt (by omega)] at e
      unfold FP.Core.fieldT
      have d := Nat.div_add_mod n f.tails
      rw [e, Nat.mul_comm] at d
      omega
    rw [if_pos z]
    exact Or.inr rfl
  · split
    · exact Or.inl ⟨_, _, rfl⟩
    · exact Or.inl ⟨_, _, rfl⟩
theorem fe_quot {f : FP.Core.Fmt} (h : jfm f) {x y : Nat} (hx : x ≤ (f.exps - 1) * f.tails) (hy : ∃ c q, FP.Core.decode f y = .fin false c q ∧ c ≠ 0) : FP.Core.div f x y ≤ (f.exps - 1) * f.tails := by
  obtain ⟨c, q, ey, hc⟩ := hy
  unfold FP.Core.div
  rw [ey]
  rcases fd_sign h hx with ⟨c', q', ex⟩ | ex
  · rw [ex]
    simp only [FP.Core.quotient, if_neg hc]
    exact fe_ratio h _ _ _
  · rw [ex]
    simp only [FP.Core.quotient, bne_self_eq_false]
    exact fe_inf f
theorem fe_int {f : FP.Core.Fmt} (h : jfm f) {i : Int} (hi : 0 ≤ i) : FP.Core.fromInt f i ≤ (f.exps - 1) * f.tails := by
  unfold FP.Core.fromInt FP.Core.ofInt FP.Core.round
  rw [show decide (i < 0) = false from decide_eq_false (by omega)]
  exact fe_ratio h _ _ _
theorem fe_conv {f g : FP.Core.Fmt} (hf : jfm f) (hg : jfm g) {x : Nat} (hx : x ≤ (f.exps - 1) * f.tails) : FP.Core.convert f g x ≤ (g.exps - 1) * g.tails := by
  unfold FP.Core.convert
  rcases fd_sign hf hx with ⟨c', q', ex⟩ | ex
  · rw [ex]; exact fe_ratio hg _ _ _
  · rw [ex]
    exact fe_inf g
theorem fn_32 {m : Nat} (h : m ≤ (FP.Core.b32.exps - 1) * FP.Core.b32.tails) : vf_n32 (.ofNat m) := by
  have e : (FP.Core.b32.exps - 1) * FP.Core.b32.tails = 0x7f800000 := by decide +kernel
  rw [e] at h
  unfold vf_n32
  rw [UInt32.le_iff_toNat_le, UInt32.toNat_and]
  refine Nat.le_trans Nat.and_le_left ?_
  rw [UInt32.toNat_ofNat']
  exact Nat.le_trans (Nat.mod_le _ _) h
theorem fn_64 {m : Nat} (h : m ≤ (FP.Core.b64.exps - 1) * FP.Core.b64.tails) : vf_n64 (.ofNat m) := by
  have e : (FP.Core.b64.exps - 1) * FP.Core.b64.tails = 0x7ff0000000000000 := by decide +kernel
  rw [e] at h
  unfold vf_n64
  rw [UInt64.le_iff_toNat_le, UInt64.toNat_and]
  refine Nat.le_trans Nat.and_le_left ?_
  rw [UInt64.toNat_ofNat']
  exact Nat.le_trans (Nat.mod_le _ _) h

