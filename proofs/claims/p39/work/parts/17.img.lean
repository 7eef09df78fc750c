theorem sp_X2_size {σ : JM} : JSp mX2_size 0 0 [(2, 5)] σ (jrv (σ 5 2) σ) jno := by
  refine JSp.of [(2, 5)] rfl (by decide +kernel) rfl rfl rfl (fun l E hA => ?_)
  refine V.aload_n dX2_size_0 rfl ?_
  refine V.getI fa_X2_19 (by decide) rfl dX2_size_1 (fun _ => ?_)
  exact V.iret (jret_i dX2_size_4 rfl) ⟨rfl, rfl⟩
theorem sp_X2_sizeOfRelocations {σ : JM} : JSp mX2_sizeOfRelocations 0 0 [(2, 5)] σ (jrv (σ 5 3) σ) jno := by
  refine JSp.of [(2, 5)] rfl (by decide +kernel) rfl rfl rfl (fun l E hA => ?_)
  refine V.aload_n dX2_sizeOfRelocations_0 rfl ?_
  refine V.getI fa_X2_23 (by decide) rfl dX2_sizeOfRelocations_1 (fun _ => ?_)
  exact V.iret (jret_i dX2_sizeOfRelocations_4 rfl) ⟨rfl, rfl⟩
theorem sp_X2_wordOf {σ : JM} {x : Int} : JSp mX2_wordOf 1 0 [(2, 5), (0, x)] σ (jrv (jat σ 29 1400 x) σ) jno := by
  refine JSp.of [(2, 5), (0, x)] rfl (by decide +kernel) rfl rfl rfl (fun l E hA => ?_)
  refine V.aload_n dX2_wordOf_0 rfl ?_
  refine V.getR fa_X2_9 rfl dX2_wordOf_1 ?_
  refine V.iload_n dX2_wordOf_4 rfl ?_
  refine V.cN [_, _] rfl kc_X2_26 dX2_wordOf_5 (by decide) rfl rfl (sp_X6_at (N := 1400) rfl rfl rfl) (fun _ => ?_)
  exact V.iret (jret_i dX2_wordOf_8 rfl) ⟨rfl, rfl⟩
theorem sp_X2_holdsAddress {σ : JM} {x : Int} (h : σ 5 2 ≤ 1400) : JSp mX2_holdsAddress 0 0 [(2, 5), (0, x)] σ (jrv (if 0 ≤ x ∧ x < σ 5 2 ∧ σ 30 x ≠ 0 then 1 else 0) σ) jno := by
  refine JSp.of [(2, 5), (0, x)] rfl (by decide +kernel) rfl rfl rfl (fun l E hA => ?_)
  refine V.iload_n dX2_holdsAddress_0 rfl ?_
  refine V.if_lt (tgt := 25) dX2_holdsAddress_1 (by decide) (fun h1 => ?_) (fun h1 => ?_)
  · refine V.iconst dX2_holdsAddress_25 ⟨by decide, by decide⟩ ?_
    exact V.iret (jret_z dX2_holdsAddress_26 rfl (by decide)) ⟨jsm (by split <;> omega), rfl⟩
  · refine V.iload_n dX2_holdsAddress_4 rfl ?_
    refine V.aload_n dX2_holdsAddress_5 rfl ?_
    refine V.getI fa_X2_19 (by decide) rfl dX2_holdsAddress_6 (fun _ => ?_)
    refine V.icmp_ge (tgt := 25) dX2_holdsAddress_9 (by decide) (fun h9 => ?_) (fun h9 => ?_)
    · refine V.iconst dX2_holdsAddress_25 ⟨by decide, by decide⟩ ?_
      exact V.iret (jret_z dX2_holdsAddress_26 rfl (by decide)) ⟨jsm (by split <;> omega), rfl⟩
    · refine V.aload_n dX2_holdsAddress_12 rfl ?_
      refine V.getR fa_X2_15 rfl dX2_holdsAddress_13 ?_
      refine V.iload_n dX2_holdsAddress_16 rfl ?_
      refine V.zald (cell := 30) 0 rfl rfl rfl rfl dX2_holdsAddress_17 (by omega) (by omega) (fun _ => ?_)
      refine V.if_eq (tgt := 25) dX2_holdsAddress_18 (by decide) (fun h18 => ?_) (fun h18 => ?_)
      · refine V.iconst dX2_holdsAddress_25 ⟨by decide, by decide⟩ ?_
        exact V.iret (jret_z dX2_holdsAddress_26 rfl (by decide)) ⟨jsm (by split <;> omega), rfl⟩
      · refine V.iconst dX2_holdsAddress_21 ⟨by decide, by decide⟩ ?_
        refine V.goto (tgt := 26) dX2_holdsAddress_22 (by decide) ?_
        exact V.iret (jret_z dX2_holdsAddress_26 rfl (by decide)) ⟨jsm (by split <;> omega), rfl⟩
theorem jsum_bd {g : Int → Int} {x : Int} (h : 0 ≤ x) {c : Int} (hg : ∀ i, 0 ≤ i → i < x → 0 ≤ g i ∧ g i ≤ c) : ∀ y, 0 ≤ y → y ≤ x → 0 ≤ jsum g y ∧ jsum g y ≤ c * y := fun y h0 h1 => jsum_le h0 (fun i i0 i1 => hg i i0 (by omega))
def jput (τ : JM) (v : Int) : JM := jset (jset (jset τ 29 (τ 5 2) v) 30 (τ 5 2) 0) 5 2 (τ 5 2 + 1)
def jputA (τ : JM) (v : Int) : JM := jset (jset (jput τ v) 30 (τ 5 2) 1) 5 3 (τ 5 3 + 1)
theorem sp_X2_put {τ : JM} {v : Int} (h0 : 0 ≤ τ 5 2) (h1 : τ 5 2 < 1400) : JSp mX2_put 0 0 [(2, 5), (0, v)] τ (jvv (jput τ v)) jno := by
  refine JSp.of [(2, 5), (0, v)] rfl (by decide +kernel) rfl rfl rfl (fun l E hA => ?_)
  refine V.aload_n dX2_put_0 rfl ?_
  refine V.getI fa_X2_19 (by decide) rfl dX2_put_1 (fun _ => ?_)
  refine V.sipush dX2_put_4 ⟨by decide, by decide⟩ ?_
  refine V.icmp_ge (tgt := 40) dX2_put_7 (by decide) (fun hh => ?_) (fun hh => ?_)
  · exact absurd hh (by omega)
  · refine V.aload_n dX2_put_10 rfl ?_
    refine V.getR fa_X2_9 rfl dX2_put_11 ?_
    refine V.aload_n dX2_put_14 rfl ?_
    refine V.getI fa_X2_19 (by decide) rfl dX2_put_15 (fun _ => ?_)
    refine V.iload_n dX2_put_18 rfl ?_
    refine V.iast (cell := 29) 0 rfl rfl rfl rfl dX2_put_19 (by omega) (by omega) ?_
    refine V.aload_n dX2_put_20 rfl ?_
    refine V.getR fa_X2_15 rfl dX2_put_21 ?_
    refine V.aload_n dX2_put_24 rfl ?_
    refine V.getI fa_X2_19 (by decide) rfl dX2_put_25 (fun _ => ?_)
    refine V.iconst dX2_put_28 ⟨by decide, by decide⟩ ?_
    refine V.zast (cell := 30) 0 rfl rfl rfl rfl dX2_put_29 (show (0 : Int) ≤ τ 5 2 by omega) (show τ 5 2 < 1400 by omega) (Or.inl rfl) ?_
    refine V.aload_n dX2_put_30 rfl ?_
    refine V.dup dX2_put_31 rfl ?_
    refine V.getI fa_X2_19 (by decide) rfl dX2_put_32 (fun _ => ?_)
    refine V.iconst dX2_put_35 ⟨by decide, by decide⟩ ?_
    refine V.iadd dX2_put_36 ⟨(by first | omega | (show _ ≤ τ 5 2 + 1; omega) | (show τ 5 2 + 1 ≤ _; omega)), (by first | omega | (show _ ≤ τ 5 2 + 1; omega) | (show τ 5 2 + 1 ≤ _; omega))⟩ ?_
    refine V.putI fa_X2_19 (by decide) rfl dX2_put_37 (Or.inl rfl) ?_
    exact V.vret (jret_v dX2_put_40 rfl) ⟨rfl, rfl⟩
theorem sp_X2_putAddress {τ : JM} {v : Int} (h0 : 0 ≤ τ 5 2) (h1 : τ 5 2 < 1400) (h2 : 0 ≤ τ 5 3) (h3 : τ 5 3 ≤ 1400) : JSp mX2_putAddress 1 0 [(2, 5), (0, v)] τ (jvv (jputA τ v)) jno := by
  refine JSp.of [(2, 5), (0, v)] rfl (by decide +kernel) rfl rfl rfl (fun l E hA => ?_)
  refine V.aload_n dX2_putAddress_0 rfl ?_
  refine V.iload_n dX2_putAddress_1 rfl ?_
  refine V.cV0 [_] rfl kc_X2_47 rfl dX2_putAddress_2 (by decide) rfl rfl (sp_X2_put h0 h1) ?_
  have e : jput τ v 5 2 = τ 5 2 + 1 := rfl
  refine V.aload_n dX2_putAddress_5 rfl ?_
  refine V.getI fa_X2_19 (by decide) rfl dX2_putAddress_6 (fun _ => ?_)
  refine V.if_le (tgt := 34) dX2_putAddress_9 (by decide) (fun hh => ?_) (fun hh => ?_)
  · exact absurd hh (by omega)
  · refine V.aload_n dX2_putAddress_12 rfl ?_
    refine V.getR fa_X2_15 rfl dX2_putAddress_13 ?_
    refine V.aload_n dX2_putAddress_16 rfl ?_
    refine V.getI fa_X2_19 (by decide) rfl dX2_putAddress_17 (fun _ => ?_)
    refine V.iconst dX2_putAddress_20 ⟨by decide, by decide⟩ ?_
    refine V.isub dX2_putAddress_21 ⟨(by omega), (by omega)⟩ ?_
    rw [e, Int.add_sub_cancel]
    refine V.iconst dX2_putAddress_22 ⟨by decide, by decide⟩ ?_
    refine V.zast (cell := 30) 0 rfl rfl rfl rfl dX2_putAddress_23 (by omega) (by omega) (Or.inr rfl) ?_
    refine V.aload_n dX2_putAddress_24 rfl ?_
    refine V.dup dX2_putAddress_25 rfl ?_
    refine V.getI fa_X2_23 (by decide) rfl dX2_putAddress_26 (fun _ => ?_)
    refine V.iconst dX2_putAddress_29 ⟨by decide, by decide⟩ ?_
    refine V.iadd dX2_putAddress_30 ⟨(by first | omega | (show _ ≤ τ 5 3 + 1; omega) | (show τ 5 3 + 1 ≤ _; omega)), (by first | omega | (show _ ≤ τ 5 3 + 1; omega) | (show τ 5 3 + 1 ≤ _; omega))⟩ ?_
    refine V.putI fa_X2_23 (by decide) rfl dX2_putAddress_31 (Or.inl rfl) ?_
    exact V.vret (jret_v dX2_putAddress_34 rfl) ⟨rfl, rfl⟩
def jfl : Nat → JM → JM
  | 0, τ => τ
  | n + 1, τ => jput (jfl n τ) 0
theorem jfl_2 (τ : JM) : ∀ n : Nat, jfl n τ 5 2 = τ 5 2 + n := by
  intro n
  induction n with
  | zero => exact (Int.add_zero _).symm
  | succ n ih => show jfl n τ 5 2 + 1 = _; rw [ih]; omega
theorem sp_X2_fill {τ : JM} {c : Int} (h0 : 0 ≤ τ 5 2) (hc : 0 ≤ c) (h1 : τ 5 2 + c ≤ 1400) : JSp mX2_fill 1 0 [(2, 5), (0, c)] τ (jvv (jfl c.toNat τ)) jno := by
  refine JSp.of [(2, 5), (0, c), (9, 0)] rfl (by decide +kernel) rfl rfl rfl (fun l E hA => ?_)
  have loop : ∀ (m : Nat) (x : Int), 0 ≤ x → x ≤ c → c - x < m → V l E mX2_fill 1 0 (jvv (jfl c.toNat τ)) jno 2 [(2, 5), (0, c), (0, x)] [] (jfl x.toNat τ) := by
    intro m
    induction m with
    | zero => intro x a1 a2 a3; omega
    | succ m ih =>
      intro x a1 a2 a3
      have b1 := jfl_2 τ x.toNat
      have b3 := ih (x + 1) (by omega)
      rw [show (x + 1).toNat = x.toNat + 1 by omega] at b3
      refine V.iload_n dX2_fill_2 rfl ?_
      refine V.iload_n dX2_fill_3 rfl ?_
      refine V.icmp_ge (tgt := 18) dX2_fill_4 (by decide) (fun h4 => ?_) (fun h4 => ?_)
      · exact V.vret (jret_v dX2_fill_18 rfl) ⟨rfl, by rw [show x = c by omega]⟩
      · refine V.aload_n dX2_fill_7 rfl ?_
        refine V.iconst dX2_fill_8 ⟨by decide, by decide⟩ ?_
        refine V.cV0 [_] rfl kc_X2_47 rfl dX2_fill_9 (by decide) rfl rfl (sp_X2_put (by omega) (by omega)) ?_
        refine V.iinc (L' := [_, _, _]) dX2_fill_12 rfl ⟨(by omega), (by omega)⟩ rfl ?_
        refine V.goto (tgt := 2) dX2_fill_15 (by decide) ?_
        exact b3 (by omega) (by omega)
  refine V.iconst dX2_fill_0 ⟨by decide, by decide⟩ ?_
  refine V.istore_n (L' := [_, _, _]) dX2_fill_1 rfl rfl ?_
  exact loop (c.toNat + 1) 0 (by omega) hc (by omega)
/-! words: kinds K, values v, targets T -/
def jtd (K v T : Int → Int) (i : Int) : Int := jad K v (T i)
def jwv (K v T : Int → Int) (i o : Int) : Int := if K i = 119 ∨ K i = 111 then v i else if K i = 97 then jtd K v T i else if K i = 106 then 10008 + (jtd K v T i - jad K v i - 1) else if K i = 74 then (if o = 0 then 20000 else jtd K v T i) else 0
def jwm (K : Int → Int) (i o : Int) : Int := if K i = 97 ∨ (K i = 74 ∧ o = 1) then 1 else 0
def jFN (K v T : Int → Int) : Nat → Int → Int
  | 0 => fun _ => 0
  | n + 1 => fun b => if b < jad K v n then jFN K v T n b else jwv K v T n (b - jad K v n)
def jGN (K v : Int → Int) : Nat → Int → Int
  | 0 => fun _ => 0
  | n + 1 => fun b => if b < jad K v n then jGN K v n b else jwm K n (b - jad K v n)
/-- what is true of a listing that can be written -/
def jlok (K v T : Int → Int) (n : Int) : Prop := 0 ≤ n ∧ n ≤ 200 ∧ (∀ i, 0 ≤ i → i < n → (K i = 103 → v i ≤ 8) ∧ (K i = 106 ∨ K i = 74 ∨ K i = 97 → 0 ≤ T i ∧ T i < n) ∧ (K i = 108 ∨ K i = 119 ∨ K i = 111 ∨ K i = 106 ∨ K i = 74 ∨ K i = 97 ∨ K i = 103) ∧ 0 ≤ v i ∧ v i ≤ 20000)
theorem jad_m {K v T : Int → Int} {n : Int} (h : jlok K v T n) {i j : Int} (h0 : 0 ≤ i) (h1 : i ≤ j) (h2 : j ≤ n) : jad K v i ≤ jad K v j := by
  obtain ⟨m, rfl⟩ : ∃ m : Nat, j = i + (m : Int) := ⟨(j - i).toNat, by omega⟩
  clear h1
  induction m with
  | zero => rw [show i + ((0 : Nat) : Int) = i by omega]; exact Int.le_refl _
  | succ m ih =>
    have := ih (by omega)
    rw [show i + ((m + 1 : Nat) : Int) = (i + m) + 1 by omega, jad_s K v (by omega)]
    have b := jad_b (K := K) (v := v) (N := n) (fun i i0 i1 => (h.2.2 i i0 i1).1) (show 0 ≤ i + (m : Int) by omega) (by omega)
    have := jtk_le (k := K (i + m)) (v := v (i + m)) (h.2.2 _ (by omega) (by omega)).1 b.1
    omega
theorem jFN_at {K v T : Int → Int} {n : Int} (h : jlok K v T n) {i : Int} (h0 : 0 ≤ i) : ∀ (m : Nat), i < m → (m : Int) ≤ n → ∀ b, jad K v i ≤ b → b < jad K v (i + 1) → jFN K v T m b = jwv K v T i (b - jad K v i) ∧ jGN K v m b = jwm K i (b - jad K v i) := by
  intro m
  induction m with
  | zero => intro q; omega
  | succ m ih =>
    intro q1 q2 b b1 b2
    by_cases e : i = m
    · subst e
      have e2 : ((m : Int).toNat : Int) = m := by omega
      unfold jFN jGN
      rw [if_neg (by omega), if_neg (by omega)]
      exact ⟨rfl, rfl⟩
    · have := jad_m h (i := i + 1) (j := m) (by omega) (by omega) (by omega)
      unfold jFN jGN
      rw [if_pos (by omega), if_pos (by omega)]
      exact ih (by omega) (by omega) b b1 b2
/-- so far written: w words -/
def jWb (σ τ : JM) (F G : Int → Int) (w : Int) : Prop := (∀ a b, a ≠ 29 → a ≠ 30 → ¬ (a = 5 ∧ (b = 2 ∨ b = 3)) → τ a b = σ a b) ∧ τ 5 2 = w ∧ τ 5 3 = jsum G w ∧ ∀ b, 0 ≤ b → b < w → τ 29 b = F b ∧ τ 30 b = G b
theorem jWb_put {σ τ : JM} {F G : Int → Int} {w v : Int} (h0 : 0 ≤ w) (h : jWb σ τ F G w) (hF : F w = v) (hG : G w = 0) : jWb σ (jput τ v) F G (w + 1) := by
  obtain ⟨h1, h2, h3, h4⟩ := h
  refine ⟨fun a b n1 n2 n3 => ?_, by show τ 5 2 + 1 = _; rw [h2], by show τ 5 3 = _; rw [h3, jsum_s G h0, hG, Int.add_zero], fun b b0 b1 => ?_⟩
  · unfold jput
    rw [jset_ne _ (fun q => n3 ⟨q.1, Or.inl q.2⟩), jset_ne _ (fun q => n2 q.1), jset_ne _ (fun q => n1 q.1)]
    exact h1 a b n1 n2 n3
  · unfold jput
    rw [h2]
    by_cases e : b = w
    · subst e; exact ⟨by rw [jset_nk _ (by decide), jset_nk _ (by decide), jset_eq, hF], by rw [jset_nk _ (by decide), jset_eq, hG]⟩
    · have := h4 b b0 (by omega)
      exact ⟨by rw [jset_nk _ (by decide), jset_nk _ (by decide), jset_nj _ e]; exact this.1, by rw [jset_nk _ (by decide), jset_nj _ e, jset_nk _ (by decide)]; exact this.2⟩
theorem jWb_putA {σ τ : JM} {F G : Int → Int} {w v : Int} (h0 : 0 ≤ w) (h : jWb σ τ F G w) (hF : F w = v) (hG : G w = 1) : jWb σ (jputA τ v) F G (w + 1) := by
  obtain ⟨h1, h2, h3, h4⟩ := h
  refine ⟨fun a b n1 n2 n3 => ?_, by show τ 5 2 + 1 = _; rw [h2], by show τ 5 3 + 1 = _; rw [h3, jsum_s G h0, hG], fun b b0 b1 => ?_⟩
  · unfold jputA jput
    rw [jset_ne _ (fun q => n3 ⟨q.1, Or.inr q.2⟩), jset_ne _ (fun q => n2 q.1), jset_ne _ (fun q => n3 ⟨q.1, Or.inl q.2⟩), jset_ne _ (fun q => n2 q.1), jset_ne _ (fun q => n1 q.1)]
    exact h1 a b n1 n2 n3
  · unfold jputA jput
    rw [h2]
    by_cases e : b = w
    · subst e; exact ⟨by rw [jset_nk _ (by decide), jset_nk _ (by decide), jset_nk _ (by decide), jset_nk _ (by decide), jset_eq, hF], by rw [jset_nk _ (by decide), jset_eq, hG]⟩
    · have := h4 b b0 (by omega)
      exact ⟨by rw [jset_nk _ (by decide), jset_nk _ (by decide), jset_nk _ (by decide), jset_nk _ (by decide), jset_nj _ e]; exact this.1, by rw [jset_nk _ (by decide), jset_nj _ e, jset_nk _ (by decide), jset_nj _ e, jset_nk _ (by decide)]; exact this.2⟩
theorem jWb_fl {σ τ : JM} {F G : Int → Int} {w : Int} (h0 : 0 ≤ w) (h : jWb σ τ F G w) : ∀ c : Nat, (∀ b, w ≤ b → b < w + c → F b = 0 ∧ G b = 0) → jWb σ (jfl c τ) F G (w + c) := by
  intro c
  induction c with
  | zero => intro _; rw [show w + ((0 : Nat) : Int) = w by omega]; exact h
  | succ c ih =>
    intro hz
    have := jWb_put (v := 0) (by omega) (ih (fun b b0 b1 => hz b b0 (by omega))) (hz (w + c) (by omega) (by omega)).1 (hz (w + c) (by omega) (by omega)).2
    rw [show w + ((c + 1 : Nat) : Int) = w + c + 1 by omega]
    exact this
theorem jsum_nn {g : Int → Int} {x : Int} (h : 0 ≤ x) {c : Int} (hg : ∀ i, 0 ≤ g i ∧ g i ≤ c) : 0 ≤ jsum g x ∧ jsum g x ≤ c * x := jsum_le h (fun i _ _ => hg i)
theorem jGN_b (K v : Int → Int) : ∀ (n : Nat) (b : Int), 0 ≤ jGN K v n b ∧ jGN K v n b ≤ 1 := by
  intro n
  induction n with
  | zero => intro b; exact ⟨Int.le_refl 0, by show (0 : Int) ≤ 1; omega⟩
  | succ n ih =>
    intro b
    unfold jGN
    split
    · exact ih b
    · unfold jwm; split <;> omega
/-- addresses stand in the row -/
def jadr (σ : JM) : Prop := ∀ i, 0 ≤ i → i < σ 2 6 → σ 20 i = jad (σ 16) (σ 18) i
theorem sp_X2_writeItem {σ τ : JM} {x w : Int} (hlok : jlok (σ 16) (σ 18) (σ 19) (σ 2 6)) (hadr : jadr σ) (h0 : 0 ≤ x) (h1 : x < σ 2 6) (hw : w = jad (σ 16) (σ 18) x) (hW : jWb σ τ (jFN (σ 16) (σ 18) (σ 19) (σ 2 6).toNat) (jGN (σ 16) (σ 18) (σ 2 6).toNat) w) :
    JSp mX2_writeItem 4 0 [(2, 5), (2, 2), (0, x)] τ (fun v t => v = none ∧ jWb σ t (jFN (σ 16) (σ 18) (σ 19) (σ 2 6).toNat) (jGN (σ 16) (σ 18) (σ 2 6).toNat) (jad (σ 16) (σ 18) (x + 1))) jno := by
  obtain ⟨F, hF⟩ : ∃ F, jFN (σ 16) (σ 18) (σ 19) (σ 2 6).toNat = F := ⟨_, rfl⟩
  obtain ⟨G, hG⟩ : ∃ G, jGN (σ 16) (σ 18) (σ 2 6).toNat = G := ⟨_, rfl⟩
  have hFG : ∀ b, w ≤ b → b < jad (σ 16) (σ 18) (x + 1) → F b = jwv (σ 16) (σ 18) (σ 19) x (b - w) ∧ G b = jwm (σ 16) x (b - w) := fun b b0 b1 => by
    have := jFN_at hlok h0 (σ 2 6).toNat (by omega) (by have := hlok.1; omega) b (by omega) b1
    rw [← hF, ← hG, hw]; exact this
  have hGb : ∀ b, 0 ≤ G b ∧ G b ≤ 1 := fun b => by rw [← hG]; exact jGN_b _ _ _ b
  rw [hF, hG] at hW ⊢
  have hs := jad_s (σ 16) (σ 18) h0
  have n200 := hlok.2.1
  have hb := jad_b (K := σ 16) (v := σ 18) (N := σ 2 6) (fun i i0 i1 => (hlok.2.2 i i0 i1).1) h0 (Int.le_of_lt h1)
  obtain ⟨k1, k2, k3, k4⟩ := hlok.2.2 x h0 h1
  obtain ⟨w1, w2, w3, w4⟩ := id hW
  have hg := jsum_nn (g := G) (x := w) (c := 1) (by omega) hGb
  have rr : ∀ (a : Nat) (b : Int), a < 29 → a ≠ 5 → τ a b = σ a b := fun a b q1 q2 => w1 a b (by omega) (by omega) (fun q => q2 q.1)
  have e1 : jat τ 16 200 x = σ 16 x := by rw [jat_in h0 (by omega), rr 16 x (by decide) (by decide)]
  have e2 : jat τ 18 200 x = σ 18 x := by rw [jat_in h0 (by omega), rr 18 x (by decide) (by decide)]
  have e4 : jat τ 20 200 x = w := by rw [jat_in h0 (by omega), rr 20 x (by decide) (by decide), hadr x h0 h1, hw]
  have e3 : (σ 16 x = 106 ∨ σ 16 x = 74 ∨ σ 16 x = 97) → jtad τ x = jtd (σ 16) (σ 18) (σ 19) x ∧ 0 ≤ jtad τ x ∧ jtad τ x ≤ 1400 := fun hk => by
    obtain ⟨t0, t1⟩ := k2 hk
    have : jtad τ x = jtd (σ 16) (σ 18) (σ 19) x := by
      unfold jtad jtd
      rw [jat_in (k := 19) h0 (by omega), rr 19 x (by decide) (by decide), jat_in t0 (by omega), rr 20 _ (by decide) (by decide), hadr _ t0 t1]
    have b := jad_b (K := σ 16) (v := σ 18) (N := σ 2 6) (fun i i0 i1 => (hlok.2.2 i i0 i1).1) t0 (Int.le_of_lt t1)
    rw [this]
    unfold jtd
    exact ⟨rfl, by omega, by omega⟩
  refine JSp.of [(2, 5), (2, 2), (0, x)] rfl (by decide +kernel) rfl rfl rfl (fun l E hA => ?_)
  refine V.aload_n dX2_writeItem_0 rfl ?_
  refine V.iload_n dX2_writeItem_1 rfl ?_
  refine V.cV [_] rfl kc_X2_40 rfl dX2_writeItem_2 (by decide) rfl rfl (sp_X3_kind) (fun _ => ?_)
  rw [e1]
  by_cases h119 : σ 16 x = 119
  · have z0 := hFG w (by omega) (by rw [hs, h119, ← hw, show jtk 119 (σ 18 x) w = 1 by simp [jtk]]; omega)
    rw [Int.sub_self] at z0
    have z : jWb σ (jput τ (σ 18 x)) F G (jad (σ 16) (σ 18) (x + 1)) := by
      rw [hs, h119, ← hw, show jtk 119 (σ 18 x) w = 1 by simp [jtk]]
      exact jWb_put (by omega) hW (by rw [z0.1]; simp [jwv, h119]) (by rw [z0.2]; simp [jwm, h119])
    rw [h119]
    refine V.lookup (tgt := 64) dX2_writeItem_5 (by decide) (off := 59) (by decide) (by decide) ?_
    refine V.aload_n dX2_writeItem_64 rfl ?_
    refine V.aload_n dX2_writeItem_65 rfl ?_
    refine V.iload_n dX2_writeItem_66 rfl ?_
    refine V.cV [_] rfl kc_X2_44 rfl dX2_writeItem_67 (by decide) rfl rfl (sp_X3_value) (fun _ => ?_)
    rw [e2]
    refine V.cV0 [_] rfl kc_X2_47 rfl dX2_writeItem_70 (by decide) rfl rfl (sp_X2_put (by omega) (by omega)) ?_
    refine V.goto (tgt := 140) dX2_writeItem_73 (by decide) ?_
    exact V.vret (jret_v dX2_writeItem_140 rfl) ⟨rfl, z⟩
  by_cases h111 : σ 16 x = 111
  · have z0 := hFG w (by omega) (by rw [hs, h111, ← hw, show jtk 111 (σ 18 x) w = 1 by simp [jtk]]; omega)
    rw [Int.sub_self] at z0
    have z : jWb σ (jput τ (σ 18 x)) F G (jad (σ 16) (σ 18) (x + 1)) := by
      rw [hs, h111, ← hw, show jtk 111 (σ 18 x) w = 1 by simp [jtk]]
      exact jWb_put (by omega) hW (by rw [z0.1]; simp [jwv, h111]) (by rw [z0.2]; simp [jwm, h111])
    rw [h111]
    refine V.lookup (tgt := 64) dX2_writeItem_5 (by decide) (off := 59) (by decide) (by decide) ?_
    refine V.aload_n dX2_writeItem_64 rfl ?_
    refine V.aload_n dX2_writeItem_65 rfl ?_
    refine V.iload_n dX2_writeItem_66 rfl ?_
    refine V.cV [_] rfl kc_X2_44 rfl dX2_writeItem_67 (by decide) rfl rfl (sp_X3_value) (fun _ => ?_)
    rw [e2]
    refine V.cV0 [_] rfl kc_X2_47 rfl dX2_writeItem_70 (by decide) rfl rfl (sp_X2_put (by omega) (by omega)) ?_
    refine V.goto (tgt := 140) dX2_writeItem_73 (by decide) ?_
    exact V.vret (jret_v dX2_writeItem_140 rfl) ⟨rfl, z⟩
  by_cases h97 : σ 16 x = 97
  · have e5 := e3 (by omega)
    have z0 := hFG w (by omega) (by rw [hs, h97, ← hw, show jtk 97 (σ 18 x) w = 1 by simp [jtk]]; omega)
    rw [Int.sub_self] at z0
    have z : jWb σ (jputA τ (jtd (σ 16) (σ 18) (σ 19) x)) F G (jad (σ 16) (σ 18) (x + 1)) := by
      rw [hs, h97, ← hw, show jtk 97 (σ 18 x) w = 1 by simp [jtk]]
      exact jWb_putA (by omega) hW (by rw [z0.1]; simp [jwv, h97]) (by rw [z0.2]; simp [jwm, h97])
    rw [h97]
    refine V.lookup (tgt := 76) dX2_writeItem_5 (by decide) (off := 71) (by decide) (by decide) ?_
    refine V.aload_n dX2_writeItem_76 rfl ?_
    refine V.aload_n dX2_writeItem_77 rfl ?_
    refine V.iload_n dX2_writeItem_78 rfl ?_
    refine V.cV [_] rfl kc_X2_51 rfl dX2_writeItem_79 (by decide) rfl rfl (sp_X3_targetAddress) (fun _ => ?_)
    rw [e5.1]
    refine V.cV0 [_] rfl kc_X2_54 rfl dX2_writeItem_82 (by decide) rfl rfl (sp_X2_putAddress (by omega) (by omega) (by omega) (by omega)) ?_
    refine V.goto (tgt := 140) dX2_writeItem_85 (by decide) ?_
    exact V.vret (jret_v dX2_writeItem_140 rfl) ⟨rfl, z⟩
  by_cases h106 : σ 16 x = 106
  · have e5 := e3 (by omega)
    have z0 := hFG w (by omega) (by rw [hs, h106, ← hw, show jtk 106 (σ 18 x) w = 1 by simp [jtk]]; omega)
    rw [Int.sub_self] at z0
    have z : jWb σ (jput τ (10008 + (jtd (σ 16) (σ 18) (σ 19) x - jad (σ 16) (σ 18) x - 1))) F G (jad (σ 16) (σ 18) (x + 1)) := by
      rw [hs, h106, ← hw, show jtk 106 (σ 18 x) w = 1 by simp [jtk]]
      exact jWb_put (by omega) hW (by rw [z0.1]; simp [jwv, h106]; omega) (by rw [z0.2]; simp [jwm, h106])
    rw [h106]
    refine V.lookup (tgt := 88) dX2_writeItem_5 (by decide) (off := 83) (by decide) (by decide) ?_
    refine V.aload_n dX2_writeItem_88 rfl ?_
    refine V.sipush dX2_writeItem_89 ⟨by decide, by decide⟩ ?_
    refine V.aload_n dX2_writeItem_92 rfl ?_
    refine V.iload_n dX2_writeItem_93 rfl ?_
    refine V.cV [_] rfl kc_X2_57 rfl dX2_writeItem_94 (by decide) rfl rfl (sp_X3_distance (by omega) (by omega)) (fun _ => ?_)
    have e6 : jdst τ x = jtd (σ 16) (σ 18) (σ 19) x - jad (σ 16) (σ 18) x - 1 := by unfold jdst; rw [e5.1, e4, hw]
    rw [e6]
    refine V.iadd dX2_writeItem_97 ⟨(by omega), (by omega)⟩ ?_
    refine V.cV0 [_] rfl kc_X2_47 rfl dX2_writeItem_98 (by decide) rfl rfl (sp_X2_put (by omega) (by omega)) ?_
    refine V.goto (tgt := 140) dX2_writeItem_101 (by decide) ?_
    exact V.vret (jret_v dX2_writeItem_140 rfl) ⟨rfl, z⟩
  by_cases h74 : σ 16 x = 74
  · have e5 := e3 (by omega)
    have tk : jtk 74 (σ 18 x) w = 2 := by simp [jtk]
    have z0 := hFG w (by omega) (by rw [hs, h74, ← hw, tk]; omega)
    have z1 := hFG (w + 1) (by omega) (by rw [hs, h74, ← hw, tk]; omega)
    rw [Int.sub_self] at z0
    rw [show w + 1 - w = 1 by omega] at z1
    have z : jWb σ (jputA (jput τ 20000) (jtd (σ 16) (σ 18) (σ 19) x)) F G (jad (σ 16) (σ 18) (x + 1)) := by
      rw [hs, h74, ← hw, tk, show w + 2 = w + 1 + 1 by omega]
      exact jWb_putA (by omega) (jWb_put (by omega) hW (by rw [z0.1]; simp [jwv, h74]) (by rw [z0.2]; simp [jwm, h74])) (by rw [z1.1]; simp [jwv, h74]) (by rw [z1.2]; simp [jwm, h74])
    rw [h74]
    refine V.lookup (tgt := 104) dX2_writeItem_5 (by decide) (off := 99) (by decide) (by decide) ?_
    refine V.aload_n dX2_writeItem_104 rfl ?_
    refine V.sipush dX2_writeItem_105 ⟨by decide, by decide⟩ ?_
    refine V.cV0 [_] rfl kc_X2_47 rfl dX2_writeItem_108 (by decide) rfl rfl (sp_X2_put (by omega) (by omega)) ?_
    refine V.aload_n dX2_writeItem_111 rfl ?_
    refine V.aload_n dX2_writeItem_112 rfl ?_
    refine V.iload_n dX2_writeItem_113 rfl ?_
    refine V.cV [_] rfl kc_X2_51 rfl dX2_writeItem_114 (by decide) rfl rfl (sp_X3_targetAddress) (fun _ => ?_)
    rw [show jtad (jput τ 20000) x = jtad τ x from rfl, e5.1]
    refine V.cV0 [_] rfl kc_X2_54 rfl dX2_writeItem_117 (by decide) rfl rfl (sp_X2_putAddress (τ := jput τ 20000) (show 0 ≤ τ 5 2 + 1 by omega) (show τ 5 2 + 1 < 1400 by omega) (show 0 ≤ τ 5 3 by omega) (show τ 5 3 ≤ 1400 by omega)) ?_
    refine V.goto (tgt := 140) dX2_writeItem_120 (by decide) ?_
    exact V.vret (jret_v dX2_writeItem_140 rfl) ⟨rfl, z⟩
  by_cases h103 : σ 16 x = 103
  · have tk := jtk_le (k := σ 16 x) (v := σ 18 x) (a := w) k1 (by omega)
    rw [h103] at tk
    have z : jWb σ (jfl (jtk 103 (σ 18 x) w).toNat τ) F G (jad (σ 16) (σ 18) (x + 1)) := by
      have := jWb_fl (by omega) hW (jtk 103 (σ 18 x) w).toNat (fun b b0 b1 => by
        have q := hFG b b0 (by rw [hs, h103, ← hw]; omega)
        rw [q.1, q.2]; simp [jwv, jwm, h103])
      rw [hs, h103, ← hw]
      rw [Int.toNat_of_nonneg tk.1] at this
      exact this
    rw [h103]
    refine V.lookup (tgt := 123) dX2_writeItem_5 (by decide) (off := 118) (by decide) (by decide) ?_
    refine V.aload_n dX2_writeItem_123 rfl ?_
    refine V.aload_n dX2_writeItem_124 rfl ?_
    refine V.iload_n dX2_writeItem_125 rfl ?_
    refine V.aload_n dX2_writeItem_126 rfl ?_
    refine V.iload_n dX2_writeItem_127 rfl ?_
    refine V.cV [_] rfl kc_X2_60 rfl dX2_writeItem_128 (by decide) rfl rfl (sp_X3_addressAt) (fun _ => ?_)
    rw [e4]
    refine V.cV [_, _] rfl kc_X2_63 rfl dX2_writeItem_131 (by decide) rfl rfl (sp_X3_wordsTaken ⟨h0, by omega⟩ (by omega)) (fun _ => ?_)
    rw [rr 16 x (by decide) (by decide), rr 18 x (by decide) (by decide), h103]
    refine V.cV0 [_] rfl kc_X2_67 rfl dX2_writeItem_134 (by decide) rfl rfl (sp_X2_fill (by omega) (by omega) (by omega)) ?_
    refine V.goto (tgt := 140) dX2_writeItem_137 (by decide) ?_
    exact V.vret (jret_v dX2_writeItem_140 rfl) ⟨rfl, z⟩
  have h108 : σ 16 x = 108 := by omega
  rw [h108]
  refine V.lookup (tgt := 140) dX2_writeItem_5 (by decide) (off := 135) (by decide) (by decide) ?_
  have z : jWb σ τ F G (jad (σ 16) (σ 18) (x + 1)) := by rw [hs, h108, ← hw, show jtk 108 (σ 18 x) w = 0 by simp [jtk], Int.add_zero]; exact hW
  exact V.vret (jret_v dX2_writeItem_140 rfl) ⟨rfl, z⟩
theorem sp_X2_write {σ : JM} (hlok : jlok (σ 16) (σ 18) (σ 19) (σ 2 6)) (hadr : jadr σ) :
    JSp mX2_write 5 0 [(2, 5), (2, 2)] σ (fun v t => v = none ∧ jWb σ t (jFN (σ 16) (σ 18) (σ 19) (σ 2 6).toNat) (jGN (σ 16) (σ 18) (σ 2 6).toNat) (jad (σ 16) (σ 18) (σ 2 6))) jno := by
  obtain ⟨F, hF⟩ : ∃ F, jFN (σ 16) (σ 18) (σ 19) (σ 2 6).toNat = F := ⟨_, rfl⟩
  obtain ⟨G, hG⟩ : ∃ G, jGN (σ 16) (σ 18) (σ 2 6).toNat = G := ⟨_, rfl⟩
  refine JSp.of [(2, 5), (2, 2), (9, 0)] rfl (by decide +kernel) rfl rfl rfl (fun l E hA => ?_)
  have loop : ∀ (m : Nat) (x : Int) (τ : JM), 0 ≤ x → x ≤ σ 2 6 → σ 2 6 - x < m → jWb σ τ F G (jad (σ 16) (σ 18) x) → V l E mX2_write 5 0 (fun v t => v = none ∧ jWb σ t F G (jad (σ 16) (σ 18) (σ 2 6))) jno 12 [(2, 5), (2, 2), (0, x)] [] τ := by
    intro m
    induction m with
    | zero => intro x τ a1 a2 a3; omega
    | succ m ih =>
      intro x τ a1 a2 a3 a4
      have n200 := hlok.2.1
      have b1 : τ 2 6 = σ 2 6 := a4.1 2 6 (by decide) (by decide) (by decide)
      refine V.iload_n dX2_write_12 rfl ?_
      refine V.aload_n dX2_write_13 rfl ?_
      refine V.cV [] rfl kc_X2_30 rfl dX2_write_14 (by decide) rfl rfl (sp_X3_size) (fun _ => ?_)
      rw [b1]
      refine V.icmp_ge (tgt := 32) dX2_write_17 (by decide) (fun h17 => ?_) (fun h17 => ?_)
      · exact V.vret (jret_v dX2_write_32 rfl) ⟨rfl, by rw [← show x = σ 2 6 by omega]; exact a4⟩
      · refine V.aload_n dX2_write_20 rfl ?_
        refine V.aload_n dX2_write_21 rfl ?_
        refine V.iload_n dX2_write_22 rfl ?_
        have sp := sp_X2_writeItem (τ := τ) hlok hadr a1 (by omega) rfl (by rw [hF, hG]; exact a4)
        rw [hF, hG] at sp
        refine V.callV [_, _] rfl kc_X2_36 rfl dX2_write_23 (by decide) (Nat.zero_le _) rfl (fun _ _ => sp) rfl (fun v τ2 hq hv => ?_) (fun X τ2 hx => hx.elim)
        obtain ⟨rfl, hw2⟩ := hq
        refine V.iinc (L' := [_, _, _]) dX2_write_26 rfl ⟨(by omega), (by omega)⟩ rfl ?_
        refine V.goto (tgt := 12) dX2_write_29 (by decide) ?_
        exact ih (x + 1) τ2 (by omega) (by omega) (by omega) hw2
  rw [hF, hG]
  refine V.aload_n dX2_write_0 rfl ?_
  refine V.iconst dX2_write_1 ⟨by decide, by decide⟩ ?_
  refine V.putI fa_X2_19 (by decide) rfl dX2_write_2 (Or.inl rfl) ?_
  refine V.aload_n dX2_write_5 rfl ?_
  refine V.iconst dX2_write_6 ⟨by decide, by decide⟩ ?_
  refine V.putI fa_X2_23 (by decide) rfl dX2_write_7 (Or.inl rfl) ?_
  refine V.iconst dX2_write_10 ⟨by decide, by decide⟩ ?_
  refine V.istore_n (L' := [_, _, _]) dX2_write_11 rfl rfl ?_
  exact loop ((σ 2 6).toNat + 1) 0 _ (by omega) hlok.1 (by have := hlok.1; omega) ⟨fun a b n1 n2 n3 => by rw [jset_ne _ (fun q => n3 ⟨q.1, Or.inr q.2⟩), jset_ne _ (fun q => n3 ⟨q.1, Or.inl q.2⟩)], rfl, rfl, fun b b0 b1 => absurd b1 (by rw [jad_0]; omega)⟩
