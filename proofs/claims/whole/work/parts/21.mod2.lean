def jstp (σ : JM) (k x : Int) : JM := jset (jset σ 7 14 k) 7 15 x
theorem sp_X7_stops {σ : JM} {k x : Int} (hk : 0 ≤ k ∧ k < 65536) : JSp mX7_stops 0 0 [(2, 7), (0, k), (0, x)] σ (jrv 0 (jstp σ k x)) jno := by
  refine JSp.of [(2, 7), (0, k), (0, x)] rfl (by decide +kernel) rfl rfl rfl (fun l E hA => ?_)
  refine V.aload_n dX7_stops_0 rfl ?_
  refine V.iload_n dX7_stops_1 rfl ?_
  refine V.putI fa_X7_38 (by decide) rfl dX7_stops_2 (Or.inr hk) ?_
  refine V.aload_n dX7_stops_5 rfl ?_
  refine V.iload_n dX7_stops_6 rfl ?_
  refine V.putI fa_X7_118 (by decide) rfl dX7_stops_7 (Or.inl rfl) ?_
  refine V.iconst dX7_stops_10 ⟨by decide, by decide⟩ ?_
  exact V.iret (jret_z dX7_stops_11 rfl (by decide)) ⟨rfl, rfl⟩
def jnsc (σ : JM) (o : Int) : JM := jset (jset σ 42 (σ 7 17) o) 7 17 (σ 7 17 + 1)
theorem sp_X7_newScope {σ : JM} {o : Int} (h0 : 0 ≤ σ 7 17) (h1 : σ 7 17 < 12000) : JSp mX7_newScope 0 0 [(2, 7), (0, o)] σ (jrv (σ 7 17) (jnsc σ o)) jno := by
  refine JSp.of [(2, 7), (0, o)] rfl (by decide +kernel) rfl rfl rfl (fun l E hA => ?_)
  refine V.aload_n dX7_newScope_0 rfl ?_
  refine V.getR fa_X7_42 rfl dX7_newScope_1 ?_
  refine V.aload_n dX7_newScope_4 rfl ?_
  refine V.getI fa_X7_121 (by decide) rfl dX7_newScope_5 (fun _ => ?_)
  refine V.iload_n dX7_newScope_8 rfl ?_
  refine V.iast (cell := 42) 0 rfl rfl rfl rfl dX7_newScope_9 (by omega) (by omega) ?_
  refine V.aload_n dX7_newScope_10 rfl ?_
  refine V.dup dX7_newScope_11 rfl ?_
  refine V.getI fa_X7_121 (by decide) rfl dX7_newScope_12 (fun _ => ?_)
  refine V.iconst dX7_newScope_15 ⟨by decide, by decide⟩ ?_
  refine V.iadd dX7_newScope_16 ⟨(by first | omega | (show _ ≤ σ 7 17 + 1; omega) | (show σ 7 17 + 1 ≤ _; omega)), (by first | omega | (show _ ≤ σ 7 17 + 1; omega) | (show σ 7 17 + 1 ≤ _; omega))⟩ ?_
  refine V.putI fa_X7_121 (by decide) rfl dX7_newScope_17 (Or.inl rfl) ?_
  refine V.aload_n dX7_newScope_20 rfl ?_
  refine V.getI fa_X7_121 (by decide) rfl dX7_newScope_21 (fun _ => ?_)
  refine V.iconst dX7_newScope_24 ⟨by decide, by decide⟩ ?_
  refine V.isub dX7_newScope_25 ⟨(by first | omega | (show _ ≤ σ 7 17 + 1 - 1; omega) | (show σ 7 17 + 1 - 1 ≤ _; omega)), (by first | omega | (show _ ≤ σ 7 17 + 1 - 1; omega) | (show σ 7 17 + 1 - 1 ≤ _; omega))⟩ ?_
  exact V.iret (jret_i dX7_newScope_26 rfl) ⟨jsm (show σ 7 17 + 1 - 1 = σ 7 17 by omega), rfl⟩
def jmost (s : Int) : Int := if s = 0 ∨ s = 3 ∨ s = 4 then 19 else if s = 2 then 99 else if s = 8 then 9 else 999
theorem sp_X7_most {σ : JM} {s : Int} : JSp mX7_most 0 0 [(0, s)] σ (jrv (jmost s) σ) jno := by
  refine JSp.of [(0, s)] rfl (by decide +kernel) rfl rfl rfl (fun l E hA => ?_)
  refine V.iload_n dX7_most_0 rfl ?_
  refine V.if_eq (tgt := 14) dX7_most_1 (by decide) (fun g1 => ?_) (fun g1 => ?_)
  · refine V.bipush dX7_most_14 ⟨by decide, by decide⟩ ?_
    refine V.goto (tgt := 43) dX7_most_16 (by decide) ?_
    exact V.iret (jret_i dX7_most_43 rfl) ⟨jsm (by unfold jmost; (repeat' split) <;> first | rfl | omega), rfl⟩
  · refine V.iload_n dX7_most_4 rfl ?_
    refine V.iconst dX7_most_5 ⟨by decide, by decide⟩ ?_
    refine V.icmp_eq (tgt := 14) dX7_most_6 (by decide) (fun g6 => ?_) (fun g6 => ?_)
    · refine V.bipush dX7_most_14 ⟨by decide, by decide⟩ ?_
      refine V.goto (tgt := 43) dX7_most_16 (by decide) ?_
      exact V.iret (jret_i dX7_most_43 rfl) ⟨jsm (by unfold jmost; (repeat' split) <;> first | rfl | omega), rfl⟩
    · refine V.iload_n dX7_most_9 rfl ?_
      refine V.iconst dX7_most_10 ⟨by decide, by decide⟩ ?_
      refine V.icmp_ne (tgt := 19) dX7_most_11 (by decide) (fun g11 => ?_) (fun g11 => ?_)
      · refine V.iload_n dX7_most_19 rfl ?_
        refine V.iconst dX7_most_20 ⟨by decide, by decide⟩ ?_
        refine V.icmp_ne (tgt := 29) dX7_most_21 (by decide) (fun h21 => ?_) (fun h21 => ?_)
        · refine V.iload_n dX7_most_29 rfl ?_
          refine V.bipush dX7_most_30 ⟨by decide, by decide⟩ ?_
          refine V.icmp_ne (tgt := 40) dX7_most_32 (by decide) (fun h32 => ?_) (fun h32 => ?_)
          · refine V.sipush dX7_most_40 ⟨by decide, by decide⟩ ?_
            exact V.iret (jret_i dX7_most_43 rfl) ⟨jsm (by unfold jmost; (repeat' split) <;> first | rfl | omega), rfl⟩
          · refine V.bipush dX7_most_35 ⟨by decide, by decide⟩ ?_
            refine V.goto (tgt := 43) dX7_most_37 (by decide) ?_
            exact V.iret (jret_i dX7_most_43 rfl) ⟨jsm (by unfold jmost; (repeat' split) <;> first | rfl | omega), rfl⟩
        · refine V.bipush dX7_most_24 ⟨by decide, by decide⟩ ?_
          refine V.goto (tgt := 43) dX7_most_26 (by decide) ?_
          exact V.iret (jret_i dX7_most_43 rfl) ⟨jsm (by unfold jmost; (repeat' split) <;> first | rfl | omega), rfl⟩
      · refine V.bipush dX7_most_14 ⟨by decide, by decide⟩ ?_
        refine V.goto (tgt := 43) dX7_most_16 (by decide) ?_
        exact V.iret (jret_i dX7_most_43 rfl) ⟨jsm (by unfold jmost; (repeat' split) <;> first | rfl | omega), rfl⟩
/-- is there one among the first n -/
abbrev jex (P : Int → Prop) [DecidablePred P] (n : Int) : Prop := 0 < jsum (fun k => if P k then 1 else 0) n
theorem jex_iff {P : Int → Prop} [DecidablePred P] {n : Int} (h : 0 ≤ n) : jex P n ↔ ∃ k, 0 ≤ k ∧ k < n ∧ P k := by
  obtain ⟨m, rfl⟩ : ∃ m : Nat, n = (m : Int) := ⟨n.toNat, by omega⟩
  clear h
  have nn : ∀ m : Nat, 0 ≤ jsum (fun k => if P k then (1 : Int) else 0) m := fun m => (jsum_le (g := fun k => if P k then (1 : Int) else 0) (c := 1) (by omega) (fun i _ _ => by show (0 : Int) ≤ (if P i then 1 else 0) ∧ (if P i then (1 : Int) else 0) ≤ 1; split <;> omega)).1
  induction m with
  | zero => exact ⟨fun q => absurd q (by show ¬ (0 : Int) < 0; omega), fun ⟨k, a, b, _⟩ => by omega⟩
  | succ m ih =>
    have e : jsum (fun k => if P k then (1 : Int) else 0) ((m + 1 : Nat) : Int) = jsum (fun k => if P k then (1 : Int) else 0) m + (if P m then 1 else 0) := by
      rw [show ((m + 1 : Nat) : Int) = (m : Int) + 1 by omega, jsum_s _ (by omega)]
    unfold jex
    rw [e]
    have := nn m
    by_cases q : P m
    · rw [if_pos q]
      exact ⟨fun _ => ⟨m, by omega, by omega, q⟩, fun _ => by omega⟩
    · rw [if_neg q, Int.add_zero]
      constructor
      · intro z
        obtain ⟨k, a, b, c⟩ := ih.mp z
        exact ⟨k, a, by omega, c⟩
      · rintro ⟨k, a, b, c⟩
        exact ih.mpr ⟨k, a, by
          have : k ≠ m := fun z => q (by rw [← z]; exact c)
          omega, c⟩
/-- the first one among the first n, or -1 -/
def jfsN (P : Int → Prop) [DecidablePred P] : Nat → Int
  | 0 => -1
  | n + 1 => if jfsN P n ≠ -1 then jfsN P n else if P n then n else -1
def jfs (P : Int → Prop) [DecidablePred P] (n : Int) : Int := jfsN P n.toNat
theorem jfsN_no {P : Int → Prop} [DecidablePred P] : ∀ {n : Nat}, (∀ i, 0 ≤ i → i < (n : Int) → ¬ P i) → jfsN P n = -1 := by
  intro n
  induction n with
  | zero => intro _; rfl
  | succ n ih =>
    intro h
    have e := ih (fun i a b => h i a (by omega))
    unfold jfsN
    rw [e, if_neg (by simp), if_neg (h n (by omega) (by omega))]
theorem jfsN_at {P : Int → Prop} [DecidablePred P] {x : Int} (hx : 0 ≤ x) (hp : P x) (hn : ∀ i, 0 ≤ i → i < x → ¬ P i) : ∀ {n : Nat}, x < n → jfsN P n = x := by
  intro n
  induction n with
  | zero => intro h; omega
  | succ n ih =>
    intro h
    unfold jfsN
    by_cases e : x = n
    · rw [jfsN_no (fun i a b => hn i a (by omega)), if_neg (by simp), if_pos (by rw [← e]; exact hp), e]
    · rw [ih (by omega), if_pos (by omega)]
theorem jfs_no {P : Int → Prop} [DecidablePred P] {n : Int} (h : ∀ i, 0 ≤ i → i < n → ¬ P i) : jfs P n = -1 := jfsN_no (fun i a b => h i a (by omega))
theorem jfs_at {P : Int → Prop} [DecidablePred P] {x n : Int} (hx : 0 ≤ x) (hxn : x < n) (hp : P x) (hn : ∀ i, 0 ≤ i → i < x → ¬ P i) : jfs P n = x := jfsN_at hx hp hn (by omega)
theorem jfs_cases {P : Int → Prop} [DecidablePred P] (n : Int) : (jfs P n = -1 ∧ ∀ i, 0 ≤ i → i < n → ¬ P i) ∨ (0 ≤ jfs P n ∧ jfs P n < n ∧ P (jfs P n) ∧ ∀ i, 0 ≤ i → i < jfs P n → ¬ P i) := by
  by_cases h : ∃ k : Nat, (k : Int) < n ∧ P k
  · obtain ⟨k, hk, hm⟩ := pk_least (fun k : Nat => (k : Int) < n ∧ P k) h
    have hn : ∀ i, 0 ≤ i → i < (k : Int) → ¬ P i := fun i a b q => hm i.toNat (by omega) ⟨by omega, by rw [show ((i.toNat : Nat) : Int) = i by omega]; exact q⟩
    have e : jfs P n = k := jfs_at (by omega) hk.1 hk.2 hn
    rw [e]
    exact Or.inr ⟨by omega, hk.1, hk.2, hn⟩
  · have hn : ∀ i, 0 ≤ i → i < n → ¬ P i := fun i a b q => h ⟨i.toNat, by omega, by rw [show ((i.toNat : Nat) : Int) = i by omega]; exact q⟩
    exact Or.inl ⟨jfs_no hn, hn⟩
abbrev jdp (σ : JM) (a s : Int) (k : Int) : Prop := σ 44 k = 0 ∧ σ 45 k = a ∧ σ 46 k = s
abbrev jdfd (σ : JM) (a s : Int) : Prop := jex (jdp σ a s) (σ 7 16)
theorem sp_X7_isDefined {σ : JM} {a s : Int} (h0 : 0 ≤ σ 7 16) (h1 : σ 7 16 ≤ 200) : JSp mX7_isDefined 0 0 [(2, 7), (0, a), (0, s)] σ (jrv (if jdfd σ a s then 1 else 0) σ) jno := by
  refine JSp.of [(2, 7), (0, a), (0, s), (9, 0)] rfl (by decide +kernel) rfl rfl rfl (fun l E hA => ?_)
  have loop : ∀ (m : Nat) (x : Int), 0 ≤ x → x ≤ σ 7 16 → σ 7 16 - x < m → (∀ i, 0 ≤ i → i < x → ¬ jdp σ a s i) → V l E mX7_isDefined 0 0 (jrv (if jdfd σ a s then 1 else 0) σ) jno 2 [(2, 7), (0, a), (0, s), (0, x)] [] σ := by
    intro m
    induction m with
    | zero => intro x a1 a2 a3; omega
    | succ m ih =>
      intro x a1 a2 a3 a4
      refine V.iload_n dX7_isDefined_2 rfl ?_
      refine V.aload_n dX7_isDefined_3 rfl ?_
      refine V.getI fa_X7_124 (by decide) rfl dX7_isDefined_4 (fun _ => ?_)
      refine V.icmp_ge (tgt := 47) dX7_isDefined_7 (by decide) (fun h7 => ?_) (fun h7 => ?_)
      · refine V.iconst dX7_isDefined_47 ⟨by decide, by decide⟩ ?_
        exact V.iret (jret_z dX7_isDefined_48 rfl (Or.inl rfl)) ⟨jsm (by rw [if_neg (fun q => by obtain ⟨k, c1, c2, c3⟩ := (jex_iff h0).mp q; exact a4 k c1 (by omega) c3)]), rfl⟩
      · refine V.aload_n dX7_isDefined_10 rfl ?_
        refine V.getR fa_X7_48 rfl dX7_isDefined_11 ?_
        refine V.iload_n dX7_isDefined_14 rfl ?_
        refine V.iald (cell := 44) 0 rfl rfl rfl rfl dX7_isDefined_15 (by omega) (by omega) (fun _ => ?_)
        refine V.if_ne (tgt := 41) dX7_isDefined_16 (by decide) (fun h16 => ?_) (fun h16 => ?_)
        · refine V.iinc (L' := [_, _, _, _]) dX7_isDefined_41 rfl ⟨(by omega), (by omega)⟩ rfl ?_
          refine V.goto (tgt := 2) dX7_isDefined_44 (by decide) ?_
          exact ih (x + 1) (by omega) (by omega) (by omega) (fun i b1 b2 => by
            by_cases e : i = x
            · subst e; first | exact fun q => absurd q.1 h16 | exact fun q => absurd q.2.1 h26 | exact fun q => absurd q.2.2 h36
            · exact a4 i b1 (by omega))
        · refine V.aload_n dX7_isDefined_19 rfl ?_
          refine V.getR fa_X7_51 rfl dX7_isDefined_20 ?_
          refine V.iload_n dX7_isDefined_23 rfl ?_
          refine V.iald (cell := 45) 0 rfl rfl rfl rfl dX7_isDefined_24 (by omega) (by omega) (fun _ => ?_)
          refine V.iload_n dX7_isDefined_25 rfl ?_
          refine V.icmp_ne (tgt := 41) dX7_isDefined_26 (by decide) (fun h26 => ?_) (fun h26 => ?_)
          · refine V.iinc (L' := [_, _, _, _]) dX7_isDefined_41 rfl ⟨(by omega), (by omega)⟩ rfl ?_
            refine V.goto (tgt := 2) dX7_isDefined_44 (by decide) ?_
            exact ih (x + 1) (by omega) (by omega) (by omega) (fun i b1 b2 => by
              by_cases e : i = x
              · subst e; first | exact fun q => absurd q.1 h16 | exact fun q => absurd q.2.1 h26 | exact fun q => absurd q.2.2 h36
              · exact a4 i b1 (by omega))
          · refine V.aload_n dX7_isDefined_29 rfl ?_
            refine V.getR fa_X7_54 rfl dX7_isDefined_30 ?_
            refine V.iload_n dX7_isDefined_33 rfl ?_
            refine V.iald (cell := 46) 0 rfl rfl rfl rfl dX7_isDefined_34 (by omega) (by omega) (fun _ => ?_)
            refine V.iload_n dX7_isDefined_35 rfl ?_
            refine V.icmp_ne (tgt := 41) dX7_isDefined_36 (by decide) (fun h36 => ?_) (fun h36 => ?_)
            · refine V.iinc (L' := [_, _, _, _]) dX7_isDefined_41 rfl ⟨(by omega), (by omega)⟩ rfl ?_
              refine V.goto (tgt := 2) dX7_isDefined_44 (by decide) ?_
              exact ih (x + 1) (by omega) (by omega) (by omega) (fun i b1 b2 => by
                by_cases e : i = x
                · subst e; first | exact fun q => absurd q.1 h16 | exact fun q => absurd q.2.1 h26 | exact fun q => absurd q.2.2 h36
                · exact a4 i b1 (by omega))
            · refine V.iconst dX7_isDefined_39 ⟨by decide, by decide⟩ ?_
              exact V.iret (jret_z dX7_isDefined_40 rfl (Or.inr rfl)) ⟨jsm (by rw [if_pos ((jex_iff h0).mpr ⟨x, a1, by omega, h16, h26, h36⟩)]), rfl⟩
  refine V.iconst dX7_isDefined_0 ⟨by decide, by decide⟩ ?_
  refine V.istore_n (L' := [_, _, _, _]) dX7_isDefined_1 rfl rfl ?_
  exact loop ((σ 7 16).toNat + 1) 0 (by omega) h0 (by omega) (fun i b1 b2 => by omega)
def jmk (σ : JM) (x v s d : Int) : JM := jset (jset (jset (jset (jset (jset (jset σ 43 (σ 7 16) x) 44 (σ 7 16) (σ 34 x)) 45 (σ 7 16) v) 46 (σ 7 16) s) 47 (σ 7 16) d) 50 (σ 7 16) 0) 7 16 (σ 7 16 + 1)
theorem sp_X7_makes {σ : JM} {x v s d : Int} (h0 : 0 ≤ σ 7 16) (h1 : σ 7 16 < 200) (hx : 0 ≤ x ∧ x < 80) : JSp mX7_makes 0 0 [(2, 7), (0, x), (0, v), (0, s), (0, d)] σ (jvv (jmk σ x v s d)) jno := by
  refine JSp.of [(2, 7), (0, x), (0, v), (0, s), (0, d)] rfl (by decide +kernel) rfl rfl rfl (fun l E hA => ?_)
  refine V.aload_n dX7_makes_0 rfl ?_
  refine V.getR fa_X7_45 rfl dX7_makes_1 ?_
  refine V.aload_n dX7_makes_4 rfl ?_
  refine V.getI fa_X7_124 (by decide) rfl dX7_makes_5 (fun _ => ?_)
  refine V.iload_n dX7_makes_8 rfl ?_
  refine V.iast (cell := 43) 0 rfl rfl rfl rfl dX7_makes_9 (show (0 : Int) ≤ σ 7 16 by omega) (show σ 7 16 < 200 by omega) ?_
  refine V.aload_n dX7_makes_10 rfl ?_
  refine V.getR fa_X7_48 rfl dX7_makes_11 ?_
  refine V.aload_n dX7_makes_14 rfl ?_
  refine V.getI fa_X7_124 (by decide) rfl dX7_makes_15 (fun _ => ?_)
  refine V.aload_n dX7_makes_18 rfl ?_
  refine V.getR fa_X7_13 rfl dX7_makes_19 ?_
  refine V.iload_n dX7_makes_22 rfl ?_
  refine V.iald (cell := 34) 0 rfl rfl rfl rfl dX7_makes_23 (by omega) (by omega) (fun _ => ?_)
  refine V.iast (cell := 44) 0 rfl rfl rfl rfl dX7_makes_24 (show (0 : Int) ≤ σ 7 16 by omega) (show σ 7 16 < 200 by omega) ?_
  refine V.aload_n dX7_makes_25 rfl ?_
  refine V.getR fa_X7_51 rfl dX7_makes_26 ?_
  refine V.aload_n dX7_makes_29 rfl ?_
  refine V.getI fa_X7_124 (by decide) rfl dX7_makes_30 (fun _ => ?_)
  refine V.iload_n dX7_makes_33 rfl ?_
  refine V.iast (cell := 45) 0 rfl rfl rfl rfl dX7_makes_34 (show (0 : Int) ≤ σ 7 16 by omega) (show σ 7 16 < 200 by omega) ?_
  refine V.aload_n dX7_makes_35 rfl ?_
  refine V.getR fa_X7_54 rfl dX7_makes_36 ?_
  refine V.aload_n dX7_makes_39 rfl ?_
  refine V.getI fa_X7_124 (by decide) rfl dX7_makes_40 (fun _ => ?_)
  refine V.iload_n dX7_makes_43 rfl ?_
  refine V.iast (cell := 46) 0 rfl rfl rfl rfl dX7_makes_44 (show (0 : Int) ≤ σ 7 16 by omega) (show σ 7 16 < 200 by omega) ?_
  refine V.aload_n dX7_makes_45 rfl ?_
  refine V.getR fa_X7_57 rfl dX7_makes_46 ?_
  refine V.aload_n dX7_makes_49 rfl ?_
  refine V.getI fa_X7_124 (by decide) rfl dX7_makes_50 (fun _ => ?_)
  refine V.iload dX7_makes_53 rfl ?_
  refine V.iast (cell := 47) 0 rfl rfl rfl rfl dX7_makes_55 (show (0 : Int) ≤ σ 7 16 by omega) (show σ 7 16 < 200 by omega) ?_
  refine V.aload_n dX7_makes_56 rfl ?_
  refine V.getR fa_X7_66 rfl dX7_makes_57 ?_
  refine V.aload_n dX7_makes_60 rfl ?_
  refine V.getI fa_X7_124 (by decide) rfl dX7_makes_61 (fun _ => ?_)
  refine V.iconst dX7_makes_64 ⟨by decide, by decide⟩ ?_
  refine V.zast (cell := 50) 0 rfl rfl rfl rfl dX7_makes_65 (show (0 : Int) ≤ σ 7 16 by omega) (show σ 7 16 < 200 by omega) (Or.inl rfl) ?_
  refine V.aload_n dX7_makes_66 rfl ?_
  refine V.dup dX7_makes_67 rfl ?_
  refine V.getI fa_X7_124 (by decide) rfl dX7_makes_68 (fun _ => ?_)
  refine V.iconst dX7_makes_71 ⟨by decide, by decide⟩ ?_
  refine V.iadd dX7_makes_72 ⟨(by first | omega | (show _ ≤ σ 7 16 + 1; omega) | (show σ 7 16 + 1 ≤ _; omega)), (by first | omega | (show _ ≤ σ 7 16 + 1; omega) | (show σ 7 16 + 1 ≤ _; omega))⟩ ?_
  refine V.putI fa_X7_124 (by decide) rfl dX7_makes_73 (Or.inl rfl) ?_
  exact V.vret (jret_v dX7_makes_76 rfl) ⟨rfl, rfl⟩
/-- the item that defines the name a, looked for from the scope s outwards -/
def jfdN (σ : JM) (a : Int) : Nat → Int → Int
  | 0, _ => -1
  | f + 1, s => if s = -1 then -1 else if jfs (jdp σ a s) (σ 7 16) ≠ -1 then jfs (jdp σ a s) (σ 7 16) else jfdN σ a f (σ 42 s)
/-- outer scopes have smaller numbers -/
abbrev jout (σ : JM) : Prop := ∀ s, 0 ≤ s → s < σ 7 17 → -1 ≤ σ 42 s ∧ σ 42 s < s
theorem jfdN_ge {σ : JM} {a : Int} (ho : jout σ) : ∀ (f : Nat) (s : Int), -1 ≤ s → s < σ 7 17 → s < f → ∀ g : Nat, s < g → 1 ≤ f → 1 ≤ g → jfdN σ a g s = jfdN σ a f s := by
  intro f
  induction f with
  | zero => intro s _ _ _ g _ h; omega
  | succ f ih =>
    intro s h0 h1 h2 g h3 _ h5
    obtain ⟨g, rfl⟩ : ∃ k, g = k + 1 := ⟨g - 1, by omega⟩
    unfold jfdN
    by_cases e : s = -1
    · rw [if_pos e, if_pos e]
    · rw [if_neg e, if_neg e]
      by_cases e2 : jfs (jdp σ a s) (σ 7 16) ≠ -1
      · rw [if_pos e2, if_pos e2]
      · rw [if_neg e2, if_neg e2]
        have := ho s (by omega) h1
        by_cases e3 : 1 ≤ f ∧ 1 ≤ g
        · exact ih (σ 42 s) this.1 (by omega) (by omega) g (by omega) e3.1 e3.2
        · have : σ 42 s = -1 := by omega
          rw [this]
          have z : ∀ k : Nat, jfdN σ a k (-1) = -1 := fun k => by cases k <;> simp [jfdN]
          rw [z, z]
def jfd (σ : JM) (x : Int) : Int := jfdN σ (σ 45 x) ((σ 46 x).toNat + 2) (σ 46 x)
theorem sp_X7_finds {σ : JM} {x : Int} (h0 : 0 ≤ σ 7 16) (h1 : σ 7 16 ≤ 200) (hx : 0 ≤ x ∧ x < 200) (ho : jout σ) (hs : σ 7 17 ≤ 12000) (hx2 : -1 ≤ σ 46 x ∧ σ 46 x < σ 7 17) : JSp mX7_finds 0 0 [(2, 7), (0, x)] σ (jrv (jfd σ x) σ) jno := by
  refine JSp.of [(2, 7), (0, x), (9, 0), (9, 0)] rfl (by decide +kernel) rfl rfl rfl (fun l E hA => ?_)
  have loop : ∀ (f : Nat) (s : Int) (L4 : JV), -1 ≤ s → s < σ 7 17 → s < f → 1 ≤ f → V l E mX7_finds 0 0 (jrv (jfdN σ (σ 45 x) f s) σ) jno 7 [(2, 7), (0, x), (0, s), L4] [] σ := by
    intro f
    induction f with
    | zero => intro s L4 _ _ _ h; omega
    | succ f ih =>
      intro s L4 s1 s2 s3 _
      have inner : s ≠ -1 → ∀ (m : Nat) (y : Int), 0 ≤ y → y ≤ σ 7 16 → σ 7 16 - y < m → (∀ i, 0 ≤ i → i < y → ¬ jdp σ (σ 45 x) s i) → V l E mX7_finds 0 0 (jrv (jfdN σ (σ 45 x) (f + 1) s) σ) jno 14 [(2, 7), (0, x), (0, s), (0, y)] [] σ := by
        intro hs1 m
        induction m with
        | zero => intro y a1 a2 a3; omega
        | succ m ihm =>
          intro y a1 a2 a3 a4
          refine V.iload_n dX7_finds_14 rfl ?_
          refine V.aload_n dX7_finds_15 rfl ?_
          refine V.getI fa_X7_124 (by decide) rfl dX7_finds_16 (fun _ => ?_)
          refine V.icmp_ge (tgt := 64) dX7_finds_19 (by decide) (fun h19 => ?_) (fun h19 => ?_)
          · refine V.aload_n dX7_finds_64 rfl ?_
            refine V.getR fa_X7_42 rfl dX7_finds_65 ?_
            refine V.iload_n dX7_finds_68 rfl ?_
            refine V.iald (cell := 42) 0 rfl rfl rfl rfl dX7_finds_69 (by omega) (by omega) (fun _ => ?_)
            refine V.istore_n (L' := [_, _, _, _]) dX7_finds_70 rfl rfl ?_
            refine V.goto (tgt := 7) dX7_finds_71 (by decide) ?_
            have o1 := ho s (by omega) s2
            have ef : jfdN σ (σ 45 x) (f + 1) s = jfdN σ (σ 45 x) f (σ 42 s) := by
              rw [jfdN, if_neg hs1, jfs_no (fun i b1 b2 => a4 i b1 (by omega)), if_neg (by simp)]
            rw [ef]
            by_cases e1 : 1 ≤ f
            · exact ih (σ 42 s) _ o1.1 (by omega) (by omega) e1
            · have e2 : σ 42 s = -1 := by omega
              rw [e2]
              refine V.iload_n dX7_finds_7 rfl ?_
              refine V.iconst dX7_finds_8 ⟨by decide, by decide⟩ ?_
              refine V.icmp_eq (tgt := 74) dX7_finds_9 (by decide) (fun hh => ?_) (fun hh => absurd rfl hh)
              refine V.iconst dX7_finds_74 ⟨by decide, by decide⟩ ?_
              exact V.iret (jret_i dX7_finds_75 rfl) ⟨jsm (by cases f <;> simp [jfdN]), rfl⟩
          · refine V.aload_n dX7_finds_22 rfl ?_
            refine V.getR fa_X7_48 rfl dX7_finds_23 ?_
            refine V.iload_n dX7_finds_26 rfl ?_
            refine V.iald (cell := 44) 0 rfl rfl rfl rfl dX7_finds_27 (by omega) (by omega) (fun _ => ?_)
            refine V.if_ne (tgt := 58) dX7_finds_28 (by decide) (fun h28 => ?_) (fun h28 => ?_)
            · refine V.iinc (L' := [_, _, _, _]) dX7_finds_58 rfl ⟨(by omega), (by omega)⟩ rfl ?_
              refine V.goto (tgt := 14) dX7_finds_61 (by decide) ?_
              exact ihm (y + 1) (by omega) (by omega) (by omega) (fun i b1 b2 => by
                by_cases e : i = y
                · subst e; first | exact fun q => absurd q.1 h28 | exact fun q => absurd q.2.1 h43 | exact fun q => absurd q.2.2 h53
                · exact a4 i b1 (by omega))
            · refine V.aload_n dX7_finds_31 rfl ?_
              refine V.getR fa_X7_51 rfl dX7_finds_32 ?_
              refine V.iload_n dX7_finds_35 rfl ?_
              refine V.iald (cell := 45) 0 rfl rfl rfl rfl dX7_finds_36 (by omega) (by omega) (fun _ => ?_)
              refine V.aload_n dX7_finds_37 rfl ?_
              refine V.getR fa_X7_51 rfl dX7_finds_38 ?_
              refine V.iload_n dX7_finds_41 rfl ?_
              refine V.iald (cell := 45) 0 rfl rfl rfl rfl dX7_finds_42 (by omega) (by omega) (fun _ => ?_)
              refine V.icmp_ne (tgt := 58) dX7_finds_43 (by decide) (fun h43 => ?_) (fun h43 => ?_)
              · refine V.iinc (L' := [_, _, _, _]) dX7_finds_58 rfl ⟨(by omega), (by omega)⟩ rfl ?_
                refine V.goto (tgt := 14) dX7_finds_61 (by decide) ?_
                exact ihm (y + 1) (by omega) (by omega) (by omega) (fun i b1 b2 => by
                  by_cases e : i = y
                  · subst e; first | exact fun q => absurd q.1 h28 | exact fun q => absurd q.2.1 h43 | exact fun q => absurd q.2.2 h53
                  · exact a4 i b1 (by omega))
              · refine V.aload_n dX7_finds_46 rfl ?_
                refine V.getR fa_X7_54 rfl dX7_finds_47 ?_
                refine V.iload_n dX7_finds_50 rfl ?_
                refine V.iald (cell := 46) 0 rfl rfl rfl rfl dX7_finds_51 (by omega) (by omega) (fun _ => ?_)
                refine V.iload_n dX7_finds_52 rfl ?_
                refine V.icmp_ne (tgt := 58) dX7_finds_53 (by decide) (fun h53 => ?_) (fun h53 => ?_)
                · refine V.iinc (L' := [_, _, _, _]) dX7_finds_58 rfl ⟨(by omega), (by omega)⟩ rfl ?_
                  refine V.goto (tgt := 14) dX7_finds_61 (by decide) ?_
                  exact ihm (y + 1) (by omega) (by omega) (by omega) (fun i b1 b2 => by
                    by_cases e : i = y
                    · subst e; first | exact fun q => absurd q.1 h28 | exact fun q => absurd q.2.1 h43 | exact fun q => absurd q.2.2 h53
                    · exact a4 i b1 (by omega))
                · refine V.iload_n dX7_finds_56 rfl ?_
                  exact V.iret (jret_i dX7_finds_57 rfl) ⟨jsm (by unfold jfdN; rw [if_neg hs1, jfs_at a1 (by omega) ⟨h28, h43, h53⟩ a4, if_pos (by omega)]), rfl⟩
      refine V.iload_n dX7_finds_7 rfl ?_
      refine V.iconst dX7_finds_8 ⟨by decide, by decide⟩ ?_
      refine V.icmp_eq (tgt := 74) dX7_finds_9 (by decide) (fun h9 => ?_) (fun h9 => ?_)
      · refine V.iconst dX7_finds_74 ⟨by decide, by decide⟩ ?_
        exact V.iret (jret_i dX7_finds_75 rfl) ⟨jsm (by rw [h9]; simp [jfdN]), rfl⟩
      · refine V.iconst dX7_finds_12 ⟨by decide, by decide⟩ ?_
        refine V.istore_n (L' := [_, _, _, _]) dX7_finds_13 rfl rfl ?_
        exact inner h9 ((σ 7 16).toNat + 1) 0 (by omega) h0 (by omega) (fun i b1 b2 => by omega)
  refine V.aload_n dX7_finds_0 rfl ?_
  refine V.getR fa_X7_54 rfl dX7_finds_1 ?_
  refine V.iload_n dX7_finds_4 rfl ?_
  refine V.iald (cell := 46) 0 rfl rfl rfl rfl dX7_finds_5 (by omega) (by omega) (fun _ => ?_)
  refine V.istore_n (L' := [_, _, _, _]) dX7_finds_6 rfl rfl ?_
  exact loop ((σ 46 x).toNat + 2) (σ 46 x) _ hx2.1 hx2.2 (by omega) (by omega)
theorem sp_X7_isNamed {σ : JM} {x : Int} (hx : 0 ≤ x ∧ x < 200) : JSp mX7_isNamed 0 0 [(2, 7), (0, x)] σ (jrv (if σ 44 x = 3 ∨ σ 44 x = 4 then 1 else 0) σ) jno := by
  refine JSp.of [(2, 7), (0, x)] rfl (by decide +kernel) rfl rfl rfl (fun l E hA => ?_)
  refine V.aload_n dX7_isNamed_0 rfl ?_
  refine V.getR fa_X7_48 rfl dX7_isNamed_1 ?_
  refine V.iload_n dX7_isNamed_4 rfl ?_
  refine V.iald (cell := 44) 0 rfl rfl rfl rfl dX7_isNamed_5 (by omega) (by omega) (fun _ => ?_)
  refine V.iconst dX7_isNamed_6 ⟨by decide, by decide⟩ ?_
  refine V.icmp_eq (tgt := 20) dX7_isNamed_7 (by decide) (fun h7 => ?_) (fun h7 => ?_)
  · refine V.iconst dX7_isNamed_20 ⟨by decide, by decide⟩ ?_
    refine V.goto (tgt := 25) dX7_isNamed_21 (by decide) ?_
    exact V.iret (jret_z dX7_isNamed_25 rfl (by decide)) ⟨jsm (by split <;> omega), rfl⟩
  · refine V.aload_n dX7_isNamed_10 rfl ?_
    refine V.getR fa_X7_48 rfl dX7_isNamed_11 ?_
    refine V.iload_n dX7_isNamed_14 rfl ?_
    refine V.iald (cell := 44) 0 rfl rfl rfl rfl dX7_isNamed_15 (by omega) (by omega) (fun _ => ?_)
    refine V.iconst dX7_isNamed_16 ⟨by decide, by decide⟩ ?_
    refine V.icmp_ne (tgt := 24) dX7_isNamed_17 (by decide) (fun h17 => ?_) (fun h17 => ?_)
    · refine V.iconst dX7_isNamed_24 ⟨by decide, by decide⟩ ?_
      exact V.iret (jret_z dX7_isNamed_25 rfl (by decide)) ⟨jsm (by split <;> omega), rfl⟩
    · refine V.iconst dX7_isNamed_20 ⟨by decide, by decide⟩ ?_
      refine V.goto (tgt := 25) dX7_isNamed_21 (by decide) ?_
      exact V.iret (jret_z dX7_isNamed_25 rfl (by decide)) ⟨jsm (by split <;> omega), rfl⟩
/-- the names of the first n items looked up, up to the first that isn't found -/
def jaf (σ : JM) : Nat → Int × JM
  | 0 => (1, σ)
  | n + 1 => if (jaf σ n).1 = 0 then jaf σ n else if σ 44 n = 3 ∨ σ 44 n = 4 then (if jfd σ n = -1 then (0, jstp (jset (jaf σ n).2 49 n (-1)) 117 (σ 43 n)) else (1, jset (jaf σ n).2 49 n (jfd σ n))) else jaf σ n
theorem jaf_ne (σ : JM) : ∀ (n : Nat) {a : Nat} {b : Int}, a ≠ 49 → ¬ (a = 7 ∧ (b = 14 ∨ b = 15)) → (jaf σ n).2 a b = σ a b := by
  intro n
  induction n with
  | zero => intro a b _ _; rfl
  | succ n ih =>
    intro a b h1 h2
    unfold jaf
    split
    · exact ih h1 h2
    · split
      · split
        · show jstp _ _ _ a b = _
          unfold jstp
          rw [jset_ne _ (fun q => h2 ⟨q.1, Or.inr q.2⟩), jset_ne _ (fun q => h2 ⟨q.1, Or.inl q.2⟩), jset_ne _ (fun q => h1 q.1)]
          exact ih h1 h2
        · show jset _ _ _ _ a b = _
          rw [jset_ne _ (fun q => h1 q.1)]
          exact ih h1 h2
      · exact ih h1 h2
theorem jfdN_c {σ τ : JM} (h : ∀ a b, a ≠ 49 → ¬ (a = 7 ∧ (b = 14 ∨ b = 15)) → τ a b = σ a b) (a : Int) : ∀ (f : Nat) (s : Int), jfdN τ a f s = jfdN σ a f s := by
  have e1 : τ 44 = σ 44 := funext fun b => h 44 b (by decide) (by omega)
  have e2 : τ 45 = σ 45 := funext fun b => h 45 b (by decide) (by omega)
  have e3 : τ 46 = σ 46 := funext fun b => h 46 b (by decide) (by omega)
  have e4 : τ 7 16 = σ 7 16 := h 7 16 (by decide) (by omega)
  intro f
  induction f with
  | zero => intro s; rfl
  | succ f ih => intro s; unfold jfdN jdp; rw [ih, e1, e2, e3, e4, h 42 s (by decide) (by omega)]
theorem jfd_c {σ τ : JM} (h : ∀ a b, a ≠ 49 → ¬ (a = 7 ∧ (b = 14 ∨ b = 15)) → τ a b = σ a b) (x : Int) : jfd τ x = jfd σ x := by
  unfold jfd
  rw [h 45 x (by decide) (by omega), h 46 x (by decide) (by omega), jfdN_c h]
theorem sp_X7_areFound {σ : JM} (h0 : 0 ≤ σ 7 16) (h1 : σ 7 16 ≤ 200) (ho : jout σ) (hs : σ 7 17 ≤ 12000) (hx2 : ∀ x, 0 ≤ x → x < σ 7 16 → -1 ≤ σ 46 x ∧ σ 46 x < σ 7 17) : JSp mX7_areFound 1 0 [(2, 7)] σ (jrv (jaf σ (σ 7 16).toNat).1 (jaf σ (σ 7 16).toNat).2) jno := by
  refine JSp.of [(2, 7), (9, 0)] rfl (by decide +kernel) rfl rfl rfl (fun l E hA => ?_)
  have stay : ∀ (n : Nat), (jaf σ n).1 = 0 → ∀ k : Nat, jaf σ (n + k) = jaf σ n := by
    intro n hn k
    induction k with
    | zero => rfl
    | succ k ih => rw [← Nat.add_assoc, jaf, if_pos (by rw [ih]; exact hn), ih]
  have loop : ∀ (m : Nat) (n : Nat), (n : Int) ≤ σ 7 16 → σ 7 16 - n < m → (jaf σ n).1 = 1 → V l E mX7_areFound 1 0 (jrv (jaf σ (σ 7 16).toNat).1 (jaf σ (σ 7 16).toNat).2) jno 2 [(2, 7), (0, (n : Int))] [] (jaf σ n).2 := by
    intro m
    induction m with
    | zero => intro n a1 a2; omega
    | succ m ih =>
      intro n a1 a2 a3
      have fr := @jaf_ne σ n
      obtain ⟨τ, hτ⟩ : ∃ τ, (jaf σ n).2 = τ := ⟨_, rfl⟩
      have fr2 : ∀ a b, a ≠ 49 → ¬ (a = 7 ∧ (b = 14 ∨ b = 15)) → τ a b = σ a b := fun a b c1 c2 => by rw [← hτ]; exact fr c1 c2
      have e16 : τ 7 16 = σ 7 16 := fr2 7 16 (by decide) (by omega)
      have e17 : τ 7 17 = σ 7 17 := fr2 7 17 (by decide) (by omega)
      have e44 : τ 44 n = σ 44 n := fr2 44 n (by decide) (by omega)
      have eu : jaf σ (n + 1) = if σ 44 n = 3 ∨ σ 44 n = 4 then (if jfd σ n = -1 then (0, jstp (jset τ 49 n (-1)) 117 (σ 43 n)) else (1, jset τ 49 n (jfd σ n))) else jaf σ n := by rw [← hτ, jaf, if_neg (by omega)]
      have ih2 := ih (n + 1)
      rw [show ((n + 1 : Nat) : Int) = (n : Int) + 1 by omega] at ih2
      rw [hτ]
      refine V.iload_n dX7_areFound_2 rfl ?_
      refine V.aload_n dX7_areFound_3 rfl ?_
      refine V.getI fa_X7_124 (by decide) rfl dX7_areFound_4 (fun _ => ?_)
      rw [e16]
      refine V.icmp_ge (tgt := 61) dX7_areFound_7 (by decide) (fun h7 => ?_) (fun h7 => ?_)
      · refine V.iconst dX7_areFound_61 ⟨by decide, by decide⟩ ?_
        exact V.iret (jret_z dX7_areFound_62 rfl (Or.inr rfl)) ⟨by rw [show (σ 7 16).toNat = n by omega, a3], by rw [show (σ 7 16).toNat = n by omega, hτ]⟩
      · refine V.aload_n dX7_areFound_10 rfl ?_
        refine V.iload_n dX7_areFound_11 rfl ?_
        refine V.cV [_] rfl kc_X7_151 rfl dX7_areFound_12 (by decide) rfl rfl (sp_X7_isNamed (by omega)) (fun _ => ?_)
        rw [e44]
        refine V.if_ne (tgt := 21) dX7_areFound_15 (by decide) (fun h15 => ?_) (fun h15 => ?_)
        · refine V.aload_n dX7_areFound_21 rfl ?_
          refine V.getR fa_X7_63 rfl dX7_areFound_22 ?_
          refine V.iload_n dX7_areFound_25 rfl ?_
          refine V.aload_n dX7_areFound_26 rfl ?_
          refine V.iload_n dX7_areFound_27 rfl ?_
          refine V.cV [_] rfl kc_X7_155 rfl dX7_areFound_28 (by decide) rfl rfl (sp_X7_finds (σ := τ) (by omega) (by omega) (by omega) (fun s c1 c2 => by rw [fr2 42 s (by decide) (by omega)]; exact ho s c1 (by omega)) (by omega) (by rw [fr2 46 n (by decide) (by omega), e17]; exact hx2 n (by omega) (by omega))) (fun _ => ?_)
          rw [jfd_c fr2]
          refine V.iast (cell := 49) 0 rfl rfl rfl rfl dX7_areFound_31 (by omega) (by omega) ?_
          refine V.aload_n dX7_areFound_32 rfl ?_
          refine V.getR fa_X7_63 rfl dX7_areFound_33 ?_
          refine V.iload_n dX7_areFound_36 rfl ?_
          refine V.iald (cell := 49) 0 rfl rfl rfl rfl dX7_areFound_37 (by omega) (by omega) (fun _ => ?_)
          refine V.iconst dX7_areFound_38 ⟨by decide, by decide⟩ ?_
          rw [jset_eq]
          refine V.icmp_ne (tgt := 55) dX7_areFound_39 (by decide) (fun h39 => ?_) (fun h39 => ?_)
          · refine V.iinc (L' := [_, _]) dX7_areFound_55 rfl ⟨(by omega), (by omega)⟩ rfl ?_
            refine V.goto (tgt := 2) dX7_areFound_58 (by decide) ?_
            first
            | (rw [eu, if_neg (jb0.mp h15)] at ih2; rw [hτ] at ih2; exact ih2 (by omega) (by omega) a3)
            | (rw [eu, if_pos (jb1.mp h15), if_neg h39] at ih2; exact ih2 (by omega) (by omega) rfl)
          · refine V.aload_n dX7_areFound_42 rfl ?_
            refine V.bipush dX7_areFound_43 ⟨by decide, by decide⟩ ?_
            refine V.aload_n dX7_areFound_45 rfl ?_
            refine V.getR fa_X7_45 rfl dX7_areFound_46 ?_
            refine V.iload_n dX7_areFound_49 rfl ?_
            refine V.iald (cell := 43) 0 rfl rfl rfl rfl dX7_areFound_50 (by omega) (by omega) (fun _ => ?_)
            rw [show jset τ 49 (n : Int) (jfd σ n) 43 n = σ 43 n by rw [jset_nk _ (by decide)]; exact fr2 43 n (by decide) (by omega)]
            have st := stay (n + 1) (by rw [eu, if_pos (jb1.mp h15), if_pos h39]) ((σ 7 16).toNat - (n + 1))
            rw [show n + 1 + ((σ 7 16).toNat - (n + 1)) = (σ 7 16).toNat by omega, eu, if_pos (jb1.mp h15), if_pos h39] at st
            refine V.cV [_, _] rfl kc_X7_130 rfl dX7_areFound_51 (by decide) rfl rfl (sp_X7_stops (by decide)) (fun _ => ?_)
            exact V.iret (jret_z dX7_areFound_54 rfl (Or.inl rfl)) ⟨by rw [st], by rw [st, h39]⟩
        · refine V.goto (tgt := 55) dX7_areFound_18 (by decide) ?_
          refine V.iinc (L' := [_, _]) dX7_areFound_55 rfl ⟨(by omega), (by omega)⟩ rfl ?_
          refine V.goto (tgt := 2) dX7_areFound_58 (by decide) ?_
          first
          | (rw [eu, if_neg (jb0.mp h15)] at ih2; rw [hτ] at ih2; exact ih2 (by omega) (by omega) a3)
          | (rw [eu, if_pos (jb1.mp h15), if_neg h39] at ih2; exact ih2 (by omega) (by omega) rfl)
  refine V.iconst dX7_areFound_0 ⟨by decide, by decide⟩ ?_
  refine V.istore_n (L' := [_, _]) dX7_areFound_1 rfl rfl ?_
  exact loop ((σ 7 16).toNat + 1) 0 (by omega) (by omega) rfl
