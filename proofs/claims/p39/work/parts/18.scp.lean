theorem sp_J7_rangeCheck_23922 {σ : JM} {n f t : Int} (h0 : 0 ≤ f) (h1 : f ≤ t) (h2 : t ≤ n) : JSp mJ7_rangeCheck_23922 0 0 [(0, n), (0, f), (0, t)] σ (jvv σ) jno := by
  refine JSp.of [(0, n), (0, f), (0, t)] rfl (by decide +kernel) rfl rfl rfl (fun l E hA => ?_)
  refine V.iload_n dJ7_rangeCheck_23922_0 rfl ?_
  refine V.iload_n dJ7_rangeCheck_23922_1 rfl ?_
  refine V.icmp_le (tgt := 46) dJ7_rangeCheck_23922_2 (by decide) (fun hh => ?_) (fun hh => ?_)
  · refine V.iload_n dJ7_rangeCheck_23922_46 rfl ?_
    refine V.if_ge (tgt := 59) dJ7_rangeCheck_23922_47 (by decide) (fun hh => ?_) (fun hh => ?_)
    · refine V.iload_n dJ7_rangeCheck_23922_59 rfl ?_
      refine V.iload_n dJ7_rangeCheck_23922_60 rfl ?_
      refine V.icmp_le (tgt := 73) dJ7_rangeCheck_23922_61 (by decide) (fun hh => ?_) (fun hh => ?_)
      · exact V.vret (jret_v dJ7_rangeCheck_23922_73 rfl) ⟨rfl, rfl⟩
      · exact absurd hh (by omega)
    · exact absurd hh (by omega)
  · exact absurd hh (by omega)
/-- a stretch of a row filled with one value -/
def jrg (σ : JM) (k : Nat) (f t v : Int) : JM := fun a b => if a = k ∧ f ≤ b ∧ b < t then v else σ a b
theorem jrg_0 (σ : JM) (k : Nat) (f v : Int) : jrg σ k f f v = σ := by
  funext a b
  unfold jrg
  rw [if_neg (by omega)]
theorem jrg_s (σ : JM) (k : Nat) {f x : Int} (h : f ≤ x) (v : Int) : jset (jrg σ k f x v) k x v = jrg σ k f (x + 1) v := by
  funext a b
  unfold jset jrg
  by_cases h1 : a = k ∧ b = x
  · rw [if_pos h1, if_pos ⟨h1.1, by omega, by omega⟩]
  · rw [if_neg h1]
    by_cases h2 : a = k ∧ f ≤ b ∧ b < x
    · rw [if_pos h2, if_pos ⟨h2.1, h2.2.1, by omega⟩]
    · rw [if_neg h2, if_neg (fun q => h2 ⟨q.1, q.2.1, by have : ¬ b = x := fun e => h1 ⟨q.1, e⟩; omega⟩)]
theorem sp_J7_fill_fda19 {σ : JM} {f t v : Int} (h0 : 0 ≤ f) (h1 : f ≤ t) (h2 : t ≤ 1620) : JSp mJ7_fill_fda19 1 0 [(2, 21), (0, f), (0, t), (0, v)] σ (jvv (jrg σ 21 f t v)) jno := by
  refine JSp.of [(2, 21), (0, f), (0, t), (0, v), (9, 0)] rfl (by decide +kernel) rfl rfl rfl (fun l E hA => ?_)
  have loop : ∀ (m : Nat) (x : Int), f ≤ x → x ≤ t → t - x < m → V l E mJ7_fill_fda19 1 0 (jvv (jrg σ 21 f t v)) jno 10 [(2, 21), (0, f), (0, t), (0, v), (0, x)] [] (jrg σ 21 f x v) := by
    intro m
    induction m with
    | zero => intro x a1 a2 a3; omega
    | succ m ih =>
      intro x a1 a2 a3
      have b3 := ih (x + 1) (by omega)
      rw [← jrg_s σ 21 a1 v] at b3
      refine V.iload dJ7_fill_fda19_10 rfl ?_
      refine V.iload_n dJ7_fill_fda19_12 rfl ?_
      refine V.icmp_ge (tgt := 27) dJ7_fill_fda19_13 (by decide) (fun h13 => ?_) (fun h13 => ?_)
      · exact V.vret (jret_v dJ7_fill_fda19_27 rfl) ⟨rfl, by rw [show x = t by omega]⟩
      · refine V.aload_n dJ7_fill_fda19_16 rfl ?_
        refine V.iload dJ7_fill_fda19_17 rfl ?_
        refine V.iload_n dJ7_fill_fda19_19 rfl ?_
        refine V.iast (cell := 21) 0 rfl rfl rfl rfl dJ7_fill_fda19_20 (by omega) (by omega) ?_
        refine V.iinc (L' := [_, _, _, _, _]) dJ7_fill_fda19_21 rfl ⟨(by omega), (by omega)⟩ rfl ?_
        refine V.goto (tgt := 10) dJ7_fill_fda19_24 (by decide) ?_
        exact b3 (by omega) (by omega)
  refine V.aload_n dJ7_fill_fda19_0 rfl ?_
  refine V.alen (cell := 21) 0 rfl rfl rfl rfl dJ7_fill_fda19_1 ?_
  refine V.iload_n dJ7_fill_fda19_2 rfl ?_
  refine V.iload_n dJ7_fill_fda19_3 rfl ?_
  refine V.cS0 [_, _, _] rfl kc_J7_13 dJ7_fill_fda19_4 (by decide) rfl rfl (sp_J7_rangeCheck_23922 h0 h1 h2) ?_
  refine V.iload_n dJ7_fill_fda19_7 rfl ?_
  refine V.istore (L' := [_, _, _, _, _]) dJ7_fill_fda19_8 rfl rfl ?_
  have := loop ((t - f).toNat + 1) f (Int.le_refl f) h1 (by omega)
  rw [jrg_0] at this
  exact this
theorem sp_X4_current {σ : JM} (h0 : 0 ≤ σ 3 5) (h1 : σ 3 5 ≤ 81) : JSp mX4_current 0 0 [(2, 3)] σ (jrv (σ 3 5 - 1) σ) jno := by
  refine JSp.of [(2, 3)] rfl (by decide +kernel) rfl rfl rfl (fun l E hA => ?_)
  refine V.aload_n dX4_current_0 rfl ?_
  refine V.getI fa_X4_28 (by decide) rfl dX4_current_1 (fun _ => ?_)
  refine V.iconst dX4_current_4 ⟨by decide, by decide⟩ ?_
  refine V.isub dX4_current_5 ⟨(by omega), (by omega)⟩ ?_
  exact V.iret (jret_i dX4_current_6 rfl) ⟨rfl, rfl⟩
def jOpn (σ : JM) (o : Int) : JM := jset (jrg (jset (jset σ 22 (σ 3 5) o) 23 (σ 3 5) (σ 2 6)) 21 (σ 3 5 * 20) ((σ 3 5 + 1) * 20) (-1)) 3 5 (σ 3 5 + 1)
theorem sp_X4_open {σ : JM} {o : Int} (h0 : 0 ≤ σ 3 5) (h1 : σ 3 5 < 81) : JSp mX4_open 2 0 [(2, 3), (0, o)] σ (jvv (jOpn σ o)) jno := by
  refine JSp.of [(2, 3), (0, o)] rfl (by decide +kernel) rfl rfl rfl (fun l E hA => ?_)
  refine V.aload_n dX4_open_0 rfl ?_
  refine V.getI fa_X4_28 (by decide) rfl dX4_open_1 (fun _ => ?_)
  refine V.bipush dX4_open_4 ⟨by decide, by decide⟩ ?_
  refine V.icmp_lt (tgt := 10) dX4_open_6 (by decide) (fun hh => ?_) (fun hh => ?_)
  · refine V.aload_n dX4_open_10 rfl ?_
    refine V.getR fa_X4_15 rfl dX4_open_11 ?_
    refine V.aload_n dX4_open_14 rfl ?_
    refine V.getI fa_X4_28 (by decide) rfl dX4_open_15 (fun _ => ?_)
    refine V.iload_n dX4_open_18 rfl ?_
    refine V.iast (cell := 22) 0 rfl rfl rfl rfl dX4_open_19 (by omega) (by omega) ?_
    refine V.aload_n dX4_open_20 rfl ?_
    refine V.getR fa_X4_18 rfl dX4_open_21 ?_
    refine V.aload_n dX4_open_24 rfl ?_
    refine V.getI fa_X4_28 (by decide) rfl dX4_open_25 (fun _ => ?_)
    refine V.aload_n dX4_open_28 rfl ?_
    refine V.getR fa_X4_24 rfl dX4_open_29 ?_
    refine V.cV [] rfl kc_X4_36 rfl dX4_open_32 (by decide) rfl rfl (sp_X3_size) (fun _ => ?_)
    refine V.iast (cell := 23) 0 rfl rfl rfl rfl dX4_open_35 (show (0 : Int) ≤ σ 3 5 by omega) (show σ 3 5 < 81 by omega) ?_
    refine V.aload_n dX4_open_36 rfl ?_
    refine V.getR fa_X4_9 rfl dX4_open_37 ?_
    refine V.aload_n dX4_open_40 rfl ?_
    refine V.getI fa_X4_28 (by decide) rfl dX4_open_41 (fun _ => ?_)
    refine V.bipush dX4_open_44 ⟨by decide, by decide⟩ ?_
    refine V.imul dX4_open_46 ⟨(by first | omega | (show _ ≤ (_ : Int); first | (show _ ≤ σ 3 5 * 20; omega) | (show σ 3 5 * 20 ≤ _; omega) | (show _ ≤ σ 3 5 + 1; omega) | (show σ 3 5 + 1 ≤ _; omega) | (show _ ≤ (σ 3 5 + 1) * 20; omega) | (show (σ 3 5 + 1) * 20 ≤ _; omega))), (by first | omega | (show _ ≤ (_ : Int); first | (show _ ≤ σ 3 5 * 20; omega) | (show σ 3 5 * 20 ≤ _; omega) | (show _ ≤ σ 3 5 + 1; omega) | (show σ 3 5 + 1 ≤ _; omega) | (show _ ≤ (σ 3 5 + 1) * 20; omega) | (show (σ 3 5 + 1) * 20 ≤ _; omega)))⟩ ?_
    refine V.aload_n dX4_open_47 rfl ?_
    refine V.getI fa_X4_28 (by decide) rfl dX4_open_48 (fun _ => ?_)
    refine V.iconst dX4_open_51 ⟨by decide, by decide⟩ ?_
    refine V.iadd dX4_open_52 ⟨(by first | omega | (show _ ≤ (_ : Int); first | (show _ ≤ σ 3 5 * 20; omega) | (show σ 3 5 * 20 ≤ _; omega) | (show _ ≤ σ 3 5 + 1; omega) | (show σ 3 5 + 1 ≤ _; omega) | (show _ ≤ (σ 3 5 + 1) * 20; omega) | (show (σ 3 5 + 1) * 20 ≤ _; omega))), (by first | omega | (show _ ≤ (_ : Int); first | (show _ ≤ σ 3 5 * 20; omega) | (show σ 3 5 * 20 ≤ _; omega) | (show _ ≤ σ 3 5 + 1; omega) | (show σ 3 5 + 1 ≤ _; omega) | (show _ ≤ (σ 3 5 + 1) * 20; omega) | (show (σ 3 5 + 1) * 20 ≤ _; omega)))⟩ ?_
    refine V.bipush dX4_open_53 ⟨by decide, by decide⟩ ?_
    refine V.imul dX4_open_55 ⟨(by first | omega | (show _ ≤ (_ : Int); first | (show _ ≤ σ 3 5 * 20; omega) | (show σ 3 5 * 20 ≤ _; omega) | (show _ ≤ σ 3 5 + 1; omega) | (show σ 3 5 + 1 ≤ _; omega) | (show _ ≤ (σ 3 5 + 1) * 20; omega) | (show (σ 3 5 + 1) * 20 ≤ _; omega))), (by first | omega | (show _ ≤ (_ : Int); first | (show _ ≤ σ 3 5 * 20; omega) | (show σ 3 5 * 20 ≤ _; omega) | (show _ ≤ σ 3 5 + 1; omega) | (show σ 3 5 + 1 ≤ _; omega) | (show _ ≤ (σ 3 5 + 1) * 20; omega) | (show (σ 3 5 + 1) * 20 ≤ _; omega)))⟩ ?_
    refine V.iconst dX4_open_56 ⟨by decide, by decide⟩ ?_
    refine V.cS0 [_, _, _, _] rfl kc_X4_42 dX4_open_57 (by decide) rfl rfl (sp_J7_fill_fda19 (show (0 : Int) ≤ σ 3 5 * 20 by omega) (show σ 3 5 * 20 ≤ (σ 3 5 + 1) * 20 by omega) (show (σ 3 5 + 1) * 20 ≤ 1620 by omega)) ?_
    refine V.aload_n dX4_open_60 rfl ?_
    refine V.dup dX4_open_61 rfl ?_
    refine V.getI fa_X4_28 (by decide) rfl dX4_open_62 (fun _ => ?_)
    refine V.iconst dX4_open_65 ⟨by decide, by decide⟩ ?_
    refine V.iadd dX4_open_66 ⟨(by first | omega | (show _ ≤ σ 3 5 + 1; omega) | (show σ 3 5 + 1 ≤ _; omega)), (by first | omega | (show _ ≤ σ 3 5 + 1; omega) | (show σ 3 5 + 1 ≤ _; omega))⟩ ?_
    refine V.putI fa_X4_28 (by decide) rfl dX4_open_67 (Or.inl rfl) ?_
    exact V.vret (jret_v dX4_open_70 rfl) ⟨rfl, rfl⟩
  · exact absurd hh (by omega)
theorem sp_X4_reset {σ : JM} : JSp mX4_reset 3 0 [(2, 3)] σ (jvv (jOpn (jset σ 3 5 0) (-1))) jno := by
  refine JSp.of [(2, 3)] rfl (by decide +kernel) rfl rfl rfl (fun l E hA => ?_)
  refine V.aload_n dX4_reset_0 rfl ?_
  refine V.iconst dX4_reset_1 ⟨by decide, by decide⟩ ?_
  refine V.putI fa_X4_28 (by decide) rfl dX4_reset_2 (Or.inl rfl) ?_
  refine V.aload_n dX4_reset_5 rfl ?_
  refine V.iconst dX4_reset_6 ⟨by decide, by decide⟩ ?_
  refine V.cV0 [_] rfl kc_X4_32 rfl dX4_reset_7 (by decide) rfl rfl (sp_X4_open (σ := jset σ 3 5 0) (show (0 : Int) ≤ 0 by decide) (show (0 : Int) < 81 by decide)) ?_
  exact V.vret (jret_v dX4_reset_10 rfl) ⟨rfl, rfl⟩
/-- the item that defines the name in the scope at this place -/
def jlb (σ : JM) (s x : Int) : Int := if 0 ≤ x ∧ x < 20 then jat σ 21 1620 (s * 20 + x) else -1
theorem sp_X4_labelIn {σ : JM} {s x : Int} (h0 : -100 ≤ s) (h1 : s ≤ 1000) : JSp mX4_labelIn 1 0 [(2, 3), (0, s), (0, x)] σ (jrv (jlb σ s x) σ) jno := by
  refine JSp.of [(2, 3), (0, s), (0, x)] rfl (by decide +kernel) rfl rfl rfl (fun l E hA => ?_)
  refine V.iload_n dX4_labelIn_0 rfl ?_
  refine V.if_lt (tgt := 26) dX4_labelIn_1 (by decide) (fun h1 => ?_) (fun h1 => ?_)
  · refine V.iconst dX4_labelIn_26 ⟨by decide, by decide⟩ ?_
    exact V.iret (jret_i dX4_labelIn_27 rfl) ⟨jsm (by unfold jlb; split <;> first | rfl | omega), rfl⟩
  · refine V.iload_n dX4_labelIn_4 rfl ?_
    refine V.bipush dX4_labelIn_5 ⟨by decide, by decide⟩ ?_
    refine V.icmp_ge (tgt := 26) dX4_labelIn_7 (by decide) (fun h7 => ?_) (fun h7 => ?_)
    · refine V.iconst dX4_labelIn_26 ⟨by decide, by decide⟩ ?_
      exact V.iret (jret_i dX4_labelIn_27 rfl) ⟨jsm (by unfold jlb; split <;> first | rfl | omega), rfl⟩
    · refine V.aload_n dX4_labelIn_10 rfl ?_
      refine V.getR fa_X4_9 rfl dX4_labelIn_11 ?_
      refine V.iload_n dX4_labelIn_14 rfl ?_
      refine V.bipush dX4_labelIn_15 ⟨by decide, by decide⟩ ?_
      refine V.imul dX4_labelIn_17 ⟨(by omega), (by omega)⟩ ?_
      refine V.iload_n dX4_labelIn_18 rfl ?_
      refine V.iadd dX4_labelIn_19 ⟨(by omega), (by omega)⟩ ?_
      refine V.cN [_, _] rfl kc_X4_51 dX4_labelIn_20 (by decide) rfl rfl (sp_X6_at (N := 1620) rfl rfl rfl) (fun _ => ?_)
      refine V.goto (tgt := 27) dX4_labelIn_23 (by decide) ?_
      exact V.iret (jret_i dX4_labelIn_27 rfl) ⟨jsm (by unfold jlb; split <;> first | rfl | omega), rfl⟩
theorem sp_X4_define {σ : JM} {s x v : Int} (h0 : 0 ≤ s) (h1 : s < 81) (h2 : 0 ≤ x) (h3 : x < 20) : JSp mX4_define 1 0 [(2, 3), (0, s), (0, x), (0, v)] σ (jvv (jset σ 21 (s * 20 + x) v)) jno := by
  refine JSp.of [(2, 3), (0, s), (0, x), (0, v)] rfl (by decide +kernel) rfl rfl rfl (fun l E hA => ?_)
  refine V.iload_n dX4_define_0 rfl ?_
  refine V.if_lt (tgt := 24) dX4_define_1 (by decide) (fun hh => ?_) (fun hh => ?_)
  · exact absurd hh (by omega)
  · refine V.iload_n dX4_define_4 rfl ?_
    refine V.bipush dX4_define_5 ⟨by decide, by decide⟩ ?_
    refine V.icmp_ge (tgt := 24) dX4_define_7 (by decide) (fun hh => ?_) (fun hh => ?_)
    · exact absurd hh (by omega)
    · refine V.aload_n dX4_define_10 rfl ?_
      refine V.getR fa_X4_9 rfl dX4_define_11 ?_
      refine V.iload_n dX4_define_14 rfl ?_
      refine V.bipush dX4_define_15 ⟨by decide, by decide⟩ ?_
      refine V.imul dX4_define_17 ⟨(by omega), (by omega)⟩ ?_
      refine V.iload_n dX4_define_18 rfl ?_
      refine V.iadd dX4_define_19 ⟨(by omega), (by omega)⟩ ?_
      refine V.iload_n dX4_define_20 rfl ?_
      refine V.cN0 [_, _, _] rfl kc_X4_70 dX4_define_21 (by decide) rfl rfl (sp_X6_setAt (k := 21) (N := 1620) rfl rfl rfl rfl (by omega) (by omega)) ?_
      exact V.vret (jret_v dX4_define_24 rfl) ⟨rfl, rfl⟩
theorem sp_X4_setHome {σ : JM} {x s : Int} (h0 : 0 ≤ x) (h1 : x < 200) : JSp mX4_setHome 1 0 [(2, 3), (0, x), (0, s)] σ (jvv (jset σ 24 x s)) jno := by
  refine JSp.of [(2, 3), (0, x), (0, s)] rfl (by decide +kernel) rfl rfl rfl (fun l E hA => ?_)
  refine V.aload_n dX4_setHome_0 rfl ?_
  refine V.getR fa_X4_21 rfl dX4_setHome_1 ?_
  refine V.iload_n dX4_setHome_4 rfl ?_
  refine V.iload_n dX4_setHome_5 rfl ?_
  refine V.cN0 [_, _, _] rfl kc_X4_70 dX4_setHome_6 (by decide) rfl rfl (sp_X6_setAt (k := 24) (N := 200) rfl rfl rfl rfl (h0) (h1)) ?_
  exact V.vret (jret_v dX4_setHome_9 rfl) ⟨rfl, rfl⟩
/-- what closing does to the items ahead of x -/
def jcl2 (σ : JM) (x : Int) : JM := fun a b => if (a = 19 ∨ a = 24) ∧ σ 23 (σ 3 5 - 1) ≤ b ∧ b < x ∧ σ 24 b = σ 3 5 - 1 then (if a = 19 then jlb σ (σ 3 5 - 1) (σ 18 b) else if jlb σ (σ 3 5 - 1) (σ 18 b) = -1 then σ 22 (σ 3 5 - 1) else -1) else σ a b
def jCls (σ : JM) : JM := jset (jcl2 σ (σ 2 6)) 3 5 (σ 3 5 - 1)
theorem jcl2_0 (σ : JM) : jcl2 σ (σ 23 (σ 3 5 - 1)) = σ := by
  funext a b
  unfold jcl2
  rw [if_neg (by omega)]
theorem jcl2_ne (σ : JM) (x : Int) {a : Nat} (h : a ≠ 19 ∧ a ≠ 24) (b : Int) : jcl2 σ x a b = σ a b := by
  unfold jcl2
  rw [if_neg (fun q => by rcases q.1 with q | q; exact h.1 q; exact h.2 q)]
theorem jcl2_no (σ : JM) {x : Int} (h : σ 24 x ≠ σ 3 5 - 1) : jcl2 σ (x + 1) = jcl2 σ x := by
  funext a b
  unfold jcl2
  by_cases e : (a = 19 ∨ a = 24) ∧ σ 23 (σ 3 5 - 1) ≤ b ∧ b < x ∧ σ 24 b = σ 3 5 - 1
  · rw [if_pos e, if_pos (show ((a = 19 ∨ a = 24) ∧ σ 23 (σ 3 5 - 1) ≤ b ∧ b < x + 1 ∧ σ 24 b = σ 3 5 - 1) from ⟨e.1, e.2.1, by omega, e.2.2.2⟩)]
  · rw [if_neg e, if_neg]
    rintro ⟨q1, q2, q3, q4⟩
    refine e ⟨q1, q2, ?_, q4⟩
    have : b ≠ x := fun z => h (by rw [← z]; exact q4)
    omega
theorem jcl2_s (σ : JM) {x : Int} (h0 : σ 23 (σ 3 5 - 1) ≤ x) (h : σ 24 x = σ 3 5 - 1) : jset (jset (jcl2 σ x) 19 x (jlb σ (σ 3 5 - 1) (σ 18 x))) 24 x (if jlb σ (σ 3 5 - 1) (σ 18 x) = -1 then σ 22 (σ 3 5 - 1) else -1) = jcl2 σ (x + 1) := by
  funext a b
  unfold jset jcl2
  by_cases e1 : a = 24 ∧ b = x
  · obtain ⟨rfl, rfl⟩ := e1
    rw [if_pos (show (24 = 24 ∧ b = b) from ⟨rfl, rfl⟩), if_pos (show ((24 = 19 ∨ 24 = 24) ∧ σ 23 (σ 3 5 - 1) ≤ b ∧ b < b + 1 ∧ σ 24 b = σ 3 5 - 1) from ⟨Or.inr rfl, h0, by omega, h⟩), if_neg (show ¬ (24 : Nat) = 19 by decide)]
  · rw [if_neg e1]
    by_cases e2 : a = 19 ∧ b = x
    · obtain ⟨rfl, rfl⟩ := e2
      rw [if_pos (show (19 = 19 ∧ b = b) from ⟨rfl, rfl⟩), if_pos (show ((19 = 19 ∨ 19 = 24) ∧ σ 23 (σ 3 5 - 1) ≤ b ∧ b < b + 1 ∧ σ 24 b = σ 3 5 - 1) from ⟨Or.inl rfl, h0, by omega, h⟩), if_pos (show (19 : Nat) = 19 from rfl)]
    · rw [if_neg e2]
      by_cases e : (a = 19 ∨ a = 24) ∧ σ 23 (σ 3 5 - 1) ≤ b ∧ b < x ∧ σ 24 b = σ 3 5 - 1
      · rw [if_pos e, if_pos (show ((a = 19 ∨ a = 24) ∧ σ 23 (σ 3 5 - 1) ≤ b ∧ b < x + 1 ∧ σ 24 b = σ 3 5 - 1) from ⟨e.1, e.2.1, by omega, e.2.2.2⟩)]
      · rw [if_neg e, if_neg]
        rintro ⟨q1, q2, q3, q4⟩
        refine e ⟨q1, q2, ?_, q4⟩
        have : b ≠ x := fun z => by rcases q1 with q | q; exact e2 ⟨q, z⟩; exact e1 ⟨q, z⟩
        omega
theorem sp_X4_close {σ : JM} (h0 : 0 < σ 3 5) (h1 : σ 3 5 ≤ 81) (h2 : 0 ≤ σ 23 (σ 3 5 - 1)) (h3 : σ 23 (σ 3 5 - 1) ≤ σ 2 6) (h4 : σ 2 6 ≤ 200) : JSp mX4_close 2 0 [(2, 3)] σ (jvv (jCls σ)) jno := by
  refine JSp.of [(2, 3), (9, 0), (9, 0), (9, 0)] rfl (by decide +kernel) rfl rfl rfl (fun l E hA => ?_)
  have loop : ∀ (m : Nat) (x : Int) (L4 : JV), σ 23 (σ 3 5 - 1) ≤ x → x ≤ σ 2 6 → σ 2 6 - x < m → V l E mX4_close 2 0 (jvv (jCls σ)) jno 19 [(2, 3), (0, σ 3 5 - 1), (0, x), L4] [] (jcl2 σ x) := by
    intro m
    induction m with
    | zero => intro x L4 a1 a2 a3; omega
    | succ m ih =>
      intro x L4 a1 a2 a3
      have e0 : x < σ 2 6 → jat (jcl2 σ x) 24 200 x = σ 24 x := fun hx => by rw [jat_in (by omega) (by omega)]; unfold jcl2; rw [if_neg (by omega)]
      have e1 : x < σ 2 6 → jat (jcl2 σ x) 18 200 x = σ 18 x := fun hx => by rw [jat_in (by omega) (by omega), jcl2_ne σ x (by decide)]
      have e2 : jlb (jcl2 σ x) (σ 3 5 - 1) (σ 18 x) = jlb σ (σ 3 5 - 1) (σ 18 x) := by unfold jlb jat; rw [jcl2_ne σ x (by decide)]
      have e5 : jcl2 σ x 2 6 = σ 2 6 := jcl2_ne σ x (by decide) 6
      refine V.iload_n dX4_close_19 rfl ?_
      refine V.aload_n dX4_close_20 rfl ?_
      refine V.getR fa_X4_24 rfl dX4_close_21 ?_
      refine V.cV [] rfl kc_X4_36 rfl dX4_close_24 (by decide) rfl rfl (sp_X3_size) (fun _ => ?_)
      rw [e5]
      refine V.icmp_ge (tgt := 93) dX4_close_27 (by decide) (fun h25 => ?_) (fun h25 => ?_)
      · have ex : x = σ 2 6 := by omega
        rw [ex]
        have e6 : jcl2 σ (σ 2 6) 3 5 = σ 3 5 := jcl2_ne σ _ (by decide) 5
        refine V.aload_n dX4_close_93 rfl ?_
        refine V.dup dX4_close_94 rfl ?_
        refine V.getI fa_X4_28 (by decide) rfl dX4_close_95 (fun _ => ?_)
        refine V.iconst dX4_close_98 ⟨by decide, by decide⟩ ?_
        rw [e6]
        refine V.isub dX4_close_99 ⟨(by omega), (by omega)⟩ ?_
        refine V.putI fa_X4_28 (by decide) rfl dX4_close_100 (Or.inl rfl) ?_
        exact V.vret (jret_v dX4_close_103 rfl) ⟨rfl, rfl⟩
      · refine V.aload_n dX4_close_30 rfl ?_
        refine V.getR fa_X4_21 rfl dX4_close_31 ?_
        refine V.iload_n dX4_close_34 rfl ?_
        refine V.cN [_, _] rfl kc_X4_51 dX4_close_35 (by decide) rfl rfl (show JSp mX6_at 0 0 [(2, 24), (0, x)] _ (jrv (jat (jcl2 σ x) 24 200 x) _) jno from sp_X6_at (N := 200) rfl rfl rfl) (fun _ => ?_)
        rw [e0 h25]
        refine V.iload_n dX4_close_38 rfl ?_
        refine V.icmp_ne (tgt := 87) dX4_close_39 (by decide) (fun h37 => ?_) (fun h37 => ?_)
        · refine V.iinc (L' := [_, _, _, _]) dX4_close_87 rfl ⟨(by omega), (by omega)⟩ rfl ?_
          refine V.goto (tgt := 19) dX4_close_90 (by decide) ?_
          first
          | (rw [← jcl2_no σ h37]; exact ih (x + 1) _ (by omega) (by omega) (by omega))
          | exact ih (x + 1) _ (by omega) (by omega) (by omega)
        · refine V.aload_n dX4_close_42 rfl ?_
          refine V.iload_n dX4_close_43 rfl ?_
          refine V.aload_n dX4_close_44 rfl ?_
          refine V.getR fa_X4_24 rfl dX4_close_45 ?_
          refine V.iload_n dX4_close_48 rfl ?_
          refine V.cV [_] rfl kc_X4_55 rfl dX4_close_49 (by decide) rfl rfl (sp_X3_value) (fun _ => ?_)
          rw [e1 h25]
          refine V.cV [_, _] rfl kc_X4_59 rfl dX4_close_52 (by decide) rfl rfl (sp_X4_labelIn (by omega) (by omega)) (fun _ => ?_)
          rw [e2]
          refine V.istore_n (L' := [_, _, _, _]) dX4_close_55 rfl rfl ?_
          refine V.aload_n dX4_close_56 rfl ?_
          refine V.getR fa_X4_24 rfl dX4_close_57 ?_
          refine V.iload_n dX4_close_60 rfl ?_
          refine V.iload_n dX4_close_61 rfl ?_
          refine V.cV0 [_, _] rfl kc_X4_63 rfl dX4_close_62 (by decide) rfl rfl (sp_X3_aim (by omega) (show x < jcl2 σ x 2 6 by rw [e5]; omega) (show jcl2 σ x 2 6 ≤ 200 by rw [e5]; omega)) ?_
          refine V.aload_n dX4_close_65 rfl ?_
          refine V.iload_n dX4_close_66 rfl ?_
          refine V.iload_n dX4_close_67 rfl ?_
          refine V.iconst dX4_close_68 ⟨by decide, by decide⟩ ?_
          refine V.icmp_ne (tgt := 83) dX4_close_69 (by decide) (fun hq => ?_) (fun hq => ?_)
          · refine V.iconst dX4_close_83 ⟨by decide, by decide⟩ ?_
            refine V.cV0 [_, _] rfl kc_X4_67 rfl dX4_close_84 (by decide) rfl rfl (sp_X4_setHome (by omega) (by omega)) ?_
            have b4 := jcl2_s σ a1 h37
            first
            | rw [if_pos hq] at b4
            | rw [if_neg hq] at b4
            first
            | rw [b4]
            | (rw [show jset (jcl2 σ x) 19 x (jlb σ (σ 3 5 - 1) (σ 18 x)) 22 (σ 3 5 - 1) = σ 22 (σ 3 5 - 1) by rw [jset_nk _ (by decide)]; exact jcl2_ne σ x (by decide) _, b4])
            refine V.iinc (L' := [_, _, _, _]) dX4_close_87 rfl ⟨(by omega), (by omega)⟩ rfl ?_
            refine V.goto (tgt := 19) dX4_close_90 (by decide) ?_
            first
            | (rw [← jcl2_no σ h37]; exact ih (x + 1) _ (by omega) (by omega) (by omega))
            | exact ih (x + 1) _ (by omega) (by omega) (by omega)
          · refine V.aload_n dX4_close_72 rfl ?_
            refine V.getR fa_X4_15 rfl dX4_close_73 ?_
            refine V.iload_n dX4_close_76 rfl ?_
            refine V.cN [_, _] rfl kc_X4_51 dX4_close_77 (by decide) rfl rfl (show JSp mX6_at 0 0 [(2, 22), (0, σ 3 5 - 1)] _ (jrv (jat (jset (jcl2 σ x) 19 x (jlb σ (σ 3 5 - 1) (σ 18 x))) 22 81 (σ 3 5 - 1)) _) jno from sp_X6_at (N := 81) rfl rfl rfl) (fun _ => ?_)
            rw [show jat (jset (jcl2 σ x) 19 x (jlb σ (σ 3 5 - 1) (σ 18 x))) 22 81 (σ 3 5 - 1) = σ 22 (σ 3 5 - 1) by rw [jat_in (by omega) (by omega), jset_nk _ (by decide)]; exact jcl2_ne σ x (by decide) _]
            refine V.goto (tgt := 84) dX4_close_80 (by decide) ?_
            refine V.cV0 [_, _] rfl kc_X4_67 rfl dX4_close_84 (by decide) rfl rfl (sp_X4_setHome (by omega) (by omega)) ?_
            have b4 := jcl2_s σ a1 h37
            first
            | rw [if_pos hq] at b4
            | rw [if_neg hq] at b4
            first
            | rw [b4]
            | (rw [show jset (jcl2 σ x) 19 x (jlb σ (σ 3 5 - 1) (σ 18 x)) 22 (σ 3 5 - 1) = σ 22 (σ 3 5 - 1) by rw [jset_nk _ (by decide)]; exact jcl2_ne σ x (by decide) _, b4])
            refine V.iinc (L' := [_, _, _, _]) dX4_close_87 rfl ⟨(by omega), (by omega)⟩ rfl ?_
            refine V.goto (tgt := 19) dX4_close_90 (by decide) ?_
            first
            | (rw [← jcl2_no σ h37]; exact ih (x + 1) _ (by omega) (by omega) (by omega))
            | exact ih (x + 1) _ (by omega) (by omega) (by omega)
  refine V.aload_n dX4_close_0 rfl ?_
  refine V.cV [] rfl kc_X4_48 rfl dX4_close_1 (by decide) rfl rfl (sp_X4_current (by omega) h1) (fun _ => ?_)
  refine V.istore_n (L' := [_, _, _, _]) dX4_close_4 rfl rfl ?_
  refine V.iload_n dX4_close_5 rfl ?_
  refine V.if_ge (tgt := 10) dX4_close_6 (by decide) (fun hh => ?_) (fun hh => ?_)
  · refine V.aload_n dX4_close_10 rfl ?_
    refine V.getR fa_X4_18 rfl dX4_close_11 ?_
    refine V.iload_n dX4_close_14 rfl ?_
    refine V.cN [_, _] rfl kc_X4_51 dX4_close_15 (by decide) rfl rfl (show JSp mX6_at 0 0 [(2, 23), (0, σ 3 5 - 1)] σ (jrv (jat σ 23 81 (σ 3 5 - 1)) σ) jno from sp_X6_at (N := 81) rfl rfl rfl) (fun _ => ?_)
    rw [show jat σ 23 81 (σ 3 5 - 1) = σ 23 (σ 3 5 - 1) from jat_in (by omega) (by omega)]
    refine V.istore_n (L' := [_, _, _, _]) dX4_close_18 rfl rfl ?_
    have := loop ((σ 2 6 - σ 23 (σ 3 5 - 1)).toNat + 1) (σ 23 (σ 3 5 - 1)) (9, 0) (Int.le_refl _) h3 (by omega)
    rw [jcl2_0] at this
    exact this
  · exact absurd hh (by omega)
