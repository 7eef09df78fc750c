/-- sums over the first numbers -/
def jsumN (g : Int → Int) : Nat → Int
  | 0 => 0
  | n + 1 => jsumN g n + g n
def jsum (g : Int → Int) (x : Int) : Int := jsumN g x.toNat
theorem jsum_0 (g : Int → Int) : jsum g 0 = 0 := rfl
theorem jsum_s (g : Int → Int) {x : Int} (h : 0 ≤ x) : jsum g (x + 1) = jsum g x + g x := by
  unfold jsum
  rw [show (x + 1).toNat = x.toNat + 1 by omega]
  show jsumN g x.toNat + g (x.toNat : Nat) = _
  rw [Int.toNat_of_nonneg h]
theorem jsum_le {g : Int → Int} {x : Int} (h : 0 ≤ x) {c : Int} (hg : ∀ i, 0 ≤ i → i < x → 0 ≤ g i ∧ g i ≤ c) : 0 ≤ jsum g x ∧ jsum g x ≤ c * x := by
  obtain ⟨n, rfl⟩ : ∃ n : Nat, x = (n : Int) := ⟨x.toNat, by omega⟩
  clear h
  induction n with
  | zero => exact ⟨Int.le_refl 0, by rw [show ((0 : Nat) : Int) = 0 from rfl, jsum_0, Int.mul_zero]; exact Int.le_refl 0⟩
  | succ n ih =>
    have h1 := ih (fun i h0 h1 => hg i h0 (by omega))
    have h2 := hg n (by omega) (by omega)
    rw [show ((n + 1 : Nat) : Int) = (n : Int) + 1 by omega, jsum_s g (by omega), Int.mul_add]
    omega
theorem jsum_c {g f : Int → Int} {x : Int} (h : ∀ i, 0 ≤ i → i < x → g i = f i) : jsum g x = jsum f x := by
  unfold jsum
  have : ∀ n : Nat, n ≤ x.toNat → jsumN g n = jsumN f n := by
    intro n
    induction n with
    | zero => intro _; rfl
    | succ n ih =>
      intro hn
      show jsumN g n + g n = jsumN f n + f n
      rw [ih (by omega), h n (by omega) (by omega)]
  exact this _ (Nat.le_refl _)
/-- a row's first places filled -/
def jfill (σ : JM) (k : Nat) (n : Int) (f : Int → Int) : JM := fun a b => if a = k ∧ 0 ≤ b ∧ b < n then f b else σ a b
theorem jfill_0 (σ : JM) (k : Nat) (f : Int → Int) : jfill σ k 0 f = σ := by
  funext a b
  unfold jfill
  rw [if_neg (by omega)]
theorem jfill_s (σ : JM) (k : Nat) {x : Int} (h : 0 ≤ x) (f : Int → Int) : jset (jfill σ k x f) k x (f x) = jfill σ k (x + 1) f := by
  funext a b
  unfold jset jfill
  by_cases h1 : a = k ∧ b = x
  · rw [if_pos h1, if_pos ⟨h1.1, by omega, by omega⟩, h1.2]
  · rw [if_neg h1]
    by_cases h2 : a = k ∧ 0 ≤ b ∧ b < x
    · rw [if_pos h2, if_pos ⟨h2.1, h2.2.1, by omega⟩]
    · rw [if_neg h2, if_neg (fun q => h2 ⟨q.1, q.2.1, by have : ¬ b = x := fun e => h1 ⟨q.1, e⟩; omega⟩)]
theorem jfill_in (σ : JM) (k : Nat) {n b : Int} (h0 : 0 ≤ b) (h1 : b < n) (f : Int → Int) : jfill σ k n f k b = f b := by unfold jfill; rw [if_pos ⟨rfl, h0, h1⟩]
theorem jfill_out (σ : JM) (k : Nat) {n b : Int} (h : ¬ (0 ≤ b ∧ b < n)) (f : Int → Int) : jfill σ k n f k b = σ k b := by unfold jfill; rw [if_neg (fun q => h q.2)]
theorem jfill_ne (σ : JM) {k a : Nat} (h : a ≠ k) (n b : Int) (f : Int → Int) : jfill σ k n f a b = σ a b := by unfold jfill; rw [if_neg (fun q => h q.1)]
theorem jat_in {σ : JM} {k : Nat} {N x : Int} (h0 : 0 ≤ x) (h1 : x < N) : jat σ k N x = σ k x := by unfold jat; rw [if_pos ⟨h0, h1⟩]
theorem sp_X3_line {σ : JM} {x : Int} : JSp mX3_line 1 0 [(2, 2), (0, x)] σ (jrv (jat σ 15 200 x) σ) jno := by
  refine JSp.of [(2, 2), (0, x)] rfl (by decide +kernel) rfl rfl rfl (fun l E hA => ?_)
  refine V.aload_n dX3_line_0 rfl ?_
  refine V.getR fa_X3_9 rfl dX3_line_1 ?_
  refine V.iload_n dX3_line_4 rfl ?_
  refine V.cN [_, _] rfl kc_X3_37 dX3_line_5 (by decide) rfl rfl (sp_X6_at (N := 200) rfl rfl rfl) (fun _ => ?_)
  exact V.iret (jret_i dX3_line_8 rfl) ⟨rfl, rfl⟩
theorem sp_X3_kind {σ : JM} {x : Int} : JSp mX3_kind 1 0 [(2, 2), (0, x)] σ (jrv (jat σ 16 200 x) σ) jno := by
  refine JSp.of [(2, 2), (0, x)] rfl (by decide +kernel) rfl rfl rfl (fun l E hA => ?_)
  refine V.aload_n dX3_kind_0 rfl ?_
  refine V.getR fa_X3_15 rfl dX3_kind_1 ?_
  refine V.iload_n dX3_kind_4 rfl ?_
  refine V.cN [_, _] rfl kc_X3_37 dX3_kind_5 (by decide) rfl rfl (sp_X6_at (N := 200) rfl rfl rfl) (fun _ => ?_)
  exact V.iret (jret_i dX3_kind_8 rfl) ⟨rfl, rfl⟩
theorem sp_X3_depth {σ : JM} {x : Int} : JSp mX3_depth 1 0 [(2, 2), (0, x)] σ (jrv (jat σ 17 200 x) σ) jno := by
  refine JSp.of [(2, 2), (0, x)] rfl (by decide +kernel) rfl rfl rfl (fun l E hA => ?_)
  refine V.aload_n dX3_depth_0 rfl ?_
  refine V.getR fa_X3_18 rfl dX3_depth_1 ?_
  refine V.iload_n dX3_depth_4 rfl ?_
  refine V.cN [_, _] rfl kc_X3_37 dX3_depth_5 (by decide) rfl rfl (sp_X6_at (N := 200) rfl rfl rfl) (fun _ => ?_)
  exact V.iret (jret_i dX3_depth_8 rfl) ⟨rfl, rfl⟩
theorem sp_X3_value {σ : JM} {x : Int} : JSp mX3_value 1 0 [(2, 2), (0, x)] σ (jrv (jat σ 18 200 x) σ) jno := by
  refine JSp.of [(2, 2), (0, x)] rfl (by decide +kernel) rfl rfl rfl (fun l E hA => ?_)
  refine V.aload_n dX3_value_0 rfl ?_
  refine V.getR fa_X3_21 rfl dX3_value_1 ?_
  refine V.iload_n dX3_value_4 rfl ?_
  refine V.cN [_, _] rfl kc_X3_37 dX3_value_5 (by decide) rfl rfl (sp_X6_at (N := 200) rfl rfl rfl) (fun _ => ?_)
  exact V.iret (jret_i dX3_value_8 rfl) ⟨rfl, rfl⟩
theorem sp_X3_target {σ : JM} {x : Int} : JSp mX3_target 1 0 [(2, 2), (0, x)] σ (jrv (jat σ 19 200 x) σ) jno := by
  refine JSp.of [(2, 2), (0, x)] rfl (by decide +kernel) rfl rfl rfl (fun l E hA => ?_)
  refine V.aload_n dX3_target_0 rfl ?_
  refine V.getR fa_X3_24 rfl dX3_target_1 ?_
  refine V.iload_n dX3_target_4 rfl ?_
  refine V.cN [_, _] rfl kc_X3_37 dX3_target_5 (by decide) rfl rfl (sp_X6_at (N := 200) rfl rfl rfl) (fun _ => ?_)
  exact V.iret (jret_i dX3_target_8 rfl) ⟨rfl, rfl⟩
theorem sp_X3_addressAt {σ : JM} {x : Int} : JSp mX3_addressAt 1 0 [(2, 2), (0, x)] σ (jrv (jat σ 20 200 x) σ) jno := by
  refine JSp.of [(2, 2), (0, x)] rfl (by decide +kernel) rfl rfl rfl (fun l E hA => ?_)
  refine V.aload_n dX3_addressAt_0 rfl ?_
  refine V.getR fa_X3_27 rfl dX3_addressAt_1 ?_
  refine V.iload_n dX3_addressAt_4 rfl ?_
  refine V.cN [_, _] rfl kc_X3_37 dX3_addressAt_5 (by decide) rfl rfl (sp_X6_at (N := 200) rfl rfl rfl) (fun _ => ?_)
  exact V.iret (jret_i dX3_addressAt_8 rfl) ⟨rfl, rfl⟩
theorem sp_X3_size {σ : JM} : JSp mX3_size 0 0 [(2, 2)] σ (jrv (σ 2 6) σ) jno := by
  refine JSp.of [(2, 2)] rfl (by decide +kernel) rfl rfl rfl (fun l E hA => ?_)
  refine V.aload_n dX3_size_0 rfl ?_
  refine V.getI fa_X3_30 (by decide) rfl dX3_size_1 (fun _ => ?_)
  exact V.iret (jret_i dX3_size_4 rfl) ⟨rfl, rfl⟩
theorem sp_X3_sizeOfPasses {σ : JM} : JSp mX3_sizeOfPasses 0 0 [(2, 2)] σ (jrv (σ 2 7) σ) jno := by
  refine JSp.of [(2, 2)] rfl (by decide +kernel) rfl rfl rfl (fun l E hA => ?_)
  refine V.aload_n dX3_sizeOfPasses_0 rfl ?_
  refine V.getI fa_X3_34 (by decide) rfl dX3_sizeOfPasses_1 (fun _ => ?_)
  exact V.iret (jret_i dX3_sizeOfPasses_4 rfl) ⟨rfl, rfl⟩
def jtad (σ : JM) (x : Int) : Int := jat σ 20 200 (jat σ 19 200 x)
def jdst (σ : JM) (x : Int) : Int := jtad σ x - jat σ 20 200 x - 1
theorem sp_X3_targetAddress {σ : JM} {x : Int} : JSp mX3_targetAddress 2 0 [(2, 2), (0, x)] σ (jrv (jtad σ x) σ) jno := by
  refine JSp.of [(2, 2), (0, x)] rfl (by decide +kernel) rfl rfl rfl (fun l E hA => ?_)
  refine V.aload_n dX3_targetAddress_0 rfl ?_
  refine V.aload_n dX3_targetAddress_1 rfl ?_
  refine V.iload_n dX3_targetAddress_2 rfl ?_
  refine V.cV [_] rfl kc_X3_41 rfl dX3_targetAddress_3 (by decide) rfl rfl (sp_X3_target) (fun _ => ?_)
  refine V.cV [_] rfl kc_X3_45 rfl dX3_targetAddress_6 (by decide) rfl rfl (sp_X3_addressAt) (fun _ => ?_)
  exact V.iret (jret_i dX3_targetAddress_9 rfl) ⟨rfl, rfl⟩
theorem sp_X3_distance {σ : JM} {x : Int} (h1 : -1 ≤ jtad σ x ∧ jtad σ x ≤ 10000) (h2 : -1 ≤ jat σ 20 200 x ∧ jat σ 20 200 x ≤ 10000) : JSp mX3_distance 3 0 [(2, 2), (0, x)] σ (jrv (jdst σ x) σ) jno := by
  refine JSp.of [(2, 2), (0, x)] rfl (by decide +kernel) rfl rfl rfl (fun l E hA => ?_)
  refine V.aload_n dX3_distance_0 rfl ?_
  refine V.iload_n dX3_distance_1 rfl ?_
  refine V.cV [_] rfl kc_X3_48 rfl dX3_distance_2 (by decide) rfl rfl (sp_X3_targetAddress) (fun _ => ?_)
  refine V.aload_n dX3_distance_5 rfl ?_
  refine V.iload_n dX3_distance_6 rfl ?_
  refine V.cV [_] rfl kc_X3_45 rfl dX3_distance_7 (by decide) rfl rfl (sp_X3_addressAt) (fun _ => ?_)
  refine V.isub dX3_distance_10 ⟨(by omega), (by omega)⟩ ?_
  refine V.iconst dX3_distance_11 ⟨by decide, by decide⟩ ?_
  refine V.isub dX3_distance_12 ⟨(by omega), (by omega)⟩ ?_
  exact V.iret (jret_i dX3_distance_13 rfl) ⟨rfl, rfl⟩
theorem sp_X3_removeAll {σ : JM} : JSp mX3_removeAll 0 0 [(2, 2)] σ (jvv (jset σ 2 6 0)) jno := by
  refine JSp.of [(2, 2)] rfl (by decide +kernel) rfl rfl rfl (fun l E hA => ?_)
  refine V.aload_n dX3_removeAll_0 rfl ?_
  refine V.iconst dX3_removeAll_1 ⟨by decide, by decide⟩ ?_
  refine V.putI fa_X3_30 (by decide) rfl dX3_removeAll_2 (Or.inl rfl) ?_
  exact V.vret (jret_v dX3_removeAll_5 rfl) ⟨rfl, rfl⟩
theorem sp_X3_isFull {σ : JM} : JSp mX3_isFull 0 0 [(2, 2)] σ (jrv (if 200 ≤ σ 2 6 then 1 else 0) σ) jno := by
  refine JSp.of [(2, 2)] rfl (by decide +kernel) rfl rfl rfl (fun l E hA => ?_)
  refine V.aload_n dX3_isFull_0 rfl ?_
  refine V.getI fa_X3_30 (by decide) rfl dX3_isFull_1 (fun _ => ?_)
  refine V.sipush dX3_isFull_4 ⟨by decide, by decide⟩ ?_
  refine V.icmp_lt (tgt := 14) dX3_isFull_7 (by decide) (fun h7 => ?_) (fun h7 => ?_)
  · refine V.iconst dX3_isFull_14 ⟨by decide, by decide⟩ ?_
    exact V.iret (jret_z dX3_isFull_15 rfl (by decide)) ⟨jsm (by split <;> omega), rfl⟩
  · refine V.iconst dX3_isFull_10 ⟨by decide, by decide⟩ ?_
    refine V.goto (tgt := 15) dX3_isFull_11 (by decide) ?_
    exact V.iret (jret_z dX3_isFull_15 rfl (by decide)) ⟨jsm (by split <;> omega), rfl⟩
def jItm (σ : JM) (ln k dp v : Int) : JM := jset (jset (jset (jset (jset (jset σ 15 (σ 2 6) ln) 16 (σ 2 6) k) 17 (σ 2 6) dp) 18 (σ 2 6) v) 19 (σ 2 6) (-1)) 2 6 (σ 2 6 + 1)
theorem sp_X3_add {σ : JM} {ln k dp v : Int} (h0 : 0 ≤ σ 2 6) (h1 : σ 2 6 < 200) : JSp mX3_add 1 0 [(2, 2), (0, ln), (0, k), (0, dp), (0, v)] σ (jrv (σ 2 6) (jItm σ ln k dp v)) jno := by
  refine JSp.of [(2, 2), (0, ln), (0, k), (0, dp), (0, v), (9, 0)] rfl (by decide +kernel) rfl rfl rfl (fun l E hA => ?_)
  refine V.aload_n dX3_add_0 rfl ?_
  refine V.cV [] rfl kc_X3_51 rfl dX3_add_1 (by decide) rfl rfl (sp_X3_isFull) (fun _ => ?_)
  refine V.if_eq (tgt := 9) dX3_add_4 (by decide) (fun hh => ?_) (fun hh => ?_)
  · refine V.aload_n dX3_add_9 rfl ?_
    refine V.getI fa_X3_30 (by decide) rfl dX3_add_10 (fun _ => ?_)
    refine V.istore (L' := [_, _, _, _, _, _]) dX3_add_13 rfl rfl ?_
    refine V.aload_n dX3_add_15 rfl ?_
    refine V.getR fa_X3_9 rfl dX3_add_16 ?_
    refine V.iload dX3_add_19 rfl ?_
    refine V.iload_n dX3_add_21 rfl ?_
    refine V.iast (cell := 15) 0 rfl rfl rfl rfl dX3_add_22 (by omega) (by omega) ?_
    refine V.aload_n dX3_add_23 rfl ?_
    refine V.getR fa_X3_15 rfl dX3_add_24 ?_
    refine V.iload dX3_add_27 rfl ?_
    refine V.iload_n dX3_add_29 rfl ?_
    refine V.iast (cell := 16) 0 rfl rfl rfl rfl dX3_add_30 (by omega) (by omega) ?_
    refine V.aload_n dX3_add_31 rfl ?_
    refine V.getR fa_X3_18 rfl dX3_add_32 ?_
    refine V.iload dX3_add_35 rfl ?_
    refine V.iload_n dX3_add_37 rfl ?_
    refine V.iast (cell := 17) 0 rfl rfl rfl rfl dX3_add_38 (by omega) (by omega) ?_
    refine V.aload_n dX3_add_39 rfl ?_
    refine V.getR fa_X3_21 rfl dX3_add_40 ?_
    refine V.iload dX3_add_43 rfl ?_
    refine V.iload dX3_add_45 rfl ?_
    refine V.iast (cell := 18) 0 rfl rfl rfl rfl dX3_add_47 (by omega) (by omega) ?_
    refine V.aload_n dX3_add_48 rfl ?_
    refine V.getR fa_X3_24 rfl dX3_add_49 ?_
    refine V.iload dX3_add_52 rfl ?_
    refine V.iconst dX3_add_54 ⟨by decide, by decide⟩ ?_
    refine V.iast (cell := 19) 0 rfl rfl rfl rfl dX3_add_55 (by omega) (by omega) ?_
    refine V.aload_n dX3_add_56 rfl ?_
    refine V.dup dX3_add_57 rfl ?_
    refine V.getI fa_X3_30 (by decide) rfl dX3_add_58 (fun _ => ?_)
    refine V.iconst dX3_add_61 ⟨by decide, by decide⟩ ?_
    refine V.iadd dX3_add_62 ⟨(by first | omega | (show _ ≤ σ 2 6 + 1; omega) | (show σ 2 6 + 1 ≤ _; omega)), (by first | omega | (show _ ≤ σ 2 6 + 1; omega) | (show σ 2 6 + 1 ≤ _; omega))⟩ ?_
    refine V.putI fa_X3_30 (by decide) rfl dX3_add_63 (Or.inl rfl) ?_
    refine V.iload dX3_add_66 rfl ?_
    exact V.iret (jret_i dX3_add_68 rfl) ⟨rfl, rfl⟩
  · exact absurd (jb1.mp hh) (by omega)
theorem sp_X3_aim {σ : JM} {x v : Int} (h0 : 0 ≤ x) (h1 : x < σ 2 6) (h2 : σ 2 6 ≤ 200) : JSp mX3_aim 1 0 [(2, 2), (0, x), (0, v)] σ (jvv (jset σ 19 x v)) jno := by
  refine JSp.of [(2, 2), (0, x), (0, v)] rfl (by decide +kernel) rfl rfl rfl (fun l E hA => ?_)
  refine V.aload_n dX3_aim_0 rfl ?_
  refine V.getR fa_X3_24 rfl dX3_aim_1 ?_
  refine V.iload_n dX3_aim_4 rfl ?_
  refine V.iload_n dX3_aim_5 rfl ?_
  refine V.cN0 [_, _, _] rfl kc_X3_55 dX3_aim_6 (by decide) rfl rfl (sp_X6_setAt (k := 19) (N := 200) rfl rfl rfl rfl (h0) (by omega)) ?_
  exact V.vret (jret_v dX3_aim_9 rfl) ⟨rfl, rfl⟩
abbrev jref (k : Int) : Prop := k = 106 ∨ k = 74 ∨ k = 97
abbrev jmis (σ : JM) (x : Int) : Prop := jref (σ 16 x) ∧ σ 19 x = -1
def jfwt (σ : JM) (r : Int) : Prop := (r = -1 ∧ ∀ i, 0 ≤ i → i < σ 2 6 → ¬ jmis σ i) ∨ (0 ≤ r ∧ r < σ 2 6 ∧ jmis σ r ∧ ∀ i, 0 ≤ i → i < r → ¬ jmis σ i)
theorem sp_X3_firstWithoutTarget {σ : JM} (h0 : 0 ≤ σ 2 6) (h1 : σ 2 6 ≤ 200) : JSp mX3_firstWithoutTarget 1 0 [(2, 2)] σ (jrp (jfwt σ) σ) jno := by
  refine JSp.of [(2, 2), (9, 0)] rfl (by decide +kernel) rfl rfl rfl (fun l E hA => ?_)
  have loop : ∀ (m : Nat) (x : Int), 0 ≤ x → x ≤ σ 2 6 → σ 2 6 - x < m → (∀ i, 0 ≤ i → i < x → ¬ jmis σ i) → V l E mX3_firstWithoutTarget 1 0 (jrp (jfwt σ) σ) jno 2 [(2, 2), (0, x)] [] σ := by
    intro m
    induction m with
    | zero => intro x a1 a2 a3; omega
    | succ m ih =>
      intro x a1 a2 a3 a4
      refine V.iload_n dX3_firstWithoutTarget_2 rfl ?_
      refine V.aload_n dX3_firstWithoutTarget_3 rfl ?_
      refine V.getI fa_X3_30 (by decide) rfl dX3_firstWithoutTarget_4 (fun _ => ?_)
      refine V.icmp_ge (tgt := 40) dX3_firstWithoutTarget_7 (by decide) (fun h7 => ?_) (fun h7 => ?_)
      · refine V.iconst dX3_firstWithoutTarget_40 ⟨by decide, by decide⟩ ?_
        exact V.iret (jret_i dX3_firstWithoutTarget_41 rfl) ⟨-1, rfl, Or.inl ⟨rfl, fun i b1 b2 => a4 i b1 (by omega)⟩, rfl⟩
      · refine V.aload_n dX3_firstWithoutTarget_10 rfl ?_
        refine V.getR fa_X3_15 rfl dX3_firstWithoutTarget_11 ?_
        refine V.iload_n dX3_firstWithoutTarget_14 rfl ?_
        refine V.iald (cell := 16) 0 rfl rfl rfl rfl dX3_firstWithoutTarget_15 (by omega) (by omega) (fun _ => ?_)
        refine V.cN [_] rfl kc_X3_59 dX3_firstWithoutTarget_16 (by decide) rfl rfl (sp_X6_isReference) (fun _ => ?_)
        refine V.if_eq (tgt := 34) dX3_firstWithoutTarget_19 (by decide) (fun h19 => ?_) (fun h19 => ?_)
        · refine V.iinc (L' := [_, _]) dX3_firstWithoutTarget_34 rfl ⟨(by omega), (by omega)⟩ rfl ?_
          refine V.goto (tgt := 2) dX3_firstWithoutTarget_37 (by decide) ?_
          exact ih (x + 1) (by omega) (by omega) (by omega) (fun i b1 b2 => by
            by_cases e : i = x
            · subst e; first | exact fun q => absurd q.1 (jb0.mp h19) | exact fun q => absurd q.2 h29
            · exact a4 i b1 (by omega))
        · refine V.aload_n dX3_firstWithoutTarget_22 rfl ?_
          refine V.getR fa_X3_24 rfl dX3_firstWithoutTarget_23 ?_
          refine V.iload_n dX3_firstWithoutTarget_26 rfl ?_
          refine V.iald (cell := 19) 0 rfl rfl rfl rfl dX3_firstWithoutTarget_27 (by omega) (by omega) (fun _ => ?_)
          refine V.iconst dX3_firstWithoutTarget_28 ⟨by decide, by decide⟩ ?_
          refine V.icmp_ne (tgt := 34) dX3_firstWithoutTarget_29 (by decide) (fun h29 => ?_) (fun h29 => ?_)
          · refine V.iinc (L' := [_, _]) dX3_firstWithoutTarget_34 rfl ⟨(by omega), (by omega)⟩ rfl ?_
            refine V.goto (tgt := 2) dX3_firstWithoutTarget_37 (by decide) ?_
            exact ih (x + 1) (by omega) (by omega) (by omega) (fun i b1 b2 => by
              by_cases e : i = x
              · subst e; first | exact fun q => absurd q.1 (jb0.mp h19) | exact fun q => absurd q.2 h29
              · exact a4 i b1 (by omega))
          · refine V.iload_n dX3_firstWithoutTarget_32 rfl ?_
            exact V.iret (jret_i dX3_firstWithoutTarget_33 rfl) ⟨x, rfl, Or.inr ⟨a1, by omega, ⟨jb1.mp h19, h29⟩, a4⟩, rfl⟩
  refine V.iconst dX3_firstWithoutTarget_0 ⟨by decide, by decide⟩ ?_
  refine V.istore_n (L' := [_, _]) dX3_firstWithoutTarget_1 rfl rfl ?_
  exact loop ((σ 2 6).toNat + 1) 0 (by omega) h0 (by omega) (fun i b1 b2 => by omega)
def jcnt (σ : JM) (k x : Int) : Int := jsum (fun i => if σ 16 i = k then 1 else 0) x
theorem jcnt_le {σ : JM} {k x : Int} (h : 0 ≤ x) : 0 ≤ jcnt σ k x ∧ jcnt σ k x ≤ x := by
  have := jsum_le (g := fun i => if σ 16 i = k then (1 : Int) else 0) (c := 1) h (fun i _ _ => by by_cases q : σ 16 i = k <;> simp [q])
  unfold jcnt
  omega
theorem sp_X3_countKind {σ : JM} {k : Int} (h0 : 0 ≤ σ 2 6) (h1 : σ 2 6 ≤ 200) : JSp mX3_countKind 0 0 [(2, 2), (0, k)] σ (jrv (jcnt σ k (σ 2 6)) σ) jno := by
  refine JSp.of [(2, 2), (0, k), (9, 0), (9, 0)] rfl (by decide +kernel) rfl rfl rfl (fun l E hA => ?_)
  have loop : ∀ (m : Nat) (x : Int), 0 ≤ x → x ≤ σ 2 6 → σ 2 6 - x < m → V l E mX3_countKind 0 0 (jrv (jcnt σ k (σ 2 6)) σ) jno 4 [(2, 2), (0, k), (0, jcnt σ k x), (0, x)] [] σ := by
    intro m
    induction m with
    | zero => intro x a1 a2 a3; omega
    | succ m ih =>
      intro x a1 a2 a3
      have b1 := jcnt_le (σ := σ) (k := k) a1
      have b2 : jcnt σ k (x + 1) = jcnt σ k x + (if σ 16 x = k then 1 else 0) := jsum_s _ a1
      have b3 := ih (x + 1) (by omega)
      refine V.iload_n dX3_countKind_4 rfl ?_
      refine V.aload_n dX3_countKind_5 rfl ?_
      refine V.getI fa_X3_30 (by decide) rfl dX3_countKind_6 (fun _ => ?_)
      refine V.icmp_ge (tgt := 31) dX3_countKind_9 (by decide) (fun h9 => ?_) (fun h9 => ?_)
      · refine V.iload_n dX3_countKind_31 rfl ?_
        exact V.iret (jret_i dX3_countKind_32 rfl) ⟨by rw [show x = σ 2 6 by omega], rfl⟩
      · refine V.aload_n dX3_countKind_12 rfl ?_
        refine V.getR fa_X3_15 rfl dX3_countKind_13 ?_
        refine V.iload_n dX3_countKind_16 rfl ?_
        refine V.iald (cell := 16) 0 rfl rfl rfl rfl dX3_countKind_17 (by omega) (by omega) (fun _ => ?_)
        refine V.iload_n dX3_countKind_18 rfl ?_
        refine V.icmp_ne (tgt := 25) dX3_countKind_19 (by decide) (fun h19 => ?_) (fun h19 => ?_)
        · refine V.iinc (L' := [_, _, _, _]) dX3_countKind_25 rfl ⟨(by omega), (by omega)⟩ rfl ?_
          refine V.goto (tgt := 4) dX3_countKind_28 (by decide) ?_
          first | (rw [if_pos h19] at b2; rw [b2] at b3; exact b3 (by omega) (by omega)) | (rw [if_neg h19, Int.add_zero] at b2; rw [b2] at b3; exact b3 (by omega) (by omega))
        · refine V.iinc (L' := [_, _, _, _]) dX3_countKind_22 rfl ⟨(by omega), (by omega)⟩ rfl ?_
          refine V.iinc (L' := [_, _, _, _]) dX3_countKind_25 rfl ⟨(by omega), (by omega)⟩ rfl ?_
          refine V.goto (tgt := 4) dX3_countKind_28 (by decide) ?_
          first | (rw [if_pos h19] at b2; rw [b2] at b3; exact b3 (by omega) (by omega)) | (rw [if_neg h19, Int.add_zero] at b2; rw [b2] at b3; exact b3 (by omega) (by omega))
  refine V.iconst dX3_countKind_0 ⟨by decide, by decide⟩ ?_
  refine V.istore_n (L' := [_, _, _, _]) dX3_countKind_1 rfl rfl ?_
  refine V.iconst dX3_countKind_2 ⟨by decide, by decide⟩ ?_
  refine V.istore_n (L' := [_, _, _, _]) dX3_countKind_3 rfl rfl ?_
  exact loop ((σ 2 6).toNat + 1) 0 (by omega) h0 (by omega)
def jmul (a v : Int) : Int := if v < 2 then 0 else if a % v = 0 then 0 else v - a % v
theorem sp_X3_wordsToMultiple {σ : JM} {a v : Int} (ha : 0 ≤ a) : JSp mX3_wordsToMultiple 0 0 [(0, a), (0, v)] σ (jrv (jmul a v) σ) jno := by
  refine JSp.of [(0, a), (0, v), (9, 0)] rfl (by decide +kernel) rfl rfl rfl (fun l E hA => ?_)
  have hv : jrI v := hA (0, v) (by simp)
  obtain ⟨v1, v2⟩ := hv
  refine V.iload_n dX3_wordsToMultiple_0 rfl ?_
  refine V.iconst dX3_wordsToMultiple_1 ⟨by decide, by decide⟩ ?_
  refine V.icmp_ge (tgt := 7) dX3_wordsToMultiple_2 (by decide) (fun h2 => ?_) (fun h2 => ?_)
  · refine V.iload_n dX3_wordsToMultiple_7 rfl ?_
    refine V.iload_n dX3_wordsToMultiple_8 rfl ?_
    refine V.irem dX3_wordsToMultiple_9 (by omega) (by omega) ?_
    refine V.istore_n (L' := [_, _, _]) dX3_wordsToMultiple_10 rfl rfl ?_
    refine V.iload_n dX3_wordsToMultiple_11 rfl ?_
    refine V.if_ne (tgt := 19) dX3_wordsToMultiple_12 (by decide) (fun h12 => ?_) (fun h12 => ?_)
    · refine V.iload_n dX3_wordsToMultiple_19 rfl ?_
      refine V.iload_n dX3_wordsToMultiple_20 rfl ?_
      have q1 := Int.emod_nonneg a (show v ≠ 0 by omega)
      have q2 := Int.emod_lt_of_pos a (show 0 < v by omega)
      refine V.isub dX3_wordsToMultiple_21 ⟨(by omega), (by omega)⟩ ?_
      exact V.iret (jret_i dX3_wordsToMultiple_22 rfl) ⟨jsm (by unfold jmul; split <;> first | omega | (split <;> omega)), rfl⟩
    · refine V.iconst dX3_wordsToMultiple_15 ⟨by decide, by decide⟩ ?_
      refine V.goto (tgt := 22) dX3_wordsToMultiple_16 (by decide) ?_
      exact V.iret (jret_i dX3_wordsToMultiple_22 rfl) ⟨jsm (by unfold jmul; split <;> first | omega | (split <;> omega)), rfl⟩
  · refine V.iconst dX3_wordsToMultiple_5 ⟨by decide, by decide⟩ ?_
    exact V.iret (jret_i dX3_wordsToMultiple_6 rfl) ⟨jsm (by unfold jmul; split <;> first | omega | (split <;> omega)), rfl⟩
def jtk (k v a : Int) : Int := if k = 74 then 2 else if k = 103 then jmul a v else if k = 108 then 0 else 1
theorem sp_X3_wordsTaken {σ : JM} {x a : Int} (hx : 0 ≤ x ∧ x < 200) (ha : 0 ≤ a) : JSp mX3_wordsTaken 2 0 [(2, 2), (0, x), (0, a)] σ (jrv (jtk (σ 16 x) (σ 18 x) a) σ) jno := by
  have e1 : jat σ 16 200 x = σ 16 x := jat_in hx.1 hx.2
  have e2 : jat σ 18 200 x = σ 18 x := jat_in hx.1 hx.2
  refine JSp.of [(2, 2), (0, x), (0, a)] rfl (by decide +kernel) rfl rfl rfl (fun l E hA => ?_)
  refine V.aload_n dX3_wordsTaken_0 rfl ?_
  refine V.iload_n dX3_wordsTaken_1 rfl ?_
  refine V.cV [_] rfl kc_X3_73 rfl dX3_wordsTaken_2 (by decide) rfl rfl (sp_X3_kind) (fun _ => ?_)
  rw [e1]
  by_cases h74 : σ 16 x = 74
  · rw [h74]
    refine V.lookup (tgt := 42) dX3_wordsTaken_5 (by decide) (off := 37) (by decide) (by decide) ?_
    refine V.iconst dX3_wordsTaken_42 ⟨by decide, by decide⟩ ?_
    exact V.iret (jret_i dX3_wordsTaken_43 rfl) ⟨jsm (by simp_all [jtk]), rfl⟩
  by_cases h103 : σ 16 x = 103
  · rw [h103]
    refine V.lookup (tgt := 44) dX3_wordsTaken_5 (by decide) (off := 39) (by decide) (by decide) ?_
    refine V.iload_n dX3_wordsTaken_44 rfl ?_
    refine V.aload_n dX3_wordsTaken_45 rfl ?_
    refine V.iload_n dX3_wordsTaken_46 rfl ?_
    refine V.cV [_] rfl kc_X3_76 rfl dX3_wordsTaken_47 (by decide) rfl rfl (sp_X3_value) (fun _ => ?_)
    rw [e2]
    refine V.cS [_, _] rfl kc_X3_79 dX3_wordsTaken_50 (by decide) rfl rfl (sp_X3_wordsToMultiple ha) (fun _ => ?_)
    exact V.iret (jret_i dX3_wordsTaken_53 rfl) ⟨jsm (by simp_all [jtk]), rfl⟩
  by_cases h108 : σ 16 x = 108
  · rw [h108]
    refine V.lookup (tgt := 40) dX3_wordsTaken_5 (by decide) (off := 35) (by decide) (by decide) ?_
    refine V.iconst dX3_wordsTaken_40 ⟨by decide, by decide⟩ ?_
    exact V.iret (jret_i dX3_wordsTaken_41 rfl) ⟨jsm (by simp_all [jtk]), rfl⟩
  refine V.lookup (tgt := 54) dX3_wordsTaken_5 (by decide) (off := 49) (by simp [Op.lookupswitch.offset, Ne.symm h74, Ne.symm h103, Ne.symm h108]) (by decide) ?_
  refine V.iconst dX3_wordsTaken_54 ⟨by decide, by decide⟩ ?_
  exact V.iret (jret_i dX3_wordsTaken_55 rfl) ⟨jsm (by simp_all [jtk]), rfl⟩
/-- addresses: kinds K, values v -/
def jadN (K v : Int → Int) : Nat → Int
  | 0 => 0
  | n + 1 => jadN K v n + jtk (K n) (v n) (jadN K v n)
def jad (K v : Int → Int) (x : Int) : Int := jadN K v x.toNat
theorem jad_0 (K v : Int → Int) : jad K v 0 = 0 := rfl
theorem jad_s (K v : Int → Int) {x : Int} (h : 0 ≤ x) : jad K v (x + 1) = jad K v x + jtk (K x) (v x) (jad K v x) := by
  unfold jad
  rw [show (x + 1).toNat = x.toNat + 1 by omega]
  show jadN K v x.toNat + jtk (K (x.toNat : Nat)) (v (x.toNat : Nat)) (jadN K v x.toNat) = _
  rw [Int.toNat_of_nonneg h]
theorem jtk_le {k v a : Int} (h : k = 103 → v ≤ 8) (ha : 0 ≤ a) : 0 ≤ jtk k v a ∧ jtk k v a ≤ 7 := by
  unfold jtk jmul
  by_cases h1 : k = 74
  · rw [if_pos h1]; omega
  · rw [if_neg h1]
    by_cases h2 : k = 103
    · rw [if_pos h2]
      have := h h2
      by_cases h3 : v < 2
      · rw [if_pos h3]; omega
      · rw [if_neg h3]
        have q1 := Int.emod_nonneg a (show v ≠ 0 by omega)
        have q2 := Int.emod_lt_of_pos a (show 0 < v by omega)
        split <;> omega
    · rw [if_neg h2]
      split <;> omega
/-- what an alignment's size is -/
abbrev jsz (σ : JM) : Prop := ∀ i, 0 ≤ i → i < σ 2 6 → σ 16 i = 103 → σ 18 i ≤ 8
theorem jad_le {K v : Int → Int} {N : Int} (hs : ∀ i, 0 ≤ i → i < N → K i = 103 → v i ≤ 8) : ∀ (n : Nat), (n : Int) ≤ N → 0 ≤ jad K v n ∧ jad K v n ≤ 7 * n := by
  intro n
  induction n with
  | zero => intro _; exact ⟨Int.le_refl 0, Int.le_refl 0⟩
  | succ n ih =>
    intro h
    have h1 := ih (by omega)
    rw [show ((n + 1 : Nat) : Int) = (n : Int) + 1 by omega, jad_s K v (by omega)]
    have := jtk_le (k := K n) (v := v n) (hs n (by omega) (by omega)) h1.1
    omega
theorem jad_b {K v : Int → Int} {N x : Int} (hs : ∀ i, 0 ≤ i → i < N → K i = 103 → v i ≤ 8) (h0 : 0 ≤ x) (h1 : x ≤ N) : 0 ≤ jad K v x ∧ jad K v x ≤ 7 * x := by
  have := jad_le hs x.toNat (by omega)
  rw [Int.toNat_of_nonneg h0] at this
  exact this
theorem sp_X3_wordsBefore {σ : JM} {y : Int} (h0 : 0 ≤ y) (h1 : y < σ 2 6) (h2 : σ 2 6 ≤ 200) (hs : jsz σ) : JSp mX3_wordsBefore 3 0 [(2, 2), (0, y)] σ (jrv (jad (σ 16) (σ 18) y) σ) jno := by
  refine JSp.of [(2, 2), (0, y), (9, 0), (9, 0)] rfl (by decide +kernel) rfl rfl rfl (fun l E hA => ?_)
  have loop : ∀ (m : Nat) (x : Int), 0 ≤ x → x ≤ y → y - x < m → V l E mX3_wordsBefore 3 0 (jrv (jad (σ 16) (σ 18) y) σ) jno 4 [(2, 2), (0, y), (0, jad (σ 16) (σ 18) x), (0, x)] [] σ := by
    intro m
    induction m with
    | zero => intro x a1 a2 a3; omega
    | succ m ih =>
      intro x a1 a2 a3
      have b1 := jad_b hs a1 (show x ≤ σ 2 6 by omega)
      have b2 := jad_s (σ 16) (σ 18) a1
      have b3 := ih (x + 1) (by omega)
      refine V.iload_n dX3_wordsBefore_4 rfl ?_
      refine V.iload_n dX3_wordsBefore_5 rfl ?_
      refine V.icmp_ge (tgt := 32) dX3_wordsBefore_6 (by decide) (fun h6 => ?_) (fun h6 => ?_)
      · refine V.iload_n dX3_wordsBefore_32 rfl ?_
        exact V.iret (jret_i dX3_wordsBefore_33 rfl) ⟨by rw [show x = y by omega], rfl⟩
      · refine V.iload_n dX3_wordsBefore_9 rfl ?_
        refine V.aload_n dX3_wordsBefore_10 rfl ?_
        refine V.getI fa_X3_30 (by decide) rfl dX3_wordsBefore_11 (fun _ => ?_)
        refine V.icmp_ge (tgt := 32) dX3_wordsBefore_14 (by decide) (fun h14 => ?_) (fun h14 => ?_)
        · exact absurd h14 (by omega)
        · refine V.iload_n dX3_wordsBefore_17 rfl ?_
          refine V.aload_n dX3_wordsBefore_18 rfl ?_
          refine V.iload_n dX3_wordsBefore_19 rfl ?_
          refine V.iload_n dX3_wordsBefore_20 rfl ?_
          refine V.cV [_, _] rfl kc_X3_63 rfl dX3_wordsBefore_21 (by decide) rfl rfl (sp_X3_wordsTaken (by omega) b1.1) (fun _ => ?_)
          have b4 := jtk_le (k := σ 16 x) (v := σ 18 x) (a := jad (σ 16) (σ 18) x) (hs x a1 (by omega)) b1.1
          refine V.iadd dX3_wordsBefore_24 ⟨(by omega), (by omega)⟩ ?_
          refine V.istore_n (L' := [_, _, _, _]) dX3_wordsBefore_25 rfl rfl ?_
          refine V.iinc (L' := [_, _, _, _]) dX3_wordsBefore_26 rfl ⟨(by omega), (by omega)⟩ rfl ?_
          refine V.goto (tgt := 4) dX3_wordsBefore_29 (by decide) ?_
          rw [b2] at b3; exact b3 (by omega) (by omega)
  refine V.iconst dX3_wordsBefore_0 ⟨by decide, by decide⟩ ?_
  refine V.istore_n (L' := [_, _, _, _]) dX3_wordsBefore_1 rfl rfl ?_
  refine V.iconst dX3_wordsBefore_2 ⟨by decide, by decide⟩ ?_
  refine V.istore_n (L' := [_, _, _, _]) dX3_wordsBefore_3 rfl rfl ?_
  exact loop (y.toNat + 1) 0 (by omega) h0 (by omega)
def jFA2 (σ : JM) : JM := jfill σ 20 (σ 2 6) (jad (σ 16) (σ 18))
theorem sp_X3_findAddresses {σ : JM} (h1 : 0 ≤ σ 2 6) (h2 : σ 2 6 ≤ 200) (hs : jsz σ) : JSp mX3_findAddresses 3 0 [(2, 2)] σ (jvv (jFA2 σ)) jno := by
  refine JSp.of [(2, 2), (9, 0), (9, 0)] rfl (by decide +kernel) rfl rfl rfl (fun l E hA => ?_)
  have loop : ∀ (m : Nat) (x : Int), 0 ≤ x → x ≤ σ 2 6 → σ 2 6 - x < m → V l E mX3_findAddresses 3 0 (jvv (jFA2 σ)) jno 4 [(2, 2), (0, jad (σ 16) (σ 18) x), (0, x)] [] (jfill σ 20 x (jad (σ 16) (σ 18))) := by
    intro m
    induction m with
    | zero => intro x a1 a2 a3; omega
    | succ m ih =>
      intro x a1 a2 a3
      have b1 := jad_b hs a1 (show x ≤ σ 2 6 by omega)
      have b2 := jad_s (σ 16) (σ 18) a1
      have b3 := ih (x + 1) (by omega)
      have b5 := jfill_s σ 20 a1 (jad (σ 16) (σ 18))
      refine V.iload_n dX3_findAddresses_4 rfl ?_
      refine V.aload_n dX3_findAddresses_5 rfl ?_
      refine V.getI fa_X3_30 (by decide) rfl dX3_findAddresses_6 (fun _ => ?_)
      rw [jfill_ne σ (by decide)]
      refine V.icmp_ge (tgt := 34) dX3_findAddresses_9 (by decide) (fun h9 => ?_) (fun h9 => ?_)
      · exact V.vret (jret_v dX3_findAddresses_34 rfl) ⟨rfl, by rw [show x = σ 2 6 by omega]; rfl⟩
      · refine V.aload_n dX3_findAddresses_12 rfl ?_
        refine V.getR fa_X3_27 rfl dX3_findAddresses_13 ?_
        refine V.iload_n dX3_findAddresses_16 rfl ?_
        refine V.iload_n dX3_findAddresses_17 rfl ?_
        refine V.iast (cell := 20) 0 rfl rfl rfl rfl dX3_findAddresses_18 (by omega) (by omega) ?_
        refine V.iload_n dX3_findAddresses_19 rfl ?_
        refine V.aload_n dX3_findAddresses_20 rfl ?_
        refine V.iload_n dX3_findAddresses_21 rfl ?_
        refine V.iload_n dX3_findAddresses_22 rfl ?_
        refine V.cV [_, _] rfl kc_X3_63 rfl dX3_findAddresses_23 (by decide) rfl rfl (sp_X3_wordsTaken (by omega) b1.1) (fun _ => ?_)
        rw [b5, jfill_ne σ (by decide), jfill_ne σ (by decide)]
        have b4 := jtk_le (k := σ 16 x) (v := σ 18 x) (a := jad (σ 16) (σ 18) x) (hs x a1 (by omega)) b1.1
        refine V.iadd dX3_findAddresses_26 ⟨(by omega), (by omega)⟩ ?_
        refine V.istore_n (L' := [_, _, _]) dX3_findAddresses_27 rfl rfl ?_
        refine V.iinc (L' := [_, _, _]) dX3_findAddresses_28 rfl ⟨(by omega), (by omega)⟩ rfl ?_
        refine V.goto (tgt := 4) dX3_findAddresses_31 (by decide) ?_
        rw [b2] at b3; exact b3 (by omega) (by omega)
  refine V.iconst dX3_findAddresses_0 ⟨by decide, by decide⟩ ?_
  refine V.istore_n (L' := [_, _, _]) dX3_findAddresses_1 rfl rfl ?_
  refine V.iconst dX3_findAddresses_2 ⟨by decide, by decide⟩ ?_
  refine V.istore_n (L' := [_, _, _]) dX3_findAddresses_3 rfl rfl ?_
  have := loop ((σ 2 6).toNat + 1) 0 (by omega) h1 (by omega)
  rw [jfill_0] at this
  exact this
