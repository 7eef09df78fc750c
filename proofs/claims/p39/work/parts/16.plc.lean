theorem sp_X3_isShortDistance {σ : JM} {x : Int} : JSp mX3_isShortDistance 0 0 [(0, x)] σ (jrv (if -8 ≤ x ∧ x ≤ 7 then 1 else 0) σ) jno := by
  refine JSp.of [(0, x)] rfl (by decide +kernel) rfl rfl rfl (fun l E hA => ?_)
  refine V.iload_n dX3_isShortDistance_0 rfl ?_
  refine V.bipush dX3_isShortDistance_1 ⟨by decide, by decide⟩ ?_
  refine V.icmp_lt (tgt := 16) dX3_isShortDistance_3 (by decide) (fun h3 => ?_) (fun h3 => ?_)
  · refine V.iconst dX3_isShortDistance_16 ⟨by decide, by decide⟩ ?_
    exact V.iret (jret_z dX3_isShortDistance_17 rfl (by decide)) ⟨jsm (by split <;> omega), rfl⟩
  · refine V.iload_n dX3_isShortDistance_6 rfl ?_
    refine V.bipush dX3_isShortDistance_7 ⟨by decide, by decide⟩ ?_
    refine V.icmp_gt (tgt := 16) dX3_isShortDistance_9 (by decide) (fun h9 => ?_) (fun h9 => ?_)
    · refine V.iconst dX3_isShortDistance_16 ⟨by decide, by decide⟩ ?_
      exact V.iret (jret_z dX3_isShortDistance_17 rfl (by decide)) ⟨jsm (by split <;> omega), rfl⟩
    · refine V.iconst dX3_isShortDistance_12 ⟨by decide, by decide⟩ ?_
      refine V.goto (tgt := 17) dX3_isShortDistance_13 (by decide) ?_
      exact V.iret (jret_z dX3_isShortDistance_17 rfl (by decide)) ⟨jsm (by split <;> omega), rfl⟩
theorem jfill_k (σ : JM) (k : Nat) {x : Int} (h : 0 ≤ x) {f : Int → Int} (hf : f x = σ k x) : jfill σ k (x + 1) f = jfill σ k x f := by
  rw [← jfill_s σ k h f, hf]
  funext a b
  unfold jset
  by_cases e : a = k ∧ b = x
  · rw [if_pos e, e.1, e.2, jfill_out σ k (by omega)]
  · rw [if_neg e]
/-- which jumps become long, by the addresses that stand there -/
abbrev jfar (σ : JM) (i : Int) : Prop := σ 16 i = 106 ∧ ¬ (-8 ≤ jdst σ i ∧ jdst σ i ≤ 7)
def jlK (σ : JM) (i : Int) : Int := if jfar σ i then 74 else σ 16 i
def jlg (σ : JM) (i : Int) : Int := if jfar σ i then 1 else 0
theorem sp_X3_lengthenJumps {σ : JM} (h0 : 0 ≤ σ 2 6) (h1 : σ 2 6 ≤ 200) (hd : ∀ i, 0 ≤ i → i < σ 2 6 → σ 16 i = 106 → (-1 ≤ jtad σ i ∧ jtad σ i ≤ 10000) ∧ (-1 ≤ jat σ 20 200 i ∧ jat σ 20 200 i ≤ 10000)) : JSp mX3_lengthenJumps 4 0 [(2, 2)] σ (jrv (if 0 < jsum (jlg σ) (σ 2 6) then 1 else 0) (jfill σ 16 (σ 2 6) (jlK σ))) jno := by
  refine JSp.of [(2, 2), (9, 0), (9, 0)] rfl (by decide +kernel) rfl rfl rfl (fun l E hA => ?_)
  have g0 : ∀ x, 0 ≤ x → 0 ≤ jsum (jlg σ) x := fun x hx => (jsum_le (g := jlg σ) (c := 1) hx (fun i _ _ => by unfold jlg; split <;> omega)).1
  have loop : ∀ (m : Nat) (x : Int), 0 ≤ x → x ≤ σ 2 6 → σ 2 6 - x < m → V l E mX3_lengthenJumps 4 0 (jrv (if 0 < jsum (jlg σ) (σ 2 6) then 1 else 0) (jfill σ 16 (σ 2 6) (jlK σ))) jno 4 [(2, 2), (0, if 0 < jsum (jlg σ) x then 1 else 0), (0, x)] [] (jfill σ 16 x (jlK σ)) := by
    intro m
    induction m with
    | zero => intro x a1 a2 a3; omega
    | succ m ih =>
      intro x a1 a2 a3
      have b1 := jsum_s (jlg σ) a1
      have b2 := g0 x a1
      have b3 := ih (x + 1) (by omega)
      have b4 := jfill_s σ 16 a1 (jlK σ)
      have b5 : jfill σ 16 x (jlK σ) 16 x = σ 16 x := jfill_out σ 16 (by omega) _
      refine V.iload_n dX3_lengthenJumps_4 rfl ?_
      refine V.aload_n dX3_lengthenJumps_5 rfl ?_
      refine V.getI fa_X3_30 (by decide) rfl dX3_lengthenJumps_6 (fun _ => ?_)
      rw [show jfill σ 16 x (jlK σ) 2 6 = σ 2 6 from rfl]
      refine V.icmp_ge (tgt := 50) dX3_lengthenJumps_9 (by decide) (fun h9 => ?_) (fun h9 => ?_)
      · refine V.iload_n dX3_lengthenJumps_50 rfl ?_
        exact V.iret (jret_z dX3_lengthenJumps_51 rfl (by split <;> simp)) ⟨by rw [show x = σ 2 6 by omega], by rw [show x = σ 2 6 by omega]⟩
      · refine V.aload_n dX3_lengthenJumps_12 rfl ?_
        refine V.getR fa_X3_15 rfl dX3_lengthenJumps_13 ?_
        refine V.iload_n dX3_lengthenJumps_16 rfl ?_
        refine V.iald (cell := 16) 0 rfl rfl rfl rfl dX3_lengthenJumps_17 (by omega) (by omega) (fun _ => ?_)
        refine V.bipush dX3_lengthenJumps_18 ⟨by decide, by decide⟩ ?_
        rw [b5]
        refine V.icmp_ne (tgt := 44) dX3_lengthenJumps_20 (by decide) (fun h20 => ?_) (fun h20 => ?_)
        · try replace h31 := jb1.mp h31
          refine V.iinc (L' := [_, _, _]) dX3_lengthenJumps_44 rfl ⟨(by omega), (by omega)⟩ rfl ?_
          refine V.goto (tgt := 4) dX3_lengthenJumps_47 (by decide) ?_
          first
          | (have b6 : ¬ jfar σ x := fun q => h20 q.1
             rw [jfill_k σ 16 a1 (show jlK σ x = σ 16 x by unfold jlK; rw [if_neg b6])] at b3
             rw [b1, show jlg σ x = 0 by unfold jlg; rw [if_neg b6], Int.add_zero] at b3
             exact b3 (by omega) (by omega))
          | (have b6 : ¬ jfar σ x := fun q => q.2 h31
             rw [jfill_k σ 16 a1 (show jlK σ x = σ 16 x by unfold jlK; rw [if_neg b6])] at b3
             rw [b1, show jlg σ x = 0 by unfold jlg; rw [if_neg b6], Int.add_zero] at b3
             exact b3 (by omega) (by omega))
          | (have b6 : jfar σ x := ⟨h20, h31⟩
             rw [show (74 : Int) = jlK σ x by unfold jlK; rw [if_pos b6], b4]
             have b7 : jlg σ x = 1 := by unfold jlg; rw [if_pos b6]
             rw [b1, if_pos (show 0 < jsum (jlg σ) x + jlg σ x by rw [b7]; omega)] at b3
             exact b3 (by omega) (by omega))
        · refine V.aload_n dX3_lengthenJumps_23 rfl ?_
          refine V.iload_n dX3_lengthenJumps_24 rfl ?_
          refine V.cV [_] rfl kc_X3_82 rfl dX3_lengthenJumps_25 (by decide) rfl rfl (sp_X3_distance (σ := jfill σ 16 x (jlK σ)) (hd x a1 (by omega) h20).1 (hd x a1 (by omega) h20).2) (fun _ => ?_)
          rw [show jdst (jfill σ 16 x (jlK σ)) x = jdst σ x from rfl]
          refine V.cS [_] rfl kc_X3_85 dX3_lengthenJumps_28 (by decide) rfl rfl (sp_X3_isShortDistance) (fun _ => ?_)
          refine V.if_ne (tgt := 44) dX3_lengthenJumps_31 (by decide) (fun h31 => ?_) (fun h31 => ?_)
          · try replace h31 := jb1.mp h31
            refine V.iinc (L' := [_, _, _]) dX3_lengthenJumps_44 rfl ⟨(by omega), (by omega)⟩ rfl ?_
            refine V.goto (tgt := 4) dX3_lengthenJumps_47 (by decide) ?_
            first
            | (have b6 : ¬ jfar σ x := fun q => h20 q.1
               rw [jfill_k σ 16 a1 (show jlK σ x = σ 16 x by unfold jlK; rw [if_neg b6])] at b3
               rw [b1, show jlg σ x = 0 by unfold jlg; rw [if_neg b6], Int.add_zero] at b3
               exact b3 (by omega) (by omega))
            | (have b6 : ¬ jfar σ x := fun q => q.2 h31
               rw [jfill_k σ 16 a1 (show jlK σ x = σ 16 x by unfold jlK; rw [if_neg b6])] at b3
               rw [b1, show jlg σ x = 0 by unfold jlg; rw [if_neg b6], Int.add_zero] at b3
               exact b3 (by omega) (by omega))
            | (have b6 : jfar σ x := ⟨h20, h31⟩
               rw [show (74 : Int) = jlK σ x by unfold jlK; rw [if_pos b6], b4]
               have b7 : jlg σ x = 1 := by unfold jlg; rw [if_pos b6]
               rw [b1, if_pos (show 0 < jsum (jlg σ) x + jlg σ x by rw [b7]; omega)] at b3
               exact b3 (by omega) (by omega))
          · replace h31 := jb0.mp h31
            refine V.aload_n dX3_lengthenJumps_34 rfl ?_
            refine V.getR fa_X3_15 rfl dX3_lengthenJumps_35 ?_
            refine V.iload_n dX3_lengthenJumps_38 rfl ?_
            refine V.bipush dX3_lengthenJumps_39 ⟨by decide, by decide⟩ ?_
            refine V.iast (cell := 16) 0 rfl rfl rfl rfl dX3_lengthenJumps_41 (by omega) (by omega) ?_
            refine V.iconst dX3_lengthenJumps_42 ⟨by decide, by decide⟩ ?_
            refine V.istore_n (L' := [_, _, _]) dX3_lengthenJumps_43 rfl rfl ?_
            try replace h31 := jb1.mp h31
            refine V.iinc (L' := [_, _, _]) dX3_lengthenJumps_44 rfl ⟨(by omega), (by omega)⟩ rfl ?_
            refine V.goto (tgt := 4) dX3_lengthenJumps_47 (by decide) ?_
            first
            | (have b6 : ¬ jfar σ x := fun q => h20 q.1
               rw [jfill_k σ 16 a1 (show jlK σ x = σ 16 x by unfold jlK; rw [if_neg b6])] at b3
               rw [b1, show jlg σ x = 0 by unfold jlg; rw [if_neg b6], Int.add_zero] at b3
               exact b3 (by omega) (by omega))
            | (have b6 : ¬ jfar σ x := fun q => q.2 h31
               rw [jfill_k σ 16 a1 (show jlK σ x = σ 16 x by unfold jlK; rw [if_neg b6])] at b3
               rw [b1, show jlg σ x = 0 by unfold jlg; rw [if_neg b6], Int.add_zero] at b3
               exact b3 (by omega) (by omega))
            | (have b6 : jfar σ x := ⟨h20, h31⟩
               rw [show (74 : Int) = jlK σ x by unfold jlK; rw [if_pos b6], b4]
               have b7 : jlg σ x = 1 := by unfold jlg; rw [if_pos b6]
               rw [b1, if_pos (show 0 < jsum (jlg σ) x + jlg σ x by rw [b7]; omega)] at b3
               exact b3 (by omega) (by omega))
  refine V.iconst dX3_lengthenJumps_0 ⟨by decide, by decide⟩ ?_
  refine V.istore_n (L' := [_, _, _]) dX3_lengthenJumps_1 rfl rfl ?_
  refine V.iconst dX3_lengthenJumps_2 ⟨by decide, by decide⟩ ?_
  refine V.istore_n (L' := [_, _, _]) dX3_lengthenJumps_3 rfl rfl ?_
  have := loop ((σ 2 6).toNat + 1) 0 (by omega) h0 (by omega)
  rw [jfill_0] at this
  exact this
/-! placing: kinds K, targets T, values v, n items -/
def jds (T v K : Int → Int) (i : Int) : Int := jad K v (T i) - jad K v i - 1
abbrev jfr (T v : Int → Int) (n : Int) (K : Int → Int) (i : Int) : Prop := (0 ≤ i ∧ i < n) ∧ K i = 106 ∧ ¬ (-8 ≤ jds T v K i ∧ jds T v K i ≤ 7)
def jnK (T v : Int → Int) (n : Int) (K : Int → Int) : Int → Int := fun i => if jfr T v n K i then 74 else K i
def jnc (T v : Int → Int) (n : Int) (K : Int → Int) : Int := jsum (fun i => if jfr T v n K i then 1 else 0) n
def jplK (T v : Int → Int) (n : Int) : Nat → (Int → Int) → Int → Int
  | 0, K => K
  | f + 1, K => if 0 < jnc T v n K then jplK T v n f (jnK T v n K) else K
def jplP (T v : Int → Int) (n : Int) : Nat → (Int → Int) → Int
  | 0, _ => 0
  | f + 1, K => if 0 < jnc T v n K then 1 + jplP T v n f (jnK T v n K) else 1
def jsh6 (K : Int → Int) (n : Int) : Int := jsum (fun i => if K i = 106 then 1 else 0) n
theorem jsum_add {g f : Int → Int} {x : Int} (h : 0 ≤ x) : jsum (fun i => g i + f i) x = jsum g x + jsum f x := by
  obtain ⟨n, rfl⟩ : ∃ n : Nat, x = (n : Int) := ⟨x.toNat, by omega⟩
  clear h
  induction n with
  | zero => rfl
  | succ n ih =>
    rw [show ((n + 1 : Nat) : Int) = (n : Int) + 1 by omega, jsum_s _ (by omega), jsum_s _ (by omega), jsum_s _ (by omega), ih]
    omega
theorem jsh6_n {T v : Int → Int} {n : Int} (h : 0 ≤ n) (K : Int → Int) : jsh6 (jnK T v n K) n + jnc T v n K = jsh6 K n := by
  unfold jsh6 jnc
  rw [← jsum_add h]
  apply jsum_c
  intro i h0 h1
  unfold jnK
  by_cases e : jfr T v n K i
  · simp [e]
  · simp [e]
theorem jsh6_le {K : Int → Int} {n : Int} (h : 0 ≤ n) : 0 ≤ jsh6 K n ∧ jsh6 K n ≤ n := by
  have := jsum_le (g := fun i => if K i = 106 then (1 : Int) else 0) (c := 1) h (fun i _ _ => by by_cases q : K i = 106 <;> simp [q])
  unfold jsh6; omega
theorem jnc_0 {T v : Int → Int} {n : Int} (h : 0 ≤ n) (K : Int → Int) : 0 ≤ jnc T v n K :=
  (jsum_le (g := fun i => if jfr T v n K i then (1 : Int) else 0) (c := 1) h (fun i _ _ => by show (0 : Int) ≤ (if jfr T v n K i then 1 else 0) ∧ (if jfr T v n K i then (1 : Int) else 0) ≤ 1; split <;> omega)).1
theorem jsum_z {g : Int → Int} {x : Int} (hg : ∀ i, 0 ≤ i → i < x → 0 ≤ g i) (h : jsum g x ≤ 0) : ∀ i, 0 ≤ i → i < x → g i = 0 := by
  intro i h0 h1
  have key : ∀ n : Nat, i < n → (n : Int) ≤ x → g i ≤ jsum g n := by
    intro n
    induction n with
    | zero => intro q; omega
    | succ n ih =>
      intro q1 q2
      rw [show ((n + 1 : Nat) : Int) = (n : Int) + 1 by omega, jsum_s _ (by omega)]
      have hn := hg n (by omega) (by omega)
      have hp : 0 ≤ jsum g n := by
        clear ih
        have : ∀ k : Nat, (k : Int) ≤ x → 0 ≤ jsum g k := by
          intro k
          induction k with
          | zero => intro _; exact Int.le_refl 0
          | succ k ih => intro q; rw [show ((k + 1 : Nat) : Int) = (k : Int) + 1 by omega, jsum_s _ (by omega)]; have := ih (by omega); have := hg k (by omega) (by omega); omega
        exact this n (by omega)
      by_cases e : i = n
      · subst e; omega
      · have := ih (by omega) (by omega); omega
  have := key x.toNat (by omega) (by omega)
  rw [Int.toNat_of_nonneg (by omega)] at this
  have := hg i h0 h1
  omega
theorem jnK_id {T v : Int → Int} {n : Int} (K : Int → Int) (h : ¬ 0 < jnc T v n K) : jnK T v n K = K := by
  funext i
  unfold jnK
  rw [if_neg]
  intro q
  have := jsum_z (g := fun i => if jfr T v n K i then (1 : Int) else 0) (x := n) (fun i _ _ => by show (0 : Int) ≤ (if jfr T v n K i then 1 else 0); split <;> omega) (by unfold jnc at h; omega) i q.1.1 q.1.2
  simp [q] at this
theorem jplK_ge (T v : Int → Int) {n : Int} (hn : 0 ≤ n) : ∀ (f : Nat) (K : Int → Int), jsh6 K n < f → ∀ g : Nat, f ≤ g → jplK T v n g K = jplK T v n f K ∧ jplP T v n g K = jplP T v n f K := by
  intro f
  induction f with
  | zero => intro K h; have := (jsh6_le (K := K) hn).1; omega
  | succ f ih =>
    intro K h g hg
    obtain ⟨g, rfl⟩ : ∃ k, g = k + 1 := ⟨g - 1, by omega⟩
    unfold jplK jplP
    by_cases e : 0 < jnc T v n K
    · have e2 := jsh6_n (T := T) (v := v) hn K
      have := ih (jnK T v n K) (by omega) g (by omega)
      rw [if_pos e, if_pos e, if_pos e, if_pos e, this.1, this.2]
      exact ⟨rfl, rfl⟩
    · rw [if_neg e, if_neg e, if_neg e, if_neg e]; exact ⟨rfl, rfl⟩
/-- a row as a whole -/
def jrow (σ : JM) (k : Nat) (f : Int → Int) : JM := fun a b => if a = k then f b else σ a b
def jpM (σ : JM) (K A : Int → Int) (p : Int) : JM := jset (jrow (jrow σ 16 K) 20 A) 2 7 p
def jpA (σ : JM) (K A : Int → Int) : Int → Int := fun b => if 0 ≤ b ∧ b < σ 2 6 then jad K (σ 18) b else A b
theorem jFA2_pM (σ : JM) (K A : Int → Int) (p : Int) : jFA2 (jpM σ K A p) = jpM σ K (jpA σ K A) p := by
  funext a b
  show (if a = 20 ∧ 0 ≤ b ∧ b < σ 2 6 then jad K (σ 18) b else jpM σ K A p a b) = jpM σ K (jpA σ K A) p a b
  unfold jpM jset jrow jpA
  by_cases h : a = 20
  · subst h
    by_cases h2 : 0 ≤ b ∧ b < σ 2 6 <;> simp [h2]
  · simp [h]
theorem jfill_pM (σ : JM) (K A : Int → Int) (p : Int) (hT : ∀ i, 0 ≤ i → i < σ 2 6 → K i = 106 → 0 ≤ σ 19 i ∧ σ 19 i < σ 2 6) (h1 : σ 2 6 ≤ 200) :
    jfill (jpM σ K (jpA σ K A) p) 16 (σ 2 6) (jlK (jpM σ K (jpA σ K A) p)) = jpM σ (jnK (σ 19) (σ 18) (σ 2 6) K) (jpA σ K A) p ∧ jsum (jlg (jpM σ K (jpA σ K A) p)) (σ 2 6) = jnc (σ 19) (σ 18) (σ 2 6) K := by
  have e : ∀ i, 0 ≤ i → i < σ 2 6 → K i = 106 → jdst (jpM σ K (jpA σ K A) p) i = jds (σ 19) (σ 18) K i := by
    intro i h0 hi hk
    obtain ⟨t0, t1⟩ := hT i h0 hi hk
    show jat (jpM σ K (jpA σ K A) p) 20 200 (jat σ 19 200 i) - jat (jpM σ K (jpA σ K A) p) 20 200 i - 1 = _
    rw [jat_in (σ := σ) h0 (by omega), jat_in t0 (by omega), jat_in h0 (by omega)]
    show jpA σ K A (σ 19 i) - jpA σ K A i - 1 = _
    unfold jpA jds
    rw [if_pos ⟨t0, t1⟩, if_pos ⟨h0, hi⟩]
  have e2 : ∀ i, 0 ≤ i → i < σ 2 6 → (jfar (jpM σ K (jpA σ K A) p) i ↔ jfr (σ 19) (σ 18) (σ 2 6) K i) := by
    intro i h0 hi
    show (K i = 106 ∧ _) ↔ _
    constructor
    · rintro ⟨q1, q2⟩; rw [e i h0 hi q1] at q2; exact ⟨⟨h0, hi⟩, q1, q2⟩
    · rintro ⟨-, q1, q2⟩; rw [← e i h0 hi q1] at q2; exact ⟨q1, q2⟩
  constructor
  · funext a b
    by_cases h : a = 16 ∧ 0 ≤ b ∧ b < σ 2 6
    · obtain ⟨rfl, h0, hb⟩ := h
      rw [jfill_in _ 16 h0 hb]
      show (if jfar (jpM σ K (jpA σ K A) p) b then 74 else K b) = (if jfr (σ 19) (σ 18) (σ 2 6) K b then 74 else K b)
      simp only [e2 b h0 hb]
    · rw [show jfill (jpM σ K (jpA σ K A) p) 16 (σ 2 6) (jlK (jpM σ K (jpA σ K A) p)) a b = jpM σ K (jpA σ K A) p a b by unfold jfill; rw [if_neg h]]
      by_cases h2 : a = 16
      · subst h2
        show K b = (if jfr (σ 19) (σ 18) (σ 2 6) K b then 74 else K b)
        rw [if_neg (fun q => h ⟨rfl, q.1⟩)]
      · unfold jpM jset jrow; simp [h2]
  · apply jsum_c
    intro i h0 hi
    show (if jfar (jpM σ K (jpA σ K A) p) i then (1 : Int) else 0) = if jfr (σ 19) (σ 18) (σ 2 6) K i then 1 else 0
    simp only [e2 i h0 hi]
def jPl (σ : JM) : JM := jpM σ (jplK (σ 19) (σ 18) (σ 2 6) 201 (σ 16)) (jpA σ (jplK (σ 19) (σ 18) (σ 2 6) 201 (σ 16)) (σ 20)) (jplP (σ 19) (σ 18) (σ 2 6) 201 (σ 16))
theorem jpA_2 (σ : JM) (K K2 A : Int → Int) : jpA σ K2 (jpA σ K A) = jpA σ K2 A := by
  funext b
  unfold jpA
  by_cases h : 0 ≤ b ∧ b < σ 2 6 <;> simp [h]
theorem jpM_0 (σ : JM) : jpM σ (σ 16) (σ 20) 0 = jset σ 2 7 0 := by
  funext a b
  unfold jpM jset jrow
  by_cases h : a = 2 ∧ b = 7
  · rw [if_pos h, if_pos h]
  · rw [if_neg h, if_neg h]
    by_cases h2 : a = 20
    · rw [if_pos h2, h2]
    · rw [if_neg h2]
      by_cases h3 : a = 16
      · rw [if_pos h3, h3]
      · rw [if_neg h3]
theorem jpM_p (σ : JM) (K A : Int → Int) (p q : Int) : jset (jpM σ K A p) 2 7 q = jpM σ K A q := by
  funext a b
  unfold jpM jset
  by_cases h : a = 2 ∧ b = 7 <;> simp [h]
theorem sp_X3_place {σ : JM} (h0 : 0 ≤ σ 2 6) (h1 : σ 2 6 ≤ 200) (hs : jsz σ) (hT : ∀ i, 0 ≤ i → i < σ 2 6 → σ 16 i = 106 → 0 ≤ σ 19 i ∧ σ 19 i < σ 2 6) : JSp mX3_place 5 0 [(2, 2)] σ (jvv (jPl σ)) jno := by
  refine JSp.of [(2, 2), (9, 0)] rfl (by decide +kernel) rfl rfl rfl (fun l E hA => ?_)
  have loop : ∀ (f : Nat) (K : Int → Int) (A : Int → Int) (p : Int), jsh6 K (σ 2 6) < f → 0 ≤ p → p + f ≤ 201 → (∀ i, 0 ≤ i → i < σ 2 6 → K i = 103 → σ 18 i ≤ 8) → (∀ i, K i = 106 → σ 16 i = 106) →
      jpM σ (jplK (σ 19) (σ 18) (σ 2 6) f K) (jpA σ (jplK (σ 19) (σ 18) (σ 2 6) f K) A) (p + jplP (σ 19) (σ 18) (σ 2 6) f K) = jPl σ → V l E mX3_place 5 0 (jvv (jPl σ)) jno 7 [(2, 2), (0, 1)] [] (jpM σ K A p) := by
    intro f
    induction f with
    | zero => intro K A p a1; have := (jsh6_le (K := K) h0).1; omega
    | succ f ih =>
      intro K A p a1 a2 a3 a4 a5 a6
      have c1 := jFA2_pM σ K A (p + 1)
      have c2 := jfill_pM σ K A (p + 1) (fun i i0 i1 i2 => hT i i0 i1 (a5 i i2)) h1
      have c3 := jpM_p σ K A p (p + 1)
      have c4 := jsh6_n (T := σ 19) (v := σ 18) h0 K
      have c5 : ∀ i, 0 ≤ i → i ≤ σ 2 6 → 0 ≤ jad K (σ 18) i ∧ jad K (σ 18) i ≤ 7 * i := fun i i0 i1 => jad_b a4 i0 i1
      refine V.iload_n dX3_place_7 rfl ?_
      refine V.if_eq (tgt := 43) dX3_place_8 (by decide) (fun hh => ?_) (fun hh => ?_)
      · exact absurd hh (by decide)
      · refine V.aload_n dX3_place_11 rfl ?_
        refine V.getI fa_X3_34 (by decide) rfl dX3_place_12 (fun _ => ?_)
        refine V.sipush dX3_place_15 ⟨by decide, by decide⟩ ?_
        refine V.icmp_gt (tgt := 43) dX3_place_18 (by decide) (fun hh => ?_) (fun hh => ?_)
        · exact absurd hh (by show ¬ (200 < p); omega)
        · refine V.aload_n dX3_place_21 rfl ?_
          refine V.dup dX3_place_22 rfl ?_
          refine V.getI fa_X3_34 (by decide) rfl dX3_place_23 (fun _ => ?_)
          refine V.iconst dX3_place_26 ⟨by decide, by decide⟩ ?_
          refine V.iadd dX3_place_27 ⟨(by first | omega | (show _ ≤ p + 1; omega) | (show p + 1 ≤ _; omega)), (by first | omega | (show _ ≤ p + 1; omega) | (show p + 1 ≤ _; omega))⟩ ?_
          refine V.putI fa_X3_34 (by decide) rfl dX3_place_28 (Or.inl rfl) ?_
          rw [show jpM σ K A p 2 7 = p from rfl, c3]
          refine V.aload_n dX3_place_31 rfl ?_
          refine V.cV0 [] rfl kc_X3_67 rfl dX3_place_32 (by decide) rfl rfl (sp_X3_findAddresses (σ := jpM σ K A (p + 1)) h0 h1 a4) ?_
          rw [c1]
          refine V.aload_n dX3_place_35 rfl ?_
          have sl := sp_X3_lengthenJumps (σ := jpM σ K (jpA σ K A) (p + 1)) h0 h1 (fun i i0 i1 i2 => by
            have i1 : i < σ 2 6 := i1
            obtain ⟨t0, t1⟩ := hT i i0 i1 (a5 i i2)
            show (-1 ≤ jat (jpM σ K (jpA σ K A) (p + 1)) 20 200 (jat σ 19 200 i) ∧ jat (jpM σ K (jpA σ K A) (p + 1)) 20 200 (jat σ 19 200 i) ≤ 10000) ∧ _
            rw [jat_in (σ := σ) i0 (by omega), jat_in t0 (by omega), jat_in i0 (by omega)]
            show (-1 ≤ jpA σ K A (σ 19 i) ∧ jpA σ K A (σ 19 i) ≤ 10000) ∧ (-1 ≤ jpA σ K A i ∧ jpA σ K A i ≤ 10000)
            unfold jpA
            rw [if_pos ⟨t0, t1⟩, if_pos ⟨i0, i1⟩]
            have z1 := c5 (σ 19 i) t0 (by omega)
            have z2 := c5 i i0 (by omega)
            omega)
          refine V.cV [] rfl kc_X3_70 rfl dX3_place_36 (by decide) rfl rfl sl (fun _ => ?_)
          rw [show jpM σ K (jpA σ K A) (p + 1) 2 6 = σ 2 6 from rfl, c2.1, c2.2]
          refine V.istore_n (L' := [_, _]) dX3_place_39 rfl rfl ?_
          refine V.goto (tgt := 7) dX3_place_40 (by decide) ?_
          unfold jplK jplP at a6
          by_cases e : 0 < jnc (σ 19) (σ 18) (σ 2 6) K
          · rw [if_pos e]
            rw [if_pos e, if_pos e, ← Int.add_assoc] at a6
            exact ih (jnK (σ 19) (σ 18) (σ 2 6) K) (jpA σ K A) (p + 1) (by omega) (by omega) (by omega) (fun i i0 i1 i2 => a4 i i0 i1 (by unfold jnK at i2; split at i2 <;> first | omega | exact i2)) (fun i i2 => a5 i (by unfold jnK at i2; split at i2 <;> first | omega | exact i2)) (by rw [jpA_2]; exact a6)
          · rw [if_neg e]
            rw [if_neg e, if_neg e] at a6
            rw [jnK_id K e]
            refine V.iload_n dX3_place_7 rfl ?_
            refine V.if_eq (tgt := 43) dX3_place_8 (by decide) (fun hh => ?_) (fun hh => absurd rfl hh)
            exact V.vret (jret_v dX3_place_43 rfl) ⟨rfl, a6⟩
  refine V.iconst dX3_place_0 ⟨by decide, by decide⟩ ?_
  refine V.istore_n (L' := [_, _]) dX3_place_1 rfl rfl ?_
  refine V.aload_n dX3_place_2 rfl ?_
  refine V.iconst dX3_place_3 ⟨by decide, by decide⟩ ?_
  refine V.putI fa_X3_34 (by decide) rfl dX3_place_4 (Or.inl rfl) ?_
  have e1 := jsh6_le (K := σ 16) h0
  have := loop 201 (σ 16) (σ 20) 0 (by omega) (by omega) (by omega) (fun i i0 i1 i2 => hs i i0 i1 i2) (fun i q => q) (by rw [Int.zero_add]; rfl)
  rw [jpM_0] at this
  exact this
