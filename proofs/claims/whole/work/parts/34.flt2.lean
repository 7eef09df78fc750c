theorem jF_u (u : UInt32) : jF ((u.toNat : Nat) : Int) = u := by unfold jF; rw [Int.toNat_natCast, UInt32.ofNat_toNat]
theorem jD_u (u : UInt64) : jD ((u.toNat : Nat) : Int) = u := by unfold jD; rw [Int.toNat_natCast, UInt64.ofNat_toNat]
def jFd (a b : Int) : Int := (((FP.fdiv (FP.i2f (jI a)) (FP.i2f (jI b))).toNat : Nat) : Int)
def jDd (a b : Int) : Int := (((FP.ddiv (FP.l2d (jL a)) (FP.i2d (jI b))).toNat : Nat) : Int)
def fgood : FP.Core.Datum → Bool
  | .fin s c _ => !s && c != 0
  | _ => false
theorem fgood_ok {d : FP.Core.Datum} (h : fgood d = true) : ∃ c q, d = .fin false c q ∧ c ≠ 0 := by
  cases d with
  | fin s c q =>
    cases s with
    | true => exact absurd h (by simp [fgood])
    | false => exact ⟨c, q, rfl, by simpa [fgood] using h⟩
  | nan => cases h
  | inf s => cases h
theorem ints32 : (List.range 400).all (fun n => n == 0 || fgood (FP.Core.decode FP.Core.b32 (FP.Core.fromInt FP.Core.b32 n))) = true := by decide +kernel
theorem ints64 : (List.range 1401).all (fun n => n == 0 || fgood (FP.Core.decode FP.Core.b64 (FP.Core.fromInt FP.Core.b64 n))) = true := by decide +kernel
theorem fit_32 {m : Nat} (h : m ≤ (FP.Core.b32.exps - 1) * FP.Core.b32.tails) : (UInt32.ofNat m).toNat = m := by
  have e : (FP.Core.b32.exps - 1) * FP.Core.b32.tails = 0x7f800000 := by decide +kernel
  rw [UInt32.toNat_ofNat']
  exact Nat.mod_eq_of_lt (by omega)
theorem fit_64 {m : Nat} (h : m ≤ (FP.Core.b64.exps - 1) * FP.Core.b64.tails) : (UInt64.ofNat m).toNat = m := by
  have e : (FP.Core.b64.exps - 1) * FP.Core.b64.tails = 0x7ff0000000000000 := by decide +kernel
  rw [UInt64.toNat_ofNat']
  exact Nat.mod_eq_of_lt (by omega)
theorem nn_fdiv {a b : Int} (ha : 0 ≤ a ∧ a ≤ 400) (hb : 0 < b ∧ b < 400) : vf_n32 (FP.fdiv (FP.i2f (jI a)) (FP.i2f (jI b))) := by
  have ea := fe_int jfm32 (i := a) ha.1
  have eb := fe_int jfm32 (i := b) (by omega)
  show vf_n32 (.ofNat (FP.Core.div FP.Core.b32 (UInt32.ofNat (FP.Core.fromInt FP.Core.b32 (jI a).toInt)).toNat (UInt32.ofNat (FP.Core.fromInt FP.Core.b32 (jI b).toInt)).toNat))
  rw [jI_toInt ⟨by omega, by omega⟩, jI_toInt ⟨by omega, by omega⟩, fit_32 ea, fit_32 eb]
  refine fn_32 (fe_quot jfm32 ea (fgood_ok ?_))
  have z := List.all_eq_true.mp ints32 b.toNat (List.mem_range.mpr (by omega))
  rw [show ((b.toNat : Nat) : Int) = b by omega] at z
  simpa [show ¬ b.toNat = 0 by omega] using z
theorem nn_ddiv {a b : Int} (ha : 0 ≤ a ∧ a ≤ 1000000000) (hb : 0 < b ∧ b ≤ 1400) : vf_n64 (FP.ddiv (FP.l2d (jL a)) (FP.i2d (jI b))) := by
  have ea := fe_int jfm64 (i := a) ha.1
  have eb := fe_int jfm64 (i := b) (by omega)
  show vf_n64 (.ofNat (FP.Core.div FP.Core.b64 (UInt64.ofNat (FP.Core.fromInt FP.Core.b64 (jL a).toInt)).toNat (UInt64.ofNat (FP.Core.fromInt FP.Core.b64 (jI b).toInt)).toNat))
  rw [jL_toInt ⟨by omega, by omega⟩, jI_toInt ⟨by omega, by omega⟩, fit_64 ea, fit_64 eb]
  refine fn_64 (fe_quot jfm64 ea (fgood_ok ?_))
  have z := List.all_eq_true.mp ints64 b.toNat (List.mem_range.mpr (by omega))
  rw [show ((b.toNat : Nat) : Int) = b by omega] at z
  simpa [show ¬ b.toNat = 0 by omega] using z
def jcS (σ : JM) : Int := if jcT σ ≠ 0 then jcT σ else if jsum (jju σ 1) (σ 7 16) + jsum (jju σ 0) (σ 7 16) = 0 then 2 else 0
theorem jju_s (σ : JM) (b : Int) (h : 0 ≤ σ 7 16) : 0 ≤ jsum (jju σ b) (σ 7 16) ∧ jsum (jju σ b) (σ 7 16) ≤ 1 * σ 7 16 := jsum_le h (fun i _ _ => jju_b i)
theorem jju_2 {σ : JM} (h : 0 ≤ σ 7 16) : jsum (jju σ 1) (σ 7 16) + jsum (jju σ 0) (σ 7 16) ≤ 1 * σ 7 16 := by
  rw [← jsum_add h]
  exact (jsum_le (g := fun i => jju σ 1 i + jju σ 0 i) (c := 1) h (fun i _ _ => by
    show 0 ≤ (if _ then (1 : Int) else 0) + (if _ then (1 : Int) else 0) ∧ (if _ then (1 : Int) else 0) + (if _ then (1 : Int) else 0) ≤ 1
    by_cases a : σ 44 i = 3 ∧ σ 50 i = 1
    · rw [if_pos a, if_neg (by omega)]; decide
    · rw [if_neg a]; split <;> decide)).2
theorem sp_X7_shortShare {σ : JM} (hn : 0 ≤ σ 7 16 ∧ σ 7 16 ≤ 200) : JSp mX7_shortShare 1 0 [(2, 7)] σ (fun v t => v = some (4, if jcS σ = 0 then jFd (jsum (jju σ 0) (σ 7 16)) (jsum (jju σ 1) (σ 7 16) + jsum (jju σ 0) (σ 7 16)) else 0) ∧ t = jq σ (jcS σ)) jno := by
  have s1 := jju_s σ 1 hn.1
  have s0 := jju_s σ 0 hn.1
  have s2 := jju_2 hn.1
  by_cases hc : jcT σ = 0
  · by_cases ha : jsum (jju σ 1) (σ 7 16) + jsum (jju σ 0) (σ 7 16) = 0
    · have hz : jcS σ = 2 := by unfold jcS; rw [if_neg (by omega), if_pos ha]
      rw [hz, if_neg (by decide)]
      refine JSp.of [(2, 7), (9, 0)] rfl (by decide +kernel) rfl rfl rfl (fun l E hA => ?_)
      refine V.aload_n dX7_shortShare_0 rfl ?_
      refine V.cV [] rfl kc_X7_209 rfl dX7_shortShare_1 (by decide) rfl rfl (sp_X7_isThere) (fun _ => ?_)
      rw [if_pos hc]
      refine V.if_ne (tgt := 9) dX7_shortShare_4 (by decide) (fun h4 => ?_) (fun h4 => ?_)
      · refine V.aload_n dX7_shortShare_9 rfl ?_
        refine V.iconst dX7_shortShare_10 ⟨by decide, by decide⟩ ?_
        refine V.cV [_] rfl kc_X7_215 rfl dX7_shortShare_11 (by decide) rfl rfl (sp_X7_jumps (σ := jq σ (jcT σ)) hn) (fun _ => ?_)
        rw [show jsum (jju (jq σ (jcT σ)) 1) (jq σ (jcT σ) 7 16) = jsum (jju σ 1) (σ 7 16) from rfl]
        refine V.aload_n dX7_shortShare_14 rfl ?_
        refine V.iconst dX7_shortShare_15 ⟨by decide, by decide⟩ ?_
        refine V.cV [_] rfl kc_X7_215 rfl dX7_shortShare_16 (by decide) rfl rfl (sp_X7_jumps (σ := jq σ (jcT σ)) hn) (fun _ => ?_)
        rw [show jsum (jju (jq σ (jcT σ)) 0) (jq σ (jcT σ) 7 16) = jsum (jju σ 0) (σ 7 16) from rfl]
        refine V.iadd dX7_shortShare_19 ⟨(by omega), (by omega)⟩ ?_
        refine V.istore_n (L' := [_, _]) dX7_shortShare_20 rfl rfl ?_
        refine V.iload_n dX7_shortShare_21 rfl ?_
        refine V.if_ne (tgt := 34) dX7_shortShare_22 (by decide) (fun h22 => ?_) (fun h22 => ?_)
        · exact absurd ha h22
        · refine V.aload_n dX7_shortShare_25 rfl ?_
          refine V.iconst dX7_shortShare_26 ⟨by decide, by decide⟩ ?_
          refine V.cV [_] rfl kc_X7_92 rfl dX7_shortShare_27 (by decide) rfl rfl (sp_X7_fails) (fun _ => ?_)
          refine V.i2f dX7_shortShare_30 ?_
          refine V.goto (tgt := 43) dX7_shortShare_31 (by decide) ?_
          exact V.fret ⟨dX7_shortShare_43, rfl⟩ ⟨by rw [show (((FP.i2f (jI 0)).toNat : Nat) : Int) = 0 by decide +kernel], jq_q σ _ 2⟩
      · exfalso; omega
    · have hz : jcS σ = 0 := by unfold jcS; rw [if_neg (by omega), if_neg ha]
      rw [hz, if_pos rfl]
      refine JSp.of [(2, 7), (9, 0)] rfl (by decide +kernel) rfl rfl rfl (fun l E hA => ?_)
      refine V.aload_n dX7_shortShare_0 rfl ?_
      refine V.cV [] rfl kc_X7_209 rfl dX7_shortShare_1 (by decide) rfl rfl (sp_X7_isThere) (fun _ => ?_)
      rw [if_pos hc]
      refine V.if_ne (tgt := 9) dX7_shortShare_4 (by decide) (fun h4 => ?_) (fun h4 => ?_)
      · refine V.aload_n dX7_shortShare_9 rfl ?_
        refine V.iconst dX7_shortShare_10 ⟨by decide, by decide⟩ ?_
        refine V.cV [_] rfl kc_X7_215 rfl dX7_shortShare_11 (by decide) rfl rfl (sp_X7_jumps (σ := jq σ (jcT σ)) hn) (fun _ => ?_)
        rw [show jsum (jju (jq σ (jcT σ)) 1) (jq σ (jcT σ) 7 16) = jsum (jju σ 1) (σ 7 16) from rfl]
        refine V.aload_n dX7_shortShare_14 rfl ?_
        refine V.iconst dX7_shortShare_15 ⟨by decide, by decide⟩ ?_
        refine V.cV [_] rfl kc_X7_215 rfl dX7_shortShare_16 (by decide) rfl rfl (sp_X7_jumps (σ := jq σ (jcT σ)) hn) (fun _ => ?_)
        rw [show jsum (jju (jq σ (jcT σ)) 0) (jq σ (jcT σ) 7 16) = jsum (jju σ 0) (σ 7 16) from rfl]
        refine V.iadd dX7_shortShare_19 ⟨(by omega), (by omega)⟩ ?_
        refine V.istore_n (L' := [_, _]) dX7_shortShare_20 rfl rfl ?_
        refine V.iload_n dX7_shortShare_21 rfl ?_
        refine V.if_ne (tgt := 34) dX7_shortShare_22 (by decide) (fun h22 => ?_) (fun h22 => ?_)
        · refine V.aload_n dX7_shortShare_34 rfl ?_
          refine V.iconst dX7_shortShare_35 ⟨by decide, by decide⟩ ?_
          refine V.cV [_] rfl kc_X7_215 rfl dX7_shortShare_36 (by decide) rfl rfl (sp_X7_jumps (σ := jq σ (jcT σ)) hn) (fun _ => ?_)
          rw [show jsum (jju (jq σ (jcT σ)) 0) (jq σ (jcT σ) 7 16) = jsum (jju σ 0) (σ 7 16) from rfl]
          refine V.i2f dX7_shortShare_39 ?_
          refine V.iload_n dX7_shortShare_40 rfl ?_
          refine V.i2f dX7_shortShare_41 ?_
          refine V.fdiv dX7_shortShare_42 (by rw [jF_u, jF_u]; exact nn_fdiv ⟨s0.1, by omega⟩ ⟨by omega, by omega⟩) ?_
          rw [jF_u, jF_u]
          exact V.fret ⟨dX7_shortShare_43, rfl⟩ ⟨rfl, by rw [hc]⟩
        · exact absurd h22 ha
      · exfalso; omega
  · have hz : jcS σ = jcT σ := by unfold jcS; rw [if_pos hc]
    rw [hz, if_neg hc]
    refine JSp.of [(2, 7), (9, 0)] rfl (by decide +kernel) rfl rfl rfl (fun l E hA => ?_)
    refine V.aload_n dX7_shortShare_0 rfl ?_
    refine V.cV [] rfl kc_X7_209 rfl dX7_shortShare_1 (by decide) rfl rfl (sp_X7_isThere) (fun _ => ?_)
    rw [if_neg hc]
    refine V.if_ne (tgt := 9) dX7_shortShare_4 (by decide) (fun h4 => ?_) (fun h4 => ?_)
    · exact absurd rfl h4
    · refine V.fconst0 dX7_shortShare_7 ?_
      exact V.fret ⟨dX7_shortShare_8, rfl⟩ ⟨by rw [show ((FP.fconst0.toNat : Nat) : Int) = 0 by decide +kernel], rfl⟩
