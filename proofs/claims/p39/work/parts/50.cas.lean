theorem jplK_v (T v : Int → Int) (n : Int) : ∀ (f : Nat) (K : Int → Int) (i : Int), jplK T v n f K i = K i ∨ (K i = 106 ∧ jplK T v n f K i = 74) := by
  intro f
  induction f with
  | zero => intro K i; exact Or.inl rfl
  | succ f ih =>
    intro K i
    have e : jplK T v n (f + 1) K = if 0 < jnc T v n K then jplK T v n f (jnK T v n K) else K := rfl
    rw [e]
    split
    · have z : jnK T v n K i = K i ∨ (K i = 106 ∧ jnK T v n K i = 74) := by
        unfold jnK
        by_cases q : jfr T v n K i
        · rw [if_pos q]; exact Or.inr ⟨q.2.1, rfl⟩
        · rw [if_neg q]; exact Or.inl rfl
      rcases ih (jnK T v n K) i with a | ⟨a, b⟩
      · rw [a]; exact z
      · rw [b]
        rcases z with z | z
        · rw [z] at a; exact Or.inr ⟨a, rfl⟩
        · rw [z.2] at a; exact absurd a (by decide)
    · exact Or.inl rfl
/-- what is true of the walk's items -/
theorem jxi {σ0 ρ : JM} (hw : jwf σ0) (k : jkp σ0 ρ) (j : jit σ0 ρ) {i : Int} (i0 : 0 ≤ i) (i1 : i < ρ 7 16) : (0 ≤ ρ 44 i ∧ ρ 44 i ≤ 5) ∧ (0 ≤ jmV ρ i ∧ jmV ρ i ≤ 20000) ∧ (ρ 44 i = 5 → jmV ρ i ≤ 8) ∧ ρ 50 i = 0 ∧ (0 ≤ ρ 45 i ∧ ρ 45 i ≤ 999) ∧ (0 ≤ ρ 43 i ∧ ρ 43 i < 80) := by
  obtain ⟨a1, a2, a3, a4, a5, a6, a7⟩ := j.2 i i0 i1
  have so := hw.so _ a1.1 a1.2
  have o2 := hw.op2 _ a1.1 a1.2
  have ln := hw.ln
  rw [← k 36 _ (by omega) (by omega) (by omega), ← a2] at o2
  have e : 0 ≤ ρ 44 i ∧ ρ 44 i ≤ 5 := by omega
  refine ⟨e, ?_, fun q => ?_, a7, a4, by omega⟩
  · unfold jmV
    by_cases c : ρ 44 i = 2
    · have := o2 c; rw [if_pos c]; omega
    · rw [if_neg c]; omega
  · have := a5 q
    unfold jmV
    rw [if_neg (by omega)]; omega
theorem jkof_all {s : Int} (h : 0 ≤ s ∧ s ≤ 5) : (s = 0 ∧ jkof s 0 = 108) ∨ (s = 1 ∧ jkof s 0 = 119) ∨ (s = 2 ∧ jkof s 0 = 111) ∨ (s = 3 ∧ jkof s 0 = 106) ∨ (s = 4 ∧ jkof s 0 = 97) ∨ (s = 5 ∧ jkof s 0 = 103) := by
  have := jch_all (s := s) (by omega)
  omega
theorem jfd_in {ρ : JM} {i : Int} (h : jfd ρ i ≠ -1) : 0 ≤ jfd ρ i ∧ jfd ρ i < ρ 7 16 := (jfd_r (σ := ρ) (ρ 45 i) ((ρ 46 i).toNat + 2) (ρ 46 i)).resolve_left h
theorem jx_lok {σ0 ρ t : JM} (hw : jwf σ0) (k : jkp σ0 ρ) (j : jit σ0 ρ) (i : jwi ρ) (h : jxE t ρ) (h9 : t 4 9 = 110) : jsz t ∧ (∀ i, 0 ≤ i → i < t 2 6 → t 16 i = 106 → 0 ≤ t 19 i ∧ t 19 i < t 2 6) ∧ jlok (jPl t 16) (t 18) (t 19) (t 2 6) ∧ jadr (jPl t) := by
  obtain ⟨⟨e1, e2⟩, h2, h3, h4, h5⟩ := h
  have fd : ∀ i, 0 ≤ i → i < ρ 7 16 → jrk (ρ 44 i) → 0 ≤ t 19 i ∧ t 19 i < ρ 7 16 := fun i i0 i1 hk => by
    rw [(h2 i i0 i1).2, if_pos hk]
    refine jfd_in ?_
    rcases h5 with z | ⟨_, -, -, -, z, -⟩
    · exact z.1 i i0 i1 hk
    · omega
  have kk : ∀ i, 0 ≤ i → i < ρ 7 16 → t 16 i = jkof (ρ 44 i) 0 := fun i i0 i1 => (h2 i i0 i1).1.2.1
  have P : jPl t 16 = jplK (t 19) (t 18) (t 2 6) 201 (t 16) := funext fun b => rfl
  refine ⟨fun i i0 i1 q => ?_, fun i i0 i1 q => ?_, ⟨?_, ?_, fun i i0 i1 => ?_⟩, fun i i0 i1 => ?_⟩
  · rw [e1] at i1
    have a := jxi hw k j i0 i1
    have b := jkof_all a.1
    rw [kk i i0 i1] at q
    rw [(h2 i i0 i1).1.2.2.2]; exact a.2.2.1 (by omega)
  · rw [e1] at i1 ⊢
    have a := jxi hw k j i0 i1
    have b := jkof_all a.1
    rw [kk i i0 i1] at q
    exact fd i i0 i1 (by omega)
  · rw [e1]; exact i.1.1
  · rw [e1]; exact i.1.2
  · rw [e1] at i1
    have a := jxi hw k j i0 i1
    have b := jkof_all a.1
    have c := jplK_v (t 19) (t 18) (t 2 6) 201 (t 16) i
    have d := kk i i0 i1
    rw [← P] at c
    rw [(h2 i i0 i1).1.2.2.2]
    refine ⟨fun q => a.2.2.1 (by omega), fun q => ?_, by omega, a.2.1⟩
    rw [e1]
    exact fd i i0 i1 (by omega)
  · show (if 0 ≤ i ∧ i < t 2 6 then jad (jplK (t 19) (t 18) (t 2 6) 201 (t 16)) (t 18) i else t 20 i) = jad (jPl t 16) (t 18) i
    rw [if_pos ⟨i0, i1⟩, P]
/-- what the class's assemble answers and leaves -/
def jcA (σ : JM) (v : Option JV) (w : JM) : Prop := ∃ t, jxR σ t ∧ ((t 4 9 ≠ 110 ∧ v = some (0, -1) ∧ w = t) ∨ (t 4 9 = 110 ∧ v = some (0, w 5 2) ∧ jWb (jPl t) w (jFN (jPl t 16) (t 18) (t 19) (t 2 6).toNat) (jGN (jPl t 16) (t 18) (t 2 6).toNat) (jad (jPl t 16) (t 18) (t 2 6))))
theorem jxR_E {σ t : JM} (h : jxR σ t) (h9 : t 4 9 = 110) : junf σ = -1 ∧ (jvW σ).1 = 1 ∧ jxE t (jvW σ).2 := by
  rcases h.2 with ⟨-, z, -⟩ | ⟨-, -, z⟩ | z
  · rw [h9] at z; exact absurd z (by decide)
  · exact absurd h9 z.2.2.2.1
  · exact z
theorem sp_X6_assemble {σ : JM} (h9 : 0 ≤ σ 1 9 ∧ σ 1 9 ≤ 80) (h8 : 0 ≤ σ 1 8 ∧ σ 1 8 ≤ 8) (hg : junf σ = -1 → (jSC σ ∧ jwf σ) ∧ jar0 σ) : JSp mX6_assemble 7 0 [(2, 0)] σ (jcA σ) jno := by
  refine JSp.of [(2, 0)] rfl (by decide +kernel) rfl rfl rfl (fun l E hA => ?_)
  refine V.aload_n dX6_assemble_0 rfl ?_
  refine V.getR fa_X6_37 rfl dX6_assemble_1 ?_
  refine V.callV [] rfl kc_X6_101 rfl dX6_assemble_4 (d' := 6) (by decide) (Nat.zero_le _) rfl (fun _ _ => sp_X1_expandProgram h9 h8 hg) rfl (fun v t hq hv => ?_) (fun X σ' hx => hx.elim)
  obtain ⟨rfl, hr⟩ := hq
  refine V.aload_n dX6_assemble_7 rfl ?_
  refine V.getR fa_X6_37 rfl dX6_assemble_8 ?_
  refine V.cV [] rfl kc_X6_104 rfl dX6_assemble_11 (by decide) rfl rfl (sp_X1_faultKind) (fun _ => ?_)
  refine V.bipush dX6_assemble_14 ⟨by decide, by decide⟩ ?_
  refine V.icmp_eq (tgt := 21) dX6_assemble_16 (by decide) (fun h16 => ?_) (fun h16 => ?_)
  · have hE := jxR_E hr h16
    have hh := hg hE.1
    have vo := jvW_o hh.1.2
    have lk := jx_lok hh.1.2 vo.1.1 vo.2 vo.1.2.1 hE.2.2 h16
    have i6 := vo.1.2.1.1
    have e26 := hE.2.2.1.1
    refine V.aload_n dX6_assemble_21 rfl ?_
    refine V.getR fa_X6_19 rfl dX6_assemble_22 ?_
    refine V.cV0 [] rfl kc_X6_107 rfl dX6_assemble_25 (by decide) rfl rfl (sp_X3_place (by omega) (by omega) lk.1 lk.2.1) ?_
    refine V.aload_n dX6_assemble_28 rfl ?_
    refine V.getR fa_X6_44 rfl dX6_assemble_29 ?_
    refine V.aload_n dX6_assemble_32 rfl ?_
    refine V.getR fa_X6_19 rfl dX6_assemble_33 ?_
    refine V.callV [_] rfl kc_X6_110 rfl dX6_assemble_36 (d' := 5) (by decide) (Nat.zero_le _) rfl (fun _ _ => sp_X2_write (σ := jPl t) lk.2.2.1 lk.2.2.2) rfl (fun v w hq hv => ?_) (fun X σ' hx => hx.elim)
    obtain ⟨rfl, hw⟩ := hq
    refine V.aload_n dX6_assemble_39 rfl ?_
    refine V.getR fa_X6_44 rfl dX6_assemble_40 ?_
    refine V.cV [] rfl kc_X6_113 rfl dX6_assemble_43 (by decide) rfl rfl (sp_X2_size) (fun _ => ?_)
    exact V.iret (jret_i dX6_assemble_46 rfl) ⟨t, hr, Or.inr ⟨h16, rfl, hw⟩⟩
  · refine V.iconst dX6_assemble_19 ⟨by decide, by decide⟩ ?_
    exact V.iret (jret_i dX6_assemble_20 rfl) ⟨t, hr, Or.inl ⟨h16, rfl, rfl⟩⟩
